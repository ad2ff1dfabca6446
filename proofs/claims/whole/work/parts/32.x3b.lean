/-! ===== the reference: eviction, ghosts, misses ===== -/
set_option maxHeartbeats 4000000 in
set_option maxRecDepth 100000 in
theorem c_X3_evicts (l : Launch) (D : va_G) (cy : ClassId) (a : Nat) (t : Nat → Int32) (st : ki_St) (hm : m_rep t st) (asked : Int32) (hpw : p_W st) (g : Nat) (hg : st.2 5 = nI g) (hg2 : g ≤ 64) (h2 : ¬ c_evR st (if asked = 4 then 1 else 0) → ¬ st.1 2 = []) : ki_V l yX3_evicts wsX3_evicts ({ frames := 2, cells := 0, slots := 0, locals := 45 }) 0 0 D [(cy, .int)] [.ref a, .int asked] [(a, .inl (cy, 366, .inl t))] (S := Nat → Int32) (fun t1 => m_rep t1 (c_evict st (if asked = 4 then 1 else 0))) (fun t1 => [(a, .inl (cy, 366, .inl t1))]) := by
  refine ki_ofV (cc := cX3_evicts) (maxL := 3) (ret := none) (by decide +kernel) rfl (Nat.le_of_ble_eq_true rfl) ?_
  intro p e s m args below meth c A ls hin hx hb hr hts hown hlk hml hK hE hP hD hA hS hl
  have hown : s.vm.findClass RX3 = some m.cls := hown
  have hl : lv_has ls 3 [(0, .ref a), (1, .int asked)] := hl
  refine lv_aload_n hx hb dX3_evicts_0 rfl (lv_at hl 0 rfl) ?_
  refine lv_iload_n hx hb dX3_evicts_1 rfl (lv_at hl 1 rfl) ?_
  refine ki_cSR (As := [.ref a, .int asked]) (rest := []) ⟨hx, hb, hml, hown, hts⟩ (c_X3_evictedFrom l D cy a t st hm asked) (va_cwS 2 hts gX3_evicts_X3_evictedFrom rfl rfl rfl (by decide +kernel) ⟨Nat.le_of_ble_eq_true rfl, Nat.le_of_ble_eq_true rfl⟩) hK hE hP [0] rfl [0] rfl rfl hl.1 rfl (Nat.le_of_ble_eq_true rfl) dX3_evicts_2 ⟨Nat.le_of_ble_eq_true rfl, Nat.le_of_ble_eq_true rfl⟩ ?_
  by_cases hev : c_evR st (if asked = 4 then 1 else 0)
  · rw [if_pos hev]
    have hlen := hpw.2.2
    have hpos : 0 < (st.1 1).length := by rcases (p_evR hg hg2 hpw).mp hev with q9 | q9 <;> omega
    have hhead := m_head hpw (i := 1) (by decide) (by decide) hpos
    refine lv_istore_n (lv' := [(2, .int 1), (0, .ref a), (1, .int asked)]) hx hb dX3_evicts_5 rfl hl (by decide) rfl (fun ls hl => ?_)
    refine lv_aload_n hx hb dX3_evicts_6 rfl (lv_at hl 1 rfl) ?_
    refine lv_iload_n hx hb dX3_evicts_7 rfl (lv_at hl 0 rfl) ?_
    refine lv_iconst (v := 2) hx hb dX3_evicts_8 (by decide) ?_
    refine lv_iadd hx hb dX3_evicts_9 ?_
    rw [show (1 + 2 : Int32) = 3 from (by decide)]
    refine lv_aload_n hx hb dX3_evicts_10 rfl (lv_at hl 1 rfl) ?_
    refine lv_iload_n hx hb dX3_evicts_11 rfl (lv_at hl 0 rfl) ?_
    refine lv_iconst (v := 0) hx hb dX3_evicts_12 (by decide) ?_
    refine ki_cSI (As := [.ref a, .int 1, .int 0]) (rest := [.int 3, .ref a]) (wr := []) ⟨hx, hb, hml, hown, hts⟩ (c_X3_leaves l D cy a t st hm 1 (by omega) (by omega) 0 hpos) (va_cwS 3 hts gX3_evicts_X3_leaves rfl rfl rfl (by decide +kernel) ⟨Nat.le_of_ble_eq_true rfl, Nat.le_of_ble_eq_true rfl⟩) hK hE hP hD hS hA [0] rfl [0] [] rfl rfl rfl rfl (by decide) rfl hl.1 rfl (Nat.le_of_ble_eq_true rfl) dX3_evicts_13 ⟨Nat.le_of_ble_eq_true rfl, Nat.le_of_ble_eq_true rfl⟩ [0] (fun t_1 => [(a, .inl (cy, 366, .inl t_1))]) (fun _ => rfl) rfl (fun r_4 t_1 H locs hw hP hD hS => ?_)
    have hw9 := hw
    obtain ⟨er_4, hw9⟩ := hw9
    subst er_4
    have hw9 : m_rep t_1 (va_up st.1 1 (k_gap (st.1 1) 0), st.2) := hw9
    obtain ⟨st_3, est_3⟩ : ∃ z : ki_St, z = (va_up st.1 1 (k_gap (st.1 1) 0), st.2) := ⟨_, rfl⟩
    rw [← est_3] at hw9
    have hm_2 := hw9
    have hP : va_P D vwCl [(a, .inl (cy, 366, .inl t_1))] H := hP
    have hD : va_D A [(a, .inl (cy, 366, .inl t_1))] := hD
    refine ki_cSV (As := [.ref a, .int 3, .int (k_at (st.1 1) 0)]) (rest := []) (wr := []) ⟨hx, hb, hml, hown, hts⟩ (c_X3_joins l D cy a t_1 st_3 hm_2 3 (by omega) (by omega) (k_at (st.1 1) 0) hhead (by rw [est_3]; show (st.1 3).length < 64; omega)) (va_cwS 3 hts gX3_evicts_X3_joins rfl rfl rfl (by decide +kernel) ⟨Nat.le_of_ble_eq_true rfl, Nat.le_of_ble_eq_true rfl⟩) hK hE hP hD hS hA [0] rfl [0] [] rfl rfl rfl rfl (by decide) rfl hl.1 rfl (Nat.le_of_ble_eq_true rfl) dX3_evicts_16 ⟨Nat.le_of_ble_eq_true rfl, Nat.le_of_ble_eq_true rfl⟩ [0] (fun t_5 => [(a, .inl (cy, 366, .inl t_5))]) (fun _ => rfl) rfl (fun t_5 H locs hw hP hD hS => ?_)
    have hw9 := hw
    have hw9 : m_rep t_5 (va_up st_3.1 3 (k_join (st_3.1 3) (k_at (st.1 1) 0)), st_3.2) := hw9
    obtain ⟨st_7, est_7⟩ : ∃ z : ki_St, z = (va_up st_3.1 3 (k_join (st_3.1 3) (k_at (st.1 1) 0)), st_3.2) := ⟨_, rfl⟩
    rw [← est_7] at hw9
    have hm_6 := hw9
    have hP : va_P D vwCl [(a, .inl (cy, 366, .inl t_5))] H := hP
    have hD : va_D A [(a, .inl (cy, 366, .inl t_5))] := hD
    refine lv_aload_n hx hb dX3_evicts_19 rfl (lv_at hl 1 rfl) ?_
    refine lv_bipush (v := 10) hx hb dX3_evicts_20 (by decide) ?_
    refine lv_dup2_11 hx hb dX3_evicts_22 rfl rfl ?_
    refine va_iald hx hb hK hP 0 0 rfl rfl (vp_in_nI (n := 10) (by decide) (by decide)) dX3_evicts_23 ?_
    rw [show (t_5 (Int32.toNatClampNeg 10) : Int32) = st_7.2 10 from hm_6.2 10 (by decide) (by decide)]
    refine lv_iconst (v := 1) hx hb dX3_evicts_24 (by decide) ?_
    refine lv_iadd hx hb dX3_evicts_25 ?_
    refine va_iast hx hb hK hP hD hS 0 0 rfl rfl (vp_in_nI (n := 10) (by decide) (by decide)) dX3_evicts_26 (fun H locs hP hD hS => ?_)
    obtain ⟨t_9, et_9⟩ : ∃ z : Nat → Int32, z = upd t_5 (Int32.toNatClampNeg 10) ((st_7.2 10) + 1) := ⟨_, rfl⟩
    rw [← et_9] at hP hD
    have hm_10 : m_rep t_9 (st_7.1, va_up st_7.2 10 ((st_7.2 10) + 1)) := by rw [et_9]; exact m_z (i := 10) hm_6 (by decide) (by decide)
    have hP : va_P D vwCl [(a, .inl (cy, 366, .inl t_9))] H := hP
    have hD : va_D A [(a, .inl (cy, 366, .inl t_9))] := hD
    have e9 : c_evict st (if asked = 4 then 1 else 0) = (st_7.1, (va_up st_7.2 10 ((st_7.2 10) + 1))) := by subst est_7; subst est_3; exact if_pos hev
    exact ki_vret hx hb hr hlk hK hS t_9 (by rw [e9]; exact hm_10) hP hD dX3_evicts_27
  · rw [if_neg hev]
    have hlen := hpw.2.2
    have hpos : 0 < (st.1 2).length := List.length_pos_iff.mpr (h2 hev)
    have hhead := m_head hpw (i := 2) (by decide) (by decide) hpos
    refine lv_istore_n (lv' := [(2, .int 2), (0, .ref a), (1, .int asked)]) hx hb dX3_evicts_5 rfl hl (by decide) rfl (fun ls hl => ?_)
    refine lv_aload_n hx hb dX3_evicts_6 rfl (lv_at hl 1 rfl) ?_
    refine lv_iload_n hx hb dX3_evicts_7 rfl (lv_at hl 0 rfl) ?_
    refine lv_iconst (v := 2) hx hb dX3_evicts_8 (by decide) ?_
    refine lv_iadd hx hb dX3_evicts_9 ?_
    rw [show (2 + 2 : Int32) = 4 from (by decide)]
    refine lv_aload_n hx hb dX3_evicts_10 rfl (lv_at hl 1 rfl) ?_
    refine lv_iload_n hx hb dX3_evicts_11 rfl (lv_at hl 0 rfl) ?_
    refine lv_iconst (v := 0) hx hb dX3_evicts_12 (by decide) ?_
    refine ki_cSI (As := [.ref a, .int 2, .int 0]) (rest := [.int 4, .ref a]) (wr := []) ⟨hx, hb, hml, hown, hts⟩ (c_X3_leaves l D cy a t st hm 2 (by omega) (by omega) 0 hpos) (va_cwS 3 hts gX3_evicts_X3_leaves rfl rfl rfl (by decide +kernel) ⟨Nat.le_of_ble_eq_true rfl, Nat.le_of_ble_eq_true rfl⟩) hK hE hP hD hS hA [0] rfl [0] [] rfl rfl rfl rfl (by decide) rfl hl.1 rfl (Nat.le_of_ble_eq_true rfl) dX3_evicts_13 ⟨Nat.le_of_ble_eq_true rfl, Nat.le_of_ble_eq_true rfl⟩ [0] (fun t_11 => [(a, .inl (cy, 366, .inl t_11))]) (fun _ => rfl) rfl (fun r_14 t_11 H locs hw hP hD hS => ?_)
    have hw9 := hw
    obtain ⟨er_14, hw9⟩ := hw9
    subst er_14
    have hw9 : m_rep t_11 (va_up st.1 2 (k_gap (st.1 2) 0), st.2) := hw9
    obtain ⟨st_13, est_13⟩ : ∃ z : ki_St, z = (va_up st.1 2 (k_gap (st.1 2) 0), st.2) := ⟨_, rfl⟩
    rw [← est_13] at hw9
    have hm_12 := hw9
    have hP : va_P D vwCl [(a, .inl (cy, 366, .inl t_11))] H := hP
    have hD : va_D A [(a, .inl (cy, 366, .inl t_11))] := hD
    refine ki_cSV (As := [.ref a, .int 4, .int (k_at (st.1 2) 0)]) (rest := []) (wr := []) ⟨hx, hb, hml, hown, hts⟩ (c_X3_joins l D cy a t_11 st_13 hm_12 4 (by omega) (by omega) (k_at (st.1 2) 0) hhead (by rw [est_13]; show (st.1 4).length < 64; omega)) (va_cwS 3 hts gX3_evicts_X3_joins rfl rfl rfl (by decide +kernel) ⟨Nat.le_of_ble_eq_true rfl, Nat.le_of_ble_eq_true rfl⟩) hK hE hP hD hS hA [0] rfl [0] [] rfl rfl rfl rfl (by decide) rfl hl.1 rfl (Nat.le_of_ble_eq_true rfl) dX3_evicts_16 ⟨Nat.le_of_ble_eq_true rfl, Nat.le_of_ble_eq_true rfl⟩ [0] (fun t_15 => [(a, .inl (cy, 366, .inl t_15))]) (fun _ => rfl) rfl (fun t_15 H locs hw hP hD hS => ?_)
    have hw9 := hw
    have hw9 : m_rep t_15 (va_up st_13.1 4 (k_join (st_13.1 4) (k_at (st.1 2) 0)), st_13.2) := hw9
    obtain ⟨st_17, est_17⟩ : ∃ z : ki_St, z = (va_up st_13.1 4 (k_join (st_13.1 4) (k_at (st.1 2) 0)), st_13.2) := ⟨_, rfl⟩
    rw [← est_17] at hw9
    have hm_16 := hw9
    have hP : va_P D vwCl [(a, .inl (cy, 366, .inl t_15))] H := hP
    have hD : va_D A [(a, .inl (cy, 366, .inl t_15))] := hD
    refine lv_aload_n hx hb dX3_evicts_19 rfl (lv_at hl 1 rfl) ?_
    refine lv_bipush (v := 10) hx hb dX3_evicts_20 (by decide) ?_
    refine lv_dup2_11 hx hb dX3_evicts_22 rfl rfl ?_
    refine va_iald hx hb hK hP 0 0 rfl rfl (vp_in_nI (n := 10) (by decide) (by decide)) dX3_evicts_23 ?_
    rw [show (t_15 (Int32.toNatClampNeg 10) : Int32) = st_17.2 10 from hm_16.2 10 (by decide) (by decide)]
    refine lv_iconst (v := 1) hx hb dX3_evicts_24 (by decide) ?_
    refine lv_iadd hx hb dX3_evicts_25 ?_
    refine va_iast hx hb hK hP hD hS 0 0 rfl rfl (vp_in_nI (n := 10) (by decide) (by decide)) dX3_evicts_26 (fun H locs hP hD hS => ?_)
    obtain ⟨t_19, et_19⟩ : ∃ z : Nat → Int32, z = upd t_15 (Int32.toNatClampNeg 10) ((st_17.2 10) + 1) := ⟨_, rfl⟩
    rw [← et_19] at hP hD
    have hm_20 : m_rep t_19 (st_17.1, va_up st_17.2 10 ((st_17.2 10) + 1)) := by rw [et_19]; exact m_z (i := 10) hm_16 (by decide) (by decide)
    have hP : va_P D vwCl [(a, .inl (cy, 366, .inl t_19))] H := hP
    have hD : va_D A [(a, .inl (cy, 366, .inl t_19))] := hD
    have e9 : c_evict st (if asked = 4 then 1 else 0) = (st_17.1, (va_up st_17.2 10 ((st_17.2 10) + 1))) := by subst est_17; subst est_13; exact if_neg hev
    exact ki_vret hx hb hr hlk hK hS t_19 (by rw [e9]; exact hm_20) hP hD dX3_evicts_27
set_option maxHeartbeats 4000000 in
set_option maxRecDepth 100000 in
theorem c_X3_evictsIfFull (l : Launch) (D : va_G) (cy : ClassId) (a : Nat) (t : Nat → Int32) (st : ki_St) (hm : m_rep t st) (asked : Int32) (hpw : p_W st) (k g : Nat) (hk : st.2 6 = nI k) (hk2 : k ≤ 64) (hg : st.2 5 = nI g) (hg2 : g ≤ 64) (hp : (st.1 1).length + (st.1 2).length ≤ k) (h2 : (st.1 1).length + (st.1 2).length = k → ¬ c_evR st (if asked = 4 then 1 else 0) → ¬ st.1 2 = []) : ki_V l yX3_evictsIfFull wsX3_evictsIfFull ({ frames := 3, cells := 0, slots := 0, locals := 67 }) 0 0 D [(cy, .int)] [.ref a, .int asked] [(a, .inl (cy, 366, .inl t))] (S := Nat → Int32) (fun t1 => m_rep t1 (c_room st (if asked = 4 then 1 else 0))) (fun t1 => [(a, .inl (cy, 366, .inl t1))]) := by
  refine ki_ofV (cc := cX3_evictsIfFull) (maxL := 2) (ret := none) (by decide +kernel) rfl (Nat.le_of_ble_eq_true rfl) ?_
  intro p e s m args below meth c A ls hin hx hb hr hts hown hlk hml hK hE hP hD hA hS hl
  have hown : s.vm.findClass RX3 = some m.cls := hown
  have hl : lv_has ls 2 [(0, .ref a), (1, .int asked)] := hl
  refine lv_aload_n hx hb dX3_evictsIfFull_0 rfl (lv_at hl 0 rfl) ?_
  refine ki_cSR (As := [.ref a]) (rest := []) ⟨hx, hb, hml, hown, hts⟩ (c_X3_isFull l D cy a t st hm) (va_cwS 1 hts gX3_evictsIfFull_X3_isFull rfl rfl rfl (by decide +kernel) ⟨Nat.le_of_ble_eq_true rfl, Nat.le_of_ble_eq_true rfl⟩) hK hE hP [0] rfl [0] rfl rfl hl.1 rfl (Nat.le_of_ble_eq_true rfl) dX3_evictsIfFull_1 ⟨Nat.le_of_ble_eq_true rfl, Nat.le_of_ble_eq_true rfl⟩ ?_
  refine lv_if_eq (tgt := 12) hx hb dX3_evictsIfFull_4 (by decide) (fun c_1 => ?_) (fun c_1 => ?_)
  · skip
    have c_1 : ¬ (¬ c_pages st < st.2 6) := ki_b0.mp c_1
    have e9 : c_room st (if asked = 4 then 1 else 0) = st := by exact if_neg (m_nfull (Decidable.not_not.mp c_1))
    exact ki_vret hx hb hr hlk hK hS t (by rw [e9]; exact hm) hP hD dX3_evictsIfFull_12
  · skip
    have c_1 : ¬ c_pages st < st.2 6 := ki_b1.mp c_1
    have hf := m_full hpw hk hk2 hp c_1
    refine lv_aload_n hx hb dX3_evictsIfFull_7 rfl (lv_at hl 0 rfl) ?_
    refine lv_iload_n hx hb dX3_evictsIfFull_8 rfl (lv_at hl 1 rfl) ?_
    refine ki_cSV (As := [.ref a, .int asked]) (rest := []) (wr := []) ⟨hx, hb, hml, hown, hts⟩ (c_X3_evicts l D cy a t st hm asked hpw g hg hg2 (h2 hf)) (va_cwS 2 hts gX3_evictsIfFull_X3_evicts rfl rfl rfl (by decide +kernel) ⟨Nat.le_of_ble_eq_true rfl, Nat.le_of_ble_eq_true rfl⟩) hK hE hP hD hS hA [0] rfl [0] [] rfl rfl rfl rfl (by decide) rfl hl.1 rfl (Nat.le_of_ble_eq_true rfl) dX3_evictsIfFull_9 ⟨Nat.le_of_ble_eq_true rfl, Nat.le_of_ble_eq_true rfl⟩ [0] (fun t_2 => [(a, .inl (cy, 366, .inl t_2))]) (fun _ => rfl) rfl (fun t_2 H locs hw hP hD hS => ?_)
    have hw9 := hw
    have hw9 : m_rep t_2 (c_evict st (if (asked : Int32) = 4 then 1 else 0)) := hw9
    obtain ⟨st_4, est_4⟩ : ∃ z : ki_St, z = c_evict st (if (asked : Int32) = 4 then 1 else 0) := ⟨_, rfl⟩
    rw [← est_4] at hw9
    have hm_3 := hw9
    have hP : va_P D vwCl [(a, .inl (cy, 366, .inl t_2))] H := hP
    have hD : va_D A [(a, .inl (cy, 366, .inl t_2))] := hD
    have e9 : c_room st (if asked = 4 then 1 else 0) = st_4 := by subst est_4; exact if_pos ((p_full hk hk2 hpw).mpr hf)
    exact ki_vret hx hb hr hlk hK hS t_2 (by rw [e9]; exact hm_3) hP hD dX3_evictsIfFull_12
set_option maxHeartbeats 4000000 in
set_option maxRecDepth 100000 in
theorem c_X3_ghost (l : Launch) (D : va_G) (cy : ClassId) (a : Nat) (t : Nat → Int32) (st : ki_St) (hm : m_rep t st) (i : Nat) (hi : i = 3 ∨ i = 4) (key : Int32) (hpw : p_W st) (k g : Nat) (hk : st.2 6 = nI k) (hk1 : 1 ≤ k) (hk2 : k ≤ 32) (hg : st.2 5 = nI g) (hg2 : g ≤ k) (h6 : (st.1 1).length + (st.1 2).length ≤ k) (h7 : (st.1 1).length + (st.1 3).length ≤ k) (hmem : key ∈ st.1 i) : ki_V l yX3_ghost wsX3_ghost ({ frames := 4, cells := 0, slots := 0, locals := 88 }) 0 0 D [(cy, .int)] [.ref a, .int key, .int (nI i)] [(a, .inl (cy, 366, .inl t))] (S := Nat → Int32) (fun t1 => m_rep t1 (c_join2 (c_from (c_room (c_adapt st (nI i)) (if nI i = 4 then 1 else 0)) (nI i) key) key)) (fun t1 => [(a, .inl (cy, 366, .inl t1))]) := by
  refine ki_ofV (cc := cX3_ghost) (maxL := 5) (ret := none) (by decide +kernel) rfl (Nat.le_of_ble_eq_true rfl) ?_
  intro p e s m args below meth c A ls hin hx hb hr hts hown hlk hml hK hE hP hD hA hS hl
  have hown : s.vm.findClass RX3 = some m.cls := hown
  have hl : lv_has ls 5 [(0, .ref a), (1, .int key), (2, .int (nI i))] := hl
  have hlen := hpw.2.2
  rcases hi with rfl | rfl
  · skip
    have hl : lv_has ls 5 [(0, .ref a), (1, .int key), (2, .int 3)] := hl
    have hpos : 0 < (st.1 3).length := List.length_pos_of_mem hmem
    refine lv_aload_n hx hb dX3_ghost_0 rfl (lv_at hl 0 rfl) ?_
    refine lv_iconst (v := 5) hx hb dX3_ghost_1 (by decide) ?_
    refine va_iald hx hb hK hP 0 0 rfl rfl (vp_in_nI (n := 5) (by decide) (by decide)) dX3_ghost_2 ?_
    rw [show (t (Int32.toNatClampNeg 5) : Int32) = st.2 5 from hm.2 5 (by decide) (by decide)]
    refine lv_aload_n hx hb dX3_ghost_3 rfl (lv_at hl 0 rfl) ?_
    refine lv_iconst (v := 4) hx hb dX3_ghost_4 (by decide) ?_
    refine va_iald hx hb hK hP 0 0 rfl rfl (vp_in_nI (n := 4) (by decide) (by decide)) dX3_ghost_5 ?_
    rw [show (t (Int32.toNatClampNeg 4) : Int32) = nI (st.1 4).length from m_l hm (i := 4) (by decide) (by decide)]
    refine lv_aload_n hx hb dX3_ghost_6 rfl (lv_at hl 0 rfl) ?_
    refine lv_iconst (v := 3) hx hb dX3_ghost_7 (by decide) ?_
    refine va_iald hx hb hK hP 0 0 rfl rfl (vp_in_nI (n := 3) (by decide) (by decide)) dX3_ghost_8 ?_
    rw [show (t (Int32.toNatClampNeg 3) : Int32) = nI (st.1 3).length from m_l hm (i := 3) (by decide) (by decide)]
    refine lv_if_le (tgt := 18) hx hb dX3_ghost_9 (by decide) (fun c_1 => ?_) (fun c_1 => ?_)
    · skip
      exact absurd (m_npos (n := (st.1 3).length) (by omega) c_1) (by omega)
    · skip
      have hp3 : 0 < (st.1 3).length := m_pos (by omega) c_1
      refine lv_aload_n hx hb dX3_ghost_12 rfl (lv_at hl 0 rfl) ?_
      refine lv_iconst (v := 3) hx hb dX3_ghost_13 (by decide) ?_
      refine va_iald hx hb hK hP 0 0 rfl rfl (vp_in_nI (n := 3) (by decide) (by decide)) dX3_ghost_14 ?_
      rw [show (t (Int32.toNatClampNeg 3) : Int32) = nI (st.1 3).length from m_l hm (i := 3) (by decide) (by decide)]
      refine lv_goto (tgt := 19) hx hb dX3_ghost_15 (by decide) ?_
      refine ki_cSR (As := [.int (nI (st.1 4).length), .int (nI (st.1 3).length)]) (rest := [.int (st.2 5)]) ⟨hx, hb, hml, hown, hts⟩ (c_X3_step l D ((st.1 4).length) ((st.1 3).length) (by omega) (by omega)) (va_cwS 2 hts gX3_ghost_X3_step rfl rfl rfl (by decide +kernel) ⟨Nat.le_of_ble_eq_true rfl, Nat.le_of_ble_eq_true rfl⟩) hK hE hP [] rfl [] rfl rfl hl.1 rfl (Nat.le_of_ble_eq_true rfl) dX3_ghost_19 ⟨Nat.le_of_ble_eq_true rfl, Nat.le_of_ble_eq_true rfl⟩ ?_
      refine lv_iadd hx hb dX3_ghost_22 ?_
      refine lv_istore_n (lv' := [(3, .int ((st.2 5) + (c_step (nI (st.1 4).length) (nI (st.1 3).length)))), (0, .ref a), (1, .int key), (2, .int 3)]) hx hb dX3_ghost_23 rfl hl (by decide) rfl (fun ls hl => ?_)
      refine lv_aload_n hx hb dX3_ghost_24 rfl (lv_at hl 1 rfl) ?_
      refine lv_iconst (v := 5) hx hb dX3_ghost_25 (by decide) ?_
      refine va_iald hx hb hK hP 0 0 rfl rfl (vp_in_nI (n := 5) (by decide) (by decide)) dX3_ghost_26 ?_
      rw [show (t (Int32.toNatClampNeg 5) : Int32) = st.2 5 from hm.2 5 (by decide) (by decide)]
      refine lv_aload_n hx hb dX3_ghost_27 rfl (lv_at hl 1 rfl) ?_
      refine lv_iconst (v := 3) hx hb dX3_ghost_28 (by decide) ?_
      refine va_iald hx hb hK hP 0 0 rfl rfl (vp_in_nI (n := 3) (by decide) (by decide)) dX3_ghost_29 ?_
      rw [show (t (Int32.toNatClampNeg 3) : Int32) = nI (st.1 3).length from m_l hm (i := 3) (by decide) (by decide)]
      refine lv_aload_n hx hb dX3_ghost_30 rfl (lv_at hl 1 rfl) ?_
      refine lv_iconst (v := 4) hx hb dX3_ghost_31 (by decide) ?_
      refine va_iald hx hb hK hP 0 0 rfl rfl (vp_in_nI (n := 4) (by decide) (by decide)) dX3_ghost_32 ?_
      rw [show (t (Int32.toNatClampNeg 4) : Int32) = nI (st.1 4).length from m_l hm (i := 4) (by decide) (by decide)]
      refine lv_if_le (tgt := 42) hx hb dX3_ghost_33 (by decide) (fun c_2 => ?_) (fun c_2 => ?_)
      · skip
        refine lv_iconst (v := 1) hx hb dX3_ghost_42 (by decide) ?_
        refine ki_cSR (As := [.int (nI (st.1 3).length), .int 1]) (rest := [.int (st.2 5)]) ⟨hx, hb, hml, hown, hts⟩ (c_X3_step l D ((st.1 3).length) 1 (by omega) (by omega)) (va_cwS 2 hts gX3_ghost_X3_step rfl rfl rfl (by decide +kernel) ⟨Nat.le_of_ble_eq_true rfl, Nat.le_of_ble_eq_true rfl⟩) hK hE hP [] rfl [] rfl rfl hl.1 rfl (Nat.le_of_ble_eq_true rfl) dX3_ghost_43 ⟨Nat.le_of_ble_eq_true rfl, Nat.le_of_ble_eq_true rfl⟩ ?_
        refine lv_isub hx hb dX3_ghost_46 ?_
        refine lv_istore (lv' := [(4, .int ((st.2 5) - (c_step (nI (st.1 3).length) 1))), (3, .int ((st.2 5) + (c_step (nI (st.1 4).length) (nI (st.1 3).length)))), (0, .ref a), (1, .int key), (2, .int 3)]) hx hb dX3_ghost_47 hl (by decide) rfl (fun ls hl => ?_)
        refine lv_iload_n hx hb dX3_ghost_49 rfl (lv_at hl 4 rfl) ?_
        refine lv_iconst (v := 3) hx hb dX3_ghost_50 (by decide) ?_
        refine lv_icmp_ne (tgt := 76) hx hb dX3_ghost_51 (by decide) (fun c_3 => ?_) (fun c_3 => ?_)
        · exact absurd (by decide) c_3
        · skip
          refine lv_aload_n hx hb dX3_ghost_54 rfl (lv_at hl 2 rfl) ?_
          refine lv_iconst (v := 5) hx hb dX3_ghost_55 (by decide) ?_
          refine lv_iload_n hx hb dX3_ghost_56 rfl (lv_at hl 1 rfl) ?_
          refine lv_aload_n hx hb dX3_ghost_57 rfl (lv_at hl 2 rfl) ?_
          refine lv_bipush (v := 6) hx hb dX3_ghost_58 (by decide) ?_
          refine va_iald hx hb hK hP 0 0 rfl rfl (vp_in_nI (n := 6) (by decide) (by decide)) dX3_ghost_60 ?_
          rw [show (t (Int32.toNatClampNeg 6) : Int32) = st.2 6 from hm.2 6 (by decide) (by decide)]
          refine lv_icmp_le (tgt := 71) hx hb dX3_ghost_61 (by decide) (fun c_4 => ?_) (fun c_4 => ?_)
          · skip
            refine lv_iload_n hx hb dX3_ghost_71 rfl (lv_at hl 1 rfl) ?_
            refine va_iast hx hb hK hP hD hS 0 0 rfl rfl (vp_in_nI (n := 5) (by decide) (by decide)) dX3_ghost_72 (fun H locs hP hD hS => ?_)
            obtain ⟨t_5, et_5⟩ : ∃ z : Nat → Int32, z = upd t (Int32.toNatClampNeg 5) ((st.2 5) + (c_step (nI (st.1 4).length) (nI (st.1 3).length))) := ⟨_, rfl⟩
            rw [← et_5] at hP hD
            have hm_6 : m_rep t_5 (st.1, va_up st.2 5 ((st.2 5) + (c_step (nI (st.1 4).length) (nI (st.1 3).length)))) := by rw [et_5]; exact m_z (i := 5) hm (by decide) (by decide)
            have hP : va_P D vwCl [(a, .inl (cy, 366, .inl t_5))] H := hP
            have hD : va_D A [(a, .inl (cy, 366, .inl t_5))] := hD
            refine lv_goto (tgt := 90) hx hb dX3_ghost_73 (by decide) ?_
            obtain ⟨g', eA, hg', hwA, hneA⟩ := p_ghost0 (b := (if (3 : Int32) = 4 then 1 else 0)) hpw hk hk1 hk2 hg hg2 h6 h7 (Or.inl ⟨rfl, rfl⟩) hmem
            have eX : (st.1, (va_up st.2 5 ((st.2 5) + (c_step (nI (st.1 4).length) (nI (st.1 3).length))))) = (st.1, va_up st.2 5 (nI g')) := by rw [← eA]; unfold c_adapt; rw [if_pos (show nI 3 = 3 from rfl), m_min_t c_4]
            have hm_7 := hm_6
            rw [eX] at hm_7
            refine lv_aload_n hx hb dX3_ghost_90 rfl (lv_at hl 2 rfl) ?_
            refine lv_iload_n hx hb dX3_ghost_91 rfl (lv_at hl 4 rfl) ?_
            refine ki_cSV (As := [.ref a, .int 3]) (rest := []) (wr := []) ⟨hx, hb, hml, hown, hts⟩ (c_X3_evictsIfFull l D cy a t_5 (st.1, (va_up st.2 5 (nI g'))) hm_7 3 hwA k g' hk (by omega) rfl (by omega) h6 hneA) (va_cwS 2 hts gX3_ghost_X3_evictsIfFull rfl rfl rfl (by decide +kernel) ⟨Nat.le_of_ble_eq_true rfl, Nat.le_of_ble_eq_true rfl⟩) hK hE hP hD hS hA [0] rfl [0] [] rfl rfl rfl rfl (by decide) rfl hl.1 rfl (Nat.le_of_ble_eq_true rfl) dX3_ghost_92 ⟨Nat.le_of_ble_eq_true rfl, Nat.le_of_ble_eq_true rfl⟩ [0] (fun t_8 => [(a, .inl (cy, 366, .inl t_8))]) (fun _ => rfl) rfl (fun t_8 H locs hw hP hD hS => ?_)
            have hw9 := hw
            have hw9 : m_rep t_8 (c_room (st.1, (va_up st.2 5 (nI g'))) (if (3 : Int32) = 4 then 1 else 0)) := hw9
            obtain ⟨st_10, est_10⟩ : ∃ z : ki_St, z = c_room (st.1, (va_up st.2 5 (nI g'))) (if (3 : Int32) = 4 then 1 else 0) := ⟨_, rfl⟩
            rw [← est_10] at hw9
            have hm_9 := hw9
            have hP : va_P D vwCl [(a, .inl (cy, 366, .inl t_8))] H := hP
            have hD : va_D A [(a, .inl (cy, 366, .inl t_8))] := hD
            have hR := p_room (b := (if (3 : Int32) = 4 then 1 else 0)) (k := k) (g := g') hwA hk hk1 hk2 rfl (by omega) h6 hneA
            rw [← est_10] at hR
            have hmemX : key ∈ st_10.1 3 := hR.2.2.2.2.2.2.1 key hmem
            refine lv_aload_n hx hb dX3_ghost_95 rfl (lv_at hl 2 rfl) ?_
            refine lv_iload_n hx hb dX3_ghost_96 rfl (lv_at hl 4 rfl) ?_
            refine lv_aload_n hx hb dX3_ghost_97 rfl (lv_at hl 2 rfl) ?_
            refine lv_iload_n hx hb dX3_ghost_98 rfl (lv_at hl 4 rfl) ?_
            refine lv_iload_n hx hb dX3_ghost_99 rfl (lv_at hl 3 rfl) ?_
            refine ki_cSR (As := [.ref a, .int 3, .int key]) (rest := [.int 3, .ref a]) ⟨hx, hb, hml, hown, hts⟩ (c_X3_placeIn l D cy a t_8 st_10 hm_9 3 (by omega) (by omega) (p_nodup hR.1 (by decide) (by decide)) key) (va_cwS 3 hts gX3_ghost_X3_placeIn rfl rfl rfl (by decide +kernel) ⟨Nat.le_of_ble_eq_true rfl, Nat.le_of_ble_eq_true rfl⟩) hK hE hP [0] rfl [0] rfl rfl hl.1 rfl (Nat.le_of_ble_eq_true rfl) dX3_ghost_100 ⟨Nat.le_of_ble_eq_true rfl, Nat.le_of_ble_eq_true rfl⟩ ?_
            obtain ⟨p9, hp9, ep9, -⟩ := m_idx_p hmemX
            rw [ep9]
            refine ki_cSI (As := [.ref a, .int 3, .int (nI p9)]) (rest := []) (wr := []) ⟨hx, hb, hml, hown, hts⟩ (c_X3_leaves l D cy a t_8 st_10 hm_9 3 (by omega) (by omega) p9 hp9) (va_cwS 3 hts gX3_ghost_X3_leaves rfl rfl rfl (by decide +kernel) ⟨Nat.le_of_ble_eq_true rfl, Nat.le_of_ble_eq_true rfl⟩) hK hE hP hD hS hA [0] rfl [0] [] rfl rfl rfl rfl (by decide) rfl hl.1 rfl (Nat.le_of_ble_eq_true rfl) dX3_ghost_103 ⟨Nat.le_of_ble_eq_true rfl, Nat.le_of_ble_eq_true rfl⟩ [0] (fun t_12 => [(a, .inl (cy, 366, .inl t_12))]) (fun _ => rfl) rfl (fun r_15 t_12 H locs hw hP hD hS => ?_)
            have hw9 := hw
            obtain ⟨er_15, hw9⟩ := hw9
            subst er_15
            have hw9 : m_rep t_12 (va_up st_10.1 3 (k_gap (st_10.1 3) (nI p9)), st_10.2) := hw9
            obtain ⟨st_14, est_14⟩ : ∃ z : ki_St, z = (va_up st_10.1 3 (k_gap (st_10.1 3) (nI p9)), st_10.2) := ⟨_, rfl⟩
            rw [← est_14] at hw9
            have hm_13 := hw9
            have hP : va_P D vwCl [(a, .inl (cy, 366, .inl t_12))] H := hP
            have hD : va_D A [(a, .inl (cy, 366, .inl t_12))] := hD
            have hFr := p_from (w := nI 3) hR.1 (by decide) (by decide) rfl hmemX
            have hF : st_14 = c_from st_10 (nI 3) key := by rw [est_14, ← ep9]; exact hFr.1.symm
            have hk0 : ¬ key = -1 := p_ne1 hR.1 (by decide) (by decide) hmemX
            have hl2 : (st_14.1 2).length < 64 := by rw [hF, hFr.2.2.2.2 2 (by decide)]; have q9 := hR.1.2.2; have q8 := List.length_pos_of_mem hmemX; omega
            refine lv_pop hx hb dX3_ghost_106 rfl ?_
            refine lv_aload_n hx hb dX3_ghost_107 rfl (lv_at hl 2 rfl) ?_
            refine lv_iconst (v := 2) hx hb dX3_ghost_108 (by decide) ?_
            refine lv_iload_n hx hb dX3_ghost_109 rfl (lv_at hl 3 rfl) ?_
            refine ki_cSV (As := [.ref a, .int 2, .int key]) (rest := []) (wr := []) ⟨hx, hb, hml, hown, hts⟩ (c_X3_joins l D cy a t_12 st_14 hm_13 2 (by omega) (by omega) key hk0 hl2) (va_cwS 3 hts gX3_ghost_X3_joins rfl rfl rfl (by decide +kernel) ⟨Nat.le_of_ble_eq_true rfl, Nat.le_of_ble_eq_true rfl⟩) hK hE hP hD hS hA [0] rfl [0] [] rfl rfl rfl rfl (by decide) rfl hl.1 rfl (Nat.le_of_ble_eq_true rfl) dX3_ghost_110 ⟨Nat.le_of_ble_eq_true rfl, Nat.le_of_ble_eq_true rfl⟩ [0] (fun t_16 => [(a, .inl (cy, 366, .inl t_16))]) (fun _ => rfl) rfl (fun t_16 H locs hw hP hD hS => ?_)
            have hw9 := hw
            have hw9 : m_rep t_16 (va_up st_14.1 2 (k_join (st_14.1 2) key), st_14.2) := hw9
            obtain ⟨st_18, est_18⟩ : ∃ z : ki_St, z = (va_up st_14.1 2 (k_join (st_14.1 2) key), st_14.2) := ⟨_, rfl⟩
            rw [← est_18] at hw9
            have hm_17 := hw9
            have hP : va_P D vwCl [(a, .inl (cy, 366, .inl t_16))] H := hP
            have hD : va_D A [(a, .inl (cy, 366, .inl t_16))] := hD
            have e9 : c_join2 (c_from (c_room (c_adapt st (nI 3)) (if nI 3 = 4 then 1 else 0)) (nI 3) key) key = st_18 := by rw [est_18, hF, est_10, eA]; rfl
            exact ki_vret hx hb hr hlk hK hS t_16 (by rw [e9]; exact hm_17) hP hD dX3_ghost_113
          · skip
            refine lv_aload_n hx hb dX3_ghost_64 rfl (lv_at hl 2 rfl) ?_
            refine lv_bipush (v := 6) hx hb dX3_ghost_65 (by decide) ?_
            refine va_iald hx hb hK hP 0 0 rfl rfl (vp_in_nI (n := 6) (by decide) (by decide)) dX3_ghost_67 ?_
            rw [show (t (Int32.toNatClampNeg 6) : Int32) = st.2 6 from hm.2 6 (by decide) (by decide)]
            refine lv_goto (tgt := 72) hx hb dX3_ghost_68 (by decide) ?_
            refine va_iast hx hb hK hP hD hS 0 0 rfl rfl (vp_in_nI (n := 5) (by decide) (by decide)) dX3_ghost_72 (fun H locs hP hD hS => ?_)
            obtain ⟨t_20, et_20⟩ : ∃ z : Nat → Int32, z = upd t (Int32.toNatClampNeg 5) (st.2 6) := ⟨_, rfl⟩
            rw [← et_20] at hP hD
            have hm_21 : m_rep t_20 (st.1, va_up st.2 5 (st.2 6)) := by rw [et_20]; exact m_z (i := 5) hm (by decide) (by decide)
            have hP : va_P D vwCl [(a, .inl (cy, 366, .inl t_20))] H := hP
            have hD : va_D A [(a, .inl (cy, 366, .inl t_20))] := hD
            refine lv_goto (tgt := 90) hx hb dX3_ghost_73 (by decide) ?_
            obtain ⟨g', eA, hg', hwA, hneA⟩ := p_ghost0 (b := (if (3 : Int32) = 4 then 1 else 0)) hpw hk hk1 hk2 hg hg2 h6 h7 (Or.inl ⟨rfl, rfl⟩) hmem
            have eX : (st.1, (va_up st.2 5 (st.2 6))) = (st.1, va_up st.2 5 (nI g')) := by rw [← eA]; unfold c_adapt; rw [if_pos (show nI 3 = 3 from rfl), m_min_f c_4]
            have hm_22 := hm_21
            rw [eX] at hm_22
            refine lv_aload_n hx hb dX3_ghost_90 rfl (lv_at hl 2 rfl) ?_
            refine lv_iload_n hx hb dX3_ghost_91 rfl (lv_at hl 4 rfl) ?_
            refine ki_cSV (As := [.ref a, .int 3]) (rest := []) (wr := []) ⟨hx, hb, hml, hown, hts⟩ (c_X3_evictsIfFull l D cy a t_20 (st.1, (va_up st.2 5 (nI g'))) hm_22 3 hwA k g' hk (by omega) rfl (by omega) h6 hneA) (va_cwS 2 hts gX3_ghost_X3_evictsIfFull rfl rfl rfl (by decide +kernel) ⟨Nat.le_of_ble_eq_true rfl, Nat.le_of_ble_eq_true rfl⟩) hK hE hP hD hS hA [0] rfl [0] [] rfl rfl rfl rfl (by decide) rfl hl.1 rfl (Nat.le_of_ble_eq_true rfl) dX3_ghost_92 ⟨Nat.le_of_ble_eq_true rfl, Nat.le_of_ble_eq_true rfl⟩ [0] (fun t_23 => [(a, .inl (cy, 366, .inl t_23))]) (fun _ => rfl) rfl (fun t_23 H locs hw hP hD hS => ?_)
            have hw9 := hw
            have hw9 : m_rep t_23 (c_room (st.1, (va_up st.2 5 (nI g'))) (if (3 : Int32) = 4 then 1 else 0)) := hw9
            obtain ⟨st_25, est_25⟩ : ∃ z : ki_St, z = c_room (st.1, (va_up st.2 5 (nI g'))) (if (3 : Int32) = 4 then 1 else 0) := ⟨_, rfl⟩
            rw [← est_25] at hw9
            have hm_24 := hw9
            have hP : va_P D vwCl [(a, .inl (cy, 366, .inl t_23))] H := hP
            have hD : va_D A [(a, .inl (cy, 366, .inl t_23))] := hD
            have hR := p_room (b := (if (3 : Int32) = 4 then 1 else 0)) (k := k) (g := g') hwA hk hk1 hk2 rfl (by omega) h6 hneA
            rw [← est_25] at hR
            have hmemX : key ∈ st_25.1 3 := hR.2.2.2.2.2.2.1 key hmem
            refine lv_aload_n hx hb dX3_ghost_95 rfl (lv_at hl 2 rfl) ?_
            refine lv_iload_n hx hb dX3_ghost_96 rfl (lv_at hl 4 rfl) ?_
            refine lv_aload_n hx hb dX3_ghost_97 rfl (lv_at hl 2 rfl) ?_
            refine lv_iload_n hx hb dX3_ghost_98 rfl (lv_at hl 4 rfl) ?_
            refine lv_iload_n hx hb dX3_ghost_99 rfl (lv_at hl 3 rfl) ?_
            refine ki_cSR (As := [.ref a, .int 3, .int key]) (rest := [.int 3, .ref a]) ⟨hx, hb, hml, hown, hts⟩ (c_X3_placeIn l D cy a t_23 st_25 hm_24 3 (by omega) (by omega) (p_nodup hR.1 (by decide) (by decide)) key) (va_cwS 3 hts gX3_ghost_X3_placeIn rfl rfl rfl (by decide +kernel) ⟨Nat.le_of_ble_eq_true rfl, Nat.le_of_ble_eq_true rfl⟩) hK hE hP [0] rfl [0] rfl rfl hl.1 rfl (Nat.le_of_ble_eq_true rfl) dX3_ghost_100 ⟨Nat.le_of_ble_eq_true rfl, Nat.le_of_ble_eq_true rfl⟩ ?_
            obtain ⟨p9, hp9, ep9, -⟩ := m_idx_p hmemX
            rw [ep9]
            refine ki_cSI (As := [.ref a, .int 3, .int (nI p9)]) (rest := []) (wr := []) ⟨hx, hb, hml, hown, hts⟩ (c_X3_leaves l D cy a t_23 st_25 hm_24 3 (by omega) (by omega) p9 hp9) (va_cwS 3 hts gX3_ghost_X3_leaves rfl rfl rfl (by decide +kernel) ⟨Nat.le_of_ble_eq_true rfl, Nat.le_of_ble_eq_true rfl⟩) hK hE hP hD hS hA [0] rfl [0] [] rfl rfl rfl rfl (by decide) rfl hl.1 rfl (Nat.le_of_ble_eq_true rfl) dX3_ghost_103 ⟨Nat.le_of_ble_eq_true rfl, Nat.le_of_ble_eq_true rfl⟩ [0] (fun t_27 => [(a, .inl (cy, 366, .inl t_27))]) (fun _ => rfl) rfl (fun r_30 t_27 H locs hw hP hD hS => ?_)
            have hw9 := hw
            obtain ⟨er_30, hw9⟩ := hw9
            subst er_30
            have hw9 : m_rep t_27 (va_up st_25.1 3 (k_gap (st_25.1 3) (nI p9)), st_25.2) := hw9
            obtain ⟨st_29, est_29⟩ : ∃ z : ki_St, z = (va_up st_25.1 3 (k_gap (st_25.1 3) (nI p9)), st_25.2) := ⟨_, rfl⟩
            rw [← est_29] at hw9
            have hm_28 := hw9
            have hP : va_P D vwCl [(a, .inl (cy, 366, .inl t_27))] H := hP
            have hD : va_D A [(a, .inl (cy, 366, .inl t_27))] := hD
            have hFr := p_from (w := nI 3) hR.1 (by decide) (by decide) rfl hmemX
            have hF : st_29 = c_from st_25 (nI 3) key := by rw [est_29, ← ep9]; exact hFr.1.symm
            have hk0 : ¬ key = -1 := p_ne1 hR.1 (by decide) (by decide) hmemX
            have hl2 : (st_29.1 2).length < 64 := by rw [hF, hFr.2.2.2.2 2 (by decide)]; have q9 := hR.1.2.2; have q8 := List.length_pos_of_mem hmemX; omega
            refine lv_pop hx hb dX3_ghost_106 rfl ?_
            refine lv_aload_n hx hb dX3_ghost_107 rfl (lv_at hl 2 rfl) ?_
            refine lv_iconst (v := 2) hx hb dX3_ghost_108 (by decide) ?_
            refine lv_iload_n hx hb dX3_ghost_109 rfl (lv_at hl 3 rfl) ?_
            refine ki_cSV (As := [.ref a, .int 2, .int key]) (rest := []) (wr := []) ⟨hx, hb, hml, hown, hts⟩ (c_X3_joins l D cy a t_27 st_29 hm_28 2 (by omega) (by omega) key hk0 hl2) (va_cwS 3 hts gX3_ghost_X3_joins rfl rfl rfl (by decide +kernel) ⟨Nat.le_of_ble_eq_true rfl, Nat.le_of_ble_eq_true rfl⟩) hK hE hP hD hS hA [0] rfl [0] [] rfl rfl rfl rfl (by decide) rfl hl.1 rfl (Nat.le_of_ble_eq_true rfl) dX3_ghost_110 ⟨Nat.le_of_ble_eq_true rfl, Nat.le_of_ble_eq_true rfl⟩ [0] (fun t_31 => [(a, .inl (cy, 366, .inl t_31))]) (fun _ => rfl) rfl (fun t_31 H locs hw hP hD hS => ?_)
            have hw9 := hw
            have hw9 : m_rep t_31 (va_up st_29.1 2 (k_join (st_29.1 2) key), st_29.2) := hw9
            obtain ⟨st_33, est_33⟩ : ∃ z : ki_St, z = (va_up st_29.1 2 (k_join (st_29.1 2) key), st_29.2) := ⟨_, rfl⟩
            rw [← est_33] at hw9
            have hm_32 := hw9
            have hP : va_P D vwCl [(a, .inl (cy, 366, .inl t_31))] H := hP
            have hD : va_D A [(a, .inl (cy, 366, .inl t_31))] := hD
            have e9 : c_join2 (c_from (c_room (c_adapt st (nI 3)) (if nI 3 = 4 then 1 else 0)) (nI 3) key) key = st_33 := by rw [est_33, hF, est_25, eA]; rfl
            exact ki_vret hx hb hr hlk hK hS t_31 (by rw [e9]; exact hm_32) hP hD dX3_ghost_113
      · skip
        have hp4 : 0 < (st.1 4).length := m_pos (by omega) c_2
        refine lv_aload_n hx hb dX3_ghost_36 rfl (lv_at hl 1 rfl) ?_
        refine lv_iconst (v := 4) hx hb dX3_ghost_37 (by decide) ?_
        refine va_iald hx hb hK hP 0 0 rfl rfl (vp_in_nI (n := 4) (by decide) (by decide)) dX3_ghost_38 ?_
        rw [show (t (Int32.toNatClampNeg 4) : Int32) = nI (st.1 4).length from m_l hm (i := 4) (by decide) (by decide)]
        refine lv_goto (tgt := 43) hx hb dX3_ghost_39 (by decide) ?_
        refine ki_cSR (As := [.int (nI (st.1 3).length), .int (nI (st.1 4).length)]) (rest := [.int (st.2 5)]) ⟨hx, hb, hml, hown, hts⟩ (c_X3_step l D ((st.1 3).length) ((st.1 4).length) (by omega) (by omega)) (va_cwS 2 hts gX3_ghost_X3_step rfl rfl rfl (by decide +kernel) ⟨Nat.le_of_ble_eq_true rfl, Nat.le_of_ble_eq_true rfl⟩) hK hE hP [] rfl [] rfl rfl hl.1 rfl (Nat.le_of_ble_eq_true rfl) dX3_ghost_43 ⟨Nat.le_of_ble_eq_true rfl, Nat.le_of_ble_eq_true rfl⟩ ?_
        refine lv_isub hx hb dX3_ghost_46 ?_
        refine lv_istore (lv' := [(4, .int ((st.2 5) - (c_step (nI (st.1 3).length) (nI (st.1 4).length)))), (3, .int ((st.2 5) + (c_step (nI (st.1 4).length) (nI (st.1 3).length)))), (0, .ref a), (1, .int key), (2, .int 3)]) hx hb dX3_ghost_47 hl (by decide) rfl (fun ls hl => ?_)
        refine lv_iload_n hx hb dX3_ghost_49 rfl (lv_at hl 4 rfl) ?_
        refine lv_iconst (v := 3) hx hb dX3_ghost_50 (by decide) ?_
        refine lv_icmp_ne (tgt := 76) hx hb dX3_ghost_51 (by decide) (fun c_35 => ?_) (fun c_35 => ?_)
        · exact absurd (by decide) c_35
        · skip
          refine lv_aload_n hx hb dX3_ghost_54 rfl (lv_at hl 2 rfl) ?_
          refine lv_iconst (v := 5) hx hb dX3_ghost_55 (by decide) ?_
          refine lv_iload_n hx hb dX3_ghost_56 rfl (lv_at hl 1 rfl) ?_
          refine lv_aload_n hx hb dX3_ghost_57 rfl (lv_at hl 2 rfl) ?_
          refine lv_bipush (v := 6) hx hb dX3_ghost_58 (by decide) ?_
          refine va_iald hx hb hK hP 0 0 rfl rfl (vp_in_nI (n := 6) (by decide) (by decide)) dX3_ghost_60 ?_
          rw [show (t (Int32.toNatClampNeg 6) : Int32) = st.2 6 from hm.2 6 (by decide) (by decide)]
          refine lv_icmp_le (tgt := 71) hx hb dX3_ghost_61 (by decide) (fun c_36 => ?_) (fun c_36 => ?_)
          · skip
            refine lv_iload_n hx hb dX3_ghost_71 rfl (lv_at hl 1 rfl) ?_
            refine va_iast hx hb hK hP hD hS 0 0 rfl rfl (vp_in_nI (n := 5) (by decide) (by decide)) dX3_ghost_72 (fun H locs hP hD hS => ?_)
            obtain ⟨t_37, et_37⟩ : ∃ z : Nat → Int32, z = upd t (Int32.toNatClampNeg 5) ((st.2 5) + (c_step (nI (st.1 4).length) (nI (st.1 3).length))) := ⟨_, rfl⟩
            rw [← et_37] at hP hD
            have hm_38 : m_rep t_37 (st.1, va_up st.2 5 ((st.2 5) + (c_step (nI (st.1 4).length) (nI (st.1 3).length)))) := by rw [et_37]; exact m_z (i := 5) hm (by decide) (by decide)
            have hP : va_P D vwCl [(a, .inl (cy, 366, .inl t_37))] H := hP
            have hD : va_D A [(a, .inl (cy, 366, .inl t_37))] := hD
            refine lv_goto (tgt := 90) hx hb dX3_ghost_73 (by decide) ?_
            obtain ⟨g', eA, hg', hwA, hneA⟩ := p_ghost0 (b := (if (3 : Int32) = 4 then 1 else 0)) hpw hk hk1 hk2 hg hg2 h6 h7 (Or.inl ⟨rfl, rfl⟩) hmem
            have eX : (st.1, (va_up st.2 5 ((st.2 5) + (c_step (nI (st.1 4).length) (nI (st.1 3).length))))) = (st.1, va_up st.2 5 (nI g')) := by rw [← eA]; unfold c_adapt; rw [if_pos (show nI 3 = 3 from rfl), m_min_t c_36]
            have hm_39 := hm_38
            rw [eX] at hm_39
            refine lv_aload_n hx hb dX3_ghost_90 rfl (lv_at hl 2 rfl) ?_
            refine lv_iload_n hx hb dX3_ghost_91 rfl (lv_at hl 4 rfl) ?_
            refine ki_cSV (As := [.ref a, .int 3]) (rest := []) (wr := []) ⟨hx, hb, hml, hown, hts⟩ (c_X3_evictsIfFull l D cy a t_37 (st.1, (va_up st.2 5 (nI g'))) hm_39 3 hwA k g' hk (by omega) rfl (by omega) h6 hneA) (va_cwS 2 hts gX3_ghost_X3_evictsIfFull rfl rfl rfl (by decide +kernel) ⟨Nat.le_of_ble_eq_true rfl, Nat.le_of_ble_eq_true rfl⟩) hK hE hP hD hS hA [0] rfl [0] [] rfl rfl rfl rfl (by decide) rfl hl.1 rfl (Nat.le_of_ble_eq_true rfl) dX3_ghost_92 ⟨Nat.le_of_ble_eq_true rfl, Nat.le_of_ble_eq_true rfl⟩ [0] (fun t_40 => [(a, .inl (cy, 366, .inl t_40))]) (fun _ => rfl) rfl (fun t_40 H locs hw hP hD hS => ?_)
            have hw9 := hw
            have hw9 : m_rep t_40 (c_room (st.1, (va_up st.2 5 (nI g'))) (if (3 : Int32) = 4 then 1 else 0)) := hw9
            obtain ⟨st_42, est_42⟩ : ∃ z : ki_St, z = c_room (st.1, (va_up st.2 5 (nI g'))) (if (3 : Int32) = 4 then 1 else 0) := ⟨_, rfl⟩
            rw [← est_42] at hw9
            have hm_41 := hw9
            have hP : va_P D vwCl [(a, .inl (cy, 366, .inl t_40))] H := hP
            have hD : va_D A [(a, .inl (cy, 366, .inl t_40))] := hD
            have hR := p_room (b := (if (3 : Int32) = 4 then 1 else 0)) (k := k) (g := g') hwA hk hk1 hk2 rfl (by omega) h6 hneA
            rw [← est_42] at hR
            have hmemX : key ∈ st_42.1 3 := hR.2.2.2.2.2.2.1 key hmem
            refine lv_aload_n hx hb dX3_ghost_95 rfl (lv_at hl 2 rfl) ?_
            refine lv_iload_n hx hb dX3_ghost_96 rfl (lv_at hl 4 rfl) ?_
            refine lv_aload_n hx hb dX3_ghost_97 rfl (lv_at hl 2 rfl) ?_
            refine lv_iload_n hx hb dX3_ghost_98 rfl (lv_at hl 4 rfl) ?_
            refine lv_iload_n hx hb dX3_ghost_99 rfl (lv_at hl 3 rfl) ?_
            refine ki_cSR (As := [.ref a, .int 3, .int key]) (rest := [.int 3, .ref a]) ⟨hx, hb, hml, hown, hts⟩ (c_X3_placeIn l D cy a t_40 st_42 hm_41 3 (by omega) (by omega) (p_nodup hR.1 (by decide) (by decide)) key) (va_cwS 3 hts gX3_ghost_X3_placeIn rfl rfl rfl (by decide +kernel) ⟨Nat.le_of_ble_eq_true rfl, Nat.le_of_ble_eq_true rfl⟩) hK hE hP [0] rfl [0] rfl rfl hl.1 rfl (Nat.le_of_ble_eq_true rfl) dX3_ghost_100 ⟨Nat.le_of_ble_eq_true rfl, Nat.le_of_ble_eq_true rfl⟩ ?_
            obtain ⟨p9, hp9, ep9, -⟩ := m_idx_p hmemX
            rw [ep9]
            refine ki_cSI (As := [.ref a, .int 3, .int (nI p9)]) (rest := []) (wr := []) ⟨hx, hb, hml, hown, hts⟩ (c_X3_leaves l D cy a t_40 st_42 hm_41 3 (by omega) (by omega) p9 hp9) (va_cwS 3 hts gX3_ghost_X3_leaves rfl rfl rfl (by decide +kernel) ⟨Nat.le_of_ble_eq_true rfl, Nat.le_of_ble_eq_true rfl⟩) hK hE hP hD hS hA [0] rfl [0] [] rfl rfl rfl rfl (by decide) rfl hl.1 rfl (Nat.le_of_ble_eq_true rfl) dX3_ghost_103 ⟨Nat.le_of_ble_eq_true rfl, Nat.le_of_ble_eq_true rfl⟩ [0] (fun t_44 => [(a, .inl (cy, 366, .inl t_44))]) (fun _ => rfl) rfl (fun r_47 t_44 H locs hw hP hD hS => ?_)
            have hw9 := hw
            obtain ⟨er_47, hw9⟩ := hw9
            subst er_47
            have hw9 : m_rep t_44 (va_up st_42.1 3 (k_gap (st_42.1 3) (nI p9)), st_42.2) := hw9
            obtain ⟨st_46, est_46⟩ : ∃ z : ki_St, z = (va_up st_42.1 3 (k_gap (st_42.1 3) (nI p9)), st_42.2) := ⟨_, rfl⟩
            rw [← est_46] at hw9
            have hm_45 := hw9
            have hP : va_P D vwCl [(a, .inl (cy, 366, .inl t_44))] H := hP
            have hD : va_D A [(a, .inl (cy, 366, .inl t_44))] := hD
            have hFr := p_from (w := nI 3) hR.1 (by decide) (by decide) rfl hmemX
            have hF : st_46 = c_from st_42 (nI 3) key := by rw [est_46, ← ep9]; exact hFr.1.symm
            have hk0 : ¬ key = -1 := p_ne1 hR.1 (by decide) (by decide) hmemX
            have hl2 : (st_46.1 2).length < 64 := by rw [hF, hFr.2.2.2.2 2 (by decide)]; have q9 := hR.1.2.2; have q8 := List.length_pos_of_mem hmemX; omega
            refine lv_pop hx hb dX3_ghost_106 rfl ?_
            refine lv_aload_n hx hb dX3_ghost_107 rfl (lv_at hl 2 rfl) ?_
            refine lv_iconst (v := 2) hx hb dX3_ghost_108 (by decide) ?_
            refine lv_iload_n hx hb dX3_ghost_109 rfl (lv_at hl 3 rfl) ?_
            refine ki_cSV (As := [.ref a, .int 2, .int key]) (rest := []) (wr := []) ⟨hx, hb, hml, hown, hts⟩ (c_X3_joins l D cy a t_44 st_46 hm_45 2 (by omega) (by omega) key hk0 hl2) (va_cwS 3 hts gX3_ghost_X3_joins rfl rfl rfl (by decide +kernel) ⟨Nat.le_of_ble_eq_true rfl, Nat.le_of_ble_eq_true rfl⟩) hK hE hP hD hS hA [0] rfl [0] [] rfl rfl rfl rfl (by decide) rfl hl.1 rfl (Nat.le_of_ble_eq_true rfl) dX3_ghost_110 ⟨Nat.le_of_ble_eq_true rfl, Nat.le_of_ble_eq_true rfl⟩ [0] (fun t_48 => [(a, .inl (cy, 366, .inl t_48))]) (fun _ => rfl) rfl (fun t_48 H locs hw hP hD hS => ?_)
            have hw9 := hw
            have hw9 : m_rep t_48 (va_up st_46.1 2 (k_join (st_46.1 2) key), st_46.2) := hw9
            obtain ⟨st_50, est_50⟩ : ∃ z : ki_St, z = (va_up st_46.1 2 (k_join (st_46.1 2) key), st_46.2) := ⟨_, rfl⟩
            rw [← est_50] at hw9
            have hm_49 := hw9
            have hP : va_P D vwCl [(a, .inl (cy, 366, .inl t_48))] H := hP
            have hD : va_D A [(a, .inl (cy, 366, .inl t_48))] := hD
            have e9 : c_join2 (c_from (c_room (c_adapt st (nI 3)) (if nI 3 = 4 then 1 else 0)) (nI 3) key) key = st_50 := by rw [est_50, hF, est_42, eA]; rfl
            exact ki_vret hx hb hr hlk hK hS t_48 (by rw [e9]; exact hm_49) hP hD dX3_ghost_113
          · skip
            refine lv_aload_n hx hb dX3_ghost_64 rfl (lv_at hl 2 rfl) ?_
            refine lv_bipush (v := 6) hx hb dX3_ghost_65 (by decide) ?_
            refine va_iald hx hb hK hP 0 0 rfl rfl (vp_in_nI (n := 6) (by decide) (by decide)) dX3_ghost_67 ?_
            rw [show (t (Int32.toNatClampNeg 6) : Int32) = st.2 6 from hm.2 6 (by decide) (by decide)]
            refine lv_goto (tgt := 72) hx hb dX3_ghost_68 (by decide) ?_
            refine va_iast hx hb hK hP hD hS 0 0 rfl rfl (vp_in_nI (n := 5) (by decide) (by decide)) dX3_ghost_72 (fun H locs hP hD hS => ?_)
            obtain ⟨t_52, et_52⟩ : ∃ z : Nat → Int32, z = upd t (Int32.toNatClampNeg 5) (st.2 6) := ⟨_, rfl⟩
            rw [← et_52] at hP hD
            have hm_53 : m_rep t_52 (st.1, va_up st.2 5 (st.2 6)) := by rw [et_52]; exact m_z (i := 5) hm (by decide) (by decide)
            have hP : va_P D vwCl [(a, .inl (cy, 366, .inl t_52))] H := hP
            have hD : va_D A [(a, .inl (cy, 366, .inl t_52))] := hD
            refine lv_goto (tgt := 90) hx hb dX3_ghost_73 (by decide) ?_
            obtain ⟨g', eA, hg', hwA, hneA⟩ := p_ghost0 (b := (if (3 : Int32) = 4 then 1 else 0)) hpw hk hk1 hk2 hg hg2 h6 h7 (Or.inl ⟨rfl, rfl⟩) hmem
            have eX : (st.1, (va_up st.2 5 (st.2 6))) = (st.1, va_up st.2 5 (nI g')) := by rw [← eA]; unfold c_adapt; rw [if_pos (show nI 3 = 3 from rfl), m_min_f c_36]
            have hm_54 := hm_53
            rw [eX] at hm_54
            refine lv_aload_n hx hb dX3_ghost_90 rfl (lv_at hl 2 rfl) ?_
            refine lv_iload_n hx hb dX3_ghost_91 rfl (lv_at hl 4 rfl) ?_
            refine ki_cSV (As := [.ref a, .int 3]) (rest := []) (wr := []) ⟨hx, hb, hml, hown, hts⟩ (c_X3_evictsIfFull l D cy a t_52 (st.1, (va_up st.2 5 (nI g'))) hm_54 3 hwA k g' hk (by omega) rfl (by omega) h6 hneA) (va_cwS 2 hts gX3_ghost_X3_evictsIfFull rfl rfl rfl (by decide +kernel) ⟨Nat.le_of_ble_eq_true rfl, Nat.le_of_ble_eq_true rfl⟩) hK hE hP hD hS hA [0] rfl [0] [] rfl rfl rfl rfl (by decide) rfl hl.1 rfl (Nat.le_of_ble_eq_true rfl) dX3_ghost_92 ⟨Nat.le_of_ble_eq_true rfl, Nat.le_of_ble_eq_true rfl⟩ [0] (fun t_55 => [(a, .inl (cy, 366, .inl t_55))]) (fun _ => rfl) rfl (fun t_55 H locs hw hP hD hS => ?_)
            have hw9 := hw
            have hw9 : m_rep t_55 (c_room (st.1, (va_up st.2 5 (nI g'))) (if (3 : Int32) = 4 then 1 else 0)) := hw9
            obtain ⟨st_57, est_57⟩ : ∃ z : ki_St, z = c_room (st.1, (va_up st.2 5 (nI g'))) (if (3 : Int32) = 4 then 1 else 0) := ⟨_, rfl⟩
            rw [← est_57] at hw9
            have hm_56 := hw9
            have hP : va_P D vwCl [(a, .inl (cy, 366, .inl t_55))] H := hP
            have hD : va_D A [(a, .inl (cy, 366, .inl t_55))] := hD
            have hR := p_room (b := (if (3 : Int32) = 4 then 1 else 0)) (k := k) (g := g') hwA hk hk1 hk2 rfl (by omega) h6 hneA
            rw [← est_57] at hR
            have hmemX : key ∈ st_57.1 3 := hR.2.2.2.2.2.2.1 key hmem
            refine lv_aload_n hx hb dX3_ghost_95 rfl (lv_at hl 2 rfl) ?_
            refine lv_iload_n hx hb dX3_ghost_96 rfl (lv_at hl 4 rfl) ?_
            refine lv_aload_n hx hb dX3_ghost_97 rfl (lv_at hl 2 rfl) ?_
            refine lv_iload_n hx hb dX3_ghost_98 rfl (lv_at hl 4 rfl) ?_
            refine lv_iload_n hx hb dX3_ghost_99 rfl (lv_at hl 3 rfl) ?_
            refine ki_cSR (As := [.ref a, .int 3, .int key]) (rest := [.int 3, .ref a]) ⟨hx, hb, hml, hown, hts⟩ (c_X3_placeIn l D cy a t_55 st_57 hm_56 3 (by omega) (by omega) (p_nodup hR.1 (by decide) (by decide)) key) (va_cwS 3 hts gX3_ghost_X3_placeIn rfl rfl rfl (by decide +kernel) ⟨Nat.le_of_ble_eq_true rfl, Nat.le_of_ble_eq_true rfl⟩) hK hE hP [0] rfl [0] rfl rfl hl.1 rfl (Nat.le_of_ble_eq_true rfl) dX3_ghost_100 ⟨Nat.le_of_ble_eq_true rfl, Nat.le_of_ble_eq_true rfl⟩ ?_
            obtain ⟨p9, hp9, ep9, -⟩ := m_idx_p hmemX
            rw [ep9]
            refine ki_cSI (As := [.ref a, .int 3, .int (nI p9)]) (rest := []) (wr := []) ⟨hx, hb, hml, hown, hts⟩ (c_X3_leaves l D cy a t_55 st_57 hm_56 3 (by omega) (by omega) p9 hp9) (va_cwS 3 hts gX3_ghost_X3_leaves rfl rfl rfl (by decide +kernel) ⟨Nat.le_of_ble_eq_true rfl, Nat.le_of_ble_eq_true rfl⟩) hK hE hP hD hS hA [0] rfl [0] [] rfl rfl rfl rfl (by decide) rfl hl.1 rfl (Nat.le_of_ble_eq_true rfl) dX3_ghost_103 ⟨Nat.le_of_ble_eq_true rfl, Nat.le_of_ble_eq_true rfl⟩ [0] (fun t_59 => [(a, .inl (cy, 366, .inl t_59))]) (fun _ => rfl) rfl (fun r_62 t_59 H locs hw hP hD hS => ?_)
            have hw9 := hw
            obtain ⟨er_62, hw9⟩ := hw9
            subst er_62
            have hw9 : m_rep t_59 (va_up st_57.1 3 (k_gap (st_57.1 3) (nI p9)), st_57.2) := hw9
            obtain ⟨st_61, est_61⟩ : ∃ z : ki_St, z = (va_up st_57.1 3 (k_gap (st_57.1 3) (nI p9)), st_57.2) := ⟨_, rfl⟩
            rw [← est_61] at hw9
            have hm_60 := hw9
            have hP : va_P D vwCl [(a, .inl (cy, 366, .inl t_59))] H := hP
            have hD : va_D A [(a, .inl (cy, 366, .inl t_59))] := hD
            have hFr := p_from (w := nI 3) hR.1 (by decide) (by decide) rfl hmemX
            have hF : st_61 = c_from st_57 (nI 3) key := by rw [est_61, ← ep9]; exact hFr.1.symm
            have hk0 : ¬ key = -1 := p_ne1 hR.1 (by decide) (by decide) hmemX
            have hl2 : (st_61.1 2).length < 64 := by rw [hF, hFr.2.2.2.2 2 (by decide)]; have q9 := hR.1.2.2; have q8 := List.length_pos_of_mem hmemX; omega
            refine lv_pop hx hb dX3_ghost_106 rfl ?_
            refine lv_aload_n hx hb dX3_ghost_107 rfl (lv_at hl 2 rfl) ?_
            refine lv_iconst (v := 2) hx hb dX3_ghost_108 (by decide) ?_
            refine lv_iload_n hx hb dX3_ghost_109 rfl (lv_at hl 3 rfl) ?_
            refine ki_cSV (As := [.ref a, .int 2, .int key]) (rest := []) (wr := []) ⟨hx, hb, hml, hown, hts⟩ (c_X3_joins l D cy a t_59 st_61 hm_60 2 (by omega) (by omega) key hk0 hl2) (va_cwS 3 hts gX3_ghost_X3_joins rfl rfl rfl (by decide +kernel) ⟨Nat.le_of_ble_eq_true rfl, Nat.le_of_ble_eq_true rfl⟩) hK hE hP hD hS hA [0] rfl [0] [] rfl rfl rfl rfl (by decide) rfl hl.1 rfl (Nat.le_of_ble_eq_true rfl) dX3_ghost_110 ⟨Nat.le_of_ble_eq_true rfl, Nat.le_of_ble_eq_true rfl⟩ [0] (fun t_63 => [(a, .inl (cy, 366, .inl t_63))]) (fun _ => rfl) rfl (fun t_63 H locs hw hP hD hS => ?_)
            have hw9 := hw
            have hw9 : m_rep t_63 (va_up st_61.1 2 (k_join (st_61.1 2) key), st_61.2) := hw9
            obtain ⟨st_65, est_65⟩ : ∃ z : ki_St, z = (va_up st_61.1 2 (k_join (st_61.1 2) key), st_61.2) := ⟨_, rfl⟩
            rw [← est_65] at hw9
            have hm_64 := hw9
            have hP : va_P D vwCl [(a, .inl (cy, 366, .inl t_63))] H := hP
            have hD : va_D A [(a, .inl (cy, 366, .inl t_63))] := hD
            have e9 : c_join2 (c_from (c_room (c_adapt st (nI 3)) (if nI 3 = 4 then 1 else 0)) (nI 3) key) key = st_65 := by rw [est_65, hF, est_57, eA]; rfl
            exact ki_vret hx hb hr hlk hK hS t_63 (by rw [e9]; exact hm_64) hP hD dX3_ghost_113
  · skip
    have hl : lv_has ls 5 [(0, .ref a), (1, .int key), (2, .int 4)] := hl
    have hpos : 0 < (st.1 4).length := List.length_pos_of_mem hmem
    refine lv_aload_n hx hb dX3_ghost_0 rfl (lv_at hl 0 rfl) ?_
    refine lv_iconst (v := 5) hx hb dX3_ghost_1 (by decide) ?_
    refine va_iald hx hb hK hP 0 0 rfl rfl (vp_in_nI (n := 5) (by decide) (by decide)) dX3_ghost_2 ?_
    rw [show (t (Int32.toNatClampNeg 5) : Int32) = st.2 5 from hm.2 5 (by decide) (by decide)]
    refine lv_aload_n hx hb dX3_ghost_3 rfl (lv_at hl 0 rfl) ?_
    refine lv_iconst (v := 4) hx hb dX3_ghost_4 (by decide) ?_
    refine va_iald hx hb hK hP 0 0 rfl rfl (vp_in_nI (n := 4) (by decide) (by decide)) dX3_ghost_5 ?_
    rw [show (t (Int32.toNatClampNeg 4) : Int32) = nI (st.1 4).length from m_l hm (i := 4) (by decide) (by decide)]
    refine lv_aload_n hx hb dX3_ghost_6 rfl (lv_at hl 0 rfl) ?_
    refine lv_iconst (v := 3) hx hb dX3_ghost_7 (by decide) ?_
    refine va_iald hx hb hK hP 0 0 rfl rfl (vp_in_nI (n := 3) (by decide) (by decide)) dX3_ghost_8 ?_
    rw [show (t (Int32.toNatClampNeg 3) : Int32) = nI (st.1 3).length from m_l hm (i := 3) (by decide) (by decide)]
    refine lv_if_le (tgt := 18) hx hb dX3_ghost_9 (by decide) (fun c_67 => ?_) (fun c_67 => ?_)
    · skip
      refine lv_iconst (v := 1) hx hb dX3_ghost_18 (by decide) ?_
      refine ki_cSR (As := [.int (nI (st.1 4).length), .int 1]) (rest := [.int (st.2 5)]) ⟨hx, hb, hml, hown, hts⟩ (c_X3_step l D ((st.1 4).length) 1 (by omega) (by omega)) (va_cwS 2 hts gX3_ghost_X3_step rfl rfl rfl (by decide +kernel) ⟨Nat.le_of_ble_eq_true rfl, Nat.le_of_ble_eq_true rfl⟩) hK hE hP [] rfl [] rfl rfl hl.1 rfl (Nat.le_of_ble_eq_true rfl) dX3_ghost_19 ⟨Nat.le_of_ble_eq_true rfl, Nat.le_of_ble_eq_true rfl⟩ ?_
      refine lv_iadd hx hb dX3_ghost_22 ?_
      refine lv_istore_n (lv' := [(3, .int ((st.2 5) + (c_step (nI (st.1 4).length) 1))), (0, .ref a), (1, .int key), (2, .int 4)]) hx hb dX3_ghost_23 rfl hl (by decide) rfl (fun ls hl => ?_)
      refine lv_aload_n hx hb dX3_ghost_24 rfl (lv_at hl 1 rfl) ?_
      refine lv_iconst (v := 5) hx hb dX3_ghost_25 (by decide) ?_
      refine va_iald hx hb hK hP 0 0 rfl rfl (vp_in_nI (n := 5) (by decide) (by decide)) dX3_ghost_26 ?_
      rw [show (t (Int32.toNatClampNeg 5) : Int32) = st.2 5 from hm.2 5 (by decide) (by decide)]
      refine lv_aload_n hx hb dX3_ghost_27 rfl (lv_at hl 1 rfl) ?_
      refine lv_iconst (v := 3) hx hb dX3_ghost_28 (by decide) ?_
      refine va_iald hx hb hK hP 0 0 rfl rfl (vp_in_nI (n := 3) (by decide) (by decide)) dX3_ghost_29 ?_
      rw [show (t (Int32.toNatClampNeg 3) : Int32) = nI (st.1 3).length from m_l hm (i := 3) (by decide) (by decide)]
      refine lv_aload_n hx hb dX3_ghost_30 rfl (lv_at hl 1 rfl) ?_
      refine lv_iconst (v := 4) hx hb dX3_ghost_31 (by decide) ?_
      refine va_iald hx hb hK hP 0 0 rfl rfl (vp_in_nI (n := 4) (by decide) (by decide)) dX3_ghost_32 ?_
      rw [show (t (Int32.toNatClampNeg 4) : Int32) = nI (st.1 4).length from m_l hm (i := 4) (by decide) (by decide)]
      refine lv_if_le (tgt := 42) hx hb dX3_ghost_33 (by decide) (fun c_68 => ?_) (fun c_68 => ?_)
      · skip
        exact absurd (m_npos (n := (st.1 4).length) (by omega) c_68) (by omega)
      · skip
        have hp4 : 0 < (st.1 4).length := m_pos (by omega) c_68
        refine lv_aload_n hx hb dX3_ghost_36 rfl (lv_at hl 1 rfl) ?_
        refine lv_iconst (v := 4) hx hb dX3_ghost_37 (by decide) ?_
        refine va_iald hx hb hK hP 0 0 rfl rfl (vp_in_nI (n := 4) (by decide) (by decide)) dX3_ghost_38 ?_
        rw [show (t (Int32.toNatClampNeg 4) : Int32) = nI (st.1 4).length from m_l hm (i := 4) (by decide) (by decide)]
        refine lv_goto (tgt := 43) hx hb dX3_ghost_39 (by decide) ?_
        refine ki_cSR (As := [.int (nI (st.1 3).length), .int (nI (st.1 4).length)]) (rest := [.int (st.2 5)]) ⟨hx, hb, hml, hown, hts⟩ (c_X3_step l D ((st.1 3).length) ((st.1 4).length) (by omega) (by omega)) (va_cwS 2 hts gX3_ghost_X3_step rfl rfl rfl (by decide +kernel) ⟨Nat.le_of_ble_eq_true rfl, Nat.le_of_ble_eq_true rfl⟩) hK hE hP [] rfl [] rfl rfl hl.1 rfl (Nat.le_of_ble_eq_true rfl) dX3_ghost_43 ⟨Nat.le_of_ble_eq_true rfl, Nat.le_of_ble_eq_true rfl⟩ ?_
        refine lv_isub hx hb dX3_ghost_46 ?_
        refine lv_istore (lv' := [(4, .int ((st.2 5) - (c_step (nI (st.1 3).length) (nI (st.1 4).length)))), (3, .int ((st.2 5) + (c_step (nI (st.1 4).length) 1))), (0, .ref a), (1, .int key), (2, .int 4)]) hx hb dX3_ghost_47 hl (by decide) rfl (fun ls hl => ?_)
        refine lv_iload_n hx hb dX3_ghost_49 rfl (lv_at hl 4 rfl) ?_
        refine lv_iconst (v := 3) hx hb dX3_ghost_50 (by decide) ?_
        refine lv_icmp_ne (tgt := 76) hx hb dX3_ghost_51 (by decide) (fun c_69 => ?_) (fun c_69 => ?_)
        rotate_left
        · exact absurd c_69 (by decide)
        · skip
          refine lv_aload_n hx hb dX3_ghost_76 rfl (lv_at hl 2 rfl) ?_
          refine lv_iconst (v := 5) hx hb dX3_ghost_77 (by decide) ?_
          refine lv_iload hx hb dX3_ghost_78 (lv_at hl 0 rfl) ?_
          refine lv_if_ge (tgt := 87) hx hb dX3_ghost_80 (by decide) (fun c_70 => ?_) (fun c_70 => ?_)
          · skip
            refine lv_iload hx hb dX3_ghost_87 (lv_at hl 0 rfl) ?_
            refine va_iast hx hb hK hP hD hS 0 0 rfl rfl (vp_in_nI (n := 5) (by decide) (by decide)) dX3_ghost_89 (fun H locs hP hD hS => ?_)
            obtain ⟨t_71, et_71⟩ : ∃ z : Nat → Int32, z = upd t (Int32.toNatClampNeg 5) ((st.2 5) - (c_step (nI (st.1 3).length) (nI (st.1 4).length))) := ⟨_, rfl⟩
            rw [← et_71] at hP hD
            have hm_72 : m_rep t_71 (st.1, va_up st.2 5 ((st.2 5) - (c_step (nI (st.1 3).length) (nI (st.1 4).length)))) := by rw [et_71]; exact m_z (i := 5) hm (by decide) (by decide)
            have hP : va_P D vwCl [(a, .inl (cy, 366, .inl t_71))] H := hP
            have hD : va_D A [(a, .inl (cy, 366, .inl t_71))] := hD
            obtain ⟨g', eA, hg', hwA, hneA⟩ := p_ghost0 (b := (if (4 : Int32) = 4 then 1 else 0)) hpw hk hk1 hk2 hg hg2 h6 h7 (Or.inr ⟨rfl, by decide⟩) hmem
            have eX : (st.1, (va_up st.2 5 ((st.2 5) - (c_step (nI (st.1 3).length) (nI (st.1 4).length))))) = (st.1, va_up st.2 5 (nI g')) := by rw [← eA]; unfold c_adapt; rw [if_neg (show ¬ nI 4 = 3 by decide), m_max_t c_70]
            have hm_73 := hm_72
            rw [eX] at hm_73
            refine lv_aload_n hx hb dX3_ghost_90 rfl (lv_at hl 2 rfl) ?_
            refine lv_iload_n hx hb dX3_ghost_91 rfl (lv_at hl 4 rfl) ?_
            refine ki_cSV (As := [.ref a, .int 4]) (rest := []) (wr := []) ⟨hx, hb, hml, hown, hts⟩ (c_X3_evictsIfFull l D cy a t_71 (st.1, (va_up st.2 5 (nI g'))) hm_73 4 hwA k g' hk (by omega) rfl (by omega) h6 hneA) (va_cwS 2 hts gX3_ghost_X3_evictsIfFull rfl rfl rfl (by decide +kernel) ⟨Nat.le_of_ble_eq_true rfl, Nat.le_of_ble_eq_true rfl⟩) hK hE hP hD hS hA [0] rfl [0] [] rfl rfl rfl rfl (by decide) rfl hl.1 rfl (Nat.le_of_ble_eq_true rfl) dX3_ghost_92 ⟨Nat.le_of_ble_eq_true rfl, Nat.le_of_ble_eq_true rfl⟩ [0] (fun t_74 => [(a, .inl (cy, 366, .inl t_74))]) (fun _ => rfl) rfl (fun t_74 H locs hw hP hD hS => ?_)
            have hw9 := hw
            have hw9 : m_rep t_74 (c_room (st.1, (va_up st.2 5 (nI g'))) (if (4 : Int32) = 4 then 1 else 0)) := hw9
            obtain ⟨st_76, est_76⟩ : ∃ z : ki_St, z = c_room (st.1, (va_up st.2 5 (nI g'))) (if (4 : Int32) = 4 then 1 else 0) := ⟨_, rfl⟩
            rw [← est_76] at hw9
            have hm_75 := hw9
            have hP : va_P D vwCl [(a, .inl (cy, 366, .inl t_74))] H := hP
            have hD : va_D A [(a, .inl (cy, 366, .inl t_74))] := hD
            have hR := p_room (b := (if (4 : Int32) = 4 then 1 else 0)) (k := k) (g := g') hwA hk hk1 hk2 rfl (by omega) h6 hneA
            rw [← est_76] at hR
            have hmemX : key ∈ st_76.1 4 := hR.2.2.2.2.2.2.2 key hmem
            refine lv_aload_n hx hb dX3_ghost_95 rfl (lv_at hl 2 rfl) ?_
            refine lv_iload_n hx hb dX3_ghost_96 rfl (lv_at hl 4 rfl) ?_
            refine lv_aload_n hx hb dX3_ghost_97 rfl (lv_at hl 2 rfl) ?_
            refine lv_iload_n hx hb dX3_ghost_98 rfl (lv_at hl 4 rfl) ?_
            refine lv_iload_n hx hb dX3_ghost_99 rfl (lv_at hl 3 rfl) ?_
            refine ki_cSR (As := [.ref a, .int 4, .int key]) (rest := [.int 4, .ref a]) ⟨hx, hb, hml, hown, hts⟩ (c_X3_placeIn l D cy a t_74 st_76 hm_75 4 (by omega) (by omega) (p_nodup hR.1 (by decide) (by decide)) key) (va_cwS 3 hts gX3_ghost_X3_placeIn rfl rfl rfl (by decide +kernel) ⟨Nat.le_of_ble_eq_true rfl, Nat.le_of_ble_eq_true rfl⟩) hK hE hP [0] rfl [0] rfl rfl hl.1 rfl (Nat.le_of_ble_eq_true rfl) dX3_ghost_100 ⟨Nat.le_of_ble_eq_true rfl, Nat.le_of_ble_eq_true rfl⟩ ?_
            obtain ⟨p9, hp9, ep9, -⟩ := m_idx_p hmemX
            rw [ep9]
            refine ki_cSI (As := [.ref a, .int 4, .int (nI p9)]) (rest := []) (wr := []) ⟨hx, hb, hml, hown, hts⟩ (c_X3_leaves l D cy a t_74 st_76 hm_75 4 (by omega) (by omega) p9 hp9) (va_cwS 3 hts gX3_ghost_X3_leaves rfl rfl rfl (by decide +kernel) ⟨Nat.le_of_ble_eq_true rfl, Nat.le_of_ble_eq_true rfl⟩) hK hE hP hD hS hA [0] rfl [0] [] rfl rfl rfl rfl (by decide) rfl hl.1 rfl (Nat.le_of_ble_eq_true rfl) dX3_ghost_103 ⟨Nat.le_of_ble_eq_true rfl, Nat.le_of_ble_eq_true rfl⟩ [0] (fun t_78 => [(a, .inl (cy, 366, .inl t_78))]) (fun _ => rfl) rfl (fun r_81 t_78 H locs hw hP hD hS => ?_)
            have hw9 := hw
            obtain ⟨er_81, hw9⟩ := hw9
            subst er_81
            have hw9 : m_rep t_78 (va_up st_76.1 4 (k_gap (st_76.1 4) (nI p9)), st_76.2) := hw9
            obtain ⟨st_80, est_80⟩ : ∃ z : ki_St, z = (va_up st_76.1 4 (k_gap (st_76.1 4) (nI p9)), st_76.2) := ⟨_, rfl⟩
            rw [← est_80] at hw9
            have hm_79 := hw9
            have hP : va_P D vwCl [(a, .inl (cy, 366, .inl t_78))] H := hP
            have hD : va_D A [(a, .inl (cy, 366, .inl t_78))] := hD
            have hFr := p_from (w := nI 4) hR.1 (by decide) (by decide) rfl hmemX
            have hF : st_80 = c_from st_76 (nI 4) key := by rw [est_80, ← ep9]; exact hFr.1.symm
            have hk0 : ¬ key = -1 := p_ne1 hR.1 (by decide) (by decide) hmemX
            have hl2 : (st_80.1 2).length < 64 := by rw [hF, hFr.2.2.2.2 2 (by decide)]; have q9 := hR.1.2.2; have q8 := List.length_pos_of_mem hmemX; omega
            refine lv_pop hx hb dX3_ghost_106 rfl ?_
            refine lv_aload_n hx hb dX3_ghost_107 rfl (lv_at hl 2 rfl) ?_
            refine lv_iconst (v := 2) hx hb dX3_ghost_108 (by decide) ?_
            refine lv_iload_n hx hb dX3_ghost_109 rfl (lv_at hl 3 rfl) ?_
            refine ki_cSV (As := [.ref a, .int 2, .int key]) (rest := []) (wr := []) ⟨hx, hb, hml, hown, hts⟩ (c_X3_joins l D cy a t_78 st_80 hm_79 2 (by omega) (by omega) key hk0 hl2) (va_cwS 3 hts gX3_ghost_X3_joins rfl rfl rfl (by decide +kernel) ⟨Nat.le_of_ble_eq_true rfl, Nat.le_of_ble_eq_true rfl⟩) hK hE hP hD hS hA [0] rfl [0] [] rfl rfl rfl rfl (by decide) rfl hl.1 rfl (Nat.le_of_ble_eq_true rfl) dX3_ghost_110 ⟨Nat.le_of_ble_eq_true rfl, Nat.le_of_ble_eq_true rfl⟩ [0] (fun t_82 => [(a, .inl (cy, 366, .inl t_82))]) (fun _ => rfl) rfl (fun t_82 H locs hw hP hD hS => ?_)
            have hw9 := hw
            have hw9 : m_rep t_82 (va_up st_80.1 2 (k_join (st_80.1 2) key), st_80.2) := hw9
            obtain ⟨st_84, est_84⟩ : ∃ z : ki_St, z = (va_up st_80.1 2 (k_join (st_80.1 2) key), st_80.2) := ⟨_, rfl⟩
            rw [← est_84] at hw9
            have hm_83 := hw9
            have hP : va_P D vwCl [(a, .inl (cy, 366, .inl t_82))] H := hP
            have hD : va_D A [(a, .inl (cy, 366, .inl t_82))] := hD
            have e9 : c_join2 (c_from (c_room (c_adapt st (nI 4)) (if nI 4 = 4 then 1 else 0)) (nI 4) key) key = st_84 := by rw [est_84, hF, est_76, eA]; rfl
            exact ki_vret hx hb hr hlk hK hS t_82 (by rw [e9]; exact hm_83) hP hD dX3_ghost_113
          · skip
            refine lv_iconst (v := 0) hx hb dX3_ghost_83 (by decide) ?_
            refine lv_goto (tgt := 89) hx hb dX3_ghost_84 (by decide) ?_
            refine va_iast hx hb hK hP hD hS 0 0 rfl rfl (vp_in_nI (n := 5) (by decide) (by decide)) dX3_ghost_89 (fun H locs hP hD hS => ?_)
            obtain ⟨t_86, et_86⟩ : ∃ z : Nat → Int32, z = upd t (Int32.toNatClampNeg 5) 0 := ⟨_, rfl⟩
            rw [← et_86] at hP hD
            have hm_87 : m_rep t_86 (st.1, va_up st.2 5 0) := by rw [et_86]; exact m_z (i := 5) hm (by decide) (by decide)
            have hP : va_P D vwCl [(a, .inl (cy, 366, .inl t_86))] H := hP
            have hD : va_D A [(a, .inl (cy, 366, .inl t_86))] := hD
            obtain ⟨g', eA, hg', hwA, hneA⟩ := p_ghost0 (b := (if (4 : Int32) = 4 then 1 else 0)) hpw hk hk1 hk2 hg hg2 h6 h7 (Or.inr ⟨rfl, by decide⟩) hmem
            have eX : (st.1, (va_up st.2 5 0)) = (st.1, va_up st.2 5 (nI g')) := by rw [← eA]; unfold c_adapt; rw [if_neg (show ¬ nI 4 = 3 by decide), m_max_f c_70]
            have hm_88 := hm_87
            rw [eX] at hm_88
            refine lv_aload_n hx hb dX3_ghost_90 rfl (lv_at hl 2 rfl) ?_
            refine lv_iload_n hx hb dX3_ghost_91 rfl (lv_at hl 4 rfl) ?_
            refine ki_cSV (As := [.ref a, .int 4]) (rest := []) (wr := []) ⟨hx, hb, hml, hown, hts⟩ (c_X3_evictsIfFull l D cy a t_86 (st.1, (va_up st.2 5 (nI g'))) hm_88 4 hwA k g' hk (by omega) rfl (by omega) h6 hneA) (va_cwS 2 hts gX3_ghost_X3_evictsIfFull rfl rfl rfl (by decide +kernel) ⟨Nat.le_of_ble_eq_true rfl, Nat.le_of_ble_eq_true rfl⟩) hK hE hP hD hS hA [0] rfl [0] [] rfl rfl rfl rfl (by decide) rfl hl.1 rfl (Nat.le_of_ble_eq_true rfl) dX3_ghost_92 ⟨Nat.le_of_ble_eq_true rfl, Nat.le_of_ble_eq_true rfl⟩ [0] (fun t_89 => [(a, .inl (cy, 366, .inl t_89))]) (fun _ => rfl) rfl (fun t_89 H locs hw hP hD hS => ?_)
            have hw9 := hw
            have hw9 : m_rep t_89 (c_room (st.1, (va_up st.2 5 (nI g'))) (if (4 : Int32) = 4 then 1 else 0)) := hw9
            obtain ⟨st_91, est_91⟩ : ∃ z : ki_St, z = c_room (st.1, (va_up st.2 5 (nI g'))) (if (4 : Int32) = 4 then 1 else 0) := ⟨_, rfl⟩
            rw [← est_91] at hw9
            have hm_90 := hw9
            have hP : va_P D vwCl [(a, .inl (cy, 366, .inl t_89))] H := hP
            have hD : va_D A [(a, .inl (cy, 366, .inl t_89))] := hD
            have hR := p_room (b := (if (4 : Int32) = 4 then 1 else 0)) (k := k) (g := g') hwA hk hk1 hk2 rfl (by omega) h6 hneA
            rw [← est_91] at hR
            have hmemX : key ∈ st_91.1 4 := hR.2.2.2.2.2.2.2 key hmem
            refine lv_aload_n hx hb dX3_ghost_95 rfl (lv_at hl 2 rfl) ?_
            refine lv_iload_n hx hb dX3_ghost_96 rfl (lv_at hl 4 rfl) ?_
            refine lv_aload_n hx hb dX3_ghost_97 rfl (lv_at hl 2 rfl) ?_
            refine lv_iload_n hx hb dX3_ghost_98 rfl (lv_at hl 4 rfl) ?_
            refine lv_iload_n hx hb dX3_ghost_99 rfl (lv_at hl 3 rfl) ?_
            refine ki_cSR (As := [.ref a, .int 4, .int key]) (rest := [.int 4, .ref a]) ⟨hx, hb, hml, hown, hts⟩ (c_X3_placeIn l D cy a t_89 st_91 hm_90 4 (by omega) (by omega) (p_nodup hR.1 (by decide) (by decide)) key) (va_cwS 3 hts gX3_ghost_X3_placeIn rfl rfl rfl (by decide +kernel) ⟨Nat.le_of_ble_eq_true rfl, Nat.le_of_ble_eq_true rfl⟩) hK hE hP [0] rfl [0] rfl rfl hl.1 rfl (Nat.le_of_ble_eq_true rfl) dX3_ghost_100 ⟨Nat.le_of_ble_eq_true rfl, Nat.le_of_ble_eq_true rfl⟩ ?_
            obtain ⟨p9, hp9, ep9, -⟩ := m_idx_p hmemX
            rw [ep9]
            refine ki_cSI (As := [.ref a, .int 4, .int (nI p9)]) (rest := []) (wr := []) ⟨hx, hb, hml, hown, hts⟩ (c_X3_leaves l D cy a t_89 st_91 hm_90 4 (by omega) (by omega) p9 hp9) (va_cwS 3 hts gX3_ghost_X3_leaves rfl rfl rfl (by decide +kernel) ⟨Nat.le_of_ble_eq_true rfl, Nat.le_of_ble_eq_true rfl⟩) hK hE hP hD hS hA [0] rfl [0] [] rfl rfl rfl rfl (by decide) rfl hl.1 rfl (Nat.le_of_ble_eq_true rfl) dX3_ghost_103 ⟨Nat.le_of_ble_eq_true rfl, Nat.le_of_ble_eq_true rfl⟩ [0] (fun t_93 => [(a, .inl (cy, 366, .inl t_93))]) (fun _ => rfl) rfl (fun r_96 t_93 H locs hw hP hD hS => ?_)
            have hw9 := hw
            obtain ⟨er_96, hw9⟩ := hw9
            subst er_96
            have hw9 : m_rep t_93 (va_up st_91.1 4 (k_gap (st_91.1 4) (nI p9)), st_91.2) := hw9
            obtain ⟨st_95, est_95⟩ : ∃ z : ki_St, z = (va_up st_91.1 4 (k_gap (st_91.1 4) (nI p9)), st_91.2) := ⟨_, rfl⟩
            rw [← est_95] at hw9
            have hm_94 := hw9
            have hP : va_P D vwCl [(a, .inl (cy, 366, .inl t_93))] H := hP
            have hD : va_D A [(a, .inl (cy, 366, .inl t_93))] := hD
            have hFr := p_from (w := nI 4) hR.1 (by decide) (by decide) rfl hmemX
            have hF : st_95 = c_from st_91 (nI 4) key := by rw [est_95, ← ep9]; exact hFr.1.symm
            have hk0 : ¬ key = -1 := p_ne1 hR.1 (by decide) (by decide) hmemX
            have hl2 : (st_95.1 2).length < 64 := by rw [hF, hFr.2.2.2.2 2 (by decide)]; have q9 := hR.1.2.2; have q8 := List.length_pos_of_mem hmemX; omega
            refine lv_pop hx hb dX3_ghost_106 rfl ?_
            refine lv_aload_n hx hb dX3_ghost_107 rfl (lv_at hl 2 rfl) ?_
            refine lv_iconst (v := 2) hx hb dX3_ghost_108 (by decide) ?_
            refine lv_iload_n hx hb dX3_ghost_109 rfl (lv_at hl 3 rfl) ?_
            refine ki_cSV (As := [.ref a, .int 2, .int key]) (rest := []) (wr := []) ⟨hx, hb, hml, hown, hts⟩ (c_X3_joins l D cy a t_93 st_95 hm_94 2 (by omega) (by omega) key hk0 hl2) (va_cwS 3 hts gX3_ghost_X3_joins rfl rfl rfl (by decide +kernel) ⟨Nat.le_of_ble_eq_true rfl, Nat.le_of_ble_eq_true rfl⟩) hK hE hP hD hS hA [0] rfl [0] [] rfl rfl rfl rfl (by decide) rfl hl.1 rfl (Nat.le_of_ble_eq_true rfl) dX3_ghost_110 ⟨Nat.le_of_ble_eq_true rfl, Nat.le_of_ble_eq_true rfl⟩ [0] (fun t_97 => [(a, .inl (cy, 366, .inl t_97))]) (fun _ => rfl) rfl (fun t_97 H locs hw hP hD hS => ?_)
            have hw9 := hw
            have hw9 : m_rep t_97 (va_up st_95.1 2 (k_join (st_95.1 2) key), st_95.2) := hw9
            obtain ⟨st_99, est_99⟩ : ∃ z : ki_St, z = (va_up st_95.1 2 (k_join (st_95.1 2) key), st_95.2) := ⟨_, rfl⟩
            rw [← est_99] at hw9
            have hm_98 := hw9
            have hP : va_P D vwCl [(a, .inl (cy, 366, .inl t_97))] H := hP
            have hD : va_D A [(a, .inl (cy, 366, .inl t_97))] := hD
            have e9 : c_join2 (c_from (c_room (c_adapt st (nI 4)) (if nI 4 = 4 then 1 else 0)) (nI 4) key) key = st_99 := by rw [est_99, hF, est_91, eA]; rfl
            exact ki_vret hx hb hr hlk hK hS t_97 (by rw [e9]; exact hm_98) hP hD dX3_ghost_113
    · skip
      have hp3 : 0 < (st.1 3).length := m_pos (by omega) c_67
      refine lv_aload_n hx hb dX3_ghost_12 rfl (lv_at hl 0 rfl) ?_
      refine lv_iconst (v := 3) hx hb dX3_ghost_13 (by decide) ?_
      refine va_iald hx hb hK hP 0 0 rfl rfl (vp_in_nI (n := 3) (by decide) (by decide)) dX3_ghost_14 ?_
      rw [show (t (Int32.toNatClampNeg 3) : Int32) = nI (st.1 3).length from m_l hm (i := 3) (by decide) (by decide)]
      refine lv_goto (tgt := 19) hx hb dX3_ghost_15 (by decide) ?_
      refine ki_cSR (As := [.int (nI (st.1 4).length), .int (nI (st.1 3).length)]) (rest := [.int (st.2 5)]) ⟨hx, hb, hml, hown, hts⟩ (c_X3_step l D ((st.1 4).length) ((st.1 3).length) (by omega) (by omega)) (va_cwS 2 hts gX3_ghost_X3_step rfl rfl rfl (by decide +kernel) ⟨Nat.le_of_ble_eq_true rfl, Nat.le_of_ble_eq_true rfl⟩) hK hE hP [] rfl [] rfl rfl hl.1 rfl (Nat.le_of_ble_eq_true rfl) dX3_ghost_19 ⟨Nat.le_of_ble_eq_true rfl, Nat.le_of_ble_eq_true rfl⟩ ?_
      refine lv_iadd hx hb dX3_ghost_22 ?_
      refine lv_istore_n (lv' := [(3, .int ((st.2 5) + (c_step (nI (st.1 4).length) (nI (st.1 3).length)))), (0, .ref a), (1, .int key), (2, .int 4)]) hx hb dX3_ghost_23 rfl hl (by decide) rfl (fun ls hl => ?_)
      refine lv_aload_n hx hb dX3_ghost_24 rfl (lv_at hl 1 rfl) ?_
      refine lv_iconst (v := 5) hx hb dX3_ghost_25 (by decide) ?_
      refine va_iald hx hb hK hP 0 0 rfl rfl (vp_in_nI (n := 5) (by decide) (by decide)) dX3_ghost_26 ?_
      rw [show (t (Int32.toNatClampNeg 5) : Int32) = st.2 5 from hm.2 5 (by decide) (by decide)]
      refine lv_aload_n hx hb dX3_ghost_27 rfl (lv_at hl 1 rfl) ?_
      refine lv_iconst (v := 3) hx hb dX3_ghost_28 (by decide) ?_
      refine va_iald hx hb hK hP 0 0 rfl rfl (vp_in_nI (n := 3) (by decide) (by decide)) dX3_ghost_29 ?_
      rw [show (t (Int32.toNatClampNeg 3) : Int32) = nI (st.1 3).length from m_l hm (i := 3) (by decide) (by decide)]
      refine lv_aload_n hx hb dX3_ghost_30 rfl (lv_at hl 1 rfl) ?_
      refine lv_iconst (v := 4) hx hb dX3_ghost_31 (by decide) ?_
      refine va_iald hx hb hK hP 0 0 rfl rfl (vp_in_nI (n := 4) (by decide) (by decide)) dX3_ghost_32 ?_
      rw [show (t (Int32.toNatClampNeg 4) : Int32) = nI (st.1 4).length from m_l hm (i := 4) (by decide) (by decide)]
      refine lv_if_le (tgt := 42) hx hb dX3_ghost_33 (by decide) (fun c_101 => ?_) (fun c_101 => ?_)
      · skip
        exact absurd (m_npos (n := (st.1 4).length) (by omega) c_101) (by omega)
      · skip
        have hp4 : 0 < (st.1 4).length := m_pos (by omega) c_101
        refine lv_aload_n hx hb dX3_ghost_36 rfl (lv_at hl 1 rfl) ?_
        refine lv_iconst (v := 4) hx hb dX3_ghost_37 (by decide) ?_
        refine va_iald hx hb hK hP 0 0 rfl rfl (vp_in_nI (n := 4) (by decide) (by decide)) dX3_ghost_38 ?_
        rw [show (t (Int32.toNatClampNeg 4) : Int32) = nI (st.1 4).length from m_l hm (i := 4) (by decide) (by decide)]
        refine lv_goto (tgt := 43) hx hb dX3_ghost_39 (by decide) ?_
        refine ki_cSR (As := [.int (nI (st.1 3).length), .int (nI (st.1 4).length)]) (rest := [.int (st.2 5)]) ⟨hx, hb, hml, hown, hts⟩ (c_X3_step l D ((st.1 3).length) ((st.1 4).length) (by omega) (by omega)) (va_cwS 2 hts gX3_ghost_X3_step rfl rfl rfl (by decide +kernel) ⟨Nat.le_of_ble_eq_true rfl, Nat.le_of_ble_eq_true rfl⟩) hK hE hP [] rfl [] rfl rfl hl.1 rfl (Nat.le_of_ble_eq_true rfl) dX3_ghost_43 ⟨Nat.le_of_ble_eq_true rfl, Nat.le_of_ble_eq_true rfl⟩ ?_
        refine lv_isub hx hb dX3_ghost_46 ?_
        refine lv_istore (lv' := [(4, .int ((st.2 5) - (c_step (nI (st.1 3).length) (nI (st.1 4).length)))), (3, .int ((st.2 5) + (c_step (nI (st.1 4).length) (nI (st.1 3).length)))), (0, .ref a), (1, .int key), (2, .int 4)]) hx hb dX3_ghost_47 hl (by decide) rfl (fun ls hl => ?_)
        refine lv_iload_n hx hb dX3_ghost_49 rfl (lv_at hl 4 rfl) ?_
        refine lv_iconst (v := 3) hx hb dX3_ghost_50 (by decide) ?_
        refine lv_icmp_ne (tgt := 76) hx hb dX3_ghost_51 (by decide) (fun c_102 => ?_) (fun c_102 => ?_)
        rotate_left
        · exact absurd c_102 (by decide)
        · skip
          refine lv_aload_n hx hb dX3_ghost_76 rfl (lv_at hl 2 rfl) ?_
          refine lv_iconst (v := 5) hx hb dX3_ghost_77 (by decide) ?_
          refine lv_iload hx hb dX3_ghost_78 (lv_at hl 0 rfl) ?_
          refine lv_if_ge (tgt := 87) hx hb dX3_ghost_80 (by decide) (fun c_103 => ?_) (fun c_103 => ?_)
          · skip
            refine lv_iload hx hb dX3_ghost_87 (lv_at hl 0 rfl) ?_
            refine va_iast hx hb hK hP hD hS 0 0 rfl rfl (vp_in_nI (n := 5) (by decide) (by decide)) dX3_ghost_89 (fun H locs hP hD hS => ?_)
            obtain ⟨t_104, et_104⟩ : ∃ z : Nat → Int32, z = upd t (Int32.toNatClampNeg 5) ((st.2 5) - (c_step (nI (st.1 3).length) (nI (st.1 4).length))) := ⟨_, rfl⟩
            rw [← et_104] at hP hD
            have hm_105 : m_rep t_104 (st.1, va_up st.2 5 ((st.2 5) - (c_step (nI (st.1 3).length) (nI (st.1 4).length)))) := by rw [et_104]; exact m_z (i := 5) hm (by decide) (by decide)
            have hP : va_P D vwCl [(a, .inl (cy, 366, .inl t_104))] H := hP
            have hD : va_D A [(a, .inl (cy, 366, .inl t_104))] := hD
            obtain ⟨g', eA, hg', hwA, hneA⟩ := p_ghost0 (b := (if (4 : Int32) = 4 then 1 else 0)) hpw hk hk1 hk2 hg hg2 h6 h7 (Or.inr ⟨rfl, by decide⟩) hmem
            have eX : (st.1, (va_up st.2 5 ((st.2 5) - (c_step (nI (st.1 3).length) (nI (st.1 4).length))))) = (st.1, va_up st.2 5 (nI g')) := by rw [← eA]; unfold c_adapt; rw [if_neg (show ¬ nI 4 = 3 by decide), m_max_t c_103]
            have hm_106 := hm_105
            rw [eX] at hm_106
            refine lv_aload_n hx hb dX3_ghost_90 rfl (lv_at hl 2 rfl) ?_
            refine lv_iload_n hx hb dX3_ghost_91 rfl (lv_at hl 4 rfl) ?_
            refine ki_cSV (As := [.ref a, .int 4]) (rest := []) (wr := []) ⟨hx, hb, hml, hown, hts⟩ (c_X3_evictsIfFull l D cy a t_104 (st.1, (va_up st.2 5 (nI g'))) hm_106 4 hwA k g' hk (by omega) rfl (by omega) h6 hneA) (va_cwS 2 hts gX3_ghost_X3_evictsIfFull rfl rfl rfl (by decide +kernel) ⟨Nat.le_of_ble_eq_true rfl, Nat.le_of_ble_eq_true rfl⟩) hK hE hP hD hS hA [0] rfl [0] [] rfl rfl rfl rfl (by decide) rfl hl.1 rfl (Nat.le_of_ble_eq_true rfl) dX3_ghost_92 ⟨Nat.le_of_ble_eq_true rfl, Nat.le_of_ble_eq_true rfl⟩ [0] (fun t_107 => [(a, .inl (cy, 366, .inl t_107))]) (fun _ => rfl) rfl (fun t_107 H locs hw hP hD hS => ?_)
            have hw9 := hw
            have hw9 : m_rep t_107 (c_room (st.1, (va_up st.2 5 (nI g'))) (if (4 : Int32) = 4 then 1 else 0)) := hw9
            obtain ⟨st_109, est_109⟩ : ∃ z : ki_St, z = c_room (st.1, (va_up st.2 5 (nI g'))) (if (4 : Int32) = 4 then 1 else 0) := ⟨_, rfl⟩
            rw [← est_109] at hw9
            have hm_108 := hw9
            have hP : va_P D vwCl [(a, .inl (cy, 366, .inl t_107))] H := hP
            have hD : va_D A [(a, .inl (cy, 366, .inl t_107))] := hD
            have hR := p_room (b := (if (4 : Int32) = 4 then 1 else 0)) (k := k) (g := g') hwA hk hk1 hk2 rfl (by omega) h6 hneA
            rw [← est_109] at hR
            have hmemX : key ∈ st_109.1 4 := hR.2.2.2.2.2.2.2 key hmem
            refine lv_aload_n hx hb dX3_ghost_95 rfl (lv_at hl 2 rfl) ?_
            refine lv_iload_n hx hb dX3_ghost_96 rfl (lv_at hl 4 rfl) ?_
            refine lv_aload_n hx hb dX3_ghost_97 rfl (lv_at hl 2 rfl) ?_
            refine lv_iload_n hx hb dX3_ghost_98 rfl (lv_at hl 4 rfl) ?_
            refine lv_iload_n hx hb dX3_ghost_99 rfl (lv_at hl 3 rfl) ?_
            refine ki_cSR (As := [.ref a, .int 4, .int key]) (rest := [.int 4, .ref a]) ⟨hx, hb, hml, hown, hts⟩ (c_X3_placeIn l D cy a t_107 st_109 hm_108 4 (by omega) (by omega) (p_nodup hR.1 (by decide) (by decide)) key) (va_cwS 3 hts gX3_ghost_X3_placeIn rfl rfl rfl (by decide +kernel) ⟨Nat.le_of_ble_eq_true rfl, Nat.le_of_ble_eq_true rfl⟩) hK hE hP [0] rfl [0] rfl rfl hl.1 rfl (Nat.le_of_ble_eq_true rfl) dX3_ghost_100 ⟨Nat.le_of_ble_eq_true rfl, Nat.le_of_ble_eq_true rfl⟩ ?_
            obtain ⟨p9, hp9, ep9, -⟩ := m_idx_p hmemX
            rw [ep9]
            refine ki_cSI (As := [.ref a, .int 4, .int (nI p9)]) (rest := []) (wr := []) ⟨hx, hb, hml, hown, hts⟩ (c_X3_leaves l D cy a t_107 st_109 hm_108 4 (by omega) (by omega) p9 hp9) (va_cwS 3 hts gX3_ghost_X3_leaves rfl rfl rfl (by decide +kernel) ⟨Nat.le_of_ble_eq_true rfl, Nat.le_of_ble_eq_true rfl⟩) hK hE hP hD hS hA [0] rfl [0] [] rfl rfl rfl rfl (by decide) rfl hl.1 rfl (Nat.le_of_ble_eq_true rfl) dX3_ghost_103 ⟨Nat.le_of_ble_eq_true rfl, Nat.le_of_ble_eq_true rfl⟩ [0] (fun t_111 => [(a, .inl (cy, 366, .inl t_111))]) (fun _ => rfl) rfl (fun r_114 t_111 H locs hw hP hD hS => ?_)
            have hw9 := hw
            obtain ⟨er_114, hw9⟩ := hw9
            subst er_114
            have hw9 : m_rep t_111 (va_up st_109.1 4 (k_gap (st_109.1 4) (nI p9)), st_109.2) := hw9
            obtain ⟨st_113, est_113⟩ : ∃ z : ki_St, z = (va_up st_109.1 4 (k_gap (st_109.1 4) (nI p9)), st_109.2) := ⟨_, rfl⟩
            rw [← est_113] at hw9
            have hm_112 := hw9
            have hP : va_P D vwCl [(a, .inl (cy, 366, .inl t_111))] H := hP
            have hD : va_D A [(a, .inl (cy, 366, .inl t_111))] := hD
            have hFr := p_from (w := nI 4) hR.1 (by decide) (by decide) rfl hmemX
            have hF : st_113 = c_from st_109 (nI 4) key := by rw [est_113, ← ep9]; exact hFr.1.symm
            have hk0 : ¬ key = -1 := p_ne1 hR.1 (by decide) (by decide) hmemX
            have hl2 : (st_113.1 2).length < 64 := by rw [hF, hFr.2.2.2.2 2 (by decide)]; have q9 := hR.1.2.2; have q8 := List.length_pos_of_mem hmemX; omega
            refine lv_pop hx hb dX3_ghost_106 rfl ?_
            refine lv_aload_n hx hb dX3_ghost_107 rfl (lv_at hl 2 rfl) ?_
            refine lv_iconst (v := 2) hx hb dX3_ghost_108 (by decide) ?_
            refine lv_iload_n hx hb dX3_ghost_109 rfl (lv_at hl 3 rfl) ?_
            refine ki_cSV (As := [.ref a, .int 2, .int key]) (rest := []) (wr := []) ⟨hx, hb, hml, hown, hts⟩ (c_X3_joins l D cy a t_111 st_113 hm_112 2 (by omega) (by omega) key hk0 hl2) (va_cwS 3 hts gX3_ghost_X3_joins rfl rfl rfl (by decide +kernel) ⟨Nat.le_of_ble_eq_true rfl, Nat.le_of_ble_eq_true rfl⟩) hK hE hP hD hS hA [0] rfl [0] [] rfl rfl rfl rfl (by decide) rfl hl.1 rfl (Nat.le_of_ble_eq_true rfl) dX3_ghost_110 ⟨Nat.le_of_ble_eq_true rfl, Nat.le_of_ble_eq_true rfl⟩ [0] (fun t_115 => [(a, .inl (cy, 366, .inl t_115))]) (fun _ => rfl) rfl (fun t_115 H locs hw hP hD hS => ?_)
            have hw9 := hw
            have hw9 : m_rep t_115 (va_up st_113.1 2 (k_join (st_113.1 2) key), st_113.2) := hw9
            obtain ⟨st_117, est_117⟩ : ∃ z : ki_St, z = (va_up st_113.1 2 (k_join (st_113.1 2) key), st_113.2) := ⟨_, rfl⟩
            rw [← est_117] at hw9
            have hm_116 := hw9
            have hP : va_P D vwCl [(a, .inl (cy, 366, .inl t_115))] H := hP
            have hD : va_D A [(a, .inl (cy, 366, .inl t_115))] := hD
            have e9 : c_join2 (c_from (c_room (c_adapt st (nI 4)) (if nI 4 = 4 then 1 else 0)) (nI 4) key) key = st_117 := by rw [est_117, hF, est_109, eA]; rfl
            exact ki_vret hx hb hr hlk hK hS t_115 (by rw [e9]; exact hm_116) hP hD dX3_ghost_113
          · skip
            refine lv_iconst (v := 0) hx hb dX3_ghost_83 (by decide) ?_
            refine lv_goto (tgt := 89) hx hb dX3_ghost_84 (by decide) ?_
            refine va_iast hx hb hK hP hD hS 0 0 rfl rfl (vp_in_nI (n := 5) (by decide) (by decide)) dX3_ghost_89 (fun H locs hP hD hS => ?_)
            obtain ⟨t_119, et_119⟩ : ∃ z : Nat → Int32, z = upd t (Int32.toNatClampNeg 5) 0 := ⟨_, rfl⟩
            rw [← et_119] at hP hD
            have hm_120 : m_rep t_119 (st.1, va_up st.2 5 0) := by rw [et_119]; exact m_z (i := 5) hm (by decide) (by decide)
            have hP : va_P D vwCl [(a, .inl (cy, 366, .inl t_119))] H := hP
            have hD : va_D A [(a, .inl (cy, 366, .inl t_119))] := hD
            obtain ⟨g', eA, hg', hwA, hneA⟩ := p_ghost0 (b := (if (4 : Int32) = 4 then 1 else 0)) hpw hk hk1 hk2 hg hg2 h6 h7 (Or.inr ⟨rfl, by decide⟩) hmem
            have eX : (st.1, (va_up st.2 5 0)) = (st.1, va_up st.2 5 (nI g')) := by rw [← eA]; unfold c_adapt; rw [if_neg (show ¬ nI 4 = 3 by decide), m_max_f c_103]
            have hm_121 := hm_120
            rw [eX] at hm_121
            refine lv_aload_n hx hb dX3_ghost_90 rfl (lv_at hl 2 rfl) ?_
            refine lv_iload_n hx hb dX3_ghost_91 rfl (lv_at hl 4 rfl) ?_
            refine ki_cSV (As := [.ref a, .int 4]) (rest := []) (wr := []) ⟨hx, hb, hml, hown, hts⟩ (c_X3_evictsIfFull l D cy a t_119 (st.1, (va_up st.2 5 (nI g'))) hm_121 4 hwA k g' hk (by omega) rfl (by omega) h6 hneA) (va_cwS 2 hts gX3_ghost_X3_evictsIfFull rfl rfl rfl (by decide +kernel) ⟨Nat.le_of_ble_eq_true rfl, Nat.le_of_ble_eq_true rfl⟩) hK hE hP hD hS hA [0] rfl [0] [] rfl rfl rfl rfl (by decide) rfl hl.1 rfl (Nat.le_of_ble_eq_true rfl) dX3_ghost_92 ⟨Nat.le_of_ble_eq_true rfl, Nat.le_of_ble_eq_true rfl⟩ [0] (fun t_122 => [(a, .inl (cy, 366, .inl t_122))]) (fun _ => rfl) rfl (fun t_122 H locs hw hP hD hS => ?_)
            have hw9 := hw
            have hw9 : m_rep t_122 (c_room (st.1, (va_up st.2 5 (nI g'))) (if (4 : Int32) = 4 then 1 else 0)) := hw9
            obtain ⟨st_124, est_124⟩ : ∃ z : ki_St, z = c_room (st.1, (va_up st.2 5 (nI g'))) (if (4 : Int32) = 4 then 1 else 0) := ⟨_, rfl⟩
            rw [← est_124] at hw9
            have hm_123 := hw9
            have hP : va_P D vwCl [(a, .inl (cy, 366, .inl t_122))] H := hP
            have hD : va_D A [(a, .inl (cy, 366, .inl t_122))] := hD
            have hR := p_room (b := (if (4 : Int32) = 4 then 1 else 0)) (k := k) (g := g') hwA hk hk1 hk2 rfl (by omega) h6 hneA
            rw [← est_124] at hR
            have hmemX : key ∈ st_124.1 4 := hR.2.2.2.2.2.2.2 key hmem
            refine lv_aload_n hx hb dX3_ghost_95 rfl (lv_at hl 2 rfl) ?_
            refine lv_iload_n hx hb dX3_ghost_96 rfl (lv_at hl 4 rfl) ?_
            refine lv_aload_n hx hb dX3_ghost_97 rfl (lv_at hl 2 rfl) ?_
            refine lv_iload_n hx hb dX3_ghost_98 rfl (lv_at hl 4 rfl) ?_
            refine lv_iload_n hx hb dX3_ghost_99 rfl (lv_at hl 3 rfl) ?_
            refine ki_cSR (As := [.ref a, .int 4, .int key]) (rest := [.int 4, .ref a]) ⟨hx, hb, hml, hown, hts⟩ (c_X3_placeIn l D cy a t_122 st_124 hm_123 4 (by omega) (by omega) (p_nodup hR.1 (by decide) (by decide)) key) (va_cwS 3 hts gX3_ghost_X3_placeIn rfl rfl rfl (by decide +kernel) ⟨Nat.le_of_ble_eq_true rfl, Nat.le_of_ble_eq_true rfl⟩) hK hE hP [0] rfl [0] rfl rfl hl.1 rfl (Nat.le_of_ble_eq_true rfl) dX3_ghost_100 ⟨Nat.le_of_ble_eq_true rfl, Nat.le_of_ble_eq_true rfl⟩ ?_
            obtain ⟨p9, hp9, ep9, -⟩ := m_idx_p hmemX
            rw [ep9]
            refine ki_cSI (As := [.ref a, .int 4, .int (nI p9)]) (rest := []) (wr := []) ⟨hx, hb, hml, hown, hts⟩ (c_X3_leaves l D cy a t_122 st_124 hm_123 4 (by omega) (by omega) p9 hp9) (va_cwS 3 hts gX3_ghost_X3_leaves rfl rfl rfl (by decide +kernel) ⟨Nat.le_of_ble_eq_true rfl, Nat.le_of_ble_eq_true rfl⟩) hK hE hP hD hS hA [0] rfl [0] [] rfl rfl rfl rfl (by decide) rfl hl.1 rfl (Nat.le_of_ble_eq_true rfl) dX3_ghost_103 ⟨Nat.le_of_ble_eq_true rfl, Nat.le_of_ble_eq_true rfl⟩ [0] (fun t_126 => [(a, .inl (cy, 366, .inl t_126))]) (fun _ => rfl) rfl (fun r_129 t_126 H locs hw hP hD hS => ?_)
            have hw9 := hw
            obtain ⟨er_129, hw9⟩ := hw9
            subst er_129
            have hw9 : m_rep t_126 (va_up st_124.1 4 (k_gap (st_124.1 4) (nI p9)), st_124.2) := hw9
            obtain ⟨st_128, est_128⟩ : ∃ z : ki_St, z = (va_up st_124.1 4 (k_gap (st_124.1 4) (nI p9)), st_124.2) := ⟨_, rfl⟩
            rw [← est_128] at hw9
            have hm_127 := hw9
            have hP : va_P D vwCl [(a, .inl (cy, 366, .inl t_126))] H := hP
            have hD : va_D A [(a, .inl (cy, 366, .inl t_126))] := hD
            have hFr := p_from (w := nI 4) hR.1 (by decide) (by decide) rfl hmemX
            have hF : st_128 = c_from st_124 (nI 4) key := by rw [est_128, ← ep9]; exact hFr.1.symm
            have hk0 : ¬ key = -1 := p_ne1 hR.1 (by decide) (by decide) hmemX
            have hl2 : (st_128.1 2).length < 64 := by rw [hF, hFr.2.2.2.2 2 (by decide)]; have q9 := hR.1.2.2; have q8 := List.length_pos_of_mem hmemX; omega
            refine lv_pop hx hb dX3_ghost_106 rfl ?_
            refine lv_aload_n hx hb dX3_ghost_107 rfl (lv_at hl 2 rfl) ?_
            refine lv_iconst (v := 2) hx hb dX3_ghost_108 (by decide) ?_
            refine lv_iload_n hx hb dX3_ghost_109 rfl (lv_at hl 3 rfl) ?_
            refine ki_cSV (As := [.ref a, .int 2, .int key]) (rest := []) (wr := []) ⟨hx, hb, hml, hown, hts⟩ (c_X3_joins l D cy a t_126 st_128 hm_127 2 (by omega) (by omega) key hk0 hl2) (va_cwS 3 hts gX3_ghost_X3_joins rfl rfl rfl (by decide +kernel) ⟨Nat.le_of_ble_eq_true rfl, Nat.le_of_ble_eq_true rfl⟩) hK hE hP hD hS hA [0] rfl [0] [] rfl rfl rfl rfl (by decide) rfl hl.1 rfl (Nat.le_of_ble_eq_true rfl) dX3_ghost_110 ⟨Nat.le_of_ble_eq_true rfl, Nat.le_of_ble_eq_true rfl⟩ [0] (fun t_130 => [(a, .inl (cy, 366, .inl t_130))]) (fun _ => rfl) rfl (fun t_130 H locs hw hP hD hS => ?_)
            have hw9 := hw
            have hw9 : m_rep t_130 (va_up st_128.1 2 (k_join (st_128.1 2) key), st_128.2) := hw9
            obtain ⟨st_132, est_132⟩ : ∃ z : ki_St, z = (va_up st_128.1 2 (k_join (st_128.1 2) key), st_128.2) := ⟨_, rfl⟩
            rw [← est_132] at hw9
            have hm_131 := hw9
            have hP : va_P D vwCl [(a, .inl (cy, 366, .inl t_130))] H := hP
            have hD : va_D A [(a, .inl (cy, 366, .inl t_130))] := hD
            have e9 : c_join2 (c_from (c_room (c_adapt st (nI 4)) (if nI 4 = 4 then 1 else 0)) (nI 4) key) key = st_132 := by rw [est_132, hF, est_124, eA]; rfl
            exact ki_vret hx hb hr hlk hK hS t_130 (by rw [e9]; exact hm_131) hP hD dX3_ghost_113
set_option maxHeartbeats 4000000 in
set_option maxRecDepth 100000 in
theorem c_X3_miss (l : Launch) (D : va_G) (cy : ClassId) (a : Nat) (t : Nat → Int32) (st : ki_St) (hm : m_rep t st) (n : Nat) (hInv : p_Inv n st) (key : Int32) (hk0 : ¬ key = -1) (hc : p_cnt st key = 0) : ki_V l yX3_miss wsX3_miss ({ frames := 4, cells := 0, slots := 0, locals := 88 }) 0 0 D [(cy, .int)] [.ref a, .int key] [(a, .inl (cy, 366, .inl t))] (S := Nat → Int32) (fun t1 => m_rep t1 (c_admit st key)) (fun t1 => [(a, .inl (cy, 366, .inl t1))]) := by
  refine ki_ofV (cc := cX3_miss) (maxL := 2) (ret := none) (by decide +kernel) rfl (Nat.le_of_ble_eq_true rfl) ?_
  intro p e s m args below meth c A ls hin hx hb hr hts hown hlk hml hK hE hP hD hA hS hl
  have hown : s.vm.findClass RX3 = some m.cls := hown
  have hl : lv_has ls 2 [(0, .ref a), (1, .int key)] := hl
  obtain ⟨hpw, k, g, r, z, ⟨hk, hk1, hk2⟩, ⟨hg, hg2⟩, -, -, -, h6, h7, h8⟩ := hInv
  have hlen := hpw.2.2
  obtain ⟨a1, a2, a3, a4, a5, a6⟩ := p_adm1 hpw hk hk1 hk2 h6 h7 h8
  have hne9 : ((c_adm1 st).1 1).length + ((c_adm1 st).1 2).length = k → ¬ c_evR (c_adm1 st) (if (0 : Int32) = 4 then 1 else 0) → ¬ (c_adm1 st).1 2 = [] := fun q _ e => by rw [e] at q; simp only [List.length_nil] at q; omega
  refine lv_aload_n hx hb dX3_miss_0 rfl (lv_at hl 0 rfl) ?_
  refine lv_iconst (v := 1) hx hb dX3_miss_1 (by decide) ?_
  refine va_iald hx hb hK hP 0 0 rfl rfl (vp_in_nI (n := 1) (by decide) (by decide)) dX3_miss_2 ?_
  rw [show (t (Int32.toNatClampNeg 1) : Int32) = nI (st.1 1).length from m_l hm (i := 1) (by decide) (by decide)]
  refine lv_aload_n hx hb dX3_miss_3 rfl (lv_at hl 0 rfl) ?_
  refine lv_iconst (v := 3) hx hb dX3_miss_4 (by decide) ?_
  refine va_iald hx hb hK hP 0 0 rfl rfl (vp_in_nI (n := 3) (by decide) (by decide)) dX3_miss_5 ?_
  rw [show (t (Int32.toNatClampNeg 3) : Int32) = nI (st.1 3).length from m_l hm (i := 3) (by decide) (by decide)]
  refine lv_iadd hx hb dX3_miss_6 ?_
  rw [show ((nI (st.1 1).length) + (nI (st.1 3).length) : Int32) = c_rg st from rfl]
  refine lv_aload_n hx hb dX3_miss_7 rfl (lv_at hl 0 rfl) ?_
  refine lv_bipush (v := 6) hx hb dX3_miss_8 (by decide) ?_
  refine va_iald hx hb hK hP 0 0 rfl rfl (vp_in_nI (n := 6) (by decide) (by decide)) dX3_miss_10 ?_
  rw [show (t (Int32.toNatClampNeg 6) : Int32) = st.2 6 from hm.2 6 (by decide) (by decide)]
  refine lv_icmp_lt (tgt := 53) hx hb dX3_miss_11 (by decide) (fun c_1 => ?_) (fun c_1 => ?_)
  · skip
    refine lv_aload_n hx hb dX3_miss_53 rfl (lv_at hl 0 rfl) ?_
    refine ki_cSR (As := [.ref a]) (rest := []) ⟨hx, hb, hml, hown, hts⟩ (c_X3_allKeys l D cy a t st hm) (va_cwS 1 hts gX3_miss_X3_allKeys rfl rfl rfl (by decide +kernel) ⟨Nat.le_of_ble_eq_true rfl, Nat.le_of_ble_eq_true rfl⟩) hK hE hP [0] rfl [0] rfl rfl hl.1 rfl (Nat.le_of_ble_eq_true rfl) dX3_miss_54 ⟨Nat.le_of_ble_eq_true rfl, Nat.le_of_ble_eq_true rfl⟩ ?_
    refine lv_iconst (v := 2) hx hb dX3_miss_57 (by decide) ?_
    refine lv_aload_n hx hb dX3_miss_58 rfl (lv_at hl 0 rfl) ?_
    refine lv_bipush (v := 6) hx hb dX3_miss_59 (by decide) ?_
    refine va_iald hx hb hK hP 0 0 rfl rfl (vp_in_nI (n := 6) (by decide) (by decide)) dX3_miss_61 ?_
    rw [show (t (Int32.toNatClampNeg 6) : Int32) = st.2 6 from hm.2 6 (by decide) (by decide)]
    refine lv_imul hx hb dX3_miss_62 ?_
    refine lv_icmp_lt (tgt := 73) hx hb dX3_miss_63 (by decide) (fun c_2 => ?_) (fun c_2 => ?_)
    · skip
      have hnr := m_rglt c_1
      have hnd : ¬ c_drops st := fun q => hnr q.1
      have hA1 : c_adm1 st = st := by unfold c_adm1; rw [if_neg hnd, if_neg hnr, if_neg (m_alllt c_2)]
      have hm_3 := hm
      rw [← hA1] at hm_3
      refine lv_aload_n hx hb dX3_miss_73 rfl (lv_at hl 0 rfl) ?_
      refine lv_iconst (v := 0) hx hb dX3_miss_74 (by decide) ?_
      refine ki_cSV (As := [.ref a, .int 0]) (rest := []) (wr := []) ⟨hx, hb, hml, hown, hts⟩ (c_X3_evictsIfFull l D cy a t (c_adm1 st) hm_3 0 a1 k g ((a2 6 (by decide)).trans hk) (by omega) ((a2 5 (by decide)).trans hg) (by omega) a3 hne9) (va_cwS 2 hts gX3_miss_X3_evictsIfFull rfl rfl rfl (by decide +kernel) ⟨Nat.le_of_ble_eq_true rfl, Nat.le_of_ble_eq_true rfl⟩) hK hE hP hD hS hA [0] rfl [0] [] rfl rfl rfl rfl (by decide) rfl hl.1 rfl (Nat.le_of_ble_eq_true rfl) dX3_miss_75 ⟨Nat.le_of_ble_eq_true rfl, Nat.le_of_ble_eq_true rfl⟩ [0] (fun t_4 => [(a, .inl (cy, 366, .inl t_4))]) (fun _ => rfl) rfl (fun t_4 H locs hw hP hD hS => ?_)
      have hw9 := hw
      have hw9 : m_rep t_4 (c_room (c_adm1 st) (if (0 : Int32) = 4 then 1 else 0)) := hw9
      obtain ⟨st_6, est_6⟩ : ∃ z : ki_St, z = c_room (c_adm1 st) (if (0 : Int32) = 4 then 1 else 0) := ⟨_, rfl⟩
      rw [← est_6] at hw9
      have hm_5 := hw9
      have hP : va_P D vwCl [(a, .inl (cy, 366, .inl t_4))] H := hP
      have hD : va_D A [(a, .inl (cy, 366, .inl t_4))] := hD
      have hR := p_room (b := (if (0 : Int32) = 4 then 1 else 0)) (k := k) (g := g) a1 ((a2 6 (by decide)).trans hk) hk1 hk2 ((a2 5 (by decide)).trans hg) (by omega) a3 hne9
      rw [← est_6] at hR
      have hl1 : (st_6.1 1).length < 64 := by have := hR.2.2.1; omega
      refine lv_aload_n hx hb dX3_miss_78 rfl (lv_at hl 0 rfl) ?_
      refine lv_iconst (v := 1) hx hb dX3_miss_79 (by decide) ?_
      refine lv_iload_n hx hb dX3_miss_80 rfl (lv_at hl 1 rfl) ?_
      refine ki_cSV (As := [.ref a, .int 1, .int key]) (rest := []) (wr := []) ⟨hx, hb, hml, hown, hts⟩ (c_X3_joins l D cy a t_4 st_6 hm_5 1 (by omega) (by omega) key hk0 hl1) (va_cwS 3 hts gX3_miss_X3_joins rfl rfl rfl (by decide +kernel) ⟨Nat.le_of_ble_eq_true rfl, Nat.le_of_ble_eq_true rfl⟩) hK hE hP hD hS hA [0] rfl [0] [] rfl rfl rfl rfl (by decide) rfl hl.1 rfl (Nat.le_of_ble_eq_true rfl) dX3_miss_81 ⟨Nat.le_of_ble_eq_true rfl, Nat.le_of_ble_eq_true rfl⟩ [0] (fun t_8 => [(a, .inl (cy, 366, .inl t_8))]) (fun _ => rfl) rfl (fun t_8 H locs hw hP hD hS => ?_)
      have hw9 := hw
      have hw9 : m_rep t_8 (va_up st_6.1 1 (k_join (st_6.1 1) key), st_6.2) := hw9
      obtain ⟨st_10, est_10⟩ : ∃ z : ki_St, z = (va_up st_6.1 1 (k_join (st_6.1 1) key), st_6.2) := ⟨_, rfl⟩
      rw [← est_10] at hw9
      have hm_9 := hw9
      have hP : va_P D vwCl [(a, .inl (cy, 366, .inl t_8))] H := hP
      have hD : va_D A [(a, .inl (cy, 366, .inl t_8))] := hD
      have e9 : c_admit st key = st_10 := by rw [est_10, est_6]; rfl
      exact ki_vret hx hb hr hlk hK hS t_8 (by rw [e9]; exact hm_9) hP hD dX3_miss_84
    · skip
      refine lv_aload_n hx hb dX3_miss_66 rfl (lv_at hl 0 rfl) ?_
      refine lv_iconst (v := 4) hx hb dX3_miss_67 (by decide) ?_
      refine lv_iconst (v := 0) hx hb dX3_miss_68 (by decide) ?_
      refine ki_cSI (As := [.ref a, .int 4, .int 0]) (rest := []) (wr := []) ⟨hx, hb, hml, hown, hts⟩ (c_X3_leaves l D cy a t st hm 4 (by omega) (by omega) 0 (by have hall := m_alleq hpw hk hk2 h8 c_2; have q9 := (p_allk hk (by omega) hpw).mp hall; have q8 : ¬ _ := fun q => m_rglt c_1 ((p_rgk hk (by omega) hpw).mpr q); omega)) (va_cwS 3 hts gX3_miss_X3_leaves rfl rfl rfl (by decide +kernel) ⟨Nat.le_of_ble_eq_true rfl, Nat.le_of_ble_eq_true rfl⟩) hK hE hP hD hS hA [0] rfl [0] [] rfl rfl rfl rfl (by decide) rfl hl.1 rfl (Nat.le_of_ble_eq_true rfl) dX3_miss_69 ⟨Nat.le_of_ble_eq_true rfl, Nat.le_of_ble_eq_true rfl⟩ [0] (fun t_12 => [(a, .inl (cy, 366, .inl t_12))]) (fun _ => rfl) rfl (fun r_15 t_12 H locs hw hP hD hS => ?_)
      have hw9 := hw
      obtain ⟨er_15, hw9⟩ := hw9
      subst er_15
      have hw9 : m_rep t_12 (va_up st.1 4 (k_gap (st.1 4) 0), st.2) := hw9
      obtain ⟨st_14, est_14⟩ : ∃ z : ki_St, z = (va_up st.1 4 (k_gap (st.1 4) 0), st.2) := ⟨_, rfl⟩
      rw [← est_14] at hw9
      have hm_13 := hw9
      have hP : va_P D vwCl [(a, .inl (cy, 366, .inl t_12))] H := hP
      have hD : va_D A [(a, .inl (cy, 366, .inl t_12))] := hD
      refine lv_pop hx hb dX3_miss_72 rfl ?_
      have hnr := m_rglt c_1
      have hnd : ¬ c_drops st := fun q => hnr q.1
      have hall := m_alleq hpw hk hk2 h8 c_2
      have hA1 : c_adm1 st = st_14 := by subst est_14; unfold c_adm1; rw [if_neg hnd, if_neg hnr, if_pos hall]
      have hm_16 := hm_13
      rw [← hA1] at hm_16
      refine lv_aload_n hx hb dX3_miss_73 rfl (lv_at hl 0 rfl) ?_
      refine lv_iconst (v := 0) hx hb dX3_miss_74 (by decide) ?_
      refine ki_cSV (As := [.ref a, .int 0]) (rest := []) (wr := []) ⟨hx, hb, hml, hown, hts⟩ (c_X3_evictsIfFull l D cy a t_12 (c_adm1 st) hm_16 0 a1 k g ((a2 6 (by decide)).trans hk) (by omega) ((a2 5 (by decide)).trans hg) (by omega) a3 hne9) (va_cwS 2 hts gX3_miss_X3_evictsIfFull rfl rfl rfl (by decide +kernel) ⟨Nat.le_of_ble_eq_true rfl, Nat.le_of_ble_eq_true rfl⟩) hK hE hP hD hS hA [0] rfl [0] [] rfl rfl rfl rfl (by decide) rfl hl.1 rfl (Nat.le_of_ble_eq_true rfl) dX3_miss_75 ⟨Nat.le_of_ble_eq_true rfl, Nat.le_of_ble_eq_true rfl⟩ [0] (fun t_17 => [(a, .inl (cy, 366, .inl t_17))]) (fun _ => rfl) rfl (fun t_17 H locs hw hP hD hS => ?_)
      have hw9 := hw
      have hw9 : m_rep t_17 (c_room (c_adm1 st) (if (0 : Int32) = 4 then 1 else 0)) := hw9
      obtain ⟨st_19, est_19⟩ : ∃ z : ki_St, z = c_room (c_adm1 st) (if (0 : Int32) = 4 then 1 else 0) := ⟨_, rfl⟩
      rw [← est_19] at hw9
      have hm_18 := hw9
      have hP : va_P D vwCl [(a, .inl (cy, 366, .inl t_17))] H := hP
      have hD : va_D A [(a, .inl (cy, 366, .inl t_17))] := hD
      have hR := p_room (b := (if (0 : Int32) = 4 then 1 else 0)) (k := k) (g := g) a1 ((a2 6 (by decide)).trans hk) hk1 hk2 ((a2 5 (by decide)).trans hg) (by omega) a3 hne9
      rw [← est_19] at hR
      have hl1 : (st_19.1 1).length < 64 := by have := hR.2.2.1; omega
      refine lv_aload_n hx hb dX3_miss_78 rfl (lv_at hl 0 rfl) ?_
      refine lv_iconst (v := 1) hx hb dX3_miss_79 (by decide) ?_
      refine lv_iload_n hx hb dX3_miss_80 rfl (lv_at hl 1 rfl) ?_
      refine ki_cSV (As := [.ref a, .int 1, .int key]) (rest := []) (wr := []) ⟨hx, hb, hml, hown, hts⟩ (c_X3_joins l D cy a t_17 st_19 hm_18 1 (by omega) (by omega) key hk0 hl1) (va_cwS 3 hts gX3_miss_X3_joins rfl rfl rfl (by decide +kernel) ⟨Nat.le_of_ble_eq_true rfl, Nat.le_of_ble_eq_true rfl⟩) hK hE hP hD hS hA [0] rfl [0] [] rfl rfl rfl rfl (by decide) rfl hl.1 rfl (Nat.le_of_ble_eq_true rfl) dX3_miss_81 ⟨Nat.le_of_ble_eq_true rfl, Nat.le_of_ble_eq_true rfl⟩ [0] (fun t_21 => [(a, .inl (cy, 366, .inl t_21))]) (fun _ => rfl) rfl (fun t_21 H locs hw hP hD hS => ?_)
      have hw9 := hw
      have hw9 : m_rep t_21 (va_up st_19.1 1 (k_join (st_19.1 1) key), st_19.2) := hw9
      obtain ⟨st_23, est_23⟩ : ∃ z : ki_St, z = (va_up st_19.1 1 (k_join (st_19.1 1) key), st_19.2) := ⟨_, rfl⟩
      rw [← est_23] at hw9
      have hm_22 := hw9
      have hP : va_P D vwCl [(a, .inl (cy, 366, .inl t_21))] H := hP
      have hD : va_D A [(a, .inl (cy, 366, .inl t_21))] := hD
      have e9 : c_admit st key = st_23 := by rw [est_23, est_19]; rfl
      exact ki_vret hx hb hr hlk hK hS t_21 (by rw [e9]; exact hm_22) hP hD dX3_miss_84
  · skip
    refine lv_aload_n hx hb dX3_miss_14 rfl (lv_at hl 0 rfl) ?_
    refine lv_iconst (v := 3) hx hb dX3_miss_15 (by decide) ?_
    refine va_iald hx hb hK hP 0 0 rfl rfl (vp_in_nI (n := 3) (by decide) (by decide)) dX3_miss_16 ?_
    rw [show (t (Int32.toNatClampNeg 3) : Int32) = nI (st.1 3).length from m_l hm (i := 3) (by decide) (by decide)]
    refine lv_if_ne (tgt := 38) hx hb dX3_miss_17 (by decide) (fun c_25 => ?_) (fun c_25 => ?_)
    · skip
      refine lv_aload_n hx hb dX3_miss_38 rfl (lv_at hl 0 rfl) ?_
      refine lv_iconst (v := 3) hx hb dX3_miss_39 (by decide) ?_
      refine lv_iconst (v := 0) hx hb dX3_miss_40 (by decide) ?_
      refine ki_cSI (As := [.ref a, .int 3, .int 0]) (rest := []) (wr := []) ⟨hx, hb, hml, hown, hts⟩ (c_X3_leaves l D cy a t st hm 3 (by omega) (by omega) 0 (by rcases Nat.eq_zero_or_pos (st.1 3).length with q9 | q9; exact absurd (by rw [q9]; rfl) c_25; exact q9)) (va_cwS 3 hts gX3_miss_X3_leaves rfl rfl rfl (by decide +kernel) ⟨Nat.le_of_ble_eq_true rfl, Nat.le_of_ble_eq_true rfl⟩) hK hE hP hD hS hA [0] rfl [0] [] rfl rfl rfl rfl (by decide) rfl hl.1 rfl (Nat.le_of_ble_eq_true rfl) dX3_miss_41 ⟨Nat.le_of_ble_eq_true rfl, Nat.le_of_ble_eq_true rfl⟩ [0] (fun t_26 => [(a, .inl (cy, 366, .inl t_26))]) (fun _ => rfl) rfl (fun r_29 t_26 H locs hw hP hD hS => ?_)
      have hw9 := hw
      obtain ⟨er_29, hw9⟩ := hw9
      subst er_29
      have hw9 : m_rep t_26 (va_up st.1 3 (k_gap (st.1 3) 0), st.2) := hw9
      obtain ⟨st_28, est_28⟩ : ∃ z : ki_St, z = (va_up st.1 3 (k_gap (st.1 3) 0), st.2) := ⟨_, rfl⟩
      rw [← est_28] at hw9
      have hm_27 := hw9
      have hP : va_P D vwCl [(a, .inl (cy, 366, .inl t_26))] H := hP
      have hD : va_D A [(a, .inl (cy, 366, .inl t_26))] := hD
      refine lv_pop hx hb dX3_miss_44 rfl ?_
      have hrg := m_rgeq hpw hk (by omega) h7 c_1
      have hnd : ¬ c_drops st := fun q => c_25 q.2
      have hA1 : c_adm1 st = st_28 := by subst est_28; unfold c_adm1; rw [if_neg hnd, if_pos hrg]
      have hm_30 := hm_27
      rw [← hA1] at hm_30
      refine lv_aload_n hx hb dX3_miss_45 rfl (lv_at hl 0 rfl) ?_
      refine lv_iconst (v := 0) hx hb dX3_miss_46 (by decide) ?_
      refine ki_cSV (As := [.ref a, .int 0]) (rest := []) (wr := []) ⟨hx, hb, hml, hown, hts⟩ (c_X3_evictsIfFull l D cy a t_26 (c_adm1 st) hm_30 0 a1 k g ((a2 6 (by decide)).trans hk) (by omega) ((a2 5 (by decide)).trans hg) (by omega) a3 hne9) (va_cwS 2 hts gX3_miss_X3_evictsIfFull rfl rfl rfl (by decide +kernel) ⟨Nat.le_of_ble_eq_true rfl, Nat.le_of_ble_eq_true rfl⟩) hK hE hP hD hS hA [0] rfl [0] [] rfl rfl rfl rfl (by decide) rfl hl.1 rfl (Nat.le_of_ble_eq_true rfl) dX3_miss_47 ⟨Nat.le_of_ble_eq_true rfl, Nat.le_of_ble_eq_true rfl⟩ [0] (fun t_31 => [(a, .inl (cy, 366, .inl t_31))]) (fun _ => rfl) rfl (fun t_31 H locs hw hP hD hS => ?_)
      have hw9 := hw
      have hw9 : m_rep t_31 (c_room (c_adm1 st) (if (0 : Int32) = 4 then 1 else 0)) := hw9
      obtain ⟨st_33, est_33⟩ : ∃ z : ki_St, z = c_room (c_adm1 st) (if (0 : Int32) = 4 then 1 else 0) := ⟨_, rfl⟩
      rw [← est_33] at hw9
      have hm_32 := hw9
      have hP : va_P D vwCl [(a, .inl (cy, 366, .inl t_31))] H := hP
      have hD : va_D A [(a, .inl (cy, 366, .inl t_31))] := hD
      refine lv_goto (tgt := 78) hx hb dX3_miss_50 (by decide) ?_
      have hR := p_room (b := (if (0 : Int32) = 4 then 1 else 0)) (k := k) (g := g) a1 ((a2 6 (by decide)).trans hk) hk1 hk2 ((a2 5 (by decide)).trans hg) (by omega) a3 hne9
      rw [← est_33] at hR
      have hl1 : (st_33.1 1).length < 64 := by have := hR.2.2.1; omega
      refine lv_aload_n hx hb dX3_miss_78 rfl (lv_at hl 0 rfl) ?_
      refine lv_iconst (v := 1) hx hb dX3_miss_79 (by decide) ?_
      refine lv_iload_n hx hb dX3_miss_80 rfl (lv_at hl 1 rfl) ?_
      refine ki_cSV (As := [.ref a, .int 1, .int key]) (rest := []) (wr := []) ⟨hx, hb, hml, hown, hts⟩ (c_X3_joins l D cy a t_31 st_33 hm_32 1 (by omega) (by omega) key hk0 hl1) (va_cwS 3 hts gX3_miss_X3_joins rfl rfl rfl (by decide +kernel) ⟨Nat.le_of_ble_eq_true rfl, Nat.le_of_ble_eq_true rfl⟩) hK hE hP hD hS hA [0] rfl [0] [] rfl rfl rfl rfl (by decide) rfl hl.1 rfl (Nat.le_of_ble_eq_true rfl) dX3_miss_81 ⟨Nat.le_of_ble_eq_true rfl, Nat.le_of_ble_eq_true rfl⟩ [0] (fun t_35 => [(a, .inl (cy, 366, .inl t_35))]) (fun _ => rfl) rfl (fun t_35 H locs hw hP hD hS => ?_)
      have hw9 := hw
      have hw9 : m_rep t_35 (va_up st_33.1 1 (k_join (st_33.1 1) key), st_33.2) := hw9
      obtain ⟨st_37, est_37⟩ : ∃ z : ki_St, z = (va_up st_33.1 1 (k_join (st_33.1 1) key), st_33.2) := ⟨_, rfl⟩
      rw [← est_37] at hw9
      have hm_36 := hw9
      have hP : va_P D vwCl [(a, .inl (cy, 366, .inl t_35))] H := hP
      have hD : va_D A [(a, .inl (cy, 366, .inl t_35))] := hD
      have e9 : c_admit st key = st_37 := by rw [est_37, est_33]; rfl
      exact ki_vret hx hb hr hlk hK hS t_35 (by rw [e9]; exact hm_36) hP hD dX3_miss_84
    · skip
      refine lv_aload_n hx hb dX3_miss_20 rfl (lv_at hl 0 rfl) ?_
      refine lv_iconst (v := 1) hx hb dX3_miss_21 (by decide) ?_
      refine lv_iconst (v := 0) hx hb dX3_miss_22 (by decide) ?_
      refine ki_cSI (As := [.ref a, .int 1, .int 0]) (rest := []) (wr := []) ⟨hx, hb, hml, hown, hts⟩ (c_X3_leaves l D cy a t st hm 1 (by omega) (by omega) 0 (by have hrg := m_rgeq hpw hk (by omega) h7 c_1; have q9 := (p_drops hk (by omega) hpw).mp ⟨hrg, c_25⟩; omega)) (va_cwS 3 hts gX3_miss_X3_leaves rfl rfl rfl (by decide +kernel) ⟨Nat.le_of_ble_eq_true rfl, Nat.le_of_ble_eq_true rfl⟩) hK hE hP hD hS hA [0] rfl [0] [] rfl rfl rfl rfl (by decide) rfl hl.1 rfl (Nat.le_of_ble_eq_true rfl) dX3_miss_23 ⟨Nat.le_of_ble_eq_true rfl, Nat.le_of_ble_eq_true rfl⟩ [0] (fun t_39 => [(a, .inl (cy, 366, .inl t_39))]) (fun _ => rfl) rfl (fun r_42 t_39 H locs hw hP hD hS => ?_)
      have hw9 := hw
      obtain ⟨er_42, hw9⟩ := hw9
      subst er_42
      have hw9 : m_rep t_39 (va_up st.1 1 (k_gap (st.1 1) 0), st.2) := hw9
      obtain ⟨st_41, est_41⟩ : ∃ z : ki_St, z = (va_up st.1 1 (k_gap (st.1 1) 0), st.2) := ⟨_, rfl⟩
      rw [← est_41] at hw9
      have hm_40 := hw9
      have hP : va_P D vwCl [(a, .inl (cy, 366, .inl t_39))] H := hP
      have hD : va_D A [(a, .inl (cy, 366, .inl t_39))] := hD
      refine lv_pop hx hb dX3_miss_26 rfl ?_
      refine lv_aload_n hx hb dX3_miss_27 rfl (lv_at hl 0 rfl) ?_
      refine lv_bipush (v := 10) hx hb dX3_miss_28 (by decide) ?_
      refine lv_dup2_11 hx hb dX3_miss_30 rfl rfl ?_
      refine va_iald hx hb hK hP 0 0 rfl rfl (vp_in_nI (n := 10) (by decide) (by decide)) dX3_miss_31 ?_
      rw [show (t_39 (Int32.toNatClampNeg 10) : Int32) = st_41.2 10 from hm_40.2 10 (by decide) (by decide)]
      refine lv_iconst (v := 1) hx hb dX3_miss_32 (by decide) ?_
      refine lv_iadd hx hb dX3_miss_33 ?_
      refine va_iast hx hb hK hP hD hS 0 0 rfl rfl (vp_in_nI (n := 10) (by decide) (by decide)) dX3_miss_34 (fun H locs hP hD hS => ?_)
      obtain ⟨t_43, et_43⟩ : ∃ z : Nat → Int32, z = upd t_39 (Int32.toNatClampNeg 10) ((st_41.2 10) + 1) := ⟨_, rfl⟩
      rw [← et_43] at hP hD
      have hm_44 : m_rep t_43 (st_41.1, va_up st_41.2 10 ((st_41.2 10) + 1)) := by rw [et_43]; exact m_z (i := 10) hm_40 (by decide) (by decide)
      have hP : va_P D vwCl [(a, .inl (cy, 366, .inl t_43))] H := hP
      have hD : va_D A [(a, .inl (cy, 366, .inl t_43))] := hD
      refine lv_goto (tgt := 78) hx hb dX3_miss_35 (by decide) ?_
      have hrg := m_rgeq hpw hk (by omega) h7 c_1
      have hD9 := m_drop hpw hk hk1 hk2 h6 ⟨hrg, c_25⟩
      have hl1 : ((st_41.1) 1).length < 64 := by subst est_41; show (k_gap (st.1 1) 0).length < 64; rw [k_gap0_len (by omega)]; omega
      refine lv_aload_n hx hb dX3_miss_78 rfl (lv_at hl 0 rfl) ?_
      refine lv_iconst (v := 1) hx hb dX3_miss_79 (by decide) ?_
      refine lv_iload_n hx hb dX3_miss_80 rfl (lv_at hl 1 rfl) ?_
      refine ki_cSV (As := [.ref a, .int 1, .int key]) (rest := []) (wr := []) ⟨hx, hb, hml, hown, hts⟩ (c_X3_joins l D cy a t_43 (st_41.1, (va_up st_41.2 10 ((st_41.2 10) + 1))) hm_44 1 (by omega) (by omega) key hk0 hl1) (va_cwS 3 hts gX3_miss_X3_joins rfl rfl rfl (by decide +kernel) ⟨Nat.le_of_ble_eq_true rfl, Nat.le_of_ble_eq_true rfl⟩) hK hE hP hD hS hA [0] rfl [0] [] rfl rfl rfl rfl (by decide) rfl hl.1 rfl (Nat.le_of_ble_eq_true rfl) dX3_miss_81 ⟨Nat.le_of_ble_eq_true rfl, Nat.le_of_ble_eq_true rfl⟩ [0] (fun t_45 => [(a, .inl (cy, 366, .inl t_45))]) (fun _ => rfl) rfl (fun t_45 H locs hw hP hD hS => ?_)
      have hw9 := hw
      have hw9 : m_rep t_45 (va_up (st_41.1, (va_up st_41.2 10 ((st_41.2 10) + 1))).1 1 (k_join ((st_41.1, (va_up st_41.2 10 ((st_41.2 10) + 1))).1 1) key), (st_41.1, (va_up st_41.2 10 ((st_41.2 10) + 1))).2) := hw9
      obtain ⟨st_47, est_47⟩ : ∃ z : ki_St, z = (va_up (st_41.1, (va_up st_41.2 10 ((st_41.2 10) + 1))).1 1 (k_join ((st_41.1, (va_up st_41.2 10 ((st_41.2 10) + 1))).1 1) key), (st_41.1, (va_up st_41.2 10 ((st_41.2 10) + 1))).2) := ⟨_, rfl⟩
      rw [← est_47] at hw9
      have hm_46 := hw9
      have hP : va_P D vwCl [(a, .inl (cy, 366, .inl t_45))] H := hP
      have hD : va_D A [(a, .inl (cy, 366, .inl t_45))] := hD
      have e9 : c_admit st key = st_47 := by subst est_47; subst est_41; unfold c_admit; rw [hD9.1, hD9.2]
      exact ki_vret hx hb hr hlk hK hS t_45 (by rw [e9]; exact hm_46) hP hD dX3_miss_84
