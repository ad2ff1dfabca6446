/-! ===== the reference: a new capacity ===== -/
theorem m_up_id {α : Type} {f : Nat → α} {i : Nat} : va_up f i (f i) = f := by
  funext x
  unfold va_up
  by_cases q : x = i
  · rw [if_pos q, q]
  · rw [if_neg q]
theorem m_le1 {k : Int32} {a b : Nat} (e : k = nI b) (h : a ≤ b) (hb : b < 2 ^ 31) : nI a ≤ k := by rw [e]; exact nI_le h hb
theorem m_le2 {k : Int32} {a b : Nat} (e : k = nI b) (ha : a < 2 ^ 31) (h : nI a ≤ k) : a ≤ b := by
  rw [e] at h
  rcases Nat.lt_or_ge b a with q | q
  · exact absurd h (nI_ge q ha)
  · exact q
theorem m_up_up {α : Type} {f : Nat → α} {i : Nat} {a b : α} : va_up (va_up f i a) i b = va_up f i b := by
  funext x
  unfold va_up
  by_cases q : x = i
  · rw [if_pos q, if_pos q]
  · rw [if_neg q, if_neg q, if_neg q]
set_option maxHeartbeats 4000000 in
set_option maxRecDepth 100000 in
theorem c_X3_setCapacity (l : Launch) (D : va_G) (cy : ClassId) (mo an ae al ap : Nat) (ln th : Int32) (kk : Nat → Int32) (t : Nat → Int32) (st : ki_St) (hm : m_rep t st) (n : Nat) (hn : n < 2 ^ 30) (hInv : p_Inv n st) (k : Int32) : ki_I l yX3_setCapacity wsX3_setCapacity ({ frames := 3, cells := 0, slots := 0, locals := 67 }) 0 0 D [(cy, .int)] [.ref mo, .int k] [(mo, .inr (3, [.ref an, .ref ae, .ref al, .ref ap, .int ln, .int (kk 0), .int (kk 1), .int (kk 2), .int (kk 3), .int th])), (an, .inl (cy, 366, .inl t))] (S := Nat → Int32) (fun r (t1 : Nat → Int32) => r = (if ¬ a_badCap k then c_capN st k else 0) ∧ m_rep t1 (if ¬ a_badCap k then c_cap st k else st)) (fun t1 => [(mo, .inr (3, [.ref an, .ref ae, .ref al, .ref ap, .int ln, .int (kk 0), .int (kk 1), .int (kk 2), .int (kk 3), .int (if ¬ a_badCap k then 0 else 1)])), (an, .inl (cy, 366, .inl t1))]) := by
  refine ki_ofI (cc := cX3_setCapacity) (maxL := 3) (ret := (some .int)) (by decide +kernel) rfl (Nat.le_of_ble_eq_true rfl) ?_
  intro p e s m args below meth c A ls hx hb hr hts hown hlk hml hK hE hP hD hA hS hl
  have hown : s.vm.findClass RX3 = some m.cls := hown
  have hl : lv_has ls 3 [(0, .ref mo), (1, .int k)] := hl
  have hiX3 : ∀ w ∈ u_ws RX3 TX3 10, w ∈ wsX3_setCapacity := by decide +kernel
  refine lv_aload_n hx hb dX3_setCapacity_0 rfl (lv_at hl 0 rfl) ?_
  refine lv_iload_n hx hb dX3_setCapacity_1 rfl (lv_at hl 1 rfl) ?_
  refine ki_cSR (As := [.int k]) (rest := [.ref mo]) ⟨hx, hb, hml, hown, hts⟩ (c_X3_isCapacity l D k) (va_cwS 1 hts gX3_setCapacity_X3_isCapacity rfl rfl rfl (by decide +kernel) ⟨Nat.le_of_ble_eq_true rfl, Nat.le_of_ble_eq_true rfl⟩) hK hE hP [] rfl [] rfl rfl hl.1 rfl (Nat.le_of_ble_eq_true rfl) dX3_setCapacity_2 ⟨Nat.le_of_ble_eq_true rfl, Nat.le_of_ble_eq_true rfl⟩ ?_
  refine ki_cVI (As := [.int (if ¬ a_badCap k then 1 else 0)]) (rest := []) (wr := [(an, .inl (cy, 366, .inl t))]) ⟨hx, hb, hml, hown, hts⟩ (c_X3_asked l D mo an ae al ap ln th kk (¬ a_badCap k)) (cwV 1 hts gX3_setCapacity_X3_asked rfl rfl rfl (by decide +kernel) ⟨Nat.le_of_ble_eq_true rfl, Nat.le_of_ble_eq_true rfl⟩) hK hE hP hD hS hA [] rfl [0] [1] rfl rfl rfl rfl (by decide) 3 0 rfl rfl rfl rfl hl.1 rfl (Nat.le_of_ble_eq_true rfl) dX3_setCapacity_5 ⟨Nat.le_of_ble_eq_true rfl, Nat.le_of_ble_eq_true rfl⟩ [1, 0] (fun u_2 => [(mo, .inr (3, [.ref an, .ref ae, .ref al, .ref ap, .int ln, .int (kk 0), .int (kk 1), .int (kk 2), .int (kk 3), .int (if ¬ a_badCap k then 0 else 1)])), (an, .inl (cy, 366, .inl t))]) (fun _ => rfl) rfl (fun r_1 u_2 H locs hw hP hD hS => ?_)
  subst hw
  have hP : va_P D vwCl [(mo, .inr (3, [.ref an, .ref ae, .ref al, .ref ap, .int ln, .int (kk 0), .int (kk 1), .int (kk 2), .int (kk 3), .int (if ¬ a_badCap k then 0 else 1)])), (an, .inl (cy, 366, .inl t))] H := hP
  have hD : va_D A [(mo, .inr (3, [.ref an, .ref ae, .ref al, .ref ap, .int ln, .int (kk 0), .int (kk 1), .int (kk 2), .int (kk 3), .int (if ¬ a_badCap k then 0 else 1)])), (an, .inl (cy, 366, .inl t))] := hD
  refine lv_if_ne (tgt := 13) hx hb dX3_setCapacity_8 (by decide) (fun c_3 => ?_) (fun c_3 => ?_)
  · skip
    have c_3 : ¬ a_badCap k := ki_b1.mp c_3
    have hok := c_3
    obtain ⟨kq, hk1, hk2, hkq⟩ := m_badCap hok
    have hC := p_cap0 hInv hk1 hk2
    rw [← hkq] at hC
    obtain ⟨g, hg, hg5, hg6, hw1, hcN⟩ := hC
    obtain ⟨P, eP⟩ : ∃ P : Nat, P = (st.1 1).length + (st.1 2).length := ⟨_, rfl⟩
    rw [← eP] at hcN
    have hI0 := hInv
    obtain ⟨hw0, k0, g0, r0, z0, -, -, -, -, -, i6, i7, i8⟩ := hI0
    have hl0 := hw0.2.2
    have hEv := p_evN (k := kq) (P := P) hw1 hk2 hg5 hg eP.symm
    have e2 : c_cap2 st k = c_evN (P - kq) (c_cap1 st k) := by unfold c_cap2; rw [hcN, nI_clamp (by omega)]
    obtain ⟨a1, a2, a3, a4, a5, a6, -⟩ := hEv (P - kq) (Nat.le_refl _)
    rw [← e2] at a1 a2 a3 a4 a5 a6
    change _ = (st.1 1).length + (st.1 3).length at a5
    change _ = (st.1 2).length + (st.1 4).length at a6
    change _ = st.2 10 + nI (P - kq) at a3
    have hS2 := a1.2.2
    have c26 : (c_cap2 st k).2 6 = nI kq := (a2 6 (by decide)).trans (hg6.trans hkq)
    obtain ⟨N2, eN2⟩ : ∃ N2 : Nat, N2 = ((c_cap2 st k).1 1).length + ((c_cap2 st k).1 3).length - kq := ⟨_, rfl⟩
    have e3 : c_cap3 st k = (va_up (c_cap2 st k).1 3 (k_dropN N2 ((c_cap2 st k).1 3)), (c_cap2 st k).2) := by unfold c_cap3; rw [p_drop2 a1 hk2 c26, ← eN2]
    have hw3 : p_W (c_cap3 st k) := by rw [e3]; exact p_W_sub (st := c_cap2 st k) (List.Sublist.refl _) (List.Sublist.refl _) (k_dropN_sub (L := (c_cap2 st k).1 3) _) (List.Sublist.refl _) a1
    have f1 : ((c_cap3 st k).1 1).length = ((c_cap2 st k).1 1).length := by rw [e3]; rfl
    have f2 : ((c_cap3 st k).1 2).length = ((c_cap2 st k).1 2).length := by rw [e3]; rfl
    have f4 : ((c_cap3 st k).1 4).length = ((c_cap2 st k).1 4).length := by rw [e3]; rfl
    have f3 : ((c_cap3 st k).1 3).length = ((c_cap2 st k).1 3).length - N2 := by rw [e3]; exact k_dropN_len (by omega) _
    have hS3 := hw3.2.2
    have c36 : (c_cap3 st k).2 6 = nI kq := by rw [e3]; exact c26
    obtain ⟨N3, eN3⟩ : ∃ N3 : Nat, N3 = ((c_cap3 st k).1 1).length + ((c_cap3 st k).1 2).length + ((c_cap3 st k).1 3).length + ((c_cap3 st k).1 4).length - 2 * kq := ⟨_, rfl⟩
    have e4 : c_cap st k = (va_up (c_cap3 st k).1 4 (k_dropN N3 ((c_cap3 st k).1 4)), (c_cap3 st k).2) := by unfold c_cap; rw [p_drop3 hw3 hk2 c36, ← eN3]
    have hkq2 : 2 * k = nI (2 * kq) := by rw [hkq]; exact pk_mul 2 kq
    have g12 : ((c_cap2 st k).1 1).length + ((c_cap2 st k).1 2).length ≤ kq := by omega
    have g64 : ((c_cap2 st k).1 3).length ≤ 64 := by omega
    have j12 : ((c_cap3 st k).1 1).length + ((c_cap3 st k).1 2).length ≤ kq := by omega
    have j13 : ((c_cap3 st k).1 1).length + ((c_cap3 st k).1 3).length ≤ kq := by omega
    have j64 : ((c_cap3 st k).1 4).length ≤ 64 := by omega
    have hret : (c_cap3 st k).2 10 - st.2 10 = c_capN st k := by rw [e3]; show (c_cap2 st k).2 10 - st.2 10 = _; rw [a3, hcN]; exact m_sub_cancel _ _
    clear f1 f2 f3 f4 a4 a5 a6 i6 i7 i8 hl0 hS2 hS3 hn
    have K113 : ∀ (t2 : Nat → Int32) (H : Heap) (locs : List Loc) (ls : Array Slot), (m_rep t2 (c_cap3 st k)) → va_P D vwCl [(mo, .inr (3, [.ref an, .ref ae, .ref al, .ref ap, .int ln, .int (kk 0), .int (kk 1), .int (kk 2), .int (kk 3), .int (if ¬ a_badCap k then 0 else 1)])), (an, .inl (cy, 366, .inl t2))] H → va_D A [(mo, .inr (3, [.ref an, .ref ae, .ref al, .ref ap, .int ln, .int (kk 0), .int (kk 1), .int (kk 2), .int (kk 3), .int (if ¬ a_badCap k then 0 else 1)])), (an, .inl (cy, 366, .inl t2))] → va_S A s.heap H locs → lv_has ls 3 [(2, .int (st.2 10)), (0, .ref mo), (1, .int k)] → W p l e ({ frames := 3, cells := 0, slots := 0, locals := 67 }) s m args below meth c H locs 0 0 (MQ below (va_Qi (fun r (t1 : Nat → Int32) => r = (if ¬ a_badCap k then c_capN st k else 0) ∧ m_rep t1 (if ¬ a_badCap k then c_cap st k else st)) (ki_B D [(cy, .int)] A (fun (t1 : Nat → Int32) => [(mo, .inr (3, [.ref an, .ref ae, .ref al, .ref ap, .int ln, .int (kk 0), .int (kk 1), .int (kk 2), .int (kk 3), .int (if ¬ a_badCap k then 0 else 1)])), (an, .inl (cy, 366, .inl t1))])) A) args s 0 0 A) (F0 m 113 ls []) := by
      intro t2 H locs ls hm2 hP hD hS hl
      have lp3 : ∀ (n9 : Nat) (i : Nat) (t3 : Nat → Int32) (H : Heap) (locs : List Loc) (ls : Array Slot), (N3 - i < n9) → (i ≤ N3) → (m_rep t3 (va_up (c_cap3 st k).1 4 (k_dropN i ((c_cap3 st k).1 4)), (c_cap3 st k).2)) → va_P D vwCl [(mo, .inr (3, [.ref an, .ref ae, .ref al, .ref ap, .int ln, .int (kk 0), .int (kk 1), .int (kk 2), .int (kk 3), .int (if ¬ a_badCap k then 0 else 1)])), (an, .inl (cy, 366, .inl t3))] H → va_D A [(mo, .inr (3, [.ref an, .ref ae, .ref al, .ref ap, .int ln, .int (kk 0), .int (kk 1), .int (kk 2), .int (kk 3), .int (if ¬ a_badCap k then 0 else 1)])), (an, .inl (cy, 366, .inl t3))] → va_S A s.heap H locs → lv_has ls 3 [(2, .int (st.2 10)), (0, .ref mo), (1, .int k)] → W p l e ({ frames := 3, cells := 0, slots := 0, locals := 67 }) s m args below meth c H locs 0 0 (MQ below (va_Qi (fun r (t1 : Nat → Int32) => r = (if ¬ a_badCap k then c_capN st k else 0) ∧ m_rep t1 (if ¬ a_badCap k then c_cap st k else st)) (ki_B D [(cy, .int)] A (fun (t1 : Nat → Int32) => [(mo, .inr (3, [.ref an, .ref ae, .ref al, .ref ap, .int ln, .int (kk 0), .int (kk 1), .int (kk 2), .int (kk 3), .int (if ¬ a_badCap k then 0 else 1)])), (an, .inl (cy, 366, .inl t1))])) A) args s 0 0 A) (F0 m 113 ls []) := by
        intro n9
        induction n9 with
        | zero => intro i t3 H locs ls h; omega
        | succ n9 ih =>
          intro i t3 H locs ls hm9 hi hm3 hP hD hS hl
          refine lv_aload_n hx hb dX3_setCapacity_113 rfl (lv_at hl 1 rfl) ?_
          refine va_get (D := D) (ci := 3) (v := .ref an) (C := RX3) (T := TX3) (N := 10) hx hb hts hiX3 hown hK hP 0 rfl rfl 0 (by decide) (hts (.fieldLink RX3 7 "AdaptiveReplacementCacheModel" "now" "[I") (by decide +kernel)) (fun _ h9 => h9) rfl dX3_setCapacity_114 ?_
          refine ki_cSR (As := [.ref an]) (rest := []) ⟨hx, hb, hml, hown, hts⟩ (c_X3_allKeys l D cy an t3 ((va_up (c_cap3 st k).1 4 (k_dropN i ((c_cap3 st k).1 4))), ((c_cap3 st k).2)) hm3) (va_cwS 1 hts gX3_setCapacity_X3_allKeys rfl rfl rfl (by decide +kernel) ⟨Nat.le_of_ble_eq_true rfl, Nat.le_of_ble_eq_true rfl⟩) hK hE hP [0] rfl [1] rfl rfl hl.1 rfl (Nat.le_of_ble_eq_true rfl) dX3_setCapacity_117 ⟨Nat.le_of_ble_eq_true rfl, Nat.le_of_ble_eq_true rfl⟩ ?_
          refine lv_iconst (v := 2) hx hb dX3_setCapacity_120 (by decide) ?_
          refine lv_iload_n hx hb dX3_setCapacity_121 rfl (lv_at hl 2 rfl) ?_
          refine lv_imul hx hb dX3_setCapacity_122 ?_
          refine lv_icmp_le (tgt := 139) hx hb dX3_setCapacity_123 (by decide) (fun c_4 => ?_) (fun c_4 => ?_)
          · skip
            have q9 : nI (((c_cap3 st k).1 1).length + ((c_cap3 st k).1 2).length + ((c_cap3 st k).1 3).length + (((c_cap3 st k).1 4).length - i)) ≤ 2 * k := by rw [← k_dropN_len (L := (c_cap3 st k).1 4) j64 i]; have q8 := c_4; rw [p_all] at q8; exact q8
            have hiN : i = N3 := by have q8 := m_le2 hkq2 (by omega) q9; omega
            refine lv_aload_n hx hb dX3_setCapacity_139 rfl (lv_at hl 1 rfl) ?_
            refine va_get (D := D) (ci := 3) (v := .ref an) (C := RX3) (T := TX3) (N := 10) hx hb hts hiX3 hown hK hP 0 rfl rfl 0 (by decide) (hts (.fieldLink RX3 7 "AdaptiveReplacementCacheModel" "now" "[I") (by decide +kernel)) (fun _ h9 => h9) rfl dX3_setCapacity_140 ?_
            refine lv_bipush (v := 10) hx hb dX3_setCapacity_143 (by decide) ?_
            refine va_iald hx hb hK hP 1 0 rfl rfl (vp_in_nI (n := 10) (by decide) (by decide)) dX3_setCapacity_145 ?_
            refine lv_topi (fun y_5 ey_5 => ?_)
            have ey_5 : y_5 = ((c_cap3 st k).2) 10 := ey_5.trans (hm3.2 10 (by decide) (by decide))
            subst ey_5
            refine lv_iload_n hx hb dX3_setCapacity_146 rfl (lv_at hl 0 rfl) ?_
            refine lv_isub hx hb dX3_setCapacity_147 ?_
            refine lv_topi (fun y_6 ey_6 => ?_)
            have ey_6 : y_6 = c_capN st k := ey_6.trans hret
            subst ey_6
            exact ki_iret hx hb hr hlk hK hS t3 ⟨(if_pos hok).symm, by rw [if_pos hok, e4, ← hiN]; exact hm3⟩ (by simp only [if_pos hok] at hP ⊢; exact hP) (by simp only [if_pos hok] at hD ⊢; exact hD) dX3_setCapacity_148
          · skip
            have hil : i < N3 := by rcases Nat.lt_or_ge i N3 with q9 | q9; exact q9; exact absurd (show nI (((c_cap3 st k).1 1).length + ((c_cap3 st k).1 2).length + ((c_cap3 st k).1 3).length + (k_dropN i ((c_cap3 st k).1 4)).length) ≤ 2 * k from by rw [k_dropN_len j64]; exact m_le1 hkq2 (by omega) (by omega)) (by have q8 := c_4; rw [p_all] at q8; exact q8)
            refine lv_aload_n hx hb dX3_setCapacity_126 rfl (lv_at hl 1 rfl) ?_
            refine va_get (D := D) (ci := 3) (v := .ref an) (C := RX3) (T := TX3) (N := 10) hx hb hts hiX3 hown hK hP 0 rfl rfl 0 (by decide) (hts (.fieldLink RX3 7 "AdaptiveReplacementCacheModel" "now" "[I") (by decide +kernel)) (fun _ h9 => h9) rfl dX3_setCapacity_127 ?_
            refine lv_iconst (v := 4) hx hb dX3_setCapacity_130 (by decide) ?_
            refine lv_iconst (v := 0) hx hb dX3_setCapacity_131 (by decide) ?_
            refine ki_cSI (As := [.ref an, .int 4, .int 0]) (rest := []) (wr := [(mo, .inr (3, [.ref an, .ref ae, .ref al, .ref ap, .int ln, .int (kk 0), .int (kk 1), .int (kk 2), .int (kk 3), .int (if ¬ a_badCap k then 0 else 1)]))]) ⟨hx, hb, hml, hown, hts⟩ (c_X3_leaves l D cy an t3 ((va_up (c_cap3 st k).1 4 (k_dropN i ((c_cap3 st k).1 4))), ((c_cap3 st k).2)) hm3 4 (by omega) (by omega) 0 (by show 0 < (k_dropN i ((c_cap3 st k).1 4)).length; rw [k_dropN_len j64]; omega)) (va_cwS 3 hts gX3_setCapacity_X3_leaves rfl rfl rfl (by decide +kernel) ⟨Nat.le_of_ble_eq_true rfl, Nat.le_of_ble_eq_true rfl⟩) hK hE hP hD hS hA [0] rfl [1] [0] rfl rfl rfl rfl (by decide) rfl hl.1 rfl (Nat.le_of_ble_eq_true rfl) dX3_setCapacity_132 ⟨Nat.le_of_ble_eq_true rfl, Nat.le_of_ble_eq_true rfl⟩ [0, 1] (fun t_7 => [(mo, .inr (3, [.ref an, .ref ae, .ref al, .ref ap, .int ln, .int (kk 0), .int (kk 1), .int (kk 2), .int (kk 3), .int (if ¬ a_badCap k then 0 else 1)])), (an, .inl (cy, 366, .inl t_7))]) (fun _ => rfl) rfl (fun r_10 t_7 H locs hw hP hD hS => ?_)
            have hw9 := hw
            obtain ⟨er_10, hw9⟩ := hw9
            subst er_10
            have hw9 : m_rep t_7 (va_up ((va_up (c_cap3 st k).1 4 (k_dropN i ((c_cap3 st k).1 4))), ((c_cap3 st k).2)).1 4 (k_gap (((va_up (c_cap3 st k).1 4 (k_dropN i ((c_cap3 st k).1 4))), ((c_cap3 st k).2)).1 4) 0), ((va_up (c_cap3 st k).1 4 (k_dropN i ((c_cap3 st k).1 4))), ((c_cap3 st k).2)).2) := hw9
            obtain ⟨st_9, est_9⟩ : ∃ z : ki_St, z = (va_up ((va_up (c_cap3 st k).1 4 (k_dropN i ((c_cap3 st k).1 4))), ((c_cap3 st k).2)).1 4 (k_gap (((va_up (c_cap3 st k).1 4 (k_dropN i ((c_cap3 st k).1 4))), ((c_cap3 st k).2)).1 4) 0), ((va_up (c_cap3 st k).1 4 (k_dropN i ((c_cap3 st k).1 4))), ((c_cap3 st k).2)).2) := ⟨_, rfl⟩
            rw [← est_9] at hw9
            have hm_8 := hw9
            have hP : va_P D vwCl [(mo, .inr (3, [.ref an, .ref ae, .ref al, .ref ap, .int ln, .int (kk 0), .int (kk 1), .int (kk 2), .int (kk 3), .int (if ¬ a_badCap k then 0 else 1)])), (an, .inl (cy, 366, .inl t_7))] H := hP
            have hD : va_D A [(mo, .inr (3, [.ref an, .ref ae, .ref al, .ref ap, .int ln, .int (kk 0), .int (kk 1), .int (kk 2), .int (kk 3), .int (if ¬ a_badCap k then 0 else 1)])), (an, .inl (cy, 366, .inl t_7))] := hD
            refine lv_pop hx hb dX3_setCapacity_135 rfl ?_
            refine lv_goto (tgt := 113) hx hb dX3_setCapacity_136 (by decide) ?_
            exact ih (i + 1) t_7 H locs ls (by omega) (by omega) (by have q9 := hm_8; rw [est_9, m_up_up] at q9; exact q9) hP hD hS (lv_sub hl [0, 1, 2] rfl)
      exact lp3 (N3 + 1) 0 t2 H locs ls (by omega) (Nat.zero_le _) (by have q9 := hm2; rw [show (c_cap3 st k) = (va_up (c_cap3 st k).1 4 (k_dropN 0 ((c_cap3 st k).1 4)), (c_cap3 st k).2) from by show _ = (va_up (c_cap3 st k).1 4 ((c_cap3 st k).1 4), (c_cap3 st k).2); rw [m_up_id]] at q9; exact q9) hP hD hS hl
    have K83 : ∀ (t2 : Nat → Int32) (H : Heap) (locs : List Loc) (ls : Array Slot), (m_rep t2 (c_cap2 st k)) → va_P D vwCl [(mo, .inr (3, [.ref an, .ref ae, .ref al, .ref ap, .int ln, .int (kk 0), .int (kk 1), .int (kk 2), .int (kk 3), .int (if ¬ a_badCap k then 0 else 1)])), (an, .inl (cy, 366, .inl t2))] H → va_D A [(mo, .inr (3, [.ref an, .ref ae, .ref al, .ref ap, .int ln, .int (kk 0), .int (kk 1), .int (kk 2), .int (kk 3), .int (if ¬ a_badCap k then 0 else 1)])), (an, .inl (cy, 366, .inl t2))] → va_S A s.heap H locs → lv_has ls 3 [(2, .int (st.2 10)), (0, .ref mo), (1, .int k)] → W p l e ({ frames := 3, cells := 0, slots := 0, locals := 67 }) s m args below meth c H locs 0 0 (MQ below (va_Qi (fun r (t1 : Nat → Int32) => r = (if ¬ a_badCap k then c_capN st k else 0) ∧ m_rep t1 (if ¬ a_badCap k then c_cap st k else st)) (ki_B D [(cy, .int)] A (fun (t1 : Nat → Int32) => [(mo, .inr (3, [.ref an, .ref ae, .ref al, .ref ap, .int ln, .int (kk 0), .int (kk 1), .int (kk 2), .int (kk 3), .int (if ¬ a_badCap k then 0 else 1)])), (an, .inl (cy, 366, .inl t1))])) A) args s 0 0 A) (F0 m 83 ls []) := by
      intro t2 H locs ls hm2 hP hD hS hl
      have lp2 : ∀ (n9 : Nat) (i : Nat) (t3 : Nat → Int32) (H : Heap) (locs : List Loc) (ls : Array Slot), (N2 - i < n9) → (i ≤ N2) → (m_rep t3 (va_up (c_cap2 st k).1 3 (k_dropN i ((c_cap2 st k).1 3)), (c_cap2 st k).2)) → va_P D vwCl [(mo, .inr (3, [.ref an, .ref ae, .ref al, .ref ap, .int ln, .int (kk 0), .int (kk 1), .int (kk 2), .int (kk 3), .int (if ¬ a_badCap k then 0 else 1)])), (an, .inl (cy, 366, .inl t3))] H → va_D A [(mo, .inr (3, [.ref an, .ref ae, .ref al, .ref ap, .int ln, .int (kk 0), .int (kk 1), .int (kk 2), .int (kk 3), .int (if ¬ a_badCap k then 0 else 1)])), (an, .inl (cy, 366, .inl t3))] → va_S A s.heap H locs → lv_has ls 3 [(2, .int (st.2 10)), (0, .ref mo), (1, .int k)] → W p l e ({ frames := 3, cells := 0, slots := 0, locals := 67 }) s m args below meth c H locs 0 0 (MQ below (va_Qi (fun r (t1 : Nat → Int32) => r = (if ¬ a_badCap k then c_capN st k else 0) ∧ m_rep t1 (if ¬ a_badCap k then c_cap st k else st)) (ki_B D [(cy, .int)] A (fun (t1 : Nat → Int32) => [(mo, .inr (3, [.ref an, .ref ae, .ref al, .ref ap, .int ln, .int (kk 0), .int (kk 1), .int (kk 2), .int (kk 3), .int (if ¬ a_badCap k then 0 else 1)])), (an, .inl (cy, 366, .inl t1))])) A) args s 0 0 A) (F0 m 83 ls []) := by
        intro n9
        induction n9 with
        | zero => intro i t3 H locs ls h; omega
        | succ n9 ih =>
          intro i t3 H locs ls hm9 hi hm3 hP hD hS hl
          refine lv_aload_n hx hb dX3_setCapacity_83 rfl (lv_at hl 1 rfl) ?_
          refine va_get (D := D) (ci := 3) (v := .ref an) (C := RX3) (T := TX3) (N := 10) hx hb hts hiX3 hown hK hP 0 rfl rfl 0 (by decide) (hts (.fieldLink RX3 7 "AdaptiveReplacementCacheModel" "now" "[I") (by decide +kernel)) (fun _ h9 => h9) rfl dX3_setCapacity_84 ?_
          refine lv_iconst (v := 1) hx hb dX3_setCapacity_87 (by decide) ?_
          refine va_iald hx hb hK hP 1 0 rfl rfl (vp_in_nI (n := 1) (by decide) (by decide)) dX3_setCapacity_88 ?_
          refine lv_topi (fun y_11 ey_11 => ?_)
          have ey_11 : y_11 = nI ((va_up (c_cap2 st k).1 3 (k_dropN i ((c_cap2 st k).1 3))) 1).length := ey_11.trans (m_l hm3 (i := 1) (by decide) (by decide))
          subst ey_11
          refine lv_aload_n hx hb dX3_setCapacity_89 rfl (lv_at hl 1 rfl) ?_
          refine va_get (D := D) (ci := 3) (v := .ref an) (C := RX3) (T := TX3) (N := 10) hx hb hts hiX3 hown hK hP 0 rfl rfl 0 (by decide) (hts (.fieldLink RX3 7 "AdaptiveReplacementCacheModel" "now" "[I") (by decide +kernel)) (fun _ h9 => h9) rfl dX3_setCapacity_90 ?_
          refine lv_iconst (v := 3) hx hb dX3_setCapacity_93 (by decide) ?_
          refine va_iald hx hb hK hP 1 0 rfl rfl (vp_in_nI (n := 3) (by decide) (by decide)) dX3_setCapacity_94 ?_
          refine lv_topi (fun y_12 ey_12 => ?_)
          have ey_12 : y_12 = nI ((va_up (c_cap2 st k).1 3 (k_dropN i ((c_cap2 st k).1 3))) 3).length := ey_12.trans (m_l hm3 (i := 3) (by decide) (by decide))
          subst ey_12
          refine lv_iadd hx hb dX3_setCapacity_95 ?_
          refine lv_iload_n hx hb dX3_setCapacity_96 rfl (lv_at hl 2 rfl) ?_
          refine lv_icmp_le (tgt := 113) hx hb dX3_setCapacity_97 (by decide) (fun c_13 => ?_) (fun c_13 => ?_)
          · skip
            have q9 : nI (((c_cap2 st k).1 1).length + (((c_cap2 st k).1 3).length - i)) ≤ k := by rw [← k_dropN_len (L := (c_cap2 st k).1 3) g64 i, ← nI_add]; exact c_13
            have hiN : i = N2 := by have q8 := m_le2 hkq (by omega) q9; omega
            exact K113 t3 H locs ls (by rw [e3, ← hiN]; exact hm3) hP hD hS (lv_sub hl [0, 1, 2] rfl)
          · skip
            have hil : i < N2 := by rcases Nat.lt_or_ge i N2 with q9 | q9; exact q9; exact absurd (show nI (((c_cap2 st k).1 1).length + (k_dropN i ((c_cap2 st k).1 3)).length) ≤ k from by rw [k_dropN_len g64]; exact m_le1 hkq (by omega) (by omega)) (by rw [← nI_add]; exact c_13)
            refine lv_aload_n hx hb dX3_setCapacity_100 rfl (lv_at hl 1 rfl) ?_
            refine va_get (D := D) (ci := 3) (v := .ref an) (C := RX3) (T := TX3) (N := 10) hx hb hts hiX3 hown hK hP 0 rfl rfl 0 (by decide) (hts (.fieldLink RX3 7 "AdaptiveReplacementCacheModel" "now" "[I") (by decide +kernel)) (fun _ h9 => h9) rfl dX3_setCapacity_101 ?_
            refine lv_iconst (v := 3) hx hb dX3_setCapacity_104 (by decide) ?_
            refine lv_iconst (v := 0) hx hb dX3_setCapacity_105 (by decide) ?_
            refine ki_cSI (As := [.ref an, .int 3, .int 0]) (rest := []) (wr := [(mo, .inr (3, [.ref an, .ref ae, .ref al, .ref ap, .int ln, .int (kk 0), .int (kk 1), .int (kk 2), .int (kk 3), .int (if ¬ a_badCap k then 0 else 1)]))]) ⟨hx, hb, hml, hown, hts⟩ (c_X3_leaves l D cy an t3 ((va_up (c_cap2 st k).1 3 (k_dropN i ((c_cap2 st k).1 3))), ((c_cap2 st k).2)) hm3 3 (by omega) (by omega) 0 (by show 0 < (k_dropN i ((c_cap2 st k).1 3)).length; rw [k_dropN_len g64]; omega)) (va_cwS 3 hts gX3_setCapacity_X3_leaves rfl rfl rfl (by decide +kernel) ⟨Nat.le_of_ble_eq_true rfl, Nat.le_of_ble_eq_true rfl⟩) hK hE hP hD hS hA [0] rfl [1] [0] rfl rfl rfl rfl (by decide) rfl hl.1 rfl (Nat.le_of_ble_eq_true rfl) dX3_setCapacity_106 ⟨Nat.le_of_ble_eq_true rfl, Nat.le_of_ble_eq_true rfl⟩ [0, 1] (fun t_14 => [(mo, .inr (3, [.ref an, .ref ae, .ref al, .ref ap, .int ln, .int (kk 0), .int (kk 1), .int (kk 2), .int (kk 3), .int (if ¬ a_badCap k then 0 else 1)])), (an, .inl (cy, 366, .inl t_14))]) (fun _ => rfl) rfl (fun r_17 t_14 H locs hw hP hD hS => ?_)
            have hw9 := hw
            obtain ⟨er_17, hw9⟩ := hw9
            subst er_17
            have hw9 : m_rep t_14 (va_up ((va_up (c_cap2 st k).1 3 (k_dropN i ((c_cap2 st k).1 3))), ((c_cap2 st k).2)).1 3 (k_gap (((va_up (c_cap2 st k).1 3 (k_dropN i ((c_cap2 st k).1 3))), ((c_cap2 st k).2)).1 3) 0), ((va_up (c_cap2 st k).1 3 (k_dropN i ((c_cap2 st k).1 3))), ((c_cap2 st k).2)).2) := hw9
            obtain ⟨st_16, est_16⟩ : ∃ z : ki_St, z = (va_up ((va_up (c_cap2 st k).1 3 (k_dropN i ((c_cap2 st k).1 3))), ((c_cap2 st k).2)).1 3 (k_gap (((va_up (c_cap2 st k).1 3 (k_dropN i ((c_cap2 st k).1 3))), ((c_cap2 st k).2)).1 3) 0), ((va_up (c_cap2 st k).1 3 (k_dropN i ((c_cap2 st k).1 3))), ((c_cap2 st k).2)).2) := ⟨_, rfl⟩
            rw [← est_16] at hw9
            have hm_15 := hw9
            have hP : va_P D vwCl [(mo, .inr (3, [.ref an, .ref ae, .ref al, .ref ap, .int ln, .int (kk 0), .int (kk 1), .int (kk 2), .int (kk 3), .int (if ¬ a_badCap k then 0 else 1)])), (an, .inl (cy, 366, .inl t_14))] H := hP
            have hD : va_D A [(mo, .inr (3, [.ref an, .ref ae, .ref al, .ref ap, .int ln, .int (kk 0), .int (kk 1), .int (kk 2), .int (kk 3), .int (if ¬ a_badCap k then 0 else 1)])), (an, .inl (cy, 366, .inl t_14))] := hD
            refine lv_pop hx hb dX3_setCapacity_109 rfl ?_
            refine lv_goto (tgt := 83) hx hb dX3_setCapacity_110 (by decide) ?_
            exact ih (i + 1) t_14 H locs ls (by omega) (by omega) (by have q9 := hm_15; rw [est_16, m_up_up] at q9; exact q9) hP hD hS (lv_sub hl [0, 1, 2] rfl)
      exact lp2 (N2 + 1) 0 t2 H locs ls (by omega) (Nat.zero_le _) (by have q9 := hm2; rw [show (c_cap2 st k) = (va_up (c_cap2 st k).1 3 (k_dropN 0 ((c_cap2 st k).1 3)), (c_cap2 st k).2) from by show _ = (va_up (c_cap2 st k).1 3 ((c_cap2 st k).1 3), (c_cap2 st k).2); rw [m_up_id]] at q9; exact q9) hP hD hS hl
    have K55 : ∀ (t2 : Nat → Int32) (H : Heap) (locs : List Loc) (ls : Array Slot), (m_rep t2 (c_cap1 st k)) → va_P D vwCl [(mo, .inr (3, [.ref an, .ref ae, .ref al, .ref ap, .int ln, .int (kk 0), .int (kk 1), .int (kk 2), .int (kk 3), .int (if ¬ a_badCap k then 0 else 1)])), (an, .inl (cy, 366, .inl t2))] H → va_D A [(mo, .inr (3, [.ref an, .ref ae, .ref al, .ref ap, .int ln, .int (kk 0), .int (kk 1), .int (kk 2), .int (kk 3), .int (if ¬ a_badCap k then 0 else 1)])), (an, .inl (cy, 366, .inl t2))] → va_S A s.heap H locs → lv_has ls 3 [(2, .int (st.2 10)), (0, .ref mo), (1, .int k)] → W p l e ({ frames := 3, cells := 0, slots := 0, locals := 67 }) s m args below meth c H locs 0 0 (MQ below (va_Qi (fun r (t1 : Nat → Int32) => r = (if ¬ a_badCap k then c_capN st k else 0) ∧ m_rep t1 (if ¬ a_badCap k then c_cap st k else st)) (ki_B D [(cy, .int)] A (fun (t1 : Nat → Int32) => [(mo, .inr (3, [.ref an, .ref ae, .ref al, .ref ap, .int ln, .int (kk 0), .int (kk 1), .int (kk 2), .int (kk 3), .int (if ¬ a_badCap k then 0 else 1)])), (an, .inl (cy, 366, .inl t1))])) A) args s 0 0 A) (F0 m 55 ls []) := by
      intro t2 H locs ls hm2 hP hD hS hl
      have lp1 : ∀ (n9 : Nat) (i : Nat) (t3 : Nat → Int32) (H : Heap) (locs : List Loc) (ls : Array Slot), ((P - kq) - i < n9) → (i ≤ (P - kq)) → (m_rep t3 (c_evN i (c_cap1 st k))) → va_P D vwCl [(mo, .inr (3, [.ref an, .ref ae, .ref al, .ref ap, .int ln, .int (kk 0), .int (kk 1), .int (kk 2), .int (kk 3), .int (if ¬ a_badCap k then 0 else 1)])), (an, .inl (cy, 366, .inl t3))] H → va_D A [(mo, .inr (3, [.ref an, .ref ae, .ref al, .ref ap, .int ln, .int (kk 0), .int (kk 1), .int (kk 2), .int (kk 3), .int (if ¬ a_badCap k then 0 else 1)])), (an, .inl (cy, 366, .inl t3))] → va_S A s.heap H locs → lv_has ls 3 [(2, .int (st.2 10)), (0, .ref mo), (1, .int k)] → W p l e ({ frames := 3, cells := 0, slots := 0, locals := 67 }) s m args below meth c H locs 0 0 (MQ below (va_Qi (fun r (t1 : Nat → Int32) => r = (if ¬ a_badCap k then c_capN st k else 0) ∧ m_rep t1 (if ¬ a_badCap k then c_cap st k else st)) (ki_B D [(cy, .int)] A (fun (t1 : Nat → Int32) => [(mo, .inr (3, [.ref an, .ref ae, .ref al, .ref ap, .int ln, .int (kk 0), .int (kk 1), .int (kk 2), .int (kk 3), .int (if ¬ a_badCap k then 0 else 1)])), (an, .inl (cy, 366, .inl t1))])) A) args s 0 0 A) (F0 m 55 ls []) := by
        intro n9
        induction n9 with
        | zero => intro i t3 H locs ls h; omega
        | succ n9 ih =>
          intro i t3 H locs ls hm9 hi hm3 hP hD hS hl
          refine lv_aload_n hx hb dX3_setCapacity_55 rfl (lv_at hl 1 rfl) ?_
          refine va_get (D := D) (ci := 3) (v := .ref an) (C := RX3) (T := TX3) (N := 10) hx hb hts hiX3 hown hK hP 0 rfl rfl 0 (by decide) (hts (.fieldLink RX3 7 "AdaptiveReplacementCacheModel" "now" "[I") (by decide +kernel)) (fun _ h9 => h9) rfl dX3_setCapacity_56 ?_
          refine lv_iconst (v := 1) hx hb dX3_setCapacity_59 (by decide) ?_
          refine va_iald hx hb hK hP 1 0 rfl rfl (vp_in_nI (n := 1) (by decide) (by decide)) dX3_setCapacity_60 ?_
          refine lv_topi (fun y_18 ey_18 => ?_)
          have ey_18 : y_18 = nI ((c_evN i (c_cap1 st k)).1 1).length := ey_18.trans (m_l hm3 (i := 1) (by decide) (by decide))
          subst ey_18
          refine lv_aload_n hx hb dX3_setCapacity_61 rfl (lv_at hl 1 rfl) ?_
          refine va_get (D := D) (ci := 3) (v := .ref an) (C := RX3) (T := TX3) (N := 10) hx hb hts hiX3 hown hK hP 0 rfl rfl 0 (by decide) (hts (.fieldLink RX3 7 "AdaptiveReplacementCacheModel" "now" "[I") (by decide +kernel)) (fun _ h9 => h9) rfl dX3_setCapacity_62 ?_
          refine lv_iconst (v := 2) hx hb dX3_setCapacity_65 (by decide) ?_
          refine va_iald hx hb hK hP 1 0 rfl rfl (vp_in_nI (n := 2) (by decide) (by decide)) dX3_setCapacity_66 ?_
          refine lv_topi (fun y_19 ey_19 => ?_)
          have ey_19 : y_19 = nI ((c_evN i (c_cap1 st k)).1 2).length := ey_19.trans (m_l hm3 (i := 2) (by decide) (by decide))
          subst ey_19
          refine lv_iadd hx hb dX3_setCapacity_67 ?_
          refine lv_iload_n hx hb dX3_setCapacity_68 rfl (lv_at hl 2 rfl) ?_
          refine lv_icmp_le (tgt := 83) hx hb dX3_setCapacity_69 (by decide) (fun c_20 => ?_) (fun c_20 => ?_)
          · skip
            have hiN : i = P - kq := by obtain ⟨b1, b2, b3, b4, b5, b6, b7⟩ := hEv i hi; have q9 := c_20; rw [nI_add] at q9; have q8 := m_le2 hkq (by have := b1.2.2; omega) q9; omega
            exact K83 t3 H locs ls (by rw [e2, ← hiN]; exact hm3) hP hD hS (lv_sub hl [0, 1, 2] rfl)
          · skip
            obtain ⟨b1, b2, b3, b4, b5, b6, b7⟩ := hEv i hi
            have hil : i < P - kq := by rcases Nat.lt_or_ge i (P - kq) with q9 | q9; exact q9; exact absurd (by rw [nI_add]; exact m_le1 hkq (by omega) (by omega)) c_20
            refine lv_aload_n hx hb dX3_setCapacity_72 rfl (lv_at hl 1 rfl) ?_
            refine va_get (D := D) (ci := 3) (v := .ref an) (C := RX3) (T := TX3) (N := 10) hx hb hts hiX3 hown hK hP 0 rfl rfl 0 (by decide) (hts (.fieldLink RX3 7 "AdaptiveReplacementCacheModel" "now" "[I") (by decide +kernel)) (fun _ h9 => h9) rfl dX3_setCapacity_73 ?_
            refine lv_iconst (v := 0) hx hb dX3_setCapacity_76 (by decide) ?_
            refine ki_cSV (As := [.ref an, .int 0]) (rest := []) (wr := [(mo, .inr (3, [.ref an, .ref ae, .ref al, .ref ap, .int ln, .int (kk 0), .int (kk 1), .int (kk 2), .int (kk 3), .int (if ¬ a_badCap k then 0 else 1)]))]) ⟨hx, hb, hml, hown, hts⟩ (c_X3_evicts l D cy an t3 (c_evN i (c_cap1 st k)) hm3 0 b1 g ((b2 5 (by decide)).trans hg5) (by omega) (b7 hil)) (va_cwS 2 hts gX3_setCapacity_X3_evicts rfl rfl rfl (by decide +kernel) ⟨Nat.le_of_ble_eq_true rfl, Nat.le_of_ble_eq_true rfl⟩) hK hE hP hD hS hA [0] rfl [1] [0] rfl rfl rfl rfl (by decide) rfl hl.1 rfl (Nat.le_of_ble_eq_true rfl) dX3_setCapacity_77 ⟨Nat.le_of_ble_eq_true rfl, Nat.le_of_ble_eq_true rfl⟩ [0, 1] (fun t_21 => [(mo, .inr (3, [.ref an, .ref ae, .ref al, .ref ap, .int ln, .int (kk 0), .int (kk 1), .int (kk 2), .int (kk 3), .int (if ¬ a_badCap k then 0 else 1)])), (an, .inl (cy, 366, .inl t_21))]) (fun _ => rfl) rfl (fun t_21 H locs hw hP hD hS => ?_)
            have hw9 := hw
            have hw9 : m_rep t_21 (c_evict (c_evN i (c_cap1 st k)) (if (0 : Int32) = 4 then 1 else 0)) := hw9
            obtain ⟨st_23, est_23⟩ : ∃ z : ki_St, z = c_evict (c_evN i (c_cap1 st k)) (if (0 : Int32) = 4 then 1 else 0) := ⟨_, rfl⟩
            rw [← est_23] at hw9
            have hm_22 := hw9
            have hP : va_P D vwCl [(mo, .inr (3, [.ref an, .ref ae, .ref al, .ref ap, .int ln, .int (kk 0), .int (kk 1), .int (kk 2), .int (kk 3), .int (if ¬ a_badCap k then 0 else 1)])), (an, .inl (cy, 366, .inl t_21))] H := hP
            have hD : va_D A [(mo, .inr (3, [.ref an, .ref ae, .ref al, .ref ap, .int ln, .int (kk 0), .int (kk 1), .int (kk 2), .int (kk 3), .int (if ¬ a_badCap k then 0 else 1)])), (an, .inl (cy, 366, .inl t_21))] := hD
            refine lv_goto (tgt := 55) hx hb dX3_setCapacity_80 (by decide) ?_
            exact ih (i + 1) t_21 H locs ls (by omega) (by omega) (by have q9 := hm_22; rw [est_23] at q9; exact q9) hP hD hS (lv_sub hl [0, 1, 2] rfl)
      exact lp1 (P - kq + 1) 0 t2 H locs ls (by omega) (Nat.zero_le _) hm2 hP hD hS hl
    refine lv_aload_n hx hb dX3_setCapacity_13 rfl (lv_at hl 0 rfl) ?_
    refine va_get (D := D) (ci := 3) (v := .ref an) (C := RX3) (T := TX3) (N := 10) hx hb hts hiX3 hown hK hP 0 rfl rfl 0 (by decide) (hts (.fieldLink RX3 7 "AdaptiveReplacementCacheModel" "now" "[I") (by decide +kernel)) (fun _ h9 => h9) rfl dX3_setCapacity_14 ?_
    refine lv_bipush (v := 10) hx hb dX3_setCapacity_17 (by decide) ?_
    refine va_iald hx hb hK hP 1 0 rfl rfl (vp_in_nI (n := 10) (by decide) (by decide)) dX3_setCapacity_19 ?_
    refine lv_topi (fun y_25 ey_25 => ?_)
    have ey_25 : y_25 = st.2 10 := ey_25.trans (hm.2 10 (by decide) (by decide))
    subst ey_25
    refine lv_istore_n (lv' := [(2, .int (st.2 10)), (0, .ref mo), (1, .int k)]) hx hb dX3_setCapacity_20 rfl hl (by decide) rfl (fun ls hl => ?_)
    refine lv_aload_n hx hb dX3_setCapacity_21 rfl (lv_at hl 1 rfl) ?_
    refine va_get (D := D) (ci := 3) (v := .ref an) (C := RX3) (T := TX3) (N := 10) hx hb hts hiX3 hown hK hP 0 rfl rfl 0 (by decide) (hts (.fieldLink RX3 7 "AdaptiveReplacementCacheModel" "now" "[I") (by decide +kernel)) (fun _ h9 => h9) rfl dX3_setCapacity_22 ?_
    refine lv_bipush (v := 6) hx hb dX3_setCapacity_25 (by decide) ?_
    refine lv_iload_n hx hb dX3_setCapacity_27 rfl (lv_at hl 2 rfl) ?_
    refine va_iast hx hb hK hP hD hS 1 0 rfl rfl (vp_in_nI (n := 6) (by decide) (by decide)) dX3_setCapacity_28 (fun H locs hP hD hS => ?_)
    obtain ⟨t_26, et_26⟩ : ∃ zz9 : Nat → Int32, zz9 = upd t (Int32.toNatClampNeg 6) k := ⟨_, rfl⟩
    rw [← et_26] at hP hD
    have hm_27 : m_rep t_26 (st.1, va_up st.2 6 k) := by rw [et_26]; exact m_z (i := 6) hm (by decide) (by decide)
    have hP : va_P D vwCl [(mo, .inr (3, [.ref an, .ref ae, .ref al, .ref ap, .int ln, .int (kk 0), .int (kk 1), .int (kk 2), .int (kk 3), .int (if ¬ a_badCap k then 0 else 1)])), (an, .inl (cy, 366, .inl t_26))] H := hP
    have hD : va_D A [(mo, .inr (3, [.ref an, .ref ae, .ref al, .ref ap, .int ln, .int (kk 0), .int (kk 1), .int (kk 2), .int (kk 3), .int (if ¬ a_badCap k then 0 else 1)])), (an, .inl (cy, 366, .inl t_26))] := hD
    refine lv_aload_n hx hb dX3_setCapacity_29 rfl (lv_at hl 1 rfl) ?_
    refine va_get (D := D) (ci := 3) (v := .ref an) (C := RX3) (T := TX3) (N := 10) hx hb hts hiX3 hown hK hP 0 rfl rfl 0 (by decide) (hts (.fieldLink RX3 7 "AdaptiveReplacementCacheModel" "now" "[I") (by decide +kernel)) (fun _ h9 => h9) rfl dX3_setCapacity_30 ?_
    refine lv_iconst (v := 5) hx hb dX3_setCapacity_33 (by decide) ?_
    refine lv_aload_n hx hb dX3_setCapacity_34 rfl (lv_at hl 1 rfl) ?_
    refine va_get (D := D) (ci := 3) (v := .ref an) (C := RX3) (T := TX3) (N := 10) hx hb hts hiX3 hown hK hP 0 rfl rfl 0 (by decide) (hts (.fieldLink RX3 7 "AdaptiveReplacementCacheModel" "now" "[I") (by decide +kernel)) (fun _ h9 => h9) rfl dX3_setCapacity_35 ?_
    refine lv_iconst (v := 5) hx hb dX3_setCapacity_38 (by decide) ?_
    refine va_iald hx hb hK hP 1 0 rfl rfl (vp_in_nI (n := 5) (by decide) (by decide)) dX3_setCapacity_39 ?_
    refine lv_topi (fun y_28 ey_28 => ?_)
    have ey_28 : y_28 = (va_up st.2 6 k) 5 := ey_28.trans (hm_27.2 5 (by decide) (by decide))
    subst ey_28
    refine lv_iload_n hx hb dX3_setCapacity_40 rfl (lv_at hl 2 rfl) ?_
    refine lv_icmp_le (tgt := 48) hx hb dX3_setCapacity_41 (by decide) (fun c_29 => ?_) (fun c_29 => ?_)
    · skip
      refine lv_aload_n hx hb dX3_setCapacity_48 rfl (lv_at hl 1 rfl) ?_
      refine va_get (D := D) (ci := 3) (v := .ref an) (C := RX3) (T := TX3) (N := 10) hx hb hts hiX3 hown hK hP 0 rfl rfl 0 (by decide) (hts (.fieldLink RX3 7 "AdaptiveReplacementCacheModel" "now" "[I") (by decide +kernel)) (fun _ h9 => h9) rfl dX3_setCapacity_49 ?_
      refine lv_iconst (v := 5) hx hb dX3_setCapacity_52 (by decide) ?_
      refine va_iald hx hb hK hP 1 0 rfl rfl (vp_in_nI (n := 5) (by decide) (by decide)) dX3_setCapacity_53 ?_
      refine lv_topi (fun y_30 ey_30 => ?_)
      have ey_30 : y_30 = (va_up st.2 6 k) 5 := ey_30.trans (hm_27.2 5 (by decide) (by decide))
      subst ey_30
      refine va_iast hx hb hK hP hD hS 1 0 rfl rfl (vp_in_nI (n := 5) (by decide) (by decide)) dX3_setCapacity_54 (fun H locs hP hD hS => ?_)
      obtain ⟨t_31, et_31⟩ : ∃ zz9 : Nat → Int32, zz9 = upd t_26 (Int32.toNatClampNeg 5) ((va_up st.2 6 k) 5) := ⟨_, rfl⟩
      rw [← et_31] at hP hD
      have hm_32 : m_rep t_31 (st.1, va_up (va_up st.2 6 k) 5 ((va_up st.2 6 k) 5)) := by rw [et_31]; exact m_z (i := 5) hm_27 (by decide) (by decide)
      have hP : va_P D vwCl [(mo, .inr (3, [.ref an, .ref ae, .ref al, .ref ap, .int ln, .int (kk 0), .int (kk 1), .int (kk 2), .int (kk 3), .int (if ¬ a_badCap k then 0 else 1)])), (an, .inl (cy, 366, .inl t_31))] H := hP
      have hD : va_D A [(mo, .inr (3, [.ref an, .ref ae, .ref al, .ref ap, .int ln, .int (kk 0), .int (kk 1), .int (kk 2), .int (kk 3), .int (if ¬ a_badCap k then 0 else 1)])), (an, .inl (cy, 366, .inl t_31))] := hD
      have eT : (if k < st.2 5 then k else st.2 5) = st.2 5 := if_neg (Int32.not_lt.mpr c_29)
      have e8 : c_cap1 st k = (st.1, (va_up (va_up st.2 6 k) 5 ((va_up st.2 6 k) 5))) := by unfold c_cap1; rw [eT]; exact congrArg (Prod.mk st.1) (m_up_comm (by decide))
      exact K55 t_31 H locs ls (by rw [e8]; exact hm_32) hP hD hS (lv_sub hl [0, 1, 2] rfl)
    · skip
      refine lv_iload_n hx hb dX3_setCapacity_44 rfl (lv_at hl 2 rfl) ?_
      refine lv_goto (tgt := 54) hx hb dX3_setCapacity_45 (by decide) ?_
      refine va_iast hx hb hK hP hD hS 1 0 rfl rfl (vp_in_nI (n := 5) (by decide) (by decide)) dX3_setCapacity_54 (fun H locs hP hD hS => ?_)
      obtain ⟨t_33, et_33⟩ : ∃ zz9 : Nat → Int32, zz9 = upd t_26 (Int32.toNatClampNeg 5) k := ⟨_, rfl⟩
      rw [← et_33] at hP hD
      have hm_34 : m_rep t_33 (st.1, va_up (va_up st.2 6 k) 5 k) := by rw [et_33]; exact m_z (i := 5) hm_27 (by decide) (by decide)
      have hP : va_P D vwCl [(mo, .inr (3, [.ref an, .ref ae, .ref al, .ref ap, .int ln, .int (kk 0), .int (kk 1), .int (kk 2), .int (kk 3), .int (if ¬ a_badCap k then 0 else 1)])), (an, .inl (cy, 366, .inl t_33))] H := hP
      have hD : va_D A [(mo, .inr (3, [.ref an, .ref ae, .ref al, .ref ap, .int ln, .int (kk 0), .int (kk 1), .int (kk 2), .int (kk 3), .int (if ¬ a_badCap k then 0 else 1)])), (an, .inl (cy, 366, .inl t_33))] := hD
      have eT : (if k < st.2 5 then k else st.2 5) = k := if_pos (Int32.not_le.mp c_29)
      have e8 : c_cap1 st k = (st.1, (va_up (va_up st.2 6 k) 5 k)) := by unfold c_cap1; rw [eT]; exact congrArg (Prod.mk st.1) (m_up_comm (by decide))
      exact K55 t_33 H locs ls (by rw [e8]; exact hm_34) hP hD hS (lv_sub hl [0, 1, 2] rfl)
  · skip
    have c_3 : ¬ (¬ a_badCap k) := ki_b0.mp c_3
    refine lv_iconst (v := 0) hx hb dX3_setCapacity_11 (by decide) ?_
    exact ki_iret hx hb hr hlk hK hS t ⟨(if_neg c_3).symm, by rw [if_neg c_3]; exact hm⟩ (by simp only [if_neg c_3] at hP ⊢; exact hP) (by simp only [if_neg c_3] at hD ⊢; exact hD) dX3_setCapacity_12
