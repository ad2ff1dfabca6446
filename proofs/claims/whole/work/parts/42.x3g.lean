/-! ===== the reference: its hits with a capacity ===== -/
set_option maxHeartbeats 4000000 in
set_option maxRecDepth 100000 in
theorem c_X3_hitsIf (l : Launch) (D : va_G) (cy : ClassId) (mo an ae al ap : Nat) (ln th : Int32) (kk : Nat → Int32) (t : Nat → Int32) (st : ki_St) (hm : m_rep t st) (n : Nat) (hn : n < 2 ^ 30) (hInv : p_Inv n st) (lg : List Int32) (g : Nat → Int32) (hlg : m_log g lg) (hv : ∀ x ∈ lg, ¬ x = -1) (tt : Nat → Int32) (k : Int32) : ki_I l yX3_hitsIf wsX3_hitsIf ({ frames := 6, cells := 0, slots := 0, locals := 134 }) 0 0 D [(cy, .int)] [.ref mo, .int k] [(mo, .inr (3, [.ref an, .ref ae, .ref al, .ref ap, .int (nI lg.length), .int (kk 0), .int (kk 1), .int (kk 2), .int (kk 3), .int th])), (an, .inl (cy, 366, .inl t)), (ae, .inl (cy, 366, .inl tt)), (al, .inl (cy, 60, .inl g))] (S := Nat → Int32) (fun r (_t1 : Nat → Int32) => r = (if ¬ a_badCap k then h_n k (st.2 7) lg lg.length else 0)) (fun t1 => [(mo, .inr (3, [.ref an, .ref ae, .ref al, .ref ap, .int (nI lg.length), .int (kk 0), .int (kk 1), .int (kk 2), .int (kk 3), .int (if ¬ a_badCap k then 0 else 1)])), (an, .inl (cy, 366, .inl t)), (ae, .inl (cy, 366, .inl t1)), (al, .inl (cy, 60, .inl g))]) := by
  refine ki_ofI (cc := cX3_hitsIf) (maxL := 4) (ret := (some .int)) (by decide +kernel) rfl (Nat.le_of_ble_eq_true rfl) ?_
  intro p e s m args below meth c A ls hx hb hr hts hown hlk hml hK hE hP hD hA hS hl
  have hown : s.vm.findClass RX3 = some m.cls := hown
  have hl : lv_has ls 4 [(0, .ref mo), (1, .int k)] := hl
  have hiX3 : ∀ w ∈ u_ws RX3 TX3 10, w ∈ wsX3_hitsIf := by decide +kernel
  refine lv_aload_n hx hb dX3_hitsIf_0 rfl (lv_at hl 0 rfl) ?_
  refine lv_iload_n hx hb dX3_hitsIf_1 rfl (lv_at hl 1 rfl) ?_
  refine ki_cSR (As := [.int k]) (rest := [.ref mo]) ⟨hx, hb, hml, hown, hts⟩ (c_X3_isCapacity l D k) (va_cwS 1 hts gX3_hitsIf_X3_isCapacity rfl rfl rfl (by decide +kernel) ⟨Nat.le_of_ble_eq_true rfl, Nat.le_of_ble_eq_true rfl⟩) hK hE hP [] rfl [] rfl rfl hl.1 rfl (Nat.le_of_ble_eq_true rfl) dX3_hitsIf_2 ⟨Nat.le_of_ble_eq_true rfl, Nat.le_of_ble_eq_true rfl⟩ ?_
  refine ki_cVI (As := [.int (if ¬ a_badCap k then 1 else 0)]) (rest := []) (wr := [(an, .inl (cy, 366, .inl t)), (ae, .inl (cy, 366, .inl tt)), (al, .inl (cy, 60, .inl g))]) ⟨hx, hb, hml, hown, hts⟩ (c_X3_asked l D mo an ae al ap (nI lg.length) th kk (¬ a_badCap k)) (cwV 1 hts gX3_hitsIf_X3_asked rfl rfl rfl (by decide +kernel) ⟨Nat.le_of_ble_eq_true rfl, Nat.le_of_ble_eq_true rfl⟩) hK hE hP hD hS hA [] rfl [0] [1, 2, 3] rfl rfl rfl rfl (by decide) 3 0 rfl rfl rfl rfl hl.1 rfl (Nat.le_of_ble_eq_true rfl) dX3_hitsIf_5 ⟨Nat.le_of_ble_eq_true rfl, Nat.le_of_ble_eq_true rfl⟩ [3, 0, 1, 2] (fun u_2 => [(mo, .inr (3, [.ref an, .ref ae, .ref al, .ref ap, .int (nI lg.length), .int (kk 0), .int (kk 1), .int (kk 2), .int (kk 3), .int (if ¬ a_badCap k then 0 else 1)])), (an, .inl (cy, 366, .inl t)), (ae, .inl (cy, 366, .inl tt)), (al, .inl (cy, 60, .inl g))]) (fun _ => rfl) rfl (fun r_1 u_2 H locs hw hP hD hS => ?_)
  subst hw
  have hP : va_P D vwCl [(mo, .inr (3, [.ref an, .ref ae, .ref al, .ref ap, .int (nI lg.length), .int (kk 0), .int (kk 1), .int (kk 2), .int (kk 3), .int (if ¬ a_badCap k then 0 else 1)])), (an, .inl (cy, 366, .inl t)), (ae, .inl (cy, 366, .inl tt)), (al, .inl (cy, 60, .inl g))] H := hP
  have hD : va_D A [(mo, .inr (3, [.ref an, .ref ae, .ref al, .ref ap, .int (nI lg.length), .int (kk 0), .int (kk 1), .int (kk 2), .int (kk 3), .int (if ¬ a_badCap k then 0 else 1)])), (an, .inl (cy, 366, .inl t)), (ae, .inl (cy, 366, .inl tt)), (al, .inl (cy, 60, .inl g))] := hD
  refine lv_if_ne (tgt := 13) hx hb dX3_hitsIf_8 (by decide) (fun c_3 => ?_) (fun c_3 => ?_)
  · skip
    have c_3 : ¬ a_badCap k := ki_b1.mp c_3
    refine lv_iconst (v := 0) hx hb dX3_hitsIf_13 (by decide) ?_
    refine lv_istore_n (lv' := [(2, .int 0), (0, .ref mo), (1, .int k)]) hx hb dX3_hitsIf_14 rfl hl (by decide) rfl (fun ls hl => ?_)
    have hok := c_3
    obtain ⟨kq, hk1, hk2, hkq⟩ := m_badCap hok
    obtain ⟨hw0, k0, g0, r0, z, -, -, -, ⟨hz9, hz2⟩, -, -, -, -⟩ := id hInv
    have hI : ∀ i : Nat, i ≤ lg.length → p_Inv i (h_st k (st.2 7) lg i) := fun i hi => by rw [hkq, hz9]; exact m_hInv hk1 hk2 hz2 hlg.1 hv i hi
    have hl60 := hlg.1
    have lp1 : ∀ (n9 : Nat) (i : Nat) (t2 : Nat → Int32) (H : Heap) (locs : List Loc) (ls : Array Slot), (16 - i < n9) → (i ≤ 16) → (∀ j : Nat, j < i → t2 j = 0) → va_P D vwCl [(mo, .inr (3, [.ref an, .ref ae, .ref al, .ref ap, .int (nI lg.length), .int (kk 0), .int (kk 1), .int (kk 2), .int (kk 3), .int (if ¬ a_badCap k then 0 else 1)])), (an, .inl (cy, 366, .inl t)), (ae, .inl (cy, 366, .inl t2)), (al, .inl (cy, 60, .inl g))] H → va_D A [(mo, .inr (3, [.ref an, .ref ae, .ref al, .ref ap, .int (nI lg.length), .int (kk 0), .int (kk 1), .int (kk 2), .int (kk 3), .int (if ¬ a_badCap k then 0 else 1)])), (an, .inl (cy, 366, .inl t)), (ae, .inl (cy, 366, .inl t2)), (al, .inl (cy, 60, .inl g))] → va_S A s.heap H locs → lv_has ls 4 [(2, .int (nI i)), (0, .ref mo), (1, .int k)] → W p l e ({ frames := 6, cells := 0, slots := 0, locals := 134 }) s m args below meth c H locs 0 0 (MQ below (va_Qi (fun r (_t1 : Nat → Int32) => r = (if ¬ a_badCap k then h_n k (st.2 7) lg lg.length else 0)) (ki_B D [(cy, .int)] A (fun (t1 : Nat → Int32) => [(mo, .inr (3, [.ref an, .ref ae, .ref al, .ref ap, .int (nI lg.length), .int (kk 0), .int (kk 1), .int (kk 2), .int (kk 3), .int (if ¬ a_badCap k then 0 else 1)])), (an, .inl (cy, 366, .inl t)), (ae, .inl (cy, 366, .inl t1)), (al, .inl (cy, 60, .inl g))])) A) args s 0 0 A) (F0 m 15 ls []) := by
      intro n9
      induction n9 with
      | zero => intro i t2 H locs ls h; omega
      | succ n9 ih =>
        intro i t2 H locs ls hm9 hi ht2 hP hD hS hl
        refine lv_iload_n hx hb dX3_hitsIf_15 rfl (lv_at hl 0 rfl) ?_
        refine lv_bipush (v := 16) hx hb dX3_hitsIf_16 (by decide) ?_
        refine lv_icmp_ge (tgt := 34) hx hb dX3_hitsIf_18 (by decide) (fun c_4 => ?_) (fun c_4 => ?_)
        · skip
          have hi16 : i = 16 := by rcases Nat.lt_or_ge i 16 with q9 | q9; exact absurd c_4 (show ¬ nI 16 ≤ nI i from nI_ge q9 (by omega)); omega
          rw [hi16] at ht2
          have hmz := m_zero ht2
          refine lv_aload_n hx hb dX3_hitsIf_34 rfl (lv_at hl 1 rfl) ?_
          refine va_get (D := D) (ci := 3) (v := .ref ae) (C := RX3) (T := TX3) (N := 10) hx hb hts hiX3 hown hK hP 0 rfl rfl 1 (by decide) (hts (.fieldLink RX3 13 "AdaptiveReplacementCacheModel" "then" "[I") (by decide +kernel)) (fun _ h9 => h9) rfl dX3_hitsIf_35 ?_
          refine lv_bipush (v := 6) hx hb dX3_hitsIf_38 (by decide) ?_
          refine lv_iload_n hx hb dX3_hitsIf_40 rfl (lv_at hl 2 rfl) ?_
          refine va_iast hx hb hK hP hD hS 2 0 rfl rfl (vp_in_nI (n := 6) (by decide) (by decide)) dX3_hitsIf_41 (fun H locs hP hD hS => ?_)
          obtain ⟨t_5, et_5⟩ : ∃ zz9 : Nat → Int32, zz9 = upd t2 (Int32.toNatClampNeg 6) k := ⟨_, rfl⟩
          rw [← et_5] at hP hD
          have hm_6 : m_rep t_5 ((fun _ => [] : Nat → List Int32), va_up (fun _ => 0 : Nat → Int32) 6 k) := by rw [et_5]; exact m_z (i := 6) hmz (by decide) (by decide)
          have hP : va_P D vwCl [(mo, .inr (3, [.ref an, .ref ae, .ref al, .ref ap, .int (nI lg.length), .int (kk 0), .int (kk 1), .int (kk 2), .int (kk 3), .int (if ¬ a_badCap k then 0 else 1)])), (an, .inl (cy, 366, .inl t)), (ae, .inl (cy, 366, .inl t_5)), (al, .inl (cy, 60, .inl g))] H := hP
          have hD : va_D A [(mo, .inr (3, [.ref an, .ref ae, .ref al, .ref ap, .int (nI lg.length), .int (kk 0), .int (kk 1), .int (kk 2), .int (kk 3), .int (if ¬ a_badCap k then 0 else 1)])), (an, .inl (cy, 366, .inl t)), (ae, .inl (cy, 366, .inl t_5)), (al, .inl (cy, 60, .inl g))] := hD
          refine lv_aload_n hx hb dX3_hitsIf_42 rfl (lv_at hl 1 rfl) ?_
          refine va_get (D := D) (ci := 3) (v := .ref ae) (C := RX3) (T := TX3) (N := 10) hx hb hts hiX3 hown hK hP 0 rfl rfl 1 (by decide) (hts (.fieldLink RX3 13 "AdaptiveReplacementCacheModel" "then" "[I") (by decide +kernel)) (fun _ h9 => h9) rfl dX3_hitsIf_43 ?_
          refine lv_bipush (v := 7) hx hb dX3_hitsIf_46 (by decide) ?_
          refine lv_aload_n hx hb dX3_hitsIf_48 rfl (lv_at hl 1 rfl) ?_
          refine va_get (D := D) (ci := 3) (v := .ref an) (C := RX3) (T := TX3) (N := 10) hx hb hts hiX3 hown hK hP 0 rfl rfl 0 (by decide) (hts (.fieldLink RX3 7 "AdaptiveReplacementCacheModel" "now" "[I") (by decide +kernel)) (fun _ h9 => h9) rfl dX3_hitsIf_49 ?_
          refine lv_bipush (v := 7) hx hb dX3_hitsIf_52 (by decide) ?_
          refine va_iald hx hb hK hP 1 0 rfl rfl (vp_in_nI (n := 7) (by decide) (by decide)) dX3_hitsIf_54 ?_
          refine lv_topi (fun y_7 ey_7 => ?_)
          have ey_7 : y_7 = st.2 7 := ey_7.trans (hm.2 7 (by decide) (by decide))
          subst ey_7
          refine va_iast hx hb hK hP hD hS 2 0 rfl rfl (vp_in_nI (n := 7) (by decide) (by decide)) dX3_hitsIf_55 (fun H locs hP hD hS => ?_)
          obtain ⟨t_8, et_8⟩ : ∃ zz9 : Nat → Int32, zz9 = upd t_5 (Int32.toNatClampNeg 7) (st.2 7) := ⟨_, rfl⟩
          rw [← et_8] at hP hD
          have hm_9 : m_rep t_8 ((fun _ => [] : Nat → List Int32), va_up (va_up (fun _ => 0 : Nat → Int32) 6 k) 7 (st.2 7)) := by rw [et_8]; exact m_z (i := 7) hm_6 (by decide) (by decide)
          have hP : va_P D vwCl [(mo, .inr (3, [.ref an, .ref ae, .ref al, .ref ap, .int (nI lg.length), .int (kk 0), .int (kk 1), .int (kk 2), .int (kk 3), .int (if ¬ a_badCap k then 0 else 1)])), (an, .inl (cy, 366, .inl t)), (ae, .inl (cy, 366, .inl t_8)), (al, .inl (cy, 60, .inl g))] H := hP
          have hD : va_D A [(mo, .inr (3, [.ref an, .ref ae, .ref al, .ref ap, .int (nI lg.length), .int (kk 0), .int (kk 1), .int (kk 2), .int (kk 3), .int (if ¬ a_badCap k then 0 else 1)])), (an, .inl (cy, 366, .inl t)), (ae, .inl (cy, 366, .inl t_8)), (al, .inl (cy, 60, .inl g))] := hD
          refine lv_aload_n hx hb dX3_hitsIf_56 rfl (lv_at hl 1 rfl) ?_
          refine va_get (D := D) (ci := 3) (v := .ref ae) (C := RX3) (T := TX3) (N := 10) hx hb hts hiX3 hown hK hP 0 rfl rfl 1 (by decide) (hts (.fieldLink RX3 13 "AdaptiveReplacementCacheModel" "then" "[I") (by decide +kernel)) (fun _ h9 => h9) rfl dX3_hitsIf_57 ?_
          refine lv_bipush (v := 9) hx hb dX3_hitsIf_60 (by decide) ?_
          refine lv_iconst (v := (-1)) hx hb dX3_hitsIf_62 (by decide) ?_
          refine va_iast hx hb hK hP hD hS 2 0 rfl rfl (vp_in_nI (n := 9) (by decide) (by decide)) dX3_hitsIf_63 (fun H locs hP hD hS => ?_)
          obtain ⟨t_10, et_10⟩ : ∃ zz9 : Nat → Int32, zz9 = upd t_8 (Int32.toNatClampNeg 9) (-1) := ⟨_, rfl⟩
          rw [← et_10] at hP hD
          have hm_11 : m_rep t_10 ((fun _ => [] : Nat → List Int32), va_up (va_up (va_up (fun _ => 0 : Nat → Int32) 6 k) 7 (st.2 7)) 9 (-1)) := by rw [et_10]; exact m_z (i := 9) hm_9 (by decide) (by decide)
          have hP : va_P D vwCl [(mo, .inr (3, [.ref an, .ref ae, .ref al, .ref ap, .int (nI lg.length), .int (kk 0), .int (kk 1), .int (kk 2), .int (kk 3), .int (if ¬ a_badCap k then 0 else 1)])), (an, .inl (cy, 366, .inl t)), (ae, .inl (cy, 366, .inl t_10)), (al, .inl (cy, 60, .inl g))] H := hP
          have hD : va_D A [(mo, .inr (3, [.ref an, .ref ae, .ref al, .ref ap, .int (nI lg.length), .int (kk 0), .int (kk 1), .int (kk 2), .int (kk 3), .int (if ¬ a_badCap k then 0 else 1)])), (an, .inl (cy, 366, .inl t)), (ae, .inl (cy, 366, .inl t_10)), (al, .inl (cy, 60, .inl g))] := hD
          refine lv_iconst (v := 0) hx hb dX3_hitsIf_64 (by decide) ?_
          refine lv_istore_n (lv' := [(2, .int 0), (0, .ref mo), (1, .int k)]) hx hb dX3_hitsIf_65 rfl hl (by decide) rfl (fun ls hl => ?_)
          refine lv_iconst (v := 0) hx hb dX3_hitsIf_66 (by decide) ?_
          refine lv_istore_n (lv' := [(3, .int 0), (2, .int 0), (0, .ref mo), (1, .int k)]) hx hb dX3_hitsIf_67 rfl hl (by decide) rfl (fun ls hl => ?_)
          have hmS : m_rep t_10 (h_st k (st.2 7) lg 0) := hm_11
          have lp2 : ∀ (n9 : Nat) (i : Nat) (t5 : Nat → Int32) (H : Heap) (locs : List Loc) (ls : Array Slot), (lg.length - i < n9) → (i ≤ lg.length) → (m_rep t5 (h_st k (st.2 7) lg i)) → va_P D vwCl [(mo, .inr (3, [.ref an, .ref ae, .ref al, .ref ap, .int (nI lg.length), .int (kk 0), .int (kk 1), .int (kk 2), .int (kk 3), .int (if ¬ a_badCap k then 0 else 1)])), (an, .inl (cy, 366, .inl t)), (ae, .inl (cy, 366, .inl t5)), (al, .inl (cy, 60, .inl g))] H → va_D A [(mo, .inr (3, [.ref an, .ref ae, .ref al, .ref ap, .int (nI lg.length), .int (kk 0), .int (kk 1), .int (kk 2), .int (kk 3), .int (if ¬ a_badCap k then 0 else 1)])), (an, .inl (cy, 366, .inl t)), (ae, .inl (cy, 366, .inl t5)), (al, .inl (cy, 60, .inl g))] → va_S A s.heap H locs → lv_has ls 4 [(3, .int (nI i)), (2, .int (h_n k (st.2 7) lg i)), (0, .ref mo), (1, .int k)] → W p l e ({ frames := 6, cells := 0, slots := 0, locals := 134 }) s m args below meth c H locs 0 0 (MQ below (va_Qi (fun r (_t1 : Nat → Int32) => r = (if ¬ a_badCap k then h_n k (st.2 7) lg lg.length else 0)) (ki_B D [(cy, .int)] A (fun (t1 : Nat → Int32) => [(mo, .inr (3, [.ref an, .ref ae, .ref al, .ref ap, .int (nI lg.length), .int (kk 0), .int (kk 1), .int (kk 2), .int (kk 3), .int (if ¬ a_badCap k then 0 else 1)])), (an, .inl (cy, 366, .inl t)), (ae, .inl (cy, 366, .inl t1)), (al, .inl (cy, 60, .inl g))])) A) args s 0 0 A) (F0 m 68 ls []) := by
            intro n9
            induction n9 with
            | zero => intro i t5 H locs ls h; omega
            | succ n9 ih =>
              intro i t5 H locs ls hm9 hi hm5 hP hD hS hl
              refine lv_iload_n hx hb dX3_hitsIf_68 rfl (lv_at hl 0 rfl) ?_
              refine lv_aload_n hx hb dX3_hitsIf_69 rfl (lv_at hl 2 rfl) ?_
              refine va_get (D := D) (ci := 3) (v := .int (nI lg.length)) (C := RX3) (T := TX3) (N := 10) hx hb hts hiX3 hown hK hP 0 rfl rfl 4 (by decide) (hts (.fieldLink RX3 95 "AdaptiveReplacementCacheModel" "logged" "I") (by decide +kernel)) (fun _ h9 => h9) rfl dX3_hitsIf_70 ?_
              refine lv_icmp_ge (tgt := 107) hx hb dX3_hitsIf_73 (by decide) (fun c_12 => ?_) (fun c_12 => ?_)
              · skip
                have hij : i = lg.length := Nat.le_antisymm hi (by rcases Nat.lt_or_ge i lg.length with q9 | q9; exact absurd c_12 (nI_ge q9 (by omega)); exact q9)
                subst hij
                refine lv_iload_n hx hb dX3_hitsIf_107 rfl (lv_at hl 1 rfl) ?_
                exact ki_iret hx hb hr hlk hK hS t5 ((if_pos hok).symm) (by simp only [if_pos hok] at hP ⊢; exact hP) (by simp only [if_pos hok] at hD ⊢; exact hD) dX3_hitsIf_108
              · skip
                have hil : i < lg.length := by rcases Nat.lt_or_ge i lg.length with q9 | q9; exact q9; exact absurd (nI_le q9 (by omega)) c_12
                refine lv_iload_n hx hb dX3_hitsIf_76 rfl (lv_at hl 1 rfl) ?_
                refine lv_aload_n hx hb dX3_hitsIf_77 rfl (lv_at hl 2 rfl) ?_
                refine va_get (D := D) (ci := 3) (v := .ref ae) (C := RX3) (T := TX3) (N := 10) hx hb hts hiX3 hown hK hP 0 rfl rfl 1 (by decide) (hts (.fieldLink RX3 13 "AdaptiveReplacementCacheModel" "then" "[I") (by decide +kernel)) (fun _ h9 => h9) rfl dX3_hitsIf_78 ?_
                refine lv_aload_n hx hb dX3_hitsIf_81 rfl (lv_at hl 2 rfl) ?_
                refine va_get (D := D) (ci := 3) (v := .ref al) (C := RX3) (T := TX3) (N := 10) hx hb hts hiX3 hown hK hP 0 rfl rfl 2 (by decide) (hts (.fieldLink RX3 16 "AdaptiveReplacementCacheModel" "log" "[I") (by decide +kernel)) (fun _ h9 => h9) rfl dX3_hitsIf_82 ?_
                refine lv_iload_n hx hb dX3_hitsIf_85 rfl (lv_at hl 0 rfl) ?_
                refine va_iald hx hb hK hP 3 0 rfl rfl (vp_in_nI (by omega) (by decide)) dX3_hitsIf_86 ?_
                refine lv_topi (fun y_13 ey_13 => ?_)
                have ey_13 : y_13 = k_at lg (nI i) := ey_13.trans (by rw [nI_clamp (by omega)]; exact m_log_at hlg hil)
                subst ey_13
                refine ki_cSI (As := [.ref ae, .int (k_at lg (nI i))]) (rest := [.int (h_n k (st.2 7) lg i)]) (wr := [(mo, .inr (3, [.ref an, .ref ae, .ref al, .ref ap, .int (nI lg.length), .int (kk 0), .int (kk 1), .int (kk 2), .int (kk 3), .int (if ¬ a_badCap k then 0 else 1)])), (an, .inl (cy, 366, .inl t)), (al, .inl (cy, 60, .inl g))]) ⟨hx, hb, hml, hown, hts⟩ (c_X3_asks l D cy ae t5 (h_st k (st.2 7) lg i) hm5 i (by omega) (hI i hi) (k_at lg (nI i)) (hv _ (m_log_mem hl60 hil))) (va_cwS 2 hts gX3_hitsIf_X3_asks rfl rfl rfl (by decide +kernel) ⟨Nat.le_of_ble_eq_true rfl, Nat.le_of_ble_eq_true rfl⟩) hK hE hP hD hS hA [0] rfl [2] [0, 1, 3] rfl rfl rfl rfl (by decide) rfl hl.1 rfl (Nat.le_of_ble_eq_true rfl) dX3_hitsIf_87 ⟨Nat.le_of_ble_eq_true rfl, Nat.le_of_ble_eq_true rfl⟩ [0, 1, 3, 2] (fun t_14 => [(mo, .inr (3, [.ref an, .ref ae, .ref al, .ref ap, .int (nI lg.length), .int (kk 0), .int (kk 1), .int (kk 2), .int (kk 3), .int (if ¬ a_badCap k then 0 else 1)])), (an, .inl (cy, 366, .inl t)), (ae, .inl (cy, 366, .inl t_14)), (al, .inl (cy, 60, .inl g))]) (fun _ => rfl) rfl (fun r_17 t_14 H locs hw hP hD hS => ?_)
                have hw9 := hw
                obtain ⟨er_17, hw9⟩ := hw9
                subst er_17
                have hw9 : m_rep t_14 ((c_serve (h_st k (st.2 7) lg i) (k_at lg (nI i))).1) := hw9
                obtain ⟨st_16, est_16⟩ : ∃ z : ki_St, z = (c_serve (h_st k (st.2 7) lg i) (k_at lg (nI i))).1 := ⟨_, rfl⟩
                rw [← est_16] at hw9
                have hm_15 := hw9
                have hP : va_P D vwCl [(mo, .inr (3, [.ref an, .ref ae, .ref al, .ref ap, .int (nI lg.length), .int (kk 0), .int (kk 1), .int (kk 2), .int (kk 3), .int (if ¬ a_badCap k then 0 else 1)])), (an, .inl (cy, 366, .inl t)), (ae, .inl (cy, 366, .inl t_14)), (al, .inl (cy, 60, .inl g))] H := hP
                have hD : va_D A [(mo, .inr (3, [.ref an, .ref ae, .ref al, .ref ap, .int (nI lg.length), .int (kk 0), .int (kk 1), .int (kk 2), .int (kk 3), .int (if ¬ a_badCap k then 0 else 1)])), (an, .inl (cy, 366, .inl t)), (ae, .inl (cy, 366, .inl t_14)), (al, .inl (cy, 60, .inl g))] := hD
                refine lv_iconst (v := 3) hx hb dX3_hitsIf_90 (by decide) ?_
                refine lv_icmp_ge (tgt := 98) hx hb dX3_hitsIf_91 (by decide) (fun c_18 => ?_) (fun c_18 => ?_)
                · skip
                  refine lv_iconst (v := 0) hx hb dX3_hitsIf_98 (by decide) ?_
                  refine lv_iadd hx hb dX3_hitsIf_99 ?_
                  refine lv_topi (fun y_19 ey_19 => ?_)
                  have ey_19 : y_19 = h_n k (st.2 7) lg i := ey_19.trans (Int32.add_zero _)
                  subst ey_19
                  refine lv_istore_n (lv' := [(2, .int (h_n k (st.2 7) lg i)), (3, .int (nI i)), (0, .ref mo), (1, .int k)]) hx hb dX3_hitsIf_100 rfl hl (by decide) rfl (fun ls hl => ?_)
                  refine lv_iinc (v := nI (i + 1)) (lv' := [(3, .int (nI (i + 1))), (2, .int (h_n k (st.2 7) lg i)), (0, .ref mo), (1, .int k)]) hx hb dX3_hitsIf_101 hl (k := 1) rfl (nI_1 i) (by decide) rfl (fun ls hl => ?_)
                  refine lv_goto (tgt := 68) hx hb dX3_hitsIf_104 (by decide) ?_
                  have eN : h_n k (st.2 7) lg (i + 1) = h_n k (st.2 7) lg i := by rw [h_n]; exact if_neg (fun q9 => m_lt3.mp q9 c_18)
                  exact ih (i + 1) t_14 H locs ls (by omega) (by omega) (by have q9 := hm_15; rw [est_16] at q9; exact q9) hP hD hS (by rw [eN]; exact lv_sub hl [0, 1, 2, 3] rfl)
                · skip
                  refine lv_iconst (v := 1) hx hb dX3_hitsIf_94 (by decide) ?_
                  refine lv_goto (tgt := 99) hx hb dX3_hitsIf_95 (by decide) ?_
                  refine lv_iadd hx hb dX3_hitsIf_99 ?_
                  refine lv_istore_n (lv' := [(2, .int ((h_n k (st.2 7) lg i) + 1)), (3, .int (nI i)), (0, .ref mo), (1, .int k)]) hx hb dX3_hitsIf_100 rfl hl (by decide) rfl (fun ls hl => ?_)
                  refine lv_iinc (v := nI (i + 1)) (lv' := [(3, .int (nI (i + 1))), (2, .int ((h_n k (st.2 7) lg i) + 1)), (0, .ref mo), (1, .int k)]) hx hb dX3_hitsIf_101 hl (k := 1) rfl (nI_1 i) (by decide) rfl (fun ls hl => ?_)
                  refine lv_goto (tgt := 68) hx hb dX3_hitsIf_104 (by decide) ?_
                  have eN : h_n k (st.2 7) lg (i + 1) = (h_n k (st.2 7) lg i) + 1 := by rw [h_n]; exact if_pos (m_lt3.mpr c_18)
                  exact ih (i + 1) t_14 H locs ls (by omega) (by omega) (by have q9 := hm_15; rw [est_16] at q9; exact q9) hP hD hS (by rw [eN]; exact lv_sub hl [0, 1, 2, 3] rfl)
          exact lp2 (lg.length + 1) 0 t_10 H locs ls (by omega) (Nat.zero_le _) hmS hP hD hS (lv_sub hl [0, 1, 2, 3] rfl)
        · skip
          have hi16 : i < 16 := by rcases Nat.lt_or_ge i 16 with q9 | q9; exact q9; exact absurd (show nI 16 ≤ nI i from nI_le q9 (by omega)) c_4
          refine lv_aload_n hx hb dX3_hitsIf_21 rfl (lv_at hl 1 rfl) ?_
          refine va_get (D := D) (ci := 3) (v := .ref ae) (C := RX3) (T := TX3) (N := 10) hx hb hts hiX3 hown hK hP 0 rfl rfl 1 (by decide) (hts (.fieldLink RX3 13 "AdaptiveReplacementCacheModel" "then" "[I") (by decide +kernel)) (fun _ h9 => h9) rfl dX3_hitsIf_22 ?_
          refine lv_iload_n hx hb dX3_hitsIf_25 rfl (lv_at hl 0 rfl) ?_
          refine lv_iconst (v := 0) hx hb dX3_hitsIf_26 (by decide) ?_
          refine va_iast hx hb hK hP hD hS 2 0 rfl rfl (vp_in_nI (by omega) (by decide)) dX3_hitsIf_27 (fun H locs hP hD hS => ?_)
          obtain ⟨t3, et3⟩ : ∃ zz9 : Nat → Int32, zz9 = upd t2 (Int32.toNatClampNeg (nI i)) 0 := ⟨_, rfl⟩
          rw [← et3] at hP hD
          have ht3 : ∀ j : Nat, j < i + 1 → t3 j = 0 := fun j h9 => by
            rw [et3]; unfold upd; rw [nI_clamp (by omega)]
            by_cases q9 : j = i
            · rw [if_pos q9]
            · rw [if_neg q9]; exact ht2 j (by omega)
          have hP : va_P D vwCl [(mo, .inr (3, [.ref an, .ref ae, .ref al, .ref ap, .int (nI lg.length), .int (kk 0), .int (kk 1), .int (kk 2), .int (kk 3), .int (if ¬ a_badCap k then 0 else 1)])), (an, .inl (cy, 366, .inl t)), (ae, .inl (cy, 366, .inl t3)), (al, .inl (cy, 60, .inl g))] H := hP
          have hD : va_D A [(mo, .inr (3, [.ref an, .ref ae, .ref al, .ref ap, .int (nI lg.length), .int (kk 0), .int (kk 1), .int (kk 2), .int (kk 3), .int (if ¬ a_badCap k then 0 else 1)])), (an, .inl (cy, 366, .inl t)), (ae, .inl (cy, 366, .inl t3)), (al, .inl (cy, 60, .inl g))] := hD
          refine lv_iinc (v := nI (i + 1)) (lv' := [(2, .int (nI (i + 1))), (0, .ref mo), (1, .int k)]) hx hb dX3_hitsIf_28 hl (k := 0) rfl (nI_1 i) (by decide) rfl (fun ls hl => ?_)
          refine lv_goto (tgt := 15) hx hb dX3_hitsIf_31 (by decide) ?_
          exact ih (i + 1) t3 H locs ls (by omega) (by omega) ht3 hP hD hS (lv_sub hl [0, 1, 2] rfl)
    exact lp1 17 0 tt H locs ls (by omega) (Nat.zero_le _) (fun j h9 => absurd h9 (Nat.not_lt_zero j)) hP hD hS (lv_sub hl [0, 1, 2] rfl)
  · skip
    have c_3 : ¬ (¬ a_badCap k) := ki_b0.mp c_3
    refine lv_iconst (v := 0) hx hb dX3_hitsIf_11 (by decide) ?_
    exact ki_iret hx hb hr hlk hK hS tt ((if_neg c_3).symm) (by simp only [if_neg c_3] at hP ⊢; exact hP) (by simp only [if_neg c_3] at hD ⊢; exact hD) dX3_hitsIf_12
