/-! ===== the reference: victims, requests ===== -/
theorem m_nIinj {a b : Nat} (ha : a < 2 ^ 31) (hb : b < 2 ^ 31) (h : nI a = nI b) : a = b := by
  have q := congrArg Int32.toInt h
  rw [nI_toInt ha, nI_toInt hb] at q
  omega
set_option maxHeartbeats 4000000 in
set_option maxRecDepth 100000 in
theorem c_X3_victim (l : Launch) (D : va_G) (cy : ClassId) (mo an ae al ap : Nat) (ln th : Int32) (kk : Nat → Int32) (t : Nat → Int32) (st : ki_St) (hm : m_rep t st) (n : Nat) (hn : n < 2 ^ 30) (hInv : p_Inv n st) : ki_I l yX3_victim wsX3_victim ({ frames := 1, cells := 0, slots := 0, locals := 22 }) 0 0 D [(cy, .int)] [.ref mo] [(mo, .inr (3, [.ref an, .ref ae, .ref al, .ref ap, .int ln, .int (kk 0), .int (kk 1), .int (kk 2), .int (kk 3), .int th])), (an, .inl (cy, 366, .inl t))] (S := Unit) (fun r _ => r = c_victim st) (fun _u => [(mo, .inr (3, [.ref an, .ref ae, .ref al, .ref ap, .int ln, .int (kk 0), .int (kk 1), .int (kk 2), .int (kk 3), .int 0])), (an, .inl (cy, 366, .inl t))]) := by
  refine ki_ofI (cc := cX3_victim) (maxL := 2) (ret := (some .int)) (by decide +kernel) rfl (Nat.le_of_ble_eq_true rfl) ?_
  intro p e s m args below meth c A ls hx hb hr hts hown hlk hml hK hE hP hD hA hS hl
  have hown : s.vm.findClass RX3 = some m.cls := hown
  have hl : lv_has ls 2 [(0, .ref mo)] := hl
  have hiX3 : ∀ w ∈ u_ws RX3 TX3 10, w ∈ wsX3_victim := by decide +kernel
  refine lv_aload_n hx hb dX3_victim_0 rfl (lv_at hl 0 rfl) ?_
  refine lv_iconst (v := 0) hx hb dX3_victim_1 (by decide) ?_
  refine va_put (D := D) (ci := 3) (v := .int 0) (ty := .int) (C := RX3) (T := TX3) (N := 10) hx hb hts hiX3 tyX3 tyX3_ok nmX3 hown hK hP hD hS 0 rfl rfl 9 (by decide) (hts (.fieldLink RX3 22 "AdaptiveReplacementCacheModel" "thrown" "I") (by decide +kernel)) (fun _ h9 => h9) rfl (by decide +kernel) rfl rfl (Nat.le_of_ble_eq_true rfl) dX3_victim_2 (fun H locs hP hD hS => ?_)
  have hP : va_P D vwCl [(mo, .inr (3, [.ref an, .ref ae, .ref al, .ref ap, .int ln, .int (kk 0), .int (kk 1), .int (kk 2), .int (kk 3), .int 0])), (an, .inl (cy, 366, .inl t))] H := hP
  have hD : va_D A [(mo, .inr (3, [.ref an, .ref ae, .ref al, .ref ap, .int ln, .int (kk 0), .int (kk 1), .int (kk 2), .int (kk 3), .int 0])), (an, .inl (cy, 366, .inl t))] := hD
  refine lv_aload_n hx hb dX3_victim_5 rfl (lv_at hl 0 rfl) ?_
  refine va_get (D := D) (ci := 3) (v := .ref an) (C := RX3) (T := TX3) (N := 10) hx hb hts hiX3 hown hK hP 0 rfl rfl 0 (by decide) (hts (.fieldLink RX3 7 "AdaptiveReplacementCacheModel" "now" "[I") (by decide +kernel)) (fun _ h9 => h9) rfl dX3_victim_6 ?_
  refine lv_iconst (v := 1) hx hb dX3_victim_9 (by decide) ?_
  refine va_iald hx hb hK hP 1 0 rfl rfl (vp_in_nI (n := 1) (by decide) (by decide)) dX3_victim_10 ?_
  refine lv_topi (fun y_1 ey_1 => ?_)
  have ey_1 : y_1 = nI (st.1 1).length := ey_1.trans (m_l hm (i := 1) (by decide) (by decide))
  subst ey_1
  refine lv_aload_n hx hb dX3_victim_11 rfl (lv_at hl 0 rfl) ?_
  refine va_get (D := D) (ci := 3) (v := .ref an) (C := RX3) (T := TX3) (N := 10) hx hb hts hiX3 hown hK hP 0 rfl rfl 0 (by decide) (hts (.fieldLink RX3 7 "AdaptiveReplacementCacheModel" "now" "[I") (by decide +kernel)) (fun _ h9 => h9) rfl dX3_victim_12 ?_
  refine lv_iconst (v := 3) hx hb dX3_victim_15 (by decide) ?_
  refine va_iald hx hb hK hP 1 0 rfl rfl (vp_in_nI (n := 3) (by decide) (by decide)) dX3_victim_16 ?_
  refine lv_topi (fun y_2 ey_2 => ?_)
  have ey_2 : y_2 = nI (st.1 3).length := ey_2.trans (m_l hm (i := 3) (by decide) (by decide))
  subst ey_2
  refine lv_iadd hx hb dX3_victim_17 ?_
  refine lv_topi (fun y_3 ey_3 => ?_)
  have ey_3 : y_3 = c_rg st := ey_3.trans rfl
  subst ey_3
  refine lv_aload_n hx hb dX3_victim_18 rfl (lv_at hl 0 rfl) ?_
  refine va_get (D := D) (ci := 3) (v := .ref an) (C := RX3) (T := TX3) (N := 10) hx hb hts hiX3 hown hK hP 0 rfl rfl 0 (by decide) (hts (.fieldLink RX3 7 "AdaptiveReplacementCacheModel" "now" "[I") (by decide +kernel)) (fun _ h9 => h9) rfl dX3_victim_19 ?_
  refine lv_bipush (v := 6) hx hb dX3_victim_22 (by decide) ?_
  refine va_iald hx hb hK hP 1 0 rfl rfl (vp_in_nI (n := 6) (by decide) (by decide)) dX3_victim_24 ?_
  refine lv_topi (fun y_4 ey_4 => ?_)
  have ey_4 : y_4 = st.2 6 := ey_4.trans (hm.2 6 (by decide) (by decide))
  subst ey_4
  refine lv_icmp_lt (tgt := 41) hx hb dX3_victim_25 (by decide) (fun c_5 => ?_) (fun c_5 => ?_)
  · skip
    refine lv_iconst (v := 0) hx hb dX3_victim_41 (by decide) ?_
    obtain ⟨hpw, k, g, r0, z, ⟨hk, hk1, hk2⟩, ⟨hg, hg2⟩, -, -, -, h6, h7, h8⟩ := id hInv
    have hnd : ¬ c_drops st := fun q9 => m_rglt c_5 q9.1
    refine lv_istore_n (lv' := [(1, .int 0), (0, .ref mo)]) hx hb dX3_victim_42 rfl hl (by decide) rfl (fun ls hl => ?_)
    refine lv_aload_n hx hb dX3_victim_43 rfl (lv_at hl 1 rfl) ?_
    refine va_get (D := D) (ci := 3) (v := .ref an) (C := RX3) (T := TX3) (N := 10) hx hb hts hiX3 hown hK hP 0 rfl rfl 0 (by decide) (hts (.fieldLink RX3 7 "AdaptiveReplacementCacheModel" "now" "[I") (by decide +kernel)) (fun _ h9 => h9) rfl dX3_victim_44 ?_
    refine ki_cSR (As := [.ref an]) (rest := []) ⟨hx, hb, hml, hown, hts⟩ (c_X3_isFull l D cy an t st hm) (va_cwS 1 hts gX3_victim_X3_isFull rfl rfl rfl (by decide +kernel) ⟨Nat.le_of_ble_eq_true rfl, Nat.le_of_ble_eq_true rfl⟩) hK hE hP [0] rfl [1] rfl rfl hl.1 rfl (Nat.le_of_ble_eq_true rfl) dX3_victim_47 ⟨Nat.le_of_ble_eq_true rfl, Nat.le_of_ble_eq_true rfl⟩ ?_
    refine lv_if_ne (tgt := 55) hx hb dX3_victim_50 (by decide) (fun c_6 => ?_) (fun c_6 => ?_)
    · skip
      have c_6 : ¬ c_pages st < st.2 6 := ki_b1.mp c_6
      refine lv_aload_n hx hb dX3_victim_55 rfl (lv_at hl 1 rfl) ?_
      refine va_get (D := D) (ci := 3) (v := .ref an) (C := RX3) (T := TX3) (N := 10) hx hb hts hiX3 hown hK hP 0 rfl rfl 0 (by decide) (hts (.fieldLink RX3 7 "AdaptiveReplacementCacheModel" "now" "[I") (by decide +kernel)) (fun _ h9 => h9) rfl dX3_victim_56 ?_
      refine lv_iload_n hx hb dX3_victim_59 rfl (lv_at hl 0 rfl) ?_
      refine lv_if_eq (tgt := 67) hx hb dX3_victim_60 (by decide) (fun c_7 => ?_) (fun c_7 => ?_)
      rotate_left
      · exact absurd (by decide) c_7
      · skip
        refine lv_aload_n hx hb dX3_victim_67 rfl (lv_at hl 1 rfl) ?_
        refine va_get (D := D) (ci := 3) (v := .ref an) (C := RX3) (T := TX3) (N := 10) hx hb hts hiX3 hown hK hP 0 rfl rfl 0 (by decide) (hts (.fieldLink RX3 7 "AdaptiveReplacementCacheModel" "now" "[I") (by decide +kernel)) (fun _ h9 => h9) rfl dX3_victim_68 ?_
        refine lv_iconst (v := 0) hx hb dX3_victim_71 (by decide) ?_
        refine ki_cSR (As := [.ref an, .int 0]) (rest := [.ref an]) ⟨hx, hb, hml, hown, hts⟩ (c_X3_evictedFrom l D cy an t st hm 0) (va_cwS 2 hts gX3_victim_X3_evictedFrom rfl rfl rfl (by decide +kernel) ⟨Nat.le_of_ble_eq_true rfl, Nat.le_of_ble_eq_true rfl⟩) hK hE hP [0] rfl [1] rfl rfl hl.1 rfl (Nat.le_of_ble_eq_true rfl) dX3_victim_72 ⟨Nat.le_of_ble_eq_true rfl, Nat.le_of_ble_eq_true rfl⟩ ?_
        have ez9 : (if (0 : Int32) = 4 then (1 : Int32) else 0) = 0 := by decide
        by_cases hev : c_evR st (if (0 : Int32) = 4 then 1 else 0)
        · skip
          have hev0 := hev
          rw [ez9] at hev0
          have hpos := m_vic1 hInv hev0
          refine lv_topi (fun y9 ey9 => ?_)
          rw [if_pos hev] at ey9
          subst ey9
          refine lv_iconst (v := 0) hx hb dX3_victim_75 (by decide) ?_
          refine ki_cSR (As := [.int 1, .int 0]) (rest := [.ref an]) ⟨hx, hb, hml, hown, hts⟩ (c_X3_at l D 1 0) (va_cwS 2 hts gX3_victim_X3_at rfl rfl rfl (by decide +kernel) ⟨Nat.le_of_ble_eq_true rfl, Nat.le_of_ble_eq_true rfl⟩) hK hE hP [] rfl [] rfl rfl hl.1 rfl (Nat.le_of_ble_eq_true rfl) dX3_victim_76 ⟨Nat.le_of_ble_eq_true rfl, Nat.le_of_ble_eq_true rfl⟩ ?_
          rw [show (16 + 70 * 1 + 0 : Int32) = nI (16 + 70 * 1 + 0) from m_at 1 0]
          refine va_iald hx hb hK hP 1 0 rfl rfl (vp_in_nI (by omega) (by decide)) dX3_victim_79 ?_
          refine lv_topi (fun y_8 ey_8 => ?_)
          have ey_8 : y_8 = k_at (st.1 1) 0 := ey_8.trans (by rw [nI_clamp (by omega)]; exact m_at0 hm (i := 1) (by decide) (by decide) hpos)
          subst ey_8
          have e9 : c_victim st = k_at (st.1 1) 0 := (if_neg hnd).trans ((if_pos ((p_full hk (by omega) hpw).mpr (m_full hpw hk (by omega) h6 c_6))).trans (if_pos hev0))
          exact ki_iret hx hb hr hlk hK hS () e9.symm hP hD dX3_victim_80
        · skip
          have hev0 := hev
          rw [ez9] at hev0
          have hpos := m_vic2 hInv hnd c_6 hev0
          refine lv_topi (fun y9 ey9 => ?_)
          rw [if_neg hev] at ey9
          subst ey9
          refine lv_iconst (v := 0) hx hb dX3_victim_75 (by decide) ?_
          refine ki_cSR (As := [.int 2, .int 0]) (rest := [.ref an]) ⟨hx, hb, hml, hown, hts⟩ (c_X3_at l D 2 0) (va_cwS 2 hts gX3_victim_X3_at rfl rfl rfl (by decide +kernel) ⟨Nat.le_of_ble_eq_true rfl, Nat.le_of_ble_eq_true rfl⟩) hK hE hP [] rfl [] rfl rfl hl.1 rfl (Nat.le_of_ble_eq_true rfl) dX3_victim_76 ⟨Nat.le_of_ble_eq_true rfl, Nat.le_of_ble_eq_true rfl⟩ ?_
          rw [show (16 + 70 * 2 + 0 : Int32) = nI (16 + 70 * 2 + 0) from m_at 2 0]
          refine va_iald hx hb hK hP 1 0 rfl rfl (vp_in_nI (by omega) (by decide)) dX3_victim_79 ?_
          refine lv_topi (fun y_9 ey_9 => ?_)
          have ey_9 : y_9 = k_at (st.1 2) 0 := ey_9.trans (by rw [nI_clamp (by omega)]; exact m_at0 hm (i := 2) (by decide) (by decide) hpos)
          subst ey_9
          have e9 : c_victim st = k_at (st.1 2) 0 := (if_neg hnd).trans ((if_pos ((p_full hk (by omega) hpw).mpr (m_full hpw hk (by omega) h6 c_6))).trans (if_neg hev0))
          exact ki_iret hx hb hr hlk hK hS () e9.symm hP hD dX3_victim_80
    · skip
      have c_6 : ¬ (¬ c_pages st < st.2 6) := ki_b0.mp c_6
      refine lv_iconst (v := (-1)) hx hb dX3_victim_53 (by decide) ?_
      have e9 : c_victim st = (-1) := (if_neg hnd).trans (if_neg (m_nfull (Decidable.not_not.mp c_6)))
      exact ki_iret hx hb hr hlk hK hS () e9.symm hP hD dX3_victim_54
  · skip
    refine lv_aload_n hx hb dX3_victim_28 rfl (lv_at hl 0 rfl) ?_
    refine va_get (D := D) (ci := 3) (v := .ref an) (C := RX3) (T := TX3) (N := 10) hx hb hts hiX3 hown hK hP 0 rfl rfl 0 (by decide) (hts (.fieldLink RX3 7 "AdaptiveReplacementCacheModel" "now" "[I") (by decide +kernel)) (fun _ h9 => h9) rfl dX3_victim_29 ?_
    refine lv_iconst (v := 3) hx hb dX3_victim_32 (by decide) ?_
    refine va_iald hx hb hK hP 1 0 rfl rfl (vp_in_nI (n := 3) (by decide) (by decide)) dX3_victim_33 ?_
    refine lv_topi (fun y_10 ey_10 => ?_)
    have ey_10 : y_10 = nI (st.1 3).length := ey_10.trans (m_l hm (i := 3) (by decide) (by decide))
    subst ey_10
    refine lv_if_ne (tgt := 41) hx hb dX3_victim_34 (by decide) (fun c_11 => ?_) (fun c_11 => ?_)
    · skip
      refine lv_iconst (v := 0) hx hb dX3_victim_41 (by decide) ?_
      obtain ⟨hpw, k, g, r0, z, ⟨hk, hk1, hk2⟩, ⟨hg, hg2⟩, -, -, -, h6, h7, h8⟩ := id hInv
      have hnd : ¬ c_drops st := fun q9 => c_11 q9.2
      refine lv_istore_n (lv' := [(1, .int 0), (0, .ref mo)]) hx hb dX3_victim_42 rfl hl (by decide) rfl (fun ls hl => ?_)
      refine lv_aload_n hx hb dX3_victim_43 rfl (lv_at hl 1 rfl) ?_
      refine va_get (D := D) (ci := 3) (v := .ref an) (C := RX3) (T := TX3) (N := 10) hx hb hts hiX3 hown hK hP 0 rfl rfl 0 (by decide) (hts (.fieldLink RX3 7 "AdaptiveReplacementCacheModel" "now" "[I") (by decide +kernel)) (fun _ h9 => h9) rfl dX3_victim_44 ?_
      refine ki_cSR (As := [.ref an]) (rest := []) ⟨hx, hb, hml, hown, hts⟩ (c_X3_isFull l D cy an t st hm) (va_cwS 1 hts gX3_victim_X3_isFull rfl rfl rfl (by decide +kernel) ⟨Nat.le_of_ble_eq_true rfl, Nat.le_of_ble_eq_true rfl⟩) hK hE hP [0] rfl [1] rfl rfl hl.1 rfl (Nat.le_of_ble_eq_true rfl) dX3_victim_47 ⟨Nat.le_of_ble_eq_true rfl, Nat.le_of_ble_eq_true rfl⟩ ?_
      refine lv_if_ne (tgt := 55) hx hb dX3_victim_50 (by decide) (fun c_12 => ?_) (fun c_12 => ?_)
      · skip
        have c_12 : ¬ c_pages st < st.2 6 := ki_b1.mp c_12
        refine lv_aload_n hx hb dX3_victim_55 rfl (lv_at hl 1 rfl) ?_
        refine va_get (D := D) (ci := 3) (v := .ref an) (C := RX3) (T := TX3) (N := 10) hx hb hts hiX3 hown hK hP 0 rfl rfl 0 (by decide) (hts (.fieldLink RX3 7 "AdaptiveReplacementCacheModel" "now" "[I") (by decide +kernel)) (fun _ h9 => h9) rfl dX3_victim_56 ?_
        refine lv_iload_n hx hb dX3_victim_59 rfl (lv_at hl 0 rfl) ?_
        refine lv_if_eq (tgt := 67) hx hb dX3_victim_60 (by decide) (fun c_13 => ?_) (fun c_13 => ?_)
        rotate_left
        · exact absurd (by decide) c_13
        · skip
          refine lv_aload_n hx hb dX3_victim_67 rfl (lv_at hl 1 rfl) ?_
          refine va_get (D := D) (ci := 3) (v := .ref an) (C := RX3) (T := TX3) (N := 10) hx hb hts hiX3 hown hK hP 0 rfl rfl 0 (by decide) (hts (.fieldLink RX3 7 "AdaptiveReplacementCacheModel" "now" "[I") (by decide +kernel)) (fun _ h9 => h9) rfl dX3_victim_68 ?_
          refine lv_iconst (v := 0) hx hb dX3_victim_71 (by decide) ?_
          refine ki_cSR (As := [.ref an, .int 0]) (rest := [.ref an]) ⟨hx, hb, hml, hown, hts⟩ (c_X3_evictedFrom l D cy an t st hm 0) (va_cwS 2 hts gX3_victim_X3_evictedFrom rfl rfl rfl (by decide +kernel) ⟨Nat.le_of_ble_eq_true rfl, Nat.le_of_ble_eq_true rfl⟩) hK hE hP [0] rfl [1] rfl rfl hl.1 rfl (Nat.le_of_ble_eq_true rfl) dX3_victim_72 ⟨Nat.le_of_ble_eq_true rfl, Nat.le_of_ble_eq_true rfl⟩ ?_
          have ez9 : (if (0 : Int32) = 4 then (1 : Int32) else 0) = 0 := by decide
          by_cases hev : c_evR st (if (0 : Int32) = 4 then 1 else 0)
          · skip
            have hev0 := hev
            rw [ez9] at hev0
            have hpos := m_vic1 hInv hev0
            refine lv_topi (fun y9 ey9 => ?_)
            rw [if_pos hev] at ey9
            subst ey9
            refine lv_iconst (v := 0) hx hb dX3_victim_75 (by decide) ?_
            refine ki_cSR (As := [.int 1, .int 0]) (rest := [.ref an]) ⟨hx, hb, hml, hown, hts⟩ (c_X3_at l D 1 0) (va_cwS 2 hts gX3_victim_X3_at rfl rfl rfl (by decide +kernel) ⟨Nat.le_of_ble_eq_true rfl, Nat.le_of_ble_eq_true rfl⟩) hK hE hP [] rfl [] rfl rfl hl.1 rfl (Nat.le_of_ble_eq_true rfl) dX3_victim_76 ⟨Nat.le_of_ble_eq_true rfl, Nat.le_of_ble_eq_true rfl⟩ ?_
            rw [show (16 + 70 * 1 + 0 : Int32) = nI (16 + 70 * 1 + 0) from m_at 1 0]
            refine va_iald hx hb hK hP 1 0 rfl rfl (vp_in_nI (by omega) (by decide)) dX3_victim_79 ?_
            refine lv_topi (fun y_14 ey_14 => ?_)
            have ey_14 : y_14 = k_at (st.1 1) 0 := ey_14.trans (by rw [nI_clamp (by omega)]; exact m_at0 hm (i := 1) (by decide) (by decide) hpos)
            subst ey_14
            have e9 : c_victim st = k_at (st.1 1) 0 := (if_neg hnd).trans ((if_pos ((p_full hk (by omega) hpw).mpr (m_full hpw hk (by omega) h6 c_12))).trans (if_pos hev0))
            exact ki_iret hx hb hr hlk hK hS () e9.symm hP hD dX3_victim_80
          · skip
            have hev0 := hev
            rw [ez9] at hev0
            have hpos := m_vic2 hInv hnd c_12 hev0
            refine lv_topi (fun y9 ey9 => ?_)
            rw [if_neg hev] at ey9
            subst ey9
            refine lv_iconst (v := 0) hx hb dX3_victim_75 (by decide) ?_
            refine ki_cSR (As := [.int 2, .int 0]) (rest := [.ref an]) ⟨hx, hb, hml, hown, hts⟩ (c_X3_at l D 2 0) (va_cwS 2 hts gX3_victim_X3_at rfl rfl rfl (by decide +kernel) ⟨Nat.le_of_ble_eq_true rfl, Nat.le_of_ble_eq_true rfl⟩) hK hE hP [] rfl [] rfl rfl hl.1 rfl (Nat.le_of_ble_eq_true rfl) dX3_victim_76 ⟨Nat.le_of_ble_eq_true rfl, Nat.le_of_ble_eq_true rfl⟩ ?_
            rw [show (16 + 70 * 2 + 0 : Int32) = nI (16 + 70 * 2 + 0) from m_at 2 0]
            refine va_iald hx hb hK hP 1 0 rfl rfl (vp_in_nI (by omega) (by decide)) dX3_victim_79 ?_
            refine lv_topi (fun y_15 ey_15 => ?_)
            have ey_15 : y_15 = k_at (st.1 2) 0 := ey_15.trans (by rw [nI_clamp (by omega)]; exact m_at0 hm (i := 2) (by decide) (by decide) hpos)
            subst ey_15
            have e9 : c_victim st = k_at (st.1 2) 0 := (if_neg hnd).trans ((if_pos ((p_full hk (by omega) hpw).mpr (m_full hpw hk (by omega) h6 c_12))).trans (if_neg hev0))
            exact ki_iret hx hb hr hlk hK hS () e9.symm hP hD dX3_victim_80
      · skip
        have c_12 : ¬ (¬ c_pages st < st.2 6) := ki_b0.mp c_12
        refine lv_iconst (v := (-1)) hx hb dX3_victim_53 (by decide) ?_
        have e9 : c_victim st = (-1) := (if_neg hnd).trans (if_neg (m_nfull (Decidable.not_not.mp c_12)))
        exact ki_iret hx hb hr hlk hK hS () e9.symm hP hD dX3_victim_54
    · skip
      refine lv_iconst (v := 1) hx hb dX3_victim_37 (by decide) ?_
      refine lv_goto (tgt := 42) hx hb dX3_victim_38 (by decide) ?_
      obtain ⟨hpw, k, g, r0, z, ⟨hk, hk1, hk2⟩, ⟨hg, hg2⟩, -, -, -, h6, h7, h8⟩ := id hInv
      have hd : c_drops st := ⟨m_rgeq hpw hk (by omega) h7 c_5, c_11⟩
      refine lv_istore_n (lv' := [(1, .int 1), (0, .ref mo)]) hx hb dX3_victim_42 rfl hl (by decide) rfl (fun ls hl => ?_)
      refine lv_aload_n hx hb dX3_victim_43 rfl (lv_at hl 1 rfl) ?_
      refine va_get (D := D) (ci := 3) (v := .ref an) (C := RX3) (T := TX3) (N := 10) hx hb hts hiX3 hown hK hP 0 rfl rfl 0 (by decide) (hts (.fieldLink RX3 7 "AdaptiveReplacementCacheModel" "now" "[I") (by decide +kernel)) (fun _ h9 => h9) rfl dX3_victim_44 ?_
      refine ki_cSR (As := [.ref an]) (rest := []) ⟨hx, hb, hml, hown, hts⟩ (c_X3_isFull l D cy an t st hm) (va_cwS 1 hts gX3_victim_X3_isFull rfl rfl rfl (by decide +kernel) ⟨Nat.le_of_ble_eq_true rfl, Nat.le_of_ble_eq_true rfl⟩) hK hE hP [0] rfl [1] rfl rfl hl.1 rfl (Nat.le_of_ble_eq_true rfl) dX3_victim_47 ⟨Nat.le_of_ble_eq_true rfl, Nat.le_of_ble_eq_true rfl⟩ ?_
      refine lv_if_ne (tgt := 55) hx hb dX3_victim_50 (by decide) (fun c_16 => ?_) (fun c_16 => ?_)
      · skip
        have c_16 : ¬ c_pages st < st.2 6 := ki_b1.mp c_16
        refine lv_aload_n hx hb dX3_victim_55 rfl (lv_at hl 1 rfl) ?_
        refine va_get (D := D) (ci := 3) (v := .ref an) (C := RX3) (T := TX3) (N := 10) hx hb hts hiX3 hown hK hP 0 rfl rfl 0 (by decide) (hts (.fieldLink RX3 7 "AdaptiveReplacementCacheModel" "now" "[I") (by decide +kernel)) (fun _ h9 => h9) rfl dX3_victim_56 ?_
        refine lv_iload_n hx hb dX3_victim_59 rfl (lv_at hl 0 rfl) ?_
        refine lv_if_eq (tgt := 67) hx hb dX3_victim_60 (by decide) (fun c_17 => ?_) (fun c_17 => ?_)
        · exact absurd c_17 (by decide)
        · skip
          refine lv_iconst (v := 1) hx hb dX3_victim_63 (by decide) ?_
          refine lv_goto (tgt := 75) hx hb dX3_victim_64 (by decide) ?_
          have hpos := (m_vic0 hInv hd).1
          refine lv_iconst (v := 0) hx hb dX3_victim_75 (by decide) ?_
          refine ki_cSR (As := [.int 1, .int 0]) (rest := [.ref an]) ⟨hx, hb, hml, hown, hts⟩ (c_X3_at l D 1 0) (va_cwS 2 hts gX3_victim_X3_at rfl rfl rfl (by decide +kernel) ⟨Nat.le_of_ble_eq_true rfl, Nat.le_of_ble_eq_true rfl⟩) hK hE hP [] rfl [] rfl rfl hl.1 rfl (Nat.le_of_ble_eq_true rfl) dX3_victim_76 ⟨Nat.le_of_ble_eq_true rfl, Nat.le_of_ble_eq_true rfl⟩ ?_
          rw [show (16 + 70 * 1 + 0 : Int32) = nI (16 + 70 * 1 + 0) from m_at 1 0]
          refine va_iald hx hb hK hP 1 0 rfl rfl (vp_in_nI (by omega) (by decide)) dX3_victim_79 ?_
          refine lv_topi (fun y_18 ey_18 => ?_)
          have ey_18 : y_18 = k_at (st.1 1) 0 := ey_18.trans (by rw [nI_clamp (by omega)]; exact m_at0 hm (i := 1) (by decide) (by decide) hpos)
          subst ey_18
          have e9 : c_victim st = k_at (st.1 1) 0 := if_pos hd
          exact ki_iret hx hb hr hlk hK hS () e9.symm hP hD dX3_victim_80
      · skip
        have c_16 : ¬ (¬ c_pages st < st.2 6) := ki_b0.mp c_16
        exact absurd (Decidable.not_not.mp c_16) (m_vic0 hInv hd).2
set_option maxHeartbeats 4000000 in
set_option maxRecDepth 100000 in
theorem c_X3_request (l : Launch) (D : va_G) (cy : ClassId) (mo an ae al ap : Nat) (ln th : Int32) (kk : Nat → Int32) (t : Nat → Int32) (st : ki_St) (hm : m_rep t st) (n : Nat) (hn : n < 2 ^ 30) (hInv : p_Inv n st) (lg : List Int32) (g : Nat → Int32) (hlg : m_log g lg) (key : Int32) : ki_I l yX3_request wsX3_request ({ frames := 6, cells := 0, slots := 0, locals := 134 }) 0 0 D [(cy, .int)] [.ref mo, .int key] [(mo, .inr (3, [.ref an, .ref ae, .ref al, .ref ap, .int (nI lg.length), .int (kk 0), .int (kk 1), .int (kk 2), .int (kk 3), .int th])), (an, .inl (cy, 366, .inl t)), (al, .inl (cy, 60, .inl g))] (S := (Nat → Int32) × (Nat → Int32)) (fun r (u : (Nat → Int32) × (Nat → Int32)) => r = (if ¬ a_badKey key then (c_serve st key).2 else 0) ∧ m_rep u.1 (if ¬ a_badKey key then (c_serve st key).1 else st) ∧ m_log u.2 (if ¬ a_badKey key then a_log lg key else lg)) (fun u => [(mo, .inr (3, [.ref an, .ref ae, .ref al, .ref ap, .int (nI (if ¬ a_badKey key then a_log lg key else lg).length), .int ((if ¬ a_badKey key then a_count kk (c_serve st key).2 else kk) 0), .int ((if ¬ a_badKey key then a_count kk (c_serve st key).2 else kk) 1), .int ((if ¬ a_badKey key then a_count kk (c_serve st key).2 else kk) 2), .int ((if ¬ a_badKey key then a_count kk (c_serve st key).2 else kk) 3), .int (if ¬ a_badKey key then 0 else 1)])), (an, .inl (cy, 366, .inl u.1)), (al, .inl (cy, 60, .inl u.2))]) := by
  refine ki_ofI (cc := cX3_request) (maxL := 4) (ret := (some .int)) (by decide +kernel) rfl (Nat.le_of_ble_eq_true rfl) ?_
  intro p e s m args below meth c A ls hx hb hr hts hown hlk hml hK hE hP hD hA hS hl
  have hown : s.vm.findClass RX3 = some m.cls := hown
  have hl : lv_has ls 4 [(0, .ref mo), (1, .int key)] := hl
  have hiX3 : ∀ w ∈ u_ws RX3 TX3 10, w ∈ wsX3_request := by decide +kernel
  refine lv_aload_n hx hb dX3_request_0 rfl (lv_at hl 0 rfl) ?_
  refine lv_iload_n hx hb dX3_request_1 rfl (lv_at hl 1 rfl) ?_
  refine ki_cSR (As := [.int key]) (rest := [.ref mo]) ⟨hx, hb, hml, hown, hts⟩ (c_X3_isKey l D key) (va_cwS 1 hts gX3_request_X3_isKey rfl rfl rfl (by decide +kernel) ⟨Nat.le_of_ble_eq_true rfl, Nat.le_of_ble_eq_true rfl⟩) hK hE hP [] rfl [] rfl rfl hl.1 rfl (Nat.le_of_ble_eq_true rfl) dX3_request_2 ⟨Nat.le_of_ble_eq_true rfl, Nat.le_of_ble_eq_true rfl⟩ ?_
  refine ki_cVI (As := [.int (if ¬ a_badKey key then 1 else 0)]) (rest := []) (wr := [(an, .inl (cy, 366, .inl t)), (al, .inl (cy, 60, .inl g))]) ⟨hx, hb, hml, hown, hts⟩ (c_X3_asked l D mo an ae al ap (nI lg.length) th kk (¬ a_badKey key)) (cwV 1 hts gX3_request_X3_asked rfl rfl rfl (by decide +kernel) ⟨Nat.le_of_ble_eq_true rfl, Nat.le_of_ble_eq_true rfl⟩) hK hE hP hD hS hA [] rfl [0] [1, 2] rfl rfl rfl rfl (by decide) 3 0 rfl rfl rfl rfl hl.1 rfl (Nat.le_of_ble_eq_true rfl) dX3_request_5 ⟨Nat.le_of_ble_eq_true rfl, Nat.le_of_ble_eq_true rfl⟩ [2, 0, 1] (fun u_2 => [(mo, .inr (3, [.ref an, .ref ae, .ref al, .ref ap, .int (nI lg.length), .int (kk 0), .int (kk 1), .int (kk 2), .int (kk 3), .int (if ¬ a_badKey key then 0 else 1)])), (an, .inl (cy, 366, .inl t)), (al, .inl (cy, 60, .inl g))]) (fun _ => rfl) rfl (fun r_1 u_2 H locs hw hP hD hS => ?_)
  subst hw
  have hP : va_P D vwCl [(mo, .inr (3, [.ref an, .ref ae, .ref al, .ref ap, .int (nI lg.length), .int (kk 0), .int (kk 1), .int (kk 2), .int (kk 3), .int (if ¬ a_badKey key then 0 else 1)])), (an, .inl (cy, 366, .inl t)), (al, .inl (cy, 60, .inl g))] H := hP
  have hD : va_D A [(mo, .inr (3, [.ref an, .ref ae, .ref al, .ref ap, .int (nI lg.length), .int (kk 0), .int (kk 1), .int (kk 2), .int (kk 3), .int (if ¬ a_badKey key then 0 else 1)])), (an, .inl (cy, 366, .inl t)), (al, .inl (cy, 60, .inl g))] := hD
  refine lv_if_ne (tgt := 13) hx hb dX3_request_8 (by decide) (fun c_3 => ?_) (fun c_3 => ?_)
  · skip
    have c_3 : ¬ a_badKey key := ki_b1.mp c_3
    have hk0 := m_badKey c_3
    refine lv_aload_n hx hb dX3_request_13 rfl (lv_at hl 0 rfl) ?_
    refine va_get (D := D) (ci := 3) (v := .ref an) (C := RX3) (T := TX3) (N := 10) hx hb hts hiX3 hown hK hP 0 rfl rfl 0 (by decide) (hts (.fieldLink RX3 7 "AdaptiveReplacementCacheModel" "now" "[I") (by decide +kernel)) (fun _ h9 => h9) rfl dX3_request_14 ?_
    refine lv_iload_n hx hb dX3_request_17 rfl (lv_at hl 1 rfl) ?_
    refine ki_cSI (As := [.ref an, .int key]) (rest := []) (wr := [(mo, .inr (3, [.ref an, .ref ae, .ref al, .ref ap, .int (nI lg.length), .int (kk 0), .int (kk 1), .int (kk 2), .int (kk 3), .int (if ¬ a_badKey key then 0 else 1)])), (al, .inl (cy, 60, .inl g))]) ⟨hx, hb, hml, hown, hts⟩ (c_X3_asks l D cy an t st hm n hn hInv key hk0) (va_cwS 2 hts gX3_request_X3_asks rfl rfl rfl (by decide +kernel) ⟨Nat.le_of_ble_eq_true rfl, Nat.le_of_ble_eq_true rfl⟩) hK hE hP hD hS hA [0] rfl [1] [0, 2] rfl rfl rfl rfl (by decide) rfl hl.1 rfl (Nat.le_of_ble_eq_true rfl) dX3_request_18 ⟨Nat.le_of_ble_eq_true rfl, Nat.le_of_ble_eq_true rfl⟩ [0, 2, 1] (fun t_4 => [(mo, .inr (3, [.ref an, .ref ae, .ref al, .ref ap, .int (nI lg.length), .int (kk 0), .int (kk 1), .int (kk 2), .int (kk 3), .int (if ¬ a_badKey key then 0 else 1)])), (an, .inl (cy, 366, .inl t_4)), (al, .inl (cy, 60, .inl g))]) (fun _ => rfl) rfl (fun r_7 t_4 H locs hw hP hD hS => ?_)
    have hw9 := hw
    obtain ⟨er_7, hw9⟩ := hw9
    subst er_7
    have hw9 : m_rep t_4 ((c_serve st key).1) := hw9
    obtain ⟨st_6, est_6⟩ : ∃ z : ki_St, z = (c_serve st key).1 := ⟨_, rfl⟩
    rw [← est_6] at hw9
    have hm_5 := hw9
    have hP : va_P D vwCl [(mo, .inr (3, [.ref an, .ref ae, .ref al, .ref ap, .int (nI lg.length), .int (kk 0), .int (kk 1), .int (kk 2), .int (kk 3), .int (if ¬ a_badKey key then 0 else 1)])), (an, .inl (cy, 366, .inl t_4)), (al, .inl (cy, 60, .inl g))] H := hP
    have hD : va_D A [(mo, .inr (3, [.ref an, .ref ae, .ref al, .ref ap, .int (nI lg.length), .int (kk 0), .int (kk 1), .int (kk 2), .int (kk 3), .int (if ¬ a_badKey key then 0 else 1)])), (an, .inl (cy, 366, .inl t_4)), (al, .inl (cy, 60, .inl g))] := hD
    subst est_6
    refine lv_istore_n (lv' := [(2, .int ((c_serve st key).2)), (0, .ref mo), (1, .int key)]) hx hb dX3_request_21 rfl hl (by decide) rfl (fun ls hl => ?_)
    have hok := c_3
    have K95 : ∀ (H : Heap) (locs : List Loc) (ls : Array Slot), va_P D vwCl [(mo, .inr (3, [.ref an, .ref ae, .ref al, .ref ap, .int (nI lg.length), .int ((a_count kk (c_serve st key).2) 0), .int ((a_count kk (c_serve st key).2) 1), .int ((a_count kk (c_serve st key).2) 2), .int ((a_count kk (c_serve st key).2) 3), .int (if ¬ a_badKey key then 0 else 1)])), (an, .inl (cy, 366, .inl t_4)), (al, .inl (cy, 60, .inl g))] H → va_D A [(mo, .inr (3, [.ref an, .ref ae, .ref al, .ref ap, .int (nI lg.length), .int ((a_count kk (c_serve st key).2) 0), .int ((a_count kk (c_serve st key).2) 1), .int ((a_count kk (c_serve st key).2) 2), .int ((a_count kk (c_serve st key).2) 3), .int (if ¬ a_badKey key then 0 else 1)])), (an, .inl (cy, 366, .inl t_4)), (al, .inl (cy, 60, .inl g))] → va_S A s.heap H locs → lv_has ls 4 [(2, .int ((c_serve st key).2)), (0, .ref mo), (1, .int key)] → W p l e ({ frames := 6, cells := 0, slots := 0, locals := 134 }) s m args below meth c H locs 0 0 (MQ below (va_Qi (fun r (u : (Nat → Int32) × (Nat → Int32)) => r = (if ¬ a_badKey key then (c_serve st key).2 else 0) ∧ m_rep u.1 (if ¬ a_badKey key then (c_serve st key).1 else st) ∧ m_log u.2 (if ¬ a_badKey key then a_log lg key else lg)) (ki_B D [(cy, .int)] A (fun (u : (Nat → Int32) × (Nat → Int32)) => [(mo, .inr (3, [.ref an, .ref ae, .ref al, .ref ap, .int (nI (if ¬ a_badKey key then a_log lg key else lg).length), .int ((if ¬ a_badKey key then a_count kk (c_serve st key).2 else kk) 0), .int ((if ¬ a_badKey key then a_count kk (c_serve st key).2 else kk) 1), .int ((if ¬ a_badKey key then a_count kk (c_serve st key).2 else kk) 2), .int ((if ¬ a_badKey key then a_count kk (c_serve st key).2 else kk) 3), .int (if ¬ a_badKey key then 0 else 1)])), (an, .inl (cy, 366, .inl u.1)), (al, .inl (cy, 60, .inl u.2))])) A) args s 0 0 A) (F0 m 95 ls []) := by
      intro H locs ls hP hD hS hl
      refine lv_aload_n hx hb dX3_request_95 rfl (lv_at hl 1 rfl) ?_
      refine va_get (D := D) (ci := 3) (v := .int (nI lg.length)) (C := RX3) (T := TX3) (N := 10) hx hb hts hiX3 hown hK hP 0 rfl rfl 4 (by decide) (hts (.fieldLink RX3 95 "AdaptiveReplacementCacheModel" "logged" "I") (by decide +kernel)) (fun _ h9 => h9) rfl dX3_request_96 ?_
      refine lv_bipush (v := 60) hx hb dX3_request_99 (by decide) ?_
      refine lv_icmp_ne (tgt := 142) hx hb dX3_request_101 (by decide) (fun c_8 => ?_) (fun c_8 => ?_)
      · skip
        have hl60 : lg.length < 60 := by rcases Nat.lt_or_ge lg.length 60 with q9 | q9; exact q9; exact absurd (by have q8 := hlg.1; rw [show lg.length = 60 by omega]; rfl) c_8
        refine lv_aload_n hx hb dX3_request_142 rfl (lv_at hl 1 rfl) ?_
        refine va_get (D := D) (ci := 3) (v := .ref al) (C := RX3) (T := TX3) (N := 10) hx hb hts hiX3 hown hK hP 0 rfl rfl 2 (by decide) (hts (.fieldLink RX3 16 "AdaptiveReplacementCacheModel" "log" "[I") (by decide +kernel)) (fun _ h9 => h9) rfl dX3_request_143 ?_
        refine lv_aload_n hx hb dX3_request_146 rfl (lv_at hl 1 rfl) ?_
        refine va_get (D := D) (ci := 3) (v := .int (nI lg.length)) (C := RX3) (T := TX3) (N := 10) hx hb hts hiX3 hown hK hP 0 rfl rfl 4 (by decide) (hts (.fieldLink RX3 95 "AdaptiveReplacementCacheModel" "logged" "I") (by decide +kernel)) (fun _ h9 => h9) rfl dX3_request_147 ?_
        refine lv_iload_n hx hb dX3_request_150 rfl (lv_at hl 2 rfl) ?_
        refine va_iast hx hb hK hP hD hS 2 0 rfl rfl (vp_in_nI (by omega) (by decide)) dX3_request_151 (fun H locs hP hD hS => ?_)
        obtain ⟨g4, eg4⟩ : ∃ zz9 : Nat → Int32, zz9 = upd g (Int32.toNatClampNeg (nI lg.length)) key := ⟨_, rfl⟩
        rw [← eg4] at hP hD
        have hg4 : ∀ x, g4 x = if x = lg.length then key else g x := fun x => by rw [eg4]; unfold upd; rw [nI_clamp (by omega)]
        have hP : va_P D vwCl [(mo, .inr (3, [.ref an, .ref ae, .ref al, .ref ap, .int (nI lg.length), .int ((a_count kk (c_serve st key).2) 0), .int ((a_count kk (c_serve st key).2) 1), .int ((a_count kk (c_serve st key).2) 2), .int ((a_count kk (c_serve st key).2) 3), .int (if ¬ a_badKey key then 0 else 1)])), (an, .inl (cy, 366, .inl t_4)), (al, .inl (cy, 60, .inl g4))] H := hP
        have hD : va_D A [(mo, .inr (3, [.ref an, .ref ae, .ref al, .ref ap, .int (nI lg.length), .int ((a_count kk (c_serve st key).2) 0), .int ((a_count kk (c_serve st key).2) 1), .int ((a_count kk (c_serve st key).2) 2), .int ((a_count kk (c_serve st key).2) 3), .int (if ¬ a_badKey key then 0 else 1)])), (an, .inl (cy, 366, .inl t_4)), (al, .inl (cy, 60, .inl g4))] := hD
        refine lv_aload_n hx hb dX3_request_152 rfl (lv_at hl 1 rfl) ?_
        refine lv_dup hx hb dX3_request_153 rfl ?_
        refine va_get (D := D) (ci := 3) (v := .int (nI lg.length)) (C := RX3) (T := TX3) (N := 10) hx hb hts hiX3 hown hK hP 0 rfl rfl 4 (by decide) (hts (.fieldLink RX3 95 "AdaptiveReplacementCacheModel" "logged" "I") (by decide +kernel)) (fun _ h9 => h9) rfl dX3_request_154 ?_
        refine lv_iconst (v := 1) hx hb dX3_request_157 (by decide) ?_
        refine lv_iadd hx hb dX3_request_158 ?_
        refine lv_topi (fun y_9 ey_9 => ?_)
        have ey_9 : y_9 = nI (lg.length + 1) := ey_9.trans (nI_1 _)
        subst ey_9
        refine va_put (D := D) (ci := 3) (v := .int (nI (lg.length + 1))) (ty := .int) (C := RX3) (T := TX3) (N := 10) hx hb hts hiX3 tyX3 tyX3_ok nmX3 hown hK hP hD hS 0 rfl rfl 4 (by decide) (hts (.fieldLink RX3 95 "AdaptiveReplacementCacheModel" "logged" "I") (by decide +kernel)) (fun _ h9 => h9) rfl (by decide +kernel) rfl rfl (Nat.le_of_ble_eq_true rfl) dX3_request_159 (fun H locs hP hD hS => ?_)
        have hP : va_P D vwCl [(mo, .inr (3, [.ref an, .ref ae, .ref al, .ref ap, .int (nI (lg.length + 1)), .int ((a_count kk (c_serve st key).2) 0), .int ((a_count kk (c_serve st key).2) 1), .int ((a_count kk (c_serve st key).2) 2), .int ((a_count kk (c_serve st key).2) 3), .int (if ¬ a_badKey key then 0 else 1)])), (an, .inl (cy, 366, .inl t_4)), (al, .inl (cy, 60, .inl g4))] H := hP
        have hD : va_D A [(mo, .inr (3, [.ref an, .ref ae, .ref al, .ref ap, .int (nI (lg.length + 1)), .int ((a_count kk (c_serve st key).2) 0), .int ((a_count kk (c_serve st key).2) 1), .int ((a_count kk (c_serve st key).2) 2), .int ((a_count kk (c_serve st key).2) 3), .int (if ¬ a_badKey key then 0 else 1)])), (an, .inl (cy, 366, .inl t_4)), (al, .inl (cy, 60, .inl g4))] := hD
        refine lv_iload_n hx hb dX3_request_162 rfl (lv_at hl 0 rfl) ?_
        have hL := m_log_add hlg hk0 hl60 hg4
        have eL : nI (lg.length + 1) = nI (a_log lg key).length := by rw [hL.2]
        rw [eL] at hP hD
        exact ki_iret hx hb hr hlk hK hS (t_4, g4) ⟨(if_pos hok).symm, by rw [if_pos hok]; exact hm_5, by rw [if_pos hok]; exact hL.1⟩ (by simp only [if_pos hok] at hP ⊢; exact hP) (by simp only [if_pos hok] at hD ⊢; exact hD) dX3_request_163
      · skip
        have hl60 : lg.length = 60 := by rcases Nat.lt_or_ge lg.length 60 with q9 | q9; exact absurd (m_nIinj (a := lg.length) (b := 60) (by omega) (by omega) c_8) (by omega); have q8 := hlg.1; omega
        refine lv_iconst (v := 1) hx hb dX3_request_104 (by decide) ?_
        refine lv_istore_n (lv' := [(3, .int 1), (2, .int ((c_serve st key).2)), (0, .ref mo), (1, .int key)]) hx hb dX3_request_105 rfl hl (by decide) rfl (fun ls hl => ?_)
        have lp : ∀ (n9 j : Nat) (g2 : Nat → Int32) (H : Heap) (locs : List Loc) (ls : Array Slot), 60 - j < n9 → 1 ≤ j → j ≤ 60 → (∀ x, g2 x = if x + 1 < j then g (x + 1) else g x) → va_P D vwCl [(mo, .inr (3, [.ref an, .ref ae, .ref al, .ref ap, .int (nI lg.length), .int ((a_count kk (c_serve st key).2) 0), .int ((a_count kk (c_serve st key).2) 1), .int ((a_count kk (c_serve st key).2) 2), .int ((a_count kk (c_serve st key).2) 3), .int (if ¬ a_badKey key then 0 else 1)])), (an, .inl (cy, 366, .inl t_4)), (al, .inl (cy, 60, .inl g2))] H → va_D A [(mo, .inr (3, [.ref an, .ref ae, .ref al, .ref ap, .int (nI lg.length), .int ((a_count kk (c_serve st key).2) 0), .int ((a_count kk (c_serve st key).2) 1), .int ((a_count kk (c_serve st key).2) 2), .int ((a_count kk (c_serve st key).2) 3), .int (if ¬ a_badKey key then 0 else 1)])), (an, .inl (cy, 366, .inl t_4)), (al, .inl (cy, 60, .inl g2))] → va_S A s.heap H locs → lv_has ls 4 [(3, .int (nI j)), (2, .int ((c_serve st key).2)), (0, .ref mo), (1, .int key)] → W p l e ({ frames := 6, cells := 0, slots := 0, locals := 134 }) s m args below meth c H locs 0 0 (MQ below (va_Qi (fun r (u : (Nat → Int32) × (Nat → Int32)) => r = (if ¬ a_badKey key then (c_serve st key).2 else 0) ∧ m_rep u.1 (if ¬ a_badKey key then (c_serve st key).1 else st) ∧ m_log u.2 (if ¬ a_badKey key then a_log lg key else lg)) (ki_B D [(cy, .int)] A (fun (u : (Nat → Int32) × (Nat → Int32)) => [(mo, .inr (3, [.ref an, .ref ae, .ref al, .ref ap, .int (nI (if ¬ a_badKey key then a_log lg key else lg).length), .int ((if ¬ a_badKey key then a_count kk (c_serve st key).2 else kk) 0), .int ((if ¬ a_badKey key then a_count kk (c_serve st key).2 else kk) 1), .int ((if ¬ a_badKey key then a_count kk (c_serve st key).2 else kk) 2), .int ((if ¬ a_badKey key then a_count kk (c_serve st key).2 else kk) 3), .int (if ¬ a_badKey key then 0 else 1)])), (an, .inl (cy, 366, .inl u.1)), (al, .inl (cy, 60, .inl u.2))])) A) args s 0 0 A) (F0 m 106 ls []) := by
          intro n9
          induction n9 with
          | zero => intro j g2 H locs ls h; omega
          | succ n9 ih =>
            intro j g2 H locs ls hm9 hj1 hj2 hg2 hP hD hS hl
            refine lv_iload_n hx hb dX3_request_106 rfl (lv_at hl 0 rfl) ?_
            refine lv_bipush (v := 60) hx hb dX3_request_107 (by decide) ?_
            refine lv_icmp_ge (tgt := 132) hx hb dX3_request_109 (by decide) (fun c_10 => ?_) (fun c_10 => ?_)
            · skip
              have hj60 : j = 60 := by rcases Nat.lt_or_ge j 60 with q9 | q9; exact absurd c_10 (show ¬ nI 60 ≤ nI j from nI_ge q9 (by omega)); omega
              refine lv_aload_n hx hb dX3_request_132 rfl (lv_at hl 2 rfl) ?_
              refine lv_dup hx hb dX3_request_133 rfl ?_
              refine va_get (D := D) (ci := 3) (v := .int (nI lg.length)) (C := RX3) (T := TX3) (N := 10) hx hb hts hiX3 hown hK hP 0 rfl rfl 4 (by decide) (hts (.fieldLink RX3 95 "AdaptiveReplacementCacheModel" "logged" "I") (by decide +kernel)) (fun _ h9 => h9) rfl dX3_request_134 ?_
              refine lv_iconst (v := 1) hx hb dX3_request_137 (by decide) ?_
              refine lv_isub hx hb dX3_request_138 ?_
              refine lv_topi (fun y_11 ey_11 => ?_)
              have ey_11 : y_11 = nI 59 := ey_11.trans (by rw [c_8]; rfl)
              subst ey_11
              refine va_put (D := D) (ci := 3) (v := .int (nI 59)) (ty := .int) (C := RX3) (T := TX3) (N := 10) hx hb hts hiX3 tyX3 tyX3_ok nmX3 hown hK hP hD hS 0 rfl rfl 4 (by decide) (hts (.fieldLink RX3 95 "AdaptiveReplacementCacheModel" "logged" "I") (by decide +kernel)) (fun _ h9 => h9) rfl (by decide +kernel) rfl rfl (Nat.le_of_ble_eq_true rfl) dX3_request_139 (fun H locs hP hD hS => ?_)
              have hP : va_P D vwCl [(mo, .inr (3, [.ref an, .ref ae, .ref al, .ref ap, .int (nI 59), .int ((a_count kk (c_serve st key).2) 0), .int ((a_count kk (c_serve st key).2) 1), .int ((a_count kk (c_serve st key).2) 2), .int ((a_count kk (c_serve st key).2) 3), .int (if ¬ a_badKey key then 0 else 1)])), (an, .inl (cy, 366, .inl t_4)), (al, .inl (cy, 60, .inl g2))] H := hP
              have hD : va_D A [(mo, .inr (3, [.ref an, .ref ae, .ref al, .ref ap, .int (nI 59), .int ((a_count kk (c_serve st key).2) 0), .int ((a_count kk (c_serve st key).2) 1), .int ((a_count kk (c_serve st key).2) 2), .int ((a_count kk (c_serve st key).2) 3), .int (if ¬ a_badKey key then 0 else 1)])), (an, .inl (cy, 366, .inl t_4)), (al, .inl (cy, 60, .inl g2))] := hD
              refine lv_aload_n hx hb dX3_request_142 rfl (lv_at hl 2 rfl) ?_
              refine va_get (D := D) (ci := 3) (v := .ref al) (C := RX3) (T := TX3) (N := 10) hx hb hts hiX3 hown hK hP 0 rfl rfl 2 (by decide) (hts (.fieldLink RX3 16 "AdaptiveReplacementCacheModel" "log" "[I") (by decide +kernel)) (fun _ h9 => h9) rfl dX3_request_143 ?_
              refine lv_aload_n hx hb dX3_request_146 rfl (lv_at hl 2 rfl) ?_
              refine va_get (D := D) (ci := 3) (v := .int (nI 59)) (C := RX3) (T := TX3) (N := 10) hx hb hts hiX3 hown hK hP 0 rfl rfl 4 (by decide) (hts (.fieldLink RX3 95 "AdaptiveReplacementCacheModel" "logged" "I") (by decide +kernel)) (fun _ h9 => h9) rfl dX3_request_147 ?_
              refine lv_iload_n hx hb dX3_request_150 rfl (lv_at hl 3 rfl) ?_
              refine va_iast hx hb hK hP hD hS 2 0 rfl rfl (vp_in_nI (by omega) (by decide)) dX3_request_151 (fun H locs hP hD hS => ?_)
              obtain ⟨g4, eg4⟩ : ∃ zz9 : Nat → Int32, zz9 = upd g2 (Int32.toNatClampNeg (nI 59)) key := ⟨_, rfl⟩
              rw [← eg4] at hP hD
              have hg4 : ∀ x, g4 x = if x = 59 then key else if x + 1 < 60 then g (x + 1) else g x := fun x => by rw [eg4]; unfold upd; rw [nI_clamp (by omega), hg2, hj60]
              have hP : va_P D vwCl [(mo, .inr (3, [.ref an, .ref ae, .ref al, .ref ap, .int (nI 59), .int ((a_count kk (c_serve st key).2) 0), .int ((a_count kk (c_serve st key).2) 1), .int ((a_count kk (c_serve st key).2) 2), .int ((a_count kk (c_serve st key).2) 3), .int (if ¬ a_badKey key then 0 else 1)])), (an, .inl (cy, 366, .inl t_4)), (al, .inl (cy, 60, .inl g4))] H := hP
              have hD : va_D A [(mo, .inr (3, [.ref an, .ref ae, .ref al, .ref ap, .int (nI 59), .int ((a_count kk (c_serve st key).2) 0), .int ((a_count kk (c_serve st key).2) 1), .int ((a_count kk (c_serve st key).2) 2), .int ((a_count kk (c_serve st key).2) 3), .int (if ¬ a_badKey key then 0 else 1)])), (an, .inl (cy, 366, .inl t_4)), (al, .inl (cy, 60, .inl g4))] := hD
              refine lv_aload_n hx hb dX3_request_152 rfl (lv_at hl 2 rfl) ?_
              refine lv_dup hx hb dX3_request_153 rfl ?_
              refine va_get (D := D) (ci := 3) (v := .int (nI 59)) (C := RX3) (T := TX3) (N := 10) hx hb hts hiX3 hown hK hP 0 rfl rfl 4 (by decide) (hts (.fieldLink RX3 95 "AdaptiveReplacementCacheModel" "logged" "I") (by decide +kernel)) (fun _ h9 => h9) rfl dX3_request_154 ?_
              refine lv_iconst (v := 1) hx hb dX3_request_157 (by decide) ?_
              refine lv_iadd hx hb dX3_request_158 ?_
              refine lv_topi (fun y_12 ey_12 => ?_)
              have ey_12 : y_12 = nI 60 := ey_12.trans rfl
              subst ey_12
              refine va_put (D := D) (ci := 3) (v := .int (nI 60)) (ty := .int) (C := RX3) (T := TX3) (N := 10) hx hb hts hiX3 tyX3 tyX3_ok nmX3 hown hK hP hD hS 0 rfl rfl 4 (by decide) (hts (.fieldLink RX3 95 "AdaptiveReplacementCacheModel" "logged" "I") (by decide +kernel)) (fun _ h9 => h9) rfl (by decide +kernel) rfl rfl (Nat.le_of_ble_eq_true rfl) dX3_request_159 (fun H locs hP hD hS => ?_)
              have hP : va_P D vwCl [(mo, .inr (3, [.ref an, .ref ae, .ref al, .ref ap, .int (nI 60), .int ((a_count kk (c_serve st key).2) 0), .int ((a_count kk (c_serve st key).2) 1), .int ((a_count kk (c_serve st key).2) 2), .int ((a_count kk (c_serve st key).2) 3), .int (if ¬ a_badKey key then 0 else 1)])), (an, .inl (cy, 366, .inl t_4)), (al, .inl (cy, 60, .inl g4))] H := hP
              have hD : va_D A [(mo, .inr (3, [.ref an, .ref ae, .ref al, .ref ap, .int (nI 60), .int ((a_count kk (c_serve st key).2) 0), .int ((a_count kk (c_serve st key).2) 1), .int ((a_count kk (c_serve st key).2) 2), .int ((a_count kk (c_serve st key).2) 3), .int (if ¬ a_badKey key then 0 else 1)])), (an, .inl (cy, 366, .inl t_4)), (al, .inl (cy, 60, .inl g4))] := hD
              refine lv_iload_n hx hb dX3_request_162 rfl (lv_at hl 1 rfl) ?_
              have hL := m_log_shift hlg hk0 hl60 hg4
              have eL : nI 60 = nI (a_log lg key).length := by rw [hL.2]
              rw [eL] at hP hD
              exact ki_iret hx hb hr hlk hK hS (t_4, g4) ⟨(if_pos hok).symm, by rw [if_pos hok]; exact hm_5, by rw [if_pos hok]; exact hL.1⟩ (by simp only [if_pos hok] at hP ⊢; exact hP) (by simp only [if_pos hok] at hD ⊢; exact hD) dX3_request_163
            · skip
              have hj60 : j < 60 := by rcases Nat.lt_or_ge j 60 with q9 | q9; exact q9; exact absurd (show nI 60 ≤ nI j from nI_le q9 (by omega)) c_10
              refine lv_aload_n hx hb dX3_request_112 rfl (lv_at hl 2 rfl) ?_
              refine va_get (D := D) (ci := 3) (v := .ref al) (C := RX3) (T := TX3) (N := 10) hx hb hts hiX3 hown hK hP 0 rfl rfl 2 (by decide) (hts (.fieldLink RX3 16 "AdaptiveReplacementCacheModel" "log" "[I") (by decide +kernel)) (fun _ h9 => h9) rfl dX3_request_113 ?_
              refine lv_iload_n hx hb dX3_request_116 rfl (lv_at hl 0 rfl) ?_
              refine lv_iconst (v := 1) hx hb dX3_request_117 (by decide) ?_
              refine lv_isub hx hb dX3_request_118 ?_
              refine lv_topi (fun y_13 ey_13 => ?_)
              have ey_13 : y_13 = nI (j - 1) := ey_13.trans (pk_sub (b := 1) (by omega))
              subst ey_13
              refine lv_aload_n hx hb dX3_request_119 rfl (lv_at hl 2 rfl) ?_
              refine va_get (D := D) (ci := 3) (v := .ref al) (C := RX3) (T := TX3) (N := 10) hx hb hts hiX3 hown hK hP 0 rfl rfl 2 (by decide) (hts (.fieldLink RX3 16 "AdaptiveReplacementCacheModel" "log" "[I") (by decide +kernel)) (fun _ h9 => h9) rfl dX3_request_120 ?_
              refine lv_iload_n hx hb dX3_request_123 rfl (lv_at hl 0 rfl) ?_
              refine va_iald hx hb hK hP 2 0 rfl rfl (vp_in_nI (by omega) (by decide)) dX3_request_124 ?_
              refine lv_topi (fun y_14 ey_14 => ?_)
              have ey_14 : y_14 = g j := ey_14.trans (by rw [nI_clamp (by omega), hg2, if_neg (by omega)])
              subst ey_14
              refine va_iast hx hb hK hP hD hS 2 0 rfl rfl (vp_in_nI (by omega) (by decide)) dX3_request_125 (fun H locs hP hD hS => ?_)
              obtain ⟨g3, eg3⟩ : ∃ zz9 : Nat → Int32, zz9 = upd g2 (Int32.toNatClampNeg (nI (j - 1))) (g j) := ⟨_, rfl⟩
              rw [← eg3] at hP hD
              have hg3 : ∀ x, g3 x = if x + 1 < j + 1 then g (x + 1) else g x := fun x => by
                rw [eg3]; unfold upd; rw [nI_clamp (by omega)]
                by_cases q9 : x = j - 1
                · rw [if_pos q9, if_pos (by omega), show x + 1 = j by omega]
                · rw [if_neg q9, hg2]
                  by_cases q8 : x + 1 < j
                  · rw [if_pos q8, if_pos (by omega)]
                  · rw [if_neg q8, if_neg (by omega)]
              have hP : va_P D vwCl [(mo, .inr (3, [.ref an, .ref ae, .ref al, .ref ap, .int (nI lg.length), .int ((a_count kk (c_serve st key).2) 0), .int ((a_count kk (c_serve st key).2) 1), .int ((a_count kk (c_serve st key).2) 2), .int ((a_count kk (c_serve st key).2) 3), .int (if ¬ a_badKey key then 0 else 1)])), (an, .inl (cy, 366, .inl t_4)), (al, .inl (cy, 60, .inl g3))] H := hP
              have hD : va_D A [(mo, .inr (3, [.ref an, .ref ae, .ref al, .ref ap, .int (nI lg.length), .int ((a_count kk (c_serve st key).2) 0), .int ((a_count kk (c_serve st key).2) 1), .int ((a_count kk (c_serve st key).2) 2), .int ((a_count kk (c_serve st key).2) 3), .int (if ¬ a_badKey key then 0 else 1)])), (an, .inl (cy, 366, .inl t_4)), (al, .inl (cy, 60, .inl g3))] := hD
              refine lv_iinc (v := nI (j + 1)) (lv' := [(3, .int (nI (j + 1))), (2, .int ((c_serve st key).2)), (0, .ref mo), (1, .int key)]) hx hb dX3_request_126 hl (k := 0) rfl (nI_1 j) (by decide) rfl (fun ls hl => ?_)
              refine lv_goto (tgt := 106) hx hb dX3_request_129 (by decide) ?_
              exact ih (j + 1) g3 H locs ls (by omega) (by omega) (by omega) hg3 hP hD hS (lv_sub hl [0, 1, 2, 3] rfl)
        exact lp 61 1 g H locs ls (by omega) (by omega) (by omega) (fun x => by rw [if_neg (by omega)]) hP hD hS (lv_sub hl [0, 1, 2, 3] rfl)
    rcases p_outcome (st := st) key with h9 | h9 | h9 | h9 | h9 | h9
    · skip
      have hl : lv_has ls 4 [(2, .int 1), (0, .ref mo), (1, .int key)] := by rw [h9] at hl; exact hl
      refine lv_aload_n hx hb dX3_request_22 rfl (lv_at hl 1 rfl) ?_
      refine lv_dup hx hb dX3_request_23 rfl ?_
      refine va_get (D := D) (ci := 3) (v := .int (kk 0)) (C := RX3) (T := TX3) (N := 10) hx hb hts hiX3 hown hK hP 0 rfl rfl 5 (by decide) (hts (.fieldLink RX3 83 "AdaptiveReplacementCacheModel" "requests" "I") (by decide +kernel)) (fun _ h9 => h9) rfl dX3_request_24 ?_
      refine lv_iconst (v := 1) hx hb dX3_request_27 (by decide) ?_
      refine lv_iadd hx hb dX3_request_28 ?_
      refine va_put (D := D) (ci := 3) (v := .int ((kk 0) + 1)) (ty := .int) (C := RX3) (T := TX3) (N := 10) hx hb hts hiX3 tyX3 tyX3_ok nmX3 hown hK hP hD hS 0 rfl rfl 5 (by decide) (hts (.fieldLink RX3 83 "AdaptiveReplacementCacheModel" "requests" "I") (by decide +kernel)) (fun _ h9 => h9) rfl (by decide +kernel) rfl rfl (Nat.le_of_ble_eq_true rfl) dX3_request_29 (fun H locs hP hD hS => ?_)
      have hP : va_P D vwCl [(mo, .inr (3, [.ref an, .ref ae, .ref al, .ref ap, .int (nI lg.length), .int ((kk 0) + 1), .int (kk 1), .int (kk 2), .int (kk 3), .int (if ¬ a_badKey key then 0 else 1)])), (an, .inl (cy, 366, .inl t_4)), (al, .inl (cy, 60, .inl g))] H := hP
      have hD : va_D A [(mo, .inr (3, [.ref an, .ref ae, .ref al, .ref ap, .int (nI lg.length), .int ((kk 0) + 1), .int (kk 1), .int (kk 2), .int (kk 3), .int (if ¬ a_badKey key then 0 else 1)])), (an, .inl (cy, 366, .inl t_4)), (al, .inl (cy, 60, .inl g))] := hD
      refine lv_aload_n hx hb dX3_request_32 rfl (lv_at hl 1 rfl) ?_
      refine lv_dup hx hb dX3_request_33 rfl ?_
      refine va_get (D := D) (ci := 3) (v := .int (kk 1)) (C := RX3) (T := TX3) (N := 10) hx hb hts hiX3 hown hK hP 0 rfl rfl 6 (by decide) (hts (.fieldLink RX3 86 "AdaptiveReplacementCacheModel" "hits" "I") (by decide +kernel)) (fun _ h9 => h9) rfl dX3_request_34 ?_
      refine lv_iload_n hx hb dX3_request_37 rfl (lv_at hl 0 rfl) ?_
      refine lv_iconst (v := 3) hx hb dX3_request_38 (by decide) ?_
      refine lv_icmp_ge (tgt := 46) hx hb dX3_request_39 (by decide) (fun c_15 => ?_) (fun c_15 => ?_)
      · exact absurd c_15 (by decide)
      · skip
        refine lv_iconst (v := 1) hx hb dX3_request_42 (by decide) ?_
        refine lv_goto (tgt := 47) hx hb dX3_request_43 (by decide) ?_
        refine lv_iadd hx hb dX3_request_47 ?_
        refine va_put (D := D) (ci := 3) (v := .int ((kk 1) + 1)) (ty := .int) (C := RX3) (T := TX3) (N := 10) hx hb hts hiX3 tyX3 tyX3_ok nmX3 hown hK hP hD hS 0 rfl rfl 6 (by decide) (hts (.fieldLink RX3 86 "AdaptiveReplacementCacheModel" "hits" "I") (by decide +kernel)) (fun _ h9 => h9) rfl (by decide +kernel) rfl rfl (Nat.le_of_ble_eq_true rfl) dX3_request_48 (fun H locs hP hD hS => ?_)
        have hP : va_P D vwCl [(mo, .inr (3, [.ref an, .ref ae, .ref al, .ref ap, .int (nI lg.length), .int ((kk 0) + 1), .int ((kk 1) + 1), .int (kk 2), .int (kk 3), .int (if ¬ a_badKey key then 0 else 1)])), (an, .inl (cy, 366, .inl t_4)), (al, .inl (cy, 60, .inl g))] H := hP
        have hD : va_D A [(mo, .inr (3, [.ref an, .ref ae, .ref al, .ref ap, .int (nI lg.length), .int ((kk 0) + 1), .int ((kk 1) + 1), .int (kk 2), .int (kk 3), .int (if ¬ a_badKey key then 0 else 1)])), (an, .inl (cy, 366, .inl t_4)), (al, .inl (cy, 60, .inl g))] := hD
        refine lv_aload_n hx hb dX3_request_51 rfl (lv_at hl 1 rfl) ?_
        refine lv_dup hx hb dX3_request_52 rfl ?_
        refine va_get (D := D) (ci := 3) (v := .int (kk 2)) (C := RX3) (T := TX3) (N := 10) hx hb hts hiX3 hown hK hP 0 rfl rfl 7 (by decide) (hts (.fieldLink RX3 89 "AdaptiveReplacementCacheModel" "ghostHits" "I") (by decide +kernel)) (fun _ h9 => h9) rfl dX3_request_53 ?_
        refine lv_iload_n hx hb dX3_request_56 rfl (lv_at hl 0 rfl) ?_
        refine lv_iconst (v := 3) hx hb dX3_request_57 (by decide) ?_
        refine lv_icmp_eq (tgt := 66) hx hb dX3_request_58 (by decide) (fun c_16 => ?_) (fun c_16 => ?_)
        · exact absurd c_16 (by decide)
        · skip
          refine lv_iload_n hx hb dX3_request_61 rfl (lv_at hl 0 rfl) ?_
          refine lv_iconst (v := 4) hx hb dX3_request_62 (by decide) ?_
          refine lv_icmp_ne (tgt := 70) hx hb dX3_request_63 (by decide) (fun c_17 => ?_) (fun c_17 => ?_)
          rotate_left
          · exact absurd c_17 (by decide)
          · skip
            refine lv_iconst (v := 0) hx hb dX3_request_70 (by decide) ?_
            refine lv_iadd hx hb dX3_request_71 ?_
            refine lv_topi (fun y_18 ey_18 => ?_)
            have ey_18 : y_18 = kk 2 := ey_18.trans (Int32.add_zero _)
            subst ey_18
            refine va_put (D := D) (ci := 3) (v := .int (kk 2)) (ty := .int) (C := RX3) (T := TX3) (N := 10) hx hb hts hiX3 tyX3 tyX3_ok nmX3 hown hK hP hD hS 0 rfl rfl 7 (by decide) (hts (.fieldLink RX3 89 "AdaptiveReplacementCacheModel" "ghostHits" "I") (by decide +kernel)) (fun _ h9 => h9) rfl (by decide +kernel) rfl rfl (Nat.le_of_ble_eq_true rfl) dX3_request_72 (fun H locs hP hD hS => ?_)
            have hP : va_P D vwCl [(mo, .inr (3, [.ref an, .ref ae, .ref al, .ref ap, .int (nI lg.length), .int ((kk 0) + 1), .int ((kk 1) + 1), .int (kk 2), .int (kk 3), .int (if ¬ a_badKey key then 0 else 1)])), (an, .inl (cy, 366, .inl t_4)), (al, .inl (cy, 60, .inl g))] H := hP
            have hD : va_D A [(mo, .inr (3, [.ref an, .ref ae, .ref al, .ref ap, .int (nI lg.length), .int ((kk 0) + 1), .int ((kk 1) + 1), .int (kk 2), .int (kk 3), .int (if ¬ a_badKey key then 0 else 1)])), (an, .inl (cy, 366, .inl t_4)), (al, .inl (cy, 60, .inl g))] := hD
            refine lv_aload_n hx hb dX3_request_75 rfl (lv_at hl 1 rfl) ?_
            refine lv_dup hx hb dX3_request_76 rfl ?_
            refine va_get (D := D) (ci := 3) (v := .int (kk 3)) (C := RX3) (T := TX3) (N := 10) hx hb hts hiX3 hown hK hP 0 rfl rfl 8 (by decide) (hts (.fieldLink RX3 92 "AdaptiveReplacementCacheModel" "bypassed" "I") (by decide +kernel)) (fun _ h9 => h9) rfl dX3_request_77 ?_
            refine lv_iload_n hx hb dX3_request_80 rfl (lv_at hl 0 rfl) ?_
            refine lv_bipush (v := 6) hx hb dX3_request_81 (by decide) ?_
            refine lv_icmp_ne (tgt := 90) hx hb dX3_request_83 (by decide) (fun c_19 => ?_) (fun c_19 => ?_)
            rotate_left
            · exact absurd c_19 (by decide)
            · skip
              refine lv_iconst (v := 0) hx hb dX3_request_90 (by decide) ?_
              refine lv_iadd hx hb dX3_request_91 ?_
              refine lv_topi (fun y_20 ey_20 => ?_)
              have ey_20 : y_20 = kk 3 := ey_20.trans (Int32.add_zero _)
              subst ey_20
              refine va_put (D := D) (ci := 3) (v := .int (kk 3)) (ty := .int) (C := RX3) (T := TX3) (N := 10) hx hb hts hiX3 tyX3 tyX3_ok nmX3 hown hK hP hD hS 0 rfl rfl 8 (by decide) (hts (.fieldLink RX3 92 "AdaptiveReplacementCacheModel" "bypassed" "I") (by decide +kernel)) (fun _ h9 => h9) rfl (by decide +kernel) rfl rfl (Nat.le_of_ble_eq_true rfl) dX3_request_92 (fun H locs hP hD hS => ?_)
              have hP : va_P D vwCl [(mo, .inr (3, [.ref an, .ref ae, .ref al, .ref ap, .int (nI lg.length), .int ((kk 0) + 1), .int ((kk 1) + 1), .int (kk 2), .int (kk 3), .int (if ¬ a_badKey key then 0 else 1)])), (an, .inl (cy, 366, .inl t_4)), (al, .inl (cy, 60, .inl g))] H := hP
              have hD : va_D A [(mo, .inr (3, [.ref an, .ref ae, .ref al, .ref ap, .int (nI lg.length), .int ((kk 0) + 1), .int ((kk 1) + 1), .int (kk 2), .int (kk 3), .int (if ¬ a_badKey key then 0 else 1)])), (an, .inl (cy, 366, .inl t_4)), (al, .inl (cy, 60, .inl g))] := hD
              have hc0 : (a_count kk (c_serve st key).2) 0 = (kk 0) + 1 := by rw [h9]; rfl
              have hc1 : (a_count kk (c_serve st key).2) 1 = (kk 1) + 1 := by rw [h9]; rfl
              have hc2 : (a_count kk (c_serve st key).2) 2 = kk 2 := by rw [h9]; rfl
              have hc3 : (a_count kk (c_serve st key).2) 3 = kk 3 := by rw [h9]; rfl
              exact K95 H locs ls (by rw [hc0, hc1, hc2, hc3]; exact hP) (by rw [hc0, hc1, hc2, hc3]; exact hD) hS (by rw [h9]; exact lv_sub hl [0, 1, 2] rfl)
    · skip
      have hl : lv_has ls 4 [(2, .int 2), (0, .ref mo), (1, .int key)] := by rw [h9] at hl; exact hl
      refine lv_aload_n hx hb dX3_request_22 rfl (lv_at hl 1 rfl) ?_
      refine lv_dup hx hb dX3_request_23 rfl ?_
      refine va_get (D := D) (ci := 3) (v := .int (kk 0)) (C := RX3) (T := TX3) (N := 10) hx hb hts hiX3 hown hK hP 0 rfl rfl 5 (by decide) (hts (.fieldLink RX3 83 "AdaptiveReplacementCacheModel" "requests" "I") (by decide +kernel)) (fun _ h9 => h9) rfl dX3_request_24 ?_
      refine lv_iconst (v := 1) hx hb dX3_request_27 (by decide) ?_
      refine lv_iadd hx hb dX3_request_28 ?_
      refine va_put (D := D) (ci := 3) (v := .int ((kk 0) + 1)) (ty := .int) (C := RX3) (T := TX3) (N := 10) hx hb hts hiX3 tyX3 tyX3_ok nmX3 hown hK hP hD hS 0 rfl rfl 5 (by decide) (hts (.fieldLink RX3 83 "AdaptiveReplacementCacheModel" "requests" "I") (by decide +kernel)) (fun _ h9 => h9) rfl (by decide +kernel) rfl rfl (Nat.le_of_ble_eq_true rfl) dX3_request_29 (fun H locs hP hD hS => ?_)
      have hP : va_P D vwCl [(mo, .inr (3, [.ref an, .ref ae, .ref al, .ref ap, .int (nI lg.length), .int ((kk 0) + 1), .int (kk 1), .int (kk 2), .int (kk 3), .int (if ¬ a_badKey key then 0 else 1)])), (an, .inl (cy, 366, .inl t_4)), (al, .inl (cy, 60, .inl g))] H := hP
      have hD : va_D A [(mo, .inr (3, [.ref an, .ref ae, .ref al, .ref ap, .int (nI lg.length), .int ((kk 0) + 1), .int (kk 1), .int (kk 2), .int (kk 3), .int (if ¬ a_badKey key then 0 else 1)])), (an, .inl (cy, 366, .inl t_4)), (al, .inl (cy, 60, .inl g))] := hD
      refine lv_aload_n hx hb dX3_request_32 rfl (lv_at hl 1 rfl) ?_
      refine lv_dup hx hb dX3_request_33 rfl ?_
      refine va_get (D := D) (ci := 3) (v := .int (kk 1)) (C := RX3) (T := TX3) (N := 10) hx hb hts hiX3 hown hK hP 0 rfl rfl 6 (by decide) (hts (.fieldLink RX3 86 "AdaptiveReplacementCacheModel" "hits" "I") (by decide +kernel)) (fun _ h9 => h9) rfl dX3_request_34 ?_
      refine lv_iload_n hx hb dX3_request_37 rfl (lv_at hl 0 rfl) ?_
      refine lv_iconst (v := 3) hx hb dX3_request_38 (by decide) ?_
      refine lv_icmp_ge (tgt := 46) hx hb dX3_request_39 (by decide) (fun c_21 => ?_) (fun c_21 => ?_)
      · exact absurd c_21 (by decide)
      · skip
        refine lv_iconst (v := 1) hx hb dX3_request_42 (by decide) ?_
        refine lv_goto (tgt := 47) hx hb dX3_request_43 (by decide) ?_
        refine lv_iadd hx hb dX3_request_47 ?_
        refine va_put (D := D) (ci := 3) (v := .int ((kk 1) + 1)) (ty := .int) (C := RX3) (T := TX3) (N := 10) hx hb hts hiX3 tyX3 tyX3_ok nmX3 hown hK hP hD hS 0 rfl rfl 6 (by decide) (hts (.fieldLink RX3 86 "AdaptiveReplacementCacheModel" "hits" "I") (by decide +kernel)) (fun _ h9 => h9) rfl (by decide +kernel) rfl rfl (Nat.le_of_ble_eq_true rfl) dX3_request_48 (fun H locs hP hD hS => ?_)
        have hP : va_P D vwCl [(mo, .inr (3, [.ref an, .ref ae, .ref al, .ref ap, .int (nI lg.length), .int ((kk 0) + 1), .int ((kk 1) + 1), .int (kk 2), .int (kk 3), .int (if ¬ a_badKey key then 0 else 1)])), (an, .inl (cy, 366, .inl t_4)), (al, .inl (cy, 60, .inl g))] H := hP
        have hD : va_D A [(mo, .inr (3, [.ref an, .ref ae, .ref al, .ref ap, .int (nI lg.length), .int ((kk 0) + 1), .int ((kk 1) + 1), .int (kk 2), .int (kk 3), .int (if ¬ a_badKey key then 0 else 1)])), (an, .inl (cy, 366, .inl t_4)), (al, .inl (cy, 60, .inl g))] := hD
        refine lv_aload_n hx hb dX3_request_51 rfl (lv_at hl 1 rfl) ?_
        refine lv_dup hx hb dX3_request_52 rfl ?_
        refine va_get (D := D) (ci := 3) (v := .int (kk 2)) (C := RX3) (T := TX3) (N := 10) hx hb hts hiX3 hown hK hP 0 rfl rfl 7 (by decide) (hts (.fieldLink RX3 89 "AdaptiveReplacementCacheModel" "ghostHits" "I") (by decide +kernel)) (fun _ h9 => h9) rfl dX3_request_53 ?_
        refine lv_iload_n hx hb dX3_request_56 rfl (lv_at hl 0 rfl) ?_
        refine lv_iconst (v := 3) hx hb dX3_request_57 (by decide) ?_
        refine lv_icmp_eq (tgt := 66) hx hb dX3_request_58 (by decide) (fun c_22 => ?_) (fun c_22 => ?_)
        · exact absurd c_22 (by decide)
        · skip
          refine lv_iload_n hx hb dX3_request_61 rfl (lv_at hl 0 rfl) ?_
          refine lv_iconst (v := 4) hx hb dX3_request_62 (by decide) ?_
          refine lv_icmp_ne (tgt := 70) hx hb dX3_request_63 (by decide) (fun c_23 => ?_) (fun c_23 => ?_)
          rotate_left
          · exact absurd c_23 (by decide)
          · skip
            refine lv_iconst (v := 0) hx hb dX3_request_70 (by decide) ?_
            refine lv_iadd hx hb dX3_request_71 ?_
            refine lv_topi (fun y_24 ey_24 => ?_)
            have ey_24 : y_24 = kk 2 := ey_24.trans (Int32.add_zero _)
            subst ey_24
            refine va_put (D := D) (ci := 3) (v := .int (kk 2)) (ty := .int) (C := RX3) (T := TX3) (N := 10) hx hb hts hiX3 tyX3 tyX3_ok nmX3 hown hK hP hD hS 0 rfl rfl 7 (by decide) (hts (.fieldLink RX3 89 "AdaptiveReplacementCacheModel" "ghostHits" "I") (by decide +kernel)) (fun _ h9 => h9) rfl (by decide +kernel) rfl rfl (Nat.le_of_ble_eq_true rfl) dX3_request_72 (fun H locs hP hD hS => ?_)
            have hP : va_P D vwCl [(mo, .inr (3, [.ref an, .ref ae, .ref al, .ref ap, .int (nI lg.length), .int ((kk 0) + 1), .int ((kk 1) + 1), .int (kk 2), .int (kk 3), .int (if ¬ a_badKey key then 0 else 1)])), (an, .inl (cy, 366, .inl t_4)), (al, .inl (cy, 60, .inl g))] H := hP
            have hD : va_D A [(mo, .inr (3, [.ref an, .ref ae, .ref al, .ref ap, .int (nI lg.length), .int ((kk 0) + 1), .int ((kk 1) + 1), .int (kk 2), .int (kk 3), .int (if ¬ a_badKey key then 0 else 1)])), (an, .inl (cy, 366, .inl t_4)), (al, .inl (cy, 60, .inl g))] := hD
            refine lv_aload_n hx hb dX3_request_75 rfl (lv_at hl 1 rfl) ?_
            refine lv_dup hx hb dX3_request_76 rfl ?_
            refine va_get (D := D) (ci := 3) (v := .int (kk 3)) (C := RX3) (T := TX3) (N := 10) hx hb hts hiX3 hown hK hP 0 rfl rfl 8 (by decide) (hts (.fieldLink RX3 92 "AdaptiveReplacementCacheModel" "bypassed" "I") (by decide +kernel)) (fun _ h9 => h9) rfl dX3_request_77 ?_
            refine lv_iload_n hx hb dX3_request_80 rfl (lv_at hl 0 rfl) ?_
            refine lv_bipush (v := 6) hx hb dX3_request_81 (by decide) ?_
            refine lv_icmp_ne (tgt := 90) hx hb dX3_request_83 (by decide) (fun c_25 => ?_) (fun c_25 => ?_)
            rotate_left
            · exact absurd c_25 (by decide)
            · skip
              refine lv_iconst (v := 0) hx hb dX3_request_90 (by decide) ?_
              refine lv_iadd hx hb dX3_request_91 ?_
              refine lv_topi (fun y_26 ey_26 => ?_)
              have ey_26 : y_26 = kk 3 := ey_26.trans (Int32.add_zero _)
              subst ey_26
              refine va_put (D := D) (ci := 3) (v := .int (kk 3)) (ty := .int) (C := RX3) (T := TX3) (N := 10) hx hb hts hiX3 tyX3 tyX3_ok nmX3 hown hK hP hD hS 0 rfl rfl 8 (by decide) (hts (.fieldLink RX3 92 "AdaptiveReplacementCacheModel" "bypassed" "I") (by decide +kernel)) (fun _ h9 => h9) rfl (by decide +kernel) rfl rfl (Nat.le_of_ble_eq_true rfl) dX3_request_92 (fun H locs hP hD hS => ?_)
              have hP : va_P D vwCl [(mo, .inr (3, [.ref an, .ref ae, .ref al, .ref ap, .int (nI lg.length), .int ((kk 0) + 1), .int ((kk 1) + 1), .int (kk 2), .int (kk 3), .int (if ¬ a_badKey key then 0 else 1)])), (an, .inl (cy, 366, .inl t_4)), (al, .inl (cy, 60, .inl g))] H := hP
              have hD : va_D A [(mo, .inr (3, [.ref an, .ref ae, .ref al, .ref ap, .int (nI lg.length), .int ((kk 0) + 1), .int ((kk 1) + 1), .int (kk 2), .int (kk 3), .int (if ¬ a_badKey key then 0 else 1)])), (an, .inl (cy, 366, .inl t_4)), (al, .inl (cy, 60, .inl g))] := hD
              have hc0 : (a_count kk (c_serve st key).2) 0 = (kk 0) + 1 := by rw [h9]; rfl
              have hc1 : (a_count kk (c_serve st key).2) 1 = (kk 1) + 1 := by rw [h9]; rfl
              have hc2 : (a_count kk (c_serve st key).2) 2 = kk 2 := by rw [h9]; rfl
              have hc3 : (a_count kk (c_serve st key).2) 3 = kk 3 := by rw [h9]; rfl
              exact K95 H locs ls (by rw [hc0, hc1, hc2, hc3]; exact hP) (by rw [hc0, hc1, hc2, hc3]; exact hD) hS (by rw [h9]; exact lv_sub hl [0, 1, 2] rfl)
    · skip
      have hl : lv_has ls 4 [(2, .int 3), (0, .ref mo), (1, .int key)] := by rw [h9] at hl; exact hl
      refine lv_aload_n hx hb dX3_request_22 rfl (lv_at hl 1 rfl) ?_
      refine lv_dup hx hb dX3_request_23 rfl ?_
      refine va_get (D := D) (ci := 3) (v := .int (kk 0)) (C := RX3) (T := TX3) (N := 10) hx hb hts hiX3 hown hK hP 0 rfl rfl 5 (by decide) (hts (.fieldLink RX3 83 "AdaptiveReplacementCacheModel" "requests" "I") (by decide +kernel)) (fun _ h9 => h9) rfl dX3_request_24 ?_
      refine lv_iconst (v := 1) hx hb dX3_request_27 (by decide) ?_
      refine lv_iadd hx hb dX3_request_28 ?_
      refine va_put (D := D) (ci := 3) (v := .int ((kk 0) + 1)) (ty := .int) (C := RX3) (T := TX3) (N := 10) hx hb hts hiX3 tyX3 tyX3_ok nmX3 hown hK hP hD hS 0 rfl rfl 5 (by decide) (hts (.fieldLink RX3 83 "AdaptiveReplacementCacheModel" "requests" "I") (by decide +kernel)) (fun _ h9 => h9) rfl (by decide +kernel) rfl rfl (Nat.le_of_ble_eq_true rfl) dX3_request_29 (fun H locs hP hD hS => ?_)
      have hP : va_P D vwCl [(mo, .inr (3, [.ref an, .ref ae, .ref al, .ref ap, .int (nI lg.length), .int ((kk 0) + 1), .int (kk 1), .int (kk 2), .int (kk 3), .int (if ¬ a_badKey key then 0 else 1)])), (an, .inl (cy, 366, .inl t_4)), (al, .inl (cy, 60, .inl g))] H := hP
      have hD : va_D A [(mo, .inr (3, [.ref an, .ref ae, .ref al, .ref ap, .int (nI lg.length), .int ((kk 0) + 1), .int (kk 1), .int (kk 2), .int (kk 3), .int (if ¬ a_badKey key then 0 else 1)])), (an, .inl (cy, 366, .inl t_4)), (al, .inl (cy, 60, .inl g))] := hD
      refine lv_aload_n hx hb dX3_request_32 rfl (lv_at hl 1 rfl) ?_
      refine lv_dup hx hb dX3_request_33 rfl ?_
      refine va_get (D := D) (ci := 3) (v := .int (kk 1)) (C := RX3) (T := TX3) (N := 10) hx hb hts hiX3 hown hK hP 0 rfl rfl 6 (by decide) (hts (.fieldLink RX3 86 "AdaptiveReplacementCacheModel" "hits" "I") (by decide +kernel)) (fun _ h9 => h9) rfl dX3_request_34 ?_
      refine lv_iload_n hx hb dX3_request_37 rfl (lv_at hl 0 rfl) ?_
      refine lv_iconst (v := 3) hx hb dX3_request_38 (by decide) ?_
      refine lv_icmp_ge (tgt := 46) hx hb dX3_request_39 (by decide) (fun c_27 => ?_) (fun c_27 => ?_)
      rotate_left
      · exact absurd (by decide) c_27
      · skip
        refine lv_iconst (v := 0) hx hb dX3_request_46 (by decide) ?_
        refine lv_iadd hx hb dX3_request_47 ?_
        refine lv_topi (fun y_28 ey_28 => ?_)
        have ey_28 : y_28 = kk 1 := ey_28.trans (Int32.add_zero _)
        subst ey_28
        refine va_put (D := D) (ci := 3) (v := .int (kk 1)) (ty := .int) (C := RX3) (T := TX3) (N := 10) hx hb hts hiX3 tyX3 tyX3_ok nmX3 hown hK hP hD hS 0 rfl rfl 6 (by decide) (hts (.fieldLink RX3 86 "AdaptiveReplacementCacheModel" "hits" "I") (by decide +kernel)) (fun _ h9 => h9) rfl (by decide +kernel) rfl rfl (Nat.le_of_ble_eq_true rfl) dX3_request_48 (fun H locs hP hD hS => ?_)
        have hP : va_P D vwCl [(mo, .inr (3, [.ref an, .ref ae, .ref al, .ref ap, .int (nI lg.length), .int ((kk 0) + 1), .int (kk 1), .int (kk 2), .int (kk 3), .int (if ¬ a_badKey key then 0 else 1)])), (an, .inl (cy, 366, .inl t_4)), (al, .inl (cy, 60, .inl g))] H := hP
        have hD : va_D A [(mo, .inr (3, [.ref an, .ref ae, .ref al, .ref ap, .int (nI lg.length), .int ((kk 0) + 1), .int (kk 1), .int (kk 2), .int (kk 3), .int (if ¬ a_badKey key then 0 else 1)])), (an, .inl (cy, 366, .inl t_4)), (al, .inl (cy, 60, .inl g))] := hD
        refine lv_aload_n hx hb dX3_request_51 rfl (lv_at hl 1 rfl) ?_
        refine lv_dup hx hb dX3_request_52 rfl ?_
        refine va_get (D := D) (ci := 3) (v := .int (kk 2)) (C := RX3) (T := TX3) (N := 10) hx hb hts hiX3 hown hK hP 0 rfl rfl 7 (by decide) (hts (.fieldLink RX3 89 "AdaptiveReplacementCacheModel" "ghostHits" "I") (by decide +kernel)) (fun _ h9 => h9) rfl dX3_request_53 ?_
        refine lv_iload_n hx hb dX3_request_56 rfl (lv_at hl 0 rfl) ?_
        refine lv_iconst (v := 3) hx hb dX3_request_57 (by decide) ?_
        refine lv_icmp_eq (tgt := 66) hx hb dX3_request_58 (by decide) (fun c_29 => ?_) (fun c_29 => ?_)
        rotate_left
        · exact absurd (by decide) c_29
        · skip
          refine lv_iconst (v := 1) hx hb dX3_request_66 (by decide) ?_
          refine lv_goto (tgt := 71) hx hb dX3_request_67 (by decide) ?_
          refine lv_iadd hx hb dX3_request_71 ?_
          refine va_put (D := D) (ci := 3) (v := .int ((kk 2) + 1)) (ty := .int) (C := RX3) (T := TX3) (N := 10) hx hb hts hiX3 tyX3 tyX3_ok nmX3 hown hK hP hD hS 0 rfl rfl 7 (by decide) (hts (.fieldLink RX3 89 "AdaptiveReplacementCacheModel" "ghostHits" "I") (by decide +kernel)) (fun _ h9 => h9) rfl (by decide +kernel) rfl rfl (Nat.le_of_ble_eq_true rfl) dX3_request_72 (fun H locs hP hD hS => ?_)
          have hP : va_P D vwCl [(mo, .inr (3, [.ref an, .ref ae, .ref al, .ref ap, .int (nI lg.length), .int ((kk 0) + 1), .int (kk 1), .int ((kk 2) + 1), .int (kk 3), .int (if ¬ a_badKey key then 0 else 1)])), (an, .inl (cy, 366, .inl t_4)), (al, .inl (cy, 60, .inl g))] H := hP
          have hD : va_D A [(mo, .inr (3, [.ref an, .ref ae, .ref al, .ref ap, .int (nI lg.length), .int ((kk 0) + 1), .int (kk 1), .int ((kk 2) + 1), .int (kk 3), .int (if ¬ a_badKey key then 0 else 1)])), (an, .inl (cy, 366, .inl t_4)), (al, .inl (cy, 60, .inl g))] := hD
          refine lv_aload_n hx hb dX3_request_75 rfl (lv_at hl 1 rfl) ?_
          refine lv_dup hx hb dX3_request_76 rfl ?_
          refine va_get (D := D) (ci := 3) (v := .int (kk 3)) (C := RX3) (T := TX3) (N := 10) hx hb hts hiX3 hown hK hP 0 rfl rfl 8 (by decide) (hts (.fieldLink RX3 92 "AdaptiveReplacementCacheModel" "bypassed" "I") (by decide +kernel)) (fun _ h9 => h9) rfl dX3_request_77 ?_
          refine lv_iload_n hx hb dX3_request_80 rfl (lv_at hl 0 rfl) ?_
          refine lv_bipush (v := 6) hx hb dX3_request_81 (by decide) ?_
          refine lv_icmp_ne (tgt := 90) hx hb dX3_request_83 (by decide) (fun c_30 => ?_) (fun c_30 => ?_)
          rotate_left
          · exact absurd c_30 (by decide)
          · skip
            refine lv_iconst (v := 0) hx hb dX3_request_90 (by decide) ?_
            refine lv_iadd hx hb dX3_request_91 ?_
            refine lv_topi (fun y_31 ey_31 => ?_)
            have ey_31 : y_31 = kk 3 := ey_31.trans (Int32.add_zero _)
            subst ey_31
            refine va_put (D := D) (ci := 3) (v := .int (kk 3)) (ty := .int) (C := RX3) (T := TX3) (N := 10) hx hb hts hiX3 tyX3 tyX3_ok nmX3 hown hK hP hD hS 0 rfl rfl 8 (by decide) (hts (.fieldLink RX3 92 "AdaptiveReplacementCacheModel" "bypassed" "I") (by decide +kernel)) (fun _ h9 => h9) rfl (by decide +kernel) rfl rfl (Nat.le_of_ble_eq_true rfl) dX3_request_92 (fun H locs hP hD hS => ?_)
            have hP : va_P D vwCl [(mo, .inr (3, [.ref an, .ref ae, .ref al, .ref ap, .int (nI lg.length), .int ((kk 0) + 1), .int (kk 1), .int ((kk 2) + 1), .int (kk 3), .int (if ¬ a_badKey key then 0 else 1)])), (an, .inl (cy, 366, .inl t_4)), (al, .inl (cy, 60, .inl g))] H := hP
            have hD : va_D A [(mo, .inr (3, [.ref an, .ref ae, .ref al, .ref ap, .int (nI lg.length), .int ((kk 0) + 1), .int (kk 1), .int ((kk 2) + 1), .int (kk 3), .int (if ¬ a_badKey key then 0 else 1)])), (an, .inl (cy, 366, .inl t_4)), (al, .inl (cy, 60, .inl g))] := hD
            have hc0 : (a_count kk (c_serve st key).2) 0 = (kk 0) + 1 := by rw [h9]; rfl
            have hc1 : (a_count kk (c_serve st key).2) 1 = kk 1 := by rw [h9]; rfl
            have hc2 : (a_count kk (c_serve st key).2) 2 = (kk 2) + 1 := by rw [h9]; rfl
            have hc3 : (a_count kk (c_serve st key).2) 3 = kk 3 := by rw [h9]; rfl
            exact K95 H locs ls (by rw [hc0, hc1, hc2, hc3]; exact hP) (by rw [hc0, hc1, hc2, hc3]; exact hD) hS (by rw [h9]; exact lv_sub hl [0, 1, 2] rfl)
    · skip
      have hl : lv_has ls 4 [(2, .int 4), (0, .ref mo), (1, .int key)] := by rw [h9] at hl; exact hl
      refine lv_aload_n hx hb dX3_request_22 rfl (lv_at hl 1 rfl) ?_
      refine lv_dup hx hb dX3_request_23 rfl ?_
      refine va_get (D := D) (ci := 3) (v := .int (kk 0)) (C := RX3) (T := TX3) (N := 10) hx hb hts hiX3 hown hK hP 0 rfl rfl 5 (by decide) (hts (.fieldLink RX3 83 "AdaptiveReplacementCacheModel" "requests" "I") (by decide +kernel)) (fun _ h9 => h9) rfl dX3_request_24 ?_
      refine lv_iconst (v := 1) hx hb dX3_request_27 (by decide) ?_
      refine lv_iadd hx hb dX3_request_28 ?_
      refine va_put (D := D) (ci := 3) (v := .int ((kk 0) + 1)) (ty := .int) (C := RX3) (T := TX3) (N := 10) hx hb hts hiX3 tyX3 tyX3_ok nmX3 hown hK hP hD hS 0 rfl rfl 5 (by decide) (hts (.fieldLink RX3 83 "AdaptiveReplacementCacheModel" "requests" "I") (by decide +kernel)) (fun _ h9 => h9) rfl (by decide +kernel) rfl rfl (Nat.le_of_ble_eq_true rfl) dX3_request_29 (fun H locs hP hD hS => ?_)
      have hP : va_P D vwCl [(mo, .inr (3, [.ref an, .ref ae, .ref al, .ref ap, .int (nI lg.length), .int ((kk 0) + 1), .int (kk 1), .int (kk 2), .int (kk 3), .int (if ¬ a_badKey key then 0 else 1)])), (an, .inl (cy, 366, .inl t_4)), (al, .inl (cy, 60, .inl g))] H := hP
      have hD : va_D A [(mo, .inr (3, [.ref an, .ref ae, .ref al, .ref ap, .int (nI lg.length), .int ((kk 0) + 1), .int (kk 1), .int (kk 2), .int (kk 3), .int (if ¬ a_badKey key then 0 else 1)])), (an, .inl (cy, 366, .inl t_4)), (al, .inl (cy, 60, .inl g))] := hD
      refine lv_aload_n hx hb dX3_request_32 rfl (lv_at hl 1 rfl) ?_
      refine lv_dup hx hb dX3_request_33 rfl ?_
      refine va_get (D := D) (ci := 3) (v := .int (kk 1)) (C := RX3) (T := TX3) (N := 10) hx hb hts hiX3 hown hK hP 0 rfl rfl 6 (by decide) (hts (.fieldLink RX3 86 "AdaptiveReplacementCacheModel" "hits" "I") (by decide +kernel)) (fun _ h9 => h9) rfl dX3_request_34 ?_
      refine lv_iload_n hx hb dX3_request_37 rfl (lv_at hl 0 rfl) ?_
      refine lv_iconst (v := 3) hx hb dX3_request_38 (by decide) ?_
      refine lv_icmp_ge (tgt := 46) hx hb dX3_request_39 (by decide) (fun c_32 => ?_) (fun c_32 => ?_)
      rotate_left
      · exact absurd (by decide) c_32
      · skip
        refine lv_iconst (v := 0) hx hb dX3_request_46 (by decide) ?_
        refine lv_iadd hx hb dX3_request_47 ?_
        refine lv_topi (fun y_33 ey_33 => ?_)
        have ey_33 : y_33 = kk 1 := ey_33.trans (Int32.add_zero _)
        subst ey_33
        refine va_put (D := D) (ci := 3) (v := .int (kk 1)) (ty := .int) (C := RX3) (T := TX3) (N := 10) hx hb hts hiX3 tyX3 tyX3_ok nmX3 hown hK hP hD hS 0 rfl rfl 6 (by decide) (hts (.fieldLink RX3 86 "AdaptiveReplacementCacheModel" "hits" "I") (by decide +kernel)) (fun _ h9 => h9) rfl (by decide +kernel) rfl rfl (Nat.le_of_ble_eq_true rfl) dX3_request_48 (fun H locs hP hD hS => ?_)
        have hP : va_P D vwCl [(mo, .inr (3, [.ref an, .ref ae, .ref al, .ref ap, .int (nI lg.length), .int ((kk 0) + 1), .int (kk 1), .int (kk 2), .int (kk 3), .int (if ¬ a_badKey key then 0 else 1)])), (an, .inl (cy, 366, .inl t_4)), (al, .inl (cy, 60, .inl g))] H := hP
        have hD : va_D A [(mo, .inr (3, [.ref an, .ref ae, .ref al, .ref ap, .int (nI lg.length), .int ((kk 0) + 1), .int (kk 1), .int (kk 2), .int (kk 3), .int (if ¬ a_badKey key then 0 else 1)])), (an, .inl (cy, 366, .inl t_4)), (al, .inl (cy, 60, .inl g))] := hD
        refine lv_aload_n hx hb dX3_request_51 rfl (lv_at hl 1 rfl) ?_
        refine lv_dup hx hb dX3_request_52 rfl ?_
        refine va_get (D := D) (ci := 3) (v := .int (kk 2)) (C := RX3) (T := TX3) (N := 10) hx hb hts hiX3 hown hK hP 0 rfl rfl 7 (by decide) (hts (.fieldLink RX3 89 "AdaptiveReplacementCacheModel" "ghostHits" "I") (by decide +kernel)) (fun _ h9 => h9) rfl dX3_request_53 ?_
        refine lv_iload_n hx hb dX3_request_56 rfl (lv_at hl 0 rfl) ?_
        refine lv_iconst (v := 3) hx hb dX3_request_57 (by decide) ?_
        refine lv_icmp_eq (tgt := 66) hx hb dX3_request_58 (by decide) (fun c_34 => ?_) (fun c_34 => ?_)
        · exact absurd c_34 (by decide)
        · skip
          refine lv_iload_n hx hb dX3_request_61 rfl (lv_at hl 0 rfl) ?_
          refine lv_iconst (v := 4) hx hb dX3_request_62 (by decide) ?_
          refine lv_icmp_ne (tgt := 70) hx hb dX3_request_63 (by decide) (fun c_35 => ?_) (fun c_35 => ?_)
          · exact absurd (by decide) c_35
          · skip
            refine lv_iconst (v := 1) hx hb dX3_request_66 (by decide) ?_
            refine lv_goto (tgt := 71) hx hb dX3_request_67 (by decide) ?_
            refine lv_iadd hx hb dX3_request_71 ?_
            refine va_put (D := D) (ci := 3) (v := .int ((kk 2) + 1)) (ty := .int) (C := RX3) (T := TX3) (N := 10) hx hb hts hiX3 tyX3 tyX3_ok nmX3 hown hK hP hD hS 0 rfl rfl 7 (by decide) (hts (.fieldLink RX3 89 "AdaptiveReplacementCacheModel" "ghostHits" "I") (by decide +kernel)) (fun _ h9 => h9) rfl (by decide +kernel) rfl rfl (Nat.le_of_ble_eq_true rfl) dX3_request_72 (fun H locs hP hD hS => ?_)
            have hP : va_P D vwCl [(mo, .inr (3, [.ref an, .ref ae, .ref al, .ref ap, .int (nI lg.length), .int ((kk 0) + 1), .int (kk 1), .int ((kk 2) + 1), .int (kk 3), .int (if ¬ a_badKey key then 0 else 1)])), (an, .inl (cy, 366, .inl t_4)), (al, .inl (cy, 60, .inl g))] H := hP
            have hD : va_D A [(mo, .inr (3, [.ref an, .ref ae, .ref al, .ref ap, .int (nI lg.length), .int ((kk 0) + 1), .int (kk 1), .int ((kk 2) + 1), .int (kk 3), .int (if ¬ a_badKey key then 0 else 1)])), (an, .inl (cy, 366, .inl t_4)), (al, .inl (cy, 60, .inl g))] := hD
            refine lv_aload_n hx hb dX3_request_75 rfl (lv_at hl 1 rfl) ?_
            refine lv_dup hx hb dX3_request_76 rfl ?_
            refine va_get (D := D) (ci := 3) (v := .int (kk 3)) (C := RX3) (T := TX3) (N := 10) hx hb hts hiX3 hown hK hP 0 rfl rfl 8 (by decide) (hts (.fieldLink RX3 92 "AdaptiveReplacementCacheModel" "bypassed" "I") (by decide +kernel)) (fun _ h9 => h9) rfl dX3_request_77 ?_
            refine lv_iload_n hx hb dX3_request_80 rfl (lv_at hl 0 rfl) ?_
            refine lv_bipush (v := 6) hx hb dX3_request_81 (by decide) ?_
            refine lv_icmp_ne (tgt := 90) hx hb dX3_request_83 (by decide) (fun c_36 => ?_) (fun c_36 => ?_)
            rotate_left
            · exact absurd c_36 (by decide)
            · skip
              refine lv_iconst (v := 0) hx hb dX3_request_90 (by decide) ?_
              refine lv_iadd hx hb dX3_request_91 ?_
              refine lv_topi (fun y_37 ey_37 => ?_)
              have ey_37 : y_37 = kk 3 := ey_37.trans (Int32.add_zero _)
              subst ey_37
              refine va_put (D := D) (ci := 3) (v := .int (kk 3)) (ty := .int) (C := RX3) (T := TX3) (N := 10) hx hb hts hiX3 tyX3 tyX3_ok nmX3 hown hK hP hD hS 0 rfl rfl 8 (by decide) (hts (.fieldLink RX3 92 "AdaptiveReplacementCacheModel" "bypassed" "I") (by decide +kernel)) (fun _ h9 => h9) rfl (by decide +kernel) rfl rfl (Nat.le_of_ble_eq_true rfl) dX3_request_92 (fun H locs hP hD hS => ?_)
              have hP : va_P D vwCl [(mo, .inr (3, [.ref an, .ref ae, .ref al, .ref ap, .int (nI lg.length), .int ((kk 0) + 1), .int (kk 1), .int ((kk 2) + 1), .int (kk 3), .int (if ¬ a_badKey key then 0 else 1)])), (an, .inl (cy, 366, .inl t_4)), (al, .inl (cy, 60, .inl g))] H := hP
              have hD : va_D A [(mo, .inr (3, [.ref an, .ref ae, .ref al, .ref ap, .int (nI lg.length), .int ((kk 0) + 1), .int (kk 1), .int ((kk 2) + 1), .int (kk 3), .int (if ¬ a_badKey key then 0 else 1)])), (an, .inl (cy, 366, .inl t_4)), (al, .inl (cy, 60, .inl g))] := hD
              have hc0 : (a_count kk (c_serve st key).2) 0 = (kk 0) + 1 := by rw [h9]; rfl
              have hc1 : (a_count kk (c_serve st key).2) 1 = kk 1 := by rw [h9]; rfl
              have hc2 : (a_count kk (c_serve st key).2) 2 = (kk 2) + 1 := by rw [h9]; rfl
              have hc3 : (a_count kk (c_serve st key).2) 3 = kk 3 := by rw [h9]; rfl
              exact K95 H locs ls (by rw [hc0, hc1, hc2, hc3]; exact hP) (by rw [hc0, hc1, hc2, hc3]; exact hD) hS (by rw [h9]; exact lv_sub hl [0, 1, 2] rfl)
    · skip
      have hl : lv_has ls 4 [(2, .int 5), (0, .ref mo), (1, .int key)] := by rw [h9] at hl; exact hl
      refine lv_aload_n hx hb dX3_request_22 rfl (lv_at hl 1 rfl) ?_
      refine lv_dup hx hb dX3_request_23 rfl ?_
      refine va_get (D := D) (ci := 3) (v := .int (kk 0)) (C := RX3) (T := TX3) (N := 10) hx hb hts hiX3 hown hK hP 0 rfl rfl 5 (by decide) (hts (.fieldLink RX3 83 "AdaptiveReplacementCacheModel" "requests" "I") (by decide +kernel)) (fun _ h9 => h9) rfl dX3_request_24 ?_
      refine lv_iconst (v := 1) hx hb dX3_request_27 (by decide) ?_
      refine lv_iadd hx hb dX3_request_28 ?_
      refine va_put (D := D) (ci := 3) (v := .int ((kk 0) + 1)) (ty := .int) (C := RX3) (T := TX3) (N := 10) hx hb hts hiX3 tyX3 tyX3_ok nmX3 hown hK hP hD hS 0 rfl rfl 5 (by decide) (hts (.fieldLink RX3 83 "AdaptiveReplacementCacheModel" "requests" "I") (by decide +kernel)) (fun _ h9 => h9) rfl (by decide +kernel) rfl rfl (Nat.le_of_ble_eq_true rfl) dX3_request_29 (fun H locs hP hD hS => ?_)
      have hP : va_P D vwCl [(mo, .inr (3, [.ref an, .ref ae, .ref al, .ref ap, .int (nI lg.length), .int ((kk 0) + 1), .int (kk 1), .int (kk 2), .int (kk 3), .int (if ¬ a_badKey key then 0 else 1)])), (an, .inl (cy, 366, .inl t_4)), (al, .inl (cy, 60, .inl g))] H := hP
      have hD : va_D A [(mo, .inr (3, [.ref an, .ref ae, .ref al, .ref ap, .int (nI lg.length), .int ((kk 0) + 1), .int (kk 1), .int (kk 2), .int (kk 3), .int (if ¬ a_badKey key then 0 else 1)])), (an, .inl (cy, 366, .inl t_4)), (al, .inl (cy, 60, .inl g))] := hD
      refine lv_aload_n hx hb dX3_request_32 rfl (lv_at hl 1 rfl) ?_
      refine lv_dup hx hb dX3_request_33 rfl ?_
      refine va_get (D := D) (ci := 3) (v := .int (kk 1)) (C := RX3) (T := TX3) (N := 10) hx hb hts hiX3 hown hK hP 0 rfl rfl 6 (by decide) (hts (.fieldLink RX3 86 "AdaptiveReplacementCacheModel" "hits" "I") (by decide +kernel)) (fun _ h9 => h9) rfl dX3_request_34 ?_
      refine lv_iload_n hx hb dX3_request_37 rfl (lv_at hl 0 rfl) ?_
      refine lv_iconst (v := 3) hx hb dX3_request_38 (by decide) ?_
      refine lv_icmp_ge (tgt := 46) hx hb dX3_request_39 (by decide) (fun c_38 => ?_) (fun c_38 => ?_)
      rotate_left
      · exact absurd (by decide) c_38
      · skip
        refine lv_iconst (v := 0) hx hb dX3_request_46 (by decide) ?_
        refine lv_iadd hx hb dX3_request_47 ?_
        refine lv_topi (fun y_39 ey_39 => ?_)
        have ey_39 : y_39 = kk 1 := ey_39.trans (Int32.add_zero _)
        subst ey_39
        refine va_put (D := D) (ci := 3) (v := .int (kk 1)) (ty := .int) (C := RX3) (T := TX3) (N := 10) hx hb hts hiX3 tyX3 tyX3_ok nmX3 hown hK hP hD hS 0 rfl rfl 6 (by decide) (hts (.fieldLink RX3 86 "AdaptiveReplacementCacheModel" "hits" "I") (by decide +kernel)) (fun _ h9 => h9) rfl (by decide +kernel) rfl rfl (Nat.le_of_ble_eq_true rfl) dX3_request_48 (fun H locs hP hD hS => ?_)
        have hP : va_P D vwCl [(mo, .inr (3, [.ref an, .ref ae, .ref al, .ref ap, .int (nI lg.length), .int ((kk 0) + 1), .int (kk 1), .int (kk 2), .int (kk 3), .int (if ¬ a_badKey key then 0 else 1)])), (an, .inl (cy, 366, .inl t_4)), (al, .inl (cy, 60, .inl g))] H := hP
        have hD : va_D A [(mo, .inr (3, [.ref an, .ref ae, .ref al, .ref ap, .int (nI lg.length), .int ((kk 0) + 1), .int (kk 1), .int (kk 2), .int (kk 3), .int (if ¬ a_badKey key then 0 else 1)])), (an, .inl (cy, 366, .inl t_4)), (al, .inl (cy, 60, .inl g))] := hD
        refine lv_aload_n hx hb dX3_request_51 rfl (lv_at hl 1 rfl) ?_
        refine lv_dup hx hb dX3_request_52 rfl ?_
        refine va_get (D := D) (ci := 3) (v := .int (kk 2)) (C := RX3) (T := TX3) (N := 10) hx hb hts hiX3 hown hK hP 0 rfl rfl 7 (by decide) (hts (.fieldLink RX3 89 "AdaptiveReplacementCacheModel" "ghostHits" "I") (by decide +kernel)) (fun _ h9 => h9) rfl dX3_request_53 ?_
        refine lv_iload_n hx hb dX3_request_56 rfl (lv_at hl 0 rfl) ?_
        refine lv_iconst (v := 3) hx hb dX3_request_57 (by decide) ?_
        refine lv_icmp_eq (tgt := 66) hx hb dX3_request_58 (by decide) (fun c_40 => ?_) (fun c_40 => ?_)
        · exact absurd c_40 (by decide)
        · skip
          refine lv_iload_n hx hb dX3_request_61 rfl (lv_at hl 0 rfl) ?_
          refine lv_iconst (v := 4) hx hb dX3_request_62 (by decide) ?_
          refine lv_icmp_ne (tgt := 70) hx hb dX3_request_63 (by decide) (fun c_41 => ?_) (fun c_41 => ?_)
          rotate_left
          · exact absurd c_41 (by decide)
          · skip
            refine lv_iconst (v := 0) hx hb dX3_request_70 (by decide) ?_
            refine lv_iadd hx hb dX3_request_71 ?_
            refine lv_topi (fun y_42 ey_42 => ?_)
            have ey_42 : y_42 = kk 2 := ey_42.trans (Int32.add_zero _)
            subst ey_42
            refine va_put (D := D) (ci := 3) (v := .int (kk 2)) (ty := .int) (C := RX3) (T := TX3) (N := 10) hx hb hts hiX3 tyX3 tyX3_ok nmX3 hown hK hP hD hS 0 rfl rfl 7 (by decide) (hts (.fieldLink RX3 89 "AdaptiveReplacementCacheModel" "ghostHits" "I") (by decide +kernel)) (fun _ h9 => h9) rfl (by decide +kernel) rfl rfl (Nat.le_of_ble_eq_true rfl) dX3_request_72 (fun H locs hP hD hS => ?_)
            have hP : va_P D vwCl [(mo, .inr (3, [.ref an, .ref ae, .ref al, .ref ap, .int (nI lg.length), .int ((kk 0) + 1), .int (kk 1), .int (kk 2), .int (kk 3), .int (if ¬ a_badKey key then 0 else 1)])), (an, .inl (cy, 366, .inl t_4)), (al, .inl (cy, 60, .inl g))] H := hP
            have hD : va_D A [(mo, .inr (3, [.ref an, .ref ae, .ref al, .ref ap, .int (nI lg.length), .int ((kk 0) + 1), .int (kk 1), .int (kk 2), .int (kk 3), .int (if ¬ a_badKey key then 0 else 1)])), (an, .inl (cy, 366, .inl t_4)), (al, .inl (cy, 60, .inl g))] := hD
            refine lv_aload_n hx hb dX3_request_75 rfl (lv_at hl 1 rfl) ?_
            refine lv_dup hx hb dX3_request_76 rfl ?_
            refine va_get (D := D) (ci := 3) (v := .int (kk 3)) (C := RX3) (T := TX3) (N := 10) hx hb hts hiX3 hown hK hP 0 rfl rfl 8 (by decide) (hts (.fieldLink RX3 92 "AdaptiveReplacementCacheModel" "bypassed" "I") (by decide +kernel)) (fun _ h9 => h9) rfl dX3_request_77 ?_
            refine lv_iload_n hx hb dX3_request_80 rfl (lv_at hl 0 rfl) ?_
            refine lv_bipush (v := 6) hx hb dX3_request_81 (by decide) ?_
            refine lv_icmp_ne (tgt := 90) hx hb dX3_request_83 (by decide) (fun c_43 => ?_) (fun c_43 => ?_)
            rotate_left
            · exact absurd c_43 (by decide)
            · skip
              refine lv_iconst (v := 0) hx hb dX3_request_90 (by decide) ?_
              refine lv_iadd hx hb dX3_request_91 ?_
              refine lv_topi (fun y_44 ey_44 => ?_)
              have ey_44 : y_44 = kk 3 := ey_44.trans (Int32.add_zero _)
              subst ey_44
              refine va_put (D := D) (ci := 3) (v := .int (kk 3)) (ty := .int) (C := RX3) (T := TX3) (N := 10) hx hb hts hiX3 tyX3 tyX3_ok nmX3 hown hK hP hD hS 0 rfl rfl 8 (by decide) (hts (.fieldLink RX3 92 "AdaptiveReplacementCacheModel" "bypassed" "I") (by decide +kernel)) (fun _ h9 => h9) rfl (by decide +kernel) rfl rfl (Nat.le_of_ble_eq_true rfl) dX3_request_92 (fun H locs hP hD hS => ?_)
              have hP : va_P D vwCl [(mo, .inr (3, [.ref an, .ref ae, .ref al, .ref ap, .int (nI lg.length), .int ((kk 0) + 1), .int (kk 1), .int (kk 2), .int (kk 3), .int (if ¬ a_badKey key then 0 else 1)])), (an, .inl (cy, 366, .inl t_4)), (al, .inl (cy, 60, .inl g))] H := hP
              have hD : va_D A [(mo, .inr (3, [.ref an, .ref ae, .ref al, .ref ap, .int (nI lg.length), .int ((kk 0) + 1), .int (kk 1), .int (kk 2), .int (kk 3), .int (if ¬ a_badKey key then 0 else 1)])), (an, .inl (cy, 366, .inl t_4)), (al, .inl (cy, 60, .inl g))] := hD
              have hc0 : (a_count kk (c_serve st key).2) 0 = (kk 0) + 1 := by rw [h9]; rfl
              have hc1 : (a_count kk (c_serve st key).2) 1 = kk 1 := by rw [h9]; rfl
              have hc2 : (a_count kk (c_serve st key).2) 2 = kk 2 := by rw [h9]; rfl
              have hc3 : (a_count kk (c_serve st key).2) 3 = kk 3 := by rw [h9]; rfl
              exact K95 H locs ls (by rw [hc0, hc1, hc2, hc3]; exact hP) (by rw [hc0, hc1, hc2, hc3]; exact hD) hS (by rw [h9]; exact lv_sub hl [0, 1, 2] rfl)
    · skip
      have hl : lv_has ls 4 [(2, .int 6), (0, .ref mo), (1, .int key)] := by rw [h9] at hl; exact hl
      refine lv_aload_n hx hb dX3_request_22 rfl (lv_at hl 1 rfl) ?_
      refine lv_dup hx hb dX3_request_23 rfl ?_
      refine va_get (D := D) (ci := 3) (v := .int (kk 0)) (C := RX3) (T := TX3) (N := 10) hx hb hts hiX3 hown hK hP 0 rfl rfl 5 (by decide) (hts (.fieldLink RX3 83 "AdaptiveReplacementCacheModel" "requests" "I") (by decide +kernel)) (fun _ h9 => h9) rfl dX3_request_24 ?_
      refine lv_iconst (v := 1) hx hb dX3_request_27 (by decide) ?_
      refine lv_iadd hx hb dX3_request_28 ?_
      refine va_put (D := D) (ci := 3) (v := .int ((kk 0) + 1)) (ty := .int) (C := RX3) (T := TX3) (N := 10) hx hb hts hiX3 tyX3 tyX3_ok nmX3 hown hK hP hD hS 0 rfl rfl 5 (by decide) (hts (.fieldLink RX3 83 "AdaptiveReplacementCacheModel" "requests" "I") (by decide +kernel)) (fun _ h9 => h9) rfl (by decide +kernel) rfl rfl (Nat.le_of_ble_eq_true rfl) dX3_request_29 (fun H locs hP hD hS => ?_)
      have hP : va_P D vwCl [(mo, .inr (3, [.ref an, .ref ae, .ref al, .ref ap, .int (nI lg.length), .int ((kk 0) + 1), .int (kk 1), .int (kk 2), .int (kk 3), .int (if ¬ a_badKey key then 0 else 1)])), (an, .inl (cy, 366, .inl t_4)), (al, .inl (cy, 60, .inl g))] H := hP
      have hD : va_D A [(mo, .inr (3, [.ref an, .ref ae, .ref al, .ref ap, .int (nI lg.length), .int ((kk 0) + 1), .int (kk 1), .int (kk 2), .int (kk 3), .int (if ¬ a_badKey key then 0 else 1)])), (an, .inl (cy, 366, .inl t_4)), (al, .inl (cy, 60, .inl g))] := hD
      refine lv_aload_n hx hb dX3_request_32 rfl (lv_at hl 1 rfl) ?_
      refine lv_dup hx hb dX3_request_33 rfl ?_
      refine va_get (D := D) (ci := 3) (v := .int (kk 1)) (C := RX3) (T := TX3) (N := 10) hx hb hts hiX3 hown hK hP 0 rfl rfl 6 (by decide) (hts (.fieldLink RX3 86 "AdaptiveReplacementCacheModel" "hits" "I") (by decide +kernel)) (fun _ h9 => h9) rfl dX3_request_34 ?_
      refine lv_iload_n hx hb dX3_request_37 rfl (lv_at hl 0 rfl) ?_
      refine lv_iconst (v := 3) hx hb dX3_request_38 (by decide) ?_
      refine lv_icmp_ge (tgt := 46) hx hb dX3_request_39 (by decide) (fun c_45 => ?_) (fun c_45 => ?_)
      rotate_left
      · exact absurd (by decide) c_45
      · skip
        refine lv_iconst (v := 0) hx hb dX3_request_46 (by decide) ?_
        refine lv_iadd hx hb dX3_request_47 ?_
        refine lv_topi (fun y_46 ey_46 => ?_)
        have ey_46 : y_46 = kk 1 := ey_46.trans (Int32.add_zero _)
        subst ey_46
        refine va_put (D := D) (ci := 3) (v := .int (kk 1)) (ty := .int) (C := RX3) (T := TX3) (N := 10) hx hb hts hiX3 tyX3 tyX3_ok nmX3 hown hK hP hD hS 0 rfl rfl 6 (by decide) (hts (.fieldLink RX3 86 "AdaptiveReplacementCacheModel" "hits" "I") (by decide +kernel)) (fun _ h9 => h9) rfl (by decide +kernel) rfl rfl (Nat.le_of_ble_eq_true rfl) dX3_request_48 (fun H locs hP hD hS => ?_)
        have hP : va_P D vwCl [(mo, .inr (3, [.ref an, .ref ae, .ref al, .ref ap, .int (nI lg.length), .int ((kk 0) + 1), .int (kk 1), .int (kk 2), .int (kk 3), .int (if ¬ a_badKey key then 0 else 1)])), (an, .inl (cy, 366, .inl t_4)), (al, .inl (cy, 60, .inl g))] H := hP
        have hD : va_D A [(mo, .inr (3, [.ref an, .ref ae, .ref al, .ref ap, .int (nI lg.length), .int ((kk 0) + 1), .int (kk 1), .int (kk 2), .int (kk 3), .int (if ¬ a_badKey key then 0 else 1)])), (an, .inl (cy, 366, .inl t_4)), (al, .inl (cy, 60, .inl g))] := hD
        refine lv_aload_n hx hb dX3_request_51 rfl (lv_at hl 1 rfl) ?_
        refine lv_dup hx hb dX3_request_52 rfl ?_
        refine va_get (D := D) (ci := 3) (v := .int (kk 2)) (C := RX3) (T := TX3) (N := 10) hx hb hts hiX3 hown hK hP 0 rfl rfl 7 (by decide) (hts (.fieldLink RX3 89 "AdaptiveReplacementCacheModel" "ghostHits" "I") (by decide +kernel)) (fun _ h9 => h9) rfl dX3_request_53 ?_
        refine lv_iload_n hx hb dX3_request_56 rfl (lv_at hl 0 rfl) ?_
        refine lv_iconst (v := 3) hx hb dX3_request_57 (by decide) ?_
        refine lv_icmp_eq (tgt := 66) hx hb dX3_request_58 (by decide) (fun c_47 => ?_) (fun c_47 => ?_)
        · exact absurd c_47 (by decide)
        · skip
          refine lv_iload_n hx hb dX3_request_61 rfl (lv_at hl 0 rfl) ?_
          refine lv_iconst (v := 4) hx hb dX3_request_62 (by decide) ?_
          refine lv_icmp_ne (tgt := 70) hx hb dX3_request_63 (by decide) (fun c_48 => ?_) (fun c_48 => ?_)
          rotate_left
          · exact absurd c_48 (by decide)
          · skip
            refine lv_iconst (v := 0) hx hb dX3_request_70 (by decide) ?_
            refine lv_iadd hx hb dX3_request_71 ?_
            refine lv_topi (fun y_49 ey_49 => ?_)
            have ey_49 : y_49 = kk 2 := ey_49.trans (Int32.add_zero _)
            subst ey_49
            refine va_put (D := D) (ci := 3) (v := .int (kk 2)) (ty := .int) (C := RX3) (T := TX3) (N := 10) hx hb hts hiX3 tyX3 tyX3_ok nmX3 hown hK hP hD hS 0 rfl rfl 7 (by decide) (hts (.fieldLink RX3 89 "AdaptiveReplacementCacheModel" "ghostHits" "I") (by decide +kernel)) (fun _ h9 => h9) rfl (by decide +kernel) rfl rfl (Nat.le_of_ble_eq_true rfl) dX3_request_72 (fun H locs hP hD hS => ?_)
            have hP : va_P D vwCl [(mo, .inr (3, [.ref an, .ref ae, .ref al, .ref ap, .int (nI lg.length), .int ((kk 0) + 1), .int (kk 1), .int (kk 2), .int (kk 3), .int (if ¬ a_badKey key then 0 else 1)])), (an, .inl (cy, 366, .inl t_4)), (al, .inl (cy, 60, .inl g))] H := hP
            have hD : va_D A [(mo, .inr (3, [.ref an, .ref ae, .ref al, .ref ap, .int (nI lg.length), .int ((kk 0) + 1), .int (kk 1), .int (kk 2), .int (kk 3), .int (if ¬ a_badKey key then 0 else 1)])), (an, .inl (cy, 366, .inl t_4)), (al, .inl (cy, 60, .inl g))] := hD
            refine lv_aload_n hx hb dX3_request_75 rfl (lv_at hl 1 rfl) ?_
            refine lv_dup hx hb dX3_request_76 rfl ?_
            refine va_get (D := D) (ci := 3) (v := .int (kk 3)) (C := RX3) (T := TX3) (N := 10) hx hb hts hiX3 hown hK hP 0 rfl rfl 8 (by decide) (hts (.fieldLink RX3 92 "AdaptiveReplacementCacheModel" "bypassed" "I") (by decide +kernel)) (fun _ h9 => h9) rfl dX3_request_77 ?_
            refine lv_iload_n hx hb dX3_request_80 rfl (lv_at hl 0 rfl) ?_
            refine lv_bipush (v := 6) hx hb dX3_request_81 (by decide) ?_
            refine lv_icmp_ne (tgt := 90) hx hb dX3_request_83 (by decide) (fun c_50 => ?_) (fun c_50 => ?_)
            · exact absurd (by decide) c_50
            · skip
              refine lv_iconst (v := 1) hx hb dX3_request_86 (by decide) ?_
              refine lv_goto (tgt := 91) hx hb dX3_request_87 (by decide) ?_
              refine lv_iadd hx hb dX3_request_91 ?_
              refine va_put (D := D) (ci := 3) (v := .int ((kk 3) + 1)) (ty := .int) (C := RX3) (T := TX3) (N := 10) hx hb hts hiX3 tyX3 tyX3_ok nmX3 hown hK hP hD hS 0 rfl rfl 8 (by decide) (hts (.fieldLink RX3 92 "AdaptiveReplacementCacheModel" "bypassed" "I") (by decide +kernel)) (fun _ h9 => h9) rfl (by decide +kernel) rfl rfl (Nat.le_of_ble_eq_true rfl) dX3_request_92 (fun H locs hP hD hS => ?_)
              have hP : va_P D vwCl [(mo, .inr (3, [.ref an, .ref ae, .ref al, .ref ap, .int (nI lg.length), .int ((kk 0) + 1), .int (kk 1), .int (kk 2), .int ((kk 3) + 1), .int (if ¬ a_badKey key then 0 else 1)])), (an, .inl (cy, 366, .inl t_4)), (al, .inl (cy, 60, .inl g))] H := hP
              have hD : va_D A [(mo, .inr (3, [.ref an, .ref ae, .ref al, .ref ap, .int (nI lg.length), .int ((kk 0) + 1), .int (kk 1), .int (kk 2), .int ((kk 3) + 1), .int (if ¬ a_badKey key then 0 else 1)])), (an, .inl (cy, 366, .inl t_4)), (al, .inl (cy, 60, .inl g))] := hD
              have hc0 : (a_count kk (c_serve st key).2) 0 = (kk 0) + 1 := by rw [h9]; rfl
              have hc1 : (a_count kk (c_serve st key).2) 1 = kk 1 := by rw [h9]; rfl
              have hc2 : (a_count kk (c_serve st key).2) 2 = kk 2 := by rw [h9]; rfl
              have hc3 : (a_count kk (c_serve st key).2) 3 = (kk 3) + 1 := by rw [h9]; rfl
              exact K95 H locs ls (by rw [hc0, hc1, hc2, hc3]; exact hP) (by rw [hc0, hc1, hc2, hc3]; exact hD) hS (by rw [h9]; exact lv_sub hl [0, 1, 2] rfl)
  · skip
    have c_3 : ¬ (¬ a_badKey key) := ki_b0.mp c_3
    refine lv_iconst (v := 0) hx hb dX3_request_11 (by decide) ?_
    exact ki_iret hx hb hr hlk hK hS (t, g) ⟨(if_neg c_3).symm, by rw [if_neg c_3]; exact hm, by rw [if_neg c_3]; exact hlg⟩ (by simp only [if_neg c_3] at hP ⊢; exact hP) (by simp only [if_neg c_3] at hD ⊢; exact hD) dX3_request_12
