/-! ===== the reference: its calls, the simple ones ===== -/
set_option maxHeartbeats 4000000 in
set_option maxRecDepth 100000 in
theorem c_X3_asked (l : Launch) (D : va_G) (mo an ae al ap : Nat) (ln th : Int32) (kk : Nat → Int32) (P : Prop) [dP : Decidable P] : ki_I l yX3_asked wsX3_asked ({ frames := 0, cells := 0, slots := 0, locals := 0 }) 0 0 D [] [.ref mo, .int (if P then 1 else 0)] [(mo, .inr (3, [.ref an, .ref ae, .ref al, .ref ap, .int ln, .int (kk 0), .int (kk 1), .int (kk 2), .int (kk 3), .int th]))] (S := Unit) (fun r _ => r = if P then 1 else 0) (fun _u => [(mo, .inr (3, [.ref an, .ref ae, .ref al, .ref ap, .int ln, .int (kk 0), .int (kk 1), .int (kk 2), .int (kk 3), .int (if P then 0 else 1)]))]) := by
  refine ki_ofI (cc := cX3_asked) (maxL := 2) (ret := (some .boolean)) (by decide +kernel) rfl (Nat.le_of_ble_eq_true rfl) ?_
  intro p e s m args below meth c A ls hx hb hr hts hown hlk hml hK hE hP hD hA hS hl
  have hown : s.vm.findClass RX3 = some m.cls := hown
  have hl : lv_has ls 2 [(0, .ref mo), (1, .int (if P then 1 else 0))] := hl
  have hiX3 : ∀ w ∈ u_ws RX3 TX3 10, w ∈ wsX3_asked := by decide +kernel
  by_cases h9 : P
  · skip
    have hl : lv_has ls 2 [(0, .ref mo), (1, .int 1)] := by rw [if_pos h9] at hl; exact hl
    refine lv_aload_n hx hb dX3_asked_0 rfl (lv_at hl 0 rfl) ?_
    refine lv_iload_n hx hb dX3_asked_1 rfl (lv_at hl 1 rfl) ?_
    refine lv_if_eq (tgt := 9) hx hb dX3_asked_2 (by decide) (fun c_1 => ?_) (fun c_1 => ?_)
    · exact absurd c_1 (by decide)
    · skip
      refine lv_iconst (v := 0) hx hb dX3_asked_5 (by decide) ?_
      refine lv_goto (tgt := 10) hx hb dX3_asked_6 (by decide) ?_
      refine va_put (D := D) (ci := 3) (v := .int 0) (ty := .int) (C := RX3) (T := TX3) (N := 10) hx hb hts hiX3 tyX3 tyX3_ok nmX3 hown hK hP hD hS 0 rfl rfl 9 (by decide) (hts (.fieldLink RX3 22 "AdaptiveReplacementCacheModel" "thrown" "I") (by decide +kernel)) (fun _ h9 => h9) rfl (by decide +kernel) rfl rfl (Nat.le_of_ble_eq_true rfl) dX3_asked_10 (fun H locs hP hD hS => ?_)
      have hP : va_P D vwCl [(mo, .inr (3, [.ref an, .ref ae, .ref al, .ref ap, .int ln, .int (kk 0), .int (kk 1), .int (kk 2), .int (kk 3), .int 0]))] H := hP
      have hD : va_D A [(mo, .inr (3, [.ref an, .ref ae, .ref al, .ref ap, .int ln, .int (kk 0), .int (kk 1), .int (kk 2), .int (kk 3), .int 0]))] := hD
      refine lv_iload_n hx hb dX3_asked_13 rfl (lv_at hl 1 rfl) ?_
      exact ki_zret hx hb hr rfl hlk hK hS () ((if_pos h9).symm) (by rw [if_pos h9]; exact hP) (by rw [if_pos h9]; exact hD) dX3_asked_14
  · skip
    have hl : lv_has ls 2 [(0, .ref mo), (1, .int 0)] := by rw [if_neg h9] at hl; exact hl
    refine lv_aload_n hx hb dX3_asked_0 rfl (lv_at hl 0 rfl) ?_
    refine lv_iload_n hx hb dX3_asked_1 rfl (lv_at hl 1 rfl) ?_
    refine lv_if_eq (tgt := 9) hx hb dX3_asked_2 (by decide) (fun c_2 => ?_) (fun c_2 => ?_)
    rotate_left
    · exact absurd (by decide) c_2
    · skip
      refine lv_iconst (v := 1) hx hb dX3_asked_9 (by decide) ?_
      refine va_put (D := D) (ci := 3) (v := .int 1) (ty := .int) (C := RX3) (T := TX3) (N := 10) hx hb hts hiX3 tyX3 tyX3_ok nmX3 hown hK hP hD hS 0 rfl rfl 9 (by decide) (hts (.fieldLink RX3 22 "AdaptiveReplacementCacheModel" "thrown" "I") (by decide +kernel)) (fun _ h9 => h9) rfl (by decide +kernel) rfl rfl (Nat.le_of_ble_eq_true rfl) dX3_asked_10 (fun H locs hP hD hS => ?_)
      have hP : va_P D vwCl [(mo, .inr (3, [.ref an, .ref ae, .ref al, .ref ap, .int ln, .int (kk 0), .int (kk 1), .int (kk 2), .int (kk 3), .int 1]))] H := hP
      have hD : va_D A [(mo, .inr (3, [.ref an, .ref ae, .ref al, .ref ap, .int ln, .int (kk 0), .int (kk 1), .int (kk 2), .int (kk 3), .int 1]))] := hD
      refine lv_iload_n hx hb dX3_asked_13 rfl (lv_at hl 1 rfl) ?_
      exact ki_zret hx hb hr rfl hlk hK hS () ((if_neg h9).symm) (by rw [if_neg h9]; exact hP) (by rw [if_neg h9]; exact hD) dX3_asked_14
set_option maxHeartbeats 4000000 in
set_option maxRecDepth 100000 in
theorem c_X3_told (l : Launch) (D : va_G) (mo an ae al ap : Nat) (ln th : Int32) (kk : Nat → Int32) (v : Int32) : ki_I l yX3_told wsX3_told ({ frames := 0, cells := 0, slots := 0, locals := 0 }) 0 0 D [] [.ref mo, .int v] [(mo, .inr (3, [.ref an, .ref ae, .ref al, .ref ap, .int ln, .int (kk 0), .int (kk 1), .int (kk 2), .int (kk 3), .int th]))] (S := Unit) (fun r _ => r = v) (fun _u => [(mo, .inr (3, [.ref an, .ref ae, .ref al, .ref ap, .int ln, .int (kk 0), .int (kk 1), .int (kk 2), .int (kk 3), .int 0]))]) := by
  refine ki_ofI (cc := cX3_told) (maxL := 2) (ret := (some .int)) (by decide +kernel) rfl (Nat.le_of_ble_eq_true rfl) ?_
  intro p e s m args below meth c A ls hx hb hr hts hown hlk hml hK hE hP hD hA hS hl
  have hown : s.vm.findClass RX3 = some m.cls := hown
  have hl : lv_has ls 2 [(0, .ref mo), (1, .int v)] := hl
  have hiX3 : ∀ w ∈ u_ws RX3 TX3 10, w ∈ wsX3_told := by decide +kernel
  refine lv_aload_n hx hb dX3_told_0 rfl (lv_at hl 0 rfl) ?_
  refine lv_iconst (v := 0) hx hb dX3_told_1 (by decide) ?_
  refine va_put (D := D) (ci := 3) (v := .int 0) (ty := .int) (C := RX3) (T := TX3) (N := 10) hx hb hts hiX3 tyX3 tyX3_ok nmX3 hown hK hP hD hS 0 rfl rfl 9 (by decide) (hts (.fieldLink RX3 22 "AdaptiveReplacementCacheModel" "thrown" "I") (by decide +kernel)) (fun _ h9 => h9) rfl (by decide +kernel) rfl rfl (Nat.le_of_ble_eq_true rfl) dX3_told_2 (fun H locs hP hD hS => ?_)
  have hP : va_P D vwCl [(mo, .inr (3, [.ref an, .ref ae, .ref al, .ref ap, .int ln, .int (kk 0), .int (kk 1), .int (kk 2), .int (kk 3), .int 0]))] H := hP
  have hD : va_D A [(mo, .inr (3, [.ref an, .ref ae, .ref al, .ref ap, .int ln, .int (kk 0), .int (kk 1), .int (kk 2), .int (kk 3), .int 0]))] := hD
  refine lv_iload_n hx hb dX3_told_5 rfl (lv_at hl 1 rfl) ?_
  exact ki_iret hx hb hr hlk hK hS () rfl hP hD dX3_told_6
set_option maxHeartbeats 4000000 in
set_option maxRecDepth 100000 in
theorem c_X3_thrown (l : Launch) (D : va_G) (mo an ae al ap : Nat) (ln th : Int32) (kk : Nat → Int32) : ki_R l yX3_thrown wsX3_thrown ({ frames := 0, cells := 0, slots := 0, locals := 0 }) D [] [.ref mo] [(mo, .inr (3, [.ref an, .ref ae, .ref al, .ref ap, .int ln, .int (kk 0), .int (kk 1), .int (kk 2), .int (kk 3), .int th]))] th := by
  refine ki_ofR (cc := cX3_thrown) (maxL := 1) (ret := (some .int)) (by decide +kernel) rfl (Nat.le_of_ble_eq_true rfl) ?_
  intro p e s m args below meth c ls hx hb hr hts hown hlk hml hK hE hP hl
  have hown : s.vm.findClass RX3 = some m.cls := hown
  have hl : lv_has ls 1 [(0, .ref mo)] := hl
  have hiX3 : ∀ w ∈ u_ws RX3 TX3 10, w ∈ wsX3_thrown := by decide +kernel
  refine lv_aload_n hx hb dX3_thrown_0 rfl (lv_at hl 0 rfl) ?_
  refine va_get (D := D) (ci := 3) (v := .int th) (C := RX3) (T := TX3) (N := 10) hx hb hts hiX3 hown hK hP 0 rfl rfl 9 (by decide) (hts (.fieldLink RX3 22 "AdaptiveReplacementCacheModel" "thrown" "I") (by decide +kernel)) (fun _ h9 => h9) rfl dX3_thrown_1 ?_
  exact ki_rret hx hb hr hlk (by rfl) dX3_thrown_4
set_option maxHeartbeats 4000000 in
set_option maxRecDepth 100000 in
theorem c_X3_capacity (l : Launch) (D : va_G) (cy : ClassId) (mo an ae al ap : Nat) (ln th : Int32) (kk : Nat → Int32) (t : Nat → Int32) (st : ki_St) (hm : m_rep t st) : ki_I l yX3_capacity wsX3_capacity ({ frames := 1, cells := 0, slots := 0, locals := 21 }) 0 0 D [(cy, .int)] [.ref mo] [(mo, .inr (3, [.ref an, .ref ae, .ref al, .ref ap, .int ln, .int (kk 0), .int (kk 1), .int (kk 2), .int (kk 3), .int th])), (an, .inl (cy, 366, .inl t))] (S := Unit) (fun r _ => r = st.2 6) (fun _u => [(mo, .inr (3, [.ref an, .ref ae, .ref al, .ref ap, .int ln, .int (kk 0), .int (kk 1), .int (kk 2), .int (kk 3), .int 0])), (an, .inl (cy, 366, .inl t))]) := by
  refine ki_ofI (cc := cX3_capacity) (maxL := 1) (ret := (some .int)) (by decide +kernel) rfl (Nat.le_of_ble_eq_true rfl) ?_
  intro p e s m args below meth c A ls hx hb hr hts hown hlk hml hK hE hP hD hA hS hl
  have hown : s.vm.findClass RX3 = some m.cls := hown
  have hl : lv_has ls 1 [(0, .ref mo)] := hl
  have hiX3 : ∀ w ∈ u_ws RX3 TX3 10, w ∈ wsX3_capacity := by decide +kernel
  refine lv_aload_n hx hb dX3_capacity_0 rfl (lv_at hl 0 rfl) ?_
  refine lv_aload_n hx hb dX3_capacity_1 rfl (lv_at hl 0 rfl) ?_
  refine va_get (D := D) (ci := 3) (v := .ref an) (C := RX3) (T := TX3) (N := 10) hx hb hts hiX3 hown hK hP 0 rfl rfl 0 (by decide) (hts (.fieldLink RX3 7 "AdaptiveReplacementCacheModel" "now" "[I") (by decide +kernel)) (fun _ h9 => h9) rfl dX3_capacity_2 ?_
  refine lv_bipush (v := 6) hx hb dX3_capacity_5 (by decide) ?_
  refine va_iald hx hb hK hP 1 0 rfl rfl (vp_in_nI (n := 6) (by decide) (by decide)) dX3_capacity_7 ?_
  refine lv_topi (fun y_1 ey_1 => ?_)
  have ey_1 : y_1 = st.2 6 := ey_1.trans (hm.2 6 (by decide) (by decide))
  subst ey_1
  refine ki_cVI (As := [.int (st.2 6)]) (rest := []) (wr := [(an, .inl (cy, 366, .inl t))]) ⟨hx, hb, hml, hown, hts⟩ (c_X3_told l D mo an ae al ap ln th kk (st.2 6)) (cwV 1 hts gX3_capacity_X3_told rfl rfl rfl (by decide +kernel) ⟨Nat.le_of_ble_eq_true rfl, Nat.le_of_ble_eq_true rfl⟩) hK hE hP hD hS hA [] rfl [0] [1] rfl rfl rfl rfl (by decide) 3 0 rfl rfl rfl rfl hl.1 rfl (Nat.le_of_ble_eq_true rfl) dX3_capacity_8 ⟨Nat.le_of_ble_eq_true rfl, Nat.le_of_ble_eq_true rfl⟩ [1, 0] (fun u_3 => [(mo, .inr (3, [.ref an, .ref ae, .ref al, .ref ap, .int ln, .int (kk 0), .int (kk 1), .int (kk 2), .int (kk 3), .int 0])), (an, .inl (cy, 366, .inl t))]) (fun _ => rfl) rfl (fun r_2 u_3 H locs hw hP hD hS => ?_)
  subst hw
  have hP : va_P D vwCl [(mo, .inr (3, [.ref an, .ref ae, .ref al, .ref ap, .int ln, .int (kk 0), .int (kk 1), .int (kk 2), .int (kk 3), .int 0])), (an, .inl (cy, 366, .inl t))] H := hP
  have hD : va_D A [(mo, .inr (3, [.ref an, .ref ae, .ref al, .ref ap, .int ln, .int (kk 0), .int (kk 1), .int (kk 2), .int (kk 3), .int 0])), (an, .inl (cy, 366, .inl t))] := hD
  exact ki_iret hx hb hr hlk hK hS () rfl hP hD dX3_capacity_11
set_option maxHeartbeats 4000000 in
set_option maxRecDepth 100000 in
theorem c_X3_run (l : Launch) (D : va_G) (cy : ClassId) (mo an ae al ap : Nat) (ln th : Int32) (kk : Nat → Int32) (t : Nat → Int32) (st : ki_St) (hm : m_rep t st) : ki_I l yX3_run wsX3_run ({ frames := 1, cells := 0, slots := 0, locals := 21 }) 0 0 D [(cy, .int)] [.ref mo] [(mo, .inr (3, [.ref an, .ref ae, .ref al, .ref ap, .int ln, .int (kk 0), .int (kk 1), .int (kk 2), .int (kk 3), .int th])), (an, .inl (cy, 366, .inl t))] (S := Unit) (fun r _ => r = st.2 8) (fun _u => [(mo, .inr (3, [.ref an, .ref ae, .ref al, .ref ap, .int ln, .int (kk 0), .int (kk 1), .int (kk 2), .int (kk 3), .int 0])), (an, .inl (cy, 366, .inl t))]) := by
  refine ki_ofI (cc := cX3_run) (maxL := 1) (ret := (some .int)) (by decide +kernel) rfl (Nat.le_of_ble_eq_true rfl) ?_
  intro p e s m args below meth c A ls hx hb hr hts hown hlk hml hK hE hP hD hA hS hl
  have hown : s.vm.findClass RX3 = some m.cls := hown
  have hl : lv_has ls 1 [(0, .ref mo)] := hl
  have hiX3 : ∀ w ∈ u_ws RX3 TX3 10, w ∈ wsX3_run := by decide +kernel
  refine lv_aload_n hx hb dX3_run_0 rfl (lv_at hl 0 rfl) ?_
  refine lv_aload_n hx hb dX3_run_1 rfl (lv_at hl 0 rfl) ?_
  refine va_get (D := D) (ci := 3) (v := .ref an) (C := RX3) (T := TX3) (N := 10) hx hb hts hiX3 hown hK hP 0 rfl rfl 0 (by decide) (hts (.fieldLink RX3 7 "AdaptiveReplacementCacheModel" "now" "[I") (by decide +kernel)) (fun _ h9 => h9) rfl dX3_run_2 ?_
  refine lv_bipush (v := 8) hx hb dX3_run_5 (by decide) ?_
  refine va_iald hx hb hK hP 1 0 rfl rfl (vp_in_nI (n := 8) (by decide) (by decide)) dX3_run_7 ?_
  refine lv_topi (fun y_1 ey_1 => ?_)
  have ey_1 : y_1 = st.2 8 := ey_1.trans (hm.2 8 (by decide) (by decide))
  subst ey_1
  refine ki_cVI (As := [.int (st.2 8)]) (rest := []) (wr := [(an, .inl (cy, 366, .inl t))]) ⟨hx, hb, hml, hown, hts⟩ (c_X3_told l D mo an ae al ap ln th kk (st.2 8)) (cwV 1 hts gX3_run_X3_told rfl rfl rfl (by decide +kernel) ⟨Nat.le_of_ble_eq_true rfl, Nat.le_of_ble_eq_true rfl⟩) hK hE hP hD hS hA [] rfl [0] [1] rfl rfl rfl rfl (by decide) 3 0 rfl rfl rfl rfl hl.1 rfl (Nat.le_of_ble_eq_true rfl) dX3_run_8 ⟨Nat.le_of_ble_eq_true rfl, Nat.le_of_ble_eq_true rfl⟩ [1, 0] (fun u_3 => [(mo, .inr (3, [.ref an, .ref ae, .ref al, .ref ap, .int ln, .int (kk 0), .int (kk 1), .int (kk 2), .int (kk 3), .int 0])), (an, .inl (cy, 366, .inl t))]) (fun _ => rfl) rfl (fun r_2 u_3 H locs hw hP hD hS => ?_)
  subst hw
  have hP : va_P D vwCl [(mo, .inr (3, [.ref an, .ref ae, .ref al, .ref ap, .int ln, .int (kk 0), .int (kk 1), .int (kk 2), .int (kk 3), .int 0])), (an, .inl (cy, 366, .inl t))] H := hP
  have hD : va_D A [(mo, .inr (3, [.ref an, .ref ae, .ref al, .ref ap, .int ln, .int (kk 0), .int (kk 1), .int (kk 2), .int (kk 3), .int 0])), (an, .inl (cy, 366, .inl t))] := hD
  exact ki_iret hx hb hr hlk hK hS () rfl hP hD dX3_run_11
set_option maxHeartbeats 4000000 in
set_option maxRecDepth 100000 in
theorem c_X3_target (l : Launch) (D : va_G) (cy : ClassId) (mo an ae al ap : Nat) (ln th : Int32) (kk : Nat → Int32) (t : Nat → Int32) (st : ki_St) (hm : m_rep t st) : ki_I l yX3_target wsX3_target ({ frames := 1, cells := 0, slots := 0, locals := 21 }) 0 0 D [(cy, .int)] [.ref mo] [(mo, .inr (3, [.ref an, .ref ae, .ref al, .ref ap, .int ln, .int (kk 0), .int (kk 1), .int (kk 2), .int (kk 3), .int th])), (an, .inl (cy, 366, .inl t))] (S := Unit) (fun r _ => r = st.2 5) (fun _u => [(mo, .inr (3, [.ref an, .ref ae, .ref al, .ref ap, .int ln, .int (kk 0), .int (kk 1), .int (kk 2), .int (kk 3), .int 0])), (an, .inl (cy, 366, .inl t))]) := by
  refine ki_ofI (cc := cX3_target) (maxL := 1) (ret := (some .int)) (by decide +kernel) rfl (Nat.le_of_ble_eq_true rfl) ?_
  intro p e s m args below meth c A ls hx hb hr hts hown hlk hml hK hE hP hD hA hS hl
  have hown : s.vm.findClass RX3 = some m.cls := hown
  have hl : lv_has ls 1 [(0, .ref mo)] := hl
  have hiX3 : ∀ w ∈ u_ws RX3 TX3 10, w ∈ wsX3_target := by decide +kernel
  refine lv_aload_n hx hb dX3_target_0 rfl (lv_at hl 0 rfl) ?_
  refine lv_aload_n hx hb dX3_target_1 rfl (lv_at hl 0 rfl) ?_
  refine va_get (D := D) (ci := 3) (v := .ref an) (C := RX3) (T := TX3) (N := 10) hx hb hts hiX3 hown hK hP 0 rfl rfl 0 (by decide) (hts (.fieldLink RX3 7 "AdaptiveReplacementCacheModel" "now" "[I") (by decide +kernel)) (fun _ h9 => h9) rfl dX3_target_2 ?_
  refine lv_iconst (v := 5) hx hb dX3_target_5 (by decide) ?_
  refine va_iald hx hb hK hP 1 0 rfl rfl (vp_in_nI (n := 5) (by decide) (by decide)) dX3_target_6 ?_
  refine lv_topi (fun y_1 ey_1 => ?_)
  have ey_1 : y_1 = st.2 5 := ey_1.trans (hm.2 5 (by decide) (by decide))
  subst ey_1
  refine ki_cVI (As := [.int (st.2 5)]) (rest := []) (wr := [(an, .inl (cy, 366, .inl t))]) ⟨hx, hb, hml, hown, hts⟩ (c_X3_told l D mo an ae al ap ln th kk (st.2 5)) (cwV 1 hts gX3_target_X3_told rfl rfl rfl (by decide +kernel) ⟨Nat.le_of_ble_eq_true rfl, Nat.le_of_ble_eq_true rfl⟩) hK hE hP hD hS hA [] rfl [0] [1] rfl rfl rfl rfl (by decide) 3 0 rfl rfl rfl rfl hl.1 rfl (Nat.le_of_ble_eq_true rfl) dX3_target_7 ⟨Nat.le_of_ble_eq_true rfl, Nat.le_of_ble_eq_true rfl⟩ [1, 0] (fun u_3 => [(mo, .inr (3, [.ref an, .ref ae, .ref al, .ref ap, .int ln, .int (kk 0), .int (kk 1), .int (kk 2), .int (kk 3), .int 0])), (an, .inl (cy, 366, .inl t))]) (fun _ => rfl) rfl (fun r_2 u_3 H locs hw hP hD hS => ?_)
  subst hw
  have hP : va_P D vwCl [(mo, .inr (3, [.ref an, .ref ae, .ref al, .ref ap, .int ln, .int (kk 0), .int (kk 1), .int (kk 2), .int (kk 3), .int 0])), (an, .inl (cy, 366, .inl t))] H := hP
  have hD : va_D A [(mo, .inr (3, [.ref an, .ref ae, .ref al, .ref ap, .int ln, .int (kk 0), .int (kk 1), .int (kk 2), .int (kk 3), .int 0])), (an, .inl (cy, 366, .inl t))] := hD
  exact ki_iret hx hb hr hlk hK hS () rfl hP hD dX3_target_10
set_option maxHeartbeats 4000000 in
set_option maxRecDepth 100000 in
theorem c_X3_size (l : Launch) (D : va_G) (cy : ClassId) (mo an ae al ap : Nat) (ln th : Int32) (kk : Nat → Int32) (t : Nat → Int32) (st : ki_St) (hm : m_rep t st) : ki_I l yX3_size wsX3_size ({ frames := 1, cells := 0, slots := 0, locals := 21 }) 0 0 D [(cy, .int)] [.ref mo] [(mo, .inr (3, [.ref an, .ref ae, .ref al, .ref ap, .int ln, .int (kk 0), .int (kk 1), .int (kk 2), .int (kk 3), .int th])), (an, .inl (cy, 366, .inl t))] (S := Unit) (fun r _ => r = c_pages st) (fun _u => [(mo, .inr (3, [.ref an, .ref ae, .ref al, .ref ap, .int ln, .int (kk 0), .int (kk 1), .int (kk 2), .int (kk 3), .int 0])), (an, .inl (cy, 366, .inl t))]) := by
  refine ki_ofI (cc := cX3_size) (maxL := 1) (ret := (some .int)) (by decide +kernel) rfl (Nat.le_of_ble_eq_true rfl) ?_
  intro p e s m args below meth c A ls hx hb hr hts hown hlk hml hK hE hP hD hA hS hl
  have hown : s.vm.findClass RX3 = some m.cls := hown
  have hl : lv_has ls 1 [(0, .ref mo)] := hl
  have hiX3 : ∀ w ∈ u_ws RX3 TX3 10, w ∈ wsX3_size := by decide +kernel
  refine lv_aload_n hx hb dX3_size_0 rfl (lv_at hl 0 rfl) ?_
  refine lv_aload_n hx hb dX3_size_1 rfl (lv_at hl 0 rfl) ?_
  refine va_get (D := D) (ci := 3) (v := .ref an) (C := RX3) (T := TX3) (N := 10) hx hb hts hiX3 hown hK hP 0 rfl rfl 0 (by decide) (hts (.fieldLink RX3 7 "AdaptiveReplacementCacheModel" "now" "[I") (by decide +kernel)) (fun _ h9 => h9) rfl dX3_size_2 ?_
  refine lv_iconst (v := 1) hx hb dX3_size_5 (by decide) ?_
  refine va_iald hx hb hK hP 1 0 rfl rfl (vp_in_nI (n := 1) (by decide) (by decide)) dX3_size_6 ?_
  refine lv_topi (fun y_1 ey_1 => ?_)
  have ey_1 : y_1 = nI (st.1 1).length := ey_1.trans (m_l hm (i := 1) (by decide) (by decide))
  subst ey_1
  refine lv_aload_n hx hb dX3_size_7 rfl (lv_at hl 0 rfl) ?_
  refine va_get (D := D) (ci := 3) (v := .ref an) (C := RX3) (T := TX3) (N := 10) hx hb hts hiX3 hown hK hP 0 rfl rfl 0 (by decide) (hts (.fieldLink RX3 7 "AdaptiveReplacementCacheModel" "now" "[I") (by decide +kernel)) (fun _ h9 => h9) rfl dX3_size_8 ?_
  refine lv_iconst (v := 2) hx hb dX3_size_11 (by decide) ?_
  refine va_iald hx hb hK hP 1 0 rfl rfl (vp_in_nI (n := 2) (by decide) (by decide)) dX3_size_12 ?_
  refine lv_topi (fun y_2 ey_2 => ?_)
  have ey_2 : y_2 = nI (st.1 2).length := ey_2.trans (m_l hm (i := 2) (by decide) (by decide))
  subst ey_2
  refine lv_iadd hx hb dX3_size_13 ?_
  refine ki_cVI (As := [.int ((nI (st.1 1).length) + (nI (st.1 2).length))]) (rest := []) (wr := [(an, .inl (cy, 366, .inl t))]) ⟨hx, hb, hml, hown, hts⟩ (c_X3_told l D mo an ae al ap ln th kk ((nI (st.1 1).length) + (nI (st.1 2).length))) (cwV 1 hts gX3_size_X3_told rfl rfl rfl (by decide +kernel) ⟨Nat.le_of_ble_eq_true rfl, Nat.le_of_ble_eq_true rfl⟩) hK hE hP hD hS hA [] rfl [0] [1] rfl rfl rfl rfl (by decide) 3 0 rfl rfl rfl rfl hl.1 rfl (Nat.le_of_ble_eq_true rfl) dX3_size_14 ⟨Nat.le_of_ble_eq_true rfl, Nat.le_of_ble_eq_true rfl⟩ [1, 0] (fun u_4 => [(mo, .inr (3, [.ref an, .ref ae, .ref al, .ref ap, .int ln, .int (kk 0), .int (kk 1), .int (kk 2), .int (kk 3), .int 0])), (an, .inl (cy, 366, .inl t))]) (fun _ => rfl) rfl (fun r_3 u_4 H locs hw hP hD hS => ?_)
  subst hw
  have hP : va_P D vwCl [(mo, .inr (3, [.ref an, .ref ae, .ref al, .ref ap, .int ln, .int (kk 0), .int (kk 1), .int (kk 2), .int (kk 3), .int 0])), (an, .inl (cy, 366, .inl t))] H := hP
  have hD : va_D A [(mo, .inr (3, [.ref an, .ref ae, .ref al, .ref ap, .int ln, .int (kk 0), .int (kk 1), .int (kk 2), .int (kk 3), .int 0])), (an, .inl (cy, 366, .inl t))] := hD
  exact ki_iret hx hb hr hlk hK hS () rfl hP hD dX3_size_17
set_option maxHeartbeats 4000000 in
set_option maxRecDepth 100000 in
theorem c_X3_evictions (l : Launch) (D : va_G) (cy : ClassId) (mo an ae al ap : Nat) (ln th : Int32) (kk : Nat → Int32) (t : Nat → Int32) (st : ki_St) (hm : m_rep t st) : ki_I l yX3_evictions wsX3_evictions ({ frames := 1, cells := 0, slots := 0, locals := 21 }) 0 0 D [(cy, .int)] [.ref mo] [(mo, .inr (3, [.ref an, .ref ae, .ref al, .ref ap, .int ln, .int (kk 0), .int (kk 1), .int (kk 2), .int (kk 3), .int th])), (an, .inl (cy, 366, .inl t))] (S := Unit) (fun r _ => r = st.2 10) (fun _u => [(mo, .inr (3, [.ref an, .ref ae, .ref al, .ref ap, .int ln, .int (kk 0), .int (kk 1), .int (kk 2), .int (kk 3), .int 0])), (an, .inl (cy, 366, .inl t))]) := by
  refine ki_ofI (cc := cX3_evictions) (maxL := 1) (ret := (some .int)) (by decide +kernel) rfl (Nat.le_of_ble_eq_true rfl) ?_
  intro p e s m args below meth c A ls hx hb hr hts hown hlk hml hK hE hP hD hA hS hl
  have hown : s.vm.findClass RX3 = some m.cls := hown
  have hl : lv_has ls 1 [(0, .ref mo)] := hl
  have hiX3 : ∀ w ∈ u_ws RX3 TX3 10, w ∈ wsX3_evictions := by decide +kernel
  refine lv_aload_n hx hb dX3_evictions_0 rfl (lv_at hl 0 rfl) ?_
  refine lv_aload_n hx hb dX3_evictions_1 rfl (lv_at hl 0 rfl) ?_
  refine va_get (D := D) (ci := 3) (v := .ref an) (C := RX3) (T := TX3) (N := 10) hx hb hts hiX3 hown hK hP 0 rfl rfl 0 (by decide) (hts (.fieldLink RX3 7 "AdaptiveReplacementCacheModel" "now" "[I") (by decide +kernel)) (fun _ h9 => h9) rfl dX3_evictions_2 ?_
  refine lv_bipush (v := 10) hx hb dX3_evictions_5 (by decide) ?_
  refine va_iald hx hb hK hP 1 0 rfl rfl (vp_in_nI (n := 10) (by decide) (by decide)) dX3_evictions_7 ?_
  refine lv_topi (fun y_1 ey_1 => ?_)
  have ey_1 : y_1 = st.2 10 := ey_1.trans (hm.2 10 (by decide) (by decide))
  subst ey_1
  refine ki_cVI (As := [.int (st.2 10)]) (rest := []) (wr := [(an, .inl (cy, 366, .inl t))]) ⟨hx, hb, hml, hown, hts⟩ (c_X3_told l D mo an ae al ap ln th kk (st.2 10)) (cwV 1 hts gX3_evictions_X3_told rfl rfl rfl (by decide +kernel) ⟨Nat.le_of_ble_eq_true rfl, Nat.le_of_ble_eq_true rfl⟩) hK hE hP hD hS hA [] rfl [0] [1] rfl rfl rfl rfl (by decide) 3 0 rfl rfl rfl rfl hl.1 rfl (Nat.le_of_ble_eq_true rfl) dX3_evictions_8 ⟨Nat.le_of_ble_eq_true rfl, Nat.le_of_ble_eq_true rfl⟩ [1, 0] (fun u_3 => [(mo, .inr (3, [.ref an, .ref ae, .ref al, .ref ap, .int ln, .int (kk 0), .int (kk 1), .int (kk 2), .int (kk 3), .int 0])), (an, .inl (cy, 366, .inl t))]) (fun _ => rfl) rfl (fun r_2 u_3 H locs hw hP hD hS => ?_)
  subst hw
  have hP : va_P D vwCl [(mo, .inr (3, [.ref an, .ref ae, .ref al, .ref ap, .int ln, .int (kk 0), .int (kk 1), .int (kk 2), .int (kk 3), .int 0])), (an, .inl (cy, 366, .inl t))] H := hP
  have hD : va_D A [(mo, .inr (3, [.ref an, .ref ae, .ref al, .ref ap, .int ln, .int (kk 0), .int (kk 1), .int (kk 2), .int (kk 3), .int 0])), (an, .inl (cy, 366, .inl t))] := hD
  exact ki_iret hx hb hr hlk hK hS () rfl hP hD dX3_evictions_11
set_option maxHeartbeats 4000000 in
set_option maxRecDepth 100000 in
theorem c_X3_recentSize (l : Launch) (D : va_G) (cy : ClassId) (mo an ae al ap : Nat) (ln th : Int32) (kk : Nat → Int32) (t : Nat → Int32) (st : ki_St) (hm : m_rep t st) : ki_I l yX3_recentSize wsX3_recentSize ({ frames := 1, cells := 0, slots := 0, locals := 21 }) 0 0 D [(cy, .int)] [.ref mo] [(mo, .inr (3, [.ref an, .ref ae, .ref al, .ref ap, .int ln, .int (kk 0), .int (kk 1), .int (kk 2), .int (kk 3), .int th])), (an, .inl (cy, 366, .inl t))] (S := Unit) (fun r _ => r = nI (st.1 1).length) (fun _u => [(mo, .inr (3, [.ref an, .ref ae, .ref al, .ref ap, .int ln, .int (kk 0), .int (kk 1), .int (kk 2), .int (kk 3), .int 0])), (an, .inl (cy, 366, .inl t))]) := by
  refine ki_ofI (cc := cX3_recentSize) (maxL := 1) (ret := (some .int)) (by decide +kernel) rfl (Nat.le_of_ble_eq_true rfl) ?_
  intro p e s m args below meth c A ls hx hb hr hts hown hlk hml hK hE hP hD hA hS hl
  have hown : s.vm.findClass RX3 = some m.cls := hown
  have hl : lv_has ls 1 [(0, .ref mo)] := hl
  have hiX3 : ∀ w ∈ u_ws RX3 TX3 10, w ∈ wsX3_recentSize := by decide +kernel
  refine lv_aload_n hx hb dX3_recentSize_0 rfl (lv_at hl 0 rfl) ?_
  refine lv_aload_n hx hb dX3_recentSize_1 rfl (lv_at hl 0 rfl) ?_
  refine va_get (D := D) (ci := 3) (v := .ref an) (C := RX3) (T := TX3) (N := 10) hx hb hts hiX3 hown hK hP 0 rfl rfl 0 (by decide) (hts (.fieldLink RX3 7 "AdaptiveReplacementCacheModel" "now" "[I") (by decide +kernel)) (fun _ h9 => h9) rfl dX3_recentSize_2 ?_
  refine lv_iconst (v := 1) hx hb dX3_recentSize_5 (by decide) ?_
  refine va_iald hx hb hK hP 1 0 rfl rfl (vp_in_nI (n := 1) (by decide) (by decide)) dX3_recentSize_6 ?_
  refine lv_topi (fun y_1 ey_1 => ?_)
  have ey_1 : y_1 = nI (st.1 1).length := ey_1.trans (m_l hm (i := 1) (by decide) (by decide))
  subst ey_1
  refine ki_cVI (As := [.int (nI (st.1 1).length)]) (rest := []) (wr := [(an, .inl (cy, 366, .inl t))]) ⟨hx, hb, hml, hown, hts⟩ (c_X3_told l D mo an ae al ap ln th kk (nI (st.1 1).length)) (cwV 1 hts gX3_recentSize_X3_told rfl rfl rfl (by decide +kernel) ⟨Nat.le_of_ble_eq_true rfl, Nat.le_of_ble_eq_true rfl⟩) hK hE hP hD hS hA [] rfl [0] [1] rfl rfl rfl rfl (by decide) 3 0 rfl rfl rfl rfl hl.1 rfl (Nat.le_of_ble_eq_true rfl) dX3_recentSize_7 ⟨Nat.le_of_ble_eq_true rfl, Nat.le_of_ble_eq_true rfl⟩ [1, 0] (fun u_3 => [(mo, .inr (3, [.ref an, .ref ae, .ref al, .ref ap, .int ln, .int (kk 0), .int (kk 1), .int (kk 2), .int (kk 3), .int 0])), (an, .inl (cy, 366, .inl t))]) (fun _ => rfl) rfl (fun r_2 u_3 H locs hw hP hD hS => ?_)
  subst hw
  have hP : va_P D vwCl [(mo, .inr (3, [.ref an, .ref ae, .ref al, .ref ap, .int ln, .int (kk 0), .int (kk 1), .int (kk 2), .int (kk 3), .int 0])), (an, .inl (cy, 366, .inl t))] H := hP
  have hD : va_D A [(mo, .inr (3, [.ref an, .ref ae, .ref al, .ref ap, .int ln, .int (kk 0), .int (kk 1), .int (kk 2), .int (kk 3), .int 0])), (an, .inl (cy, 366, .inl t))] := hD
  exact ki_iret hx hb hr hlk hK hS () rfl hP hD dX3_recentSize_10
set_option maxHeartbeats 4000000 in
set_option maxRecDepth 100000 in
theorem c_X3_frequentSize (l : Launch) (D : va_G) (cy : ClassId) (mo an ae al ap : Nat) (ln th : Int32) (kk : Nat → Int32) (t : Nat → Int32) (st : ki_St) (hm : m_rep t st) : ki_I l yX3_frequentSize wsX3_frequentSize ({ frames := 1, cells := 0, slots := 0, locals := 21 }) 0 0 D [(cy, .int)] [.ref mo] [(mo, .inr (3, [.ref an, .ref ae, .ref al, .ref ap, .int ln, .int (kk 0), .int (kk 1), .int (kk 2), .int (kk 3), .int th])), (an, .inl (cy, 366, .inl t))] (S := Unit) (fun r _ => r = nI (st.1 2).length) (fun _u => [(mo, .inr (3, [.ref an, .ref ae, .ref al, .ref ap, .int ln, .int (kk 0), .int (kk 1), .int (kk 2), .int (kk 3), .int 0])), (an, .inl (cy, 366, .inl t))]) := by
  refine ki_ofI (cc := cX3_frequentSize) (maxL := 1) (ret := (some .int)) (by decide +kernel) rfl (Nat.le_of_ble_eq_true rfl) ?_
  intro p e s m args below meth c A ls hx hb hr hts hown hlk hml hK hE hP hD hA hS hl
  have hown : s.vm.findClass RX3 = some m.cls := hown
  have hl : lv_has ls 1 [(0, .ref mo)] := hl
  have hiX3 : ∀ w ∈ u_ws RX3 TX3 10, w ∈ wsX3_frequentSize := by decide +kernel
  refine lv_aload_n hx hb dX3_frequentSize_0 rfl (lv_at hl 0 rfl) ?_
  refine lv_aload_n hx hb dX3_frequentSize_1 rfl (lv_at hl 0 rfl) ?_
  refine va_get (D := D) (ci := 3) (v := .ref an) (C := RX3) (T := TX3) (N := 10) hx hb hts hiX3 hown hK hP 0 rfl rfl 0 (by decide) (hts (.fieldLink RX3 7 "AdaptiveReplacementCacheModel" "now" "[I") (by decide +kernel)) (fun _ h9 => h9) rfl dX3_frequentSize_2 ?_
  refine lv_iconst (v := 2) hx hb dX3_frequentSize_5 (by decide) ?_
  refine va_iald hx hb hK hP 1 0 rfl rfl (vp_in_nI (n := 2) (by decide) (by decide)) dX3_frequentSize_6 ?_
  refine lv_topi (fun y_1 ey_1 => ?_)
  have ey_1 : y_1 = nI (st.1 2).length := ey_1.trans (m_l hm (i := 2) (by decide) (by decide))
  subst ey_1
  refine ki_cVI (As := [.int (nI (st.1 2).length)]) (rest := []) (wr := [(an, .inl (cy, 366, .inl t))]) ⟨hx, hb, hml, hown, hts⟩ (c_X3_told l D mo an ae al ap ln th kk (nI (st.1 2).length)) (cwV 1 hts gX3_frequentSize_X3_told rfl rfl rfl (by decide +kernel) ⟨Nat.le_of_ble_eq_true rfl, Nat.le_of_ble_eq_true rfl⟩) hK hE hP hD hS hA [] rfl [0] [1] rfl rfl rfl rfl (by decide) 3 0 rfl rfl rfl rfl hl.1 rfl (Nat.le_of_ble_eq_true rfl) dX3_frequentSize_7 ⟨Nat.le_of_ble_eq_true rfl, Nat.le_of_ble_eq_true rfl⟩ [1, 0] (fun u_3 => [(mo, .inr (3, [.ref an, .ref ae, .ref al, .ref ap, .int ln, .int (kk 0), .int (kk 1), .int (kk 2), .int (kk 3), .int 0])), (an, .inl (cy, 366, .inl t))]) (fun _ => rfl) rfl (fun r_2 u_3 H locs hw hP hD hS => ?_)
  subst hw
  have hP : va_P D vwCl [(mo, .inr (3, [.ref an, .ref ae, .ref al, .ref ap, .int ln, .int (kk 0), .int (kk 1), .int (kk 2), .int (kk 3), .int 0])), (an, .inl (cy, 366, .inl t))] H := hP
  have hD : va_D A [(mo, .inr (3, [.ref an, .ref ae, .ref al, .ref ap, .int ln, .int (kk 0), .int (kk 1), .int (kk 2), .int (kk 3), .int 0])), (an, .inl (cy, 366, .inl t))] := hD
  exact ki_iret hx hb hr hlk hK hS () rfl hP hD dX3_frequentSize_10
set_option maxHeartbeats 4000000 in
set_option maxRecDepth 100000 in
theorem c_X3_recentGhosts (l : Launch) (D : va_G) (cy : ClassId) (mo an ae al ap : Nat) (ln th : Int32) (kk : Nat → Int32) (t : Nat → Int32) (st : ki_St) (hm : m_rep t st) : ki_I l yX3_recentGhosts wsX3_recentGhosts ({ frames := 1, cells := 0, slots := 0, locals := 21 }) 0 0 D [(cy, .int)] [.ref mo] [(mo, .inr (3, [.ref an, .ref ae, .ref al, .ref ap, .int ln, .int (kk 0), .int (kk 1), .int (kk 2), .int (kk 3), .int th])), (an, .inl (cy, 366, .inl t))] (S := Unit) (fun r _ => r = nI (st.1 3).length) (fun _u => [(mo, .inr (3, [.ref an, .ref ae, .ref al, .ref ap, .int ln, .int (kk 0), .int (kk 1), .int (kk 2), .int (kk 3), .int 0])), (an, .inl (cy, 366, .inl t))]) := by
  refine ki_ofI (cc := cX3_recentGhosts) (maxL := 1) (ret := (some .int)) (by decide +kernel) rfl (Nat.le_of_ble_eq_true rfl) ?_
  intro p e s m args below meth c A ls hx hb hr hts hown hlk hml hK hE hP hD hA hS hl
  have hown : s.vm.findClass RX3 = some m.cls := hown
  have hl : lv_has ls 1 [(0, .ref mo)] := hl
  have hiX3 : ∀ w ∈ u_ws RX3 TX3 10, w ∈ wsX3_recentGhosts := by decide +kernel
  refine lv_aload_n hx hb dX3_recentGhosts_0 rfl (lv_at hl 0 rfl) ?_
  refine lv_aload_n hx hb dX3_recentGhosts_1 rfl (lv_at hl 0 rfl) ?_
  refine va_get (D := D) (ci := 3) (v := .ref an) (C := RX3) (T := TX3) (N := 10) hx hb hts hiX3 hown hK hP 0 rfl rfl 0 (by decide) (hts (.fieldLink RX3 7 "AdaptiveReplacementCacheModel" "now" "[I") (by decide +kernel)) (fun _ h9 => h9) rfl dX3_recentGhosts_2 ?_
  refine lv_iconst (v := 3) hx hb dX3_recentGhosts_5 (by decide) ?_
  refine va_iald hx hb hK hP 1 0 rfl rfl (vp_in_nI (n := 3) (by decide) (by decide)) dX3_recentGhosts_6 ?_
  refine lv_topi (fun y_1 ey_1 => ?_)
  have ey_1 : y_1 = nI (st.1 3).length := ey_1.trans (m_l hm (i := 3) (by decide) (by decide))
  subst ey_1
  refine ki_cVI (As := [.int (nI (st.1 3).length)]) (rest := []) (wr := [(an, .inl (cy, 366, .inl t))]) ⟨hx, hb, hml, hown, hts⟩ (c_X3_told l D mo an ae al ap ln th kk (nI (st.1 3).length)) (cwV 1 hts gX3_recentGhosts_X3_told rfl rfl rfl (by decide +kernel) ⟨Nat.le_of_ble_eq_true rfl, Nat.le_of_ble_eq_true rfl⟩) hK hE hP hD hS hA [] rfl [0] [1] rfl rfl rfl rfl (by decide) 3 0 rfl rfl rfl rfl hl.1 rfl (Nat.le_of_ble_eq_true rfl) dX3_recentGhosts_7 ⟨Nat.le_of_ble_eq_true rfl, Nat.le_of_ble_eq_true rfl⟩ [1, 0] (fun u_3 => [(mo, .inr (3, [.ref an, .ref ae, .ref al, .ref ap, .int ln, .int (kk 0), .int (kk 1), .int (kk 2), .int (kk 3), .int 0])), (an, .inl (cy, 366, .inl t))]) (fun _ => rfl) rfl (fun r_2 u_3 H locs hw hP hD hS => ?_)
  subst hw
  have hP : va_P D vwCl [(mo, .inr (3, [.ref an, .ref ae, .ref al, .ref ap, .int ln, .int (kk 0), .int (kk 1), .int (kk 2), .int (kk 3), .int 0])), (an, .inl (cy, 366, .inl t))] H := hP
  have hD : va_D A [(mo, .inr (3, [.ref an, .ref ae, .ref al, .ref ap, .int ln, .int (kk 0), .int (kk 1), .int (kk 2), .int (kk 3), .int 0])), (an, .inl (cy, 366, .inl t))] := hD
  exact ki_iret hx hb hr hlk hK hS () rfl hP hD dX3_recentGhosts_10
set_option maxHeartbeats 4000000 in
set_option maxRecDepth 100000 in
theorem c_X3_frequentGhosts (l : Launch) (D : va_G) (cy : ClassId) (mo an ae al ap : Nat) (ln th : Int32) (kk : Nat → Int32) (t : Nat → Int32) (st : ki_St) (hm : m_rep t st) : ki_I l yX3_frequentGhosts wsX3_frequentGhosts ({ frames := 1, cells := 0, slots := 0, locals := 21 }) 0 0 D [(cy, .int)] [.ref mo] [(mo, .inr (3, [.ref an, .ref ae, .ref al, .ref ap, .int ln, .int (kk 0), .int (kk 1), .int (kk 2), .int (kk 3), .int th])), (an, .inl (cy, 366, .inl t))] (S := Unit) (fun r _ => r = nI (st.1 4).length) (fun _u => [(mo, .inr (3, [.ref an, .ref ae, .ref al, .ref ap, .int ln, .int (kk 0), .int (kk 1), .int (kk 2), .int (kk 3), .int 0])), (an, .inl (cy, 366, .inl t))]) := by
  refine ki_ofI (cc := cX3_frequentGhosts) (maxL := 1) (ret := (some .int)) (by decide +kernel) rfl (Nat.le_of_ble_eq_true rfl) ?_
  intro p e s m args below meth c A ls hx hb hr hts hown hlk hml hK hE hP hD hA hS hl
  have hown : s.vm.findClass RX3 = some m.cls := hown
  have hl : lv_has ls 1 [(0, .ref mo)] := hl
  have hiX3 : ∀ w ∈ u_ws RX3 TX3 10, w ∈ wsX3_frequentGhosts := by decide +kernel
  refine lv_aload_n hx hb dX3_frequentGhosts_0 rfl (lv_at hl 0 rfl) ?_
  refine lv_aload_n hx hb dX3_frequentGhosts_1 rfl (lv_at hl 0 rfl) ?_
  refine va_get (D := D) (ci := 3) (v := .ref an) (C := RX3) (T := TX3) (N := 10) hx hb hts hiX3 hown hK hP 0 rfl rfl 0 (by decide) (hts (.fieldLink RX3 7 "AdaptiveReplacementCacheModel" "now" "[I") (by decide +kernel)) (fun _ h9 => h9) rfl dX3_frequentGhosts_2 ?_
  refine lv_iconst (v := 4) hx hb dX3_frequentGhosts_5 (by decide) ?_
  refine va_iald hx hb hK hP 1 0 rfl rfl (vp_in_nI (n := 4) (by decide) (by decide)) dX3_frequentGhosts_6 ?_
  refine lv_topi (fun y_1 ey_1 => ?_)
  have ey_1 : y_1 = nI (st.1 4).length := ey_1.trans (m_l hm (i := 4) (by decide) (by decide))
  subst ey_1
  refine ki_cVI (As := [.int (nI (st.1 4).length)]) (rest := []) (wr := [(an, .inl (cy, 366, .inl t))]) ⟨hx, hb, hml, hown, hts⟩ (c_X3_told l D mo an ae al ap ln th kk (nI (st.1 4).length)) (cwV 1 hts gX3_frequentGhosts_X3_told rfl rfl rfl (by decide +kernel) ⟨Nat.le_of_ble_eq_true rfl, Nat.le_of_ble_eq_true rfl⟩) hK hE hP hD hS hA [] rfl [0] [1] rfl rfl rfl rfl (by decide) 3 0 rfl rfl rfl rfl hl.1 rfl (Nat.le_of_ble_eq_true rfl) dX3_frequentGhosts_7 ⟨Nat.le_of_ble_eq_true rfl, Nat.le_of_ble_eq_true rfl⟩ [1, 0] (fun u_3 => [(mo, .inr (3, [.ref an, .ref ae, .ref al, .ref ap, .int ln, .int (kk 0), .int (kk 1), .int (kk 2), .int (kk 3), .int 0])), (an, .inl (cy, 366, .inl t))]) (fun _ => rfl) rfl (fun r_2 u_3 H locs hw hP hD hS => ?_)
  subst hw
  have hP : va_P D vwCl [(mo, .inr (3, [.ref an, .ref ae, .ref al, .ref ap, .int ln, .int (kk 0), .int (kk 1), .int (kk 2), .int (kk 3), .int 0])), (an, .inl (cy, 366, .inl t))] H := hP
  have hD : va_D A [(mo, .inr (3, [.ref an, .ref ae, .ref al, .ref ap, .int ln, .int (kk 0), .int (kk 1), .int (kk 2), .int (kk 3), .int 0])), (an, .inl (cy, 366, .inl t))] := hD
  exact ki_iret hx hb hr hlk hK hS () rfl hP hD dX3_frequentGhosts_10
set_option maxHeartbeats 4000000 in
set_option maxRecDepth 100000 in
theorem c_X3_requests (l : Launch) (D : va_G) (cy : ClassId) (mo an ae al ap : Nat) (ln th : Int32) (kk : Nat → Int32) : ki_I l yX3_requests wsX3_requests ({ frames := 1, cells := 0, slots := 0, locals := 21 }) 0 0 D [(cy, .int)] [.ref mo] [(mo, .inr (3, [.ref an, .ref ae, .ref al, .ref ap, .int ln, .int (kk 0), .int (kk 1), .int (kk 2), .int (kk 3), .int th]))] (S := Unit) (fun r _ => r = kk 0) (fun _u => [(mo, .inr (3, [.ref an, .ref ae, .ref al, .ref ap, .int ln, .int (kk 0), .int (kk 1), .int (kk 2), .int (kk 3), .int 0]))]) := by
  refine ki_ofI (cc := cX3_requests) (maxL := 1) (ret := (some .int)) (by decide +kernel) rfl (Nat.le_of_ble_eq_true rfl) ?_
  intro p e s m args below meth c A ls hx hb hr hts hown hlk hml hK hE hP hD hA hS hl
  have hown : s.vm.findClass RX3 = some m.cls := hown
  have hl : lv_has ls 1 [(0, .ref mo)] := hl
  have hiX3 : ∀ w ∈ u_ws RX3 TX3 10, w ∈ wsX3_requests := by decide +kernel
  refine lv_aload_n hx hb dX3_requests_0 rfl (lv_at hl 0 rfl) ?_
  refine lv_aload_n hx hb dX3_requests_1 rfl (lv_at hl 0 rfl) ?_
  refine va_get (D := D) (ci := 3) (v := .int (kk 0)) (C := RX3) (T := TX3) (N := 10) hx hb hts hiX3 hown hK hP 0 rfl rfl 5 (by decide) (hts (.fieldLink RX3 83 "AdaptiveReplacementCacheModel" "requests" "I") (by decide +kernel)) (fun _ h9 => h9) rfl dX3_requests_2 ?_
  refine ki_cVI (As := [.int (kk 0)]) (rest := []) (wr := []) ⟨hx, hb, hml, hown, hts⟩ (c_X3_told l D mo an ae al ap ln th kk (kk 0)) (cwV 1 hts gX3_requests_X3_told rfl rfl rfl (by decide +kernel) ⟨Nat.le_of_ble_eq_true rfl, Nat.le_of_ble_eq_true rfl⟩) hK hE hP hD hS hA [] rfl [0] [] rfl rfl rfl rfl (by decide) 3 0 rfl rfl rfl rfl hl.1 rfl (Nat.le_of_ble_eq_true rfl) dX3_requests_5 ⟨Nat.le_of_ble_eq_true rfl, Nat.le_of_ble_eq_true rfl⟩ [0] (fun u_2 => [(mo, .inr (3, [.ref an, .ref ae, .ref al, .ref ap, .int ln, .int (kk 0), .int (kk 1), .int (kk 2), .int (kk 3), .int 0]))]) (fun _ => rfl) rfl (fun r_1 u_2 H locs hw hP hD hS => ?_)
  subst hw
  have hP : va_P D vwCl [(mo, .inr (3, [.ref an, .ref ae, .ref al, .ref ap, .int ln, .int (kk 0), .int (kk 1), .int (kk 2), .int (kk 3), .int 0]))] H := hP
  have hD : va_D A [(mo, .inr (3, [.ref an, .ref ae, .ref al, .ref ap, .int ln, .int (kk 0), .int (kk 1), .int (kk 2), .int (kk 3), .int 0]))] := hD
  exact ki_iret hx hb hr hlk hK hS () rfl hP hD dX3_requests_8
set_option maxHeartbeats 4000000 in
set_option maxRecDepth 100000 in
theorem c_X3_hits (l : Launch) (D : va_G) (cy : ClassId) (mo an ae al ap : Nat) (ln th : Int32) (kk : Nat → Int32) : ki_I l yX3_hits wsX3_hits ({ frames := 1, cells := 0, slots := 0, locals := 21 }) 0 0 D [(cy, .int)] [.ref mo] [(mo, .inr (3, [.ref an, .ref ae, .ref al, .ref ap, .int ln, .int (kk 0), .int (kk 1), .int (kk 2), .int (kk 3), .int th]))] (S := Unit) (fun r _ => r = kk 1) (fun _u => [(mo, .inr (3, [.ref an, .ref ae, .ref al, .ref ap, .int ln, .int (kk 0), .int (kk 1), .int (kk 2), .int (kk 3), .int 0]))]) := by
  refine ki_ofI (cc := cX3_hits) (maxL := 1) (ret := (some .int)) (by decide +kernel) rfl (Nat.le_of_ble_eq_true rfl) ?_
  intro p e s m args below meth c A ls hx hb hr hts hown hlk hml hK hE hP hD hA hS hl
  have hown : s.vm.findClass RX3 = some m.cls := hown
  have hl : lv_has ls 1 [(0, .ref mo)] := hl
  have hiX3 : ∀ w ∈ u_ws RX3 TX3 10, w ∈ wsX3_hits := by decide +kernel
  refine lv_aload_n hx hb dX3_hits_0 rfl (lv_at hl 0 rfl) ?_
  refine lv_aload_n hx hb dX3_hits_1 rfl (lv_at hl 0 rfl) ?_
  refine va_get (D := D) (ci := 3) (v := .int (kk 1)) (C := RX3) (T := TX3) (N := 10) hx hb hts hiX3 hown hK hP 0 rfl rfl 6 (by decide) (hts (.fieldLink RX3 86 "AdaptiveReplacementCacheModel" "hits" "I") (by decide +kernel)) (fun _ h9 => h9) rfl dX3_hits_2 ?_
  refine ki_cVI (As := [.int (kk 1)]) (rest := []) (wr := []) ⟨hx, hb, hml, hown, hts⟩ (c_X3_told l D mo an ae al ap ln th kk (kk 1)) (cwV 1 hts gX3_hits_X3_told rfl rfl rfl (by decide +kernel) ⟨Nat.le_of_ble_eq_true rfl, Nat.le_of_ble_eq_true rfl⟩) hK hE hP hD hS hA [] rfl [0] [] rfl rfl rfl rfl (by decide) 3 0 rfl rfl rfl rfl hl.1 rfl (Nat.le_of_ble_eq_true rfl) dX3_hits_5 ⟨Nat.le_of_ble_eq_true rfl, Nat.le_of_ble_eq_true rfl⟩ [0] (fun u_2 => [(mo, .inr (3, [.ref an, .ref ae, .ref al, .ref ap, .int ln, .int (kk 0), .int (kk 1), .int (kk 2), .int (kk 3), .int 0]))]) (fun _ => rfl) rfl (fun r_1 u_2 H locs hw hP hD hS => ?_)
  subst hw
  have hP : va_P D vwCl [(mo, .inr (3, [.ref an, .ref ae, .ref al, .ref ap, .int ln, .int (kk 0), .int (kk 1), .int (kk 2), .int (kk 3), .int 0]))] H := hP
  have hD : va_D A [(mo, .inr (3, [.ref an, .ref ae, .ref al, .ref ap, .int ln, .int (kk 0), .int (kk 1), .int (kk 2), .int (kk 3), .int 0]))] := hD
  exact ki_iret hx hb hr hlk hK hS () rfl hP hD dX3_hits_8
set_option maxHeartbeats 4000000 in
set_option maxRecDepth 100000 in
theorem c_X3_ghostHits (l : Launch) (D : va_G) (cy : ClassId) (mo an ae al ap : Nat) (ln th : Int32) (kk : Nat → Int32) : ki_I l yX3_ghostHits wsX3_ghostHits ({ frames := 1, cells := 0, slots := 0, locals := 21 }) 0 0 D [(cy, .int)] [.ref mo] [(mo, .inr (3, [.ref an, .ref ae, .ref al, .ref ap, .int ln, .int (kk 0), .int (kk 1), .int (kk 2), .int (kk 3), .int th]))] (S := Unit) (fun r _ => r = kk 2) (fun _u => [(mo, .inr (3, [.ref an, .ref ae, .ref al, .ref ap, .int ln, .int (kk 0), .int (kk 1), .int (kk 2), .int (kk 3), .int 0]))]) := by
  refine ki_ofI (cc := cX3_ghostHits) (maxL := 1) (ret := (some .int)) (by decide +kernel) rfl (Nat.le_of_ble_eq_true rfl) ?_
  intro p e s m args below meth c A ls hx hb hr hts hown hlk hml hK hE hP hD hA hS hl
  have hown : s.vm.findClass RX3 = some m.cls := hown
  have hl : lv_has ls 1 [(0, .ref mo)] := hl
  have hiX3 : ∀ w ∈ u_ws RX3 TX3 10, w ∈ wsX3_ghostHits := by decide +kernel
  refine lv_aload_n hx hb dX3_ghostHits_0 rfl (lv_at hl 0 rfl) ?_
  refine lv_aload_n hx hb dX3_ghostHits_1 rfl (lv_at hl 0 rfl) ?_
  refine va_get (D := D) (ci := 3) (v := .int (kk 2)) (C := RX3) (T := TX3) (N := 10) hx hb hts hiX3 hown hK hP 0 rfl rfl 7 (by decide) (hts (.fieldLink RX3 89 "AdaptiveReplacementCacheModel" "ghostHits" "I") (by decide +kernel)) (fun _ h9 => h9) rfl dX3_ghostHits_2 ?_
  refine ki_cVI (As := [.int (kk 2)]) (rest := []) (wr := []) ⟨hx, hb, hml, hown, hts⟩ (c_X3_told l D mo an ae al ap ln th kk (kk 2)) (cwV 1 hts gX3_ghostHits_X3_told rfl rfl rfl (by decide +kernel) ⟨Nat.le_of_ble_eq_true rfl, Nat.le_of_ble_eq_true rfl⟩) hK hE hP hD hS hA [] rfl [0] [] rfl rfl rfl rfl (by decide) 3 0 rfl rfl rfl rfl hl.1 rfl (Nat.le_of_ble_eq_true rfl) dX3_ghostHits_5 ⟨Nat.le_of_ble_eq_true rfl, Nat.le_of_ble_eq_true rfl⟩ [0] (fun u_2 => [(mo, .inr (3, [.ref an, .ref ae, .ref al, .ref ap, .int ln, .int (kk 0), .int (kk 1), .int (kk 2), .int (kk 3), .int 0]))]) (fun _ => rfl) rfl (fun r_1 u_2 H locs hw hP hD hS => ?_)
  subst hw
  have hP : va_P D vwCl [(mo, .inr (3, [.ref an, .ref ae, .ref al, .ref ap, .int ln, .int (kk 0), .int (kk 1), .int (kk 2), .int (kk 3), .int 0]))] H := hP
  have hD : va_D A [(mo, .inr (3, [.ref an, .ref ae, .ref al, .ref ap, .int ln, .int (kk 0), .int (kk 1), .int (kk 2), .int (kk 3), .int 0]))] := hD
  exact ki_iret hx hb hr hlk hK hS () rfl hP hD dX3_ghostHits_8
set_option maxHeartbeats 4000000 in
set_option maxRecDepth 100000 in
theorem c_X3_bypassed (l : Launch) (D : va_G) (cy : ClassId) (mo an ae al ap : Nat) (ln th : Int32) (kk : Nat → Int32) : ki_I l yX3_bypassed wsX3_bypassed ({ frames := 1, cells := 0, slots := 0, locals := 21 }) 0 0 D [(cy, .int)] [.ref mo] [(mo, .inr (3, [.ref an, .ref ae, .ref al, .ref ap, .int ln, .int (kk 0), .int (kk 1), .int (kk 2), .int (kk 3), .int th]))] (S := Unit) (fun r _ => r = kk 3) (fun _u => [(mo, .inr (3, [.ref an, .ref ae, .ref al, .ref ap, .int ln, .int (kk 0), .int (kk 1), .int (kk 2), .int (kk 3), .int 0]))]) := by
  refine ki_ofI (cc := cX3_bypassed) (maxL := 1) (ret := (some .int)) (by decide +kernel) rfl (Nat.le_of_ble_eq_true rfl) ?_
  intro p e s m args below meth c A ls hx hb hr hts hown hlk hml hK hE hP hD hA hS hl
  have hown : s.vm.findClass RX3 = some m.cls := hown
  have hl : lv_has ls 1 [(0, .ref mo)] := hl
  have hiX3 : ∀ w ∈ u_ws RX3 TX3 10, w ∈ wsX3_bypassed := by decide +kernel
  refine lv_aload_n hx hb dX3_bypassed_0 rfl (lv_at hl 0 rfl) ?_
  refine lv_aload_n hx hb dX3_bypassed_1 rfl (lv_at hl 0 rfl) ?_
  refine va_get (D := D) (ci := 3) (v := .int (kk 3)) (C := RX3) (T := TX3) (N := 10) hx hb hts hiX3 hown hK hP 0 rfl rfl 8 (by decide) (hts (.fieldLink RX3 92 "AdaptiveReplacementCacheModel" "bypassed" "I") (by decide +kernel)) (fun _ h9 => h9) rfl dX3_bypassed_2 ?_
  refine ki_cVI (As := [.int (kk 3)]) (rest := []) (wr := []) ⟨hx, hb, hml, hown, hts⟩ (c_X3_told l D mo an ae al ap ln th kk (kk 3)) (cwV 1 hts gX3_bypassed_X3_told rfl rfl rfl (by decide +kernel) ⟨Nat.le_of_ble_eq_true rfl, Nat.le_of_ble_eq_true rfl⟩) hK hE hP hD hS hA [] rfl [0] [] rfl rfl rfl rfl (by decide) 3 0 rfl rfl rfl rfl hl.1 rfl (Nat.le_of_ble_eq_true rfl) dX3_bypassed_5 ⟨Nat.le_of_ble_eq_true rfl, Nat.le_of_ble_eq_true rfl⟩ [0] (fun u_2 => [(mo, .inr (3, [.ref an, .ref ae, .ref al, .ref ap, .int ln, .int (kk 0), .int (kk 1), .int (kk 2), .int (kk 3), .int 0]))]) (fun _ => rfl) rfl (fun r_1 u_2 H locs hw hP hD hS => ?_)
  subst hw
  have hP : va_P D vwCl [(mo, .inr (3, [.ref an, .ref ae, .ref al, .ref ap, .int ln, .int (kk 0), .int (kk 1), .int (kk 2), .int (kk 3), .int 0]))] H := hP
  have hD : va_D A [(mo, .inr (3, [.ref an, .ref ae, .ref al, .ref ap, .int ln, .int (kk 0), .int (kk 1), .int (kk 2), .int (kk 3), .int 0]))] := hD
  exact ki_iret hx hb hr hlk hK hS () rfl hP hD dX3_bypassed_8
set_option maxHeartbeats 4000000 in
set_option maxRecDepth 100000 in
theorem c_X3_clear (l : Launch) (D : va_G) (cy : ClassId) (mo an ae al ap : Nat) (ln th : Int32) (kk : Nat → Int32) (t : Nat → Int32) (st : ki_St) (hm : m_rep t st) : ki_I l yX3_clear wsX3_clear ({ frames := 0, cells := 0, slots := 0, locals := 0 }) 0 0 D [(cy, .int)] [.ref mo] [(mo, .inr (3, [.ref an, .ref ae, .ref al, .ref ap, .int ln, .int (kk 0), .int (kk 1), .int (kk 2), .int (kk 3), .int th])), (an, .inl (cy, 366, .inl t))] (S := Nat → Int32) (fun r t1 => r = c_pages st ∧ m_rep t1 (c_clear st)) (fun t1 => [(mo, .inr (3, [.ref an, .ref ae, .ref al, .ref ap, .int ln, .int (kk 0), .int (kk 1), .int (kk 2), .int (kk 3), .int 0])), (an, .inl (cy, 366, .inl t1))]) := by
  refine ki_ofI (cc := cX3_clear) (maxL := 3) (ret := (some .int)) (by decide +kernel) rfl (Nat.le_of_ble_eq_true rfl) ?_
  intro p e s m args below meth c A ls hx hb hr hts hown hlk hml hK hE hP hD hA hS hl
  have hown : s.vm.findClass RX3 = some m.cls := hown
  have hl : lv_has ls 3 [(0, .ref mo)] := hl
  have hiX3 : ∀ w ∈ u_ws RX3 TX3 10, w ∈ wsX3_clear := by decide +kernel
  refine lv_aload_n hx hb dX3_clear_0 rfl (lv_at hl 0 rfl) ?_
  refine lv_iconst (v := 0) hx hb dX3_clear_1 (by decide) ?_
  refine va_put (D := D) (ci := 3) (v := .int 0) (ty := .int) (C := RX3) (T := TX3) (N := 10) hx hb hts hiX3 tyX3 tyX3_ok nmX3 hown hK hP hD hS 0 rfl rfl 9 (by decide) (hts (.fieldLink RX3 22 "AdaptiveReplacementCacheModel" "thrown" "I") (by decide +kernel)) (fun _ h9 => h9) rfl (by decide +kernel) rfl rfl (Nat.le_of_ble_eq_true rfl) dX3_clear_2 (fun H locs hP hD hS => ?_)
  have hP : va_P D vwCl [(mo, .inr (3, [.ref an, .ref ae, .ref al, .ref ap, .int ln, .int (kk 0), .int (kk 1), .int (kk 2), .int (kk 3), .int 0])), (an, .inl (cy, 366, .inl t))] H := hP
  have hD : va_D A [(mo, .inr (3, [.ref an, .ref ae, .ref al, .ref ap, .int ln, .int (kk 0), .int (kk 1), .int (kk 2), .int (kk 3), .int 0])), (an, .inl (cy, 366, .inl t))] := hD
  refine lv_aload_n hx hb dX3_clear_5 rfl (lv_at hl 0 rfl) ?_
  refine va_get (D := D) (ci := 3) (v := .ref an) (C := RX3) (T := TX3) (N := 10) hx hb hts hiX3 hown hK hP 0 rfl rfl 0 (by decide) (hts (.fieldLink RX3 7 "AdaptiveReplacementCacheModel" "now" "[I") (by decide +kernel)) (fun _ h9 => h9) rfl dX3_clear_6 ?_
  refine lv_iconst (v := 1) hx hb dX3_clear_9 (by decide) ?_
  refine va_iald hx hb hK hP 1 0 rfl rfl (vp_in_nI (n := 1) (by decide) (by decide)) dX3_clear_10 ?_
  refine lv_topi (fun y_1 ey_1 => ?_)
  have ey_1 : y_1 = nI (st.1 1).length := ey_1.trans (m_l hm (i := 1) (by decide) (by decide))
  subst ey_1
  refine lv_aload_n hx hb dX3_clear_11 rfl (lv_at hl 0 rfl) ?_
  refine va_get (D := D) (ci := 3) (v := .ref an) (C := RX3) (T := TX3) (N := 10) hx hb hts hiX3 hown hK hP 0 rfl rfl 0 (by decide) (hts (.fieldLink RX3 7 "AdaptiveReplacementCacheModel" "now" "[I") (by decide +kernel)) (fun _ h9 => h9) rfl dX3_clear_12 ?_
  refine lv_iconst (v := 2) hx hb dX3_clear_15 (by decide) ?_
  refine va_iald hx hb hK hP 1 0 rfl rfl (vp_in_nI (n := 2) (by decide) (by decide)) dX3_clear_16 ?_
  refine lv_topi (fun y_2 ey_2 => ?_)
  have ey_2 : y_2 = nI (st.1 2).length := ey_2.trans (m_l hm (i := 2) (by decide) (by decide))
  subst ey_2
  refine lv_iadd hx hb dX3_clear_17 ?_
  refine lv_topi (fun y_3 ey_3 => ?_)
  have ey_3 : y_3 = c_pages st := ey_3.trans rfl
  subst ey_3
  refine lv_istore_n (lv' := [(1, .int (c_pages st)), (0, .ref mo)]) hx hb dX3_clear_18 rfl hl (by decide) rfl (fun ls hl => ?_)
  refine lv_iconst (v := 1) hx hb dX3_clear_19 (by decide) ?_
  refine lv_istore_n (lv' := [(2, .int 1), (1, .int (c_pages st)), (0, .ref mo)]) hx hb dX3_clear_20 rfl hl (by decide) rfl (fun ls hl => ?_)
  refine lv_iload_n hx hb dX3_clear_21 rfl (lv_at hl 0 rfl) ?_
  refine lv_iconst (v := 5) hx hb dX3_clear_22 (by decide) ?_
  refine lv_icmp_gt (tgt := 39) hx hb dX3_clear_23 (by decide) (fun c_4 => ?_) (fun c_4 => ?_)
  · exact absurd c_4 (by decide)
  · skip
    refine lv_aload_n hx hb dX3_clear_26 rfl (lv_at hl 2 rfl) ?_
    refine va_get (D := D) (ci := 3) (v := .ref an) (C := RX3) (T := TX3) (N := 10) hx hb hts hiX3 hown hK hP 0 rfl rfl 0 (by decide) (hts (.fieldLink RX3 7 "AdaptiveReplacementCacheModel" "now" "[I") (by decide +kernel)) (fun _ h9 => h9) rfl dX3_clear_27 ?_
    refine lv_iload_n hx hb dX3_clear_30 rfl (lv_at hl 0 rfl) ?_
    refine lv_iconst (v := 0) hx hb dX3_clear_31 (by decide) ?_
    refine va_iast hx hb hK hP hD hS 1 0 rfl rfl (vp_in_nI (n := 1) (by decide) (by decide)) dX3_clear_32 (fun H locs hP hD hS => ?_)
    obtain ⟨t_5, et_5⟩ : ∃ zz9 : Nat → Int32, zz9 = upd t (Int32.toNatClampNeg 1) 0 := ⟨_, rfl⟩
    rw [← et_5] at hP hD
    have hm_6 : m_rep t_5 ((va_up st.1 1 []), st.2) := by rw [et_5]; exact m_nil (i := 1) hm (by decide) (by decide)
    have hP : va_P D vwCl [(mo, .inr (3, [.ref an, .ref ae, .ref al, .ref ap, .int ln, .int (kk 0), .int (kk 1), .int (kk 2), .int (kk 3), .int 0])), (an, .inl (cy, 366, .inl t_5))] H := hP
    have hD : va_D A [(mo, .inr (3, [.ref an, .ref ae, .ref al, .ref ap, .int ln, .int (kk 0), .int (kk 1), .int (kk 2), .int (kk 3), .int 0])), (an, .inl (cy, 366, .inl t_5))] := hD
    refine lv_iinc (v := 2) (lv' := [(2, .int 2), (1, .int (c_pages st)), (0, .ref mo)]) hx hb dX3_clear_33 hl (k := 0) rfl (by decide) (by decide) rfl (fun ls hl => ?_)
    refine lv_goto (tgt := 21) hx hb dX3_clear_36 (by decide) ?_
    refine lv_iload_n hx hb dX3_clear_21 rfl (lv_at hl 0 rfl) ?_
    refine lv_iconst (v := 5) hx hb dX3_clear_22 (by decide) ?_
    refine lv_icmp_gt (tgt := 39) hx hb dX3_clear_23 (by decide) (fun c_7 => ?_) (fun c_7 => ?_)
    · exact absurd c_7 (by decide)
    · skip
      refine lv_aload_n hx hb dX3_clear_26 rfl (lv_at hl 2 rfl) ?_
      refine va_get (D := D) (ci := 3) (v := .ref an) (C := RX3) (T := TX3) (N := 10) hx hb hts hiX3 hown hK hP 0 rfl rfl 0 (by decide) (hts (.fieldLink RX3 7 "AdaptiveReplacementCacheModel" "now" "[I") (by decide +kernel)) (fun _ h9 => h9) rfl dX3_clear_27 ?_
      refine lv_iload_n hx hb dX3_clear_30 rfl (lv_at hl 0 rfl) ?_
      refine lv_iconst (v := 0) hx hb dX3_clear_31 (by decide) ?_
      refine va_iast hx hb hK hP hD hS 1 0 rfl rfl (vp_in_nI (n := 2) (by decide) (by decide)) dX3_clear_32 (fun H locs hP hD hS => ?_)
      obtain ⟨t_8, et_8⟩ : ∃ zz9 : Nat → Int32, zz9 = upd t_5 (Int32.toNatClampNeg 2) 0 := ⟨_, rfl⟩
      rw [← et_8] at hP hD
      have hm_9 : m_rep t_8 ((va_up (va_up st.1 1 []) 2 []), st.2) := by rw [et_8]; exact m_nil (i := 2) hm_6 (by decide) (by decide)
      have hP : va_P D vwCl [(mo, .inr (3, [.ref an, .ref ae, .ref al, .ref ap, .int ln, .int (kk 0), .int (kk 1), .int (kk 2), .int (kk 3), .int 0])), (an, .inl (cy, 366, .inl t_8))] H := hP
      have hD : va_D A [(mo, .inr (3, [.ref an, .ref ae, .ref al, .ref ap, .int ln, .int (kk 0), .int (kk 1), .int (kk 2), .int (kk 3), .int 0])), (an, .inl (cy, 366, .inl t_8))] := hD
      refine lv_iinc (v := 3) (lv' := [(2, .int 3), (1, .int (c_pages st)), (0, .ref mo)]) hx hb dX3_clear_33 hl (k := 0) rfl (by decide) (by decide) rfl (fun ls hl => ?_)
      refine lv_goto (tgt := 21) hx hb dX3_clear_36 (by decide) ?_
      refine lv_iload_n hx hb dX3_clear_21 rfl (lv_at hl 0 rfl) ?_
      refine lv_iconst (v := 5) hx hb dX3_clear_22 (by decide) ?_
      refine lv_icmp_gt (tgt := 39) hx hb dX3_clear_23 (by decide) (fun c_10 => ?_) (fun c_10 => ?_)
      · exact absurd c_10 (by decide)
      · skip
        refine lv_aload_n hx hb dX3_clear_26 rfl (lv_at hl 2 rfl) ?_
        refine va_get (D := D) (ci := 3) (v := .ref an) (C := RX3) (T := TX3) (N := 10) hx hb hts hiX3 hown hK hP 0 rfl rfl 0 (by decide) (hts (.fieldLink RX3 7 "AdaptiveReplacementCacheModel" "now" "[I") (by decide +kernel)) (fun _ h9 => h9) rfl dX3_clear_27 ?_
        refine lv_iload_n hx hb dX3_clear_30 rfl (lv_at hl 0 rfl) ?_
        refine lv_iconst (v := 0) hx hb dX3_clear_31 (by decide) ?_
        refine va_iast hx hb hK hP hD hS 1 0 rfl rfl (vp_in_nI (n := 3) (by decide) (by decide)) dX3_clear_32 (fun H locs hP hD hS => ?_)
        obtain ⟨t_11, et_11⟩ : ∃ zz9 : Nat → Int32, zz9 = upd t_8 (Int32.toNatClampNeg 3) 0 := ⟨_, rfl⟩
        rw [← et_11] at hP hD
        have hm_12 : m_rep t_11 ((va_up (va_up (va_up st.1 1 []) 2 []) 3 []), st.2) := by rw [et_11]; exact m_nil (i := 3) hm_9 (by decide) (by decide)
        have hP : va_P D vwCl [(mo, .inr (3, [.ref an, .ref ae, .ref al, .ref ap, .int ln, .int (kk 0), .int (kk 1), .int (kk 2), .int (kk 3), .int 0])), (an, .inl (cy, 366, .inl t_11))] H := hP
        have hD : va_D A [(mo, .inr (3, [.ref an, .ref ae, .ref al, .ref ap, .int ln, .int (kk 0), .int (kk 1), .int (kk 2), .int (kk 3), .int 0])), (an, .inl (cy, 366, .inl t_11))] := hD
        refine lv_iinc (v := 4) (lv' := [(2, .int 4), (1, .int (c_pages st)), (0, .ref mo)]) hx hb dX3_clear_33 hl (k := 0) rfl (by decide) (by decide) rfl (fun ls hl => ?_)
        refine lv_goto (tgt := 21) hx hb dX3_clear_36 (by decide) ?_
        refine lv_iload_n hx hb dX3_clear_21 rfl (lv_at hl 0 rfl) ?_
        refine lv_iconst (v := 5) hx hb dX3_clear_22 (by decide) ?_
        refine lv_icmp_gt (tgt := 39) hx hb dX3_clear_23 (by decide) (fun c_13 => ?_) (fun c_13 => ?_)
        · exact absurd c_13 (by decide)
        · skip
          refine lv_aload_n hx hb dX3_clear_26 rfl (lv_at hl 2 rfl) ?_
          refine va_get (D := D) (ci := 3) (v := .ref an) (C := RX3) (T := TX3) (N := 10) hx hb hts hiX3 hown hK hP 0 rfl rfl 0 (by decide) (hts (.fieldLink RX3 7 "AdaptiveReplacementCacheModel" "now" "[I") (by decide +kernel)) (fun _ h9 => h9) rfl dX3_clear_27 ?_
          refine lv_iload_n hx hb dX3_clear_30 rfl (lv_at hl 0 rfl) ?_
          refine lv_iconst (v := 0) hx hb dX3_clear_31 (by decide) ?_
          refine va_iast hx hb hK hP hD hS 1 0 rfl rfl (vp_in_nI (n := 4) (by decide) (by decide)) dX3_clear_32 (fun H locs hP hD hS => ?_)
          obtain ⟨t_14, et_14⟩ : ∃ zz9 : Nat → Int32, zz9 = upd t_11 (Int32.toNatClampNeg 4) 0 := ⟨_, rfl⟩
          rw [← et_14] at hP hD
          have hm_15 : m_rep t_14 ((va_up (va_up (va_up (va_up st.1 1 []) 2 []) 3 []) 4 []), st.2) := by rw [et_14]; exact m_nil (i := 4) hm_12 (by decide) (by decide)
          have hP : va_P D vwCl [(mo, .inr (3, [.ref an, .ref ae, .ref al, .ref ap, .int ln, .int (kk 0), .int (kk 1), .int (kk 2), .int (kk 3), .int 0])), (an, .inl (cy, 366, .inl t_14))] H := hP
          have hD : va_D A [(mo, .inr (3, [.ref an, .ref ae, .ref al, .ref ap, .int ln, .int (kk 0), .int (kk 1), .int (kk 2), .int (kk 3), .int 0])), (an, .inl (cy, 366, .inl t_14))] := hD
          refine lv_iinc (v := 5) (lv' := [(2, .int 5), (1, .int (c_pages st)), (0, .ref mo)]) hx hb dX3_clear_33 hl (k := 0) rfl (by decide) (by decide) rfl (fun ls hl => ?_)
          refine lv_goto (tgt := 21) hx hb dX3_clear_36 (by decide) ?_
          refine lv_iload_n hx hb dX3_clear_21 rfl (lv_at hl 0 rfl) ?_
          refine lv_iconst (v := 5) hx hb dX3_clear_22 (by decide) ?_
          refine lv_icmp_gt (tgt := 39) hx hb dX3_clear_23 (by decide) (fun c_16 => ?_) (fun c_16 => ?_)
          · exact absurd c_16 (by decide)
          · skip
            refine lv_aload_n hx hb dX3_clear_26 rfl (lv_at hl 2 rfl) ?_
            refine va_get (D := D) (ci := 3) (v := .ref an) (C := RX3) (T := TX3) (N := 10) hx hb hts hiX3 hown hK hP 0 rfl rfl 0 (by decide) (hts (.fieldLink RX3 7 "AdaptiveReplacementCacheModel" "now" "[I") (by decide +kernel)) (fun _ h9 => h9) rfl dX3_clear_27 ?_
            refine lv_iload_n hx hb dX3_clear_30 rfl (lv_at hl 0 rfl) ?_
            refine lv_iconst (v := 0) hx hb dX3_clear_31 (by decide) ?_
            refine va_iast hx hb hK hP hD hS 1 0 rfl rfl (vp_in_nI (n := 5) (by decide) (by decide)) dX3_clear_32 (fun H locs hP hD hS => ?_)
            obtain ⟨t_17, et_17⟩ : ∃ zz9 : Nat → Int32, zz9 = upd t_14 (Int32.toNatClampNeg 5) 0 := ⟨_, rfl⟩
            rw [← et_17] at hP hD
            have hm_18 : m_rep t_17 ((va_up (va_up (va_up (va_up st.1 1 []) 2 []) 3 []) 4 []), va_up st.2 5 0) := by rw [et_17]; exact m_z (i := 5) hm_15 (by decide) (by decide)
            have hP : va_P D vwCl [(mo, .inr (3, [.ref an, .ref ae, .ref al, .ref ap, .int ln, .int (kk 0), .int (kk 1), .int (kk 2), .int (kk 3), .int 0])), (an, .inl (cy, 366, .inl t_17))] H := hP
            have hD : va_D A [(mo, .inr (3, [.ref an, .ref ae, .ref al, .ref ap, .int ln, .int (kk 0), .int (kk 1), .int (kk 2), .int (kk 3), .int 0])), (an, .inl (cy, 366, .inl t_17))] := hD
            refine lv_iinc (v := 6) (lv' := [(2, .int 6), (1, .int (c_pages st)), (0, .ref mo)]) hx hb dX3_clear_33 hl (k := 0) rfl (by decide) (by decide) rfl (fun ls hl => ?_)
            refine lv_goto (tgt := 21) hx hb dX3_clear_36 (by decide) ?_
            refine lv_iload_n hx hb dX3_clear_21 rfl (lv_at hl 0 rfl) ?_
            refine lv_iconst (v := 5) hx hb dX3_clear_22 (by decide) ?_
            refine lv_icmp_gt (tgt := 39) hx hb dX3_clear_23 (by decide) (fun c_19 => ?_) (fun c_19 => ?_)
            rotate_left
            · exact absurd (by decide) c_19
            · skip
              refine lv_iload_n hx hb dX3_clear_39 rfl (lv_at hl 1 rfl) ?_
              exact ki_iret hx hb hr hlk hK hS t_17 ⟨rfl, hm_18⟩ hP hD dX3_clear_40
set_option maxHeartbeats 4000000 in
set_option maxRecDepth 100000 in
theorem c_X3_whereIs (l : Launch) (D : va_G) (cy : ClassId) (mo an ae al ap : Nat) (ln th : Int32) (kk : Nat → Int32) (t : Nat → Int32) (st : ki_St) (hm : m_rep t st) (hpw : p_W st) (key : Int32) : ki_I l yX3_whereIs wsX3_whereIs ({ frames := 3, cells := 0, slots := 0, locals := 68 }) 0 0 D [(cy, .int)] [.ref mo, .int key] [(mo, .inr (3, [.ref an, .ref ae, .ref al, .ref ap, .int ln, .int (kk 0), .int (kk 1), .int (kk 2), .int (kk 3), .int th])), (an, .inl (cy, 366, .inl t))] (S := Unit) (fun r _ => r = if ¬ a_badKey key then c_list st key else 0) (fun _u => [(mo, .inr (3, [.ref an, .ref ae, .ref al, .ref ap, .int ln, .int (kk 0), .int (kk 1), .int (kk 2), .int (kk 3), .int (if ¬ a_badKey key then 0 else 1)])), (an, .inl (cy, 366, .inl t))]) := by
  refine ki_ofI (cc := cX3_whereIs) (maxL := 2) (ret := (some .int)) (by decide +kernel) rfl (Nat.le_of_ble_eq_true rfl) ?_
  intro p e s m args below meth c A ls hx hb hr hts hown hlk hml hK hE hP hD hA hS hl
  have hown : s.vm.findClass RX3 = some m.cls := hown
  have hl : lv_has ls 2 [(0, .ref mo), (1, .int key)] := hl
  have hiX3 : ∀ w ∈ u_ws RX3 TX3 10, w ∈ wsX3_whereIs := by decide +kernel
  refine lv_aload_n hx hb dX3_whereIs_0 rfl (lv_at hl 0 rfl) ?_
  refine lv_iload_n hx hb dX3_whereIs_1 rfl (lv_at hl 1 rfl) ?_
  refine ki_cSR (As := [.int key]) (rest := [.ref mo]) ⟨hx, hb, hml, hown, hts⟩ (c_X3_isKey l D key) (va_cwS 1 hts gX3_whereIs_X3_isKey rfl rfl rfl (by decide +kernel) ⟨Nat.le_of_ble_eq_true rfl, Nat.le_of_ble_eq_true rfl⟩) hK hE hP [] rfl [] rfl rfl hl.1 rfl (Nat.le_of_ble_eq_true rfl) dX3_whereIs_2 ⟨Nat.le_of_ble_eq_true rfl, Nat.le_of_ble_eq_true rfl⟩ ?_
  refine ki_cVI (As := [.int (if ¬ a_badKey key then 1 else 0)]) (rest := []) (wr := [(an, .inl (cy, 366, .inl t))]) ⟨hx, hb, hml, hown, hts⟩ (c_X3_asked l D mo an ae al ap ln th kk (¬ a_badKey key)) (cwV 1 hts gX3_whereIs_X3_asked rfl rfl rfl (by decide +kernel) ⟨Nat.le_of_ble_eq_true rfl, Nat.le_of_ble_eq_true rfl⟩) hK hE hP hD hS hA [] rfl [0] [1] rfl rfl rfl rfl (by decide) 3 0 rfl rfl rfl rfl hl.1 rfl (Nat.le_of_ble_eq_true rfl) dX3_whereIs_5 ⟨Nat.le_of_ble_eq_true rfl, Nat.le_of_ble_eq_true rfl⟩ [1, 0] (fun u_2 => [(mo, .inr (3, [.ref an, .ref ae, .ref al, .ref ap, .int ln, .int (kk 0), .int (kk 1), .int (kk 2), .int (kk 3), .int (if ¬ a_badKey key then 0 else 1)])), (an, .inl (cy, 366, .inl t))]) (fun _ => rfl) rfl (fun r_1 u_2 H locs hw hP hD hS => ?_)
  subst hw
  have hP : va_P D vwCl [(mo, .inr (3, [.ref an, .ref ae, .ref al, .ref ap, .int ln, .int (kk 0), .int (kk 1), .int (kk 2), .int (kk 3), .int (if ¬ a_badKey key then 0 else 1)])), (an, .inl (cy, 366, .inl t))] H := hP
  have hD : va_D A [(mo, .inr (3, [.ref an, .ref ae, .ref al, .ref ap, .int ln, .int (kk 0), .int (kk 1), .int (kk 2), .int (kk 3), .int (if ¬ a_badKey key then 0 else 1)])), (an, .inl (cy, 366, .inl t))] := hD
  refine lv_if_eq (tgt := 22) hx hb dX3_whereIs_8 (by decide) (fun c_3 => ?_) (fun c_3 => ?_)
  · skip
    have c_3 : ¬ (¬ a_badKey key) := ki_b0.mp c_3
    refine lv_iconst (v := 0) hx hb dX3_whereIs_22 (by decide) ?_
    exact ki_iret hx hb hr hlk hK hS () ((if_neg c_3).symm) hP hD dX3_whereIs_23
  · skip
    have c_3 : ¬ a_badKey key := ki_b1.mp c_3
    refine lv_aload_n hx hb dX3_whereIs_11 rfl (lv_at hl 0 rfl) ?_
    refine va_get (D := D) (ci := 3) (v := .ref an) (C := RX3) (T := TX3) (N := 10) hx hb hts hiX3 hown hK hP 0 rfl rfl 0 (by decide) (hts (.fieldLink RX3 7 "AdaptiveReplacementCacheModel" "now" "[I") (by decide +kernel)) (fun _ h9 => h9) rfl dX3_whereIs_12 ?_
    refine lv_iload_n hx hb dX3_whereIs_15 rfl (lv_at hl 1 rfl) ?_
    refine ki_cSR (As := [.ref an, .int key]) (rest := []) ⟨hx, hb, hml, hown, hts⟩ (c_X3_listOf l D cy an t st hm hpw key) (va_cwS 2 hts gX3_whereIs_X3_listOf rfl rfl rfl (by decide +kernel) ⟨Nat.le_of_ble_eq_true rfl, Nat.le_of_ble_eq_true rfl⟩) hK hE hP [0] rfl [1] rfl rfl hl.1 rfl (Nat.le_of_ble_eq_true rfl) dX3_whereIs_16 ⟨Nat.le_of_ble_eq_true rfl, Nat.le_of_ble_eq_true rfl⟩ ?_
    refine lv_goto (tgt := 23) hx hb dX3_whereIs_19 (by decide) ?_
    exact ki_iret hx hb hr hlk hK hS () ((if_pos c_3).symm) hP hD dX3_whereIs_23
set_option maxHeartbeats 4000000 in
set_option maxRecDepth 100000 in
theorem c_X3_remove (l : Launch) (D : va_G) (cy : ClassId) (mo an ae al ap : Nat) (ln th : Int32) (kk : Nat → Int32) (t : Nat → Int32) (st : ki_St) (hm : m_rep t st) (hpw : p_W st) (key : Int32) : ki_I l yX3_remove wsX3_remove ({ frames := 3, cells := 0, slots := 0, locals := 68 }) 0 0 D [(cy, .int)] [.ref mo, .int key] [(mo, .inr (3, [.ref an, .ref ae, .ref al, .ref ap, .int ln, .int (kk 0), .int (kk 1), .int (kk 2), .int (kk 3), .int th])), (an, .inl (cy, 366, .inl t))] (S := Nat → Int32) (fun r t1 => r = (if ¬ a_badKey key then c_list st key else 0) ∧ m_rep t1 (if ¬ a_badKey key then c_forget st key else st)) (fun t1 => [(mo, .inr (3, [.ref an, .ref ae, .ref al, .ref ap, .int ln, .int (kk 0), .int (kk 1), .int (kk 2), .int (kk 3), .int (if ¬ a_badKey key then 0 else 1)])), (an, .inl (cy, 366, .inl t1))]) := by
  refine ki_ofI (cc := cX3_remove) (maxL := 3) (ret := (some .int)) (by decide +kernel) rfl (Nat.le_of_ble_eq_true rfl) ?_
  intro p e s m args below meth c A ls hx hb hr hts hown hlk hml hK hE hP hD hA hS hl
  have hown : s.vm.findClass RX3 = some m.cls := hown
  have hl : lv_has ls 3 [(0, .ref mo), (1, .int key)] := hl
  have hiX3 : ∀ w ∈ u_ws RX3 TX3 10, w ∈ wsX3_remove := by decide +kernel
  refine lv_aload_n hx hb dX3_remove_0 rfl (lv_at hl 0 rfl) ?_
  refine lv_iload_n hx hb dX3_remove_1 rfl (lv_at hl 1 rfl) ?_
  refine ki_cSR (As := [.int key]) (rest := [.ref mo]) ⟨hx, hb, hml, hown, hts⟩ (c_X3_isKey l D key) (va_cwS 1 hts gX3_remove_X3_isKey rfl rfl rfl (by decide +kernel) ⟨Nat.le_of_ble_eq_true rfl, Nat.le_of_ble_eq_true rfl⟩) hK hE hP [] rfl [] rfl rfl hl.1 rfl (Nat.le_of_ble_eq_true rfl) dX3_remove_2 ⟨Nat.le_of_ble_eq_true rfl, Nat.le_of_ble_eq_true rfl⟩ ?_
  refine ki_cVI (As := [.int (if ¬ a_badKey key then 1 else 0)]) (rest := []) (wr := [(an, .inl (cy, 366, .inl t))]) ⟨hx, hb, hml, hown, hts⟩ (c_X3_asked l D mo an ae al ap ln th kk (¬ a_badKey key)) (cwV 1 hts gX3_remove_X3_asked rfl rfl rfl (by decide +kernel) ⟨Nat.le_of_ble_eq_true rfl, Nat.le_of_ble_eq_true rfl⟩) hK hE hP hD hS hA [] rfl [0] [1] rfl rfl rfl rfl (by decide) 3 0 rfl rfl rfl rfl hl.1 rfl (Nat.le_of_ble_eq_true rfl) dX3_remove_5 ⟨Nat.le_of_ble_eq_true rfl, Nat.le_of_ble_eq_true rfl⟩ [1, 0] (fun u_2 => [(mo, .inr (3, [.ref an, .ref ae, .ref al, .ref ap, .int ln, .int (kk 0), .int (kk 1), .int (kk 2), .int (kk 3), .int (if ¬ a_badKey key then 0 else 1)])), (an, .inl (cy, 366, .inl t))]) (fun _ => rfl) rfl (fun r_1 u_2 H locs hw hP hD hS => ?_)
  subst hw
  have hP : va_P D vwCl [(mo, .inr (3, [.ref an, .ref ae, .ref al, .ref ap, .int ln, .int (kk 0), .int (kk 1), .int (kk 2), .int (kk 3), .int (if ¬ a_badKey key then 0 else 1)])), (an, .inl (cy, 366, .inl t))] H := hP
  have hD : va_D A [(mo, .inr (3, [.ref an, .ref ae, .ref al, .ref ap, .int ln, .int (kk 0), .int (kk 1), .int (kk 2), .int (kk 3), .int (if ¬ a_badKey key then 0 else 1)])), (an, .inl (cy, 366, .inl t))] := hD
  refine lv_if_ne (tgt := 13) hx hb dX3_remove_8 (by decide) (fun c_3 => ?_) (fun c_3 => ?_)
  · skip
    have c_3 : ¬ a_badKey key := ki_b1.mp c_3
    refine lv_aload_n hx hb dX3_remove_13 rfl (lv_at hl 0 rfl) ?_
    refine va_get (D := D) (ci := 3) (v := .ref an) (C := RX3) (T := TX3) (N := 10) hx hb hts hiX3 hown hK hP 0 rfl rfl 0 (by decide) (hts (.fieldLink RX3 7 "AdaptiveReplacementCacheModel" "now" "[I") (by decide +kernel)) (fun _ h9 => h9) rfl dX3_remove_14 ?_
    refine lv_iload_n hx hb dX3_remove_17 rfl (lv_at hl 1 rfl) ?_
    refine ki_cSR (As := [.ref an, .int key]) (rest := []) ⟨hx, hb, hml, hown, hts⟩ (c_X3_listOf l D cy an t st hm hpw key) (va_cwS 2 hts gX3_remove_X3_listOf rfl rfl rfl (by decide +kernel) ⟨Nat.le_of_ble_eq_true rfl, Nat.le_of_ble_eq_true rfl⟩) hK hE hP [0] rfl [1] rfl rfl hl.1 rfl (Nat.le_of_ble_eq_true rfl) dX3_remove_18 ⟨Nat.le_of_ble_eq_true rfl, Nat.le_of_ble_eq_true rfl⟩ ?_
    rcases p_list (st := st) key with ⟨hl0, hc9⟩ | ⟨i, h1, h4, hli, hmemX⟩
    · skip
      refine lv_topi (fun y9 ey9 => ?_)
      rw [hl0] at ey9
      subst ey9
      refine lv_istore_n (lv' := [(2, .int 0), (0, .ref mo), (1, .int key)]) hx hb dX3_remove_21 rfl hl (by decide) rfl (fun ls hl => ?_)
      refine lv_iload_n hx hb dX3_remove_22 rfl (lv_at hl 0 rfl) ?_
      refine lv_if_le (tgt := 44) hx hb dX3_remove_23 (by decide) (fun c_4 => ?_) (fun c_4 => ?_)
      rotate_left
      · exact absurd (by decide) c_4
      · skip
        refine lv_iload_n hx hb dX3_remove_44 rfl (lv_at hl 0 rfl) ?_
        have e9 : c_forget st key = st := by unfold c_forget; rw [hl0]; rfl
        have e8 : c_list st key = 0 := hl0
        exact ki_iret hx hb hr hlk hK hS t ⟨by rw [if_pos c_3, e8], by rw [if_pos c_3, e9]; exact hm⟩ hP hD dX3_remove_45
    · rcases (show i = 1 ∨ i = 2 ∨ i = 3 ∨ i = 4 by omega) with rfl | rfl | rfl | rfl
      · skip
        refine lv_topi (fun y9 ey9 => ?_)
        rw [hli] at ey9
        subst ey9
        refine lv_istore_n (lv' := [(2, .int 1), (0, .ref mo), (1, .int key)]) hx hb dX3_remove_21 rfl hl (by decide) rfl (fun ls hl => ?_)
        refine lv_iload_n hx hb dX3_remove_22 rfl (lv_at hl 0 rfl) ?_
        refine lv_if_le (tgt := 44) hx hb dX3_remove_23 (by decide) (fun c_5 => ?_) (fun c_5 => ?_)
        · exact absurd c_5 (by decide)
        · skip
          refine lv_aload_n hx hb dX3_remove_26 rfl (lv_at hl 1 rfl) ?_
          refine va_get (D := D) (ci := 3) (v := .ref an) (C := RX3) (T := TX3) (N := 10) hx hb hts hiX3 hown hK hP 0 rfl rfl 0 (by decide) (hts (.fieldLink RX3 7 "AdaptiveReplacementCacheModel" "now" "[I") (by decide +kernel)) (fun _ h9 => h9) rfl dX3_remove_27 ?_
          refine lv_iload_n hx hb dX3_remove_30 rfl (lv_at hl 0 rfl) ?_
          refine lv_aload_n hx hb dX3_remove_31 rfl (lv_at hl 1 rfl) ?_
          refine va_get (D := D) (ci := 3) (v := .ref an) (C := RX3) (T := TX3) (N := 10) hx hb hts hiX3 hown hK hP 0 rfl rfl 0 (by decide) (hts (.fieldLink RX3 7 "AdaptiveReplacementCacheModel" "now" "[I") (by decide +kernel)) (fun _ h9 => h9) rfl dX3_remove_32 ?_
          refine lv_iload_n hx hb dX3_remove_35 rfl (lv_at hl 0 rfl) ?_
          refine lv_iload_n hx hb dX3_remove_36 rfl (lv_at hl 2 rfl) ?_
          refine ki_cSR (As := [.ref an, .int 1, .int key]) (rest := [.int 1, .ref an]) ⟨hx, hb, hml, hown, hts⟩ (c_X3_placeIn l D cy an t st hm 1 (by omega) (by omega) (p_nodup hpw (by decide) (by decide)) key) (va_cwS 3 hts gX3_remove_X3_placeIn rfl rfl rfl (by decide +kernel) ⟨Nat.le_of_ble_eq_true rfl, Nat.le_of_ble_eq_true rfl⟩) hK hE hP [0] rfl [1] rfl rfl hl.1 rfl (Nat.le_of_ble_eq_true rfl) dX3_remove_37 ⟨Nat.le_of_ble_eq_true rfl, Nat.le_of_ble_eq_true rfl⟩ ?_
          obtain ⟨p9, hp9, ep9, -⟩ := m_idx_p hmemX
          rw [ep9]
          refine ki_cSI (As := [.ref an, .int 1, .int (nI p9)]) (rest := []) (wr := [(mo, .inr (3, [.ref an, .ref ae, .ref al, .ref ap, .int ln, .int (kk 0), .int (kk 1), .int (kk 2), .int (kk 3), .int (if ¬ a_badKey key then 0 else 1)]))]) ⟨hx, hb, hml, hown, hts⟩ (c_X3_leaves l D cy an t st hm 1 (by omega) (by omega) p9 hp9) (va_cwS 3 hts gX3_remove_X3_leaves rfl rfl rfl (by decide +kernel) ⟨Nat.le_of_ble_eq_true rfl, Nat.le_of_ble_eq_true rfl⟩) hK hE hP hD hS hA [0] rfl [1] [0] rfl rfl rfl rfl (by decide) rfl hl.1 rfl (Nat.le_of_ble_eq_true rfl) dX3_remove_40 ⟨Nat.le_of_ble_eq_true rfl, Nat.le_of_ble_eq_true rfl⟩ [0, 1] (fun t_6 => [(mo, .inr (3, [.ref an, .ref ae, .ref al, .ref ap, .int ln, .int (kk 0), .int (kk 1), .int (kk 2), .int (kk 3), .int (if ¬ a_badKey key then 0 else 1)])), (an, .inl (cy, 366, .inl t_6))]) (fun _ => rfl) rfl (fun r_9 t_6 H locs hw hP hD hS => ?_)
          have hw9 := hw
          obtain ⟨er_9, hw9⟩ := hw9
          subst er_9
          have hw9 : m_rep t_6 (va_up st.1 1 (k_gap (st.1 1) (nI p9)), st.2) := hw9
          obtain ⟨st_8, est_8⟩ : ∃ z : ki_St, z = (va_up st.1 1 (k_gap (st.1 1) (nI p9)), st.2) := ⟨_, rfl⟩
          rw [← est_8] at hw9
          have hm_7 := hw9
          have hP : va_P D vwCl [(mo, .inr (3, [.ref an, .ref ae, .ref al, .ref ap, .int ln, .int (kk 0), .int (kk 1), .int (kk 2), .int (kk 3), .int (if ¬ a_badKey key then 0 else 1)])), (an, .inl (cy, 366, .inl t_6))] H := hP
          have hD : va_D A [(mo, .inr (3, [.ref an, .ref ae, .ref al, .ref ap, .int ln, .int (kk 0), .int (kk 1), .int (kk 2), .int (kk 3), .int (if ¬ a_badKey key then 0 else 1)])), (an, .inl (cy, 366, .inl t_6))] := hD
          refine lv_pop hx hb dX3_remove_43 rfl ?_
          refine lv_iload_n hx hb dX3_remove_44 rfl (lv_at hl 0 rfl) ?_
          have e9 : c_forget st key = st_8 := by unfold c_forget; rw [hli, est_8, ← ep9]; exact (p_from (w := nI 1) hpw (by decide) (by decide) rfl hmemX).1
          have e8 : c_list st key = 1 := hli
          exact ki_iret hx hb hr hlk hK hS t_6 ⟨by rw [if_pos c_3, e8], by rw [if_pos c_3, e9]; exact hm_7⟩ hP hD dX3_remove_45
      · skip
        refine lv_topi (fun y9 ey9 => ?_)
        rw [hli] at ey9
        subst ey9
        refine lv_istore_n (lv' := [(2, .int 2), (0, .ref mo), (1, .int key)]) hx hb dX3_remove_21 rfl hl (by decide) rfl (fun ls hl => ?_)
        refine lv_iload_n hx hb dX3_remove_22 rfl (lv_at hl 0 rfl) ?_
        refine lv_if_le (tgt := 44) hx hb dX3_remove_23 (by decide) (fun c_10 => ?_) (fun c_10 => ?_)
        · exact absurd c_10 (by decide)
        · skip
          refine lv_aload_n hx hb dX3_remove_26 rfl (lv_at hl 1 rfl) ?_
          refine va_get (D := D) (ci := 3) (v := .ref an) (C := RX3) (T := TX3) (N := 10) hx hb hts hiX3 hown hK hP 0 rfl rfl 0 (by decide) (hts (.fieldLink RX3 7 "AdaptiveReplacementCacheModel" "now" "[I") (by decide +kernel)) (fun _ h9 => h9) rfl dX3_remove_27 ?_
          refine lv_iload_n hx hb dX3_remove_30 rfl (lv_at hl 0 rfl) ?_
          refine lv_aload_n hx hb dX3_remove_31 rfl (lv_at hl 1 rfl) ?_
          refine va_get (D := D) (ci := 3) (v := .ref an) (C := RX3) (T := TX3) (N := 10) hx hb hts hiX3 hown hK hP 0 rfl rfl 0 (by decide) (hts (.fieldLink RX3 7 "AdaptiveReplacementCacheModel" "now" "[I") (by decide +kernel)) (fun _ h9 => h9) rfl dX3_remove_32 ?_
          refine lv_iload_n hx hb dX3_remove_35 rfl (lv_at hl 0 rfl) ?_
          refine lv_iload_n hx hb dX3_remove_36 rfl (lv_at hl 2 rfl) ?_
          refine ki_cSR (As := [.ref an, .int 2, .int key]) (rest := [.int 2, .ref an]) ⟨hx, hb, hml, hown, hts⟩ (c_X3_placeIn l D cy an t st hm 2 (by omega) (by omega) (p_nodup hpw (by decide) (by decide)) key) (va_cwS 3 hts gX3_remove_X3_placeIn rfl rfl rfl (by decide +kernel) ⟨Nat.le_of_ble_eq_true rfl, Nat.le_of_ble_eq_true rfl⟩) hK hE hP [0] rfl [1] rfl rfl hl.1 rfl (Nat.le_of_ble_eq_true rfl) dX3_remove_37 ⟨Nat.le_of_ble_eq_true rfl, Nat.le_of_ble_eq_true rfl⟩ ?_
          obtain ⟨p9, hp9, ep9, -⟩ := m_idx_p hmemX
          rw [ep9]
          refine ki_cSI (As := [.ref an, .int 2, .int (nI p9)]) (rest := []) (wr := [(mo, .inr (3, [.ref an, .ref ae, .ref al, .ref ap, .int ln, .int (kk 0), .int (kk 1), .int (kk 2), .int (kk 3), .int (if ¬ a_badKey key then 0 else 1)]))]) ⟨hx, hb, hml, hown, hts⟩ (c_X3_leaves l D cy an t st hm 2 (by omega) (by omega) p9 hp9) (va_cwS 3 hts gX3_remove_X3_leaves rfl rfl rfl (by decide +kernel) ⟨Nat.le_of_ble_eq_true rfl, Nat.le_of_ble_eq_true rfl⟩) hK hE hP hD hS hA [0] rfl [1] [0] rfl rfl rfl rfl (by decide) rfl hl.1 rfl (Nat.le_of_ble_eq_true rfl) dX3_remove_40 ⟨Nat.le_of_ble_eq_true rfl, Nat.le_of_ble_eq_true rfl⟩ [0, 1] (fun t_11 => [(mo, .inr (3, [.ref an, .ref ae, .ref al, .ref ap, .int ln, .int (kk 0), .int (kk 1), .int (kk 2), .int (kk 3), .int (if ¬ a_badKey key then 0 else 1)])), (an, .inl (cy, 366, .inl t_11))]) (fun _ => rfl) rfl (fun r_14 t_11 H locs hw hP hD hS => ?_)
          have hw9 := hw
          obtain ⟨er_14, hw9⟩ := hw9
          subst er_14
          have hw9 : m_rep t_11 (va_up st.1 2 (k_gap (st.1 2) (nI p9)), st.2) := hw9
          obtain ⟨st_13, est_13⟩ : ∃ z : ki_St, z = (va_up st.1 2 (k_gap (st.1 2) (nI p9)), st.2) := ⟨_, rfl⟩
          rw [← est_13] at hw9
          have hm_12 := hw9
          have hP : va_P D vwCl [(mo, .inr (3, [.ref an, .ref ae, .ref al, .ref ap, .int ln, .int (kk 0), .int (kk 1), .int (kk 2), .int (kk 3), .int (if ¬ a_badKey key then 0 else 1)])), (an, .inl (cy, 366, .inl t_11))] H := hP
          have hD : va_D A [(mo, .inr (3, [.ref an, .ref ae, .ref al, .ref ap, .int ln, .int (kk 0), .int (kk 1), .int (kk 2), .int (kk 3), .int (if ¬ a_badKey key then 0 else 1)])), (an, .inl (cy, 366, .inl t_11))] := hD
          refine lv_pop hx hb dX3_remove_43 rfl ?_
          refine lv_iload_n hx hb dX3_remove_44 rfl (lv_at hl 0 rfl) ?_
          have e9 : c_forget st key = st_13 := by unfold c_forget; rw [hli, est_13, ← ep9]; exact (p_from (w := nI 2) hpw (by decide) (by decide) rfl hmemX).1
          have e8 : c_list st key = 2 := hli
          exact ki_iret hx hb hr hlk hK hS t_11 ⟨by rw [if_pos c_3, e8], by rw [if_pos c_3, e9]; exact hm_12⟩ hP hD dX3_remove_45
      · skip
        refine lv_topi (fun y9 ey9 => ?_)
        rw [hli] at ey9
        subst ey9
        refine lv_istore_n (lv' := [(2, .int 3), (0, .ref mo), (1, .int key)]) hx hb dX3_remove_21 rfl hl (by decide) rfl (fun ls hl => ?_)
        refine lv_iload_n hx hb dX3_remove_22 rfl (lv_at hl 0 rfl) ?_
        refine lv_if_le (tgt := 44) hx hb dX3_remove_23 (by decide) (fun c_15 => ?_) (fun c_15 => ?_)
        · exact absurd c_15 (by decide)
        · skip
          refine lv_aload_n hx hb dX3_remove_26 rfl (lv_at hl 1 rfl) ?_
          refine va_get (D := D) (ci := 3) (v := .ref an) (C := RX3) (T := TX3) (N := 10) hx hb hts hiX3 hown hK hP 0 rfl rfl 0 (by decide) (hts (.fieldLink RX3 7 "AdaptiveReplacementCacheModel" "now" "[I") (by decide +kernel)) (fun _ h9 => h9) rfl dX3_remove_27 ?_
          refine lv_iload_n hx hb dX3_remove_30 rfl (lv_at hl 0 rfl) ?_
          refine lv_aload_n hx hb dX3_remove_31 rfl (lv_at hl 1 rfl) ?_
          refine va_get (D := D) (ci := 3) (v := .ref an) (C := RX3) (T := TX3) (N := 10) hx hb hts hiX3 hown hK hP 0 rfl rfl 0 (by decide) (hts (.fieldLink RX3 7 "AdaptiveReplacementCacheModel" "now" "[I") (by decide +kernel)) (fun _ h9 => h9) rfl dX3_remove_32 ?_
          refine lv_iload_n hx hb dX3_remove_35 rfl (lv_at hl 0 rfl) ?_
          refine lv_iload_n hx hb dX3_remove_36 rfl (lv_at hl 2 rfl) ?_
          refine ki_cSR (As := [.ref an, .int 3, .int key]) (rest := [.int 3, .ref an]) ⟨hx, hb, hml, hown, hts⟩ (c_X3_placeIn l D cy an t st hm 3 (by omega) (by omega) (p_nodup hpw (by decide) (by decide)) key) (va_cwS 3 hts gX3_remove_X3_placeIn rfl rfl rfl (by decide +kernel) ⟨Nat.le_of_ble_eq_true rfl, Nat.le_of_ble_eq_true rfl⟩) hK hE hP [0] rfl [1] rfl rfl hl.1 rfl (Nat.le_of_ble_eq_true rfl) dX3_remove_37 ⟨Nat.le_of_ble_eq_true rfl, Nat.le_of_ble_eq_true rfl⟩ ?_
          obtain ⟨p9, hp9, ep9, -⟩ := m_idx_p hmemX
          rw [ep9]
          refine ki_cSI (As := [.ref an, .int 3, .int (nI p9)]) (rest := []) (wr := [(mo, .inr (3, [.ref an, .ref ae, .ref al, .ref ap, .int ln, .int (kk 0), .int (kk 1), .int (kk 2), .int (kk 3), .int (if ¬ a_badKey key then 0 else 1)]))]) ⟨hx, hb, hml, hown, hts⟩ (c_X3_leaves l D cy an t st hm 3 (by omega) (by omega) p9 hp9) (va_cwS 3 hts gX3_remove_X3_leaves rfl rfl rfl (by decide +kernel) ⟨Nat.le_of_ble_eq_true rfl, Nat.le_of_ble_eq_true rfl⟩) hK hE hP hD hS hA [0] rfl [1] [0] rfl rfl rfl rfl (by decide) rfl hl.1 rfl (Nat.le_of_ble_eq_true rfl) dX3_remove_40 ⟨Nat.le_of_ble_eq_true rfl, Nat.le_of_ble_eq_true rfl⟩ [0, 1] (fun t_16 => [(mo, .inr (3, [.ref an, .ref ae, .ref al, .ref ap, .int ln, .int (kk 0), .int (kk 1), .int (kk 2), .int (kk 3), .int (if ¬ a_badKey key then 0 else 1)])), (an, .inl (cy, 366, .inl t_16))]) (fun _ => rfl) rfl (fun r_19 t_16 H locs hw hP hD hS => ?_)
          have hw9 := hw
          obtain ⟨er_19, hw9⟩ := hw9
          subst er_19
          have hw9 : m_rep t_16 (va_up st.1 3 (k_gap (st.1 3) (nI p9)), st.2) := hw9
          obtain ⟨st_18, est_18⟩ : ∃ z : ki_St, z = (va_up st.1 3 (k_gap (st.1 3) (nI p9)), st.2) := ⟨_, rfl⟩
          rw [← est_18] at hw9
          have hm_17 := hw9
          have hP : va_P D vwCl [(mo, .inr (3, [.ref an, .ref ae, .ref al, .ref ap, .int ln, .int (kk 0), .int (kk 1), .int (kk 2), .int (kk 3), .int (if ¬ a_badKey key then 0 else 1)])), (an, .inl (cy, 366, .inl t_16))] H := hP
          have hD : va_D A [(mo, .inr (3, [.ref an, .ref ae, .ref al, .ref ap, .int ln, .int (kk 0), .int (kk 1), .int (kk 2), .int (kk 3), .int (if ¬ a_badKey key then 0 else 1)])), (an, .inl (cy, 366, .inl t_16))] := hD
          refine lv_pop hx hb dX3_remove_43 rfl ?_
          refine lv_iload_n hx hb dX3_remove_44 rfl (lv_at hl 0 rfl) ?_
          have e9 : c_forget st key = st_18 := by unfold c_forget; rw [hli, est_18, ← ep9]; exact (p_from (w := nI 3) hpw (by decide) (by decide) rfl hmemX).1
          have e8 : c_list st key = 3 := hli
          exact ki_iret hx hb hr hlk hK hS t_16 ⟨by rw [if_pos c_3, e8], by rw [if_pos c_3, e9]; exact hm_17⟩ hP hD dX3_remove_45
      · skip
        refine lv_topi (fun y9 ey9 => ?_)
        rw [hli] at ey9
        subst ey9
        refine lv_istore_n (lv' := [(2, .int 4), (0, .ref mo), (1, .int key)]) hx hb dX3_remove_21 rfl hl (by decide) rfl (fun ls hl => ?_)
        refine lv_iload_n hx hb dX3_remove_22 rfl (lv_at hl 0 rfl) ?_
        refine lv_if_le (tgt := 44) hx hb dX3_remove_23 (by decide) (fun c_20 => ?_) (fun c_20 => ?_)
        · exact absurd c_20 (by decide)
        · skip
          refine lv_aload_n hx hb dX3_remove_26 rfl (lv_at hl 1 rfl) ?_
          refine va_get (D := D) (ci := 3) (v := .ref an) (C := RX3) (T := TX3) (N := 10) hx hb hts hiX3 hown hK hP 0 rfl rfl 0 (by decide) (hts (.fieldLink RX3 7 "AdaptiveReplacementCacheModel" "now" "[I") (by decide +kernel)) (fun _ h9 => h9) rfl dX3_remove_27 ?_
          refine lv_iload_n hx hb dX3_remove_30 rfl (lv_at hl 0 rfl) ?_
          refine lv_aload_n hx hb dX3_remove_31 rfl (lv_at hl 1 rfl) ?_
          refine va_get (D := D) (ci := 3) (v := .ref an) (C := RX3) (T := TX3) (N := 10) hx hb hts hiX3 hown hK hP 0 rfl rfl 0 (by decide) (hts (.fieldLink RX3 7 "AdaptiveReplacementCacheModel" "now" "[I") (by decide +kernel)) (fun _ h9 => h9) rfl dX3_remove_32 ?_
          refine lv_iload_n hx hb dX3_remove_35 rfl (lv_at hl 0 rfl) ?_
          refine lv_iload_n hx hb dX3_remove_36 rfl (lv_at hl 2 rfl) ?_
          refine ki_cSR (As := [.ref an, .int 4, .int key]) (rest := [.int 4, .ref an]) ⟨hx, hb, hml, hown, hts⟩ (c_X3_placeIn l D cy an t st hm 4 (by omega) (by omega) (p_nodup hpw (by decide) (by decide)) key) (va_cwS 3 hts gX3_remove_X3_placeIn rfl rfl rfl (by decide +kernel) ⟨Nat.le_of_ble_eq_true rfl, Nat.le_of_ble_eq_true rfl⟩) hK hE hP [0] rfl [1] rfl rfl hl.1 rfl (Nat.le_of_ble_eq_true rfl) dX3_remove_37 ⟨Nat.le_of_ble_eq_true rfl, Nat.le_of_ble_eq_true rfl⟩ ?_
          obtain ⟨p9, hp9, ep9, -⟩ := m_idx_p hmemX
          rw [ep9]
          refine ki_cSI (As := [.ref an, .int 4, .int (nI p9)]) (rest := []) (wr := [(mo, .inr (3, [.ref an, .ref ae, .ref al, .ref ap, .int ln, .int (kk 0), .int (kk 1), .int (kk 2), .int (kk 3), .int (if ¬ a_badKey key then 0 else 1)]))]) ⟨hx, hb, hml, hown, hts⟩ (c_X3_leaves l D cy an t st hm 4 (by omega) (by omega) p9 hp9) (va_cwS 3 hts gX3_remove_X3_leaves rfl rfl rfl (by decide +kernel) ⟨Nat.le_of_ble_eq_true rfl, Nat.le_of_ble_eq_true rfl⟩) hK hE hP hD hS hA [0] rfl [1] [0] rfl rfl rfl rfl (by decide) rfl hl.1 rfl (Nat.le_of_ble_eq_true rfl) dX3_remove_40 ⟨Nat.le_of_ble_eq_true rfl, Nat.le_of_ble_eq_true rfl⟩ [0, 1] (fun t_21 => [(mo, .inr (3, [.ref an, .ref ae, .ref al, .ref ap, .int ln, .int (kk 0), .int (kk 1), .int (kk 2), .int (kk 3), .int (if ¬ a_badKey key then 0 else 1)])), (an, .inl (cy, 366, .inl t_21))]) (fun _ => rfl) rfl (fun r_24 t_21 H locs hw hP hD hS => ?_)
          have hw9 := hw
          obtain ⟨er_24, hw9⟩ := hw9
          subst er_24
          have hw9 : m_rep t_21 (va_up st.1 4 (k_gap (st.1 4) (nI p9)), st.2) := hw9
          obtain ⟨st_23, est_23⟩ : ∃ z : ki_St, z = (va_up st.1 4 (k_gap (st.1 4) (nI p9)), st.2) := ⟨_, rfl⟩
          rw [← est_23] at hw9
          have hm_22 := hw9
          have hP : va_P D vwCl [(mo, .inr (3, [.ref an, .ref ae, .ref al, .ref ap, .int ln, .int (kk 0), .int (kk 1), .int (kk 2), .int (kk 3), .int (if ¬ a_badKey key then 0 else 1)])), (an, .inl (cy, 366, .inl t_21))] H := hP
          have hD : va_D A [(mo, .inr (3, [.ref an, .ref ae, .ref al, .ref ap, .int ln, .int (kk 0), .int (kk 1), .int (kk 2), .int (kk 3), .int (if ¬ a_badKey key then 0 else 1)])), (an, .inl (cy, 366, .inl t_21))] := hD
          refine lv_pop hx hb dX3_remove_43 rfl ?_
          refine lv_iload_n hx hb dX3_remove_44 rfl (lv_at hl 0 rfl) ?_
          have e9 : c_forget st key = st_23 := by unfold c_forget; rw [hli, est_23, ← ep9]; exact (p_from (w := nI 4) hpw (by decide) (by decide) rfl hmemX).1
          have e8 : c_list st key = 4 := hli
          exact ki_iret hx hb hr hlk hK hS t_21 ⟨by rw [if_pos c_3, e8], by rw [if_pos c_3, e9]; exact hm_22⟩ hP hD dX3_remove_45
  · skip
    have c_3 : ¬ (¬ a_badKey key) := ki_b0.mp c_3
    refine lv_iconst (v := 0) hx hb dX3_remove_11 (by decide) ?_
    have hn9 := c_3
    exact ki_iret hx hb hr hlk hK hS t ⟨(if_neg hn9).symm, by rw [if_neg hn9]; exact hm⟩ hP hD dX3_remove_12
set_option maxHeartbeats 4000000 in
set_option maxRecDepth 100000 in
theorem c_X3_setScanLength (l : Launch) (D : va_G) (cy : ClassId) (mo an ae al ap : Nat) (ln th : Int32) (kk : Nat → Int32) (t : Nat → Int32) (st : ki_St) (hm : m_rep t st) (z : Int32) : ki_I l yX3_setScanLength wsX3_setScanLength ({ frames := 1, cells := 0, slots := 0, locals := 21 }) 0 0 D [(cy, .int)] [.ref mo, .int z] [(mo, .inr (3, [.ref an, .ref ae, .ref al, .ref ap, .int ln, .int (kk 0), .int (kk 1), .int (kk 2), .int (kk 3), .int th])), (an, .inl (cy, 366, .inl t))] (S := Nat → Int32) (fun r t1 => r = (if ¬ a_badScan z then st.2 7 else 0) ∧ m_rep t1 (if ¬ a_badScan z then (st.1, va_up st.2 7 z) else st)) (fun t1 => [(mo, .inr (3, [.ref an, .ref ae, .ref al, .ref ap, .int ln, .int (kk 0), .int (kk 1), .int (kk 2), .int (kk 3), .int (if ¬ a_badScan z then 0 else 1)])), (an, .inl (cy, 366, .inl t1))]) := by
  refine ki_ofI (cc := cX3_setScanLength) (maxL := 3) (ret := (some .int)) (by decide +kernel) rfl (Nat.le_of_ble_eq_true rfl) ?_
  intro p e s m args below meth c A ls hx hb hr hts hown hlk hml hK hE hP hD hA hS hl
  have hown : s.vm.findClass RX3 = some m.cls := hown
  have hl : lv_has ls 3 [(0, .ref mo), (1, .int z)] := hl
  have hiX3 : ∀ w ∈ u_ws RX3 TX3 10, w ∈ wsX3_setScanLength := by decide +kernel
  refine lv_aload_n hx hb dX3_setScanLength_0 rfl (lv_at hl 0 rfl) ?_
  refine lv_iload_n hx hb dX3_setScanLength_1 rfl (lv_at hl 1 rfl) ?_
  refine lv_if_eq (tgt := 16) hx hb dX3_setScanLength_2 (by decide) (fun c_1 => ?_) (fun c_1 => ?_)
  · skip
    refine lv_iconst (v := 1) hx hb dX3_setScanLength_16 (by decide) ?_
    refine lv_goto (tgt := 21) hx hb dX3_setScanLength_17 (by decide) ?_
    refine lv_topi (fun y_2 ey_2 => ?_)
    have ey_2 : y_2 = if ¬ a_badScan z then 1 else 0 := ey_2.trans ((if_pos (fun q9 => q9.1 c_1)).symm)
    subst ey_2
    refine ki_cVI (As := [.int (if ¬ a_badScan z then 1 else 0)]) (rest := []) (wr := [(an, .inl (cy, 366, .inl t))]) ⟨hx, hb, hml, hown, hts⟩ (c_X3_asked l D mo an ae al ap ln th kk (¬ a_badScan z)) (cwV 1 hts gX3_setScanLength_X3_asked rfl rfl rfl (by decide +kernel) ⟨Nat.le_of_ble_eq_true rfl, Nat.le_of_ble_eq_true rfl⟩) hK hE hP hD hS hA [] rfl [0] [1] rfl rfl rfl rfl (by decide) 3 0 rfl rfl rfl rfl hl.1 rfl (Nat.le_of_ble_eq_true rfl) dX3_setScanLength_21 ⟨Nat.le_of_ble_eq_true rfl, Nat.le_of_ble_eq_true rfl⟩ [1, 0] (fun u_4 => [(mo, .inr (3, [.ref an, .ref ae, .ref al, .ref ap, .int ln, .int (kk 0), .int (kk 1), .int (kk 2), .int (kk 3), .int (if ¬ a_badScan z then 0 else 1)])), (an, .inl (cy, 366, .inl t))]) (fun _ => rfl) rfl (fun r_3 u_4 H locs hw hP hD hS => ?_)
    subst hw
    have hP : va_P D vwCl [(mo, .inr (3, [.ref an, .ref ae, .ref al, .ref ap, .int ln, .int (kk 0), .int (kk 1), .int (kk 2), .int (kk 3), .int (if ¬ a_badScan z then 0 else 1)])), (an, .inl (cy, 366, .inl t))] H := hP
    have hD : va_D A [(mo, .inr (3, [.ref an, .ref ae, .ref al, .ref ap, .int ln, .int (kk 0), .int (kk 1), .int (kk 2), .int (kk 3), .int (if ¬ a_badScan z then 0 else 1)])), (an, .inl (cy, 366, .inl t))] := hD
    refine lv_if_ne (tgt := 29) hx hb dX3_setScanLength_24 (by decide) (fun c_5 => ?_) (fun c_5 => ?_)
    · skip
      have c_5 : ¬ a_badScan z := ki_b1.mp c_5
      refine lv_aload_n hx hb dX3_setScanLength_29 rfl (lv_at hl 0 rfl) ?_
      refine va_get (D := D) (ci := 3) (v := .ref an) (C := RX3) (T := TX3) (N := 10) hx hb hts hiX3 hown hK hP 0 rfl rfl 0 (by decide) (hts (.fieldLink RX3 7 "AdaptiveReplacementCacheModel" "now" "[I") (by decide +kernel)) (fun _ h9 => h9) rfl dX3_setScanLength_30 ?_
      refine lv_bipush (v := 7) hx hb dX3_setScanLength_33 (by decide) ?_
      refine va_iald hx hb hK hP 1 0 rfl rfl (vp_in_nI (n := 7) (by decide) (by decide)) dX3_setScanLength_35 ?_
      refine lv_topi (fun y_6 ey_6 => ?_)
      have ey_6 : y_6 = st.2 7 := ey_6.trans (hm.2 7 (by decide) (by decide))
      subst ey_6
      refine lv_istore_n (lv' := [(2, .int (st.2 7)), (0, .ref mo), (1, .int z)]) hx hb dX3_setScanLength_36 rfl hl (by decide) rfl (fun ls hl => ?_)
      refine lv_aload_n hx hb dX3_setScanLength_37 rfl (lv_at hl 1 rfl) ?_
      refine va_get (D := D) (ci := 3) (v := .ref an) (C := RX3) (T := TX3) (N := 10) hx hb hts hiX3 hown hK hP 0 rfl rfl 0 (by decide) (hts (.fieldLink RX3 7 "AdaptiveReplacementCacheModel" "now" "[I") (by decide +kernel)) (fun _ h9 => h9) rfl dX3_setScanLength_38 ?_
      refine lv_bipush (v := 7) hx hb dX3_setScanLength_41 (by decide) ?_
      refine lv_iload_n hx hb dX3_setScanLength_43 rfl (lv_at hl 2 rfl) ?_
      refine va_iast hx hb hK hP hD hS 1 0 rfl rfl (vp_in_nI (n := 7) (by decide) (by decide)) dX3_setScanLength_44 (fun H locs hP hD hS => ?_)
      obtain ⟨t_7, et_7⟩ : ∃ zz9 : Nat → Int32, zz9 = upd t (Int32.toNatClampNeg 7) z := ⟨_, rfl⟩
      rw [← et_7] at hP hD
      have hm_8 : m_rep t_7 (st.1, va_up st.2 7 z) := by rw [et_7]; exact m_z (i := 7) hm (by decide) (by decide)
      have hP : va_P D vwCl [(mo, .inr (3, [.ref an, .ref ae, .ref al, .ref ap, .int ln, .int (kk 0), .int (kk 1), .int (kk 2), .int (kk 3), .int (if ¬ a_badScan z then 0 else 1)])), (an, .inl (cy, 366, .inl t_7))] H := hP
      have hD : va_D A [(mo, .inr (3, [.ref an, .ref ae, .ref al, .ref ap, .int ln, .int (kk 0), .int (kk 1), .int (kk 2), .int (kk 3), .int (if ¬ a_badScan z then 0 else 1)])), (an, .inl (cy, 366, .inl t_7))] := hD
      refine lv_iload_n hx hb dX3_setScanLength_45 rfl (lv_at hl 0 rfl) ?_
      exact ki_iret hx hb hr hlk hK hS t_7 ⟨(if_pos c_5).symm, by rw [if_pos c_5]; exact hm_8⟩ hP hD dX3_setScanLength_46
    · skip
      have c_5 : ¬ (¬ a_badScan z) := ki_b0.mp c_5
      refine lv_iconst (v := 0) hx hb dX3_setScanLength_27 (by decide) ?_
      exact ki_iret hx hb hr hlk hK hS t ⟨(if_neg c_5).symm, by rw [if_neg c_5]; exact hm⟩ hP hD dX3_setScanLength_28
  · skip
    refine lv_iload_n hx hb dX3_setScanLength_5 rfl (lv_at hl 1 rfl) ?_
    refine lv_iconst (v := 2) hx hb dX3_setScanLength_6 (by decide) ?_
    refine lv_icmp_lt (tgt := 20) hx hb dX3_setScanLength_7 (by decide) (fun c_9 => ?_) (fun c_9 => ?_)
    · skip
      refine lv_iconst (v := 0) hx hb dX3_setScanLength_20 (by decide) ?_
      refine lv_topi (fun y_10 ey_10 => ?_)
      have ey_10 : y_10 = if ¬ a_badScan z then 1 else 0 := ey_10.trans ((if_neg (fun q9 => q9 ⟨c_1, Or.inl c_9⟩)).symm)
      subst ey_10
      refine ki_cVI (As := [.int (if ¬ a_badScan z then 1 else 0)]) (rest := []) (wr := [(an, .inl (cy, 366, .inl t))]) ⟨hx, hb, hml, hown, hts⟩ (c_X3_asked l D mo an ae al ap ln th kk (¬ a_badScan z)) (cwV 1 hts gX3_setScanLength_X3_asked rfl rfl rfl (by decide +kernel) ⟨Nat.le_of_ble_eq_true rfl, Nat.le_of_ble_eq_true rfl⟩) hK hE hP hD hS hA [] rfl [0] [1] rfl rfl rfl rfl (by decide) 3 0 rfl rfl rfl rfl hl.1 rfl (Nat.le_of_ble_eq_true rfl) dX3_setScanLength_21 ⟨Nat.le_of_ble_eq_true rfl, Nat.le_of_ble_eq_true rfl⟩ [1, 0] (fun u_12 => [(mo, .inr (3, [.ref an, .ref ae, .ref al, .ref ap, .int ln, .int (kk 0), .int (kk 1), .int (kk 2), .int (kk 3), .int (if ¬ a_badScan z then 0 else 1)])), (an, .inl (cy, 366, .inl t))]) (fun _ => rfl) rfl (fun r_11 u_12 H locs hw hP hD hS => ?_)
      subst hw
      have hP : va_P D vwCl [(mo, .inr (3, [.ref an, .ref ae, .ref al, .ref ap, .int ln, .int (kk 0), .int (kk 1), .int (kk 2), .int (kk 3), .int (if ¬ a_badScan z then 0 else 1)])), (an, .inl (cy, 366, .inl t))] H := hP
      have hD : va_D A [(mo, .inr (3, [.ref an, .ref ae, .ref al, .ref ap, .int ln, .int (kk 0), .int (kk 1), .int (kk 2), .int (kk 3), .int (if ¬ a_badScan z then 0 else 1)])), (an, .inl (cy, 366, .inl t))] := hD
      refine lv_if_ne (tgt := 29) hx hb dX3_setScanLength_24 (by decide) (fun c_13 => ?_) (fun c_13 => ?_)
      · skip
        have c_13 : ¬ a_badScan z := ki_b1.mp c_13
        refine lv_aload_n hx hb dX3_setScanLength_29 rfl (lv_at hl 0 rfl) ?_
        refine va_get (D := D) (ci := 3) (v := .ref an) (C := RX3) (T := TX3) (N := 10) hx hb hts hiX3 hown hK hP 0 rfl rfl 0 (by decide) (hts (.fieldLink RX3 7 "AdaptiveReplacementCacheModel" "now" "[I") (by decide +kernel)) (fun _ h9 => h9) rfl dX3_setScanLength_30 ?_
        refine lv_bipush (v := 7) hx hb dX3_setScanLength_33 (by decide) ?_
        refine va_iald hx hb hK hP 1 0 rfl rfl (vp_in_nI (n := 7) (by decide) (by decide)) dX3_setScanLength_35 ?_
        refine lv_topi (fun y_14 ey_14 => ?_)
        have ey_14 : y_14 = st.2 7 := ey_14.trans (hm.2 7 (by decide) (by decide))
        subst ey_14
        refine lv_istore_n (lv' := [(2, .int (st.2 7)), (0, .ref mo), (1, .int z)]) hx hb dX3_setScanLength_36 rfl hl (by decide) rfl (fun ls hl => ?_)
        refine lv_aload_n hx hb dX3_setScanLength_37 rfl (lv_at hl 1 rfl) ?_
        refine va_get (D := D) (ci := 3) (v := .ref an) (C := RX3) (T := TX3) (N := 10) hx hb hts hiX3 hown hK hP 0 rfl rfl 0 (by decide) (hts (.fieldLink RX3 7 "AdaptiveReplacementCacheModel" "now" "[I") (by decide +kernel)) (fun _ h9 => h9) rfl dX3_setScanLength_38 ?_
        refine lv_bipush (v := 7) hx hb dX3_setScanLength_41 (by decide) ?_
        refine lv_iload_n hx hb dX3_setScanLength_43 rfl (lv_at hl 2 rfl) ?_
        refine va_iast hx hb hK hP hD hS 1 0 rfl rfl (vp_in_nI (n := 7) (by decide) (by decide)) dX3_setScanLength_44 (fun H locs hP hD hS => ?_)
        obtain ⟨t_15, et_15⟩ : ∃ zz9 : Nat → Int32, zz9 = upd t (Int32.toNatClampNeg 7) z := ⟨_, rfl⟩
        rw [← et_15] at hP hD
        have hm_16 : m_rep t_15 (st.1, va_up st.2 7 z) := by rw [et_15]; exact m_z (i := 7) hm (by decide) (by decide)
        have hP : va_P D vwCl [(mo, .inr (3, [.ref an, .ref ae, .ref al, .ref ap, .int ln, .int (kk 0), .int (kk 1), .int (kk 2), .int (kk 3), .int (if ¬ a_badScan z then 0 else 1)])), (an, .inl (cy, 366, .inl t_15))] H := hP
        have hD : va_D A [(mo, .inr (3, [.ref an, .ref ae, .ref al, .ref ap, .int ln, .int (kk 0), .int (kk 1), .int (kk 2), .int (kk 3), .int (if ¬ a_badScan z then 0 else 1)])), (an, .inl (cy, 366, .inl t_15))] := hD
        refine lv_iload_n hx hb dX3_setScanLength_45 rfl (lv_at hl 0 rfl) ?_
        exact ki_iret hx hb hr hlk hK hS t_15 ⟨(if_pos c_13).symm, by rw [if_pos c_13]; exact hm_16⟩ hP hD dX3_setScanLength_46
      · skip
        have c_13 : ¬ (¬ a_badScan z) := ki_b0.mp c_13
        refine lv_iconst (v := 0) hx hb dX3_setScanLength_27 (by decide) ?_
        exact ki_iret hx hb hr hlk hK hS t ⟨(if_neg c_13).symm, by rw [if_neg c_13]; exact hm⟩ hP hD dX3_setScanLength_28
    · skip
      refine lv_iload_n hx hb dX3_setScanLength_10 rfl (lv_at hl 1 rfl) ?_
      refine lv_bipush (v := 20) hx hb dX3_setScanLength_11 (by decide) ?_
      refine lv_icmp_gt (tgt := 20) hx hb dX3_setScanLength_13 (by decide) (fun c_17 => ?_) (fun c_17 => ?_)
      · skip
        refine lv_iconst (v := 0) hx hb dX3_setScanLength_20 (by decide) ?_
        refine lv_topi (fun y_18 ey_18 => ?_)
        have ey_18 : y_18 = if ¬ a_badScan z then 1 else 0 := ey_18.trans ((if_neg (fun q9 => q9 ⟨c_1, Or.inr (Int32.not_le.mpr c_17)⟩)).symm)
        subst ey_18
        refine ki_cVI (As := [.int (if ¬ a_badScan z then 1 else 0)]) (rest := []) (wr := [(an, .inl (cy, 366, .inl t))]) ⟨hx, hb, hml, hown, hts⟩ (c_X3_asked l D mo an ae al ap ln th kk (¬ a_badScan z)) (cwV 1 hts gX3_setScanLength_X3_asked rfl rfl rfl (by decide +kernel) ⟨Nat.le_of_ble_eq_true rfl, Nat.le_of_ble_eq_true rfl⟩) hK hE hP hD hS hA [] rfl [0] [1] rfl rfl rfl rfl (by decide) 3 0 rfl rfl rfl rfl hl.1 rfl (Nat.le_of_ble_eq_true rfl) dX3_setScanLength_21 ⟨Nat.le_of_ble_eq_true rfl, Nat.le_of_ble_eq_true rfl⟩ [1, 0] (fun u_20 => [(mo, .inr (3, [.ref an, .ref ae, .ref al, .ref ap, .int ln, .int (kk 0), .int (kk 1), .int (kk 2), .int (kk 3), .int (if ¬ a_badScan z then 0 else 1)])), (an, .inl (cy, 366, .inl t))]) (fun _ => rfl) rfl (fun r_19 u_20 H locs hw hP hD hS => ?_)
        subst hw
        have hP : va_P D vwCl [(mo, .inr (3, [.ref an, .ref ae, .ref al, .ref ap, .int ln, .int (kk 0), .int (kk 1), .int (kk 2), .int (kk 3), .int (if ¬ a_badScan z then 0 else 1)])), (an, .inl (cy, 366, .inl t))] H := hP
        have hD : va_D A [(mo, .inr (3, [.ref an, .ref ae, .ref al, .ref ap, .int ln, .int (kk 0), .int (kk 1), .int (kk 2), .int (kk 3), .int (if ¬ a_badScan z then 0 else 1)])), (an, .inl (cy, 366, .inl t))] := hD
        refine lv_if_ne (tgt := 29) hx hb dX3_setScanLength_24 (by decide) (fun c_21 => ?_) (fun c_21 => ?_)
        · skip
          have c_21 : ¬ a_badScan z := ki_b1.mp c_21
          refine lv_aload_n hx hb dX3_setScanLength_29 rfl (lv_at hl 0 rfl) ?_
          refine va_get (D := D) (ci := 3) (v := .ref an) (C := RX3) (T := TX3) (N := 10) hx hb hts hiX3 hown hK hP 0 rfl rfl 0 (by decide) (hts (.fieldLink RX3 7 "AdaptiveReplacementCacheModel" "now" "[I") (by decide +kernel)) (fun _ h9 => h9) rfl dX3_setScanLength_30 ?_
          refine lv_bipush (v := 7) hx hb dX3_setScanLength_33 (by decide) ?_
          refine va_iald hx hb hK hP 1 0 rfl rfl (vp_in_nI (n := 7) (by decide) (by decide)) dX3_setScanLength_35 ?_
          refine lv_topi (fun y_22 ey_22 => ?_)
          have ey_22 : y_22 = st.2 7 := ey_22.trans (hm.2 7 (by decide) (by decide))
          subst ey_22
          refine lv_istore_n (lv' := [(2, .int (st.2 7)), (0, .ref mo), (1, .int z)]) hx hb dX3_setScanLength_36 rfl hl (by decide) rfl (fun ls hl => ?_)
          refine lv_aload_n hx hb dX3_setScanLength_37 rfl (lv_at hl 1 rfl) ?_
          refine va_get (D := D) (ci := 3) (v := .ref an) (C := RX3) (T := TX3) (N := 10) hx hb hts hiX3 hown hK hP 0 rfl rfl 0 (by decide) (hts (.fieldLink RX3 7 "AdaptiveReplacementCacheModel" "now" "[I") (by decide +kernel)) (fun _ h9 => h9) rfl dX3_setScanLength_38 ?_
          refine lv_bipush (v := 7) hx hb dX3_setScanLength_41 (by decide) ?_
          refine lv_iload_n hx hb dX3_setScanLength_43 rfl (lv_at hl 2 rfl) ?_
          refine va_iast hx hb hK hP hD hS 1 0 rfl rfl (vp_in_nI (n := 7) (by decide) (by decide)) dX3_setScanLength_44 (fun H locs hP hD hS => ?_)
          obtain ⟨t_23, et_23⟩ : ∃ zz9 : Nat → Int32, zz9 = upd t (Int32.toNatClampNeg 7) z := ⟨_, rfl⟩
          rw [← et_23] at hP hD
          have hm_24 : m_rep t_23 (st.1, va_up st.2 7 z) := by rw [et_23]; exact m_z (i := 7) hm (by decide) (by decide)
          have hP : va_P D vwCl [(mo, .inr (3, [.ref an, .ref ae, .ref al, .ref ap, .int ln, .int (kk 0), .int (kk 1), .int (kk 2), .int (kk 3), .int (if ¬ a_badScan z then 0 else 1)])), (an, .inl (cy, 366, .inl t_23))] H := hP
          have hD : va_D A [(mo, .inr (3, [.ref an, .ref ae, .ref al, .ref ap, .int ln, .int (kk 0), .int (kk 1), .int (kk 2), .int (kk 3), .int (if ¬ a_badScan z then 0 else 1)])), (an, .inl (cy, 366, .inl t_23))] := hD
          refine lv_iload_n hx hb dX3_setScanLength_45 rfl (lv_at hl 0 rfl) ?_
          exact ki_iret hx hb hr hlk hK hS t_23 ⟨(if_pos c_21).symm, by rw [if_pos c_21]; exact hm_24⟩ hP hD dX3_setScanLength_46
        · skip
          have c_21 : ¬ (¬ a_badScan z) := ki_b0.mp c_21
          refine lv_iconst (v := 0) hx hb dX3_setScanLength_27 (by decide) ?_
          exact ki_iret hx hb hr hlk hK hS t ⟨(if_neg c_21).symm, by rw [if_neg c_21]; exact hm⟩ hP hD dX3_setScanLength_28
      · skip
        refine lv_iconst (v := 1) hx hb dX3_setScanLength_16 (by decide) ?_
        refine lv_goto (tgt := 21) hx hb dX3_setScanLength_17 (by decide) ?_
        refine lv_topi (fun y_25 ey_25 => ?_)
        have ey_25 : y_25 = if ¬ a_badScan z then 1 else 0 := ey_25.trans ((if_pos (fun q9 => q9.2.elim c_9 (fun z9 => c_17 (Int32.not_le.mp z9)))).symm)
        subst ey_25
        refine ki_cVI (As := [.int (if ¬ a_badScan z then 1 else 0)]) (rest := []) (wr := [(an, .inl (cy, 366, .inl t))]) ⟨hx, hb, hml, hown, hts⟩ (c_X3_asked l D mo an ae al ap ln th kk (¬ a_badScan z)) (cwV 1 hts gX3_setScanLength_X3_asked rfl rfl rfl (by decide +kernel) ⟨Nat.le_of_ble_eq_true rfl, Nat.le_of_ble_eq_true rfl⟩) hK hE hP hD hS hA [] rfl [0] [1] rfl rfl rfl rfl (by decide) 3 0 rfl rfl rfl rfl hl.1 rfl (Nat.le_of_ble_eq_true rfl) dX3_setScanLength_21 ⟨Nat.le_of_ble_eq_true rfl, Nat.le_of_ble_eq_true rfl⟩ [1, 0] (fun u_27 => [(mo, .inr (3, [.ref an, .ref ae, .ref al, .ref ap, .int ln, .int (kk 0), .int (kk 1), .int (kk 2), .int (kk 3), .int (if ¬ a_badScan z then 0 else 1)])), (an, .inl (cy, 366, .inl t))]) (fun _ => rfl) rfl (fun r_26 u_27 H locs hw hP hD hS => ?_)
        subst hw
        have hP : va_P D vwCl [(mo, .inr (3, [.ref an, .ref ae, .ref al, .ref ap, .int ln, .int (kk 0), .int (kk 1), .int (kk 2), .int (kk 3), .int (if ¬ a_badScan z then 0 else 1)])), (an, .inl (cy, 366, .inl t))] H := hP
        have hD : va_D A [(mo, .inr (3, [.ref an, .ref ae, .ref al, .ref ap, .int ln, .int (kk 0), .int (kk 1), .int (kk 2), .int (kk 3), .int (if ¬ a_badScan z then 0 else 1)])), (an, .inl (cy, 366, .inl t))] := hD
        refine lv_if_ne (tgt := 29) hx hb dX3_setScanLength_24 (by decide) (fun c_28 => ?_) (fun c_28 => ?_)
        · skip
          have c_28 : ¬ a_badScan z := ki_b1.mp c_28
          refine lv_aload_n hx hb dX3_setScanLength_29 rfl (lv_at hl 0 rfl) ?_
          refine va_get (D := D) (ci := 3) (v := .ref an) (C := RX3) (T := TX3) (N := 10) hx hb hts hiX3 hown hK hP 0 rfl rfl 0 (by decide) (hts (.fieldLink RX3 7 "AdaptiveReplacementCacheModel" "now" "[I") (by decide +kernel)) (fun _ h9 => h9) rfl dX3_setScanLength_30 ?_
          refine lv_bipush (v := 7) hx hb dX3_setScanLength_33 (by decide) ?_
          refine va_iald hx hb hK hP 1 0 rfl rfl (vp_in_nI (n := 7) (by decide) (by decide)) dX3_setScanLength_35 ?_
          refine lv_topi (fun y_29 ey_29 => ?_)
          have ey_29 : y_29 = st.2 7 := ey_29.trans (hm.2 7 (by decide) (by decide))
          subst ey_29
          refine lv_istore_n (lv' := [(2, .int (st.2 7)), (0, .ref mo), (1, .int z)]) hx hb dX3_setScanLength_36 rfl hl (by decide) rfl (fun ls hl => ?_)
          refine lv_aload_n hx hb dX3_setScanLength_37 rfl (lv_at hl 1 rfl) ?_
          refine va_get (D := D) (ci := 3) (v := .ref an) (C := RX3) (T := TX3) (N := 10) hx hb hts hiX3 hown hK hP 0 rfl rfl 0 (by decide) (hts (.fieldLink RX3 7 "AdaptiveReplacementCacheModel" "now" "[I") (by decide +kernel)) (fun _ h9 => h9) rfl dX3_setScanLength_38 ?_
          refine lv_bipush (v := 7) hx hb dX3_setScanLength_41 (by decide) ?_
          refine lv_iload_n hx hb dX3_setScanLength_43 rfl (lv_at hl 2 rfl) ?_
          refine va_iast hx hb hK hP hD hS 1 0 rfl rfl (vp_in_nI (n := 7) (by decide) (by decide)) dX3_setScanLength_44 (fun H locs hP hD hS => ?_)
          obtain ⟨t_30, et_30⟩ : ∃ zz9 : Nat → Int32, zz9 = upd t (Int32.toNatClampNeg 7) z := ⟨_, rfl⟩
          rw [← et_30] at hP hD
          have hm_31 : m_rep t_30 (st.1, va_up st.2 7 z) := by rw [et_30]; exact m_z (i := 7) hm (by decide) (by decide)
          have hP : va_P D vwCl [(mo, .inr (3, [.ref an, .ref ae, .ref al, .ref ap, .int ln, .int (kk 0), .int (kk 1), .int (kk 2), .int (kk 3), .int (if ¬ a_badScan z then 0 else 1)])), (an, .inl (cy, 366, .inl t_30))] H := hP
          have hD : va_D A [(mo, .inr (3, [.ref an, .ref ae, .ref al, .ref ap, .int ln, .int (kk 0), .int (kk 1), .int (kk 2), .int (kk 3), .int (if ¬ a_badScan z then 0 else 1)])), (an, .inl (cy, 366, .inl t_30))] := hD
          refine lv_iload_n hx hb dX3_setScanLength_45 rfl (lv_at hl 0 rfl) ?_
          exact ki_iret hx hb hr hlk hK hS t_30 ⟨(if_pos c_28).symm, by rw [if_pos c_28]; exact hm_31⟩ hP hD dX3_setScanLength_46
        · skip
          have c_28 : ¬ (¬ a_badScan z) := ki_b0.mp c_28
          refine lv_iconst (v := 0) hx hb dX3_setScanLength_27 (by decide) ?_
          exact ki_iret hx hb hr hlk hK hS t ⟨(if_neg c_28).symm, by rw [if_neg c_28]; exact hm⟩ hP hD dX3_setScanLength_28
set_option maxHeartbeats 4000000 in
set_option maxRecDepth 100000 in
theorem c_X3_newest (l : Launch) (D : va_G) (cy : ClassId) (mo an ae al ap : Nat) (ln th : Int32) (kk : Nat → Int32) (t : Nat → Int32) (st : ki_St) (hm : m_rep t st) (i : Nat) (h1 : 1 ≤ i) (h4 : i ≤ 4) (place : Int32) : ki_I l yX3_newest wsX3_newest ({ frames := 1, cells := 0, slots := 0, locals := 21 }) 0 0 D [(cy, .int)] [.ref mo, .int (nI i), .int place] [(mo, .inr (3, [.ref an, .ref ae, .ref al, .ref ap, .int ln, .int (kk 0), .int (kk 1), .int (kk 2), .int (kk 3), .int th])), (an, .inl (cy, 366, .inl t))] (S := Unit) (fun r _ => r = if ¬ a_badPlace (st.1 i) place then k_at (st.1 i) (nI (st.1 i).length - 1 - place) else 0) (fun _u => [(mo, .inr (3, [.ref an, .ref ae, .ref al, .ref ap, .int ln, .int (kk 0), .int (kk 1), .int (kk 2), .int (kk 3), .int (if ¬ a_badPlace (st.1 i) place then 0 else 1)])), (an, .inl (cy, 366, .inl t))]) := by
  refine ki_ofI (cc := cX3_newest) (maxL := 3) (ret := (some .int)) (by decide +kernel) rfl (Nat.le_of_ble_eq_true rfl) ?_
  intro p e s m args below meth c A ls hx hb hr hts hown hlk hml hK hE hP hD hA hS hl
  have hown : s.vm.findClass RX3 = some m.cls := hown
  have hl : lv_has ls 3 [(0, .ref mo), (1, .int (nI i)), (2, .int place)] := hl
  have hiX3 : ∀ w ∈ u_ws RX3 TX3 10, w ∈ wsX3_newest := by decide +kernel
  refine lv_aload_n hx hb dX3_newest_0 rfl (lv_at hl 0 rfl) ?_
  refine lv_iload_n hx hb dX3_newest_1 rfl (lv_at hl 2 rfl) ?_
  refine lv_if_lt (tgt := 19) hx hb dX3_newest_2 (by decide) (fun c_1 => ?_) (fun c_1 => ?_)
  · skip
    refine lv_iconst (v := 0) hx hb dX3_newest_19 (by decide) ?_
    refine lv_topi (fun y_2 ey_2 => ?_)
    have ey_2 : y_2 = if ¬ a_badPlace (st.1 i) place then 1 else 0 := ey_2.trans ((if_neg (fun q9 => q9 (Or.inl c_1))).symm)
    subst ey_2
    refine ki_cVI (As := [.int (if ¬ a_badPlace (st.1 i) place then 1 else 0)]) (rest := []) (wr := [(an, .inl (cy, 366, .inl t))]) ⟨hx, hb, hml, hown, hts⟩ (c_X3_asked l D mo an ae al ap ln th kk (¬ a_badPlace (st.1 i) place)) (cwV 1 hts gX3_newest_X3_asked rfl rfl rfl (by decide +kernel) ⟨Nat.le_of_ble_eq_true rfl, Nat.le_of_ble_eq_true rfl⟩) hK hE hP hD hS hA [] rfl [0] [1] rfl rfl rfl rfl (by decide) 3 0 rfl rfl rfl rfl hl.1 rfl (Nat.le_of_ble_eq_true rfl) dX3_newest_20 ⟨Nat.le_of_ble_eq_true rfl, Nat.le_of_ble_eq_true rfl⟩ [1, 0] (fun u_4 => [(mo, .inr (3, [.ref an, .ref ae, .ref al, .ref ap, .int ln, .int (kk 0), .int (kk 1), .int (kk 2), .int (kk 3), .int (if ¬ a_badPlace (st.1 i) place then 0 else 1)])), (an, .inl (cy, 366, .inl t))]) (fun _ => rfl) rfl (fun r_3 u_4 H locs hw hP hD hS => ?_)
    subst hw
    have hP : va_P D vwCl [(mo, .inr (3, [.ref an, .ref ae, .ref al, .ref ap, .int ln, .int (kk 0), .int (kk 1), .int (kk 2), .int (kk 3), .int (if ¬ a_badPlace (st.1 i) place then 0 else 1)])), (an, .inl (cy, 366, .inl t))] H := hP
    have hD : va_D A [(mo, .inr (3, [.ref an, .ref ae, .ref al, .ref ap, .int ln, .int (kk 0), .int (kk 1), .int (kk 2), .int (kk 3), .int (if ¬ a_badPlace (st.1 i) place then 0 else 1)])), (an, .inl (cy, 366, .inl t))] := hD
    refine lv_if_eq (tgt := 48) hx hb dX3_newest_23 (by decide) (fun c_5 => ?_) (fun c_5 => ?_)
    · skip
      have c_5 : ¬ (¬ a_badPlace (st.1 i) place) := ki_b0.mp c_5
      refine lv_iconst (v := 0) hx hb dX3_newest_48 (by decide) ?_
      exact ki_iret hx hb hr hlk hK hS () ((if_neg c_5).symm) hP hD dX3_newest_49
    · skip
      have c_5 : ¬ a_badPlace (st.1 i) place := ki_b1.mp c_5
      have hLb := m_64 hm h1 h4
      obtain ⟨p, hp, hp31, ep⟩ := ki_ix (n := (st.1 i).length) (fun q9 => c_5 (Or.inl q9)) (fun q9 => c_5 (Or.inr (Int32.not_lt.mpr q9)))
      refine lv_aload_n hx hb dX3_newest_26 rfl (lv_at hl 0 rfl) ?_
      refine va_get (D := D) (ci := 3) (v := .ref an) (C := RX3) (T := TX3) (N := 10) hx hb hts hiX3 hown hK hP 0 rfl rfl 0 (by decide) (hts (.fieldLink RX3 7 "AdaptiveReplacementCacheModel" "now" "[I") (by decide +kernel)) (fun _ h9 => h9) rfl dX3_newest_27 ?_
      refine lv_iload_n hx hb dX3_newest_30 rfl (lv_at hl 1 rfl) ?_
      refine lv_aload_n hx hb dX3_newest_31 rfl (lv_at hl 0 rfl) ?_
      refine va_get (D := D) (ci := 3) (v := .ref an) (C := RX3) (T := TX3) (N := 10) hx hb hts hiX3 hown hK hP 0 rfl rfl 0 (by decide) (hts (.fieldLink RX3 7 "AdaptiveReplacementCacheModel" "now" "[I") (by decide +kernel)) (fun _ h9 => h9) rfl dX3_newest_32 ?_
      refine lv_iload_n hx hb dX3_newest_35 rfl (lv_at hl 1 rfl) ?_
      refine va_iald hx hb hK hP 1 0 rfl rfl (vp_in_nI (by omega) (by decide)) dX3_newest_36 ?_
      refine lv_topi (fun y_6 ey_6 => ?_)
      have ey_6 : y_6 = nI (st.1 i).length := ey_6.trans (by rw [nI_clamp (by omega)]; exact m_l hm h1 h4)
      subst ey_6
      refine lv_iconst (v := 1) hx hb dX3_newest_37 (by decide) ?_
      refine lv_isub hx hb dX3_newest_38 ?_
      refine lv_topi (fun y_7 ey_7 => ?_)
      have ey_7 : y_7 = nI ((st.1 i).length - 1) := ey_7.trans (pk_sub (b := 1) (by omega))
      subst ey_7
      refine lv_iload_n hx hb dX3_newest_39 rfl (lv_at hl 2 rfl) ?_
      refine lv_isub hx hb dX3_newest_40 ?_
      refine lv_topi (fun y_8 ey_8 => ?_)
      have ey_8 : y_8 = nI ((st.1 i).length - 1 - p) := ey_8.trans (by rw [ep]; exact pk_sub (by omega))
      subst ey_8
      refine ki_cSR (As := [.int (nI i), .int (nI ((st.1 i).length - 1 - p))]) (rest := [.ref an]) ⟨hx, hb, hml, hown, hts⟩ (c_X3_at l D (nI i) (nI ((st.1 i).length - 1 - p))) (va_cwS 2 hts gX3_newest_X3_at rfl rfl rfl (by decide +kernel) ⟨Nat.le_of_ble_eq_true rfl, Nat.le_of_ble_eq_true rfl⟩) hK hE hP [] rfl [] rfl rfl hl.1 rfl (Nat.le_of_ble_eq_true rfl) dX3_newest_41 ⟨Nat.le_of_ble_eq_true rfl, Nat.le_of_ble_eq_true rfl⟩ ?_
      rw [show (16 + 70 * (nI i) + (nI ((st.1 i).length - 1 - p)) : Int32) = nI (16 + 70 * i + ((st.1 i).length - 1 - p)) from m_at i ((st.1 i).length - 1 - p)]
      refine va_iald hx hb hK hP 1 0 rfl rfl (vp_in_nI (by omega) (by decide)) dX3_newest_44 ?_
      refine lv_topi (fun y_9 ey_9 => ?_)
      have ey_9 : y_9 = k_at (st.1 i) (nI ((st.1 i).length - 1 - p)) := ey_9.trans (by rw [nI_clamp (by omega)]; exact (k_at_nI hLb (m_j hm h1 h4 (by omega))).symm)
      subst ey_9
      refine lv_goto (tgt := 49) hx hb dX3_newest_45 (by decide) ?_
      have eP : nI (st.1 i).length - 1 - place = nI ((st.1 i).length - 1 - p) := by rw [ep, show nI (st.1 i).length - 1 = nI ((st.1 i).length - 1) from pk_sub (b := 1) (by omega)]; exact pk_sub (by omega)
      exact ki_iret hx hb hr hlk hK hS () (by rw [if_pos c_5, eP]) hP hD dX3_newest_49
  · skip
    refine lv_iload_n hx hb dX3_newest_5 rfl (lv_at hl 2 rfl) ?_
    refine lv_aload_n hx hb dX3_newest_6 rfl (lv_at hl 0 rfl) ?_
    refine va_get (D := D) (ci := 3) (v := .ref an) (C := RX3) (T := TX3) (N := 10) hx hb hts hiX3 hown hK hP 0 rfl rfl 0 (by decide) (hts (.fieldLink RX3 7 "AdaptiveReplacementCacheModel" "now" "[I") (by decide +kernel)) (fun _ h9 => h9) rfl dX3_newest_7 ?_
    refine lv_iload_n hx hb dX3_newest_10 rfl (lv_at hl 1 rfl) ?_
    refine va_iald hx hb hK hP 1 0 rfl rfl (vp_in_nI (by omega) (by decide)) dX3_newest_11 ?_
    refine lv_topi (fun y_10 ey_10 => ?_)
    have ey_10 : y_10 = nI (st.1 i).length := ey_10.trans (by rw [nI_clamp (by omega)]; exact m_l hm h1 h4)
    subst ey_10
    refine lv_icmp_ge (tgt := 19) hx hb dX3_newest_12 (by decide) (fun c_11 => ?_) (fun c_11 => ?_)
    · skip
      refine lv_iconst (v := 0) hx hb dX3_newest_19 (by decide) ?_
      refine lv_topi (fun y_12 ey_12 => ?_)
      have ey_12 : y_12 = if ¬ a_badPlace (st.1 i) place then 1 else 0 := ey_12.trans ((if_neg (fun q9 => q9 (Or.inr (Int32.not_lt.mpr c_11)))).symm)
      subst ey_12
      refine ki_cVI (As := [.int (if ¬ a_badPlace (st.1 i) place then 1 else 0)]) (rest := []) (wr := [(an, .inl (cy, 366, .inl t))]) ⟨hx, hb, hml, hown, hts⟩ (c_X3_asked l D mo an ae al ap ln th kk (¬ a_badPlace (st.1 i) place)) (cwV 1 hts gX3_newest_X3_asked rfl rfl rfl (by decide +kernel) ⟨Nat.le_of_ble_eq_true rfl, Nat.le_of_ble_eq_true rfl⟩) hK hE hP hD hS hA [] rfl [0] [1] rfl rfl rfl rfl (by decide) 3 0 rfl rfl rfl rfl hl.1 rfl (Nat.le_of_ble_eq_true rfl) dX3_newest_20 ⟨Nat.le_of_ble_eq_true rfl, Nat.le_of_ble_eq_true rfl⟩ [1, 0] (fun u_14 => [(mo, .inr (3, [.ref an, .ref ae, .ref al, .ref ap, .int ln, .int (kk 0), .int (kk 1), .int (kk 2), .int (kk 3), .int (if ¬ a_badPlace (st.1 i) place then 0 else 1)])), (an, .inl (cy, 366, .inl t))]) (fun _ => rfl) rfl (fun r_13 u_14 H locs hw hP hD hS => ?_)
      subst hw
      have hP : va_P D vwCl [(mo, .inr (3, [.ref an, .ref ae, .ref al, .ref ap, .int ln, .int (kk 0), .int (kk 1), .int (kk 2), .int (kk 3), .int (if ¬ a_badPlace (st.1 i) place then 0 else 1)])), (an, .inl (cy, 366, .inl t))] H := hP
      have hD : va_D A [(mo, .inr (3, [.ref an, .ref ae, .ref al, .ref ap, .int ln, .int (kk 0), .int (kk 1), .int (kk 2), .int (kk 3), .int (if ¬ a_badPlace (st.1 i) place then 0 else 1)])), (an, .inl (cy, 366, .inl t))] := hD
      refine lv_if_eq (tgt := 48) hx hb dX3_newest_23 (by decide) (fun c_15 => ?_) (fun c_15 => ?_)
      · skip
        have c_15 : ¬ (¬ a_badPlace (st.1 i) place) := ki_b0.mp c_15
        refine lv_iconst (v := 0) hx hb dX3_newest_48 (by decide) ?_
        exact ki_iret hx hb hr hlk hK hS () ((if_neg c_15).symm) hP hD dX3_newest_49
      · skip
        have c_15 : ¬ a_badPlace (st.1 i) place := ki_b1.mp c_15
        have hLb := m_64 hm h1 h4
        obtain ⟨p, hp, hp31, ep⟩ := ki_ix (n := (st.1 i).length) (fun q9 => c_15 (Or.inl q9)) (fun q9 => c_15 (Or.inr (Int32.not_lt.mpr q9)))
        refine lv_aload_n hx hb dX3_newest_26 rfl (lv_at hl 0 rfl) ?_
        refine va_get (D := D) (ci := 3) (v := .ref an) (C := RX3) (T := TX3) (N := 10) hx hb hts hiX3 hown hK hP 0 rfl rfl 0 (by decide) (hts (.fieldLink RX3 7 "AdaptiveReplacementCacheModel" "now" "[I") (by decide +kernel)) (fun _ h9 => h9) rfl dX3_newest_27 ?_
        refine lv_iload_n hx hb dX3_newest_30 rfl (lv_at hl 1 rfl) ?_
        refine lv_aload_n hx hb dX3_newest_31 rfl (lv_at hl 0 rfl) ?_
        refine va_get (D := D) (ci := 3) (v := .ref an) (C := RX3) (T := TX3) (N := 10) hx hb hts hiX3 hown hK hP 0 rfl rfl 0 (by decide) (hts (.fieldLink RX3 7 "AdaptiveReplacementCacheModel" "now" "[I") (by decide +kernel)) (fun _ h9 => h9) rfl dX3_newest_32 ?_
        refine lv_iload_n hx hb dX3_newest_35 rfl (lv_at hl 1 rfl) ?_
        refine va_iald hx hb hK hP 1 0 rfl rfl (vp_in_nI (by omega) (by decide)) dX3_newest_36 ?_
        refine lv_topi (fun y_16 ey_16 => ?_)
        have ey_16 : y_16 = nI (st.1 i).length := ey_16.trans (by rw [nI_clamp (by omega)]; exact m_l hm h1 h4)
        subst ey_16
        refine lv_iconst (v := 1) hx hb dX3_newest_37 (by decide) ?_
        refine lv_isub hx hb dX3_newest_38 ?_
        refine lv_topi (fun y_17 ey_17 => ?_)
        have ey_17 : y_17 = nI ((st.1 i).length - 1) := ey_17.trans (pk_sub (b := 1) (by omega))
        subst ey_17
        refine lv_iload_n hx hb dX3_newest_39 rfl (lv_at hl 2 rfl) ?_
        refine lv_isub hx hb dX3_newest_40 ?_
        refine lv_topi (fun y_18 ey_18 => ?_)
        have ey_18 : y_18 = nI ((st.1 i).length - 1 - p) := ey_18.trans (by rw [ep]; exact pk_sub (by omega))
        subst ey_18
        refine ki_cSR (As := [.int (nI i), .int (nI ((st.1 i).length - 1 - p))]) (rest := [.ref an]) ⟨hx, hb, hml, hown, hts⟩ (c_X3_at l D (nI i) (nI ((st.1 i).length - 1 - p))) (va_cwS 2 hts gX3_newest_X3_at rfl rfl rfl (by decide +kernel) ⟨Nat.le_of_ble_eq_true rfl, Nat.le_of_ble_eq_true rfl⟩) hK hE hP [] rfl [] rfl rfl hl.1 rfl (Nat.le_of_ble_eq_true rfl) dX3_newest_41 ⟨Nat.le_of_ble_eq_true rfl, Nat.le_of_ble_eq_true rfl⟩ ?_
        rw [show (16 + 70 * (nI i) + (nI ((st.1 i).length - 1 - p)) : Int32) = nI (16 + 70 * i + ((st.1 i).length - 1 - p)) from m_at i ((st.1 i).length - 1 - p)]
        refine va_iald hx hb hK hP 1 0 rfl rfl (vp_in_nI (by omega) (by decide)) dX3_newest_44 ?_
        refine lv_topi (fun y_19 ey_19 => ?_)
        have ey_19 : y_19 = k_at (st.1 i) (nI ((st.1 i).length - 1 - p)) := ey_19.trans (by rw [nI_clamp (by omega)]; exact (k_at_nI hLb (m_j hm h1 h4 (by omega))).symm)
        subst ey_19
        refine lv_goto (tgt := 49) hx hb dX3_newest_45 (by decide) ?_
        have eP : nI (st.1 i).length - 1 - place = nI ((st.1 i).length - 1 - p) := by rw [ep, show nI (st.1 i).length - 1 = nI ((st.1 i).length - 1) from pk_sub (b := 1) (by omega)]; exact pk_sub (by omega)
        exact ki_iret hx hb hr hlk hK hS () (by rw [if_pos c_15, eP]) hP hD dX3_newest_49
    · skip
      refine lv_iconst (v := 1) hx hb dX3_newest_15 (by decide) ?_
      refine lv_goto (tgt := 20) hx hb dX3_newest_16 (by decide) ?_
      refine lv_topi (fun y_20 ey_20 => ?_)
      have ey_20 : y_20 = if ¬ a_badPlace (st.1 i) place then 1 else 0 := ey_20.trans ((if_pos (fun q9 => q9.elim c_1 (fun z9 => z9 (Int32.not_le.mp c_11)))).symm)
      subst ey_20
      refine ki_cVI (As := [.int (if ¬ a_badPlace (st.1 i) place then 1 else 0)]) (rest := []) (wr := [(an, .inl (cy, 366, .inl t))]) ⟨hx, hb, hml, hown, hts⟩ (c_X3_asked l D mo an ae al ap ln th kk (¬ a_badPlace (st.1 i) place)) (cwV 1 hts gX3_newest_X3_asked rfl rfl rfl (by decide +kernel) ⟨Nat.le_of_ble_eq_true rfl, Nat.le_of_ble_eq_true rfl⟩) hK hE hP hD hS hA [] rfl [0] [1] rfl rfl rfl rfl (by decide) 3 0 rfl rfl rfl rfl hl.1 rfl (Nat.le_of_ble_eq_true rfl) dX3_newest_20 ⟨Nat.le_of_ble_eq_true rfl, Nat.le_of_ble_eq_true rfl⟩ [1, 0] (fun u_22 => [(mo, .inr (3, [.ref an, .ref ae, .ref al, .ref ap, .int ln, .int (kk 0), .int (kk 1), .int (kk 2), .int (kk 3), .int (if ¬ a_badPlace (st.1 i) place then 0 else 1)])), (an, .inl (cy, 366, .inl t))]) (fun _ => rfl) rfl (fun r_21 u_22 H locs hw hP hD hS => ?_)
      subst hw
      have hP : va_P D vwCl [(mo, .inr (3, [.ref an, .ref ae, .ref al, .ref ap, .int ln, .int (kk 0), .int (kk 1), .int (kk 2), .int (kk 3), .int (if ¬ a_badPlace (st.1 i) place then 0 else 1)])), (an, .inl (cy, 366, .inl t))] H := hP
      have hD : va_D A [(mo, .inr (3, [.ref an, .ref ae, .ref al, .ref ap, .int ln, .int (kk 0), .int (kk 1), .int (kk 2), .int (kk 3), .int (if ¬ a_badPlace (st.1 i) place then 0 else 1)])), (an, .inl (cy, 366, .inl t))] := hD
      refine lv_if_eq (tgt := 48) hx hb dX3_newest_23 (by decide) (fun c_23 => ?_) (fun c_23 => ?_)
      · skip
        have c_23 : ¬ (¬ a_badPlace (st.1 i) place) := ki_b0.mp c_23
        refine lv_iconst (v := 0) hx hb dX3_newest_48 (by decide) ?_
        exact ki_iret hx hb hr hlk hK hS () ((if_neg c_23).symm) hP hD dX3_newest_49
      · skip
        have c_23 : ¬ a_badPlace (st.1 i) place := ki_b1.mp c_23
        have hLb := m_64 hm h1 h4
        obtain ⟨p, hp, hp31, ep⟩ := ki_ix (n := (st.1 i).length) (fun q9 => c_23 (Or.inl q9)) (fun q9 => c_23 (Or.inr (Int32.not_lt.mpr q9)))
        refine lv_aload_n hx hb dX3_newest_26 rfl (lv_at hl 0 rfl) ?_
        refine va_get (D := D) (ci := 3) (v := .ref an) (C := RX3) (T := TX3) (N := 10) hx hb hts hiX3 hown hK hP 0 rfl rfl 0 (by decide) (hts (.fieldLink RX3 7 "AdaptiveReplacementCacheModel" "now" "[I") (by decide +kernel)) (fun _ h9 => h9) rfl dX3_newest_27 ?_
        refine lv_iload_n hx hb dX3_newest_30 rfl (lv_at hl 1 rfl) ?_
        refine lv_aload_n hx hb dX3_newest_31 rfl (lv_at hl 0 rfl) ?_
        refine va_get (D := D) (ci := 3) (v := .ref an) (C := RX3) (T := TX3) (N := 10) hx hb hts hiX3 hown hK hP 0 rfl rfl 0 (by decide) (hts (.fieldLink RX3 7 "AdaptiveReplacementCacheModel" "now" "[I") (by decide +kernel)) (fun _ h9 => h9) rfl dX3_newest_32 ?_
        refine lv_iload_n hx hb dX3_newest_35 rfl (lv_at hl 1 rfl) ?_
        refine va_iald hx hb hK hP 1 0 rfl rfl (vp_in_nI (by omega) (by decide)) dX3_newest_36 ?_
        refine lv_topi (fun y_24 ey_24 => ?_)
        have ey_24 : y_24 = nI (st.1 i).length := ey_24.trans (by rw [nI_clamp (by omega)]; exact m_l hm h1 h4)
        subst ey_24
        refine lv_iconst (v := 1) hx hb dX3_newest_37 (by decide) ?_
        refine lv_isub hx hb dX3_newest_38 ?_
        refine lv_topi (fun y_25 ey_25 => ?_)
        have ey_25 : y_25 = nI ((st.1 i).length - 1) := ey_25.trans (pk_sub (b := 1) (by omega))
        subst ey_25
        refine lv_iload_n hx hb dX3_newest_39 rfl (lv_at hl 2 rfl) ?_
        refine lv_isub hx hb dX3_newest_40 ?_
        refine lv_topi (fun y_26 ey_26 => ?_)
        have ey_26 : y_26 = nI ((st.1 i).length - 1 - p) := ey_26.trans (by rw [ep]; exact pk_sub (by omega))
        subst ey_26
        refine ki_cSR (As := [.int (nI i), .int (nI ((st.1 i).length - 1 - p))]) (rest := [.ref an]) ⟨hx, hb, hml, hown, hts⟩ (c_X3_at l D (nI i) (nI ((st.1 i).length - 1 - p))) (va_cwS 2 hts gX3_newest_X3_at rfl rfl rfl (by decide +kernel) ⟨Nat.le_of_ble_eq_true rfl, Nat.le_of_ble_eq_true rfl⟩) hK hE hP [] rfl [] rfl rfl hl.1 rfl (Nat.le_of_ble_eq_true rfl) dX3_newest_41 ⟨Nat.le_of_ble_eq_true rfl, Nat.le_of_ble_eq_true rfl⟩ ?_
        rw [show (16 + 70 * (nI i) + (nI ((st.1 i).length - 1 - p)) : Int32) = nI (16 + 70 * i + ((st.1 i).length - 1 - p)) from m_at i ((st.1 i).length - 1 - p)]
        refine va_iald hx hb hK hP 1 0 rfl rfl (vp_in_nI (by omega) (by decide)) dX3_newest_44 ?_
        refine lv_topi (fun y_27 ey_27 => ?_)
        have ey_27 : y_27 = k_at (st.1 i) (nI ((st.1 i).length - 1 - p)) := ey_27.trans (by rw [nI_clamp (by omega)]; exact (k_at_nI hLb (m_j hm h1 h4 (by omega))).symm)
        subst ey_27
        refine lv_goto (tgt := 49) hx hb dX3_newest_45 (by decide) ?_
        have eP : nI (st.1 i).length - 1 - place = nI ((st.1 i).length - 1 - p) := by rw [ep, show nI (st.1 i).length - 1 = nI ((st.1 i).length - 1) from pk_sub (b := 1) (by omega)]; exact pk_sub (by omega)
        exact ki_iret hx hb hr hlk hK hS () (by rw [if_pos c_23, eP]) hP hD dX3_newest_49
set_option maxHeartbeats 4000000 in
set_option maxRecDepth 100000 in
theorem c_X3_recentAt (l : Launch) (D : va_G) (cy : ClassId) (mo an ae al ap : Nat) (ln th : Int32) (kk : Nat → Int32) (t : Nat → Int32) (st : ki_St) (hm : m_rep t st) (place : Int32) : ki_I l yX3_recentAt wsX3_recentAt ({ frames := 2, cells := 0, slots := 0, locals := 43 }) 0 0 D [(cy, .int)] [.ref mo, .int place] [(mo, .inr (3, [.ref an, .ref ae, .ref al, .ref ap, .int ln, .int (kk 0), .int (kk 1), .int (kk 2), .int (kk 3), .int th])), (an, .inl (cy, 366, .inl t))] (S := Unit) (fun r _ => r = if ¬ a_badPlace (st.1 1) place then k_at (st.1 1) (nI (st.1 1).length - 1 - place) else 0) (fun _u => [(mo, .inr (3, [.ref an, .ref ae, .ref al, .ref ap, .int ln, .int (kk 0), .int (kk 1), .int (kk 2), .int (kk 3), .int (if ¬ a_badPlace (st.1 1) place then 0 else 1)])), (an, .inl (cy, 366, .inl t))]) := by
  refine ki_ofI (cc := cX3_recentAt) (maxL := 2) (ret := (some .int)) (by decide +kernel) rfl (Nat.le_of_ble_eq_true rfl) ?_
  intro p e s m args below meth c A ls hx hb hr hts hown hlk hml hK hE hP hD hA hS hl
  have hown : s.vm.findClass RX3 = some m.cls := hown
  have hl : lv_has ls 2 [(0, .ref mo), (1, .int place)] := hl
  refine lv_aload_n hx hb dX3_recentAt_0 rfl (lv_at hl 0 rfl) ?_
  refine lv_iconst (v := 1) hx hb dX3_recentAt_1 (by decide) ?_
  refine lv_iload_n hx hb dX3_recentAt_2 rfl (lv_at hl 1 rfl) ?_
  refine ki_cVI (As := [.int 1, .int place]) (rest := []) (wr := []) ⟨hx, hb, hml, hown, hts⟩ (c_X3_newest l D cy mo an ae al ap ln th kk t st hm 1 (by decide) (by decide) place) (cwV 2 hts gX3_recentAt_X3_newest rfl rfl rfl (by decide +kernel) ⟨Nat.le_of_ble_eq_true rfl, Nat.le_of_ble_eq_true rfl⟩) hK hE hP hD hS hA [0] rfl [0, 1] [] rfl rfl rfl rfl (by decide) 3 0 rfl rfl rfl rfl hl.1 rfl (Nat.le_of_ble_eq_true rfl) dX3_recentAt_3 ⟨Nat.le_of_ble_eq_true rfl, Nat.le_of_ble_eq_true rfl⟩ [0, 1] (fun u_2 => [(mo, .inr (3, [.ref an, .ref ae, .ref al, .ref ap, .int ln, .int (kk 0), .int (kk 1), .int (kk 2), .int (kk 3), .int (if ¬ a_badPlace (st.1 1) place then 0 else 1)])), (an, .inl (cy, 366, .inl t))]) (fun _ => rfl) rfl (fun r_1 u_2 H locs hw hP hD hS => ?_)
  subst hw
  have hP : va_P D vwCl [(mo, .inr (3, [.ref an, .ref ae, .ref al, .ref ap, .int ln, .int (kk 0), .int (kk 1), .int (kk 2), .int (kk 3), .int (if ¬ a_badPlace (st.1 1) place then 0 else 1)])), (an, .inl (cy, 366, .inl t))] H := hP
  have hD : va_D A [(mo, .inr (3, [.ref an, .ref ae, .ref al, .ref ap, .int ln, .int (kk 0), .int (kk 1), .int (kk 2), .int (kk 3), .int (if ¬ a_badPlace (st.1 1) place then 0 else 1)])), (an, .inl (cy, 366, .inl t))] := hD
  exact ki_iret hx hb hr hlk hK hS () rfl hP hD dX3_recentAt_6
set_option maxHeartbeats 4000000 in
set_option maxRecDepth 100000 in
theorem c_X3_frequentAt (l : Launch) (D : va_G) (cy : ClassId) (mo an ae al ap : Nat) (ln th : Int32) (kk : Nat → Int32) (t : Nat → Int32) (st : ki_St) (hm : m_rep t st) (place : Int32) : ki_I l yX3_frequentAt wsX3_frequentAt ({ frames := 2, cells := 0, slots := 0, locals := 43 }) 0 0 D [(cy, .int)] [.ref mo, .int place] [(mo, .inr (3, [.ref an, .ref ae, .ref al, .ref ap, .int ln, .int (kk 0), .int (kk 1), .int (kk 2), .int (kk 3), .int th])), (an, .inl (cy, 366, .inl t))] (S := Unit) (fun r _ => r = if ¬ a_badPlace (st.1 2) place then k_at (st.1 2) (nI (st.1 2).length - 1 - place) else 0) (fun _u => [(mo, .inr (3, [.ref an, .ref ae, .ref al, .ref ap, .int ln, .int (kk 0), .int (kk 1), .int (kk 2), .int (kk 3), .int (if ¬ a_badPlace (st.1 2) place then 0 else 1)])), (an, .inl (cy, 366, .inl t))]) := by
  refine ki_ofI (cc := cX3_frequentAt) (maxL := 2) (ret := (some .int)) (by decide +kernel) rfl (Nat.le_of_ble_eq_true rfl) ?_
  intro p e s m args below meth c A ls hx hb hr hts hown hlk hml hK hE hP hD hA hS hl
  have hown : s.vm.findClass RX3 = some m.cls := hown
  have hl : lv_has ls 2 [(0, .ref mo), (1, .int place)] := hl
  refine lv_aload_n hx hb dX3_frequentAt_0 rfl (lv_at hl 0 rfl) ?_
  refine lv_iconst (v := 2) hx hb dX3_frequentAt_1 (by decide) ?_
  refine lv_iload_n hx hb dX3_frequentAt_2 rfl (lv_at hl 1 rfl) ?_
  refine ki_cVI (As := [.int 2, .int place]) (rest := []) (wr := []) ⟨hx, hb, hml, hown, hts⟩ (c_X3_newest l D cy mo an ae al ap ln th kk t st hm 2 (by decide) (by decide) place) (cwV 2 hts gX3_frequentAt_X3_newest rfl rfl rfl (by decide +kernel) ⟨Nat.le_of_ble_eq_true rfl, Nat.le_of_ble_eq_true rfl⟩) hK hE hP hD hS hA [0] rfl [0, 1] [] rfl rfl rfl rfl (by decide) 3 0 rfl rfl rfl rfl hl.1 rfl (Nat.le_of_ble_eq_true rfl) dX3_frequentAt_3 ⟨Nat.le_of_ble_eq_true rfl, Nat.le_of_ble_eq_true rfl⟩ [0, 1] (fun u_2 => [(mo, .inr (3, [.ref an, .ref ae, .ref al, .ref ap, .int ln, .int (kk 0), .int (kk 1), .int (kk 2), .int (kk 3), .int (if ¬ a_badPlace (st.1 2) place then 0 else 1)])), (an, .inl (cy, 366, .inl t))]) (fun _ => rfl) rfl (fun r_1 u_2 H locs hw hP hD hS => ?_)
  subst hw
  have hP : va_P D vwCl [(mo, .inr (3, [.ref an, .ref ae, .ref al, .ref ap, .int ln, .int (kk 0), .int (kk 1), .int (kk 2), .int (kk 3), .int (if ¬ a_badPlace (st.1 2) place then 0 else 1)])), (an, .inl (cy, 366, .inl t))] H := hP
  have hD : va_D A [(mo, .inr (3, [.ref an, .ref ae, .ref al, .ref ap, .int ln, .int (kk 0), .int (kk 1), .int (kk 2), .int (kk 3), .int (if ¬ a_badPlace (st.1 2) place then 0 else 1)])), (an, .inl (cy, 366, .inl t))] := hD
  exact ki_iret hx hb hr hlk hK hS () rfl hP hD dX3_frequentAt_6
set_option maxHeartbeats 4000000 in
set_option maxRecDepth 100000 in
theorem c_X3_recentGhostAt (l : Launch) (D : va_G) (cy : ClassId) (mo an ae al ap : Nat) (ln th : Int32) (kk : Nat → Int32) (t : Nat → Int32) (st : ki_St) (hm : m_rep t st) (place : Int32) : ki_I l yX3_recentGhostAt wsX3_recentGhostAt ({ frames := 2, cells := 0, slots := 0, locals := 43 }) 0 0 D [(cy, .int)] [.ref mo, .int place] [(mo, .inr (3, [.ref an, .ref ae, .ref al, .ref ap, .int ln, .int (kk 0), .int (kk 1), .int (kk 2), .int (kk 3), .int th])), (an, .inl (cy, 366, .inl t))] (S := Unit) (fun r _ => r = if ¬ a_badPlace (st.1 3) place then k_at (st.1 3) (nI (st.1 3).length - 1 - place) else 0) (fun _u => [(mo, .inr (3, [.ref an, .ref ae, .ref al, .ref ap, .int ln, .int (kk 0), .int (kk 1), .int (kk 2), .int (kk 3), .int (if ¬ a_badPlace (st.1 3) place then 0 else 1)])), (an, .inl (cy, 366, .inl t))]) := by
  refine ki_ofI (cc := cX3_recentGhostAt) (maxL := 2) (ret := (some .int)) (by decide +kernel) rfl (Nat.le_of_ble_eq_true rfl) ?_
  intro p e s m args below meth c A ls hx hb hr hts hown hlk hml hK hE hP hD hA hS hl
  have hown : s.vm.findClass RX3 = some m.cls := hown
  have hl : lv_has ls 2 [(0, .ref mo), (1, .int place)] := hl
  refine lv_aload_n hx hb dX3_recentGhostAt_0 rfl (lv_at hl 0 rfl) ?_
  refine lv_iconst (v := 3) hx hb dX3_recentGhostAt_1 (by decide) ?_
  refine lv_iload_n hx hb dX3_recentGhostAt_2 rfl (lv_at hl 1 rfl) ?_
  refine ki_cVI (As := [.int 3, .int place]) (rest := []) (wr := []) ⟨hx, hb, hml, hown, hts⟩ (c_X3_newest l D cy mo an ae al ap ln th kk t st hm 3 (by decide) (by decide) place) (cwV 2 hts gX3_recentGhostAt_X3_newest rfl rfl rfl (by decide +kernel) ⟨Nat.le_of_ble_eq_true rfl, Nat.le_of_ble_eq_true rfl⟩) hK hE hP hD hS hA [0] rfl [0, 1] [] rfl rfl rfl rfl (by decide) 3 0 rfl rfl rfl rfl hl.1 rfl (Nat.le_of_ble_eq_true rfl) dX3_recentGhostAt_3 ⟨Nat.le_of_ble_eq_true rfl, Nat.le_of_ble_eq_true rfl⟩ [0, 1] (fun u_2 => [(mo, .inr (3, [.ref an, .ref ae, .ref al, .ref ap, .int ln, .int (kk 0), .int (kk 1), .int (kk 2), .int (kk 3), .int (if ¬ a_badPlace (st.1 3) place then 0 else 1)])), (an, .inl (cy, 366, .inl t))]) (fun _ => rfl) rfl (fun r_1 u_2 H locs hw hP hD hS => ?_)
  subst hw
  have hP : va_P D vwCl [(mo, .inr (3, [.ref an, .ref ae, .ref al, .ref ap, .int ln, .int (kk 0), .int (kk 1), .int (kk 2), .int (kk 3), .int (if ¬ a_badPlace (st.1 3) place then 0 else 1)])), (an, .inl (cy, 366, .inl t))] H := hP
  have hD : va_D A [(mo, .inr (3, [.ref an, .ref ae, .ref al, .ref ap, .int ln, .int (kk 0), .int (kk 1), .int (kk 2), .int (kk 3), .int (if ¬ a_badPlace (st.1 3) place then 0 else 1)])), (an, .inl (cy, 366, .inl t))] := hD
  exact ki_iret hx hb hr hlk hK hS () rfl hP hD dX3_recentGhostAt_6
set_option maxHeartbeats 4000000 in
set_option maxRecDepth 100000 in
theorem c_X3_frequentGhostAt (l : Launch) (D : va_G) (cy : ClassId) (mo an ae al ap : Nat) (ln th : Int32) (kk : Nat → Int32) (t : Nat → Int32) (st : ki_St) (hm : m_rep t st) (place : Int32) : ki_I l yX3_frequentGhostAt wsX3_frequentGhostAt ({ frames := 2, cells := 0, slots := 0, locals := 43 }) 0 0 D [(cy, .int)] [.ref mo, .int place] [(mo, .inr (3, [.ref an, .ref ae, .ref al, .ref ap, .int ln, .int (kk 0), .int (kk 1), .int (kk 2), .int (kk 3), .int th])), (an, .inl (cy, 366, .inl t))] (S := Unit) (fun r _ => r = if ¬ a_badPlace (st.1 4) place then k_at (st.1 4) (nI (st.1 4).length - 1 - place) else 0) (fun _u => [(mo, .inr (3, [.ref an, .ref ae, .ref al, .ref ap, .int ln, .int (kk 0), .int (kk 1), .int (kk 2), .int (kk 3), .int (if ¬ a_badPlace (st.1 4) place then 0 else 1)])), (an, .inl (cy, 366, .inl t))]) := by
  refine ki_ofI (cc := cX3_frequentGhostAt) (maxL := 2) (ret := (some .int)) (by decide +kernel) rfl (Nat.le_of_ble_eq_true rfl) ?_
  intro p e s m args below meth c A ls hx hb hr hts hown hlk hml hK hE hP hD hA hS hl
  have hown : s.vm.findClass RX3 = some m.cls := hown
  have hl : lv_has ls 2 [(0, .ref mo), (1, .int place)] := hl
  refine lv_aload_n hx hb dX3_frequentGhostAt_0 rfl (lv_at hl 0 rfl) ?_
  refine lv_iconst (v := 4) hx hb dX3_frequentGhostAt_1 (by decide) ?_
  refine lv_iload_n hx hb dX3_frequentGhostAt_2 rfl (lv_at hl 1 rfl) ?_
  refine ki_cVI (As := [.int 4, .int place]) (rest := []) (wr := []) ⟨hx, hb, hml, hown, hts⟩ (c_X3_newest l D cy mo an ae al ap ln th kk t st hm 4 (by decide) (by decide) place) (cwV 2 hts gX3_frequentGhostAt_X3_newest rfl rfl rfl (by decide +kernel) ⟨Nat.le_of_ble_eq_true rfl, Nat.le_of_ble_eq_true rfl⟩) hK hE hP hD hS hA [0] rfl [0, 1] [] rfl rfl rfl rfl (by decide) 3 0 rfl rfl rfl rfl hl.1 rfl (Nat.le_of_ble_eq_true rfl) dX3_frequentGhostAt_3 ⟨Nat.le_of_ble_eq_true rfl, Nat.le_of_ble_eq_true rfl⟩ [0, 1] (fun u_2 => [(mo, .inr (3, [.ref an, .ref ae, .ref al, .ref ap, .int ln, .int (kk 0), .int (kk 1), .int (kk 2), .int (kk 3), .int (if ¬ a_badPlace (st.1 4) place then 0 else 1)])), (an, .inl (cy, 366, .inl t))]) (fun _ => rfl) rfl (fun r_1 u_2 H locs hw hP hD hS => ?_)
  subst hw
  have hP : va_P D vwCl [(mo, .inr (3, [.ref an, .ref ae, .ref al, .ref ap, .int ln, .int (kk 0), .int (kk 1), .int (kk 2), .int (kk 3), .int (if ¬ a_badPlace (st.1 4) place then 0 else 1)])), (an, .inl (cy, 366, .inl t))] H := hP
  have hD : va_D A [(mo, .inr (3, [.ref an, .ref ae, .ref al, .ref ap, .int ln, .int (kk 0), .int (kk 1), .int (kk 2), .int (kk 3), .int (if ¬ a_badPlace (st.1 4) place then 0 else 1)])), (an, .inl (cy, 366, .inl t))] := hD
  exact ki_iret hx hb hr hlk hK hS () rfl hP hD dX3_frequentGhostAt_6
