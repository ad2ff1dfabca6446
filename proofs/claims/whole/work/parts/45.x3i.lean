/-! ===== the reference, made ===== -/
set_option maxHeartbeats 4000000 in
set_option maxRecDepth 100000 in
theorem c_X3_init (l : Launch) (D : va_G) (cy : ClassId) (mo : Nat) : ki_V l yX3_init wsX3_init ({ frames := 1, cells := 4, slots := 824, locals := 12 }) 4 824 D [(cy, .int)] [.ref mo] [(mo, .inr (3, [.null, .null, .null, .null, .int 0, .int 0, .int 0, .int 0, .int 0, .int 0]))] (S := (Nat → Nat) × (Nat → Int32)) (fun u => m_rep u.2 c_new) (fun u => [(mo, .inr (3, [.ref (u.1 0), .ref (u.1 1), .ref (u.1 2), .ref (u.1 3), .int 0, .int 0, .int 0, .int 0, .int 0, .int 0])), ((u.1 0), .inl (cy, 366, .inl u.2)), ((u.1 1), .inl (cy, 366, .inl (fun _ => 0))), ((u.1 2), .inl (cy, 60, .inl (fun _ => 0))), ((u.1 3), .inl (cy, 32, .inl (fun _ => 0)))]) := by
  refine ki_ofV (cc := cX3_init) (maxL := 1) (ret := none) (by decide +kernel) rfl (Nat.le_of_ble_eq_true rfl) ?_
  intro p e s m args below meth c A ls hin hx hb hr hts hown hlk hml hK hE hP hD hA hS hl
  have hown : s.vm.findClass RX3 = some m.cls := hown
  have hl : lv_has ls 1 [(0, .ref mo)] := hl
  have hiX3 : ∀ w ∈ u_ws RX3 TX3 10, w ∈ wsX3_init := by decide +kernel
  refine lv_aload_n hx hb dX3_init_0 rfl (lv_at hl 0 rfl) ?_
  refine W.objInit hx hb hown (hts (.methodLink RX3 1 objectInit) (by decide +kernel)) (hts (.instanceMethod objectInit) (by decide +kernel)) (hts (.code objectInit ⟨#[0xb1]⟩ 1 none) (by decide +kernel)) rfl (by rw [hml]; exact hl.1) rfl dX3_init_1 (Nat.le_of_ble_eq_true rfl) (Nat.le_of_ble_eq_true rfl) ?_
  refine W.eq (g2 := F0 m 4 ls []) rfl ?_
  refine lv_aload_n hx hb dX3_init_4 rfl (lv_at hl 0 rfl) ?_
  refine lv_sipush (v := 366) hx hb dX3_init_5 (by decide) ?_
  refine ki_newa hx hb (hts (.arrayClass .int) (by decide +kernel)) hK hP hD hS hA (N := 366) (v := 366) (by decide) (by decide) (Nat.le_of_ble_eq_true rfl) (Nat.le_of_ble_eq_true rfl) (Nat.le_of_ble_eq_true rfl) dX3_init_8 (fun q_1 H hP hD hS => ?_)
  have hP : va_P D vwCl [(mo, .inr (3, [.null, .null, .null, .null, .int 0, .int 0, .int 0, .int 0, .int 0, .int 0])), (q_1, .inl (cy, 366, .inl (fun _ => 0)))] H := hP
  have hD : va_D A [(mo, .inr (3, [.null, .null, .null, .null, .int 0, .int 0, .int 0, .int 0, .int 0, .int 0])), (q_1, .inl (cy, 366, .inl (fun _ => 0)))] := hD
  refine W.widen (k := 1) (n := 366) (Nat.le_of_ble_eq_true rfl) (Nat.le_of_ble_eq_true rfl) ?_
  refine va_putF (D := D) (ci := 3) (v := .ref q_1) (ty := .array .int) (C := RX3) (T := TX3) (N := 10) hx hb hts hiX3 tyX3 tyX3_ok nmX3 hown hK hP hD hS 0 rfl rfl 0 (by decide) (hts (.fieldLink RX3 7 "AdaptiveReplacementCacheModel" "now" "[I") (by decide +kernel)) (fun _ h9 => h9) rfl hin rfl (by decide +kernel) rfl rfl (Nat.le_of_ble_eq_true rfl) dX3_init_10 (fun H locs hP hD hS => ?_)
  have hP : va_P D vwCl [(mo, .inr (3, [.ref q_1, .null, .null, .null, .int 0, .int 0, .int 0, .int 0, .int 0, .int 0])), (q_1, .inl (cy, 366, .inl (fun _ => 0)))] H := hP
  have hD : va_D A [(mo, .inr (3, [.ref q_1, .null, .null, .null, .int 0, .int 0, .int 0, .int 0, .int 0, .int 0])), (q_1, .inl (cy, 366, .inl (fun _ => 0)))] := hD
  refine lv_aload_n hx hb dX3_init_13 rfl (lv_at hl 0 rfl) ?_
  refine lv_sipush (v := 366) hx hb dX3_init_14 (by decide) ?_
  refine ki_newa hx hb (hts (.arrayClass .int) (by decide +kernel)) hK hP hD hS hA (N := 366) (v := 366) (by decide) (by decide) (Nat.le_of_ble_eq_true rfl) (Nat.le_of_ble_eq_true rfl) (Nat.le_of_ble_eq_true rfl) dX3_init_17 (fun q_2 H hP hD hS => ?_)
  have hP : va_P D vwCl [(mo, .inr (3, [.ref q_1, .null, .null, .null, .int 0, .int 0, .int 0, .int 0, .int 0, .int 0])), (q_1, .inl (cy, 366, .inl (fun _ => 0))), (q_2, .inl (cy, 366, .inl (fun _ => 0)))] H := hP
  have hD : va_D A [(mo, .inr (3, [.ref q_1, .null, .null, .null, .int 0, .int 0, .int 0, .int 0, .int 0, .int 0])), (q_1, .inl (cy, 366, .inl (fun _ => 0))), (q_2, .inl (cy, 366, .inl (fun _ => 0)))] := hD
  refine W.widen (k := 2) (n := 732) (Nat.le_of_ble_eq_true rfl) (Nat.le_of_ble_eq_true rfl) ?_
  refine va_putF (D := D) (ci := 3) (v := .ref q_2) (ty := .array .int) (C := RX3) (T := TX3) (N := 10) hx hb hts hiX3 tyX3 tyX3_ok nmX3 hown hK hP hD hS 0 rfl rfl 1 (by decide) (hts (.fieldLink RX3 13 "AdaptiveReplacementCacheModel" "then" "[I") (by decide +kernel)) (fun _ h9 => h9) rfl hin rfl (by decide +kernel) rfl rfl (Nat.le_of_ble_eq_true rfl) dX3_init_19 (fun H locs hP hD hS => ?_)
  have hP : va_P D vwCl [(mo, .inr (3, [.ref q_1, .ref q_2, .null, .null, .int 0, .int 0, .int 0, .int 0, .int 0, .int 0])), (q_1, .inl (cy, 366, .inl (fun _ => 0))), (q_2, .inl (cy, 366, .inl (fun _ => 0)))] H := hP
  have hD : va_D A [(mo, .inr (3, [.ref q_1, .ref q_2, .null, .null, .int 0, .int 0, .int 0, .int 0, .int 0, .int 0])), (q_1, .inl (cy, 366, .inl (fun _ => 0))), (q_2, .inl (cy, 366, .inl (fun _ => 0)))] := hD
  refine lv_aload_n hx hb dX3_init_22 rfl (lv_at hl 0 rfl) ?_
  refine lv_bipush (v := 60) hx hb dX3_init_23 (by decide) ?_
  refine ki_newa hx hb (hts (.arrayClass .int) (by decide +kernel)) hK hP hD hS hA (N := 60) (v := 60) (by decide) (by decide) (Nat.le_of_ble_eq_true rfl) (Nat.le_of_ble_eq_true rfl) (Nat.le_of_ble_eq_true rfl) dX3_init_25 (fun q_3 H hP hD hS => ?_)
  have hP : va_P D vwCl [(mo, .inr (3, [.ref q_1, .ref q_2, .null, .null, .int 0, .int 0, .int 0, .int 0, .int 0, .int 0])), (q_1, .inl (cy, 366, .inl (fun _ => 0))), (q_2, .inl (cy, 366, .inl (fun _ => 0))), (q_3, .inl (cy, 60, .inl (fun _ => 0)))] H := hP
  have hD : va_D A [(mo, .inr (3, [.ref q_1, .ref q_2, .null, .null, .int 0, .int 0, .int 0, .int 0, .int 0, .int 0])), (q_1, .inl (cy, 366, .inl (fun _ => 0))), (q_2, .inl (cy, 366, .inl (fun _ => 0))), (q_3, .inl (cy, 60, .inl (fun _ => 0)))] := hD
  refine W.widen (k := 3) (n := 792) (Nat.le_of_ble_eq_true rfl) (Nat.le_of_ble_eq_true rfl) ?_
  refine va_putF (D := D) (ci := 3) (v := .ref q_3) (ty := .array .int) (C := RX3) (T := TX3) (N := 10) hx hb hts hiX3 tyX3 tyX3_ok nmX3 hown hK hP hD hS 0 rfl rfl 2 (by decide) (hts (.fieldLink RX3 16 "AdaptiveReplacementCacheModel" "log" "[I") (by decide +kernel)) (fun _ h9 => h9) rfl hin rfl (by decide +kernel) rfl rfl (Nat.le_of_ble_eq_true rfl) dX3_init_27 (fun H locs hP hD hS => ?_)
  have hP : va_P D vwCl [(mo, .inr (3, [.ref q_1, .ref q_2, .ref q_3, .null, .int 0, .int 0, .int 0, .int 0, .int 0, .int 0])), (q_1, .inl (cy, 366, .inl (fun _ => 0))), (q_2, .inl (cy, 366, .inl (fun _ => 0))), (q_3, .inl (cy, 60, .inl (fun _ => 0)))] H := hP
  have hD : va_D A [(mo, .inr (3, [.ref q_1, .ref q_2, .ref q_3, .null, .int 0, .int 0, .int 0, .int 0, .int 0, .int 0])), (q_1, .inl (cy, 366, .inl (fun _ => 0))), (q_2, .inl (cy, 366, .inl (fun _ => 0))), (q_3, .inl (cy, 60, .inl (fun _ => 0)))] := hD
  refine lv_aload_n hx hb dX3_init_30 rfl (lv_at hl 0 rfl) ?_
  refine lv_bipush (v := 32) hx hb dX3_init_31 (by decide) ?_
  refine ki_newa hx hb (hts (.arrayClass .int) (by decide +kernel)) hK hP hD hS hA (N := 32) (v := 32) (by decide) (by decide) (Nat.le_of_ble_eq_true rfl) (Nat.le_of_ble_eq_true rfl) (Nat.le_of_ble_eq_true rfl) dX3_init_33 (fun q_4 H hP hD hS => ?_)
  have hP : va_P D vwCl [(mo, .inr (3, [.ref q_1, .ref q_2, .ref q_3, .null, .int 0, .int 0, .int 0, .int 0, .int 0, .int 0])), (q_1, .inl (cy, 366, .inl (fun _ => 0))), (q_2, .inl (cy, 366, .inl (fun _ => 0))), (q_3, .inl (cy, 60, .inl (fun _ => 0))), (q_4, .inl (cy, 32, .inl (fun _ => 0)))] H := hP
  have hD : va_D A [(mo, .inr (3, [.ref q_1, .ref q_2, .ref q_3, .null, .int 0, .int 0, .int 0, .int 0, .int 0, .int 0])), (q_1, .inl (cy, 366, .inl (fun _ => 0))), (q_2, .inl (cy, 366, .inl (fun _ => 0))), (q_3, .inl (cy, 60, .inl (fun _ => 0))), (q_4, .inl (cy, 32, .inl (fun _ => 0)))] := hD
  refine W.widen (k := 4) (n := 824) (Nat.le_of_ble_eq_true rfl) (Nat.le_of_ble_eq_true rfl) ?_
  refine va_putF (D := D) (ci := 3) (v := .ref q_4) (ty := .array .int) (C := RX3) (T := TX3) (N := 10) hx hb hts hiX3 tyX3 tyX3_ok nmX3 hown hK hP hD hS 0 rfl rfl 3 (by decide) (hts (.fieldLink RX3 19 "AdaptiveReplacementCacheModel" "pages" "[I") (by decide +kernel)) (fun _ h9 => h9) rfl hin rfl (by decide +kernel) rfl rfl (Nat.le_of_ble_eq_true rfl) dX3_init_35 (fun H locs hP hD hS => ?_)
  have hP : va_P D vwCl [(mo, .inr (3, [.ref q_1, .ref q_2, .ref q_3, .ref q_4, .int 0, .int 0, .int 0, .int 0, .int 0, .int 0])), (q_1, .inl (cy, 366, .inl (fun _ => 0))), (q_2, .inl (cy, 366, .inl (fun _ => 0))), (q_3, .inl (cy, 60, .inl (fun _ => 0))), (q_4, .inl (cy, 32, .inl (fun _ => 0)))] H := hP
  have hD : va_D A [(mo, .inr (3, [.ref q_1, .ref q_2, .ref q_3, .ref q_4, .int 0, .int 0, .int 0, .int 0, .int 0, .int 0])), (q_1, .inl (cy, 366, .inl (fun _ => 0))), (q_2, .inl (cy, 366, .inl (fun _ => 0))), (q_3, .inl (cy, 60, .inl (fun _ => 0))), (q_4, .inl (cy, 32, .inl (fun _ => 0)))] := hD
  have hmz : m_rep (fun _ => 0) (fun _ => [], fun _ => 0) := m_zero (fun _ _ => rfl)
  refine lv_aload_n hx hb dX3_init_38 rfl (lv_at hl 0 rfl) ?_
  refine va_get (D := D) (ci := 3) (v := .ref q_1) (C := RX3) (T := TX3) (N := 10) hx hb hts hiX3 hown hK hP 0 rfl rfl 0 (by decide) (hts (.fieldLink RX3 7 "AdaptiveReplacementCacheModel" "now" "[I") (by decide +kernel)) (fun _ h9 => h9) rfl dX3_init_39 ?_
  refine lv_bipush (v := 6) hx hb dX3_init_42 (by decide) ?_
  refine lv_bipush (v := 8) hx hb dX3_init_44 (by decide) ?_
  refine va_iast hx hb hK hP hD hS 1 0 rfl rfl (vp_in_nI (n := 6) (by decide) (by decide)) dX3_init_46 (fun H locs hP hD hS => ?_)
  obtain ⟨t_5, et_5⟩ : ∃ zz9 : Nat → Int32, zz9 = upd (fun _ => 0) (Int32.toNatClampNeg 6) 8 := ⟨_, rfl⟩
  rw [← et_5] at hP hD
  have hm_6 : m_rep t_5 ((fun _ => [] : Nat → List Int32), va_up (fun _ => 0 : Nat → Int32) 6 8) := by rw [et_5]; exact m_z (i := 6) hmz (by decide) (by decide)
  have hP : va_P D vwCl [(mo, .inr (3, [.ref q_1, .ref q_2, .ref q_3, .ref q_4, .int 0, .int 0, .int 0, .int 0, .int 0, .int 0])), (q_1, .inl (cy, 366, .inl t_5)), (q_2, .inl (cy, 366, .inl (fun _ => 0))), (q_3, .inl (cy, 60, .inl (fun _ => 0))), (q_4, .inl (cy, 32, .inl (fun _ => 0)))] H := hP
  have hD : va_D A [(mo, .inr (3, [.ref q_1, .ref q_2, .ref q_3, .ref q_4, .int 0, .int 0, .int 0, .int 0, .int 0, .int 0])), (q_1, .inl (cy, 366, .inl t_5)), (q_2, .inl (cy, 366, .inl (fun _ => 0))), (q_3, .inl (cy, 60, .inl (fun _ => 0))), (q_4, .inl (cy, 32, .inl (fun _ => 0)))] := hD
  refine lv_aload_n hx hb dX3_init_47 rfl (lv_at hl 0 rfl) ?_
  refine va_get (D := D) (ci := 3) (v := .ref q_1) (C := RX3) (T := TX3) (N := 10) hx hb hts hiX3 hown hK hP 0 rfl rfl 0 (by decide) (hts (.fieldLink RX3 7 "AdaptiveReplacementCacheModel" "now" "[I") (by decide +kernel)) (fun _ h9 => h9) rfl dX3_init_48 ?_
  refine lv_bipush (v := 9) hx hb dX3_init_51 (by decide) ?_
  refine lv_iconst (v := (-1)) hx hb dX3_init_53 (by decide) ?_
  refine va_iast hx hb hK hP hD hS 1 0 rfl rfl (vp_in_nI (n := 9) (by decide) (by decide)) dX3_init_54 (fun H locs hP hD hS => ?_)
  obtain ⟨t_7, et_7⟩ : ∃ zz9 : Nat → Int32, zz9 = upd t_5 (Int32.toNatClampNeg 9) (-1) := ⟨_, rfl⟩
  rw [← et_7] at hP hD
  have hm_8 : m_rep t_7 ((fun _ => [] : Nat → List Int32), va_up (va_up (fun _ => 0 : Nat → Int32) 6 8) 9 (-1)) := by rw [et_7]; exact m_z (i := 9) hm_6 (by decide) (by decide)
  have hP : va_P D vwCl [(mo, .inr (3, [.ref q_1, .ref q_2, .ref q_3, .ref q_4, .int 0, .int 0, .int 0, .int 0, .int 0, .int 0])), (q_1, .inl (cy, 366, .inl t_7)), (q_2, .inl (cy, 366, .inl (fun _ => 0))), (q_3, .inl (cy, 60, .inl (fun _ => 0))), (q_4, .inl (cy, 32, .inl (fun _ => 0)))] H := hP
  have hD : va_D A [(mo, .inr (3, [.ref q_1, .ref q_2, .ref q_3, .ref q_4, .int 0, .int 0, .int 0, .int 0, .int 0, .int 0])), (q_1, .inl (cy, 366, .inl t_7)), (q_2, .inl (cy, 366, .inl (fun _ => 0))), (q_3, .inl (cy, 60, .inl (fun _ => 0))), (q_4, .inl (cy, 32, .inl (fun _ => 0)))] := hD
  exact ki_vret hx hb hr hlk hK hS (fun i => [q_1, q_2, q_3, q_4].getD i 0, t_7) hm_8 (ki_P hP [0, 1, 2, 3, 4] rfl) (hD.sub [0, 1, 2, 3, 4] (by decide) rfl) dX3_init_55
