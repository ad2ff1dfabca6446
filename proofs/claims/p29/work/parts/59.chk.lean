/-! ===== the checks behind a step ===== -/
set_option maxHeartbeats 4000000 in
set_option maxRecDepth 100000 in
theorem law_chk {p : Program} {l : Launch} {e : Env} {s : State} {m : MethodId} {args : Array Value} {below : List Frame} {meth : Method} {c : Code} {Q : State → Prop} {D : va_G} {cy : ClassId} {A : Nat → Prop} {b L : Nat} {xs : Nat → Int32} {x1 lh1 lk1 ph1 pk1 : Nat} {q1 qt1 : Nat → Nat} {x2 lh2 lk2 ph2 pk2 : Nat} {q2 qt2 : Nat → Nat} {mo : Int32}
    (hx : p.tables.exec = Jvm.exec) (hb : c.code = cL_law) (hml : c.maxLocals = 12) (hown : s.vm.findClass RL = some m.cls) (hts : ∀ w ∈ wsL_law, w.before args s = true) (hl9 : l.stackTraces = false) (hK : va_K D vwCl [(cy, .int)] s) (hE : ki_env s) (hZ : ki_Z A s s.heap) (hA : ∀ q, s.heap.size ≤ q → A q) (hL : L ≤ 260) (hX : va_X b L xs s s.heap) (hbl : b < s.heap.size) (hbA : ¬ A b) (hmo : s_n mo) {j La Z K C S : Nat} {ua ub : lo_U} {H : Heap} {locs : List Loc} {ls : Array Slot} (hj2 : j < 125) (hLa : La ≤ 49) (hZl : Z < 2 ^ 31) (hKl : K ≤ 49) (hC : C ≤ 294) (hSl : S ≤ 2864) (hR : lo_R mo ua ub) (hP : va_P D vwCl (lo_w cy x1 lh1 lk1 ph1 pk1 q1 qt1 ua ++ lo_w cy x2 lh2 lk2 ph2 pk2 q2 qt2 ub) H) (hD : va_D A (lo_w cy x1 lh1 lk1 ph1 pk1 q1 qt1 ua ++ lo_w cy x2 lh2 lk2 ph2 pk2 q2 qt2 ub)) (hS : va_S A s.heap H locs)
    (K9 : ∀ (ua ub : lo_U) (H : Heap) (locs : List Loc) (ls : Array Slot), lo_R mo ua ub → va_P D vwCl (lo_w cy x1 lh1 lk1 ph1 pk1 q1 qt1 ua ++ lo_w cy x2 lh2 lk2 ph2 pk2 q2 qt2 ub) H → va_D A (lo_w cy x1 lh1 lk1 ph1 pk1 q1 qt1 ua ++ lo_w cy x2 lh2 lk2 ph2 pk2 q2 qt2 ub) → va_S A s.heap H locs → lv_has ls 12 [(10, .int (nI K)), (9, .int (nI (Z / 14))), (8, .int (nI (Z % 14))), (6, .int (nI j)), (5, .int 1), (4, .int (nI La)), (3, .int mo), (2, .ref x2), (1, .ref x1), (0, .ref b)] → W p l e room_1 s m args below meth c H locs (C + (if j % 4 = 0 then 8 else 0)) (S + (if j % 4 = 0 then 48 else 0)) Q (F0 m 445 ls [.int 1]))
    (hl : lv_has ls 12 [(10, .int (nI K)), (9, .int (nI (Z / 14))), (8, .int (nI (Z % 14))), (6, .int (nI j)), (5, .int 1), (4, .int (nI La)), (3, .int mo), (2, .ref x2), (1, .ref x1), (0, .ref b)]) : W p l e room_1 s m args below meth c H locs C S Q (F0 m 338 ls []) := by
  have hsk : s_k (nI K) := ⟨K, hKl, rfl⟩
  refine lv_iload hx hb dL_law_338 (lv_at hl 4 rfl) ?_
  refine lv_if_eq (tgt := 444) hx hb dL_law_340 (by decide) (fun c_1 => ?_) (fun c_1 => ?_)
  · exact absurd c_1 (by decide)
  · skip
    refine lv_aload_n hx hb dL_law_343 rfl (lv_at hl 8 rfl) ?_
    refine lv_iconst (v := 2) hx hb dL_law_344 (by decide) ?_
    refine lv_iload hx hb dL_law_345 (lv_at hl 0 rfl) ?_
    refine kl_SA (As := [.ref x1, .int 2, .int (nI K)]) (rest := []) ⟨hx, hb, hml, hown, hts⟩ (c_L_byKey2 l D cy x1 lh1 lk1 ph1 pk1 q1 qt1 ua hR.1 (nI K) (s_nb hsk)) (vx_cwSW 3 hts gL_law_L_byKey rfl rfl rfl (by decide +kernel) ⟨Nat.le_of_ble_eq_true rfl, Nat.le_of_ble_eq_true rfl⟩) hK hE hZ hP hD hS hA rfl hl.1 rfl (Nat.le_of_ble_eq_true rfl) dL_law_347 ⟨(by show C + 0 ≤ 310; omega), (by show S + 0 ≤ 3480; omega)⟩ (fun ua_2 H locs hu_3 hv_4 hP hD hS => ?_)
    refine lv_aload_n hx hb dL_law_350 rfl (lv_at hl 7 rfl) ?_
    refine lv_iconst (v := 2) hx hb dL_law_351 (by decide) ?_
    refine lv_iload hx hb dL_law_352 (lv_at hl 0 rfl) ?_
    refine lv_iload_n hx hb dL_law_354 rfl (lv_at hl 6 rfl) ?_
    refine lv_iadd hx hb dL_law_355 ?_
    refine kl_SB (As := [.ref x2, .int 2, .int ((nI K) + mo)]) (rest := [.int (c_list ua.1.1 (nI K))]) ⟨hx, hb, hml, hown, hts⟩ (c_L_byKey2 l D cy x2 lh2 lk2 ph2 pk2 q2 qt2 ub hR.2.1 ((nI K) + mo) (s_nbm hsk hmo)) (vx_cwSW 3 hts gL_law_L_byKey rfl rfl rfl (by decide +kernel) ⟨Nat.le_of_ble_eq_true rfl, Nat.le_of_ble_eq_true rfl⟩) hK hE hZ hP hD hS hA rfl hl.1 rfl (Nat.le_of_ble_eq_true rfl) dL_law_356 ⟨(by show C + 0 ≤ 310; omega), (by show S + 0 ≤ 3480; omega)⟩ (fun ub_5 H locs hu_6 hv_7 hP hD hS => ?_)
    have ev_9 := (vs_rem (m := mo) hR.2.2.1 (nI K)).2.2
    rw [← hR.2.2.2] at ev_9
    have hR_8 := hR.same hu_3 hv_4 hu_6 hv_7
    refine lv_icmp_ne (tgt := 444) hx hb dL_law_359 (by decide) (fun c9 => absurd (ev_9.symm) c9) (fun _ => ?_)
    refine lv_iload hx hb dL_law_362 (lv_at hl 3 rfl) ?_
    refine lv_iconst (v := 4) hx hb dL_law_364 (by decide) ?_
    refine lv_irem hx hb dL_law_365 (by decide) ?_
    refine lv_topi (fun y_10 ey_10 => ?_)
    have ey_10 : y_10 = nI (j % 4) := ey_10.trans (show (nI j) - (nI j) / nI 4 * nI 4 = _ from pk_rem (by omega) (by decide) (by decide))
    subst ey_10
    refine lv_if_gt (tgt := 378) hx hb dL_law_366 (by decide) (fun c_11 => ?_) (fun c_11 => ?_)
    · skip
      have h4 : ¬ j % 4 = 0 := fun q9 => absurd c_11 (by rw [q9]; decide)
      refine lv_iload hx hb dL_law_378 (lv_at hl 3 rfl) ?_
      refine lv_bipush (v := 16) hx hb dL_law_380 (by decide) ?_
      refine lv_irem hx hb dL_law_382 (by decide) ?_
      refine lv_topi (fun y_12 ey_12 => ?_)
      have ey_12 : y_12 = nI (j % 16) := ey_12.trans (show (nI j) - (nI j) / nI 16 * nI 16 = _ from pk_rem (by omega) (by decide) (by decide))
      subst ey_12
      refine lv_if_gt (tgt := 440) hx hb dL_law_383 (by decide) (fun c_13 => ?_) (fun c_13 => ?_)
      · skip
        refine lv_iconst (v := 1) hx hb dL_law_440 (by decide) ?_
        refine lv_goto (tgt := 445) hx hb dL_law_441 (by decide) ?_
        refine W.widen (k := C + (if j % 4 = 0 then 8 else 0)) (n := S + (if j % 4 = 0 then 48 else 0)) (by split <;> omega) (by split <;> omega) ?_
        exact K9 ua_2 ub_5 H locs ls hR_8 hP hD hS (lv_sub hl [0, 1, 2, 3, 4, 5, 6, 7, 8, 9] rfl)
      · skip
        refine lv_aload_n hx hb dL_law_386 rfl (lv_at hl 8 rfl) ?_
        refine lv_iconst (v := 2) hx hb dL_law_387 (by decide) ?_
        refine lv_iconst (v := 1) hx hb dL_law_388 (by decide) ?_
        refine lv_iload hx hb dL_law_389 (lv_at hl 1 rfl) ?_
        refine lv_bipush (v := 16) hx hb dL_law_391 (by decide) ?_
        refine lv_irem hx hb dL_law_393 (by decide) ?_
        refine lv_topi (fun y_14 ey_14 => ?_)
        have ey_14 : y_14 = nI ((Z / 14) % 16) := ey_14.trans (show (nI (Z / 14)) - (nI (Z / 14)) / nI 16 * nI 16 = _ from pk_rem (by omega) (by decide) (by decide))
        subst ey_14
        refine lv_iadd hx hb dL_law_394 ?_
        refine lv_topi (fun y_15 ey_15 => ?_)
        have ey_15 : y_15 = nI (1 + Z / 14 % 16) := ey_15.trans (show nI 1 + nI (Z / 14 % 16) = _ from nI_add _ _)
        subst ey_15
        refine kl_SA (As := [.ref x1, .int 2, .int (nI (1 + Z / 14 % 16))]) (rest := []) ⟨hx, hb, hml, hown, hts⟩ (c_L_byNumber2 l D cy x1 lh1 lk1 ph1 pk1 q1 qt1 ua_2 hR_8.1 (nI (1 + Z / 14 % 16)) (lo_cap (by omega))) (vx_cwSW 3 hts gL_law_L_byNumber rfl rfl rfl (by decide +kernel) ⟨Nat.le_of_ble_eq_true rfl, Nat.le_of_ble_eq_true rfl⟩) hK hE hZ hP hD hS hA rfl hl.1 rfl (Nat.le_of_ble_eq_true rfl) dL_law_395 ⟨(by show C + 0 ≤ 310; omega), (by show S + 0 ≤ 3480; omega)⟩ (fun ua_16 H locs hu_17 hv_18 hP hD hS => ?_)
        refine lv_aload_n hx hb dL_law_398 rfl (lv_at hl 7 rfl) ?_
        refine lv_iconst (v := 2) hx hb dL_law_399 (by decide) ?_
        refine lv_iconst (v := 1) hx hb dL_law_400 (by decide) ?_
        refine lv_iload hx hb dL_law_401 (lv_at hl 1 rfl) ?_
        refine lv_bipush (v := 16) hx hb dL_law_403 (by decide) ?_
        refine lv_irem hx hb dL_law_405 (by decide) ?_
        refine lv_topi (fun y_19 ey_19 => ?_)
        have ey_19 : y_19 = nI ((Z / 14) % 16) := ey_19.trans (show (nI (Z / 14)) - (nI (Z / 14)) / nI 16 * nI 16 = _ from pk_rem (by omega) (by decide) (by decide))
        subst ey_19
        refine lv_iadd hx hb dL_law_406 ?_
        refine lv_topi (fun y_20 ey_20 => ?_)
        have ey_20 : y_20 = nI (1 + Z / 14 % 16) := ey_20.trans (show nI 1 + nI (Z / 14 % 16) = _ from nI_add _ _)
        subst ey_20
        refine kl_SB (As := [.ref x2, .int 2, .int (nI (1 + Z / 14 % 16))]) (rest := [.int (h_n (nI (1 + Z / 14 % 16)) (ua_2.1.1.2 7) ua_2.2.1.2.1 ua_2.2.1.2.1.length)]) ⟨hx, hb, hml, hown, hts⟩ (c_L_byNumber2 l D cy x2 lh2 lk2 ph2 pk2 q2 qt2 ub_5 hR_8.2.1 (nI (1 + Z / 14 % 16)) (lo_cap (by omega))) (vx_cwSW 3 hts gL_law_L_byNumber rfl rfl rfl (by decide +kernel) ⟨Nat.le_of_ble_eq_true rfl, Nat.le_of_ble_eq_true rfl⟩) hK hE hZ hP hD hS hA rfl hl.1 rfl (Nat.le_of_ble_eq_true rfl) dL_law_407 ⟨(by show C + 0 ≤ 310; omega), (by show S + 0 ≤ 3480; omega)⟩ (fun ub_21 H locs hu_22 hv_23 hP hD hS => ?_)
        have ev_25 := lo_hit hmo hR_8 (nI (1 + Z / 14 % 16))
        have hR_24 := hR_8.same hu_17 hv_18 hu_22 hv_23
        refine lv_icmp_ne (tgt := 444) hx hb dL_law_410 (by decide) (fun c9 => absurd (ev_25.symm) c9) (fun _ => ?_)
        refine lv_aload_n hx hb dL_law_413 rfl (lv_at hl 8 rfl) ?_
        refine lv_iconst (v := 3) hx hb dL_law_414 (by decide) ?_
        refine lv_iconst (v := 1) hx hb dL_law_415 (by decide) ?_
        refine lv_iload hx hb dL_law_416 (lv_at hl 1 rfl) ?_
        refine lv_bipush (v := 16) hx hb dL_law_418 (by decide) ?_
        refine lv_irem hx hb dL_law_420 (by decide) ?_
        refine lv_topi (fun y_26 ey_26 => ?_)
        have ey_26 : y_26 = nI ((Z / 14) % 16) := ey_26.trans (show (nI (Z / 14)) - (nI (Z / 14)) / nI 16 * nI 16 = _ from pk_rem (by omega) (by decide) (by decide))
        subst ey_26
        refine lv_iadd hx hb dL_law_421 ?_
        refine lv_topi (fun y_27 ey_27 => ?_)
        have ey_27 : y_27 = nI (1 + Z / 14 % 16) := ey_27.trans (show nI 1 + nI (Z / 14 % 16) = _ from nI_add _ _)
        subst ey_27
        refine kl_SA (As := [.ref x1, .int 3, .int (nI (1 + Z / 14 % 16))]) (rest := []) ⟨hx, hb, hml, hown, hts⟩ (c_L_byNumber3 l D cy x1 lh1 lk1 ph1 pk1 q1 qt1 ua_16 hR_24.1 (nI (1 + Z / 14 % 16)) (lo_cap (by omega))) (vx_cwSW 3 hts gL_law_L_byNumber rfl rfl rfl (by decide +kernel) ⟨Nat.le_of_ble_eq_true rfl, Nat.le_of_ble_eq_true rfl⟩) hK hE hZ hP hD hS hA rfl hl.1 rfl (Nat.le_of_ble_eq_true rfl) dL_law_422 ⟨(by show C + 0 ≤ 310; omega), (by show S + 0 ≤ 3480; omega)⟩ (fun ua_28 H locs hu_29 hv_30 hP hD hS => ?_)
        refine lv_aload_n hx hb dL_law_425 rfl (lv_at hl 7 rfl) ?_
        refine lv_iconst (v := 3) hx hb dL_law_426 (by decide) ?_
        refine lv_iconst (v := 1) hx hb dL_law_427 (by decide) ?_
        refine lv_iload hx hb dL_law_428 (lv_at hl 1 rfl) ?_
        refine lv_bipush (v := 16) hx hb dL_law_430 (by decide) ?_
        refine lv_irem hx hb dL_law_432 (by decide) ?_
        refine lv_topi (fun y_31 ey_31 => ?_)
        have ey_31 : y_31 = nI ((Z / 14) % 16) := ey_31.trans (show (nI (Z / 14)) - (nI (Z / 14)) / nI 16 * nI 16 = _ from pk_rem (by omega) (by decide) (by decide))
        subst ey_31
        refine lv_iadd hx hb dL_law_433 ?_
        refine lv_topi (fun y_32 ey_32 => ?_)
        have ey_32 : y_32 = nI (1 + Z / 14 % 16) := ey_32.trans (show nI 1 + nI (Z / 14 % 16) = _ from nI_add _ _)
        subst ey_32
        refine kl_SB (As := [.ref x2, .int 3, .int (nI (1 + Z / 14 % 16))]) (rest := [.int (r_n (nI (1 + Z / 14 % 16)) ua_16.2.1.2.1 ua_16.2.1.2.1.length)]) ⟨hx, hb, hml, hown, hts⟩ (c_L_byNumber3 l D cy x2 lh2 lk2 ph2 pk2 q2 qt2 ub_21 hR_24.2.1 (nI (1 + Z / 14 % 16)) (lo_cap (by omega))) (vx_cwSW 3 hts gL_law_L_byNumber rfl rfl rfl (by decide +kernel) ⟨Nat.le_of_ble_eq_true rfl, Nat.le_of_ble_eq_true rfl⟩) hK hE hZ hP hD hS hA rfl hl.1 rfl (Nat.le_of_ble_eq_true rfl) dL_law_434 ⟨(by show C + 0 ≤ 310; omega), (by show S + 0 ≤ 3480; omega)⟩ (fun ub_33 H locs hu_34 hv_35 hP hD hS => ?_)
        have ev_37 := lo_lru hmo hR_24 (nI (1 + Z / 14 % 16))
        have hR_36 := hR_24.same hu_29 hv_30 hu_34 hv_35
        refine lv_icmp_ne (tgt := 444) hx hb dL_law_437 (by decide) (fun c9 => absurd (ev_37.symm) c9) (fun _ => ?_)
        refine lv_iconst (v := 1) hx hb dL_law_440 (by decide) ?_
        refine lv_goto (tgt := 445) hx hb dL_law_441 (by decide) ?_
        refine W.widen (k := C + (if j % 4 = 0 then 8 else 0)) (n := S + (if j % 4 = 0 then 48 else 0)) (by split <;> omega) (by split <;> omega) ?_
        exact K9 ua_28 ub_33 H locs ls hR_36 hP hD hS (lv_sub hl [0, 1, 2, 3, 4, 5, 6, 7, 8, 9] rfl)
    · skip
      have h4 : j % 4 = 0 := by rcases Nat.eq_zero_or_pos (j % 4) with q9 | q9; exact q9; exact absurd (show nI 0 < nI (j % 4) from nI_lt q9 (by omega)) c_11
      refine lv_aload_n hx hb dL_law_369 rfl (lv_at hl 8 rfl) ?_
      refine lv_aload_n hx hb dL_law_370 rfl (lv_at hl 7 rfl) ?_
      refine lv_iload_n hx hb dL_law_371 rfl (lv_at hl 6 rfl) ?_
      refine kl_cN (wr := []) (As := [.ref x1, .ref x2, .int mo]) (rest := []) ⟨hx, hb, hml, hown, hts⟩ (c_L_areAlike l hl9 D cy x1 lh1 lk1 ph1 pk1 q1 qt1 x2 lh2 lk2 ph2 pk2 q2 qt2 mo ua_2 ub_5 hR_8) (va_cwS 3 hts gL_law_L_areAlike rfl rfl rfl (by decide +kernel) ⟨Nat.le_of_ble_eq_true rfl, Nat.le_of_ble_eq_true rfl⟩) hK hE hZ hP hD hS hA [0] rfl [0, 1, 2, 3, 4, 5, 6, 7, 8, 9, 10, 11, 12, 13, 14, 15, 16, 17, 18, 19, 20, 21, 22, 23, 24, 25, 26, 27, 28, 29, 30, 31, 32, 33, 34, 35, 36, 37, 38, 39, 40, 41, 42, 43, 44, 45] [] rfl (by decide) rfl rfl (by decide) rfl hl.1 rfl (Nat.le_of_ble_eq_true rfl) dL_law_372 ⟨(by show C + 8 ≤ 310; omega), (by show S + 48 ≤ 3480; omega)⟩ (fun r9 u_38 H locs hw hP hD hS => ?_)
      obtain ⟨er9, hR_39, hv9⟩ := hw
      subst er9
      have hP : va_P D vwCl (lo_w cy x1 lh1 lk1 ph1 pk1 q1 qt1 u_38.1 ++ lo_w cy x2 lh2 lk2 ph2 pk2 q2 qt2 u_38.2) H := hP
      have hD : va_D A (lo_w cy x1 lh1 lk1 ph1 pk1 q1 qt1 u_38.1 ++ lo_w cy x2 lh2 lk2 ph2 pk2 q2 qt2 u_38.2) := hD
      refine lv_if_eq (tgt := 444) hx hb dL_law_375 (by decide) (fun c_40 => ?_) (fun c_40 => ?_)
      · exact absurd c_40 (by decide)
      · skip
        refine lv_iload hx hb dL_law_378 (lv_at hl 3 rfl) ?_
        refine lv_bipush (v := 16) hx hb dL_law_380 (by decide) ?_
        refine lv_irem hx hb dL_law_382 (by decide) ?_
        refine lv_topi (fun y_41 ey_41 => ?_)
        have ey_41 : y_41 = nI (j % 16) := ey_41.trans (show (nI j) - (nI j) / nI 16 * nI 16 = _ from pk_rem (by omega) (by decide) (by decide))
        subst ey_41
        refine lv_if_gt (tgt := 440) hx hb dL_law_383 (by decide) (fun c_42 => ?_) (fun c_42 => ?_)
        · skip
          refine lv_iconst (v := 1) hx hb dL_law_440 (by decide) ?_
          refine lv_goto (tgt := 445) hx hb dL_law_441 (by decide) ?_
          refine W.widen (k := C + (if j % 4 = 0 then 8 else 0)) (n := S + (if j % 4 = 0 then 48 else 0)) (by split <;> omega) (by split <;> omega) ?_
          exact K9 u_38.1 u_38.2 H locs ls hR_39 hP hD hS (lv_sub hl [0, 1, 2, 3, 4, 5, 6, 7, 8, 9] rfl)
        · skip
          refine lv_aload_n hx hb dL_law_386 rfl (lv_at hl 8 rfl) ?_
          refine lv_iconst (v := 2) hx hb dL_law_387 (by decide) ?_
          refine lv_iconst (v := 1) hx hb dL_law_388 (by decide) ?_
          refine lv_iload hx hb dL_law_389 (lv_at hl 1 rfl) ?_
          refine lv_bipush (v := 16) hx hb dL_law_391 (by decide) ?_
          refine lv_irem hx hb dL_law_393 (by decide) ?_
          refine lv_topi (fun y_43 ey_43 => ?_)
          have ey_43 : y_43 = nI ((Z / 14) % 16) := ey_43.trans (show (nI (Z / 14)) - (nI (Z / 14)) / nI 16 * nI 16 = _ from pk_rem (by omega) (by decide) (by decide))
          subst ey_43
          refine lv_iadd hx hb dL_law_394 ?_
          refine lv_topi (fun y_44 ey_44 => ?_)
          have ey_44 : y_44 = nI (1 + Z / 14 % 16) := ey_44.trans (show nI 1 + nI (Z / 14 % 16) = _ from nI_add _ _)
          subst ey_44
          refine kl_SA (As := [.ref x1, .int 2, .int (nI (1 + Z / 14 % 16))]) (rest := []) ⟨hx, hb, hml, hown, hts⟩ (c_L_byNumber2 l D cy x1 lh1 lk1 ph1 pk1 q1 qt1 u_38.1 hR_39.1 (nI (1 + Z / 14 % 16)) (lo_cap (by omega))) (vx_cwSW 3 hts gL_law_L_byNumber rfl rfl rfl (by decide +kernel) ⟨Nat.le_of_ble_eq_true rfl, Nat.le_of_ble_eq_true rfl⟩) hK hE hZ hP hD hS hA rfl hl.1 rfl (Nat.le_of_ble_eq_true rfl) dL_law_395 ⟨(by show (C + 8) + 0 ≤ 310; omega), (by show (S + 48) + 0 ≤ 3480; omega)⟩ (fun ua_45 H locs hu_46 hv_47 hP hD hS => ?_)
          refine lv_aload_n hx hb dL_law_398 rfl (lv_at hl 7 rfl) ?_
          refine lv_iconst (v := 2) hx hb dL_law_399 (by decide) ?_
          refine lv_iconst (v := 1) hx hb dL_law_400 (by decide) ?_
          refine lv_iload hx hb dL_law_401 (lv_at hl 1 rfl) ?_
          refine lv_bipush (v := 16) hx hb dL_law_403 (by decide) ?_
          refine lv_irem hx hb dL_law_405 (by decide) ?_
          refine lv_topi (fun y_48 ey_48 => ?_)
          have ey_48 : y_48 = nI ((Z / 14) % 16) := ey_48.trans (show (nI (Z / 14)) - (nI (Z / 14)) / nI 16 * nI 16 = _ from pk_rem (by omega) (by decide) (by decide))
          subst ey_48
          refine lv_iadd hx hb dL_law_406 ?_
          refine lv_topi (fun y_49 ey_49 => ?_)
          have ey_49 : y_49 = nI (1 + Z / 14 % 16) := ey_49.trans (show nI 1 + nI (Z / 14 % 16) = _ from nI_add _ _)
          subst ey_49
          refine kl_SB (As := [.ref x2, .int 2, .int (nI (1 + Z / 14 % 16))]) (rest := [.int (h_n (nI (1 + Z / 14 % 16)) (u_38.1.1.1.2 7) u_38.1.2.1.2.1 u_38.1.2.1.2.1.length)]) ⟨hx, hb, hml, hown, hts⟩ (c_L_byNumber2 l D cy x2 lh2 lk2 ph2 pk2 q2 qt2 u_38.2 hR_39.2.1 (nI (1 + Z / 14 % 16)) (lo_cap (by omega))) (vx_cwSW 3 hts gL_law_L_byNumber rfl rfl rfl (by decide +kernel) ⟨Nat.le_of_ble_eq_true rfl, Nat.le_of_ble_eq_true rfl⟩) hK hE hZ hP hD hS hA rfl hl.1 rfl (Nat.le_of_ble_eq_true rfl) dL_law_407 ⟨(by show (C + 8) + 0 ≤ 310; omega), (by show (S + 48) + 0 ≤ 3480; omega)⟩ (fun ub_50 H locs hu_51 hv_52 hP hD hS => ?_)
          have ev_54 := lo_hit hmo hR_39 (nI (1 + Z / 14 % 16))
          have hR_53 := hR_39.same hu_46 hv_47 hu_51 hv_52
          refine lv_icmp_ne (tgt := 444) hx hb dL_law_410 (by decide) (fun c9 => absurd (ev_54.symm) c9) (fun _ => ?_)
          refine lv_aload_n hx hb dL_law_413 rfl (lv_at hl 8 rfl) ?_
          refine lv_iconst (v := 3) hx hb dL_law_414 (by decide) ?_
          refine lv_iconst (v := 1) hx hb dL_law_415 (by decide) ?_
          refine lv_iload hx hb dL_law_416 (lv_at hl 1 rfl) ?_
          refine lv_bipush (v := 16) hx hb dL_law_418 (by decide) ?_
          refine lv_irem hx hb dL_law_420 (by decide) ?_
          refine lv_topi (fun y_55 ey_55 => ?_)
          have ey_55 : y_55 = nI ((Z / 14) % 16) := ey_55.trans (show (nI (Z / 14)) - (nI (Z / 14)) / nI 16 * nI 16 = _ from pk_rem (by omega) (by decide) (by decide))
          subst ey_55
          refine lv_iadd hx hb dL_law_421 ?_
          refine lv_topi (fun y_56 ey_56 => ?_)
          have ey_56 : y_56 = nI (1 + Z / 14 % 16) := ey_56.trans (show nI 1 + nI (Z / 14 % 16) = _ from nI_add _ _)
          subst ey_56
          refine kl_SA (As := [.ref x1, .int 3, .int (nI (1 + Z / 14 % 16))]) (rest := []) ⟨hx, hb, hml, hown, hts⟩ (c_L_byNumber3 l D cy x1 lh1 lk1 ph1 pk1 q1 qt1 ua_45 hR_53.1 (nI (1 + Z / 14 % 16)) (lo_cap (by omega))) (vx_cwSW 3 hts gL_law_L_byNumber rfl rfl rfl (by decide +kernel) ⟨Nat.le_of_ble_eq_true rfl, Nat.le_of_ble_eq_true rfl⟩) hK hE hZ hP hD hS hA rfl hl.1 rfl (Nat.le_of_ble_eq_true rfl) dL_law_422 ⟨(by show (C + 8) + 0 ≤ 310; omega), (by show (S + 48) + 0 ≤ 3480; omega)⟩ (fun ua_57 H locs hu_58 hv_59 hP hD hS => ?_)
          refine lv_aload_n hx hb dL_law_425 rfl (lv_at hl 7 rfl) ?_
          refine lv_iconst (v := 3) hx hb dL_law_426 (by decide) ?_
          refine lv_iconst (v := 1) hx hb dL_law_427 (by decide) ?_
          refine lv_iload hx hb dL_law_428 (lv_at hl 1 rfl) ?_
          refine lv_bipush (v := 16) hx hb dL_law_430 (by decide) ?_
          refine lv_irem hx hb dL_law_432 (by decide) ?_
          refine lv_topi (fun y_60 ey_60 => ?_)
          have ey_60 : y_60 = nI ((Z / 14) % 16) := ey_60.trans (show (nI (Z / 14)) - (nI (Z / 14)) / nI 16 * nI 16 = _ from pk_rem (by omega) (by decide) (by decide))
          subst ey_60
          refine lv_iadd hx hb dL_law_433 ?_
          refine lv_topi (fun y_61 ey_61 => ?_)
          have ey_61 : y_61 = nI (1 + Z / 14 % 16) := ey_61.trans (show nI 1 + nI (Z / 14 % 16) = _ from nI_add _ _)
          subst ey_61
          refine kl_SB (As := [.ref x2, .int 3, .int (nI (1 + Z / 14 % 16))]) (rest := [.int (r_n (nI (1 + Z / 14 % 16)) ua_45.2.1.2.1 ua_45.2.1.2.1.length)]) ⟨hx, hb, hml, hown, hts⟩ (c_L_byNumber3 l D cy x2 lh2 lk2 ph2 pk2 q2 qt2 ub_50 hR_53.2.1 (nI (1 + Z / 14 % 16)) (lo_cap (by omega))) (vx_cwSW 3 hts gL_law_L_byNumber rfl rfl rfl (by decide +kernel) ⟨Nat.le_of_ble_eq_true rfl, Nat.le_of_ble_eq_true rfl⟩) hK hE hZ hP hD hS hA rfl hl.1 rfl (Nat.le_of_ble_eq_true rfl) dL_law_434 ⟨(by show (C + 8) + 0 ≤ 310; omega), (by show (S + 48) + 0 ≤ 3480; omega)⟩ (fun ub_62 H locs hu_63 hv_64 hP hD hS => ?_)
          have ev_66 := lo_lru hmo hR_53 (nI (1 + Z / 14 % 16))
          have hR_65 := hR_53.same hu_58 hv_59 hu_63 hv_64
          refine lv_icmp_ne (tgt := 444) hx hb dL_law_437 (by decide) (fun c9 => absurd (ev_66.symm) c9) (fun _ => ?_)
          refine lv_iconst (v := 1) hx hb dL_law_440 (by decide) ?_
          refine lv_goto (tgt := 445) hx hb dL_law_441 (by decide) ?_
          refine W.widen (k := C + (if j % 4 = 0 then 8 else 0)) (n := S + (if j % 4 = 0 then 48 else 0)) (by split <;> omega) (by split <;> omega) ?_
          exact K9 ua_57 ub_62 H locs ls hR_65 hP hD hS (lv_sub hl [0, 1, 2, 3, 4, 5, 6, 7, 8, 9] rfl)
