/-! ===== a step ===== -/
set_option maxHeartbeats 4000000 in
set_option maxRecDepth 100000 in
theorem law_arm {p : Program} {l : Launch} {e : Env} {s : State} {m : MethodId} {args : Array Value} {below : List Frame} {meth : Method} {c : Code} {Q : State → Prop} {D : va_G} {cy : ClassId} {A : Nat → Prop} {b L : Nat} {xs : Nat → Int32} {x1 lh1 lk1 ph1 pk1 : Nat} {q1 qt1 : Nat → Nat} {x2 lh2 lk2 ph2 pk2 : Nat} {q2 qt2 : Nat → Nat} {mo : Int32}
    (hx : p.tables.exec = Jvm.exec) (hb : c.code = cL_law) (hml : c.maxLocals = 12) (hown : s.vm.findClass RL = some m.cls) (hts : ∀ w ∈ wsL_law, w.before args s = true) (hl9 : l.stackTraces = false) (hK : va_K D vwCl [(cy, .int)] s) (hE : ki_env s) (hZ : ki_Z A s s.heap) (hA : ∀ q, s.heap.size ≤ q → A q) (hL : L ≤ 260) (hX : va_X b L xs s s.heap) (hbl : b < s.heap.size) (hbA : ¬ A b) (hmo : s_n mo) {j La Z K C S : Nat} {ua ub : lo_U} {H : Heap} {locs : List Loc} {ls : Array Slot} (hLa : La ≤ 49) (hZl : Z < 2 ^ 31) (hKl : K ≤ 49) (hC : C ≤ 302) (hSl : S ≤ 2912) (hR : lo_R mo ua ub) (hP : va_P D vwCl (lo_w cy x1 lh1 lk1 ph1 pk1 q1 qt1 ua ++ lo_w cy x2 lh2 lk2 ph2 pk2 q2 qt2 ub) H) (hD : va_D A (lo_w cy x1 lh1 lk1 ph1 pk1 q1 qt1 ua ++ lo_w cy x2 lh2 lk2 ph2 pk2 q2 qt2 ub)) (hS : va_S A s.heap H locs)
    (K9 : ∀ (La : Nat) (ua ub : lo_U) (H : Heap) (locs : List Loc) (ls : Array Slot), La ≤ 49 → lo_R mo ua ub → va_P D vwCl (lo_w cy x1 lh1 lk1 ph1 pk1 q1 qt1 ua ++ lo_w cy x2 lh2 lk2 ph2 pk2 q2 qt2 ub) H → va_D A (lo_w cy x1 lh1 lk1 ph1 pk1 q1 qt1 ua ++ lo_w cy x2 lh2 lk2 ph2 pk2 q2 qt2 ub) → va_S A s.heap H locs → lv_has ls 12 [(10, .int (nI K)), (9, .int (nI (Z / 14))), (8, .int (nI (Z % 14))), (6, .int (nI j)), (5, .int 1), (4, .int (nI La)), (3, .int mo), (2, .ref x2), (1, .ref x1), (0, .ref b)] → W p l e room_1 s m args below meth c H locs C S Q (F0 m 338 ls []))
    (hl : lv_has ls 12 [(10, .int (nI K)), (9, .int (nI (Z / 14))), (8, .int (nI (Z % 14))), (6, .int (nI j)), (5, .int 1), (4, .int (nI La)), (3, .int mo), (2, .ref x2), (1, .ref x1), (0, .ref b)]) : W p l e room_1 s m args below meth c H locs C S Q (F0 m 137 ls []) := by
  have hsk : s_k (nI K) := ⟨K, hKl, rfl⟩
  refine lv_iload hx hb dL_law_137 (lv_at hl 2 rfl) ?_
  refine lv_bipush (v := 10) hx hb dL_law_139 (by decide) ?_
  refine lv_icmp_ge (tgt := 177) hx hb dL_law_141 (by decide) (fun c_1 => ?_) (fun c_1 => ?_)
  · skip
    refine lv_iload hx hb dL_law_177 (lv_at hl 2 rfl) ?_
    refine lv_bipush (v := 10) hx hb dL_law_179 (by decide) ?_
    refine lv_icmp_ne (tgt := 213) hx hb dL_law_181 (by decide) (fun c_2 => ?_) (fun c_2 => ?_)
    · skip
      refine lv_iload hx hb dL_law_213 (lv_at hl 2 rfl) ?_
      refine lv_bipush (v := 11) hx hb dL_law_215 (by decide) ?_
      refine lv_icmp_ne (tgt := 257) hx hb dL_law_217 (by decide) (fun c_3 => ?_) (fun c_3 => ?_)
      · skip
        refine lv_iload hx hb dL_law_257 (lv_at hl 2 rfl) ?_
        refine lv_bipush (v := 12) hx hb dL_law_259 (by decide) ?_
        refine lv_icmp_ne (tgt := 312) hx hb dL_law_261 (by decide) (fun c_4 => ?_) (fun c_4 => ?_)
        · skip
          refine lv_iload hx hb dL_law_312 (lv_at hl 1 rfl) ?_
          refine lv_bipush (v := 9) hx hb dL_law_314 (by decide) ?_
          refine lv_irem hx hb dL_law_316 (by decide) ?_
          refine lv_topi (fun y_5 ey_5 => ?_)
          have ey_5 : y_5 = nI ((Z / 14) % 9) := ey_5.trans (show (nI (Z / 14)) - (nI (Z / 14)) / nI 9 * nI 9 = _ from pk_rem (by omega) (by decide) (by decide))
          subst ey_5
          refine lv_if_gt (tgt := 331) hx hb dL_law_317 (by decide) (fun c_6 => ?_) (fun c_6 => ?_)
          · skip
            refine lv_iconst (v := 1) hx hb dL_law_331 (by decide) ?_
            refine lv_goto (tgt := 336) hx hb dL_law_332 (by decide) ?_
            refine lv_istore (lv' := [(5, .int 1), (10, .int (nI K)), (9, .int (nI (Z / 14))), (8, .int (nI (Z % 14))), (6, .int (nI j)), (4, .int (nI La)), (3, .int mo), (2, .ref x2), (1, .ref x1), (0, .ref b)]) hx hb dL_law_336 hl (by decide) rfl (fun ls hl => ?_)
            exact K9 La ua ub H locs ls hLa hR hP hD hS (lv_sub hl [1, 2, 3, 4, 0, 5, 6, 7, 8, 9] rfl)
          · skip
            refine lv_aload_n hx hb dL_law_320 rfl (lv_at hl 8 rfl) ?_
            refine ki_cVI (As := []) (rest := []) (wr := ((lo_w cy x1 lh1 lk1 ph1 pk1 q1 qt1 ua).drop 10 ++ lo_w cy x2 lh2 lk2 ph2 pk2 q2 qt2 ub)) ⟨hx, hb, hml, hown, hts⟩ (c_X2_clear l D cy x1 lh1 ph1 q1 qt1 ua.1.1 ua.1.2 ua.2.1.1 hR.1.1) (cwV 0 hts gL_law_X2_clear rfl rfl rfl (by decide +kernel) ⟨Nat.le_of_ble_eq_true rfl, Nat.le_of_ble_eq_true rfl⟩) hK hE hP hD hS hA [0] rfl [0, 1, 2, 3, 4, 5, 6, 7, 8, 9] [10, 11, 12, 13, 14, 15, 16, 17, 18, 19, 20, 21, 22, 23, 24, 25, 26, 27, 28, 29, 30, 31, 32, 33, 34, 35, 36, 37, 38, 39, 40, 41, 42, 43, 44, 45] rfl (by decide) rfl (by decide) (by decide) 2 0 rfl rfl rfl rfl hl.1 rfl (Nat.le_of_ble_eq_true rfl) dL_law_321 ⟨(by show C + 0 ≤ 310; omega), (by show S + 0 ≤ 3480; omega)⟩ [36, 37, 38, 39, 40, 41, 42, 43, 44, 45, 0, 1, 2, 3, 4, 5, 6, 7, 8, 9, 10, 11, 12, 13, 14, 15, 16, 17, 18, 19, 20, 21, 22, 23, 24, 25, 26, 27, 28, 29, 30, 31, 32, 33, 34, 35] (fun F_7 => (lo_w cy x1 lh1 lk1 ph1 pk1 q1 qt1 ((c_clear ua.1.1, F_7), ua.2) ++ lo_w cy x2 lh2 lk2 ph2 pk2 q2 qt2 ub)) (fun _ => rfl) (by decide) (fun r9 F_7 H locs hw hP hD hS => ?_)
            obtain ⟨er9, hr_9⟩ := hw
            subst er9
            have hu_8 : lo_ok ((c_clear ua.1.1, F_7), ua.2) := ⟨hr_9, hR.1.2⟩
            have hv_10 : lo_v ((c_clear ua.1.1, F_7), ua.2) = v_clr (lo_v ua) := rfl
            refine lv_aload_n hx hb dL_law_324 rfl (lv_at hl 7 rfl) ?_
            refine ki_cVI (As := []) (rest := [.int (c_pages ua.1.1)]) (wr := (lo_w cy x1 lh1 lk1 ph1 pk1 q1 qt1 ((c_clear ua.1.1, F_7), ua.2) ++ (lo_w cy x2 lh2 lk2 ph2 pk2 q2 qt2 ub).drop 10)) ⟨hx, hb, hml, hown, hts⟩ (c_X2_clear l D cy x2 lh2 ph2 q2 qt2 ub.1.1 ub.1.2 ub.2.1.1 hR.2.1.1) (cwV 0 hts gL_law_X2_clear rfl rfl rfl (by decide +kernel) ⟨Nat.le_of_ble_eq_true rfl, Nat.le_of_ble_eq_true rfl⟩) hK hE hP hD hS hA [0] rfl [23, 24, 25, 26, 27, 28, 29, 30, 31, 32] [0, 1, 2, 3, 4, 5, 6, 7, 8, 9, 10, 11, 12, 13, 14, 15, 16, 17, 18, 19, 20, 21, 22, 33, 34, 35, 36, 37, 38, 39, 40, 41, 42, 43, 44, 45] rfl (by decide) rfl (by decide) (by decide) 2 23 rfl rfl rfl rfl hl.1 rfl (Nat.le_of_ble_eq_true rfl) dL_law_325 ⟨(by show C + 0 ≤ 310; omega), (by show S + 0 ≤ 3480; omega)⟩ [0, 1, 2, 3, 4, 5, 6, 7, 8, 9, 10, 11, 12, 13, 14, 15, 16, 17, 18, 19, 20, 21, 22, 36, 37, 38, 39, 40, 41, 42, 43, 44, 45, 23, 24, 25, 26, 27, 28, 29, 30, 31, 32, 33, 34, 35] (fun F_11 => (lo_w cy x1 lh1 lk1 ph1 pk1 q1 qt1 ((c_clear ua.1.1, F_7), ua.2) ++ lo_w cy x2 lh2 lk2 ph2 pk2 q2 qt2 ((c_clear ub.1.1, F_11), ub.2))) (fun _ => rfl) (by decide) (fun r9 F_11 H locs hw hP hD hS => ?_)
            obtain ⟨er9, hr_13⟩ := hw
            subst er9
            have hu_12 : lo_ok ((c_clear ub.1.1, F_11), ub.2) := ⟨hr_13, hR.2.1.2⟩
            have hv_14 : lo_v ((c_clear ub.1.1, F_11), ub.2) = v_clr (lo_v ub) := rfl
            obtain ⟨e91, e92, ev_16⟩ := vs_clr (m := mo) hR.2.2.1
            rw [← hR.2.2.2] at e91 ev_16
            have hR_15 : lo_R mo ((c_clear ua.1.1, F_7), ua.2) ((c_clear ub.1.1, F_11), ub.2) := lo_R.step hu_8 hv_10 hu_12 hv_14 e92 e91
            clear e91 e92
            refine lv_icmp_ne (tgt := 335) hx hb dL_law_328 (by decide) (fun c9 => absurd (ev_16.symm) c9) (fun _ => ?_)
            refine lv_iconst (v := 1) hx hb dL_law_331 (by decide) ?_
            refine lv_goto (tgt := 336) hx hb dL_law_332 (by decide) ?_
            refine lv_istore (lv' := [(5, .int 1), (10, .int (nI K)), (9, .int (nI (Z / 14))), (8, .int (nI (Z % 14))), (6, .int (nI j)), (4, .int (nI La)), (3, .int mo), (2, .ref x2), (1, .ref x1), (0, .ref b)]) hx hb dL_law_336 hl (by decide) rfl (fun ls hl => ?_)
            exact K9 La ((c_clear ua.1.1, F_7), ua.2) ((c_clear ub.1.1, F_11), ub.2) H locs ls hLa hR_15 hP hD hS (lv_sub hl [1, 2, 3, 4, 0, 5, 6, 7, 8, 9] rfl)
        · skip
          refine lv_iload hx hb dL_law_264 (lv_at hl 1 rfl) ?_
          refine lv_iconst (v := 2) hx hb dL_law_266 (by decide) ?_
          refine lv_irem hx hb dL_law_267 (by decide) ?_
          refine lv_topi (fun y_17 ey_17 => ?_)
          have ey_17 : y_17 = nI ((Z / 14) % 2) := ey_17.trans (show (nI (Z / 14)) - (nI (Z / 14)) / nI 2 * nI 2 = _ from pk_rem (by omega) (by decide) (by decide))
          subst ey_17
          refine lv_if_ne (tgt := 275) hx hb dL_law_268 (by decide) (fun c_18 => ?_) (fun c_18 => ?_)
          · skip
            refine lv_iconst (v := 2) hx hb dL_law_275 (by decide) ?_
            refine lv_iload hx hb dL_law_276 (lv_at hl 1 rfl) ?_
            refine lv_iconst (v := 2) hx hb dL_law_278 (by decide) ?_
            refine lv_idiv hx hb dL_law_279 (by decide) ?_
            refine lv_topi (fun y_19 ey_19 => ?_)
            have ey_19 : y_19 = nI ((Z / 14) / 2) := ey_19.trans (show (nI (Z / 14)) / nI 2 = _ from pk_div (by omega) (by decide) (by decide))
            subst ey_19
            refine lv_iconst (v := 5) hx hb dL_law_280 (by decide) ?_
            refine lv_irem hx hb dL_law_281 (by decide) ?_
            refine lv_topi (fun y_20 ey_20 => ?_)
            have ey_20 : y_20 = nI (((Z / 14) / 2) % 5) := ey_20.trans (show (nI ((Z / 14) / 2)) - (nI ((Z / 14) / 2)) / nI 5 * nI 5 = _ from pk_rem (by omega) (by decide) (by decide))
            subst ey_20
            refine lv_iadd hx hb dL_law_282 ?_
            refine lv_topi (fun y_21 ey_21 => ?_)
            have ey_21 : y_21 = nI (2 + Z / 14 / 2 % 5) := ey_21.trans (show nI 2 + nI (Z / 14 / 2 % 5) = _ from nI_add _ _)
            subst ey_21
            refine lv_istore (lv' := [(11, .int (nI (2 + Z / 14 / 2 % 5))), (10, .int (nI K)), (9, .int (nI (Z / 14))), (8, .int (nI (Z % 14))), (6, .int (nI j)), (5, .int 1), (4, .int (nI La)), (3, .int mo), (2, .ref x2), (1, .ref x1), (0, .ref b)]) hx hb dL_law_283 hl (by decide) rfl (fun ls hl => ?_)
            refine lv_aload_n hx hb dL_law_285 rfl (lv_at hl 9 rfl) ?_
            refine lv_iconst (v := 1) hx hb dL_law_286 (by decide) ?_
            refine lv_iload hx hb dL_law_287 (lv_at hl 0 rfl) ?_
            refine kl_SA (As := [.ref x1, .int 1, .int (nI (2 + Z / 14 / 2 % 5))]) (rest := []) ⟨hx, hb, hml, hown, hts⟩ (c_L_byNumber1 l D cy x1 lh1 lk1 ph1 pk1 q1 qt1 ua hR.1 (nI (2 + Z / 14 / 2 % 5)) (lo_scan (by omega))) (vx_cwSW 3 hts gL_law_L_byNumber rfl rfl rfl (by decide +kernel) ⟨Nat.le_of_ble_eq_true rfl, Nat.le_of_ble_eq_true rfl⟩) hK hE hZ hP hD hS hA rfl hl.1 rfl (Nat.le_of_ble_eq_true rfl) dL_law_289 ⟨(by show C + 0 ≤ 310; omega), (by show S + 0 ≤ 3480; omega)⟩ (fun ua_22 H locs hu_23 hv_24 hP hD hS => ?_)
            refine lv_aload_n hx hb dL_law_292 rfl (lv_at hl 8 rfl) ?_
            refine lv_iconst (v := 1) hx hb dL_law_293 (by decide) ?_
            refine lv_iload hx hb dL_law_294 (lv_at hl 0 rfl) ?_
            refine kl_SB (As := [.ref x2, .int 1, .int (nI (2 + Z / 14 / 2 % 5))]) (rest := [.int (ua.1.1.2 7)]) ⟨hx, hb, hml, hown, hts⟩ (c_L_byNumber1 l D cy x2 lh2 lk2 ph2 pk2 q2 qt2 ub hR.2.1 (nI (2 + Z / 14 / 2 % 5)) (lo_scan (by omega))) (vx_cwSW 3 hts gL_law_L_byNumber rfl rfl rfl (by decide +kernel) ⟨Nat.le_of_ble_eq_true rfl, Nat.le_of_ble_eq_true rfl⟩) hK hE hZ hP hD hS hA rfl hl.1 rfl (Nat.le_of_ble_eq_true rfl) dL_law_296 ⟨(by show C + 0 ≤ 310; omega), (by show S + 0 ≤ 3480; omega)⟩ (fun ub_25 H locs hu_26 hv_27 hP hD hS => ?_)
            obtain ⟨e91, e92, ev_29⟩ := vs_scn (m := mo) hR.2.2.1 (nI (2 + Z / 14 / 2 % 5))
            rw [← hR.2.2.2] at e91 ev_29
            have hR_28 : lo_R mo ua_22 ub_25 := lo_R.step hu_23 hv_24 hu_26 hv_27 e92 e91
            clear e91 e92
            refine lv_icmp_ne (tgt := 306) hx hb dL_law_299 (by decide) (fun c9 => absurd (ev_29.symm) c9) (fun _ => ?_)
            refine lv_iconst (v := 1) hx hb dL_law_302 (by decide) ?_
            refine lv_goto (tgt := 307) hx hb dL_law_303 (by decide) ?_
            refine lv_istore (lv' := [(5, .int 1), (11, .int (nI (2 + Z / 14 / 2 % 5))), (10, .int (nI K)), (9, .int (nI (Z / 14))), (8, .int (nI (Z % 14))), (6, .int (nI j)), (4, .int (nI La)), (3, .int mo), (2, .ref x2), (1, .ref x1), (0, .ref b)]) hx hb dL_law_307 hl (by decide) rfl (fun ls hl => ?_)
            refine lv_goto (tgt := 338) hx hb dL_law_309 (by decide) ?_
            exact K9 La ua_22 ub_25 H locs ls hLa hR_28 hP hD hS (lv_sub hl [2, 3, 4, 5, 0, 6, 7, 8, 9, 10] rfl)
          · skip
            refine lv_iconst (v := 0) hx hb dL_law_271 (by decide) ?_
            refine lv_goto (tgt := 283) hx hb dL_law_272 (by decide) ?_
            refine lv_istore (lv' := [(11, .int 0), (10, .int (nI K)), (9, .int (nI (Z / 14))), (8, .int (nI (Z % 14))), (6, .int (nI j)), (5, .int 1), (4, .int (nI La)), (3, .int mo), (2, .ref x2), (1, .ref x1), (0, .ref b)]) hx hb dL_law_283 hl (by decide) rfl (fun ls hl => ?_)
            refine lv_aload_n hx hb dL_law_285 rfl (lv_at hl 9 rfl) ?_
            refine lv_iconst (v := 1) hx hb dL_law_286 (by decide) ?_
            refine lv_iload hx hb dL_law_287 (lv_at hl 0 rfl) ?_
            refine kl_SA (As := [.ref x1, .int 1, .int 0]) (rest := []) ⟨hx, hb, hml, hown, hts⟩ (c_L_byNumber1 l D cy x1 lh1 lk1 ph1 pk1 q1 qt1 ua hR.1 0 lo_scan0) (vx_cwSW 3 hts gL_law_L_byNumber rfl rfl rfl (by decide +kernel) ⟨Nat.le_of_ble_eq_true rfl, Nat.le_of_ble_eq_true rfl⟩) hK hE hZ hP hD hS hA rfl hl.1 rfl (Nat.le_of_ble_eq_true rfl) dL_law_289 ⟨(by show C + 0 ≤ 310; omega), (by show S + 0 ≤ 3480; omega)⟩ (fun ua_30 H locs hu_31 hv_32 hP hD hS => ?_)
            refine lv_aload_n hx hb dL_law_292 rfl (lv_at hl 8 rfl) ?_
            refine lv_iconst (v := 1) hx hb dL_law_293 (by decide) ?_
            refine lv_iload hx hb dL_law_294 (lv_at hl 0 rfl) ?_
            refine kl_SB (As := [.ref x2, .int 1, .int 0]) (rest := [.int (ua.1.1.2 7)]) ⟨hx, hb, hml, hown, hts⟩ (c_L_byNumber1 l D cy x2 lh2 lk2 ph2 pk2 q2 qt2 ub hR.2.1 0 lo_scan0) (vx_cwSW 3 hts gL_law_L_byNumber rfl rfl rfl (by decide +kernel) ⟨Nat.le_of_ble_eq_true rfl, Nat.le_of_ble_eq_true rfl⟩) hK hE hZ hP hD hS hA rfl hl.1 rfl (Nat.le_of_ble_eq_true rfl) dL_law_296 ⟨(by show C + 0 ≤ 310; omega), (by show S + 0 ≤ 3480; omega)⟩ (fun ub_33 H locs hu_34 hv_35 hP hD hS => ?_)
            obtain ⟨e91, e92, ev_37⟩ := vs_scn (m := mo) hR.2.2.1 0
            rw [← hR.2.2.2] at e91 ev_37
            have hR_36 : lo_R mo ua_30 ub_33 := lo_R.step hu_31 hv_32 hu_34 hv_35 e92 e91
            clear e91 e92
            refine lv_icmp_ne (tgt := 306) hx hb dL_law_299 (by decide) (fun c9 => absurd (ev_37.symm) c9) (fun _ => ?_)
            refine lv_iconst (v := 1) hx hb dL_law_302 (by decide) ?_
            refine lv_goto (tgt := 307) hx hb dL_law_303 (by decide) ?_
            refine lv_istore (lv' := [(5, .int 1), (11, .int 0), (10, .int (nI K)), (9, .int (nI (Z / 14))), (8, .int (nI (Z % 14))), (6, .int (nI j)), (4, .int (nI La)), (3, .int mo), (2, .ref x2), (1, .ref x1), (0, .ref b)]) hx hb dL_law_307 hl (by decide) rfl (fun ls hl => ?_)
            refine lv_goto (tgt := 338) hx hb dL_law_309 (by decide) ?_
            exact K9 La ua_30 ub_33 H locs ls hLa hR_36 hP hD hS (lv_sub hl [2, 3, 4, 5, 0, 6, 7, 8, 9, 10] rfl)
      · skip
        refine lv_aload_n hx hb dL_law_220 rfl (lv_at hl 8 rfl) ?_
        refine lv_iconst (v := 0) hx hb dL_law_221 (by decide) ?_
        refine lv_iconst (v := 1) hx hb dL_law_222 (by decide) ?_
        refine lv_iload hx hb dL_law_223 (lv_at hl 1 rfl) ?_
        refine lv_bipush (v := 14) hx hb dL_law_225 (by decide) ?_
        refine lv_irem hx hb dL_law_227 (by decide) ?_
        refine lv_topi (fun y_38 ey_38 => ?_)
        have ey_38 : y_38 = nI ((Z / 14) % 14) := ey_38.trans (show (nI (Z / 14)) - (nI (Z / 14)) / nI 14 * nI 14 = _ from pk_rem (by omega) (by decide) (by decide))
        subst ey_38
        refine lv_iadd hx hb dL_law_228 ?_
        refine lv_topi (fun y_39 ey_39 => ?_)
        have ey_39 : y_39 = nI (1 + Z / 14 % 14) := ey_39.trans (show nI 1 + nI (Z / 14 % 14) = _ from nI_add _ _)
        subst ey_39
        refine kl_SA (As := [.ref x1, .int 0, .int (nI (1 + Z / 14 % 14))]) (rest := []) ⟨hx, hb, hml, hown, hts⟩ (c_L_byNumber0 l D cy x1 lh1 lk1 ph1 pk1 q1 qt1 ua hR.1 (nI (1 + Z / 14 % 14)) (lo_cap (by omega))) (vx_cwSW 3 hts gL_law_L_byNumber rfl rfl rfl (by decide +kernel) ⟨Nat.le_of_ble_eq_true rfl, Nat.le_of_ble_eq_true rfl⟩) hK hE hZ hP hD hS hA rfl hl.1 rfl (Nat.le_of_ble_eq_true rfl) dL_law_229 ⟨(by show C + 0 ≤ 310; omega), (by show S + 0 ≤ 3480; omega)⟩ (fun ua_40 H locs hu_41 hv_42 hP hD hS => ?_)
        refine lv_aload_n hx hb dL_law_232 rfl (lv_at hl 7 rfl) ?_
        refine lv_iconst (v := 0) hx hb dL_law_233 (by decide) ?_
        refine lv_iconst (v := 1) hx hb dL_law_234 (by decide) ?_
        refine lv_iload hx hb dL_law_235 (lv_at hl 1 rfl) ?_
        refine lv_bipush (v := 14) hx hb dL_law_237 (by decide) ?_
        refine lv_irem hx hb dL_law_239 (by decide) ?_
        refine lv_topi (fun y_43 ey_43 => ?_)
        have ey_43 : y_43 = nI ((Z / 14) % 14) := ey_43.trans (show (nI (Z / 14)) - (nI (Z / 14)) / nI 14 * nI 14 = _ from pk_rem (by omega) (by decide) (by decide))
        subst ey_43
        refine lv_iadd hx hb dL_law_240 ?_
        refine lv_topi (fun y_44 ey_44 => ?_)
        have ey_44 : y_44 = nI (1 + Z / 14 % 14) := ey_44.trans (show nI 1 + nI (Z / 14 % 14) = _ from nI_add _ _)
        subst ey_44
        refine kl_SB (As := [.ref x2, .int 0, .int (nI (1 + Z / 14 % 14))]) (rest := [.int (c_capN ua.1.1 (nI (1 + Z / 14 % 14)))]) ⟨hx, hb, hml, hown, hts⟩ (c_L_byNumber0 l D cy x2 lh2 lk2 ph2 pk2 q2 qt2 ub hR.2.1 (nI (1 + Z / 14 % 14)) (lo_cap (by omega))) (vx_cwSW 3 hts gL_law_L_byNumber rfl rfl rfl (by decide +kernel) ⟨Nat.le_of_ble_eq_true rfl, Nat.le_of_ble_eq_true rfl⟩) hK hE hZ hP hD hS hA rfl hl.1 rfl (Nat.le_of_ble_eq_true rfl) dL_law_241 ⟨(by show C + 0 ≤ 310; omega), (by show S + 0 ≤ 3480; omega)⟩ (fun ub_45 H locs hu_46 hv_47 hP hD hS => ?_)
        obtain ⟨e91, e92, ev_49⟩ := vs_cap hmo hR.2.2.1 (nI (1 + Z / 14 % 14))
        rw [← hR.2.2.2] at e91 ev_49
        have hR_48 : lo_R mo ua_40 ub_45 := lo_R.step hu_41 hv_42 hu_46 hv_47 e92 e91
        clear e91 e92
        refine lv_icmp_ne (tgt := 251) hx hb dL_law_244 (by decide) (fun c9 => absurd (ev_49.symm) c9) (fun _ => ?_)
        refine lv_iconst (v := 1) hx hb dL_law_247 (by decide) ?_
        refine lv_goto (tgt := 252) hx hb dL_law_248 (by decide) ?_
        refine lv_istore (lv' := [(5, .int 1), (10, .int (nI K)), (9, .int (nI (Z / 14))), (8, .int (nI (Z % 14))), (6, .int (nI j)), (4, .int (nI La)), (3, .int mo), (2, .ref x2), (1, .ref x1), (0, .ref b)]) hx hb dL_law_252 hl (by decide) rfl (fun ls hl => ?_)
        refine lv_goto (tgt := 338) hx hb dL_law_254 (by decide) ?_
        exact K9 La ua_40 ub_45 H locs ls hLa hR_48 hP hD hS (lv_sub hl [1, 2, 3, 4, 0, 5, 6, 7, 8, 9] rfl)
    · skip
      refine lv_aload_n hx hb dL_law_184 rfl (lv_at hl 8 rfl) ?_
      refine lv_iconst (v := 1) hx hb dL_law_185 (by decide) ?_
      refine lv_iload hx hb dL_law_186 (lv_at hl 0 rfl) ?_
      refine kl_SA (As := [.ref x1, .int 1, .int (nI K)]) (rest := []) ⟨hx, hb, hml, hown, hts⟩ (c_L_byKey1 l D cy x1 lh1 lk1 ph1 pk1 q1 qt1 ua hR.1 (nI K) (s_nb hsk)) (vx_cwSW 3 hts gL_law_L_byKey rfl rfl rfl (by decide +kernel) ⟨Nat.le_of_ble_eq_true rfl, Nat.le_of_ble_eq_true rfl⟩) hK hE hZ hP hD hS hA rfl hl.1 rfl (Nat.le_of_ble_eq_true rfl) dL_law_188 ⟨(by show C + 0 ≤ 310; omega), (by show S + 0 ≤ 3480; omega)⟩ (fun ua_50 H locs hu_51 hv_52 hP hD hS => ?_)
      refine lv_aload_n hx hb dL_law_191 rfl (lv_at hl 7 rfl) ?_
      refine lv_iconst (v := 1) hx hb dL_law_192 (by decide) ?_
      refine lv_iload hx hb dL_law_193 (lv_at hl 0 rfl) ?_
      refine lv_iload_n hx hb dL_law_195 rfl (lv_at hl 6 rfl) ?_
      refine lv_iadd hx hb dL_law_196 ?_
      refine kl_SB (As := [.ref x2, .int 1, .int ((nI K) + mo)]) (rest := [.int (c_list ua.1.1 (nI K))]) ⟨hx, hb, hml, hown, hts⟩ (c_L_byKey1 l D cy x2 lh2 lk2 ph2 pk2 q2 qt2 ub hR.2.1 ((nI K) + mo) (s_nbm hsk hmo)) (vx_cwSW 3 hts gL_law_L_byKey rfl rfl rfl (by decide +kernel) ⟨Nat.le_of_ble_eq_true rfl, Nat.le_of_ble_eq_true rfl⟩) hK hE hZ hP hD hS hA rfl hl.1 rfl (Nat.le_of_ble_eq_true rfl) dL_law_197 ⟨(by show C + 0 ≤ 310; omega), (by show S + 0 ≤ 3480; omega)⟩ (fun ub_53 H locs hu_54 hv_55 hP hD hS => ?_)
      obtain ⟨e91, e92, ev_57⟩ := vs_rem (m := mo) hR.2.2.1 (nI K)
      rw [← hR.2.2.2] at e91 ev_57
      have hR_56 : lo_R mo ua_50 ub_53 := lo_R.step hu_51 hv_52 hu_54 hv_55 e92 e91
      clear e91 e92
      refine lv_icmp_ne (tgt := 207) hx hb dL_law_200 (by decide) (fun c9 => absurd (ev_57.symm) c9) (fun _ => ?_)
      refine lv_iconst (v := 1) hx hb dL_law_203 (by decide) ?_
      refine lv_goto (tgt := 208) hx hb dL_law_204 (by decide) ?_
      refine lv_istore (lv' := [(5, .int 1), (10, .int (nI K)), (9, .int (nI (Z / 14))), (8, .int (nI (Z % 14))), (6, .int (nI j)), (4, .int (nI La)), (3, .int mo), (2, .ref x2), (1, .ref x1), (0, .ref b)]) hx hb dL_law_208 hl (by decide) rfl (fun ls hl => ?_)
      refine lv_goto (tgt := 338) hx hb dL_law_210 (by decide) ?_
      exact K9 La ua_50 ub_53 H locs ls hLa hR_56 hP hD hS (lv_sub hl [1, 2, 3, 4, 0, 5, 6, 7, 8, 9] rfl)
  · skip
    refine lv_iload hx hb dL_law_144 (lv_at hl 0 rfl) ?_
    refine lv_istore (lv' := [(4, .int (nI K)), (10, .int (nI K)), (9, .int (nI (Z / 14))), (8, .int (nI (Z % 14))), (6, .int (nI j)), (5, .int 1), (3, .int mo), (2, .ref x2), (1, .ref x1), (0, .ref b)]) hx hb dL_law_146 hl (by decide) rfl (fun ls hl => ?_)
    refine lv_aload_n hx hb dL_law_148 rfl (lv_at hl 8 rfl) ?_
    refine lv_iconst (v := 0) hx hb dL_law_149 (by decide) ?_
    refine lv_iload hx hb dL_law_150 (lv_at hl 1 rfl) ?_
    refine kl_SA (As := [.ref x1, .int 0, .int (nI K)]) (rest := []) ⟨hx, hb, hml, hown, hts⟩ (c_L_byKey0 l D cy x1 lh1 lk1 ph1 pk1 q1 qt1 ua hR.1 (nI K) (s_nb hsk)) (vx_cwSW 3 hts gL_law_L_byKey rfl rfl rfl (by decide +kernel) ⟨Nat.le_of_ble_eq_true rfl, Nat.le_of_ble_eq_true rfl⟩) hK hE hZ hP hD hS hA rfl hl.1 rfl (Nat.le_of_ble_eq_true rfl) dL_law_152 ⟨(by show C + 0 ≤ 310; omega), (by show S + 0 ≤ 3480; omega)⟩ (fun ua_58 H locs hu_59 hv_60 hP hD hS => ?_)
    refine lv_aload_n hx hb dL_law_155 rfl (lv_at hl 7 rfl) ?_
    refine lv_iconst (v := 0) hx hb dL_law_156 (by decide) ?_
    refine lv_iload hx hb dL_law_157 (lv_at hl 1 rfl) ?_
    refine lv_iload_n hx hb dL_law_159 rfl (lv_at hl 6 rfl) ?_
    refine lv_iadd hx hb dL_law_160 ?_
    refine kl_SB (As := [.ref x2, .int 0, .int ((nI K) + mo)]) (rest := [.int ((c_serve ua.1.1 (nI K)).2)]) ⟨hx, hb, hml, hown, hts⟩ (c_L_byKey0 l D cy x2 lh2 lk2 ph2 pk2 q2 qt2 ub hR.2.1 ((nI K) + mo) (s_nbm hsk hmo)) (vx_cwSW 3 hts gL_law_L_byKey rfl rfl rfl (by decide +kernel) ⟨Nat.le_of_ble_eq_true rfl, Nat.le_of_ble_eq_true rfl⟩) hK hE hZ hP hD hS hA rfl hl.1 rfl (Nat.le_of_ble_eq_true rfl) dL_law_161 ⟨(by show C + 0 ≤ 310; omega), (by show S + 0 ≤ 3480; omega)⟩ (fun ub_61 H locs hu_62 hv_63 hP hD hS => ?_)
    obtain ⟨e91, e92, ev_65⟩ := vs_req hmo hR.2.2.1 hsk
    rw [← hR.2.2.2] at e91 ev_65
    have hR_64 : lo_R mo ua_58 ub_61 := lo_R.step hu_59 hv_60 hu_62 hv_63 e92 e91
    clear e91 e92
    refine lv_icmp_ne (tgt := 171) hx hb dL_law_164 (by decide) (fun c9 => absurd (ev_65.symm) c9) (fun _ => ?_)
    refine lv_iconst (v := 1) hx hb dL_law_167 (by decide) ?_
    refine lv_goto (tgt := 172) hx hb dL_law_168 (by decide) ?_
    refine lv_istore (lv' := [(5, .int 1), (4, .int (nI K)), (10, .int (nI K)), (9, .int (nI (Z / 14))), (8, .int (nI (Z % 14))), (6, .int (nI j)), (3, .int mo), (2, .ref x2), (1, .ref x1), (0, .ref b)]) hx hb dL_law_172 hl (by decide) rfl (fun ls hl => ?_)
    refine lv_goto (tgt := 338) hx hb dL_law_174 (by decide) ?_
    exact K9 K ua_58 ub_61 H locs ls hKl hR_64 hP hD hS (lv_sub hl [2, 3, 4, 5, 0, 1, 6, 7, 8, 9] rfl)
