/-! ===== the law's loop ===== -/
set_option maxHeartbeats 4000000 in
set_option maxRecDepth 100000 in
theorem law_loop {p : Program} {l : Launch} {e : Env} {s : State} {m : MethodId} {args : Array Value} {below : List Frame} {meth : Method} {c : Code} {Q : State → Prop} {D : va_G} {cy : ClassId} {A : Nat → Prop} {b L : Nat} {xs : Nat → Int32} {x1 lh1 lk1 ph1 pk1 : Nat} {q1 qt1 : Nat → Nat} {x2 lh2 lk2 ph2 pk2 : Nat} {q2 qt2 : Nat → Nat} {mo : Int32}
    (hx : p.tables.exec = Jvm.exec) (hb : c.code = cL_law) (hml : c.maxLocals = 12) (hown : s.vm.findClass RL = some m.cls) (hts : ∀ w ∈ wsL_law, w.before args s = true) (hl9 : l.stackTraces = false) (hK : va_K D vwCl [(cy, .int)] s) (hE : ki_env s) (hZ : ki_Z A s s.heap) (hA : ∀ q, s.heap.size ≤ q → A q) (hL : L ≤ 260) (hX : va_X b L xs s s.heap) (hbl : b < s.heap.size) (hbA : ¬ A b) (hmo : s_n mo)
    (hEnd : ∀ (H : Heap) (locs : List Loc) (ls : Array Slot), va_S A s.heap H locs → W p l e room_1 s m args below meth c H locs 302 2912 Q (F0 m 472 ls [.int 1])) :
    ∀ (n9 j La : Nat) (ua ub : lo_U) (H : Heap) (locs : List Loc) (ls : Array Slot), 126 - j < n9 → 1 ≤ j → j ≤ 125 → La ≤ 49 → lo_R mo ua ub → va_P D vwCl (lo_w cy x1 lh1 lk1 ph1 pk1 q1 qt1 ua ++ lo_w cy x2 lh2 lk2 ph2 pk2 q2 qt2 ub) H → va_D A (lo_w cy x1 lh1 lk1 ph1 pk1 q1 qt1 ua ++ lo_w cy x2 lh2 lk2 ph2 pk2 q2 qt2 ub) → va_S A s.heap H locs → lv_has ls 12 [(6, .int (nI j)), (5, .int 1), (4, .int (nI La)), (3, .int mo), (2, .ref x2), (1, .ref x1), (0, .ref b)] → W p l e room_1 s m args below meth c H locs (46 + 8 * ((j - 1) / 4)) (1376 + 48 * ((j - 1) / 4)) Q (F0 m 35 ls []) := by
  intro n9
  induction n9 with
  | zero => intro j La ua ub H locs ls h; omega
  | succ n9 ih =>
    intro j La ua ub H locs ls hm9 h1 h125 hLa hR hP hD hS hl
    refine lv_iload hx hb dL_law_35 (lv_at hl 0 rfl) ?_
    refine lv_bipush (v := 125) hx hb dL_law_37 (by decide) ?_
    refine lv_icmp_ge (tgt := 453) hx hb dL_law_39 (by decide) (fun c9 => ?_) (fun c9 => ?_)
    · have hj : j = 125 := by
        rcases Nat.lt_or_ge j 125 with q9 | q9
        · exact absurd c9 (nI_ge (b := 125) q9 (by decide))
        · omega
      subst hj
      refine lv_iload hx hb dL_law_453 (lv_at hl 1 rfl) ?_
      refine lv_if_eq (tgt := 471) hx hb dL_law_455 (by decide) (fun c8 => absurd c8 (by decide)) (fun _ => ?_)
      refine lv_aload_n hx hb dL_law_458 rfl (lv_at hl 5 rfl) ?_
      refine lv_aload_n hx hb dL_law_459 rfl (lv_at hl 4 rfl) ?_
      refine lv_iload_n hx hb dL_law_460 rfl (lv_at hl 3 rfl) ?_
      refine kl_cN (wr := []) (As := [.ref x1, .ref x2, .int mo]) (rest := []) ⟨hx, hb, hml, hown, hts⟩ (c_L_areAlike l hl9 D cy x1 lh1 lk1 ph1 pk1 q1 qt1 x2 lh2 lk2 ph2 pk2 q2 qt2 mo ua ub hR) (va_cwS 3 hts gL_law_L_areAlike rfl rfl rfl (by decide +kernel) ⟨Nat.le_of_ble_eq_true rfl, Nat.le_of_ble_eq_true rfl⟩) hK hE hZ hP hD hS hA [0] rfl [0, 1, 2, 3, 4, 5, 6, 7, 8, 9, 10, 11, 12, 13, 14, 15, 16, 17, 18, 19, 20, 21, 22, 23, 24, 25, 26, 27, 28, 29, 30, 31, 32, 33, 34, 35, 36, 37, 38, 39, 40, 41, 42, 43, 44, 45] [] rfl (by decide) rfl rfl (by decide) rfl hl.1 rfl (Nat.le_of_ble_eq_true rfl) dL_law_461 ⟨Nat.le_of_ble_eq_true rfl, Nat.le_of_ble_eq_true rfl⟩ (fun r9 u9 H locs hw hP hD hS => ?_)
      obtain ⟨er9, hR9, hv9⟩ := hw
      subst er9
      refine lv_if_eq (tgt := 471) hx hb dL_law_464 (by decide) (fun c8 => absurd c8 (by decide)) (fun _ => ?_)
      refine lv_iconst (v := 1) hx hb dL_law_467 (by decide) ?_
      refine lv_goto (tgt := 472) hx hb dL_law_468 (by decide) ?_
      exact hEnd H locs ls hS
    · have hj : j < 125 := by
        rcases Nat.lt_or_ge j 125 with q9 | q9
        · exact q9
        · exact absurd (nI_le (a := 125) q9 (by omega)) c9
      clear c9
      refine lv_iload hx hb dL_law_42 (lv_at hl 1 rfl) ?_
      refine lv_if_eq (tgt := 453) hx hb dL_law_44 (by decide) (fun c8 => absurd c8 (by decide)) (fun _ => ?_)
      refine law_key hx hb hml hown hts hl9 hK hE hZ hA hL hX hbl hbA hmo h1 hj hLa (by omega) (by omega) hS (fun Z K ls hZ9 hK9 hl => ?_) hl
      refine law_arm hx hb hml hown hts hl9 hK hE hZ hA hL hX hbl hbA hmo hLa hZ9 hK9 (by omega) (by omega) hR hP hD hS (fun La ua ub H locs ls hLa hR hP hD hS hl => ?_) hl
      refine law_chk hx hb hml hown hts hl9 hK hE hZ hA hL hX hbl hbA hmo hj hLa hZ9 hK9 (by omega) (by omega) hR hP hD hS (fun ua ub H locs ls hR hP hD hS hl => ?_) hl
      refine lv_istore (lv' := [(5, .int 1), (10, .int (nI K)), (9, .int (nI (Z / 14))), (8, .int (nI (Z % 14))), (6, .int (nI j)), (4, .int (nI La)), (3, .int mo), (2, .ref x2), (1, .ref x1), (0, .ref b)]) hx hb dL_law_445 hl (by decide) rfl (fun ls hl => ?_)
      refine lv_iinc (v := nI (j + 1)) (lv' := [(6, .int (nI (j + 1))), (5, .int 1), (10, .int (nI K)), (9, .int (nI (Z / 14))), (8, .int (nI (Z % 14))), (4, .int (nI La)), (3, .int mo), (2, .ref x2), (1, .ref x1), (0, .ref b)]) hx hb dL_law_447 hl (k := 4) rfl (nI_1 j) (by decide) rfl (fun ls hl => ?_)
      refine lv_goto (tgt := 35) hx hb dL_law_450 (by decide) ?_
      have eC : 46 + 8 * ((j - 1) / 4) + (if j % 4 = 0 then 8 else 0) = 46 + 8 * ((j + 1 - 1) / 4) := by split <;> omega
      have eS : 1376 + 48 * ((j - 1) / 4) + (if j % 4 = 0 then 48 else 0) = 1376 + 48 * ((j + 1 - 1) / 4) := by split <;> omega
      rw [eC, eS]
      exact ih (j + 1) La ua ub H locs ls (by omega) (by omega) (by omega) hLa hR hP hD hS (lv_sub hl [0, 1, 5, 6, 7, 8, 9] rfl)
