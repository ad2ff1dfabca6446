/-! ===== the law's loop ===== -/
set_option maxHeartbeats 4000000 in
set_option maxRecDepth 100000 in
theorem law_loop {p : Program} {l : Launch} {e : Env} {s : State} {m : MethodId} {args : Array Value} {below : List Frame} {meth : Method} {c : Code} {Q : State → Prop} {D : va_G} {cy cJ : ClassId} {A : Nat → Prop} {b L : Nat} {xs : Nat → Int32} {o x lh lk ph pk mo an ae al ap : Nat} {q qt : Nat → Nat}
    (hx : p.tables.exec = Jvm.exec) (hb : c.code = cL_law) (hml : c.maxLocals = 7) (hown : s.vm.findClass RL = some m.cls) (hts : ∀ w ∈ wsL_law, w.before args s = true) (hl9 : l.stackTraces = false) (hK : va_K D vwCl [(cy, .int), (cJ, .long)] s) (hE : ki_env s) (hZ : ki_Z A s s.heap) (hA : ∀ q : Nat, s.heap.size ≤ q → A q) (hL : L ≤ 1024) (hX : va_X b L xs s s.heap) (hbl : b < s.heap.size) (hbA : ¬ A b)

    (hEnd : ∀ (H : Heap) (locs : List Loc) (ls : Array Slot) (cs ss : Nat), cs ≤ 1057 → ss ≤ 9739 → va_S A s.heap H locs → W p l e room_1 s m args below meth c H locs cs ss Q (F0 m 974 ls [.int 1])) :
    ∀ (n9 j : Nat) (fo : Nat → Int64) (st : ki_St) (F : Nat → Nat → Int32) (kk : Nat → Int32) (lg : List Int32) (fl : Nat → Int32) (sT : ki_St) (FT : Nat → Nat → Int32) (pg : List Int32) (fp : Nat → Int32) (t : Nat → Int32) (tt : Nat → Int32) (g : Nat → Int32) (pp : Nat → Int32) (th : Int32) (H : Heap) (locs : List Loc) (ls : Array Slot), L + 2 - 2 * j < n9 → 2 * j ≤ L → lw_I j st F lg fl sT FT pg fp t g → va_P D vwCl (lw_w cy cJ o x lh lk ph pk mo an ae al ap q qt fo st F kk lg fl sT FT pg fp t tt g pp th) H → va_D A (lw_w cy cJ o x lh lk ph pk mo an ae al ap q qt fo st F kk lg fl sT FT pg fp t tt g pp th) → va_S A s.heap H locs → lv_has ls 7 [(0, .ref b), (1, .ref x), (2, .ref mo), (3, .ref o), (4, .int (nI (2 * j)))] → W p l e room_1 s m args below meth c H locs (29 + j) (1523 + 6 * j) Q (F0 m 23 ls []) := by
  intro n9
  induction n9 with
  | zero => intro j fo st F kk lg fl sT FT pg fp t tt g pp th H locs ls h; omega
  | succ n9 ih =>
    intro j fo st F kk lg fl sT FT pg fp t tt g pp th H locs ls hm9 hj9 hI hP hD hS hl
    refine lv_iload hx hb dL_law_23 (lv_at hl 4 rfl) ?_
    refine lv_aload_n hx hb dL_law_25 rfl (lv_at hl 0 rfl) ?_
    refine va_slen hx hb hX hbl hbA hS dL_law_26 ?_
    refine lv_iconst (v := 2) hx hb dL_law_27 (by decide) ?_
    refine lv_isub hx hb dL_law_28 ?_
    refine lv_icmp_gt (tgt := 973) hx hb dL_law_29 (by decide) (fun c9 => ?_) (fun c9 => ?_)
    · refine lv_iconst (v := 1) hx hb dL_law_973 (by decide) ?_
      exact hEnd H locs ls (29 + j) (1523 + 6 * j) (by omega) (by omega) hS
    · skip
      have hj : 2 * j + 2 ≤ L := by
        rcases Nat.lt_or_ge L (2 * j + 2) with q9 | q9
        · exact absurd (show nI L - nI 2 < nI (2 * j) from Int32.lt_iff_toInt_lt.mpr (by rw [pk_sub_toInt (a := L) (b := 2) (by omega) (by omega), nI_toInt (by omega)]; omega)) c9
        · exact q9
      refine lv_aload_n hx hb dL_law_32 rfl (lv_at hl 0 rfl) ?_
      refine lv_iload hx hb dL_law_33 (lv_at hl 4 rfl) ?_
      refine va_sld hx hb hX hbl hbA hS (vp_in_nI (by omega) (by omega)) dL_law_35 ?_
      refine lv_bipush (v := 31) hx hb dL_law_36 (by decide) ?_
      refine lv_iand hx hb dL_law_38 ?_
      refine lv_topi (fun y9 ey9 => ?_)
      have K : ∀ (fo : Nat → Int64) (st : ki_St) (F : Nat → Nat → Int32) (kk : Nat → Int32) (lg : List Int32) (fl : Nat → Int32) (sT : ki_St) (FT : Nat → Nat → Int32) (pg : List Int32) (fp : Nat → Int32) (t : Nat → Int32) (tt : Nat → Int32) (g : Nat → Int32) (pp : Nat → Int32) (th : Int32) (H : Heap) (locs : List Loc) (ls : Array Slot), lw_I (j + 1) st F lg fl sT FT pg fp t g → va_P D vwCl (lw_w cy cJ o x lh lk ph pk mo an ae al ap q qt fo st F kk lg fl sT FT pg fp t tt g pp th) H → va_D A (lw_w cy cJ o x lh lk ph pk mo an ae al ap q qt fo st F kk lg fl sT FT pg fp t tt g pp th) → va_S A s.heap H locs → lv_has ls 7 [(0, .ref b), (1, .ref x), (2, .ref mo), (3, .ref o), (4, .int (nI (2 * j)))] → W p l e room_1 s m args below meth c H locs (29 + (j + 1)) (1523 + 6 * (j + 1)) Q (F0 m 967 ls []) := by
        intro fo st F kk lg fl sT FT pg fp t tt g pp th H locs ls hI hP hD hS hl
        have e2 : nI (2 * j) + 2 = nI (2 * (j + 1)) := by show nI (2 * j) + nI 2 = _; rw [nI_add]; rfl
        refine lv_iinc (v := nI (2 * (j + 1))) (lv' := [(4, .int (nI (2 * (j + 1)))), (0, .ref b), (1, .ref x), (2, .ref mo), (3, .ref o)]) hx hb dL_law_967 hl (k := 4) rfl e2 (by decide) rfl (fun ls hl => ?_)
        refine lv_goto (tgt := 23) hx hb dL_law_970 (by decide) ?_
        exact ih (j + 1) fo st F kk lg fl sT FT pg fp t tt g pp th H locs ls (by omega) (by omega) hI hP hD hS (lv_sub hl [1, 2, 3, 4, 0] rfl)
      by_cases h1 : y9.toInt < 0 ∨ 25 < y9.toInt
      · refine lv_tableOut hx hb dL_law_39 h1 (tgt := 967) (by decide) ?_
        refine W.widen (k := 29 + (j + 1)) (n := 1523 + 6 * (j + 1)) (by omega) (by omega) ?_
        exact K fo st F kk lg fl sT FT pg fp t tt g pp th H locs ls ⟨p_mono hI.1 (by omega), hI.2⟩ hP hD hS hl
      · have h2 : ¬ y9.toInt < 0 := fun q => h1 (Or.inl q)
        have h3 : ¬ 25 < y9.toInt := fun q => h1 (Or.inr q)
        obtain ⟨k9, hk9, hk⟩ : ∃ k : Nat, k < 26 ∧ (y9.toInt - 0).toNat = k := ⟨(y9.toInt - 0).toNat, by omega, rfl⟩
        rcases (show k9 = 0 ∨ k9 = 1 ∨ k9 = 2 ∨ k9 = 3 ∨ k9 = 4 ∨ k9 = 5 ∨ k9 = 6 ∨ k9 = 7 ∨ k9 = 8 ∨ k9 = 9 ∨ k9 = 10 ∨ k9 = 11 ∨ k9 = 12 ∨ k9 = 13 ∨ k9 = 14 ∨ k9 = 15 ∨ k9 = 16 ∨ k9 = 17 ∨ k9 = 18 ∨ k9 = 19 ∨ k9 = 20 ∨ k9 = 21 ∨ k9 = 22 ∨ k9 = 23 ∨ k9 = 24 ∨ k9 = 25 by omega) with rfl | rfl | rfl | rfl | rfl | rfl | rfl | rfl | rfl | rfl | rfl | rfl | rfl | rfl | rfl | rfl | rfl | rfl | rfl | rfl | rfl | rfl | rfl | rfl | rfl | rfl
        · exact lv_tableIn hx hb dL_law_39 h2 h3 (off := 117) (by rw [hk]; rfl) (tgt := 156) (by decide) (la_request hx hb hml hown hts hl9 hK hE hZ hA hL hX hbl hbA hj K hI hP hD hS hl)
        · exact lv_tableIn hx hb dL_law_39 h2 h3 (off := 173) (by rw [hk]; rfl) (tgt := 212) (by decide) (la_remove hx hb hml hown hts hl9 hK hE hZ hA hL hX hbl hbA hj K hI hP hD hS hl)
        · exact lv_tableIn hx hb dL_law_39 h2 h3 (off := 229) (by rw [hk]; rfl) (tgt := 268) (by decide) (la_clear hx hb hml hown hts hl9 hK hE hZ hA hL hX hbl hbA hj K hI hP hD hS hl)
        · exact lv_tableIn hx hb dL_law_39 h2 h3 (off := 242) (by rw [hk]; rfl) (tgt := 281) (by decide) (la_setCapacity hx hb hml hown hts hl9 hK hE hZ hA hL hX hbl hbA hj K hI hP hD hS hl)
        · exact lv_tableIn hx hb dL_law_39 h2 h3 (off := 298) (by rw [hk]; rfl) (tgt := 337) (by decide) (la_capacity hx hb hml hown hts hl9 hK hE hZ hA hL hX hbl hbA hj K hI hP hD hS hl)
        · exact lv_tableIn hx hb dL_law_39 h2 h3 (off := 311) (by rw [hk]; rfl) (tgt := 350) (by decide) (la_setScanLength hx hb hml hown hts hl9 hK hE hZ hA hL hX hbl hbA hj K hI hP hD hS hl)
        · exact lv_tableIn hx hb dL_law_39 h2 h3 (off := 367) (by rw [hk]; rfl) (tgt := 406) (by decide) (la_run hx hb hml hown hts hl9 hK hE hZ hA hL hX hbl hbA hj K hI hP hD hS hl)
        · exact lv_tableIn hx hb dL_law_39 h2 h3 (off := 380) (by rw [hk]; rfl) (tgt := 419) (by decide) (la_target hx hb hml hown hts hl9 hK hE hZ hA hL hX hbl hbA hj K hI hP hD hS hl)
        · exact lv_tableIn hx hb dL_law_39 h2 h3 (off := 393) (by rw [hk]; rfl) (tgt := 432) (by decide) (la_size hx hb hml hown hts hl9 hK hE hZ hA hL hX hbl hbA hj K hI hP hD hS hl)
        · exact lv_tableIn hx hb dL_law_39 h2 h3 (off := 406) (by rw [hk]; rfl) (tgt := 445) (by decide) (la_whereIs hx hb hml hown hts hl9 hK hE hZ hA hL hX hbl hbA hj K hI hP hD hS hl)
        · exact lv_tableIn hx hb dL_law_39 h2 h3 (off := 462) (by rw [hk]; rfl) (tgt := 501) (by decide) (la_victim hx hb hml hown hts hl9 hK hE hZ hA hL hX hbl hbA hj K hI hP hD hS hl)
        · exact lv_tableIn hx hb dL_law_39 h2 h3 (off := 475) (by rw [hk]; rfl) (tgt := 514) (by decide) (la_recentSize hx hb hml hown hts hl9 hK hE hZ hA hL hX hbl hbA hj K hI hP hD hS hl)
        · exact lv_tableIn hx hb dL_law_39 h2 h3 (off := 488) (by rw [hk]; rfl) (tgt := 527) (by decide) (la_frequentSize hx hb hml hown hts hl9 hK hE hZ hA hL hX hbl hbA hj K hI hP hD hS hl)
        · exact lv_tableIn hx hb dL_law_39 h2 h3 (off := 501) (by rw [hk]; rfl) (tgt := 540) (by decide) (la_recentGhosts hx hb hml hown hts hl9 hK hE hZ hA hL hX hbl hbA hj K hI hP hD hS hl)
        · exact lv_tableIn hx hb dL_law_39 h2 h3 (off := 514) (by rw [hk]; rfl) (tgt := 553) (by decide) (la_frequentGhosts hx hb hml hown hts hl9 hK hE hZ hA hL hX hbl hbA hj K hI hP hD hS hl)
        · exact lv_tableIn hx hb dL_law_39 h2 h3 (off := 527) (by rw [hk]; rfl) (tgt := 566) (by decide) (la_recentAt hx hb hml hown hts hl9 hK hE hZ hA hL hX hbl hbA hj K hI hP hD hS hl)
        · exact lv_tableIn hx hb dL_law_39 h2 h3 (off := 583) (by rw [hk]; rfl) (tgt := 622) (by decide) (la_frequentAt hx hb hml hown hts hl9 hK hE hZ hA hL hX hbl hbA hj K hI hP hD hS hl)
        · exact lv_tableIn hx hb dL_law_39 h2 h3 (off := 639) (by rw [hk]; rfl) (tgt := 678) (by decide) (la_recentGhostAt hx hb hml hown hts hl9 hK hE hZ hA hL hX hbl hbA hj K hI hP hD hS hl)
        · exact lv_tableIn hx hb dL_law_39 h2 h3 (off := 695) (by rw [hk]; rfl) (tgt := 734) (by decide) (la_frequentGhostAt hx hb hml hown hts hl9 hK hE hZ hA hL hX hbl hbA hj K hI hP hD hS hl)
        · exact lv_tableIn hx hb dL_law_39 h2 h3 (off := 751) (by rw [hk]; rfl) (tgt := 790) (by decide) (la_requests hx hb hml hown hts hl9 hK hE hZ hA hL hX hbl hbA hj K hI hP hD hS hl)
        · exact lv_tableIn hx hb dL_law_39 h2 h3 (off := 764) (by rw [hk]; rfl) (tgt := 803) (by decide) (la_hits hx hb hml hown hts hl9 hK hE hZ hA hL hX hbl hbA hj K hI hP hD hS hl)
        · exact lv_tableIn hx hb dL_law_39 h2 h3 (off := 777) (by rw [hk]; rfl) (tgt := 816) (by decide) (la_ghostHits hx hb hml hown hts hl9 hK hE hZ hA hL hX hbl hbA hj K hI hP hD hS hl)
        · exact lv_tableIn hx hb dL_law_39 h2 h3 (off := 790) (by rw [hk]; rfl) (tgt := 829) (by decide) (la_bypassed hx hb hml hown hts hl9 hK hE hZ hA hL hX hbl hbA hj K hI hP hD hS hl)
        · exact lv_tableIn hx hb dL_law_39 h2 h3 (off := 803) (by rw [hk]; rfl) (tgt := 842) (by decide) (la_evictions hx hb hml hown hts hl9 hK hE hZ hA hL hX hbl hbA hj K hI hP hD hS hl)
        · exact lv_tableIn hx hb dL_law_39 h2 h3 (off := 816) (by rw [hk]; rfl) (tgt := 855) (by decide) (la_hitsIf hx hb hml hown hts hl9 hK hE hZ hA hL hX hbl hbA hj K hI hP hD hS hl)
        · exact lv_tableIn hx hb dL_law_39 h2 h3 (off := 872) (by rw [hk]; rfl) (tgt := 911) (by decide) (la_leastRecentHitsIf hx hb hml hown hts hl9 hK hE hZ hA hL hX hbl hbA hj K hI hP hD hS hl)
