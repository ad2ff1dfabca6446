/-! ===== what a step asks for ===== -/
set_option maxHeartbeats 4000000 in
set_option maxRecDepth 100000 in
theorem law_key {p : Program} {l : Launch} {e : Env} {s : State} {m : MethodId} {args : Array Value} {below : List Frame} {meth : Method} {c : Code} {Q : State → Prop} {D : va_G} {cy : ClassId} {A : Nat → Prop} {b L : Nat} {xs : Nat → Int32} {x1 : Nat} {x2 : Nat} {mo : Int32}
    (hx : p.tables.exec = Jvm.exec) (hb : c.code = cL_law) (hml : c.maxLocals = 12) (hown : s.vm.findClass RL = some m.cls) (hts : ∀ w ∈ wsL_law, w.before args s = true) (hl9 : l.stackTraces = false) (hK : va_K D vwCl [(cy, .int)] s) (hE : ki_env s) (hZ : ki_Z A s s.heap) (hA : ∀ q, s.heap.size ≤ q → A q) (hL : L ≤ 260) (hX : va_X b L xs s s.heap) (hbl : b < s.heap.size) (hbA : ¬ A b) (hmo : s_n mo) {j La C S : Nat} {H : Heap} {locs : List Loc} {ls : Array Slot} (hj : 1 ≤ j) (hj2 : j < 125) (hLa : La ≤ 49) (hC : C ≤ 302) (hSl : S ≤ 2912) (hS : va_S A s.heap H locs)
    (K9 : ∀ (Z K : Nat) (ls : Array Slot), Z < 2 ^ 31 → K ≤ 49 → lv_has ls 12 [(10, .int (nI K)), (9, .int (nI (Z / 14))), (8, .int (nI (Z % 14))), (6, .int (nI j)), (5, .int 1), (4, .int (nI La)), (3, .int mo), (2, .ref x2), (1, .ref x1), (0, .ref b)] → W p l e room_1 s m args below meth c H locs C S Q (F0 m 137 ls []))
    (hl : lv_has ls 12 [(6, .int (nI j)), (5, .int 1), (4, .int (nI La)), (3, .int mo), (2, .ref x2), (1, .ref x1), (0, .ref b)]) : W p l e room_1 s m args below meth c H locs C S Q (F0 m 47 ls []) := by
  refine lv_aload_n hx hb dL_law_47 rfl (lv_at hl 6 rfl) ?_
  refine lv_iload hx hb dL_law_48 (lv_at hl 0 rfl) ?_
  refine lv_bipush (v := 62) hx hb dL_law_50 (by decide) ?_
  refine lv_irem hx hb dL_law_52 (by decide) ?_
  refine lv_topi (fun y_1 ey_1 => ?_)
  have ey_1 : y_1 = nI (j % 62) := ey_1.trans (show (nI j) - (nI j) / nI 62 * nI 62 = _ from pk_rem (by omega) (by decide) (by decide))
  subst ey_1
  refine kl_dr (rest := []) ⟨hx, hb, hml, hown, hts⟩ (c_L_drawn l b L xs hL (j % 62) (Nat.mod_lt _ (by decide))) (va_cwS 2 hts gL_law_L_drawn rfl rfl rfl (by decide +kernel) ⟨Nat.le_of_ble_eq_true rfl, Nat.le_of_ble_eq_true rfl⟩) hX hbl hbA hS hl.1 (Nat.le_of_ble_eq_true rfl) dL_law_53 ⟨(by show C ≤ 310; omega), (by show S ≤ 3480; omega)⟩ ?_
  obtain ⟨Z_3, hZ_3, eZ_3⟩ := lo_drN L xs (j % 62)
  rw [eZ_3]
  refine lv_iconst (v := 1) hx hb dL_law_56 (by decide) ?_
  refine lv_iload hx hb dL_law_57 (lv_at hl 0 rfl) ?_
  refine lv_bipush (v := 62) hx hb dL_law_59 (by decide) ?_
  refine lv_idiv hx hb dL_law_61 (by decide) ?_
  refine lv_topi (fun y_4 ey_4 => ?_)
  have ey_4 : y_4 = nI (j / 62) := ey_4.trans (show (nI j) / nI 62 = _ from pk_div (by omega) (by decide) (by decide))
  subst ey_4
  refine lv_iadd hx hb dL_law_62 ?_
  refine lv_topi (fun y_5 ey_5 => ?_)
  have ey_5 : y_5 = nI (1 + j / 62) := ey_5.trans (show nI 1 + nI (j / 62) = _ from nI_add _ _)
  subst ey_5
  refine lv_idiv hx hb dL_law_63 (nI_ne0 (by omega) (by omega)) ?_
  refine lv_topi (fun y_6 ey_6 => ?_)
  have ey_6 : y_6 = nI (Z_3 / (1 + j / 62)) := ey_6.trans (pk_div (by omega) (by omega) (by omega))
  subst ey_6
  refine lv_bipush (v := 17) hx hb dL_law_64 (by decide) ?_
  refine lv_iload hx hb dL_law_66 (lv_at hl 0 rfl) ?_
  refine lv_bipush (v := 62) hx hb dL_law_68 (by decide) ?_
  refine lv_idiv hx hb dL_law_70 (by decide) ?_
  refine lv_topi (fun y_7 ey_7 => ?_)
  have ey_7 : y_7 = nI (j / 62) := ey_7.trans (show (nI j) / nI 62 = _ from pk_div (by omega) (by decide) (by decide))
  subst ey_7
  refine lv_imul hx hb dL_law_71 ?_
  refine lv_topi (fun y_8 ey_8 => ?_)
  have ey_8 : y_8 = nI (17 * (j / 62)) := ey_8.trans (show nI 17 * nI (j / 62) = _ from pk_mul _ _)
  subst ey_8
  refine lv_iadd hx hb dL_law_72 ?_
  refine lv_topi (fun y_9 ey_9 => ?_)
  have ey_9 : y_9 = nI (Z_3 / (1 + j / 62) + 17 * (j / 62)) := ey_9.trans (nI_add _ _)
  subst ey_9
  have hz2 : Z_3 / (1 + j / 62) ≤ Z_3 := Nat.div_le_self _ _
  have hj62 : j / 62 ≤ 2 := by omega
  have hz3 : Z_3 / (1 + j / 62) + 17 * (j / 62) < 2 ^ 31 := by
    by_cases h62 : j / 62 = 0
    · rw [h62]
      show Z_3 / 1 + 17 * 0 < 2 ^ 31
      rw [Nat.div_one]
      omega
    · have h9 : Z_3 / (1 + j / 62) ≤ Z_3 / 2 := Nat.div_le_div_left (by omega) (by decide)
      omega
  obtain ⟨Z, eZ⟩ : ∃ Z : Nat, Z = Z_3 / (1 + j / 62) + 17 * (j / 62) := ⟨_, rfl⟩
  rw [← eZ] at hz3 ⊢
  clear eZ hz2 hZ_3 eZ_3
  refine lv_istore (lv' := [(7, .int (nI Z)), (6, .int (nI j)), (5, .int 1), (4, .int (nI La)), (3, .int mo), (2, .ref x2), (1, .ref x1), (0, .ref b)]) hx hb dL_law_73 hl (by decide) rfl (fun ls hl => ?_)
  refine lv_iload hx hb dL_law_75 (lv_at hl 0 rfl) ?_
  refine lv_bipush (v := 14) hx hb dL_law_77 (by decide) ?_
  refine lv_irem hx hb dL_law_79 (by decide) ?_
  refine lv_topi (fun y_10 ey_10 => ?_)
  have ey_10 : y_10 = nI (Z % 14) := ey_10.trans (show (nI Z) - (nI Z) / nI 14 * nI 14 = _ from pk_rem (by omega) (by decide) (by decide))
  subst ey_10
  refine lv_istore (lv' := [(8, .int (nI (Z % 14))), (7, .int (nI Z)), (6, .int (nI j)), (5, .int 1), (4, .int (nI La)), (3, .int mo), (2, .ref x2), (1, .ref x1), (0, .ref b)]) hx hb dL_law_80 hl (by decide) rfl (fun ls hl => ?_)
  refine lv_iload hx hb dL_law_82 (lv_at hl 1 rfl) ?_
  refine lv_bipush (v := 14) hx hb dL_law_84 (by decide) ?_
  refine lv_idiv hx hb dL_law_86 (by decide) ?_
  refine lv_topi (fun y_11 ey_11 => ?_)
  have ey_11 : y_11 = nI (Z / 14) := ey_11.trans (show (nI Z) / nI 14 = _ from pk_div (by omega) (by decide) (by decide))
  subst ey_11
  refine lv_istore (lv' := [(9, .int (nI (Z / 14))), (8, .int (nI (Z % 14))), (7, .int (nI Z)), (6, .int (nI j)), (5, .int 1), (4, .int (nI La)), (3, .int mo), (2, .ref x2), (1, .ref x1), (0, .ref b)]) hx hb dL_law_87 hl (by decide) rfl (fun ls hl => ?_)
  refine lv_iload hx hb dL_law_89 (lv_at hl 0 rfl) ?_
  refine lv_iconst (v := 3) hx hb dL_law_91 (by decide) ?_
  refine lv_irem hx hb dL_law_92 (by decide) ?_
  refine lv_topi (fun y_12 ey_12 => ?_)
  have ey_12 : y_12 = nI ((Z / 14) % 3) := ey_12.trans (show (nI (Z / 14)) - (nI (Z / 14)) / nI 3 * nI 3 = _ from pk_rem (by omega) (by decide) (by decide))
  subst ey_12
  refine lv_if_ne (tgt := 110) hx hb dL_law_93 (by decide) (fun c_13 => ?_) (fun c_13 => ?_)
  · skip
    refine lv_iload hx hb dL_law_110 (lv_at hl 0 rfl) ?_
    refine lv_iconst (v := 3) hx hb dL_law_112 (by decide) ?_
    refine lv_irem hx hb dL_law_113 (by decide) ?_
    refine lv_topi (fun y_14 ey_14 => ?_)
    have ey_14 : y_14 = nI ((Z / 14) % 3) := ey_14.trans (show (nI (Z / 14)) - (nI (Z / 14)) / nI 3 * nI 3 = _ from pk_rem (by omega) (by decide) (by decide))
    subst ey_14
    refine lv_iconst (v := 1) hx hb dL_law_114 (by decide) ?_
    refine lv_icmp_ne (tgt := 128) hx hb dL_law_115 (by decide) (fun c_15 => ?_) (fun c_15 => ?_)
    · skip
      refine lv_iload hx hb dL_law_128 (lv_at hl 0 rfl) ?_
      refine lv_iconst (v := 3) hx hb dL_law_130 (by decide) ?_
      refine lv_idiv hx hb dL_law_131 (by decide) ?_
      refine lv_topi (fun y_16 ey_16 => ?_)
      have ey_16 : y_16 = nI ((Z / 14) / 3) := ey_16.trans (show (nI (Z / 14)) / nI 3 = _ from pk_div (by omega) (by decide) (by decide))
      subst ey_16
      refine lv_bipush (v := 15) hx hb dL_law_132 (by decide) ?_
      refine lv_irem hx hb dL_law_134 (by decide) ?_
      refine lv_topi (fun y_17 ey_17 => ?_)
      have ey_17 : y_17 = nI (((Z / 14) / 3) % 15) := ey_17.trans (show (nI ((Z / 14) / 3)) - (nI ((Z / 14) / 3)) / nI 15 * nI 15 = _ from pk_rem (by omega) (by decide) (by decide))
      subst ey_17
      refine lv_istore (lv' := [(10, .int (nI (((Z / 14) / 3) % 15))), (9, .int (nI (Z / 14))), (8, .int (nI (Z % 14))), (7, .int (nI Z)), (6, .int (nI j)), (5, .int 1), (4, .int (nI La)), (3, .int mo), (2, .ref x2), (1, .ref x1), (0, .ref b)]) hx hb dL_law_135 hl (by decide) rfl (fun ls hl => ?_)
      exact K9 Z (((Z / 14) / 3) % 15) ls hz3 (by omega) (lv_sub hl [0, 1, 2, 4, 5, 6, 7, 8, 9, 10] rfl)
    · skip
      refine lv_iload hx hb dL_law_118 (lv_at hl 0 rfl) ?_
      refine lv_iconst (v := 3) hx hb dL_law_120 (by decide) ?_
      refine lv_idiv hx hb dL_law_121 (by decide) ?_
      refine lv_topi (fun y_18 ey_18 => ?_)
      have ey_18 : y_18 = nI ((Z / 14) / 3) := ey_18.trans (show (nI (Z / 14)) / nI 3 = _ from pk_div (by omega) (by decide) (by decide))
      subst ey_18
      refine lv_bipush (v := 50) hx hb dL_law_122 (by decide) ?_
      refine lv_irem hx hb dL_law_124 (by decide) ?_
      refine lv_topi (fun y_19 ey_19 => ?_)
      have ey_19 : y_19 = nI (((Z / 14) / 3) % 50) := ey_19.trans (show (nI ((Z / 14) / 3)) - (nI ((Z / 14) / 3)) / nI 50 * nI 50 = _ from pk_rem (by omega) (by decide) (by decide))
      subst ey_19
      refine lv_goto (tgt := 135) hx hb dL_law_125 (by decide) ?_
      refine lv_istore (lv' := [(10, .int (nI (((Z / 14) / 3) % 50))), (9, .int (nI (Z / 14))), (8, .int (nI (Z % 14))), (7, .int (nI Z)), (6, .int (nI j)), (5, .int 1), (4, .int (nI La)), (3, .int mo), (2, .ref x2), (1, .ref x1), (0, .ref b)]) hx hb dL_law_135 hl (by decide) rfl (fun ls hl => ?_)
      exact K9 Z (((Z / 14) / 3) % 50) ls hz3 (by omega) (lv_sub hl [0, 1, 2, 4, 5, 6, 7, 8, 9, 10] rfl)
  · skip
    refine lv_iload hx hb dL_law_96 (lv_at hl 5 rfl) ?_
    refine lv_bipush (v := 49) hx hb dL_law_98 (by decide) ?_
    refine lv_icmp_ge (tgt := 110) hx hb dL_law_100 (by decide) (fun c_20 => ?_) (fun c_20 => ?_)
    · skip
      refine lv_iload hx hb dL_law_110 (lv_at hl 0 rfl) ?_
      refine lv_iconst (v := 3) hx hb dL_law_112 (by decide) ?_
      refine lv_irem hx hb dL_law_113 (by decide) ?_
      refine lv_topi (fun y_21 ey_21 => ?_)
      have ey_21 : y_21 = nI ((Z / 14) % 3) := ey_21.trans (show (nI (Z / 14)) - (nI (Z / 14)) / nI 3 * nI 3 = _ from pk_rem (by omega) (by decide) (by decide))
      subst ey_21
      refine lv_iconst (v := 1) hx hb dL_law_114 (by decide) ?_
      refine lv_icmp_ne (tgt := 128) hx hb dL_law_115 (by decide) (fun c_22 => ?_) (fun c_22 => ?_)
      · skip
        refine lv_iload hx hb dL_law_128 (lv_at hl 0 rfl) ?_
        refine lv_iconst (v := 3) hx hb dL_law_130 (by decide) ?_
        refine lv_idiv hx hb dL_law_131 (by decide) ?_
        refine lv_topi (fun y_23 ey_23 => ?_)
        have ey_23 : y_23 = nI ((Z / 14) / 3) := ey_23.trans (show (nI (Z / 14)) / nI 3 = _ from pk_div (by omega) (by decide) (by decide))
        subst ey_23
        refine lv_bipush (v := 15) hx hb dL_law_132 (by decide) ?_
        refine lv_irem hx hb dL_law_134 (by decide) ?_
        refine lv_topi (fun y_24 ey_24 => ?_)
        have ey_24 : y_24 = nI (((Z / 14) / 3) % 15) := ey_24.trans (show (nI ((Z / 14) / 3)) - (nI ((Z / 14) / 3)) / nI 15 * nI 15 = _ from pk_rem (by omega) (by decide) (by decide))
        subst ey_24
        refine lv_istore (lv' := [(10, .int (nI (((Z / 14) / 3) % 15))), (9, .int (nI (Z / 14))), (8, .int (nI (Z % 14))), (7, .int (nI Z)), (6, .int (nI j)), (5, .int 1), (4, .int (nI La)), (3, .int mo), (2, .ref x2), (1, .ref x1), (0, .ref b)]) hx hb dL_law_135 hl (by decide) rfl (fun ls hl => ?_)
        exact K9 Z (((Z / 14) / 3) % 15) ls hz3 (by omega) (lv_sub hl [0, 1, 2, 4, 5, 6, 7, 8, 9, 10] rfl)
      · skip
        refine lv_iload hx hb dL_law_118 (lv_at hl 0 rfl) ?_
        refine lv_iconst (v := 3) hx hb dL_law_120 (by decide) ?_
        refine lv_idiv hx hb dL_law_121 (by decide) ?_
        refine lv_topi (fun y_25 ey_25 => ?_)
        have ey_25 : y_25 = nI ((Z / 14) / 3) := ey_25.trans (show (nI (Z / 14)) / nI 3 = _ from pk_div (by omega) (by decide) (by decide))
        subst ey_25
        refine lv_bipush (v := 50) hx hb dL_law_122 (by decide) ?_
        refine lv_irem hx hb dL_law_124 (by decide) ?_
        refine lv_topi (fun y_26 ey_26 => ?_)
        have ey_26 : y_26 = nI (((Z / 14) / 3) % 50) := ey_26.trans (show (nI ((Z / 14) / 3)) - (nI ((Z / 14) / 3)) / nI 50 * nI 50 = _ from pk_rem (by omega) (by decide) (by decide))
        subst ey_26
        refine lv_goto (tgt := 135) hx hb dL_law_125 (by decide) ?_
        refine lv_istore (lv' := [(10, .int (nI (((Z / 14) / 3) % 50))), (9, .int (nI (Z / 14))), (8, .int (nI (Z % 14))), (7, .int (nI Z)), (6, .int (nI j)), (5, .int 1), (4, .int (nI La)), (3, .int mo), (2, .ref x2), (1, .ref x1), (0, .ref b)]) hx hb dL_law_135 hl (by decide) rfl (fun ls hl => ?_)
        exact K9 Z (((Z / 14) / 3) % 50) ls hz3 (by omega) (lv_sub hl [0, 1, 2, 4, 5, 6, 7, 8, 9, 10] rfl)
    · skip
      have hLa9 : La < 49 := by rcases Nat.lt_or_ge La 49 with q9 | q9; exact q9; exact absurd (nI_le (a := 49) q9 (by omega)) c_20
      refine lv_iload hx hb dL_law_103 (lv_at hl 5 rfl) ?_
      refine lv_iconst (v := 1) hx hb dL_law_105 (by decide) ?_
      refine lv_iadd hx hb dL_law_106 ?_
      refine lv_topi (fun y_27 ey_27 => ?_)
      have ey_27 : y_27 = nI (La + 1) := ey_27.trans (nI_1 La)
      subst ey_27
      refine lv_goto (tgt := 135) hx hb dL_law_107 (by decide) ?_
      refine lv_istore (lv' := [(10, .int (nI (La + 1))), (9, .int (nI (Z / 14))), (8, .int (nI (Z % 14))), (7, .int (nI Z)), (6, .int (nI j)), (5, .int 1), (4, .int (nI La)), (3, .int mo), (2, .ref x2), (1, .ref x1), (0, .ref b)]) hx hb dL_law_135 hl (by decide) rfl (fun ls hl => ?_)
      exact K9 Z (La + 1) ls hz3 (by omega) (lv_sub hl [0, 1, 2, 4, 5, 6, 7, 8, 9, 10] rfl)
