/-! ===== the reference: the least recent cache's hits ===== -/
theorem m_nIn1 {a : Nat} (h : a < 2 ^ 31) : ¬ nI a = -1 := fun e => by
  have q := congrArg Int32.toInt e
  rw [nI_toInt h, show (-1 : Int32).toInt = -1 from by decide] at q
  omega
theorem m_pred_le {a : Nat} (h : a < 2 ^ 31) : nI a - 1 ≤ nI a := by
  cases a with
  | zero => decide
  | succ n => rw [nI_pred]; exact nI_le (by omega) h
theorem m_pgs_app {f2 f5 : Nat → Int32} {P : List Int32} {key : Int32} (h : m_pgs f2 P) (hl : P.length < 32) (hf5 : ∀ x, f5 x = if x = P.length then key else f2 x) : m_pgs f5 (P ++ [key]) ∧ (P ++ [key]).length = P.length + 1 := by
  refine ⟨⟨by simp; omega, fun j hj => ?_⟩, by simp⟩
  simp only [List.length_append, List.length_cons, List.length_nil] at hj
  rw [hf5]
  by_cases e : j = P.length
  · subst e; rw [if_pos rfl]; simp
  · rw [if_neg e, List.getElem?_append_left (by omega)]
    exact h.2 j (by omega)
theorem m_pgs_fin {f2 f3 f5 : Nat → Int32} {P : List Int32} {key : Int32} {a0 : Nat} (h : m_pgs f2 P) (ha : a0 < P.length) (hf3 : ∀ x, f3 x = if a0 ≤ x ∧ x < P.length - 1 then f2 (x + 1) else f2 x) (hf5 : ∀ x, f5 x = if x = P.length - 1 then key else f3 x) : m_pgs f5 (P.eraseIdx a0 ++ [key]) ∧ (P.eraseIdx a0 ++ [key]).length = P.length := by
  have hL : (P.eraseIdx a0).length = P.length - 1 := List.length_eraseIdx_of_lt ha
  have h32 := h.1
  refine ⟨m_pgs_put (p0 := a0) h (by omega) (m_pgs_erase h ha) (fun j hj => ?_), by rw [List.length_append, hL]; simp; omega⟩
  rw [hL] at hj
  rw [hf5, hL]
  by_cases q : j = P.length - 1
  · rw [if_pos q, if_pos q]
  · rw [if_neg q, if_neg q, hf3]
    by_cases q2 : a0 ≤ j
    · rw [if_pos ⟨q2, by omega⟩, if_pos q2]
    · rw [if_neg (fun z => q2 z.1), if_neg q2]
set_option maxHeartbeats 4000000 in
set_option maxRecDepth 100000 in
theorem c_X3_leastRecentHitsIf (l : Launch) (D : va_G) (cy : ClassId) (mo an ae al ap : Nat) (ln th : Int32) (kk : Nat → Int32) (lg : List Int32) (g : Nat → Int32) (hlg : m_log g lg) (hv : ∀ x ∈ lg, ¬ x = -1) (pp : Nat → Int32) (k : Int32) : ki_I l yX3_leastRecentHitsIf wsX3_leastRecentHitsIf ({ frames := 1, cells := 0, slots := 0, locals := 21 }) 0 0 D [(cy, .int)] [.ref mo, .int k] [(mo, .inr (3, [.ref an, .ref ae, .ref al, .ref ap, .int (nI lg.length), .int (kk 0), .int (kk 1), .int (kk 2), .int (kk 3), .int th])), (al, .inl (cy, 60, .inl g)), (ap, .inl (cy, 32, .inl pp))] (S := Nat → Int32) (fun r (_f1 : Nat → Int32) => r = (if ¬ a_badCap k then r_n k lg lg.length else 0)) (fun f1 => [(mo, .inr (3, [.ref an, .ref ae, .ref al, .ref ap, .int (nI lg.length), .int (kk 0), .int (kk 1), .int (kk 2), .int (kk 3), .int (if ¬ a_badCap k then 0 else 1)])), (al, .inl (cy, 60, .inl g)), (ap, .inl (cy, 32, .inl f1))]) := by
  refine ki_ofI (cc := cX3_leastRecentHitsIf) (maxL := 8) (ret := (some .int)) (by decide +kernel) rfl (Nat.le_of_ble_eq_true rfl) ?_
  intro p e s m args below meth c A ls hx hb hr hts hown hlk hml hK hE hP hD hA hS hl
  have hown : s.vm.findClass RX3 = some m.cls := hown
  have hl : lv_has ls 8 [(0, .ref mo), (1, .int k)] := hl
  have hiX3 : ∀ w ∈ u_ws RX3 TX3 10, w ∈ wsX3_leastRecentHitsIf := by decide +kernel
  refine lv_aload_n hx hb dX3_leastRecentHitsIf_0 rfl (lv_at hl 0 rfl) ?_
  refine lv_iload_n hx hb dX3_leastRecentHitsIf_1 rfl (lv_at hl 1 rfl) ?_
  refine ki_cSR (As := [.int k]) (rest := [.ref mo]) ⟨hx, hb, hml, hown, hts⟩ (c_X3_isCapacity l D k) (va_cwS 1 hts gX3_leastRecentHitsIf_X3_isCapacity rfl rfl rfl (by decide +kernel) ⟨Nat.le_of_ble_eq_true rfl, Nat.le_of_ble_eq_true rfl⟩) hK hE hP [] rfl [] rfl rfl hl.1 rfl (Nat.le_of_ble_eq_true rfl) dX3_leastRecentHitsIf_2 ⟨Nat.le_of_ble_eq_true rfl, Nat.le_of_ble_eq_true rfl⟩ ?_
  refine ki_cVI (As := [.int (if ¬ a_badCap k then 1 else 0)]) (rest := []) (wr := [(al, .inl (cy, 60, .inl g)), (ap, .inl (cy, 32, .inl pp))]) ⟨hx, hb, hml, hown, hts⟩ (c_X3_asked l D mo an ae al ap (nI lg.length) th kk (¬ a_badCap k)) (cwV 1 hts gX3_leastRecentHitsIf_X3_asked rfl rfl rfl (by decide +kernel) ⟨Nat.le_of_ble_eq_true rfl, Nat.le_of_ble_eq_true rfl⟩) hK hE hP hD hS hA [] rfl [0] [1, 2] rfl rfl rfl rfl (by decide) 3 0 rfl rfl rfl rfl hl.1 rfl (Nat.le_of_ble_eq_true rfl) dX3_leastRecentHitsIf_5 ⟨Nat.le_of_ble_eq_true rfl, Nat.le_of_ble_eq_true rfl⟩ [2, 0, 1] (fun u_2 => [(mo, .inr (3, [.ref an, .ref ae, .ref al, .ref ap, .int (nI lg.length), .int (kk 0), .int (kk 1), .int (kk 2), .int (kk 3), .int (if ¬ a_badCap k then 0 else 1)])), (al, .inl (cy, 60, .inl g)), (ap, .inl (cy, 32, .inl pp))]) (fun _ => rfl) rfl (fun r_1 u_2 H locs hw hP hD hS => ?_)
  subst hw
  have hP : va_P D vwCl [(mo, .inr (3, [.ref an, .ref ae, .ref al, .ref ap, .int (nI lg.length), .int (kk 0), .int (kk 1), .int (kk 2), .int (kk 3), .int (if ¬ a_badCap k then 0 else 1)])), (al, .inl (cy, 60, .inl g)), (ap, .inl (cy, 32, .inl pp))] H := hP
  have hD : va_D A [(mo, .inr (3, [.ref an, .ref ae, .ref al, .ref ap, .int (nI lg.length), .int (kk 0), .int (kk 1), .int (kk 2), .int (kk 3), .int (if ¬ a_badCap k then 0 else 1)])), (al, .inl (cy, 60, .inl g)), (ap, .inl (cy, 32, .inl pp))] := hD
  refine lv_if_ne (tgt := 13) hx hb dX3_leastRecentHitsIf_8 (by decide) (fun c_3 => ?_) (fun c_3 => ?_)
  · skip
    have c_3 : ¬ a_badCap k := ki_b1.mp c_3
    refine lv_iconst (v := 0) hx hb dX3_leastRecentHitsIf_13 (by decide) ?_
    refine lv_istore_n (lv' := [(2, .int 0), (0, .ref mo), (1, .int k)]) hx hb dX3_leastRecentHitsIf_14 rfl hl (by decide) rfl (fun ls hl => ?_)
    refine lv_iconst (v := 0) hx hb dX3_leastRecentHitsIf_15 (by decide) ?_
    refine lv_istore_n (lv' := [(3, .int 0), (2, .int 0), (0, .ref mo), (1, .int k)]) hx hb dX3_leastRecentHitsIf_16 rfl hl (by decide) rfl (fun ls hl => ?_)
    refine lv_iconst (v := 0) hx hb dX3_leastRecentHitsIf_17 (by decide) ?_
    refine lv_istore (lv' := [(4, .int 0), (3, .int 0), (2, .int 0), (0, .ref mo), (1, .int k)]) hx hb dX3_leastRecentHitsIf_18 hl (by decide) rfl (fun ls hl => ?_)
    have hok := c_3
    obtain ⟨kq, hk1, hk2, hkq⟩ := m_badCap hok
    have hl60 := hlg.1
    have lpA : ∀ (n9 : Nat) (i : Nat) (f2 : Nat → Int32) (H : Heap) (locs : List Loc) (ls : Array Slot), (lg.length - i < n9) → (i ≤ lg.length) → (m_pgs f2 (r_pg k lg i)) → va_P D vwCl [(mo, .inr (3, [.ref an, .ref ae, .ref al, .ref ap, .int (nI lg.length), .int (kk 0), .int (kk 1), .int (kk 2), .int (kk 3), .int (if ¬ a_badCap k then 0 else 1)])), (al, .inl (cy, 60, .inl g)), (ap, .inl (cy, 32, .inl f2))] H → va_D A [(mo, .inr (3, [.ref an, .ref ae, .ref al, .ref ap, .int (nI lg.length), .int (kk 0), .int (kk 1), .int (kk 2), .int (kk 3), .int (if ¬ a_badCap k then 0 else 1)])), (al, .inl (cy, 60, .inl g)), (ap, .inl (cy, 32, .inl f2))] → va_S A s.heap H locs → lv_has ls 8 [(4, .int (nI i)), (3, .int (nI (r_pg k lg i).length)), (2, .int (r_n k lg i)), (0, .ref mo), (1, .int k)] → W p l e ({ frames := 1, cells := 0, slots := 0, locals := 21 }) s m args below meth c H locs 0 0 (MQ below (va_Qi (fun r (_f1 : Nat → Int32) => r = (if ¬ a_badCap k then r_n k lg lg.length else 0)) (ki_B D [(cy, .int)] A (fun (f1 : Nat → Int32) => [(mo, .inr (3, [.ref an, .ref ae, .ref al, .ref ap, .int (nI lg.length), .int (kk 0), .int (kk 1), .int (kk 2), .int (kk 3), .int (if ¬ a_badCap k then 0 else 1)])), (al, .inl (cy, 60, .inl g)), (ap, .inl (cy, 32, .inl f1))])) A) args s 0 0 A) (F0 m 20 ls []) := by
      intro n9
      induction n9 with
      | zero => intro i f2 H locs ls h; omega
      | succ n9 ih =>
        intro i f2 H locs ls hm9 hi hpg hP hD hS hl
        have ihA := ih
        have hrok := m_rInv (k := kq) hk1 hk2 hlg.1 hv i hi
        rw [← hkq] at hrok
        obtain ⟨P, eP⟩ : ∃ P : List Int32, P = r_pg k lg i := ⟨_, rfl⟩
        rw [← eP] at hpg hl hrok
        have hP32 := hpg.1
        have hPk := hrok.2.1
        refine lv_iload hx hb dX3_leastRecentHitsIf_20 (lv_at hl 0 rfl) ?_
        refine lv_aload_n hx hb dX3_leastRecentHitsIf_22 rfl (lv_at hl 3 rfl) ?_
        refine va_get (D := D) (ci := 3) (v := .int (nI lg.length)) (C := RX3) (T := TX3) (N := 10) hx hb hts hiX3 hown hK hP 0 rfl rfl 4 (by decide) (hts (.fieldLink RX3 95 "AdaptiveReplacementCacheModel" "logged" "I") (by decide +kernel)) (fun _ h9 => h9) rfl dX3_leastRecentHitsIf_23 ?_
        refine lv_icmp_ge (tgt := 179) hx hb dX3_leastRecentHitsIf_26 (by decide) (fun c_4 => ?_) (fun c_4 => ?_)
        · skip
          have hij : i = lg.length := Nat.le_antisymm hi (by rcases Nat.lt_or_ge i lg.length with q9 | q9; exact absurd c_4 (nI_ge q9 (by omega)); exact q9)
          subst hij
          refine lv_iload_n hx hb dX3_leastRecentHitsIf_179 rfl (lv_at hl 2 rfl) ?_
          exact ki_iret hx hb hr hlk hK hS f2 ((if_pos hok).symm) (by simp only [if_pos hok] at hP ⊢; exact hP) (by simp only [if_pos hok] at hD ⊢; exact hD) dX3_leastRecentHitsIf_180
        · skip
          have hil : i < lg.length := by rcases Nat.lt_or_ge i lg.length with q9 | q9; exact q9; exact absurd (nI_le q9 (by omega)) c_4
          have hk0 : ¬ k_at lg (nI i) = -1 := hv _ (m_log_mem hl60 hil)
          have eg9 : g i = k_at lg (nI i) := m_log_at hlg hil
          refine lv_iconst (v := (-1)) hx hb dX3_leastRecentHitsIf_29 (by decide) ?_
          refine lv_istore (lv' := [(5, .int (-1)), (4, .int (nI i)), (3, .int (nI P.length)), (2, .int (r_n k lg i)), (0, .ref mo), (1, .int k)]) hx hb dX3_leastRecentHitsIf_30 hl (by decide) rfl (fun ls hl => ?_)
          refine lv_iconst (v := 0) hx hb dX3_leastRecentHitsIf_32 (by decide) ?_
          refine lv_istore (lv' := [(6, .int 0), (5, .int (-1)), (4, .int (nI i)), (3, .int (nI P.length)), (2, .int (r_n k lg i)), (0, .ref mo), (1, .int k)]) hx hb dX3_leastRecentHitsIf_33 hl (by decide) rfl (fun ls hl => ?_)
          have lpB : ∀ (n9 : Nat) (j : Nat) (v : Int32) (H : Heap) (locs : List Loc) (ls : Array Slot), (P.length - j < n9) → (j ≤ P.length) → (m_pl P (k_at lg (nI i)) j v) → va_P D vwCl [(mo, .inr (3, [.ref an, .ref ae, .ref al, .ref ap, .int (nI lg.length), .int (kk 0), .int (kk 1), .int (kk 2), .int (kk 3), .int (if ¬ a_badCap k then 0 else 1)])), (al, .inl (cy, 60, .inl g)), (ap, .inl (cy, 32, .inl f2))] H → va_D A [(mo, .inr (3, [.ref an, .ref ae, .ref al, .ref ap, .int (nI lg.length), .int (kk 0), .int (kk 1), .int (kk 2), .int (kk 3), .int (if ¬ a_badCap k then 0 else 1)])), (al, .inl (cy, 60, .inl g)), (ap, .inl (cy, 32, .inl f2))] → va_S A s.heap H locs → lv_has ls 8 [(6, .int (nI j)), (5, .int v), (4, .int (nI i)), (3, .int (nI P.length)), (2, .int (r_n k lg i)), (0, .ref mo), (1, .int k)] → W p l e ({ frames := 1, cells := 0, slots := 0, locals := 21 }) s m args below meth c H locs 0 0 (MQ below (va_Qi (fun r (_f1 : Nat → Int32) => r = (if ¬ a_badCap k then r_n k lg lg.length else 0)) (ki_B D [(cy, .int)] A (fun (f1 : Nat → Int32) => [(mo, .inr (3, [.ref an, .ref ae, .ref al, .ref ap, .int (nI lg.length), .int (kk 0), .int (kk 1), .int (kk 2), .int (kk 3), .int (if ¬ a_badCap k then 0 else 1)])), (al, .inl (cy, 60, .inl g)), (ap, .inl (cy, 32, .inl f1))])) A) args s 0 0 A) (F0 m 35 ls []) := by
            intro n9
            induction n9 with
            | zero => intro j v H locs ls h; omega
            | succ n9 ih =>
              intro j v H locs ls hm9 hj hpl hP hD hS hl
              refine lv_iload hx hb dX3_leastRecentHitsIf_35 (lv_at hl 0 rfl) ?_
              refine lv_iload_n hx hb dX3_leastRecentHitsIf_37 rfl (lv_at hl 3 rfl) ?_
              refine lv_icmp_ge (tgt := 73) hx hb dX3_leastRecentHitsIf_38 (by decide) (fun c_5 => ?_) (fun c_5 => ?_)
              · skip
                have hv9 : v = k_idx P (k_at lg (nI i)) := m_pl_end hpl (by rcases Nat.lt_or_ge j P.length with q9 | q9; exact absurd c_5 (nI_ge q9 (by omega)); exact q9) hrok.1
                by_cases hmem : k_at lg (nI i) ∈ P
                · skip
                  obtain ⟨p9, hp9, ep9, hpk⟩ := m_idx_p hmem
                  have ev : v = nI p9 := hv9.trans ep9
                  rw [ev] at hl
                  refine lv_iload_n hx hb dX3_leastRecentHitsIf_73 rfl (lv_at hl 4 rfl) ?_
                  refine lv_iload hx hb dX3_leastRecentHitsIf_74 (lv_at hl 1 rfl) ?_
                  refine lv_iconst (v := (-1)) hx hb dX3_leastRecentHitsIf_76 (by decide) ?_
                  refine lv_icmp_ne (tgt := 84) hx hb dX3_leastRecentHitsIf_77 (by decide) (fun c_6 => ?_) (fun c_6 => ?_)
                  · skip
                    refine lv_iconst (v := 1) hx hb dX3_leastRecentHitsIf_84 (by decide) ?_
                    refine lv_iadd hx hb dX3_leastRecentHitsIf_85 ?_
                    refine lv_istore_n (lv' := [(2, .int ((r_n k lg i) + 1)), (6, .int (nI j)), (5, .int (nI p9)), (4, .int (nI i)), (3, .int (nI P.length)), (0, .ref mo), (1, .int k)]) hx hb dX3_leastRecentHitsIf_86 rfl hl (by decide) rfl (fun ls hl => ?_)
                    refine lv_iload hx hb dX3_leastRecentHitsIf_87 (lv_at hl 2 rfl) ?_
                    refine lv_iconst (v := (-1)) hx hb dX3_leastRecentHitsIf_89 (by decide) ?_
                    refine lv_icmp_eq (tgt := 98) hx hb dX3_leastRecentHitsIf_90 (by decide) (fun c_7 => ?_) (fun c_7 => ?_)
                    · skip
                      exact absurd c_7 (m_nIn1 (by omega))
                    · skip
                      refine lv_iload hx hb dX3_leastRecentHitsIf_93 (lv_at hl 2 rfl) ?_
                      refine lv_goto (tgt := 108) hx hb dX3_leastRecentHitsIf_95 (by decide) ?_
                      refine lv_istore (lv' := [(6, .int (nI p9)), (2, .int ((r_n k lg i) + 1)), (5, .int (nI p9)), (4, .int (nI i)), (3, .int (nI P.length)), (0, .ref mo), (1, .int k)]) hx hb dX3_leastRecentHitsIf_108 hl (by decide) rfl (fun ls hl => ?_)
                      refine lv_iload hx hb dX3_leastRecentHitsIf_110 (lv_at hl 0 rfl) ?_
                      refine lv_istore (lv' := [(7, .int (nI p9)), (6, .int (nI p9)), (2, .int ((r_n k lg i) + 1)), (5, .int (nI p9)), (4, .int (nI i)), (3, .int (nI P.length)), (0, .ref mo), (1, .int k)]) hx hb dX3_leastRecentHitsIf_112 hl (by decide) rfl (fun ls hl => ?_)
                      have ha0 : p9 < P.length := by omega
                      have lpC : ∀ (n9 : Nat) (m9 : Nat) (f3 : Nat → Int32) (H : Heap) (locs : List Loc) (ls : Array Slot), (P.length - m9 < n9) → (p9 ≤ m9) → (m9 < P.length) → (∀ x, f3 x = if p9 ≤ x ∧ x < m9 then f2 (x + 1) else f2 x) → va_P D vwCl [(mo, .inr (3, [.ref an, .ref ae, .ref al, .ref ap, .int (nI lg.length), .int (kk 0), .int (kk 1), .int (kk 2), .int (kk 3), .int (if ¬ a_badCap k then 0 else 1)])), (al, .inl (cy, 60, .inl g)), (ap, .inl (cy, 32, .inl f3))] H → va_D A [(mo, .inr (3, [.ref an, .ref ae, .ref al, .ref ap, .int (nI lg.length), .int (kk 0), .int (kk 1), .int (kk 2), .int (kk 3), .int (if ¬ a_badCap k then 0 else 1)])), (al, .inl (cy, 60, .inl g)), (ap, .inl (cy, 32, .inl f3))] → va_S A s.heap H locs → lv_has ls 8 [(7, .int (nI m9)), (6, .int (nI p9)), (4, .int (nI i)), (3, .int (nI P.length)), (2, .int ((r_n k lg i) + 1)), (0, .ref mo), (1, .int k)] → W p l e ({ frames := 1, cells := 0, slots := 0, locals := 21 }) s m args below meth c H locs 0 0 (MQ below (va_Qi (fun r (_f1 : Nat → Int32) => r = (if ¬ a_badCap k then r_n k lg lg.length else 0)) (ki_B D [(cy, .int)] A (fun (f1 : Nat → Int32) => [(mo, .inr (3, [.ref an, .ref ae, .ref al, .ref ap, .int (nI lg.length), .int (kk 0), .int (kk 1), .int (kk 2), .int (kk 3), .int (if ¬ a_badCap k then 0 else 1)])), (al, .inl (cy, 60, .inl g)), (ap, .inl (cy, 32, .inl f1))])) A) args s 0 0 A) (F0 m 114 ls []) := by
                        intro n9
                        induction n9 with
                        | zero => intro m9 f3 H locs ls h; omega
                        | succ n9 ih =>
                          intro m9 f3 H locs ls hm9 ham hm1 hf3 hP hD hS hl
                          refine lv_iload hx hb dX3_leastRecentHitsIf_114 (lv_at hl 0 rfl) ?_
                          refine lv_iload_n hx hb dX3_leastRecentHitsIf_116 rfl (lv_at hl 3 rfl) ?_
                          refine lv_iconst (v := 1) hx hb dX3_leastRecentHitsIf_117 (by decide) ?_
                          refine lv_isub hx hb dX3_leastRecentHitsIf_118 ?_
                          refine lv_topi (fun y_8 ey_8 => ?_)
                          have ey_8 : y_8 = nI (P.length - 1) := ey_8.trans (pk_sub (b := 1) (by omega))
                          subst ey_8
                          refine lv_icmp_ge (tgt := 144) hx hb dX3_leastRecentHitsIf_119 (by decide) (fun c_9 => ?_) (fun c_9 => ?_)
                          · skip
                            have hmL : m9 = P.length - 1 := by rcases Nat.lt_or_ge m9 (P.length - 1) with q9 | q9; exact absurd c_9 (nI_ge q9 (by omega)); omega
                            refine lv_iload hx hb dX3_leastRecentHitsIf_144 (lv_at hl 1 rfl) ?_
                            refine lv_iload_n hx hb dX3_leastRecentHitsIf_146 rfl (lv_at hl 3 rfl) ?_
                            refine lv_icmp_ne (tgt := 156) hx hb dX3_leastRecentHitsIf_147 (by decide) (fun c_10 => ?_) (fun c_10 => ?_)
                            · skip
                              refine lv_iload_n hx hb dX3_leastRecentHitsIf_156 rfl (lv_at hl 3 rfl) ?_
                              refine lv_istore_n (lv' := [(3, .int (nI P.length)), (7, .int (nI m9)), (6, .int (nI p9)), (4, .int (nI i)), (2, .int ((r_n k lg i) + 1)), (0, .ref mo), (1, .int k)]) hx hb dX3_leastRecentHitsIf_157 rfl hl (by decide) rfl (fun ls hl => ?_)
                              refine lv_aload_n hx hb dX3_leastRecentHitsIf_158 rfl (lv_at hl 5 rfl) ?_
                              refine va_get (D := D) (ci := 3) (v := .ref ap) (C := RX3) (T := TX3) (N := 10) hx hb hts hiX3 hown hK hP 0 rfl rfl 3 (by decide) (hts (.fieldLink RX3 19 "AdaptiveReplacementCacheModel" "pages" "[I") (by decide +kernel)) (fun _ h9 => h9) rfl dX3_leastRecentHitsIf_159 ?_
                              refine lv_iload_n hx hb dX3_leastRecentHitsIf_162 rfl (lv_at hl 0 rfl) ?_
                              refine lv_iconst (v := 1) hx hb dX3_leastRecentHitsIf_163 (by decide) ?_
                              refine lv_isub hx hb dX3_leastRecentHitsIf_164 ?_
                              refine lv_topi (fun y_11 ey_11 => ?_)
                              have ey_11 : y_11 = nI (P.length - 1) := ey_11.trans (pk_sub (b := 1) (by omega))
                              subst ey_11
                              refine lv_aload_n hx hb dX3_leastRecentHitsIf_165 rfl (lv_at hl 5 rfl) ?_
                              refine va_get (D := D) (ci := 3) (v := .ref al) (C := RX3) (T := TX3) (N := 10) hx hb hts hiX3 hown hK hP 0 rfl rfl 2 (by decide) (hts (.fieldLink RX3 16 "AdaptiveReplacementCacheModel" "log" "[I") (by decide +kernel)) (fun _ h9 => h9) rfl dX3_leastRecentHitsIf_166 ?_
                              refine lv_iload hx hb dX3_leastRecentHitsIf_169 (lv_at hl 3 rfl) ?_
                              refine va_iald hx hb hK hP 1 0 rfl rfl (vp_in_nI (by omega) (by decide)) dX3_leastRecentHitsIf_171 ?_
                              refine lv_topi (fun y_12 ey_12 => ?_)
                              have ey_12 : y_12 = k_at lg (nI i) := ey_12.trans (by rw [nI_clamp (by omega)]; exact eg9)
                              subst ey_12
                              refine va_iast hx hb hK hP hD hS 2 0 rfl rfl (vp_in_nI (by omega) (by decide)) dX3_leastRecentHitsIf_172 (fun H locs hP hD hS => ?_)
                              obtain ⟨f5, ef5⟩ : ∃ zz9 : Nat → Int32, zz9 = upd f3 (Int32.toNatClampNeg (nI (P.length - 1))) (k_at lg (nI i)) := ⟨_, rfl⟩
                              rw [← ef5] at hP hD
                              have hf5 : ∀ x, f5 x = if x = P.length - 1 then k_at lg (nI i) else f3 x := fun x => by rw [ef5]; unfold upd; rw [nI_clamp (by omega)]
                              have hP : va_P D vwCl [(mo, .inr (3, [.ref an, .ref ae, .ref al, .ref ap, .int (nI lg.length), .int (kk 0), .int (kk 1), .int (kk 2), .int (kk 3), .int (if ¬ a_badCap k then 0 else 1)])), (al, .inl (cy, 60, .inl g)), (ap, .inl (cy, 32, .inl f5))] H := hP
                              have hD : va_D A [(mo, .inr (3, [.ref an, .ref ae, .ref al, .ref ap, .int (nI lg.length), .int (kk 0), .int (kk 1), .int (kk 2), .int (kk 3), .int (if ¬ a_badCap k then 0 else 1)])), (al, .inl (cy, 60, .inl g)), (ap, .inl (cy, 32, .inl f5))] := hD
                              refine lv_iinc (v := nI (i + 1)) (lv' := [(4, .int (nI (i + 1))), (3, .int (nI P.length)), (7, .int (nI m9)), (6, .int (nI p9)), (2, .int ((r_n k lg i) + 1)), (0, .ref mo), (1, .int k)]) hx hb dX3_leastRecentHitsIf_173 hl (k := 3) rfl (nI_1 i) (by decide) rfl (fun ls hl => ?_)
                              refine lv_goto (tgt := 20) hx hb dX3_leastRecentHitsIf_176 (by decide) ?_
                              rw [hmL] at hf3
                              have hF := m_pgs_fin (a0 := p9) hpg ha0 hf3 hf5
                              have eS : r_pg k lg (i + 1) = P.eraseIdx p9 ++ [k_at lg (nI i)] := by show r_step k (r_pg k lg i) (k_at lg (nI i)) = _; rw [← eP, hkq]; exact (m_r_in hk2 hrok hk0 hmem).trans (by rw [← k_erase (L := P) (by omega), ep9, k_gap_nI hp9 (by omega)])
                              have eN : r_n k lg (i + 1) = (r_n k lg i) + 1 := by rw [r_n, ← eP]; exact if_pos hmem
                              exact ihA (i + 1) f5 H locs ls (by omega) (by omega) (by rw [eS]; exact hF.1) hP hD hS (by rw [eS, hF.2, eN]; exact lv_sub hl [0, 1, 4, 5, 6] rfl)
                            · skip
                              exact absurd (m_nIinj (a := p9) (b := P.length) (by omega) (by omega) c_10) (by omega)
                          · skip
                            have hmlt : m9 < P.length - 1 := by rcases Nat.lt_or_ge m9 (P.length - 1) with q9 | q9; exact q9; exact absurd (nI_le q9 (by omega)) c_9
                            refine lv_aload_n hx hb dX3_leastRecentHitsIf_122 rfl (lv_at hl 5 rfl) ?_
                            refine va_get (D := D) (ci := 3) (v := .ref ap) (C := RX3) (T := TX3) (N := 10) hx hb hts hiX3 hown hK hP 0 rfl rfl 3 (by decide) (hts (.fieldLink RX3 19 "AdaptiveReplacementCacheModel" "pages" "[I") (by decide +kernel)) (fun _ h9 => h9) rfl dX3_leastRecentHitsIf_123 ?_
                            refine lv_iload hx hb dX3_leastRecentHitsIf_126 (lv_at hl 0 rfl) ?_
                            refine lv_aload_n hx hb dX3_leastRecentHitsIf_128 rfl (lv_at hl 5 rfl) ?_
                            refine va_get (D := D) (ci := 3) (v := .ref ap) (C := RX3) (T := TX3) (N := 10) hx hb hts hiX3 hown hK hP 0 rfl rfl 3 (by decide) (hts (.fieldLink RX3 19 "AdaptiveReplacementCacheModel" "pages" "[I") (by decide +kernel)) (fun _ h9 => h9) rfl dX3_leastRecentHitsIf_129 ?_
                            refine lv_iload hx hb dX3_leastRecentHitsIf_132 (lv_at hl 0 rfl) ?_
                            refine lv_iconst (v := 1) hx hb dX3_leastRecentHitsIf_134 (by decide) ?_
                            refine lv_iadd hx hb dX3_leastRecentHitsIf_135 ?_
                            refine lv_topi (fun y_13 ey_13 => ?_)
                            have ey_13 : y_13 = nI (m9 + 1) := ey_13.trans (nI_1 _)
                            subst ey_13
                            refine va_iald hx hb hK hP 2 0 rfl rfl (vp_in_nI (by omega) (by decide)) dX3_leastRecentHitsIf_136 ?_
                            refine lv_topi (fun y_14 ey_14 => ?_)
                            have ey_14 : y_14 = f2 (m9 + 1) := ey_14.trans (by rw [nI_clamp (by omega), hf3, if_neg (by omega)])
                            subst ey_14
                            refine va_iast hx hb hK hP hD hS 2 0 rfl rfl (vp_in_nI (by omega) (by decide)) dX3_leastRecentHitsIf_137 (fun H locs hP hD hS => ?_)
                            obtain ⟨f4, ef4⟩ : ∃ zz9 : Nat → Int32, zz9 = upd f3 (Int32.toNatClampNeg (nI m9)) (f2 (m9 + 1)) := ⟨_, rfl⟩
                            rw [← ef4] at hP hD
                            have hf4 : ∀ x, f4 x = if p9 ≤ x ∧ x < m9 + 1 then f2 (x + 1) else f2 x := fun x => by
                              rw [ef4]; unfold upd; rw [nI_clamp (by omega)]
                              by_cases q9 : x = m9
                              · rw [if_pos q9, if_pos (by omega), q9]
                              · rw [if_neg q9, hf3]
                                by_cases q8 : p9 ≤ x ∧ x < m9
                                · rw [if_pos q8, if_pos (by omega)]
                                · rw [if_neg q8, if_neg (by omega)]
                            have hP : va_P D vwCl [(mo, .inr (3, [.ref an, .ref ae, .ref al, .ref ap, .int (nI lg.length), .int (kk 0), .int (kk 1), .int (kk 2), .int (kk 3), .int (if ¬ a_badCap k then 0 else 1)])), (al, .inl (cy, 60, .inl g)), (ap, .inl (cy, 32, .inl f4))] H := hP
                            have hD : va_D A [(mo, .inr (3, [.ref an, .ref ae, .ref al, .ref ap, .int (nI lg.length), .int (kk 0), .int (kk 1), .int (kk 2), .int (kk 3), .int (if ¬ a_badCap k then 0 else 1)])), (al, .inl (cy, 60, .inl g)), (ap, .inl (cy, 32, .inl f4))] := hD
                            refine lv_iinc (v := nI (m9 + 1)) (lv' := [(7, .int (nI (m9 + 1))), (6, .int (nI p9)), (4, .int (nI i)), (3, .int (nI P.length)), (2, .int ((r_n k lg i) + 1)), (0, .ref mo), (1, .int k)]) hx hb dX3_leastRecentHitsIf_138 hl (k := 0) rfl (nI_1 m9) (by decide) rfl (fun ls hl => ?_)
                            refine lv_goto (tgt := 114) hx hb dX3_leastRecentHitsIf_141 (by decide) ?_
                            exact ih (m9 + 1) f4 H locs ls (by omega) (by omega) (by omega) hf4 hP hD hS (lv_sub hl [0, 1, 2, 3, 4, 5, 6] rfl)
                      exact lpC (P.length + 1) p9 f2 H locs ls (by omega) (Nat.le_refl _) ha0 (fun x => by rw [if_neg (by omega)]) hP hD hS (lv_sub hl [0, 1, 4, 5, 2, 6, 7] rfl)
                  · skip
                    exact absurd c_6 (m_nIn1 (by omega))
                · skip
                  have ev : v = -1 := hv9.trans ((m_idx (by omega)).mpr hmem)
                  rw [ev] at hl
                  refine lv_iload_n hx hb dX3_leastRecentHitsIf_73 rfl (lv_at hl 4 rfl) ?_
                  refine lv_iload hx hb dX3_leastRecentHitsIf_74 (lv_at hl 1 rfl) ?_
                  refine lv_iconst (v := (-1)) hx hb dX3_leastRecentHitsIf_76 (by decide) ?_
                  refine lv_icmp_ne (tgt := 84) hx hb dX3_leastRecentHitsIf_77 (by decide) (fun c_15 => ?_) (fun c_15 => ?_)
                  · exact absurd (by decide) c_15
                  · skip
                    refine lv_iconst (v := 0) hx hb dX3_leastRecentHitsIf_80 (by decide) ?_
                    refine lv_goto (tgt := 85) hx hb dX3_leastRecentHitsIf_81 (by decide) ?_
                    refine lv_iadd hx hb dX3_leastRecentHitsIf_85 ?_
                    refine lv_topi (fun y_16 ey_16 => ?_)
                    have ey_16 : y_16 = r_n k lg i := ey_16.trans (Int32.add_zero _)
                    subst ey_16
                    refine lv_istore_n (lv' := [(2, .int (r_n k lg i)), (6, .int (nI j)), (5, .int (-1)), (4, .int (nI i)), (3, .int (nI P.length)), (0, .ref mo), (1, .int k)]) hx hb dX3_leastRecentHitsIf_86 rfl hl (by decide) rfl (fun ls hl => ?_)
                    refine lv_iload hx hb dX3_leastRecentHitsIf_87 (lv_at hl 2 rfl) ?_
                    refine lv_iconst (v := (-1)) hx hb dX3_leastRecentHitsIf_89 (by decide) ?_
                    refine lv_icmp_eq (tgt := 98) hx hb dX3_leastRecentHitsIf_90 (by decide) (fun c_17 => ?_) (fun c_17 => ?_)
                    rotate_left
                    · exact absurd (by decide) c_17
                    · skip
                      refine lv_iload_n hx hb dX3_leastRecentHitsIf_98 rfl (lv_at hl 4 rfl) ?_
                      refine lv_iload_n hx hb dX3_leastRecentHitsIf_99 rfl (lv_at hl 6 rfl) ?_
                      refine lv_icmp_ne (tgt := 107) hx hb dX3_leastRecentHitsIf_100 (by decide) (fun c_18 => ?_) (fun c_18 => ?_)
                      · skip
                        have hroom : P.length < kq := by rcases Nat.lt_or_ge P.length kq with q9 | q9; exact q9; exact absurd (by rw [hkq, show P.length = kq by omega]) c_18
                        refine lv_iload_n hx hb dX3_leastRecentHitsIf_107 rfl (lv_at hl 4 rfl) ?_
                        refine lv_istore (lv' := [(6, .int (nI P.length)), (2, .int (r_n k lg i)), (5, .int (-1)), (4, .int (nI i)), (3, .int (nI P.length)), (0, .ref mo), (1, .int k)]) hx hb dX3_leastRecentHitsIf_108 hl (by decide) rfl (fun ls hl => ?_)
                        refine lv_iload hx hb dX3_leastRecentHitsIf_110 (lv_at hl 0 rfl) ?_
                        refine lv_istore (lv' := [(7, .int (nI P.length)), (6, .int (nI P.length)), (2, .int (r_n k lg i)), (5, .int (-1)), (4, .int (nI i)), (3, .int (nI P.length)), (0, .ref mo), (1, .int k)]) hx hb dX3_leastRecentHitsIf_112 hl (by decide) rfl (fun ls hl => ?_)
                        refine lv_iload hx hb dX3_leastRecentHitsIf_114 (lv_at hl 0 rfl) ?_
                        refine lv_iload_n hx hb dX3_leastRecentHitsIf_116 rfl (lv_at hl 5 rfl) ?_
                        refine lv_iconst (v := 1) hx hb dX3_leastRecentHitsIf_117 (by decide) ?_
                        refine lv_isub hx hb dX3_leastRecentHitsIf_118 ?_
                        refine lv_topi (fun y_19 ey_19 => ?_)
                        have ey_19 : y_19 = nI P.length - 1 := ey_19.trans rfl
                        subst ey_19
                        refine lv_icmp_ge (tgt := 144) hx hb dX3_leastRecentHitsIf_119 (by decide) (fun c_20 => ?_) (fun c_20 => ?_)
                        · skip
                          refine lv_iload hx hb dX3_leastRecentHitsIf_144 (lv_at hl 1 rfl) ?_
                          refine lv_iload_n hx hb dX3_leastRecentHitsIf_146 rfl (lv_at hl 5 rfl) ?_
                          refine lv_icmp_ne (tgt := 156) hx hb dX3_leastRecentHitsIf_147 (by decide) (fun c_21 => ?_) (fun c_21 => ?_)
                          · skip
                            exact absurd rfl c_21
                          · skip
                            refine lv_iload_n hx hb dX3_leastRecentHitsIf_150 rfl (lv_at hl 5 rfl) ?_
                            refine lv_iconst (v := 1) hx hb dX3_leastRecentHitsIf_151 (by decide) ?_
                            refine lv_iadd hx hb dX3_leastRecentHitsIf_152 ?_
                            refine lv_topi (fun y_22 ey_22 => ?_)
                            have ey_22 : y_22 = nI (P.length + 1) := ey_22.trans (nI_1 _)
                            subst ey_22
                            refine lv_goto (tgt := 157) hx hb dX3_leastRecentHitsIf_153 (by decide) ?_
                            refine lv_istore_n (lv' := [(3, .int (nI (P.length + 1))), (7, .int (nI P.length)), (6, .int (nI P.length)), (2, .int (r_n k lg i)), (5, .int (-1)), (4, .int (nI i)), (0, .ref mo), (1, .int k)]) hx hb dX3_leastRecentHitsIf_157 rfl hl (by decide) rfl (fun ls hl => ?_)
                            refine lv_aload_n hx hb dX3_leastRecentHitsIf_158 rfl (lv_at hl 6 rfl) ?_
                            refine va_get (D := D) (ci := 3) (v := .ref ap) (C := RX3) (T := TX3) (N := 10) hx hb hts hiX3 hown hK hP 0 rfl rfl 3 (by decide) (hts (.fieldLink RX3 19 "AdaptiveReplacementCacheModel" "pages" "[I") (by decide +kernel)) (fun _ h9 => h9) rfl dX3_leastRecentHitsIf_159 ?_
                            refine lv_iload_n hx hb dX3_leastRecentHitsIf_162 rfl (lv_at hl 0 rfl) ?_
                            refine lv_iconst (v := 1) hx hb dX3_leastRecentHitsIf_163 (by decide) ?_
                            refine lv_isub hx hb dX3_leastRecentHitsIf_164 ?_
                            refine lv_topi (fun y_23 ey_23 => ?_)
                            have ey_23 : y_23 = nI P.length := ey_23.trans (nI_pred _)
                            subst ey_23
                            refine lv_aload_n hx hb dX3_leastRecentHitsIf_165 rfl (lv_at hl 6 rfl) ?_
                            refine va_get (D := D) (ci := 3) (v := .ref al) (C := RX3) (T := TX3) (N := 10) hx hb hts hiX3 hown hK hP 0 rfl rfl 2 (by decide) (hts (.fieldLink RX3 16 "AdaptiveReplacementCacheModel" "log" "[I") (by decide +kernel)) (fun _ h9 => h9) rfl dX3_leastRecentHitsIf_166 ?_
                            refine lv_iload hx hb dX3_leastRecentHitsIf_169 (lv_at hl 5 rfl) ?_
                            refine va_iald hx hb hK hP 1 0 rfl rfl (vp_in_nI (by omega) (by decide)) dX3_leastRecentHitsIf_171 ?_
                            refine lv_topi (fun y_24 ey_24 => ?_)
                            have ey_24 : y_24 = k_at lg (nI i) := ey_24.trans (by rw [nI_clamp (by omega)]; exact eg9)
                            subst ey_24
                            refine va_iast hx hb hK hP hD hS 2 0 rfl rfl (vp_in_nI (by omega) (by decide)) dX3_leastRecentHitsIf_172 (fun H locs hP hD hS => ?_)
                            obtain ⟨f5, ef5⟩ : ∃ zz9 : Nat → Int32, zz9 = upd f2 (Int32.toNatClampNeg (nI P.length)) (k_at lg (nI i)) := ⟨_, rfl⟩
                            rw [← ef5] at hP hD
                            have hf5 : ∀ x, f5 x = if x = P.length then k_at lg (nI i) else f2 x := fun x => by rw [ef5]; unfold upd; rw [nI_clamp (by omega)]
                            have hP : va_P D vwCl [(mo, .inr (3, [.ref an, .ref ae, .ref al, .ref ap, .int (nI lg.length), .int (kk 0), .int (kk 1), .int (kk 2), .int (kk 3), .int (if ¬ a_badCap k then 0 else 1)])), (al, .inl (cy, 60, .inl g)), (ap, .inl (cy, 32, .inl f5))] H := hP
                            have hD : va_D A [(mo, .inr (3, [.ref an, .ref ae, .ref al, .ref ap, .int (nI lg.length), .int (kk 0), .int (kk 1), .int (kk 2), .int (kk 3), .int (if ¬ a_badCap k then 0 else 1)])), (al, .inl (cy, 60, .inl g)), (ap, .inl (cy, 32, .inl f5))] := hD
                            refine lv_iinc (v := nI (i + 1)) (lv' := [(4, .int (nI (i + 1))), (3, .int (nI (P.length + 1))), (7, .int (nI P.length)), (6, .int (nI P.length)), (2, .int (r_n k lg i)), (5, .int (-1)), (0, .ref mo), (1, .int k)]) hx hb dX3_leastRecentHitsIf_173 hl (k := 5) rfl (nI_1 i) (by decide) rfl (fun ls hl => ?_)
                            refine lv_goto (tgt := 20) hx hb dX3_leastRecentHitsIf_176 (by decide) ?_
                            have hF := m_pgs_app hpg (by omega) hf5
                            have eS : r_pg k lg (i + 1) = P ++ [k_at lg (nI i)] := by show r_step k (r_pg k lg i) (k_at lg (nI i)) = _; rw [← eP, hkq]; exact m_r_room hk2 hrok hk0 hmem hroom
                            have eN : r_n k lg (i + 1) = r_n k lg i := by rw [r_n, ← eP]; exact if_neg hmem
                            exact ihA (i + 1) f5 H locs ls (by omega) (by omega) (by rw [eS]; exact hF.1) hP hD hS (by rw [eS, hF.2, eN]; exact lv_sub hl [0, 1, 4, 6, 7] rfl)
                        · skip
                          exact absurd (m_pred_le (by omega)) c_20
                      · skip
                        have hfull : P.length = kq := m_nIinj (by omega) (by omega) (by rw [← hkq]; exact c_18)
                        refine lv_iconst (v := 0) hx hb dX3_leastRecentHitsIf_103 (by decide) ?_
                        refine lv_goto (tgt := 108) hx hb dX3_leastRecentHitsIf_104 (by decide) ?_
                        refine lv_istore (lv' := [(6, .int 0), (2, .int (r_n k lg i)), (5, .int (-1)), (4, .int (nI i)), (3, .int (nI P.length)), (0, .ref mo), (1, .int k)]) hx hb dX3_leastRecentHitsIf_108 hl (by decide) rfl (fun ls hl => ?_)
                        refine lv_iload hx hb dX3_leastRecentHitsIf_110 (lv_at hl 0 rfl) ?_
                        refine lv_istore (lv' := [(7, .int 0), (6, .int 0), (2, .int (r_n k lg i)), (5, .int (-1)), (4, .int (nI i)), (3, .int (nI P.length)), (0, .ref mo), (1, .int k)]) hx hb dX3_leastRecentHitsIf_112 hl (by decide) rfl (fun ls hl => ?_)
                        have ha0 : 0 < P.length := by omega
                        have lpC : ∀ (n9 : Nat) (m9 : Nat) (f3 : Nat → Int32) (H : Heap) (locs : List Loc) (ls : Array Slot), (P.length - m9 < n9) → (0 ≤ m9) → (m9 < P.length) → (∀ x, f3 x = if 0 ≤ x ∧ x < m9 then f2 (x + 1) else f2 x) → va_P D vwCl [(mo, .inr (3, [.ref an, .ref ae, .ref al, .ref ap, .int (nI lg.length), .int (kk 0), .int (kk 1), .int (kk 2), .int (kk 3), .int (if ¬ a_badCap k then 0 else 1)])), (al, .inl (cy, 60, .inl g)), (ap, .inl (cy, 32, .inl f3))] H → va_D A [(mo, .inr (3, [.ref an, .ref ae, .ref al, .ref ap, .int (nI lg.length), .int (kk 0), .int (kk 1), .int (kk 2), .int (kk 3), .int (if ¬ a_badCap k then 0 else 1)])), (al, .inl (cy, 60, .inl g)), (ap, .inl (cy, 32, .inl f3))] → va_S A s.heap H locs → lv_has ls 8 [(7, .int (nI m9)), (6, .int 0), (4, .int (nI i)), (3, .int (nI P.length)), (2, .int (r_n k lg i)), (0, .ref mo), (1, .int k)] → W p l e ({ frames := 1, cells := 0, slots := 0, locals := 21 }) s m args below meth c H locs 0 0 (MQ below (va_Qi (fun r (_f1 : Nat → Int32) => r = (if ¬ a_badCap k then r_n k lg lg.length else 0)) (ki_B D [(cy, .int)] A (fun (f1 : Nat → Int32) => [(mo, .inr (3, [.ref an, .ref ae, .ref al, .ref ap, .int (nI lg.length), .int (kk 0), .int (kk 1), .int (kk 2), .int (kk 3), .int (if ¬ a_badCap k then 0 else 1)])), (al, .inl (cy, 60, .inl g)), (ap, .inl (cy, 32, .inl f1))])) A) args s 0 0 A) (F0 m 114 ls []) := by
                          intro n9
                          induction n9 with
                          | zero => intro m9 f3 H locs ls h; omega
                          | succ n9 ih =>
                            intro m9 f3 H locs ls hm9 ham hm1 hf3 hP hD hS hl
                            refine lv_iload hx hb dX3_leastRecentHitsIf_114 (lv_at hl 0 rfl) ?_
                            refine lv_iload_n hx hb dX3_leastRecentHitsIf_116 rfl (lv_at hl 3 rfl) ?_
                            refine lv_iconst (v := 1) hx hb dX3_leastRecentHitsIf_117 (by decide) ?_
                            refine lv_isub hx hb dX3_leastRecentHitsIf_118 ?_
                            refine lv_topi (fun y_25 ey_25 => ?_)
                            have ey_25 : y_25 = nI (P.length - 1) := ey_25.trans (pk_sub (b := 1) (by omega))
                            subst ey_25
                            refine lv_icmp_ge (tgt := 144) hx hb dX3_leastRecentHitsIf_119 (by decide) (fun c_26 => ?_) (fun c_26 => ?_)
                            · skip
                              have hmL : m9 = P.length - 1 := by rcases Nat.lt_or_ge m9 (P.length - 1) with q9 | q9; exact absurd c_26 (nI_ge q9 (by omega)); omega
                              refine lv_iload hx hb dX3_leastRecentHitsIf_144 (lv_at hl 1 rfl) ?_
                              refine lv_iload_n hx hb dX3_leastRecentHitsIf_146 rfl (lv_at hl 3 rfl) ?_
                              refine lv_icmp_ne (tgt := 156) hx hb dX3_leastRecentHitsIf_147 (by decide) (fun c_27 => ?_) (fun c_27 => ?_)
                              · skip
                                refine lv_iload_n hx hb dX3_leastRecentHitsIf_156 rfl (lv_at hl 3 rfl) ?_
                                refine lv_istore_n (lv' := [(3, .int (nI P.length)), (7, .int (nI m9)), (6, .int 0), (4, .int (nI i)), (2, .int (r_n k lg i)), (0, .ref mo), (1, .int k)]) hx hb dX3_leastRecentHitsIf_157 rfl hl (by decide) rfl (fun ls hl => ?_)
                                refine lv_aload_n hx hb dX3_leastRecentHitsIf_158 rfl (lv_at hl 5 rfl) ?_
                                refine va_get (D := D) (ci := 3) (v := .ref ap) (C := RX3) (T := TX3) (N := 10) hx hb hts hiX3 hown hK hP 0 rfl rfl 3 (by decide) (hts (.fieldLink RX3 19 "AdaptiveReplacementCacheModel" "pages" "[I") (by decide +kernel)) (fun _ h9 => h9) rfl dX3_leastRecentHitsIf_159 ?_
                                refine lv_iload_n hx hb dX3_leastRecentHitsIf_162 rfl (lv_at hl 0 rfl) ?_
                                refine lv_iconst (v := 1) hx hb dX3_leastRecentHitsIf_163 (by decide) ?_
                                refine lv_isub hx hb dX3_leastRecentHitsIf_164 ?_
                                refine lv_topi (fun y_28 ey_28 => ?_)
                                have ey_28 : y_28 = nI (P.length - 1) := ey_28.trans (pk_sub (b := 1) (by omega))
                                subst ey_28
                                refine lv_aload_n hx hb dX3_leastRecentHitsIf_165 rfl (lv_at hl 5 rfl) ?_
                                refine va_get (D := D) (ci := 3) (v := .ref al) (C := RX3) (T := TX3) (N := 10) hx hb hts hiX3 hown hK hP 0 rfl rfl 2 (by decide) (hts (.fieldLink RX3 16 "AdaptiveReplacementCacheModel" "log" "[I") (by decide +kernel)) (fun _ h9 => h9) rfl dX3_leastRecentHitsIf_166 ?_
                                refine lv_iload hx hb dX3_leastRecentHitsIf_169 (lv_at hl 3 rfl) ?_
                                refine va_iald hx hb hK hP 1 0 rfl rfl (vp_in_nI (by omega) (by decide)) dX3_leastRecentHitsIf_171 ?_
                                refine lv_topi (fun y_29 ey_29 => ?_)
                                have ey_29 : y_29 = k_at lg (nI i) := ey_29.trans (by rw [nI_clamp (by omega)]; exact eg9)
                                subst ey_29
                                refine va_iast hx hb hK hP hD hS 2 0 rfl rfl (vp_in_nI (by omega) (by decide)) dX3_leastRecentHitsIf_172 (fun H locs hP hD hS => ?_)
                                obtain ⟨f5, ef5⟩ : ∃ zz9 : Nat → Int32, zz9 = upd f3 (Int32.toNatClampNeg (nI (P.length - 1))) (k_at lg (nI i)) := ⟨_, rfl⟩
                                rw [← ef5] at hP hD
                                have hf5 : ∀ x, f5 x = if x = P.length - 1 then k_at lg (nI i) else f3 x := fun x => by rw [ef5]; unfold upd; rw [nI_clamp (by omega)]
                                have hP : va_P D vwCl [(mo, .inr (3, [.ref an, .ref ae, .ref al, .ref ap, .int (nI lg.length), .int (kk 0), .int (kk 1), .int (kk 2), .int (kk 3), .int (if ¬ a_badCap k then 0 else 1)])), (al, .inl (cy, 60, .inl g)), (ap, .inl (cy, 32, .inl f5))] H := hP
                                have hD : va_D A [(mo, .inr (3, [.ref an, .ref ae, .ref al, .ref ap, .int (nI lg.length), .int (kk 0), .int (kk 1), .int (kk 2), .int (kk 3), .int (if ¬ a_badCap k then 0 else 1)])), (al, .inl (cy, 60, .inl g)), (ap, .inl (cy, 32, .inl f5))] := hD
                                refine lv_iinc (v := nI (i + 1)) (lv' := [(4, .int (nI (i + 1))), (3, .int (nI P.length)), (7, .int (nI m9)), (6, .int 0), (2, .int (r_n k lg i)), (0, .ref mo), (1, .int k)]) hx hb dX3_leastRecentHitsIf_173 hl (k := 3) rfl (nI_1 i) (by decide) rfl (fun ls hl => ?_)
                                refine lv_goto (tgt := 20) hx hb dX3_leastRecentHitsIf_176 (by decide) ?_
                                rw [hmL] at hf3
                                have hF := m_pgs_fin (a0 := 0) hpg ha0 hf3 hf5
                                have eS : r_pg k lg (i + 1) = P.eraseIdx 0 ++ [k_at lg (nI i)] := by show r_step k (r_pg k lg i) (k_at lg (nI i)) = _; rw [← eP, hkq]; exact (m_r_full hk2 hrok hk0 hmem hfull).trans (by rw [List.eraseIdx_zero])
                                have eN : r_n k lg (i + 1) = r_n k lg i := by rw [r_n, ← eP]; exact if_neg hmem
                                exact ihA (i + 1) f5 H locs ls (by omega) (by omega) (by rw [eS]; exact hF.1) hP hD hS (by rw [eS, hF.2, eN]; exact lv_sub hl [0, 1, 4, 5, 6] rfl)
                              · skip
                                exact absurd (m_nIinj (a := 0) (b := P.length) (by omega) (by omega) c_27) (by omega)
                            · skip
                              have hmlt : m9 < P.length - 1 := by rcases Nat.lt_or_ge m9 (P.length - 1) with q9 | q9; exact q9; exact absurd (nI_le q9 (by omega)) c_26
                              refine lv_aload_n hx hb dX3_leastRecentHitsIf_122 rfl (lv_at hl 5 rfl) ?_
                              refine va_get (D := D) (ci := 3) (v := .ref ap) (C := RX3) (T := TX3) (N := 10) hx hb hts hiX3 hown hK hP 0 rfl rfl 3 (by decide) (hts (.fieldLink RX3 19 "AdaptiveReplacementCacheModel" "pages" "[I") (by decide +kernel)) (fun _ h9 => h9) rfl dX3_leastRecentHitsIf_123 ?_
                              refine lv_iload hx hb dX3_leastRecentHitsIf_126 (lv_at hl 0 rfl) ?_
                              refine lv_aload_n hx hb dX3_leastRecentHitsIf_128 rfl (lv_at hl 5 rfl) ?_
                              refine va_get (D := D) (ci := 3) (v := .ref ap) (C := RX3) (T := TX3) (N := 10) hx hb hts hiX3 hown hK hP 0 rfl rfl 3 (by decide) (hts (.fieldLink RX3 19 "AdaptiveReplacementCacheModel" "pages" "[I") (by decide +kernel)) (fun _ h9 => h9) rfl dX3_leastRecentHitsIf_129 ?_
                              refine lv_iload hx hb dX3_leastRecentHitsIf_132 (lv_at hl 0 rfl) ?_
                              refine lv_iconst (v := 1) hx hb dX3_leastRecentHitsIf_134 (by decide) ?_
                              refine lv_iadd hx hb dX3_leastRecentHitsIf_135 ?_
                              refine lv_topi (fun y_30 ey_30 => ?_)
                              have ey_30 : y_30 = nI (m9 + 1) := ey_30.trans (nI_1 _)
                              subst ey_30
                              refine va_iald hx hb hK hP 2 0 rfl rfl (vp_in_nI (by omega) (by decide)) dX3_leastRecentHitsIf_136 ?_
                              refine lv_topi (fun y_31 ey_31 => ?_)
                              have ey_31 : y_31 = f2 (m9 + 1) := ey_31.trans (by rw [nI_clamp (by omega), hf3, if_neg (by omega)])
                              subst ey_31
                              refine va_iast hx hb hK hP hD hS 2 0 rfl rfl (vp_in_nI (by omega) (by decide)) dX3_leastRecentHitsIf_137 (fun H locs hP hD hS => ?_)
                              obtain ⟨f4, ef4⟩ : ∃ zz9 : Nat → Int32, zz9 = upd f3 (Int32.toNatClampNeg (nI m9)) (f2 (m9 + 1)) := ⟨_, rfl⟩
                              rw [← ef4] at hP hD
                              have hf4 : ∀ x, f4 x = if 0 ≤ x ∧ x < m9 + 1 then f2 (x + 1) else f2 x := fun x => by
                                rw [ef4]; unfold upd; rw [nI_clamp (by omega)]
                                by_cases q9 : x = m9
                                · rw [if_pos q9, if_pos (by omega), q9]
                                · rw [if_neg q9, hf3]
                                  by_cases q8 : 0 ≤ x ∧ x < m9
                                  · rw [if_pos q8, if_pos (by omega)]
                                  · rw [if_neg q8, if_neg (by omega)]
                              have hP : va_P D vwCl [(mo, .inr (3, [.ref an, .ref ae, .ref al, .ref ap, .int (nI lg.length), .int (kk 0), .int (kk 1), .int (kk 2), .int (kk 3), .int (if ¬ a_badCap k then 0 else 1)])), (al, .inl (cy, 60, .inl g)), (ap, .inl (cy, 32, .inl f4))] H := hP
                              have hD : va_D A [(mo, .inr (3, [.ref an, .ref ae, .ref al, .ref ap, .int (nI lg.length), .int (kk 0), .int (kk 1), .int (kk 2), .int (kk 3), .int (if ¬ a_badCap k then 0 else 1)])), (al, .inl (cy, 60, .inl g)), (ap, .inl (cy, 32, .inl f4))] := hD
                              refine lv_iinc (v := nI (m9 + 1)) (lv' := [(7, .int (nI (m9 + 1))), (6, .int 0), (4, .int (nI i)), (3, .int (nI P.length)), (2, .int (r_n k lg i)), (0, .ref mo), (1, .int k)]) hx hb dX3_leastRecentHitsIf_138 hl (k := 0) rfl (nI_1 m9) (by decide) rfl (fun ls hl => ?_)
                              refine lv_goto (tgt := 114) hx hb dX3_leastRecentHitsIf_141 (by decide) ?_
                              exact ih (m9 + 1) f4 H locs ls (by omega) (by omega) (by omega) hf4 hP hD hS (lv_sub hl [0, 1, 2, 3, 4, 5, 6] rfl)
                        exact lpC (P.length + 1) 0 f2 H locs ls (by omega) (Nat.le_refl _) ha0 (fun x => by rw [if_neg (by omega)]) hP hD hS (lv_sub hl [0, 1, 4, 5, 2, 6, 7] rfl)
              · skip
                have hjl : j < P.length := by rcases Nat.lt_or_ge j P.length with q9 | q9; exact q9; exact absurd (nI_le q9 (by omega)) c_5
                refine lv_aload_n hx hb dX3_leastRecentHitsIf_41 rfl (lv_at hl 5 rfl) ?_
                refine va_get (D := D) (ci := 3) (v := .ref ap) (C := RX3) (T := TX3) (N := 10) hx hb hts hiX3 hown hK hP 0 rfl rfl 3 (by decide) (hts (.fieldLink RX3 19 "AdaptiveReplacementCacheModel" "pages" "[I") (by decide +kernel)) (fun _ h9 => h9) rfl dX3_leastRecentHitsIf_42 ?_
                refine lv_iload hx hb dX3_leastRecentHitsIf_45 (lv_at hl 0 rfl) ?_
                refine va_iald hx hb hK hP 2 0 rfl rfl (vp_in_nI (by omega) (by decide)) dX3_leastRecentHitsIf_47 ?_
                refine lv_topi (fun y_32 ey_32 => ?_)
                have ey_32 : y_32 = f2 j := ey_32.trans (by rw [nI_clamp (by omega)])
                subst ey_32
                refine lv_aload_n hx hb dX3_leastRecentHitsIf_48 rfl (lv_at hl 5 rfl) ?_
                refine va_get (D := D) (ci := 3) (v := .ref al) (C := RX3) (T := TX3) (N := 10) hx hb hts hiX3 hown hK hP 0 rfl rfl 2 (by decide) (hts (.fieldLink RX3 16 "AdaptiveReplacementCacheModel" "log" "[I") (by decide +kernel)) (fun _ h9 => h9) rfl dX3_leastRecentHitsIf_49 ?_
                refine lv_iload hx hb dX3_leastRecentHitsIf_52 (lv_at hl 2 rfl) ?_
                refine va_iald hx hb hK hP 1 0 rfl rfl (vp_in_nI (by omega) (by decide)) dX3_leastRecentHitsIf_54 ?_
                refine lv_topi (fun y_33 ey_33 => ?_)
                have ey_33 : y_33 = k_at lg (nI i) := ey_33.trans (by rw [nI_clamp (by omega)]; exact eg9)
                subst ey_33
                refine lv_icmp_ne (tgt := 63) hx hb dX3_leastRecentHitsIf_55 (by decide) (fun c_34 => ?_) (fun c_34 => ?_)
                · skip
                  refine lv_iload hx hb dX3_leastRecentHitsIf_63 (lv_at hl 1 rfl) ?_
                  refine lv_istore (lv' := [(5, .int v), (6, .int (nI j)), (4, .int (nI i)), (3, .int (nI P.length)), (2, .int (r_n k lg i)), (0, .ref mo), (1, .int k)]) hx hb dX3_leastRecentHitsIf_65 hl (by decide) rfl (fun ls hl => ?_)
                  refine lv_iinc (v := nI (j + 1)) (lv' := [(6, .int (nI (j + 1))), (5, .int v), (4, .int (nI i)), (3, .int (nI P.length)), (2, .int (r_n k lg i)), (0, .ref mo), (1, .int k)]) hx hb dX3_leastRecentHitsIf_67 hl (k := 1) rfl (nI_1 j) (by decide) rfl (fun ls hl => ?_)
                  refine lv_goto (tgt := 35) hx hb dX3_leastRecentHitsIf_70 (by decide) ?_
                  exact ih (j + 1) v H locs ls (by omega) (by omega) (m_pl_f hpl (by rw [hpg.2 j hjl]; intro q9; exact c_34 (Option.some.inj q9))) hP hD hS (lv_sub hl [0, 1, 2, 3, 4, 5, 6] rfl)
                · skip
                  refine lv_iload hx hb dX3_leastRecentHitsIf_58 (lv_at hl 0 rfl) ?_
                  refine lv_goto (tgt := 65) hx hb dX3_leastRecentHitsIf_60 (by decide) ?_
                  refine lv_istore (lv' := [(5, .int (nI j)), (6, .int (nI j)), (4, .int (nI i)), (3, .int (nI P.length)), (2, .int (r_n k lg i)), (0, .ref mo), (1, .int k)]) hx hb dX3_leastRecentHitsIf_65 hl (by decide) rfl (fun ls hl => ?_)
                  refine lv_iinc (v := nI (j + 1)) (lv' := [(6, .int (nI (j + 1))), (5, .int (nI j)), (4, .int (nI i)), (3, .int (nI P.length)), (2, .int (r_n k lg i)), (0, .ref mo), (1, .int k)]) hx hb dX3_leastRecentHitsIf_67 hl (k := 1) rfl (nI_1 j) (by decide) rfl (fun ls hl => ?_)
                  refine lv_goto (tgt := 35) hx hb dX3_leastRecentHitsIf_70 (by decide) ?_
                  exact ih (j + 1) (nI j) H locs ls (by omega) (by omega) (m_pl_t (v := 0) (by rw [hpg.2 j hjl, c_34])) hP hD hS (lv_sub hl [0, 1, 2, 3, 4, 5, 6] rfl)
          exact lpB (P.length + 1) 0 (-1) H locs ls (by omega) (Nat.zero_le _) (Or.inl ⟨rfl, fun j hj => absurd hj (Nat.not_lt_zero j)⟩) hP hD hS (lv_sub hl [0, 1, 2, 3, 4, 5, 6] rfl)
    exact lpA (lg.length + 1) 0 pp H locs ls (by omega) (Nat.zero_le _) ⟨Nat.zero_le _, fun j hj => absurd hj (Nat.not_lt_zero j)⟩ hP hD hS (lv_sub hl [0, 1, 2, 3, 4] rfl)
  · skip
    have c_3 : ¬ (¬ a_badCap k) := ki_b0.mp c_3
    refine lv_iconst (v := 0) hx hb dX3_leastRecentHitsIf_11 (by decide) ?_
    exact ki_iret hx hb hr hlk hK hS pp ((if_neg c_3).symm) (by simp only [if_neg c_3] at hP ⊢; exact hP) (by simp only [if_neg c_3] at hD ⊢; exact hD) dX3_leastRecentHitsIf_12
