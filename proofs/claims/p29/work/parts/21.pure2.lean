/-! ===== the invariant, call by call ===== -/
theorem p_W_sub {st s' : ki_St} (h1 : (s'.1 1).Sublist (st.1 1)) (h2 : (s'.1 2).Sublist (st.1 2)) (h3 : (s'.1 3).Sublist (st.1 3)) (h4 : (s'.1 4).Sublist (st.1 4)) (hw : p_W st) : p_W s' := by
  have c1 := fun x => h1.count_le x
  have c2 := fun x => h2.count_le x
  have c3 := fun x => h3.count_le x
  have c4 := fun x => h4.count_le x
  have l1 := h1.length_le
  have l2 := h2.length_le
  have l3 := h3.length_le
  have l4 := h4.length_le
  obtain ⟨w1, w2, w3⟩ := hw
  refine ⟨fun x => ?_, ?_, by omega⟩
  · have := w1 x; have := c1 x; have := c2 x; have := c3 x; have := c4 x
    unfold p_cnt at *
    omega
  · have := c1 (-1); have := c2 (-1); have := c3 (-1); have := c4 (-1)
    unfold p_cnt at *
    omega
theorem k_gap_sub (L : List Int32) (g : Int32) : (k_gap L g).Sublist L := by
  unfold k_gap
  split
  · exact List.Sublist.refl _
  · split
    · exact List.eraseIdx_sublist _ _
    · exact List.Sublist.refl _
theorem p_room {st : ki_St} {b : Int32} {k g : Nat} (hw : p_W st) (hk : st.2 6 = nI k) (hk1 : 1 ≤ k) (hk2 : k ≤ 32) (hg : st.2 5 = nI g) (hg2 : g ≤ 64) (hp : (st.1 1).length + (st.1 2).length ≤ k) (h2 : (st.1 1).length + (st.1 2).length = k → ¬ c_evR st b → ¬ st.1 2 = []) :
    p_W (c_room st b) ∧ (∀ i, i ≠ 10 → (c_room st b).2 i = st.2 i) ∧ ((c_room st b).1 1).length + ((c_room st b).1 2).length < k ∧
    ((c_room st b).1 1).length + ((c_room st b).1 3).length = (st.1 1).length + (st.1 3).length ∧ ((c_room st b).1 2).length + ((c_room st b).1 4).length = (st.1 2).length + (st.1 4).length ∧
    (∀ x, p_cnt (c_room st b) x = p_cnt st x) ∧ (∀ x, x ∈ st.1 3 → x ∈ (c_room st b).1 3) ∧ (∀ x, x ∈ st.1 4 → x ∈ (c_room st b).1 4) := by
  unfold c_room
  by_cases h : c_full st
  · rw [if_pos h]
    have hf := (p_full hk (by omega) hw).mp h
    obtain ⟨a1, a2, a3, a4, a5, a6, a7, a8, a9⟩ := p_evict hw hg hg2 (h2 hf)
    exact ⟨a1, a2, by omega, a5, a6, a7, a8, a9⟩
  · rw [if_neg h]
    have hf : ¬ _ := fun q => h ((p_full hk (by omega) hw).mpr q)
    exact ⟨hw, fun _ _ => rfl, by omega, rfl, rfl, fun _ => rfl, fun _ q => q, fun _ q => q⟩
theorem p_join1 {st : ki_St} {key : Int32} (hw : p_W st) (h0 : ¬ key = -1) (hc : p_cnt st key = 0) (hl : (st.1 1).length + (st.1 2).length + (st.1 3).length + (st.1 4).length < 64) :
    p_W (va_up st.1 1 (k_join (st.1 1) key), st.2) ∧ (k_join (st.1 1) key).length = (st.1 1).length + 1 := by
  rw [k_join_ok h0 (by omega)]
  obtain ⟨w1, w2, w3⟩ := hw
  have ec : ∀ x, p_cnt (va_up st.1 1 (st.1 1 ++ [key]), st.2) x = p_cnt st x + (if (key == x) = true then 1 else 0) := fun x => by
    show (st.1 1 ++ [key]).count x + (st.1 2).count x + (st.1 3).count x + (st.1 4).count x = _
    unfold p_cnt
    simp only [List.count_append, List.count_cons, List.count_nil]
    omega
  refine ⟨⟨fun x => ?_, ?_, ?_⟩, by simp⟩
  · rw [ec]
    by_cases q : (key == x) = true
    · have e : key = x := by simpa using q
      subst e
      rw [hc, if_pos q]
      omega
    · rw [if_neg q]
      exact w1 x
  · rw [ec, w2, if_neg (by simpa using h0)]
  · show (st.1 1 ++ [key]).length + (st.1 2).length + (st.1 3).length + (st.1 4).length ≤ 64
    simp
    omega
theorem p_join2 {st : ki_St} {key : Int32} (hw : p_W st) (h0 : ¬ key = -1) (hc : p_cnt st key = 0) (hl : (st.1 1).length + (st.1 2).length + (st.1 3).length + (st.1 4).length < 64) :
    p_W (c_join2 st key) ∧ (k_join (st.1 2) key).length = (st.1 2).length + 1 := by
  unfold c_join2
  rw [k_join_ok h0 (by omega)]
  obtain ⟨w1, w2, w3⟩ := hw
  have ec : ∀ x, p_cnt (va_up st.1 2 (st.1 2 ++ [key]), st.2) x = p_cnt st x + (if (key == x) = true then 1 else 0) := fun x => by
    show (st.1 1).count x + (st.1 2 ++ [key]).count x + (st.1 3).count x + (st.1 4).count x = _
    unfold p_cnt
    simp only [List.count_append, List.count_cons, List.count_nil]
    omega
  refine ⟨⟨fun x => ?_, ?_, ?_⟩, by simp⟩
  · rw [ec]
    by_cases q : (key == x) = true
    · have e : key = x := by simpa using q
      subst e
      rw [hc, if_pos q]
      omega
    · rw [if_neg q]
      exact w1 x
  · rw [ec, w2, if_neg (by simpa using h0)]
  · show (st.1 1).length + (st.1 2 ++ [key]).length + (st.1 3).length + (st.1 4).length ≤ 64
    simp
    omega
/-- a key leaves the list in which it is -/
theorem p_from {st : ki_St} {w key : Int32} {i : Nat} (hw : p_W st) (h1 : 1 ≤ i) (h4 : i ≤ 4) (hi : w = nI i) (hm : key ∈ st.1 i) :
    c_from st w key = (va_up st.1 i (k_gap (st.1 i) (k_idx (st.1 i) key)), st.2) ∧ p_W (c_from st w key) ∧ p_cnt (c_from st w key) key = 0 ∧ ((c_from st w key).1 i).length + 1 = (st.1 i).length ∧ ∀ j, j ≠ i → (c_from st w key).1 j = st.1 j := by
  subst hi
  have e : c_from st (nI i) key = (va_up st.1 i (k_gap (st.1 i) (k_idx (st.1 i) key)), st.2) := by
    rcases (show i = 1 ∨ i = 2 ∨ i = 3 ∨ i = 4 by omega) with rfl | rfl | rfl | rfl <;> rfl
  have hl : (st.1 i).length ≤ 64 := by
    have := hw.2.2
    rcases (show i = 1 ∨ i = 2 ∨ i = 3 ∨ i = 4 by omega) with rfl | rfl | rfl | rfl <;> omega
  have hge := k_erase (L := st.1 i) (key := key) hl
  have hln := List.length_erase_of_mem hm
  have hpos := List.length_pos_of_mem hm
  have hsub : ∀ j, ((va_up st.1 i (k_gap (st.1 i) (k_idx (st.1 i) key))) j).Sublist (st.1 j) := fun j => by
    by_cases q : j = i
    · subst q; rw [va_up_self]; exact k_gap_sub _ _
    · rw [va_up_ne _ _ q]; exact List.Sublist.refl _
  have hcz : p_cnt (va_up st.1 i (k_gap (st.1 i) (k_idx (st.1 i) key)), st.2) key = 0 := by
    have h := hw.1 key
    have hm2 := p_mem.mp hm
    have hce : ((st.1 i).erase key).count key = (st.1 i).count key - 1 := List.count_erase_self
    rw [hge]
    unfold p_cnt at *
    rcases (show i = 1 ∨ i = 2 ∨ i = 3 ∨ i = 4 by omega) with rfl | rfl | rfl | rfl
    · show ((st.1 1).erase key).count key + (st.1 2).count key + (st.1 3).count key + (st.1 4).count key = 0
      omega
    · show (st.1 1).count key + ((st.1 2).erase key).count key + (st.1 3).count key + (st.1 4).count key = 0
      omega
    · show (st.1 1).count key + (st.1 2).count key + ((st.1 3).erase key).count key + (st.1 4).count key = 0
      omega
    · show (st.1 1).count key + (st.1 2).count key + (st.1 3).count key + ((st.1 4).erase key).count key = 0
      omega
  refine ⟨e, ?_⟩
  rw [e]
  refine ⟨p_W_sub (hsub 1) (hsub 2) (hsub 3) (hsub 4) hw, hcz, ?_, fun j hj => va_up_ne _ _ hj⟩
  show (va_up st.1 i (k_gap (st.1 i) (k_idx (st.1 i) key)) i).length + 1 = _
  rw [va_up_self, hge]
  omega
theorem p_step {o w : Nat} (ho : o ≤ 64) (h1 : 1 ≤ w) (hw : w ≤ 64) : ∃ s : Nat, c_step (nI o) (nI w) = nI s ∧ 1 ≤ s ∧ s ≤ 64 := by
  unfold c_step
  rw [if_pos (by show nI 1 ≤ nI w; rw [nI_leI (by omega) (by omega)]; exact h1), pk_div (by omega) (by omega) (by omega)]
  have hd : o / w ≤ 64 := Nat.le_trans (Nat.div_le_self _ _) ho
  by_cases h : (1 : Int32) < nI (o / w)
  · rw [if_pos h]
    have h2 : 1 < o / w := (nI_ltI (a := 1) (by omega) (by omega)).mp h
    exact ⟨o / w, rfl, by omega, hd⟩
  · rw [if_neg h]
    exact ⟨1, rfl, by omega, by omega⟩
/-- the target moves -/
theorem p_adapt {st : ki_St} {k g i : Nat} (hw : p_W st) (hk : st.2 6 = nI k) (hk2 : k ≤ 32) (hg : st.2 5 = nI g) (hg2 : g ≤ k) (hi : i = 3 ∨ i = 4) (hm : 0 < (st.1 i).length) :
    ∃ g' : Nat, c_adapt st (nI i) = (st.1, va_up st.2 5 (nI g')) ∧ g' ≤ k := by
  have hl := hw.2.2
  unfold c_adapt
  rcases hi with rfl | rfl
  · rw [if_pos (show nI 3 = 3 from rfl)]
    obtain ⟨s, hs, h1, h2⟩ := p_step (o := (st.1 4).length) (w := (st.1 3).length) (by omega) (by omega) (by omega)
    rw [hs, hg, hk, nI_add]
    by_cases h : nI (g + s) < nI k
    · rw [if_pos h]
      have := (nI_ltI (by omega) (by omega)).mp h
      exact ⟨g + s, rfl, by omega⟩
    · rw [if_neg h]
      exact ⟨k, rfl, Nat.le_refl _⟩
  · rw [if_neg (by decide)]
    obtain ⟨s, hs, h1, h2⟩ := p_step (o := (st.1 3).length) (w := (st.1 4).length) (by omega) (by omega) (by omega)
    rw [hs, hg]
    by_cases h : (0 : Int32) < nI g - nI s
    · rw [if_pos h]
      have hsg : s ≤ g := by
        rcases Nat.lt_or_ge g s with q | q
        · have := pk_sneg (a := g) (b := s) (by omega) q
          have h3 := Int32.lt_iff_toInt_lt.mp h
          have h4 := Int32.lt_iff_toInt_lt.mp this
          omega
        · exact q
      rw [pk_sub hsg]
      exact ⟨g - s, rfl, by omega⟩
    · rw [if_neg h]
      exact ⟨0, rfl, Nat.zero_le _⟩
