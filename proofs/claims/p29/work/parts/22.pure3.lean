theorem p_run {st : ki_St} {n : Nat} {key : Int32} (hi : p_Inv n st) (hk : ¬ key = -1) : p_Inv (n + 1) (c_run st key) := by
  obtain ⟨hw, k, g, r, z, h1, h2, h3, h4, h5, h6, h7, h8⟩ := hi
  unfold c_run
  by_cases h : ¬ st.2 9 = -1 ∧ key = st.2 9 + 1
  · rw [if_pos h]
    refine ⟨hw, k, g, r + 1, z, h1, h2, ⟨?_, by omega⟩, h4, ⟨fun q => absurd q hk, fun q => by omega⟩, h6, h7, h8⟩
    show st.2 8 + 1 = _
    rw [h3.1, nI_1]
  · rw [if_neg h]
    exact ⟨hw, k, g, 1, z, h1, h2, ⟨rfl, by omega⟩, h4, ⟨fun q => absurd q hk, fun q => by omega⟩, h6, h7, h8⟩
theorem p_list {st : ki_St} (key : Int32) : (c_list st key = 0 ∧ p_cnt st key = 0) ∨ ∃ i : Nat, 1 ≤ i ∧ i ≤ 4 ∧ c_list st key = nI i ∧ key ∈ st.1 i := by
  unfold c_list
  by_cases h1 : key ∈ st.1 1
  · exact Or.inr ⟨1, by decide, by decide, by rw [if_pos h1]; rfl, h1⟩
  · rw [if_neg h1]
    by_cases h2 : key ∈ st.1 2
    · exact Or.inr ⟨2, by decide, by decide, by rw [if_pos h2]; rfl, h2⟩
    · rw [if_neg h2]
      by_cases h3 : key ∈ st.1 3
      · exact Or.inr ⟨3, by decide, by decide, by rw [if_pos h3]; rfl, h3⟩
      · rw [if_neg h3]
        by_cases h4 : key ∈ st.1 4
        · exact Or.inr ⟨4, by decide, by decide, by rw [if_pos h4]; rfl, h4⟩
        · rw [if_neg h4]
          refine Or.inl ⟨rfl, ?_⟩
          unfold p_cnt
          rw [List.count_eq_zero_of_not_mem h1, List.count_eq_zero_of_not_mem h2, List.count_eq_zero_of_not_mem h3, List.count_eq_zero_of_not_mem h4]
theorem k_gap0_len {L : List Int32} (hl : L.length ≤ 64) : (k_gap L 0).length = L.length - 1 := by
  rw [k_gap0 hl, List.length_tail]
theorem p_cnt_sub {st s' : ki_St} {x : Int32} (h1 : (s'.1 1).Sublist (st.1 1)) (h2 : (s'.1 2).Sublist (st.1 2)) (h3 : (s'.1 3).Sublist (st.1 3)) (h4 : (s'.1 4).Sublist (st.1 4)) (hc : p_cnt st x = 0) : p_cnt s' x = 0 := by
  have := h1.count_le x
  have := h2.count_le x
  have := h3.count_le x
  have := h4.count_le x
  unfold p_cnt at *
  omega
/-- room for a new key -/
theorem p_adm1 {st : ki_St} {k : Nat} (hw : p_W st) (hk : st.2 6 = nI k) (hk1 : 1 ≤ k) (hk2 : k ≤ 32) (h6 : (st.1 1).length + (st.1 2).length ≤ k) (h7 : (st.1 1).length + (st.1 3).length ≤ k) (h8 : (st.1 1).length + (st.1 2).length + (st.1 3).length + (st.1 4).length ≤ 2 * k) :
    p_W (c_adm1 st) ∧ (∀ i, i ≠ 10 → (c_adm1 st).2 i = st.2 i) ∧ ((c_adm1 st).1 1).length + ((c_adm1 st).1 2).length ≤ k ∧ ((c_adm1 st).1 1).length + ((c_adm1 st).1 3).length < k ∧
    ((c_adm1 st).1 1).length + ((c_adm1 st).1 2).length + ((c_adm1 st).1 3).length + ((c_adm1 st).1 4).length < 2 * k ∧ (∀ x, p_cnt st x = 0 → p_cnt (c_adm1 st) x = 0) := by
  have hl := hw.2.2
  have e1 := k_gap0_len (L := st.1 1) (by omega)
  have e3 := k_gap0_len (L := st.1 3) (by omega)
  have e4 := k_gap0_len (L := st.1 4) (by omega)
  unfold c_adm1
  by_cases hd : c_drops st
  · rw [if_pos hd]
    have h := (p_drops hk (by omega) hw).mp hd
    refine ⟨p_W_sub (st := st) (k_gap_sub (st.1 1) 0) (List.Sublist.refl _) (List.Sublist.refl _) (List.Sublist.refl _) hw, fun i hi => va_up_ne _ _ hi, ?_, ?_, ?_, fun x hx => p_cnt_sub (st := st) (k_gap_sub (st.1 1) 0) (List.Sublist.refl _) (List.Sublist.refl _) (List.Sublist.refl _) hx⟩
    · show (k_gap (st.1 1) 0).length + (st.1 2).length ≤ k
      omega
    · show (k_gap (st.1 1) 0).length + (st.1 3).length < k
      omega
    · show (k_gap (st.1 1) 0).length + (st.1 2).length + (st.1 3).length + (st.1 4).length < 2 * k
      omega
  · rw [if_neg hd]
    by_cases hr : c_rg st = st.2 6
    · rw [if_pos hr]
      have h := (p_rgk hk (by omega) hw).mp hr
      have h3 : 0 < (st.1 3).length := by
        rcases Nat.eq_zero_or_pos (st.1 3).length with q | q
        · exact absurd ((p_drops hk (by omega) hw).mpr ⟨h, q⟩) hd
        · exact q
      refine ⟨p_W_sub (st := st) (List.Sublist.refl _) (List.Sublist.refl _) (k_gap_sub (st.1 3) 0) (List.Sublist.refl _) hw, fun i hi => rfl, h6, ?_, ?_, fun x hx => p_cnt_sub (st := st) (List.Sublist.refl _) (List.Sublist.refl _) (k_gap_sub (st.1 3) 0) (List.Sublist.refl _) hx⟩
      · show (st.1 1).length + (k_gap (st.1 3) 0).length < k
        omega
      · show (st.1 1).length + (st.1 2).length + (k_gap (st.1 3) 0).length + (st.1 4).length < 2 * k
        omega
    · rw [if_neg hr]
      have h : ¬ _ := fun q => hr ((p_rgk hk (by omega) hw).mpr q)
      by_cases ha : c_all st = 2 * st.2 6
      · rw [if_pos ha]
        have h9 := (p_allk hk (by omega) hw).mp ha
        refine ⟨p_W_sub (st := st) (List.Sublist.refl _) (List.Sublist.refl _) (List.Sublist.refl _) (k_gap_sub (st.1 4) 0) hw, fun i hi => rfl, h6, ?_, ?_, fun x hx => p_cnt_sub (st := st) (List.Sublist.refl _) (List.Sublist.refl _) (List.Sublist.refl _) (k_gap_sub (st.1 4) 0) hx⟩
        · show (st.1 1).length + (st.1 3).length < k
          omega
        · show (st.1 1).length + (st.1 2).length + (st.1 3).length + (k_gap (st.1 4) 0).length < 2 * k
          omega
      · rw [if_neg ha]
        have h9 : ¬ _ := fun q => ha ((p_allk hk (by omega) hw).mpr q)
        exact ⟨hw, fun _ _ => rfl, h6, by omega, by omega, fun _ hx => hx⟩
theorem p_admit {st : ki_St} {n : Nat} {key : Int32} (hi : p_Inv n st) (hk0 : ¬ key = -1) (hc : p_cnt st key = 0) : p_Inv n (c_admit st key) := by
  obtain ⟨hw, k, g, r, z, ⟨h1, h1a, h1b⟩, ⟨h2, h2a⟩, h3, h4, h5, h6, h7, h8⟩ := hi
  obtain ⟨a1, a2, a3, a4, a5, a6⟩ := p_adm1 hw h1 h1a h1b h6 h7 h8
  obtain ⟨b1, b2, b3, b4, b5, b6, -, -⟩ := p_room (b := 0) a1 ((a2 6 (by decide)).trans h1) h1a h1b ((a2 5 (by decide)).trans h2) (by omega) a3 (fun q _ e => by rw [e] at q; simp only [List.length_nil] at q; omega)
  obtain ⟨d1, d2⟩ := p_join1 (key := key) b1 hk0 (by rw [b6]; exact a6 key hc) (by omega)
  refine ⟨d1, k, g, r, z, ⟨?_, h1a, h1b⟩, ⟨?_, h2a⟩, ⟨?_, h3.2⟩, ⟨?_, h4.2⟩, ?_, ?_, ?_, ?_⟩
  · exact (b2 6 (by decide)).trans ((a2 6 (by decide)).trans h1)
  · exact (b2 5 (by decide)).trans ((a2 5 (by decide)).trans h2)
  · exact (b2 8 (by decide)).trans ((a2 8 (by decide)).trans h3.1)
  · exact (b2 7 (by decide)).trans ((a2 7 (by decide)).trans h4.1)
  · show (c_room (c_adm1 st) 0).2 9 = -1 ↔ _
    rw [b2 9 (by decide), a2 9 (by decide)]
    exact h5
  · show (k_join ((c_room (c_adm1 st) 0).1 1) key).length + ((c_room (c_adm1 st) 0).1 2).length ≤ k
    omega
  · show (k_join ((c_room (c_adm1 st) 0).1 1) key).length + ((c_room (c_adm1 st) 0).1 3).length ≤ k
    omega
  · show (k_join ((c_room (c_adm1 st) 0).1 1) key).length + ((c_room (c_adm1 st) 0).1 2).length + ((c_room (c_adm1 st) 0).1 3).length + ((c_room (c_adm1 st) 0).1 4).length ≤ 2 * k
    omega
theorem p_hit {st : ki_St} {n i : Nat} {key : Int32} (hi : p_Inv n st) (h : i = 1 ∨ i = 2) (hm : key ∈ st.1 i) : p_Inv n (c_join2 (c_from st (nI i) key) key) := by
  obtain ⟨hw, k, g, r, z, ⟨h1, h1a, h1b⟩, ⟨h2, h2a⟩, h3, h4, h5, h6, h7, h8⟩ := hi
  obtain ⟨a0, a1, a2, a3, a4⟩ := p_from (w := nI i) hw (by omega) (by omega) rfl hm
  have hk0 : ¬ key = -1 := p_ne1 hw (by omega) (by omega) hm
  have hz : (c_from st (nI i) key).2 = st.2 := by rw [a0]
  clear a0
  generalize c_from st (nI i) key = s at a1 a2 a3 a4 hz ⊢
  rcases h with rfl | rfl
  · have e2 := a4 2 (by decide); have e3 := a4 3 (by decide); have e4 := a4 4 (by decide)
    obtain ⟨d1, d2⟩ := p_join2 (key := key) a1 hk0 a2 (by rw [e2, e3, e4]; omega)
    rw [e2] at d2
    refine ⟨d1, k, g, r, z, ?_⟩
    unfold c_join2
    rw [hz]
    refine ⟨⟨h1, h1a, h1b⟩, ⟨h2, h2a⟩, h3, h4, h5, ?_, ?_, ?_⟩
    · show (s.1 1).length + (k_join (s.1 2) key).length ≤ k
      rw [e2]; omega
    · show (s.1 1).length + (s.1 3).length ≤ k
      rw [e3]; omega
    · show (s.1 1).length + (k_join (s.1 2) key).length + (s.1 3).length + (s.1 4).length ≤ 2 * k
      rw [e2, e3, e4]; omega
  · have e1 := a4 1 (by decide); have e3 := a4 3 (by decide); have e4 := a4 4 (by decide)
    obtain ⟨d1, d2⟩ := p_join2 (key := key) a1 hk0 a2 (by rw [e1, e3, e4]; omega)
    refine ⟨d1, k, g, r, z, ?_⟩
    unfold c_join2
    rw [hz]
    refine ⟨⟨h1, h1a, h1b⟩, ⟨h2, h2a⟩, h3, h4, h5, ?_, ?_, ?_⟩
    · show (s.1 1).length + (k_join (s.1 2) key).length ≤ k
      rw [e1]; omega
    · show (s.1 1).length + (s.1 3).length ≤ k
      rw [e1, e3]; omega
    · show (s.1 1).length + (k_join (s.1 2) key).length + (s.1 3).length + (s.1 4).length ≤ 2 * k
      rw [e1, e3, e4]; omega
/-- a ghost's way to the frequent list: up to the leaving of its list -/
theorem p_ghost0 {st : ki_St} {k g i : Nat} {b key : Int32} (hw : p_W st) (hk : st.2 6 = nI k) (hk1 : 1 ≤ k) (hk2 : k ≤ 32) (hg : st.2 5 = nI g) (hg2 : g ≤ k) (h6 : (st.1 1).length + (st.1 2).length ≤ k) (h7 : (st.1 1).length + (st.1 3).length ≤ k)
    (hi : (i = 3 ∧ b = 0) ∨ (i = 4 ∧ ¬ b = 0)) (hm : key ∈ st.1 i) :
    ∃ g' : Nat, c_adapt st (nI i) = (st.1, va_up st.2 5 (nI g')) ∧ g' ≤ k ∧ p_W (st.1, va_up st.2 5 (nI g')) ∧ ((st.1 1).length + (st.1 2).length = k → ¬ c_evR (st.1, va_up st.2 5 (nI g')) b → ¬ st.1 2 = []) := by
  have hpos := List.length_pos_of_mem hm
  obtain ⟨g', e, h⟩ := p_adapt (i := i) hw hk hk2 hg hg2 (by omega) hpos
  refine ⟨g', e, h, hw, fun hf hn e2 => ?_⟩
  have hw' : p_W (st.1, va_up st.2 5 (nI g')) := hw
  have hev : c_evR (st.1, va_up st.2 5 (nI g')) b ↔ (g' < (st.1 1).length ∨ (¬ b = 0 ∧ (st.1 1).length = g' ∧ 0 < (st.1 1).length)) := p_evR (g := g') rfl (by omega) hw'
  rw [e2] at hf
  simp only [List.length_nil] at hf
  rcases hi with ⟨rfl, hb⟩ | ⟨rfl, hb⟩
  · omega
  · have h1 : (st.1 1).length = k := by omega
    have h2 : ¬ g' < (st.1 1).length := fun q => hn (hev.mpr (Or.inl q))
    have h3 : ¬ ((st.1 1).length = g' ∧ 0 < (st.1 1).length) := fun q => hn (hev.mpr (Or.inr ⟨hb, q⟩))
    omega
theorem p_ghost {st : ki_St} {n i : Nat} {b key : Int32} (hin : p_Inv n st) (hi : (i = 3 ∧ b = 0) ∨ (i = 4 ∧ ¬ b = 0)) (hm : key ∈ st.1 i) : p_Inv n (c_join2 (c_from (c_room (c_adapt st (nI i)) b) (nI i) key) key) := by
  obtain ⟨hw, k, g, r, z, ⟨h1, h1a, h1b⟩, ⟨h2, h2a⟩, h3, h4, h5, h6, h7, h8⟩ := hin
  have hk0 : ¬ key = -1 := p_ne1 hw (by omega) (by omega) hm
  obtain ⟨g', e, hg', hw', hne⟩ := p_ghost0 hw h1 h1a h1b h2 h2a h6 h7 hi hm
  rw [e]
  obtain ⟨b1, b2, b3, b4, b5, b6, b7, b8⟩ := p_room (st := (st.1, va_up st.2 5 (nI g'))) (b := b) (k := k) (g := g') hw' h1 h1a h1b rfl (by omega) h6 hne
  generalize hs : c_room (st.1, va_up st.2 5 (nI g')) b = s at b1 b2 b3 b4 b5 b6 b7 b8
  have hm' : key ∈ s.1 i := by
    rcases hi with ⟨rfl, -⟩ | ⟨rfl, -⟩
    · exact b7 key hm
    · exact b8 key hm
  obtain ⟨a0, a1, a2, a3, a4⟩ := p_from (w := nI i) b1 (by omega) (by omega) rfl hm'
  have hz : (c_from s (nI i) key).2 = s.2 := by rw [a0]
  clear a0
  generalize c_from s (nI i) key = u at a1 a2 a3 a4 hz ⊢
  dsimp only at b4 b5
  have e1 := a4 1 (by omega); have e2 := a4 2 (by omega)
  rcases hi with ⟨rfl, -⟩ | ⟨rfl, -⟩
  · have e4 := a4 4 (by omega)
    obtain ⟨d1, d2⟩ := p_join2 (key := key) a1 hk0 a2 (by rw [e1, e2, e4]; omega)
    rw [e2] at d2
    refine ⟨d1, k, g', r, z, ?_⟩
    unfold c_join2
    rw [hz]
    refine ⟨⟨(b2 6 (by decide)).trans h1, h1a, h1b⟩, ⟨(b2 5 (by decide)).trans rfl, hg'⟩, ⟨(b2 8 (by decide)).trans h3.1, h3.2⟩, ⟨(b2 7 (by decide)).trans h4.1, h4.2⟩, ?_, ?_, ?_, ?_⟩
    · rw [show s.2 9 = st.2 9 from b2 9 (by decide)]; exact h5
    · show (u.1 1).length + (k_join (u.1 2) key).length ≤ k
      rw [e1, e2]; omega
    · show (u.1 1).length + (u.1 3).length ≤ k
      rw [e1]; omega
    · show (u.1 1).length + (k_join (u.1 2) key).length + (u.1 3).length + (u.1 4).length ≤ 2 * k
      rw [e1, e2, e4]; omega
  · have e3 := a4 3 (by omega)
    obtain ⟨d1, d2⟩ := p_join2 (key := key) a1 hk0 a2 (by rw [e1, e2, e3]; omega)
    rw [e2] at d2
    refine ⟨d1, k, g', r, z, ?_⟩
    unfold c_join2
    rw [hz]
    refine ⟨⟨(b2 6 (by decide)).trans h1, h1a, h1b⟩, ⟨(b2 5 (by decide)).trans rfl, hg'⟩, ⟨(b2 8 (by decide)).trans h3.1, h3.2⟩, ⟨(b2 7 (by decide)).trans h4.1, h4.2⟩, ?_, ?_, ?_, ?_⟩
    · rw [show s.2 9 = st.2 9 from b2 9 (by decide)]; exact h5
    · show (u.1 1).length + (k_join (u.1 2) key).length ≤ k
      rw [e1, e2]; omega
    · show (u.1 1).length + (u.1 3).length ≤ k
      rw [e1, e3]; omega
    · show (u.1 1).length + (k_join (u.1 2) key).length + (u.1 3).length + (u.1 4).length ≤ 2 * k
      rw [e1, e2, e3]; omega
theorem p_serve {st : ki_St} {n : Nat} {key : Int32} (hi : p_Inv n st) (hk : ¬ key = -1) : p_Inv (n + 1) (c_serve st key).1 := by
  have hr := p_run hi hk
  unfold c_serve
  generalize c_run st key = s at hr
  by_cases hs : ¬ s.2 7 = 0 ∧ ¬ s.2 8 < s.2 7
  · rw [if_pos hs]
    exact hr
  · rw [if_neg hs]
    rcases p_list (st := s) key with ⟨h0, hc⟩ | ⟨i, h1, h4, hl, hm⟩
    · rw [if_pos h0]
      exact p_admit hr hk hc
    · rw [hl]
      rw [if_neg (show ¬ nI i = 0 from nI_ne0 (by omega) (by omega))]
      by_cases h2 : i = 1 ∨ i = 2
      · rw [if_pos (by rcases h2 with rfl | rfl; exact Or.inl rfl; exact Or.inr rfl)]
        exact p_hit hr h2 hm
      · have h3 : i = 3 ∨ i = 4 := by omega
        rw [if_neg (by rcases h3 with rfl | rfl <;> decide)]
        rcases h3 with rfl | rfl
        · rw [if_neg (by decide)]
          exact p_ghost hr (Or.inl ⟨rfl, rfl⟩) hm
        · rw [if_pos (by decide)]
          exact p_ghost hr (Or.inr ⟨rfl, by decide⟩) hm
/-- the outcomes -/
theorem p_outcome {st : ki_St} (key : Int32) : (c_serve st key).2 = 1 ∨ (c_serve st key).2 = 2 ∨ (c_serve st key).2 = 3 ∨ (c_serve st key).2 = 4 ∨ (c_serve st key).2 = 5 ∨ (c_serve st key).2 = 6 := by
  unfold c_serve
  generalize c_run st key = s
  have hl : c_list s key = 0 ∨ c_list s key = 1 ∨ c_list s key = 2 ∨ c_list s key = 3 ∨ c_list s key = 4 := by
    rcases p_list (st := s) key with ⟨h0, hc⟩ | ⟨i, h1, h4, hl, hm⟩
    · exact Or.inl h0
    · rw [hl]
      rcases (show i = 1 ∨ i = 2 ∨ i = 3 ∨ i = 4 by omega) with rfl | rfl | rfl | rfl <;> decide
  split
  · dsimp only
    split
    · rename_i h; rcases h with h | h <;> rw [h] <;> decide
    · exact Or.inr (Or.inr (Or.inr (Or.inr (Or.inr rfl))))
  · split
    · exact Or.inr (Or.inr (Or.inr (Or.inr (Or.inl rfl))))
    · rename_i h0
      split
      · rename_i h; dsimp only; rcases h with h | h <;> rw [h] <;> decide
      · dsimp only; rcases hl with h | h | h | h | h <;> first | exact absurd h h0 | (rw [h]; decide)
theorem p_anew {k z : Nat} (h1 : 1 ≤ k) (h2 : k ≤ 32) (hz : z ≤ 20) : p_Inv 0 (c_anew (nI k) (nI z)) :=
  ⟨⟨fun x => Nat.zero_le _, rfl, Nat.zero_le _⟩, k, 0, 0, z, ⟨rfl, h1, h2⟩, ⟨rfl, Nat.zero_le _⟩, ⟨rfl, Nat.le_refl _⟩, ⟨rfl, hz⟩, ⟨fun _ => rfl, fun _ => rfl⟩, Nat.zero_le _, Nat.zero_le _, Nat.zero_le _⟩
