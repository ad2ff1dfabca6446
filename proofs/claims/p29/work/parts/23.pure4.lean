theorem p_evN {S : ki_St} {k g P : Nat} (hw : p_W S) (hk2 : k ≤ 32) (hg : S.2 5 = nI g) (hg2 : g ≤ k) (hP : (S.1 1).length + (S.1 2).length = P) : ∀ i : Nat, i ≤ P - k →
    p_W (c_evN i S) ∧ (∀ j, j ≠ 10 → (c_evN i S).2 j = S.2 j) ∧ (c_evN i S).2 10 = S.2 10 + nI i ∧ ((c_evN i S).1 1).length + ((c_evN i S).1 2).length + i = P ∧
    ((c_evN i S).1 1).length + ((c_evN i S).1 3).length = (S.1 1).length + (S.1 3).length ∧ ((c_evN i S).1 2).length + ((c_evN i S).1 4).length = (S.1 2).length + (S.1 4).length ∧
    (i < P - k → ¬ c_evR (c_evN i S) 0 → ¬ (c_evN i S).1 2 = []) := by
  have hne : ∀ (i : Nat) (X : ki_St), i < P - k → p_W X → X.2 5 = nI g → (X.1 1).length + (X.1 2).length + i = P → ¬ c_evR X 0 → ¬ X.1 2 = [] := by
    intro i X hi hX hz hl h e
    rw [e] at hl
    simp only [List.length_nil] at hl
    exact h ((p_evR hz (by omega) hX).mpr (Or.inl (by omega)))
  intro i
  induction i with
  | zero =>
    intro hi
    exact ⟨hw, fun _ _ => rfl, by show S.2 10 = S.2 10 + nI 0; exact (Int32.add_zero _).symm, hP, rfl, rfl, fun h => hne 0 S h hw hg hP⟩
  | succ i ih =>
    intro hi
    obtain ⟨a1, a2, a3, a4, a5, a6, a7⟩ := ih (by omega)
    have a2' : (c_evN i S).2 5 = nI g := (a2 5 (by decide)).trans hg
    obtain ⟨b1, b2, b3, b4, b5, b6, b7, b8, b9⟩ := p_evict (b := 0) a1 a2' (by omega) (a7 (by omega))
    have e : c_evN (i + 1) S = c_evict (c_evN i S) 0 := rfl
    rw [e]
    refine ⟨b1, fun j hj => (b2 j hj).trans (a2 j hj), ?_, by omega, by omega, by omega, fun h => hne (i + 1) _ h b1 ((b2 5 (by decide)).trans a2') (by omega)⟩
    rw [b3, a3, Int32.add_assoc, nI_1]
theorem k_dropN_eq {L : List Int32} (hl : L.length ≤ 64) : ∀ n : Nat, k_dropN n L = L.drop n := by
  intro n
  induction n with
  | zero => rfl
  | succ n ih =>
    show k_gap (k_dropN n L) 0 = _
    rw [ih, k_gap0 (by simp; omega), List.tail_drop]
theorem k_dropN_sub {L : List Int32} : ∀ n : Nat, (k_dropN n L).Sublist L := by
  intro n
  induction n with
  | zero => exact List.Sublist.refl _
  | succ n ih => exact (k_gap_sub _ _).trans ih
theorem k_dropN_len {L : List Int32} (hl : L.length ≤ 64) (n : Nat) : (k_dropN n L).length = L.length - n := by
  rw [k_dropN_eq hl, List.length_drop]
theorem p_clamp {a b : Nat} (ha : a ≤ 1000) (hb : b ≤ 1000) : (nI a - nI b).toNatClampNeg = a - b := by
  rcases Nat.lt_or_ge a b with h | h
  · have := pk_sub_toInt (a := a) (b := b) (by omega) (by omega)
    show (nI a - nI b).toInt.toNat = _
    omega
  · rw [pk_sub h, nI_clamp (by omega)]
theorem p_capN {st : ki_St} {k : Nat} (hk2 : k ≤ 32) (hw : p_W st) : c_capN st (nI k) = nI ((st.1 1).length + (st.1 2).length - k) := by
  have := hw.2.2
  unfold c_capN
  rw [p_pages]
  generalize (st.1 1).length + (st.1 2).length = P at *
  have hP : P ≤ 64 := by omega
  rcases Nat.lt_or_ge k P with h | h
  · rw [pk_sub (by omega), if_pos (by show nI 0 < _; exact nI_lt (by omega) (by omega))]
  · have e : P - k = 0 := by omega
    rw [e]
    rw [if_neg]
    · rfl
    · rcases Nat.eq_or_lt_of_le h with q | q
      · subst q; rw [pk_sub (Nat.le_refl _), Nat.sub_self]; decide
      · have h1 := pk_sneg (a := P) (b := k) (by omega) q
        intro h2
        have h3 := Int32.lt_iff_toInt_lt.mp h1
        have h4 := Int32.lt_iff_toInt_lt.mp h2
        omega
/-- the capacity's change, its three numbers told -/
theorem p_cap0 {st : ki_St} {n k : Nat} (hi : p_Inv n st) (hk1 : 1 ≤ k) (hk2 : k ≤ 32) :
    ∃ g : Nat, g ≤ k ∧ (c_cap1 st (nI k)).2 5 = nI g ∧ (c_cap1 st (nI k)).2 6 = nI k ∧ p_W (c_cap1 st (nI k)) ∧ c_capN st (nI k) = nI ((st.1 1).length + (st.1 2).length - k) := by
  obtain ⟨hw, k0, g, r, z, ⟨h1, h1a, h1b⟩, ⟨h2, h2a⟩, h3, h4, h5, h6, h7, h8⟩ := hi
  have hc := p_capN hk2 hw
  unfold c_cap1
  by_cases h : nI k < st.2 5
  · refine ⟨k, Nat.le_refl _, ?_, rfl, hw, hc⟩
    show (if nI k < st.2 5 then nI k else st.2 5) = _
    rw [if_pos h]
  · refine ⟨g, ?_, ?_, rfl, hw, hc⟩
    · rw [h2] at h
      rcases Nat.lt_or_ge k g with q | q
      · exact absurd (nI_lt q (by omega)) h
      · exact q
    · show (if nI k < st.2 5 then nI k else st.2 5) = _
      rw [if_neg h, h2]
theorem p_drop2 {S : ki_St} {k : Nat} (hw : p_W S) (hk2 : k ≤ 32) (h6 : S.2 6 = nI k) : (c_rg S - S.2 6).toNatClampNeg = (S.1 1).length + (S.1 3).length - k := by
  have := hw.2.2
  rw [p_rg, h6, p_clamp (by omega) (by omega)]
theorem p_drop3 {S : ki_St} {k : Nat} (hw : p_W S) (hk2 : k ≤ 32) (h6 : S.2 6 = nI k) : (c_all S - 2 * S.2 6).toNatClampNeg = (S.1 1).length + (S.1 2).length + (S.1 3).length + (S.1 4).length - 2 * k := by
  have := hw.2.2
  rw [p_all, h6, show (2 : Int32) * nI k = nI (2 * k) from pk_mul 2 k, p_clamp (by omega) (by omega)]
theorem p_cap {st : ki_St} {n k : Nat} (hi : p_Inv n st) (hk1 : 1 ≤ k) (hk2 : k ≤ 32) : p_Inv n (c_cap st (nI k)) := by
  obtain ⟨g, hg, hg5, hg6, hw1, hcN⟩ := p_cap0 hi hk1 hk2
  obtain ⟨hw, k0, g0, r, z, ⟨h1, h1a, h1b⟩, ⟨h2, h2a⟩, h3, h4, h5, h6, h7, h8⟩ := hi
  have hl := hw.2.2
  have hz : ∀ j, j ≠ 5 → j ≠ 6 → (c_cap1 st (nI k)).2 j = st.2 j := fun j q5 q6 => by
    show va_up (va_up st.2 5 _) 6 _ j = _
    rw [va_up_ne _ _ q6, va_up_ne _ _ q5]
  obtain ⟨a1, a2, a3, a4, a5, a6, -⟩ := p_evN (k := k) (P := (st.1 1).length + (st.1 2).length) hw1 hk2 hg5 hg rfl ((st.1 1).length + (st.1 2).length - k) (Nat.le_refl _)
  have e2 : c_cap2 st (nI k) = c_evN ((st.1 1).length + (st.1 2).length - k) (c_cap1 st (nI k)) := by
    unfold c_cap2
    rw [hcN, nI_clamp (by omega)]
  rw [← e2] at a1 a2 a3 a4 a5 a6
  change _ = (st.1 1).length + (st.1 3).length at a5
  change _ = (st.1 2).length + (st.1 4).length at a6
  have c6 : (c_cap2 st (nI k)).2 6 = nI k := (a2 6 (by decide)).trans hg6
  have c5 : (c_cap2 st (nI k)).2 5 = nI g := (a2 5 (by decide)).trans hg5
  have c7 : (c_cap2 st (nI k)).2 7 = nI z := (a2 7 (by decide)).trans ((hz 7 (by decide) (by decide)).trans h4.1)
  have c8 : (c_cap2 st (nI k)).2 8 = nI r := (a2 8 (by decide)).trans ((hz 8 (by decide) (by decide)).trans h3.1)
  have c9 : (c_cap2 st (nI k)).2 9 = st.2 9 := (a2 9 (by decide)).trans (hz 9 (by decide) (by decide))
  unfold c_cap c_cap3
  generalize c_cap2 st (nI k) = S at a1 a2 a3 a4 a5 a6 c5 c6 c7 c8 c9 ⊢
  have hS := a1.2.2
  rw [p_drop2 a1 hk2 c6]
  have hw3 : p_W (va_up S.1 3 (k_dropN ((S.1 1).length + (S.1 3).length - k) (S.1 3)), S.2) := p_W_sub (st := S) (List.Sublist.refl _) (List.Sublist.refl _) (k_dropN_sub (L := S.1 3) _) (List.Sublist.refl _) a1
  have l3 := k_dropN_len (L := S.1 3) (by omega) ((S.1 1).length + (S.1 3).length - k)
  rw [p_drop3 hw3 hk2 c6]
  generalize hD : k_dropN ((S.1 1).length + (S.1 3).length - k) (S.1 3) = D3 at hw3 l3 ⊢
  show p_Inv n (va_up (va_up S.1 3 D3) 4 (k_dropN ((S.1 1).length + (S.1 2).length + D3.length + (S.1 4).length - 2 * k) (S.1 4)), S.2)
  have l4 := k_dropN_len (L := S.1 4) (by omega) ((S.1 1).length + (S.1 2).length + D3.length + (S.1 4).length - 2 * k)
  have hw4 : p_W (va_up (va_up S.1 3 D3) 4 (k_dropN ((S.1 1).length + (S.1 2).length + D3.length + (S.1 4).length - 2 * k) (S.1 4)), S.2) := p_W_sub (st := (va_up S.1 3 D3, S.2)) (List.Sublist.refl _) (List.Sublist.refl _) (List.Sublist.refl _) (k_dropN_sub (L := S.1 4) _) hw3
  generalize k_dropN ((S.1 1).length + (S.1 2).length + D3.length + (S.1 4).length - 2 * k) (S.1 4) = D4 at hw4 l4 ⊢
  refine ⟨hw4, k, g, r, z, ⟨c6, hk1, hk2⟩, ⟨c5, hg⟩, ⟨c8, h3.2⟩, ⟨c7, h4.2⟩, ?_, ?_, ?_, ?_⟩
  · show S.2 9 = -1 ↔ _
    rw [c9]; exact h5
  · show (S.1 1).length + (S.1 2).length ≤ k
    omega
  · show (S.1 1).length + D3.length ≤ k
    omega
  · show (S.1 1).length + (S.1 2).length + D3.length + D4.length ≤ 2 * k
    omega
theorem p_clear {st : ki_St} {n : Nat} (hi : p_Inv n st) : p_Inv n (c_clear st) := by
  obtain ⟨hw, k, g, r, z, h1, h2, h3, h4, h5, h6, h7, h8⟩ := hi
  exact ⟨⟨fun x => Nat.zero_le _, rfl, Nat.zero_le _⟩, k, 0, r, z, h1, ⟨rfl, Nat.zero_le _⟩, h3, h4, h5, Nat.zero_le _, Nat.zero_le _, Nat.zero_le _⟩
theorem p_scan {st : ki_St} {n z : Nat} (hi : p_Inv n st) (hz : z ≤ 20) : p_Inv n (st.1, va_up st.2 7 (nI z)) := by
  obtain ⟨hw, k, g, r, z0, h1, h2, h3, h4, h5, h6, h7, h8⟩ := hi
  exact ⟨hw, k, g, r, z, h1, h2, h3, ⟨rfl, hz⟩, h5, h6, h7, h8⟩
theorem p_forget {st : ki_St} {n : Nat} {key : Int32} (hi : p_Inv n st) : p_Inv n (c_forget st key) := by
  unfold c_forget
  rcases p_list (st := st) key with ⟨h0, hc⟩ | ⟨i, h1, h4, hl, hm⟩
  · rw [h0]; exact hi
  · rw [hl]
    obtain ⟨hw, k, g, r, z, q1, q2, q3, q4, q5, q6, q7, q8⟩ := hi
    obtain ⟨a0, a1, a2, a3, a4⟩ := p_from (w := nI i) hw h1 h4 rfl hm
    have hz : (c_from st (nI i) key).2 = st.2 := by rw [a0]
    clear a0
    generalize c_from st (nI i) key = s at a1 a2 a3 a4 hz ⊢
    have hle : ∀ j, (s.1 j).length ≤ (st.1 j).length := fun j => by
      by_cases q : j = i
      · subst q; omega
      · rw [a4 j q]; exact Nat.le_refl _
    have := hle 1; have := hle 2; have := hle 3; have := hle 4
    refine ⟨a1, k, g, r, z, ?_⟩
    rw [hz]
    exact ⟨q1, q2, q3, q4, q5, by omega, by omega, by omega⟩
theorem p_mono {st : ki_St} {n m : Nat} (hi : p_Inv n st) (h : n ≤ m) : p_Inv m st := by
  obtain ⟨hw, k, g, r, z, h1, h2, h3, h4⟩ := hi
  exact ⟨hw, k, g, r, z, h1, h2, ⟨h3.1, by omega⟩, h4⟩
