/-! ===== the lists, as numbers ===== -/
theorem ki_b0 {P : Prop} [d : Decidable P] : (if P then (1 : Int32) else 0) = 0 ↔ ¬ P := by
  by_cases h : P <;> simp [h]
theorem ki_b1 {P : Prop} [d : Decidable P] : ¬ (if P then (1 : Int32) else 0) = 0 ↔ P := by
  by_cases h : P <;> simp [h]
/-- the cells that a list's array holds ahead of its length -/
def ki_rep (f : Nat → Int32) (L : List Int32) : Prop := L.length ≤ 64 ∧ ∀ j : Nat, j < L.length → L[j]? = some (f j)
def k_at (L : List Int32) (i : Int32) : Int32 := if i < 0 then -1 else if nI L.length ≤ i then -1 else L.getD i.toNatClampNeg (-1)
def k_join (L : List Int32) (key : Int32) : List Int32 := if key = -1 then L else if nI 64 ≤ nI L.length then L else L ++ [key]
def k_idx (L : List Int32) (key : Int32) : Int32 := if key ∈ L then nI (L.idxOf key) else -1
def k_gap (L : List Int32) (g : Int32) : List Int32 := if g < 0 then L else if g < nI L.length then L.eraseIdx g.toNatClampNeg else L
theorem ki_ix {i : Int32} {n : Nat} (h0 : ¬ i < 0) (h1 : ¬ nI n ≤ i) : ∃ j, j < n ∧ j < 2 ^ 31 ∧ i = nI j := by
  obtain ⟨j, hj, rfl⟩ := nI_of h0
  refine ⟨j, ?_, hj, rfl⟩
  rcases Nat.lt_or_ge j n with h | h
  · exact h
  · exact absurd (nI_le h hj) h1
theorem k_at_lt {f : Nat → Int32} {L : List Int32} {i : Int32} (hr : ki_rep f L) (h0 : ¬ i < 0) (h1 : ¬ nI L.length ≤ i) : ¬ nI 64 ≤ i := by
  obtain ⟨j, hj, hj2, rfl⟩ := ki_ix h0 h1
  have := hr.1
  exact nI_ge (by omega) (by decide)
theorem k_at_in {f : Nat → Int32} {L : List Int32} {i : Int32} (hr : ki_rep f L) (h0 : ¬ i < 0) (h1 : ¬ nI L.length ≤ i) : vp_in i 64 := by
  obtain ⟨j, hj, hj2, rfl⟩ := ki_ix h0 h1
  have := hr.1
  exact vp_in_nI (by omega) (by decide)
theorem k_at_v {f : Nat → Int32} {L : List Int32} {i : Int32} (hr : ki_rep f L) (h0 : ¬ i < 0) (h1 : ¬ nI L.length ≤ i) : f i.toNatClampNeg = k_at L i := by
  unfold k_at
  rw [if_neg h0, if_neg h1]
  obtain ⟨j, hj, hj2, rfl⟩ := ki_ix h0 h1
  rw [nI_clamp hj2, List.getD_eq_getElem?_getD, hr.2 j hj]
  rfl
theorem k_join_y {f : Nat → Int32} {L : List Int32} {key : Int32} (h0 : ¬ key = -1) (h1 : ¬ nI 64 ≤ nI L.length) : k_join L key = L ++ [key] := by
  unfold k_join; rw [if_neg h0, if_neg h1]
theorem k_len64 {L : List Int32} {f : Nat → Int32} (hr : ki_rep f L) (h1 : ¬ nI 64 ≤ nI L.length) : L.length < 64 := by
  have := hr.1
  rcases Nat.lt_or_ge L.length 64 with h | h
  · exact h
  · exact absurd (nI_le h (by omega)) h1
theorem k_join_n {L : List Int32} {key : Int32} (h0 : ¬ key = -1) (h1 : ¬ nI 64 ≤ nI L.length) : nI L.length + 1 = nI (k_join L key).length := by
  unfold k_join; rw [if_neg h0, if_neg h1, nI_1, List.length_append]; rfl
theorem k_join_rep {f : Nat → Int32} {L : List Int32} {key : Int32} (hr : ki_rep f L) (h0 : ¬ key = -1) (h1 : ¬ nI 64 ≤ nI L.length) : ki_rep (upd f (nI L.length).toNatClampNeg key) (k_join L key) := by
  have hl := k_len64 hr h1
  unfold k_join; rw [if_neg h0, if_neg h1, nI_clamp (by omega)]
  refine ⟨by simp; omega, fun j hj => ?_⟩
  rw [List.length_append] at hj
  unfold upd
  by_cases e : j = L.length
  · subst e
    simp
  · rw [if_neg e, List.getElem?_append_left (by simp at hj; omega)]
    exact hr.2 j (by simp at hj; omega)
theorem k_idx_lt {L : List Int32} {key : Int32} (hl : L.length ≤ 64) : k_idx L key < 0 ↔ key ∉ L := by
  unfold k_idx
  by_cases h : key ∈ L
  · rw [if_pos h]
    have := List.idxOf_lt_length_iff.mpr h
    exact ⟨fun q => absurd q (nI_pos (by omega)), fun q => absurd h q⟩
  · rw [if_neg h]
    exact ⟨fun _ => h, fun _ => by decide⟩
theorem k_erase {L : List Int32} {key : Int32} (hl : L.length ≤ 64) : k_gap L (k_idx L key) = L.erase key := by
  unfold k_gap
  by_cases h : key ∈ L
  · have h2 := List.idxOf_lt_length_iff.mpr h
    rw [if_neg (fun q => (k_idx_lt hl).mp q h)]
    unfold k_idx
    rw [if_pos h, if_pos (nI_lt h2 (by omega)), nI_clamp (by omega), List.erase_eq_eraseIdx_of_idxOf rfl]
  · rw [if_pos ((k_idx_lt hl).mpr h), List.erase_of_not_mem h]
theorem k_tail {L : List Int32} (hl : L.length ≤ 64) : k_gap L 0 = L.tail := by
  unfold k_gap
  rw [if_neg (by decide)]
  cases L with
  | nil => rw [if_neg (by decide)]; rfl
  | cons a t => rw [if_pos (by show nI 0 < _; exact nI_lt (by simp) (by omega))]; rfl
theorem k_head (L : List Int32) (hl : L.length ≤ 64) : k_at L 0 = L.headD (-1) := by
  unfold k_at
  rw [if_neg (by decide)]
  cases L with
  | nil => rw [if_pos (by decide)]; rfl
  | cons a t => rw [if_neg (by show ¬ _ ≤ nI 0; exact nI_ge (by simp) (by omega))]; rfl
theorem ki_rep0 : ki_rep (fun _ => 0) [] := ⟨Nat.zero_le _, fun j hj => absurd hj (Nat.not_lt_zero j)⟩
theorem k_idx_none {f : Nat → Int32} {L : List Int32} {key : Int32} {i : Nat} (hr : ki_rep f L) (hi : L.length ≤ i) (hb : ∀ j, j < i → ¬ f j = key) : k_idx L key = -1 := by
  unfold k_idx
  refine if_neg fun h => ?_
  obtain ⟨j, hj⟩ := List.getElem?_of_mem h
  have hl : j < L.length := (List.getElem?_eq_some_iff.mp hj).1
  have h2 := hr.2 j hl
  rw [hj] at h2
  exact hb j (by omega) (Option.some.inj h2).symm
theorem ki_before : ∀ (L : List Int32) (key : Int32) (i : Nat), i < L.idxOf key → ∀ hi : i < L.length, L[i] = key → False
  | [], _, i, _, hi, _ => absurd hi (Nat.not_lt_zero i)
  | a :: t, key, 0, h, _, e => by
    have e2 : a = key := e
    rw [List.idxOf_cons, e2] at h
    simp at h
  | a :: t, key, i + 1, h, hi, e => by
    rw [List.idxOf_cons] at h
    by_cases q : (a == key) = true
    · rw [q] at h; simp at h
    · have q2 : (a == key) = false := by simpa using q
      rw [q2] at h
      exact ki_before t key i (by simpa using h) (by simpa using hi) (by simpa using e)
theorem k_idx_some {f : Nat → Int32} {L : List Int32} {key : Int32} {i : Nat} (hr : ki_rep f L) (hi : i < L.length) (hb : ∀ j, j < i → ¬ f j = key) (he : f i = key) : k_idx L key = nI i := by
  have h1 := hr.2 i hi
  rw [he] at h1
  have hm : key ∈ L := List.mem_of_getElem? h1
  unfold k_idx
  rw [if_pos hm]
  congr 1
  have h3 := List.idxOf_lt_length_iff.mpr hm
  have h4 : L[L.idxOf key]? = some key := by rw [List.getElem?_eq_getElem h3, List.getElem_idxOf h3]
  have h5 := hr.2 _ h3
  rw [h4] at h5
  rcases Nat.lt_trichotomy (L.idxOf key) i with q | q | q
  · exact absurd (Option.some.inj h5).symm (hb _ q)
  · exact q
  · exfalso
    have h6 : L[i] = key := by
      have := List.getElem?_eq_getElem hi
      rw [h1] at this
      exact (Option.some.inj this).symm
    exact ki_before L key i q hi h6
theorem k_gap_rep {f f1 : Nat → Int32} {L : List Int32} {g : Int32} {g0 i : Nat} (hr : ki_rep f L) (hg : g = nI g0) (h0 : g0 < L.length) (he : i + 1 = L.length) (hgi : g0 ≤ i) (hf : ∀ j, f1 j = if g0 ≤ j ∧ j < i then f (j + 1) else f j) : ki_rep f1 (k_gap L g) := by
  have hl := hr.1
  subst hg
  unfold k_gap
  rw [if_neg (nI_pos (by omega)), if_pos (nI_lt h0 (by omega)), nI_clamp (by omega)]
  have hln : (L.eraseIdx g0).length = L.length - 1 := List.length_eraseIdx_of_lt h0
  refine ⟨by omega, fun j hj => ?_⟩
  rw [hln] at hj
  rw [List.getElem?_eraseIdx, hf]
  by_cases q : j < g0
  · rw [if_pos q, if_neg (by omega)]
    exact hr.2 j (by omega)
  · rw [if_neg q, if_pos (by omega)]
    exact hr.2 (j + 1) (by omega)
theorem k_gap_n {L : List Int32} {g : Int32} {g0 : Nat} (hg : g = nI g0) (h0 : g0 < L.length) (hl : L.length ≤ 64) : nI L.length - 1 = nI (k_gap L g).length := by
  subst hg
  unfold k_gap
  rw [if_neg (nI_pos (by omega)), if_pos (nI_lt h0 (by omega)), nI_clamp (by omega), List.length_eraseIdx_of_lt h0]
  exact pk_sub (b := 1) (by omega)
