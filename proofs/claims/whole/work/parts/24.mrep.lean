/-! ===== the reference's row of numbers, as a cache's value ===== -/
def m_rep (t : Nat → Int32) (st : ki_St) : Prop := (∀ i : Nat, 1 ≤ i → i ≤ 4 → (st.1 i).length ≤ 64 ∧ t i = nI (st.1 i).length ∧ ∀ j : Nat, j < (st.1 i).length → (st.1 i)[j]? = some (t (16 + 70 * i + j))) ∧ ∀ i : Nat, 5 ≤ i → i ≤ 10 → t i = st.2 i
theorem m_at (i j : Nat) : (16 : Int32) + 70 * nI i + nI j = nI (16 + 70 * i + j) := by
  show nI 16 + nI 70 * nI i + nI j = _
  rw [pk_mul, nI_add, nI_add]
theorem m_l {t : Nat → Int32} {st : ki_St} (h : m_rep t st) {i : Nat} (h1 : 1 ≤ i) (h4 : i ≤ 4) : t i = nI (st.1 i).length := (h.1 i h1 h4).2.1
theorem m_64 {t : Nat → Int32} {st : ki_St} (h : m_rep t st) {i : Nat} (h1 : 1 ≤ i) (h4 : i ≤ 4) : (st.1 i).length ≤ 64 := (h.1 i h1 h4).1
theorem m_j {t : Nat → Int32} {st : ki_St} (h : m_rep t st) {i j : Nat} (h1 : 1 ≤ i) (h4 : i ≤ 4) (hj : j < (st.1 i).length) : (st.1 i)[j]? = some (t (16 + 70 * i + j)) := (h.1 i h1 h4).2.2 j hj
theorem m_z {t : Nat → Int32} {st : ki_St} {i : Nat} {v : Int32} (h : m_rep t st) (h5 : 5 ≤ i) (h10 : i ≤ 10) : m_rep (upd t i v) (st.1, va_up st.2 i v) := by
  refine ⟨fun a h1 h4 => ⟨(h.1 a h1 h4).1, ?_, fun j hj => ?_⟩, fun a ha hb => ?_⟩
  · show (if a = i then v else t a) = _
    rw [if_neg (by omega)]
    exact m_l h h1 h4
  · show _ = some (if 16 + 70 * a + j = i then v else t (16 + 70 * a + j))
    rw [if_neg (by omega)]
    exact m_j h h1 h4 hj
  · show (if a = i then v else t a) = if a = i then v else st.2 a
    by_cases q : a = i
    · rw [if_pos q, if_pos q]
    · rw [if_neg q, if_neg q]
      exact h.2 a ha hb
theorem m_join {t t1 : Nat → Int32} {st : ki_St} {i : Nat} {key : Int32} (h : m_rep t st) (h1 : 1 ≤ i) (h4 : i ≤ 4) (hk : ¬ key = -1) (hl : (st.1 i).length < 64) (ht : ∀ x, t1 x = if x = i then nI ((st.1 i).length + 1) else if x = 16 + 70 * i + (st.1 i).length then key else t x) : m_rep t1 (va_up st.1 i (k_join (st.1 i) key), st.2) := by
  rw [k_join_ok hk hl]
  refine ⟨fun a ha hb => ?_, fun a ha hb => ?_⟩
  · by_cases q : a = i
    · subst q
      show (va_up st.1 a (st.1 a ++ [key]) a).length ≤ 64 ∧ t1 a = nI (va_up st.1 a (st.1 a ++ [key]) a).length ∧ ∀ j, j < (va_up st.1 a (st.1 a ++ [key]) a).length → (va_up st.1 a (st.1 a ++ [key]) a)[j]? = some (t1 (16 + 70 * a + j))
      rw [va_up_self]
      simp only [List.length_append, List.length_cons, List.length_nil]
      refine ⟨by omega, ?_, fun j hj => ?_⟩
      · rw [ht, if_pos rfl]
      · rw [ht, if_neg (by omega)]
        by_cases e : j = (st.1 a).length
        · subst e
          rw [if_pos rfl]
          simp
        · rw [if_neg (by omega), List.getElem?_append_left (by omega)]
          exact m_j h ha hb (by omega)
    · show (va_up st.1 i (st.1 i ++ [key]) a).length ≤ 64 ∧ t1 a = nI (va_up st.1 i (st.1 i ++ [key]) a).length ∧ ∀ j, j < (va_up st.1 i (st.1 i ++ [key]) a).length → (va_up st.1 i (st.1 i ++ [key]) a)[j]? = some (t1 (16 + 70 * a + j))
      rw [va_up_ne _ _ q]
      refine ⟨m_64 h ha hb, ?_, fun j hj => ?_⟩
      · rw [ht, if_neg q, if_neg (by omega)]
        exact m_l h ha hb
      · have := m_64 h ha hb
        rw [ht, if_neg (by omega), if_neg (by omega)]
        exact m_j h ha hb hj
  · rw [ht, if_neg (by omega), if_neg (by omega)]
    exact h.2 a ha hb
theorem k_gap_nI {L : List Int32} {p : Nat} (hp : p < L.length) (hl : L.length ≤ 64) : k_gap L (nI p) = L.eraseIdx p := by
  unfold k_gap
  rw [if_neg (nI_pos (by omega)), if_pos (nI_lt hp (by omega)), nI_clamp (by omega)]
theorem k_at_nI {L : List Int32} {p : Nat} {v : Int32} (hl : L.length ≤ 64) (hv : L[p]? = some v) : k_at L (nI p) = v := by
  have hp : p < L.length := (List.getElem?_eq_some_iff.mp hv).1
  unfold k_at
  rw [if_neg (nI_pos (by omega)), if_neg (nI_ge hp (by omega)), nI_clamp (by omega), List.getD_eq_getElem?_getD, hv]
  rfl
theorem m_leave {t t1 : Nat → Int32} {st : ki_St} {i p : Nat} (h : m_rep t st) (h1 : 1 ≤ i) (h4 : i ≤ 4) (hp : p < (st.1 i).length) (ht : ∀ x, t1 x = if x = i then nI ((st.1 i).length - 1) else if 16 + 70 * i + p ≤ x ∧ x < 16 + 70 * i + ((st.1 i).length - 1) then t (x + 1) else t x) : m_rep t1 (va_up st.1 i (k_gap (st.1 i) (nI p)), st.2) := by
  have hl := m_64 h h1 h4
  rw [k_gap_nI hp hl]
  refine ⟨fun a ha hb => ?_, fun a ha hb => ?_⟩
  · by_cases q : a = i
    · subst q
      show (va_up st.1 a ((st.1 a).eraseIdx p) a).length ≤ 64 ∧ t1 a = nI (va_up st.1 a ((st.1 a).eraseIdx p) a).length ∧ ∀ j, j < (va_up st.1 a ((st.1 a).eraseIdx p) a).length → (va_up st.1 a ((st.1 a).eraseIdx p) a)[j]? = some (t1 (16 + 70 * a + j))
      rw [va_up_self, List.length_eraseIdx_of_lt hp]
      refine ⟨by omega, ?_, fun j hj => ?_⟩
      · rw [ht, if_pos rfl]
      · rw [List.getElem?_eraseIdx, ht, if_neg (show ¬ 16 + 70 * a + j = a by omega)]
        by_cases e : j < p
        · rw [if_pos e, if_neg (by omega)]
          exact m_j h ha hb (by omega)
        · rw [if_neg e, if_pos (by omega)]
          exact m_j h ha hb (by omega)
    · show (va_up st.1 i ((st.1 i).eraseIdx p) a).length ≤ 64 ∧ t1 a = nI (va_up st.1 i ((st.1 i).eraseIdx p) a).length ∧ ∀ j, j < (va_up st.1 i ((st.1 i).eraseIdx p) a).length → (va_up st.1 i ((st.1 i).eraseIdx p) a)[j]? = some (t1 (16 + 70 * a + j))
      rw [va_up_ne _ _ q]
      refine ⟨m_64 h ha hb, ?_, fun j hj => ?_⟩
      · rw [ht, if_neg q, if_neg (by omega)]
        exact m_l h ha hb
      · have := m_64 h ha hb
        rw [ht, if_neg (by omega), if_neg (by omega)]
        exact m_j h ha hb hj
  · rw [ht, if_neg (by omega), if_neg (by omega)]
    exact h.2 a ha hb
/-- where the last of the first k places stands that holds the key -/
def m_pl (L : List Int32) (key : Int32) (k : Nat) (v : Int32) : Prop := (v = -1 ∧ ∀ j, j < k → ¬ L[j]? = some key) ∨ ∃ j, j < k ∧ v = nI j ∧ L[j]? = some key
theorem m_pl_t {L : List Int32} {key v : Int32} {k : Nat} (h : L[k]? = some key) : m_pl L key (k + 1) (nI k) := Or.inr ⟨k, by omega, rfl, h⟩
theorem m_pl_f {L : List Int32} {key v : Int32} {k : Nat} (h : m_pl L key k v) (hn : ¬ L[k]? = some key) : m_pl L key (k + 1) v := by
  rcases h with ⟨h1, h2⟩ | ⟨j, h1, h2, h3⟩
  · refine Or.inl ⟨h1, fun j hj => ?_⟩
    rcases Nat.lt_or_ge j k with q | q
    · exact h2 j q
    · rw [show j = k by omega]; exact hn
  · exact Or.inr ⟨j, by omega, h2, h3⟩
theorem m_pl_end {L : List Int32} {key v : Int32} {k : Nat} (h : m_pl L key k v) (hk : L.length ≤ k) (hn : L.Nodup) : v = k_idx L key := by
  rcases h with ⟨h1, h2⟩ | ⟨j, h1, h2, h3⟩
  · unfold k_idx
    rw [if_neg, h1]
    intro hm
    obtain ⟨j, hj⟩ := List.getElem?_of_mem hm
    exact h2 j (by have := (List.getElem?_eq_some_iff.mp hj).1; omega) hj
  · have hm : key ∈ L := List.mem_of_getElem? h3
    unfold k_idx
    rw [if_pos hm, h2]
    congr 1
    have hj : j < L.length := (List.getElem?_eq_some_iff.mp h3).1
    have h5 : L[j] = key := (List.getElem?_eq_some_iff.mp h3).2
    have h6 := List.Nodup.idxOf_getElem hn j hj
    rw [h5] at h6
    exact h6.symm
theorem m_idx {L : List Int32} {key : Int32} (hl : L.length ≤ 64) : k_idx L key = -1 ↔ key ∉ L := by
  constructor
  · intro h
    exact (k_idx_lt hl).mp (by rw [h]; decide)
  · intro h
    unfold k_idx
    rw [if_neg h]
theorem m_idx_p {L : List Int32} {key : Int32} (h : key ∈ L) : ∃ p : Nat, p < L.length ∧ k_idx L key = nI p ∧ L[p]? = some key := by
  refine ⟨L.idxOf key, List.idxOf_lt_length_iff.mpr h, by unfold k_idx; rw [if_pos h], ?_⟩
  have h3 := List.idxOf_lt_length_iff.mpr h
  rw [List.getElem?_eq_getElem h3, List.getElem_idxOf h3]
