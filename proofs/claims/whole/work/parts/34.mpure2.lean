/-! ===== the reference's log, its pages ===== -/
def m_log (g : Nat → Int32) (lg : List Int32) : Prop := lg.length ≤ 60 ∧ ∀ j : Nat, j < lg.length → lg[j]? = some (g j)
def m_pgs (g : Nat → Int32) (P : List Int32) : Prop := P.length ≤ 32 ∧ ∀ j : Nat, j < P.length → P[j]? = some (g j)
theorem m_nil {t : Nat → Int32} {st : ki_St} {i : Nat} (h : m_rep t st) (h1 : 1 ≤ i) (h4 : i ≤ 4) : m_rep (upd t i 0) (va_up st.1 i [], st.2) := by
  refine ⟨fun a ha hb => ?_, fun a ha hb => ?_⟩
  · by_cases q : a = i
    · subst q
      show (va_up st.1 a [] a).length ≤ 64 ∧ upd t a 0 a = nI (va_up st.1 a [] a).length ∧ ∀ j, j < (va_up st.1 a [] a).length → (va_up st.1 a [] a)[j]? = some (upd t a 0 (16 + 70 * a + j))
      rw [va_up_self]
      exact ⟨Nat.zero_le _, by unfold upd; rw [if_pos rfl]; rfl, fun j hj => absurd hj (Nat.not_lt_zero j)⟩
    · show (va_up st.1 i [] a).length ≤ 64 ∧ upd t i 0 a = nI (va_up st.1 i [] a).length ∧ ∀ j, j < (va_up st.1 i [] a).length → (va_up st.1 i [] a)[j]? = some (upd t i 0 (16 + 70 * a + j))
      rw [va_up_ne _ _ q]
      refine ⟨m_64 h ha hb, ?_, fun j hj => ?_⟩
      · unfold upd; rw [if_neg q]; exact m_l h ha hb
      · unfold upd; rw [if_neg (by omega)]; exact m_j h ha hb hj
  · show upd t i 0 a = _
    unfold upd
    rw [if_neg (by omega)]
    exact h.2 a ha hb
theorem m_zero {t : Nat → Int32} (h : ∀ j : Nat, j < 16 → t j = 0) : m_rep t (fun _ => [], fun _ => 0) :=
  ⟨fun a ha hb => ⟨Nat.zero_le _, by rw [h a (by omega)]; rfl, fun j hj => absurd hj (Nat.not_lt_zero j)⟩, fun a ha hb => by rw [h a (by omega)]⟩
theorem m_up_comm {f : Nat → Int32} {i j : Nat} {a b : Int32} (h : i ≠ j) : va_up (va_up f i a) j b = va_up (va_up f j b) i a := by
  funext x
  unfold va_up
  by_cases q : x = i
  · subst q; rw [if_neg h, if_pos rfl, if_pos rfl]
  · rw [if_neg q]
    by_cases q2 : x = j
    · subst q2; simp [q]
    · simp [q, q2]
theorem ki_01 {P : Prop} [d : Decidable P] : (if P then (1 : Int32) else 0) = 0 ∨ (if P then (1 : Int32) else 0) = 1 := by
  by_cases h : P
  · exact Or.inr (if_pos h)
  · exact Or.inl (if_neg h)
theorem m_badKey {key : Int32} (h : ¬ a_badKey key) : ¬ key = -1 := fun e => by subst e; exact h (Or.inl (by decide))
theorem m_badCap {k : Int32} (h : ¬ a_badCap k) : ∃ n : Nat, 1 ≤ n ∧ n ≤ 32 ∧ k = nI n := by
  have h1 : ¬ k < 1 := fun q => h (Or.inl q)
  have h2 : k ≤ 32 := Decidable.not_not.mp (fun q => h (Or.inr q))
  have h0 : ¬ k < 0 := fun q => h1 (Int32.lt_iff_toInt_lt.mpr (by
    have := Int32.lt_iff_toInt_lt.mp q
    rw [show (0 : Int32).toInt = 0 from by decide] at this
    rw [show (1 : Int32).toInt = 1 from by decide]
    omega))
  obtain ⟨j, hj, rfl⟩ := nI_of2 (n := 32) (M := 32) (by decide) h0 h2
  refine ⟨j, ?_, hj, rfl⟩
  rcases Nat.lt_or_ge j 1 with q | q
  · exact absurd (by show nI j < nI 1; exact nI_lt q (by decide)) h1
  · exact q
theorem m_badScan {z : Int32} (h : ¬ a_badScan z) : ∃ n : Nat, n ≤ 20 ∧ z = nI n := by
  by_cases e : z = 0
  · exact ⟨0, by omega, e⟩
  · have h1 : ¬ z < 2 := fun q => h ⟨e, Or.inl q⟩
    have h2 : z ≤ 20 := Decidable.not_not.mp (fun q => h ⟨e, Or.inr q⟩)
    have h0 : ¬ z < 0 := fun q => h1 (Int32.lt_iff_toInt_lt.mpr (by
      have := Int32.lt_iff_toInt_lt.mp q
      rw [show (0 : Int32).toInt = 0 from by decide] at this
      rw [show (2 : Int32).toInt = 2 from by decide]
      omega))
    obtain ⟨j, hj, rfl⟩ := nI_of2 (n := 20) (M := 20) (by decide) h0 h2
    exact ⟨j, hj, rfl⟩
theorem m_alog {lg : List Int32} {key : Int32} (hl : lg.length ≤ 60) (hk : ¬ key = -1) : a_log lg key = if lg.length < 60 then lg ++ [key] else lg.tail ++ [key] := by
  unfold a_log
  by_cases h : lg.length < 60
  · rw [if_pos (show nI lg.length < 60 from nI_lt (b := 60) h (by decide)), if_pos h, k_join_ok hk (by omega)]
  · rw [if_neg (show ¬ nI lg.length < 60 from fun q => h ((nI_ltI (b := 60) (by omega) (by decide)).mp q)), if_neg h, k_gap0 (by omega), k_join_ok hk (by rw [List.length_tail]; omega)]
theorem m_log_add {g g' : Nat → Int32} {lg : List Int32} {key : Int32} (h : m_log g lg) (hk : ¬ key = -1) (hl : lg.length < 60) (hg : ∀ x, g' x = if x = lg.length then key else g x) : m_log g' (a_log lg key) ∧ (a_log lg key).length = lg.length + 1 := by
  rw [m_alog h.1 hk, if_pos hl]
  refine ⟨⟨by simp; omega, fun j hj => ?_⟩, by simp⟩
  rw [hg]
  simp only [List.length_append, List.length_cons, List.length_nil] at hj
  by_cases e : j = lg.length
  · subst e; rw [if_pos rfl]; simp
  · rw [if_neg e, List.getElem?_append_left (by omega)]
    exact h.2 j (by omega)
theorem m_log_shift {g g' : Nat → Int32} {lg : List Int32} {key : Int32} (h : m_log g lg) (hk : ¬ key = -1) (hl : lg.length = 60) (hg : ∀ x, g' x = if x = 59 then key else if x + 1 < 60 then g (x + 1) else g x) : m_log g' (a_log lg key) ∧ (a_log lg key).length = 60 := by
  rw [m_alog h.1 hk, if_neg (by omega)]
  have e2 : (lg.tail ++ [key]).length = 60 := by simp; omega
  refine ⟨⟨by omega, fun j hj => ?_⟩, e2⟩
  rw [e2] at hj
  rw [hg]
  by_cases e : j = 59
  · subst e
    rw [if_pos rfl, List.getElem?_append_right (by simp; omega)]
    simp [hl]
  · rw [if_neg e, if_pos (by omega), List.getElem?_append_left (by simp; omega), List.getElem?_tail]
    exact h.2 (j + 1) (by omega)
theorem m_log_at {g : Nat → Int32} {lg : List Int32} {i : Nat} (h : m_log g lg) (hi : i < lg.length) : g i = k_at lg (nI i) := by
  have := h.1
  exact (k_at_nI (by omega) (h.2 i hi)).symm
theorem m_log_mem {lg : List Int32} {i : Nat} (hl : lg.length ≤ 60) (hi : i < lg.length) : k_at lg (nI i) ∈ lg := by
  have h := List.getElem?_eq_getElem hi
  rw [k_at_nI (by omega) h]
  exact List.getElem_mem hi
theorem m_hInv {k z : Nat} {lg : List Int32} (h1 : 1 ≤ k) (h2 : k ≤ 32) (hz : z ≤ 20) (hl : lg.length ≤ 60) (hv : ∀ x ∈ lg, ¬ x = -1) : ∀ i : Nat, i ≤ lg.length → p_Inv i (h_st (nI k) (nI z) lg i) := by
  intro i
  induction i with
  | zero => intro _; exact p_anew h1 h2 hz
  | succ i ih => intro hi; exact p_serve (ih (by omega)) (hv _ (m_log_mem hl (by omega)))
theorem m_lt3 {st : ki_St} {key : Int32} : ((c_serve st key).2 = 1 ∨ (c_serve st key).2 = 2) ↔ ¬ 3 ≤ (c_serve st key).2 := by
  rcases p_outcome (st := st) key with h | h | h | h | h | h <;> rw [h] <;> decide
