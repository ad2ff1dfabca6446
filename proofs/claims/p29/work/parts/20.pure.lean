/-! ===== what holds of every cache that the calls make ===== -/
def p_cnt (st : ki_St) (x : Int32) : Nat := (st.1 1).count x + (st.1 2).count x + (st.1 3).count x + (st.1 4).count x
/-- each key once at most, none of them NONE, 64 at most -/
def p_W (st : ki_St) : Prop := (∀ x, p_cnt st x ≤ 1) ∧ p_cnt st (-1) = 0 ∧ (st.1 1).length + (st.1 2).length + (st.1 3).length + (st.1 4).length ≤ 64
/-- the invariant, n requests long -/
def p_Inv (n : Nat) (st : ki_St) : Prop := p_W st ∧ ∃ k g r z : Nat, (st.2 6 = nI k ∧ 1 ≤ k ∧ k ≤ 32) ∧ (st.2 5 = nI g ∧ g ≤ k) ∧ (st.2 8 = nI r ∧ r ≤ n) ∧ (st.2 7 = nI z ∧ z ≤ 20) ∧ (st.2 9 = -1 ↔ r = 0) ∧
  (st.1 1).length + (st.1 2).length ≤ k ∧ (st.1 1).length + (st.1 3).length ≤ k ∧ (st.1 1).length + (st.1 2).length + (st.1 3).length + (st.1 4).length ≤ 2 * k
theorem k_gap0 {L : List Int32} (hl : L.length ≤ 64) : k_gap L 0 = L.tail := k_tail hl
theorem k_at0 {a : Int32} {T : List Int32} (hl : (a :: T).length ≤ 64) : k_at (a :: T) 0 = a := k_head _ hl
theorem k_join_ok {L : List Int32} {key : Int32} (h0 : ¬ key = -1) (h1 : L.length < 64) : k_join L key = L ++ [key] := by
  unfold k_join
  rw [if_neg h0, if_neg (nI_ge h1 (by decide))]
theorem p_pages {st : ki_St} : c_pages st = nI ((st.1 1).length + (st.1 2).length) := nI_add _ _
theorem p_rg {st : ki_St} : c_rg st = nI ((st.1 1).length + (st.1 3).length) := nI_add _ _
theorem p_all {st : ki_St} : c_all st = nI ((st.1 1).length + (st.1 2).length + (st.1 3).length + (st.1 4).length) := by
  unfold c_all
  rw [p_pages, nI_add, nI_add]
theorem p_full {st : ki_St} {k : Nat} (hk : st.2 6 = nI k) (hk2 : k ≤ 64) (hw : p_W st) : c_full st ↔ (st.1 1).length + (st.1 2).length = k := by
  have := hw.2.2
  unfold c_full
  rw [p_pages, hk, nI_eq (by omega) (by omega)]
theorem p_evR {st : ki_St} {b : Int32} {g : Nat} (hg : st.2 5 = nI g) (hg2 : g ≤ 64) (hw : p_W st) : c_evR st b ↔ (g < (st.1 1).length ∨ (¬ b = 0 ∧ (st.1 1).length = g ∧ 0 < (st.1 1).length)) := by
  have := hw.2.2
  unfold c_evR
  rw [hg, nI_ltI (by omega) (by omega), nI_eq (by omega) (by omega)]
  have h3 : (¬ nI (st.1 1).length ≤ 0) ↔ 0 < (st.1 1).length := by
    show (¬ nI (st.1 1).length ≤ nI 0) ↔ _
    rw [nI_leI (by omega) (by omega)]
    omega
  rw [h3]
theorem p_drops {st : ki_St} {k : Nat} (hk : st.2 6 = nI k) (hk2 : k ≤ 64) (hw : p_W st) : c_drops st ↔ ((st.1 1).length + (st.1 3).length = k ∧ (st.1 3).length = 0) := by
  have := hw.2.2
  unfold c_drops
  rw [p_rg, hk, nI_eq (by omega) (by omega)]
  have h3 : nI (st.1 3).length = 0 ↔ (st.1 3).length = 0 := by
    show nI (st.1 3).length = nI 0 ↔ _
    rw [nI_eq (by omega) (by omega)]
  rw [h3]
theorem p_rgk {st : ki_St} {k : Nat} (hk : st.2 6 = nI k) (hk2 : k ≤ 64) (hw : p_W st) : c_rg st = st.2 6 ↔ (st.1 1).length + (st.1 3).length = k := by
  have := hw.2.2
  rw [p_rg, hk, nI_eq (by omega) (by omega)]
theorem p_allk {st : ki_St} {k : Nat} (hk : st.2 6 = nI k) (hk2 : k ≤ 64) (hw : p_W st) : c_all st = 2 * st.2 6 ↔ (st.1 1).length + (st.1 2).length + (st.1 3).length + (st.1 4).length = 2 * k := by
  have := hw.2.2
  rw [p_all, hk, show (2 : Int32) * nI k = nI (2 * k) from pk_mul 2 k, nI_eq (by omega) (by omega)]
theorem p_mem {L : List Int32} {x : Int32} : x ∈ L ↔ 0 < L.count x := List.count_pos_iff.symm
theorem p_ne1 {st : ki_St} (hw : p_W st) {i : Nat} (h1 : 1 ≤ i) (h4 : i ≤ 4) {x : Int32} (hx : x ∈ st.1 i) : ¬ x = -1 := by
  intro e
  subst e
  have h := hw.2.1
  unfold p_cnt at h
  have h2 := p_mem.mp hx
  rcases (show i = 1 ∨ i = 2 ∨ i = 3 ∨ i = 4 by omega) with rfl | rfl | rfl | rfl <;> omega
theorem p_nodup {st : ki_St} (hw : p_W st) {i : Nat} (h1 : 1 ≤ i) (h4 : i ≤ 4) : (st.1 i).Nodup := by
  refine List.nodup_iff_count.mpr fun x => ?_
  have h := hw.1 x
  unfold p_cnt at h
  rcases (show i = 1 ∨ i = 2 ∨ i = 3 ∨ i = 4 by omega) with rfl | rfl | rfl | rfl <;> omega
theorem p_apart {st : ki_St} (hw : p_W st) {i j : Nat} (h1 : 1 ≤ i) (h4 : i ≤ 4) (g1 : 1 ≤ j) (g4 : j ≤ 4) {x : Int32} (hi : x ∈ st.1 i) (hj : x ∈ st.1 j) : i = j := by
  have h := hw.1 x
  unfold p_cnt at h
  have a := p_mem.mp hi
  have b := p_mem.mp hj
  rcases (show i = 1 ∨ i = 2 ∨ i = 3 ∨ i = 4 by omega) with rfl | rfl | rfl | rfl <;> rcases (show j = 1 ∨ j = 2 ∨ j = 3 ∨ j = 4 by omega) with rfl | rfl | rfl | rfl <;> first | rfl | omega
/-- an eviction, its four lists told -/
theorem p_evict1 {st : ki_St} {b : Int32} (hw : p_W st) (h : c_evR st b) {a : Int32} {T : List Int32} (hL : st.1 1 = a :: T) : c_evict st b = (va_up (va_up st.1 1 T) 3 (st.1 3 ++ [a]), va_up st.2 10 (st.2 10 + 1)) := by
  have hl := hw.2.2
  have ha : ¬ a = -1 := p_ne1 hw (i := 1) (by decide) (by decide) (by rw [hL]; exact List.mem_cons_self)
  rw [hL] at hl
  simp only [List.length_cons] at hl
  unfold c_evict
  rw [if_pos h, hL, k_gap0 (by simp; omega), k_at0 (by simp; omega), k_join_ok ha (by omega)]
  rfl
theorem p_evict2 {st : ki_St} {b : Int32} (hw : p_W st) (h : ¬ c_evR st b) {a : Int32} {T : List Int32} (hL : st.1 2 = a :: T) : c_evict st b = (va_up (va_up st.1 2 T) 4 (st.1 4 ++ [a]), va_up st.2 10 (st.2 10 + 1)) := by
  have hl := hw.2.2
  have ha : ¬ a = -1 := p_ne1 hw (i := 2) (by decide) (by decide) (by rw [hL]; exact List.mem_cons_self)
  rw [hL] at hl
  simp only [List.length_cons] at hl
  unfold c_evict
  rw [if_neg h, hL, k_gap0 (by simp; omega), k_at0 (by simp; omega), k_join_ok ha (by omega)]
  rfl
/-- what an eviction keeps -/
theorem p_evict {st : ki_St} {b : Int32} {g : Nat} (hw : p_W st) (hg : st.2 5 = nI g) (hg2 : g ≤ 64) (h2 : ¬ c_evR st b → ¬ st.1 2 = []) :
    p_W (c_evict st b) ∧ (∀ i, i ≠ 10 → (c_evict st b).2 i = st.2 i) ∧ (c_evict st b).2 10 = st.2 10 + 1 ∧
    ((c_evict st b).1 1).length + ((c_evict st b).1 2).length + 1 = (st.1 1).length + (st.1 2).length ∧
    ((c_evict st b).1 1).length + ((c_evict st b).1 3).length = (st.1 1).length + (st.1 3).length ∧
    ((c_evict st b).1 2).length + ((c_evict st b).1 4).length = (st.1 2).length + (st.1 4).length ∧ (∀ x, p_cnt (c_evict st b) x = p_cnt st x) ∧
    (∀ x, x ∈ st.1 3 → x ∈ (c_evict st b).1 3) ∧ (∀ x, x ∈ st.1 4 → x ∈ (c_evict st b).1 4) := by
  have hl := hw.2.2
  by_cases h : c_evR st b
  · have h1 : 0 < (st.1 1).length := by
      rcases (p_evR hg hg2 hw).mp h with q | q <;> omega
    obtain ⟨a, T, hL⟩ := List.exists_cons_of_length_pos h1
    have e := p_evict1 hw h hL
    have ec : ∀ x, p_cnt (c_evict st b) x = p_cnt st x := fun x => by
      rw [e]
      show T.count x + (st.1 2).count x + (st.1 3 ++ [a]).count x + (st.1 4).count x = (st.1 1).count x + (st.1 2).count x + (st.1 3).count x + (st.1 4).count x
      simp only [hL, List.count_append, List.count_cons, List.count_nil]
      omega
    refine ⟨⟨fun x => by rw [ec]; exact hw.1 x, by rw [ec]; exact hw.2.1, ?_⟩, ?_, ?_, ?_, ?_, ?_, ec, ?_, ?_⟩ <;> rw [e]
    · show T.length + (st.1 2).length + (st.1 3 ++ [a]).length + (st.1 4).length ≤ 64
      rw [hL] at hl
      simp at hl ⊢
      omega
    · intro i hi
      exact va_up_ne _ _ hi
    · rfl
    · show T.length + (st.1 2).length + 1 = (st.1 1).length + (st.1 2).length
      rw [hL]; simp; omega
    · show T.length + (st.1 3 ++ [a]).length = (st.1 1).length + (st.1 3).length
      rw [hL]; simp; omega
    · rfl
    · intro x hx
      exact List.mem_append_left _ hx
    · intro x hx
      exact hx
  · obtain ⟨a, T, hL⟩ := List.exists_cons_of_ne_nil (h2 h)
    have e := p_evict2 hw h hL
    have ec : ∀ x, p_cnt (c_evict st b) x = p_cnt st x := fun x => by
      rw [e]
      show (st.1 1).count x + T.count x + (st.1 3).count x + (st.1 4 ++ [a]).count x = (st.1 1).count x + (st.1 2).count x + (st.1 3).count x + (st.1 4).count x
      simp only [hL, List.count_append, List.count_cons, List.count_nil]
      omega
    refine ⟨⟨fun x => by rw [ec]; exact hw.1 x, by rw [ec]; exact hw.2.1, ?_⟩, ?_, ?_, ?_, ?_, ?_, ec, ?_, ?_⟩ <;> rw [e]
    · show (st.1 1).length + T.length + (st.1 3).length + (st.1 4 ++ [a]).length ≤ 64
      rw [hL] at hl
      simp at hl ⊢
      omega
    · intro i hi
      exact va_up_ne _ _ hi
    · rfl
    · show (st.1 1).length + T.length + 1 = (st.1 1).length + (st.1 2).length
      rw [hL]; simp; omega
    · rfl
    · show T.length + (st.1 4 ++ [a]).length = (st.1 2).length + (st.1 4).length
      rw [hL]; simp; omega
    · intro x hx
      exact hx
    · intro x hx
      exact List.mem_append_left _ hx
