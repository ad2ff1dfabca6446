theorem m_head {st : ki_St} (hw : p_W st) {i : Nat} (h1 : 1 ≤ i) (h4 : i ≤ 4) (hp : 0 < (st.1 i).length) : ¬ k_at (st.1 i) 0 = -1 := by
  have hl : (st.1 i).length ≤ 64 := by
    have := hw.2.2
    rcases (show i = 1 ∨ i = 2 ∨ i = 3 ∨ i = 4 by omega) with rfl | rfl | rfl | rfl <;> omega
  obtain ⟨a, T, hL⟩ := List.exists_cons_of_length_pos hp
  have ha : a ∈ st.1 i := by rw [hL]; exact List.mem_cons_self
  have h := p_ne1 hw h1 h4 ha
  rw [hL] at hl ⊢
  rw [k_at0 hl]
  exact h
theorem m_full {st : ki_St} {k : Nat} (hw : p_W st) (hk : st.2 6 = nI k) (hk2 : k ≤ 64) (hp : (st.1 1).length + (st.1 2).length ≤ k) (h : ¬ c_pages st < st.2 6) : (st.1 1).length + (st.1 2).length = k := by
  rw [p_pages, hk] at h
  rcases Nat.lt_or_ge ((st.1 1).length + (st.1 2).length) k with q | q
  · exact absurd (nI_lt q (by omega)) h
  · omega
theorem m_nfull {st : ki_St} (h : c_pages st < st.2 6) : ¬ c_full st := fun q => by
  have e : c_pages st = st.2 6 := q
  rw [e] at h
  exact Int32.lt_irrefl h
theorem m_pos {n : Nat} (hn : n ≤ 64) (h : ¬ nI n ≤ 0) : 0 < n := by
  rcases Nat.eq_zero_or_pos n with q | q
  · subst q
    exact absurd (show nI 0 ≤ (0 : Int32) by decide) h
  · exact q
theorem m_npos {n : Nat} (hn : n ≤ 64) (h : nI n ≤ 0) : n = 0 := by
  rcases Nat.eq_zero_or_pos n with q | q
  · exact q
  · exact absurd h (by show ¬ nI n ≤ nI 0; exact nI_ge q (by omega))
theorem m_min_t {r c : Int32} (h : r ≤ c) : (if r < c then r else c) = r := by
  by_cases q : r < c
  · rw [if_pos q]
  · rw [if_neg q]; exact Int32.le_antisymm (Int32.not_lt.mp q) h
theorem m_min_f {r c : Int32} (h : ¬ r ≤ c) : (if r < c then r else c) = c := if_neg (fun q => h (Int32.le_of_lt q))
theorem m_max_t {r : Int32} (h : 0 ≤ r) : (if 0 < r then r else 0) = r := by
  by_cases q : 0 < r
  · rw [if_pos q]
  · rw [if_neg q]; exact Int32.le_antisymm h (Int32.not_lt.mp q)
theorem m_max_f {r : Int32} (h : ¬ 0 ≤ r) : (if 0 < r then r else 0) = 0 := if_neg (fun q => h (Int32.le_of_lt q))
theorem m_rgeq {st : ki_St} {k : Nat} (hw : p_W st) (hk : st.2 6 = nI k) (hk2 : k ≤ 64) (h7 : (st.1 1).length + (st.1 3).length ≤ k) (h : ¬ c_rg st < st.2 6) : c_rg st = st.2 6 := by
  rw [p_rgk hk hk2 hw]
  rw [p_rg, hk] at h
  rcases Nat.lt_or_ge ((st.1 1).length + (st.1 3).length) k with q | q
  · exact absurd (nI_lt q (by omega)) h
  · omega
theorem m_rglt {st : ki_St} (h : c_rg st < st.2 6) : ¬ c_rg st = st.2 6 := fun q => by
  rw [q] at h
  exact Int32.lt_irrefl h
theorem m_alleq {st : ki_St} {k : Nat} (hw : p_W st) (hk : st.2 6 = nI k) (hk2 : k ≤ 32) (h8 : (st.1 1).length + (st.1 2).length + (st.1 3).length + (st.1 4).length ≤ 2 * k) (h : ¬ c_all st < 2 * st.2 6) : c_all st = 2 * st.2 6 := by
  rw [p_allk hk (by omega) hw]
  rw [p_all, hk, show (2 : Int32) * nI k = nI (2 * k) from pk_mul 2 k] at h
  rcases Nat.lt_or_ge ((st.1 1).length + (st.1 2).length + (st.1 3).length + (st.1 4).length) (2 * k) with q | q
  · exact absurd (nI_lt q (by omega)) h
  · omega
theorem m_alllt {st : ki_St} (h : c_all st < 2 * st.2 6) : ¬ c_all st = 2 * st.2 6 := fun q => by
  rw [q] at h
  exact Int32.lt_irrefl h
/-- the cache isn't full behind a dropped page -/
theorem m_drop {st : ki_St} {k : Nat} (hw : p_W st) (hk : st.2 6 = nI k) (hk1 : 1 ≤ k) (hk2 : k ≤ 32) (h6 : (st.1 1).length + (st.1 2).length ≤ k) (hd : c_drops st) : c_room (c_adm1 st) 0 = c_adm1 st ∧ c_adm1 st = (va_up st.1 1 (k_gap (st.1 1) 0), va_up st.2 10 (st.2 10 + 1)) := by
  have e : c_adm1 st = (va_up st.1 1 (k_gap (st.1 1) 0), va_up st.2 10 (st.2 10 + 1)) := by unfold c_adm1; rw [if_pos hd]
  have hl := hw.2.2
  have h := (p_drops hk (by omega) hw).mp hd
  refine ⟨?_, e⟩
  rw [e]
  unfold c_room
  have hw' : p_W (va_up st.1 1 (k_gap (st.1 1) 0), va_up st.2 10 (st.2 10 + 1)) := p_W_sub (st := st) (k_gap_sub (st.1 1) 0) (List.Sublist.refl _) (List.Sublist.refl _) (List.Sublist.refl _) hw
  refine if_neg fun q => ?_
  have h9 : (k_gap (st.1 1) 0).length + (st.1 2).length = k := (p_full (st := (va_up st.1 1 (k_gap (st.1 1) 0), va_up st.2 10 (st.2 10 + 1))) (k := k) hk (by omega) hw').mp q
  rw [k_gap0_len (by omega)] at h9
  omega
theorem m_serve_scan {st : ki_St} {key : Int32} (hs : ¬ (c_run st key).2 7 = 0 ∧ ¬ (c_run st key).2 8 < (c_run st key).2 7) {w : Int32} (hl : c_list (c_run st key) key = w) : c_serve st key = (c_run st key, if w = 1 ∨ w = 2 then w else 6) := by
  unfold c_serve
  rw [if_pos hs, hl]
theorem m_serve_miss {st : ki_St} {key : Int32} (hs : ¬ (¬ (c_run st key).2 7 = 0 ∧ ¬ (c_run st key).2 8 < (c_run st key).2 7)) (hl : c_list (c_run st key) key = 0) : c_serve st key = (c_admit (c_run st key) key, 5) := by
  unfold c_serve
  rw [if_neg hs, if_pos hl]
theorem m_serve_hit {st : ki_St} {key : Int32} {i : Nat} (hs : ¬ (¬ (c_run st key).2 7 = 0 ∧ ¬ (c_run st key).2 8 < (c_run st key).2 7)) (hl : c_list (c_run st key) key = nI i) (hi : i = 1 ∨ i = 2) : c_serve st key = (c_join2 (c_from (c_run st key) (nI i) key) key, nI i) := by
  unfold c_serve
  rw [if_neg hs, hl, if_neg (nI_ne0 (by omega) (by omega)), if_pos (by rcases hi with rfl | rfl; exact Or.inl rfl; exact Or.inr rfl)]
theorem m_serve_ghost {st : ki_St} {key : Int32} {i : Nat} (hs : ¬ (¬ (c_run st key).2 7 = 0 ∧ ¬ (c_run st key).2 8 < (c_run st key).2 7)) (hl : c_list (c_run st key) key = nI i) (hi : i = 3 ∨ i = 4) : c_serve st key = (c_join2 (c_from (c_room (c_adapt (c_run st key) (nI i)) (if nI i = 4 then 1 else 0)) (nI i) key) key, nI i) := by
  unfold c_serve
  rw [if_neg hs, hl, if_neg (nI_ne0 (by omega) (by omega)), if_neg (by rcases hi with rfl | rfl <;> decide)]
theorem m_run {st : ki_St} {key : Int32} {n : Nat} (hn : n < 2 ^ 30) (hi : p_Inv n st) : (¬ st.2 9 = -1 ∧ key = st.2 9 + 1) ↔ (¬ st.2 8 ≤ 0 ∧ key = st.2 9 + 1) := by
  obtain ⟨hw, k, g, r, z, h1, h2, h3, h4, h5, h6⟩ := hi
  have e : (¬ st.2 9 = -1) ↔ ¬ st.2 8 ≤ 0 := by
    rw [h3.1, h5]
    constructor
    · intro q q2
      rcases Nat.eq_zero_or_pos r with q3 | q3
      · exact q q3
      · exact absurd q2 (by show ¬ nI r ≤ nI 0; exact nI_ge q3 (by omega))
    · intro q q2
      subst q2
      exact q (by decide)
  rw [e]
theorem m_scan {st : ki_St} {n : Nat} (hi : p_Inv n st) : (¬ st.2 7 = 0) ↔ ¬ st.2 7 ≤ 0 := by
  obtain ⟨hw, k, g, r, z, h1, h2, h3, h4, h5, h6⟩ := hi
  rw [h4.1]
  constructor
  · intro q q2
    have := m_npos (n := z) (by omega) q2
    subst this
    exact q rfl
  · intro q q2
    rw [q2] at q
    exact q (by decide)
