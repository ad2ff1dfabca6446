theorem m_plt {st : ki_St} {k : Nat} (hw : p_W st) (hk : st.2 6 = nI k) (hk2 : k ≤ 64) (h : c_pages st < st.2 6) : (st.1 1).length + (st.1 2).length < k := by
  have := hw.2.2
  rw [p_pages, hk] at h
  exact (nI_ltI (by omega) (by omega)).mp h
/-- the second list has a page where it is asked for one -/
theorem m_vic2 {st : ki_St} {n : Nat} (hi : p_Inv n st) (hnd : ¬ c_drops st) (hf : ¬ c_pages st < st.2 6) (hev : ¬ c_evR st 0) : 0 < (st.1 2).length := by
  obtain ⟨hw, k, g, r, z, ⟨h1, h1a, h1b⟩, ⟨h2, h2a⟩, h3, h4, h5, h6, h7, h8⟩ := hi
  have hfl := m_full hw h1 (by omega) h6 hf
  rcases Nat.eq_zero_or_pos (st.1 2).length with q | q
  · exfalso
    have h9 : ¬ g < (st.1 1).length := fun q9 => hev ((p_evR h2 (by omega) hw).mpr (Or.inl q9))
    exact hnd ((p_drops h1 (by omega) hw).mpr ⟨by omega, by omega⟩)
  · exact q
theorem m_vic1 {st : ki_St} {n : Nat} (hi : p_Inv n st) {b : Int32} (hev : c_evR st b) : 0 < (st.1 1).length := by
  obtain ⟨hw, k, g, r, z, ⟨h1, h1a, h1b⟩, ⟨h2, h2a⟩, h3⟩ := hi
  rcases (p_evR h2 (by omega) hw).mp hev with q | q <;> omega
theorem m_vic0 {st : ki_St} {n : Nat} (hi : p_Inv n st) (hd : c_drops st) : 0 < (st.1 1).length ∧ ¬ c_pages st < st.2 6 := by
  obtain ⟨hw, k, g, r, z, ⟨h1, h1a, h1b⟩, ⟨h2, h2a⟩, h3⟩ := hi
  have h := (p_drops h1 (by omega) hw).mp hd
  exact ⟨by omega, fun q => by have := m_plt hw h1 (by omega) q; omega⟩
theorem m_at0 {t : Nat → Int32} {st : ki_St} (h : m_rep t st) {i : Nat} (h1 : 1 ≤ i) (h4 : i ≤ 4) (hp : 0 < (st.1 i).length) : t (16 + 70 * i + 0) = k_at (st.1 i) 0 := by
  have hl := m_64 h h1 h4
  exact (k_at_nI (p := 0) hl (m_j h h1 h4 hp)).symm
/-- the least recent cache's list -/
def m_rok (k : Nat) (P : List Int32) : Prop := P.Nodup ∧ P.length ≤ k ∧ ∀ x ∈ P, ¬ x = -1
theorem m_r_in {k : Nat} {P : List Int32} {key : Int32} (hk2 : k ≤ 32) (h : m_rok k P) (hk : ¬ key = -1) (hm : key ∈ P) : r_step (nI k) P key = P.erase key ++ [key] := by
  have := h.2.1
  have hpos := List.length_pos_of_mem hm
  unfold r_step
  rw [if_pos hm, k_erase (by omega), k_join_ok hk (by rw [List.length_erase_of_mem hm]; omega)]
theorem m_r_gap {P : List Int32} {key : Int32} (hl : P.length ≤ 64) (hm : ¬ key ∈ P) : k_gap P (k_idx P key) = P := by
  rw [k_erase hl, List.erase_of_not_mem hm]
theorem m_r_full {k : Nat} {P : List Int32} {key : Int32} (hk2 : k ≤ 32) (h : m_rok k P) (hk : ¬ key = -1) (hm : ¬ key ∈ P) (hl : P.length = k) : r_step (nI k) P key = P.tail ++ [key] := by
  unfold r_step
  rw [if_neg hm, m_r_gap (by omega) hm, if_neg (by rw [nI_ltI (by omega) (by omega)]; omega), k_gap0 (by omega), k_join_ok hk (by rw [List.length_tail]; omega)]
theorem m_r_room {k : Nat} {P : List Int32} {key : Int32} (hk2 : k ≤ 32) (h : m_rok k P) (hk : ¬ key = -1) (hm : ¬ key ∈ P) (hl : P.length < k) : r_step (nI k) P key = P ++ [key] := by
  unfold r_step
  rw [if_neg hm, m_r_gap (by omega) hm, if_pos (nI_lt hl (by omega)), k_join_ok hk (by omega)]
theorem m_r_ok {k : Nat} {P : List Int32} {key : Int32} (hk1 : 1 ≤ k) (hk2 : k ≤ 32) (h : m_rok k P) (hk : ¬ key = -1) : m_rok k (r_step (nI k) P key) := by
  obtain ⟨h1, h2, h3⟩ := h
  by_cases hm : key ∈ P
  · rw [m_r_in hk2 ⟨h1, h2, h3⟩ hk hm]
    refine ⟨?_, ?_, ?_⟩
    · rw [List.nodup_append]
      refine ⟨h1.erase _, by simp, fun a ha b hb e => ?_⟩
      rw [List.mem_singleton] at hb
      rw [hb] at e
      rw [e] at ha
      exact (h1.not_mem_erase) ha
    · have := List.length_pos_of_mem hm
      simp [List.length_erase_of_mem hm]; omega
    · intro x hx
      rcases List.mem_append.mp hx with q | q
      · exact h3 x (List.mem_of_mem_erase q)
      · rw [List.mem_singleton] at q; rw [q]; exact hk
  · have key2 : ∀ T : List Int32, T.Sublist P → T.length < k → m_rok k (T ++ [key]) := by
      intro T hT hl
      refine ⟨?_, by simp; omega, ?_⟩
      · rw [List.nodup_append]
        refine ⟨hT.nodup h1, by simp, fun a ha b hb e => ?_⟩
        rw [List.mem_singleton] at hb
        rw [hb] at e
        rw [e] at ha
        exact hm (hT.subset ha)
      · intro x hx
        rcases List.mem_append.mp hx with q | q
        · exact h3 x (hT.subset q)
        · rw [List.mem_singleton] at q; rw [q]; exact hk
    rcases Nat.lt_or_ge P.length k with q | q
    · rw [m_r_room hk2 ⟨h1, h2, h3⟩ hk hm q]
      exact key2 P (List.Sublist.refl _) q
    · rw [m_r_full hk2 ⟨h1, h2, h3⟩ hk hm (by omega)]
      exact key2 P.tail (List.tail_sublist P) (by rw [List.length_tail]; omega)
theorem m_rInv {k : Nat} {lg : List Int32} (hk1 : 1 ≤ k) (hk2 : k ≤ 32) (hl : lg.length ≤ 60) (hv : ∀ x ∈ lg, ¬ x = -1) : ∀ i : Nat, i ≤ lg.length → m_rok k (r_pg (nI k) lg i) := by
  intro i
  induction i with
  | zero => intro _; exact ⟨List.nodup_nil, Nat.zero_le _, fun x hx => nomatch hx⟩
  | succ i ih => intro hi; exact m_r_ok hk1 hk2 (ih (by omega)) (hv _ (m_log_mem hl (by omega)))
theorem m_pgs_put {g g' : Nat → Int32} {P T : List Int32} {key : Int32} {p0 : Nat} (h : m_pgs g P) (hT : T.length + 1 ≤ 32) (hTg : ∀ j, j < T.length → T[j]? = some (if p0 ≤ j then g (j + 1) else g j)) (hg : ∀ j, j ≤ T.length → g' j = if j = T.length then key else if p0 ≤ j then g (j + 1) else g j) : m_pgs g' (T ++ [key]) := by
  refine ⟨by simp; omega, fun j hj => ?_⟩
  simp only [List.length_append, List.length_cons, List.length_nil] at hj
  rw [hg j (by omega)]
  by_cases e : j = T.length
  · subst e; rw [if_pos rfl]; simp
  · rw [if_neg e, List.getElem?_append_left (by omega)]
    exact hTg j (by omega)
theorem m_pgs_erase {g : Nat → Int32} {P : List Int32} {p : Nat} (h : m_pgs g P) (hp : p < P.length) : ∀ j, j < (P.eraseIdx p).length → (P.eraseIdx p)[j]? = some (if p ≤ j then g (j + 1) else g j) := by
  intro j hj
  rw [List.length_eraseIdx_of_lt hp] at hj
  rw [List.getElem?_eraseIdx]
  by_cases q : j < p
  · rw [if_pos q, if_neg (by omega)]; exact h.2 j (by omega)
  · rw [if_neg q, if_pos (by omega)]; exact h.2 (j + 1) (by omega)
theorem m_pgs_at {g : Nat → Int32} {P : List Int32} {key : Int32} {p : Nat} (h : m_pgs g P) (hp : p < P.length) : g p = key ↔ P[p]? = some key := by
  rw [h.2 p hp]
  exact ⟨fun q => by rw [q], fun q => Option.some.inj q⟩
theorem m_len_step {L : List Int32} {n : Nat} (h : L.length = n + 1) : nI L.length - 1 = nI n := by
  rw [h]; exact nI_pred n
theorem m_sub_cancel (a b : Int32) : a + b - a = b := by
  rw [Int32.add_comm, Int32.add_sub_cancel]
