/-! ===== a number added to each key ===== -/
/-- a key that the law asks for in the first cache -/
def s_k (x : Int32) : Prop := ∃ n : Nat, n ≤ 49 ∧ x = nI n
def s_L (L : List Int32) : Prop := ∀ x ∈ L, s_k x
def s_o (x : Int32) : Prop := x = -1 ∨ s_k x
/-- the number that is added -/
def s_n (m : Int32) : Prop := ∃ n : Nat, n < 9950 ∧ m = nI n
def s_a (m x : Int32) : Int32 := if x = -1 then -1 else x + m
def s_m (m : Int32) (L : List Int32) : List Int32 := L.map (fun x => x + m)
def s_f (m : Int32) (f : Nat → List Int32) : Nat → List Int32 := fun i => s_m m (f i)
def s_z (m : Int32) (z : Nat → Int32) : Nat → Int32 := fun i => if i = 9 then s_a m (z 9) else z i
def s_st (m : Int32) (st : ki_St) : ki_St := (s_f m st.1, s_z m st.2)
def s_ok (st : ki_St) : Prop := (∀ i, s_L (st.1 i)) ∧ s_o (st.2 9)
theorem s_ne1 {x : Int32} (h : s_k x) : ¬ x = -1 := by
  obtain ⟨n, hn, rfl⟩ := h
  intro e
  have h1 := nI_toInt (n := n) (by omega)
  rw [e] at h1
  have h2 : (-1 : Int32).toInt = -1 := by decide
  omega
theorem s_ne1m {x m : Int32} (h : s_k x) (hm : s_n m) : ¬ x + m = -1 := by
  obtain ⟨n, hn, rfl⟩ := h
  obtain ⟨k, hk, rfl⟩ := hm
  rw [nI_add]
  intro e
  have h1 := nI_toInt (n := n + k) (by omega)
  rw [e] at h1
  have h2 : (-1 : Int32).toInt = -1 := by decide
  omega
theorem s_nb {x : Int32} (h : s_k x) : ¬ a_badKey x := by
  obtain ⟨n, hn, rfl⟩ := h
  intro q
  rcases q with q | q
  · exact nI_pos (by omega) q
  · exact q (nI_le (b := 9999) (by omega) (by decide))
theorem s_nbm {x m : Int32} (h : s_k x) (hm : s_n m) : ¬ a_badKey (x + m) := by
  obtain ⟨n, hn, rfl⟩ := h
  obtain ⟨k, hk, rfl⟩ := hm
  rw [nI_add]
  intro q
  rcases q with q | q
  · exact nI_pos (by omega) q
  · exact q (nI_le (b := 9999) (by omega) (by decide))
theorem s_ak {x m : Int32} (h : s_k x) : s_a m x = x + m := if_neg (s_ne1 h)
theorem s_inj {x y m : Int32} : x + m = y + m ↔ x = y := Int32.add_left_inj m
theorem s_len (m : Int32) (L : List Int32) : (s_m m L).length = L.length := List.length_map _
theorem s_mem {m : Int32} {L : List Int32} {x : Int32} : x + m ∈ s_m m L ↔ x ∈ L := by
  unfold s_m
  rw [List.mem_map]
  refine ⟨fun ⟨y, hy, e⟩ => ?_, fun h => ⟨x, h, rfl⟩⟩
  have e2 : y = x := s_inj.mp e
  rw [← e2]
  exact hy
theorem s_er (m : Int32) : ∀ (L : List Int32) (n : Nat), (s_m m L).eraseIdx n = s_m m (L.eraseIdx n)
  | [], _ => rfl
  | _ :: _, 0 => rfl
  | a :: t, n + 1 => congrArg (fun l => (a + m) :: l) (s_er m t n)
theorem s_ix (m : Int32) (x : Int32) : ∀ L : List Int32, (s_m m L).idxOf (x + m) = L.idxOf x
  | [] => rfl
  | a :: t => by
    have ih := s_ix m x t
    show ((a + m) :: s_m m t).idxOf (x + m) = (a :: t).idxOf x
    rw [List.idxOf_cons, List.idxOf_cons, ih]
    have e : ((a + m) == (x + m)) = (a == x) := by
      rw [Bool.eq_iff_iff, beq_iff_eq, beq_iff_eq]
      exact s_inj
    rw [e]
theorem s_idx {m : Int32} {L : List Int32} {x : Int32} : k_idx (s_m m L) (x + m) = k_idx L x := by
  unfold k_idx
  by_cases h : x ∈ L
  · rw [if_pos h, if_pos (s_mem.mpr h), s_ix]
  · rw [if_neg h, if_neg (fun q => h (s_mem.mp q))]
theorem s_gap {m : Int32} {L : List Int32} {g : Int32} : k_gap (s_m m L) g = s_m m (k_gap L g) := by
  unfold k_gap
  rw [s_len]
  by_cases h : g < 0
  · rw [if_pos h, if_pos h]
  · rw [if_neg h, if_neg h]
    by_cases h2 : g < nI L.length
    · rw [if_pos h2, if_pos h2, s_er]
    · rw [if_neg h2, if_neg h2]
theorem k_at_or {L : List Int32} {i : Int32} : k_at L i = -1 ∨ k_at L i ∈ L := by
  unfold k_at
  by_cases h : i < 0
  · rw [if_pos h]; exact Or.inl rfl
  · rw [if_neg h]
    by_cases h2 : nI L.length ≤ i
    · rw [if_pos h2]; exact Or.inl rfl
    · rw [if_neg h2]
      obtain ⟨j, hj, hj2, rfl⟩ := ki_ix h h2
      rw [nI_clamp hj2, List.getD_eq_getElem?_getD, List.getElem?_eq_getElem hj]
      exact Or.inr (List.getElem_mem hj)
theorem s_ato {L : List Int32} (hL : s_L L) (i : Int32) : s_o (k_at L i) := k_at_or.elim Or.inl (fun h => Or.inr (hL _ h))
theorem s_at {m : Int32} {L : List Int32} (hL : s_L L) (i : Int32) : k_at (s_m m L) i = s_a m (k_at L i) := by
  unfold k_at
  rw [s_len]
  by_cases h : i < 0
  · rw [if_pos h, if_pos h]; exact (if_pos rfl).symm
  · rw [if_neg h, if_neg h]
    by_cases h2 : nI L.length ≤ i
    · rw [if_pos h2, if_pos h2]; exact (if_pos rfl).symm
    · rw [if_neg h2, if_neg h2]
      obtain ⟨j, hj, hj2, rfl⟩ := ki_ix h h2
      rw [nI_clamp hj2, List.getD_eq_getElem?_getD, List.getD_eq_getElem?_getD]
      unfold s_m
      rw [List.getElem?_map, List.getElem?_eq_getElem hj]
      exact (s_ak (hL _ (List.getElem_mem hj))).symm
/-- a place that the list has -/
theorem s_atk {L : List Int32} (hL : s_L L) {i : Int32} (h : ¬ i < 0) (h2 : ¬ nI L.length ≤ i) : s_k (k_at L i) := by
  unfold k_at
  rw [if_neg h, if_neg h2]
  obtain ⟨j, hj, hj2, rfl⟩ := ki_ix h h2
  rw [nI_clamp hj2, List.getD_eq_getElem?_getD, List.getElem?_eq_getElem hj]
  exact hL _ (List.getElem_mem hj)
theorem s_join {m : Int32} (hm : s_n m) {L : List Int32} {x : Int32} (hx : s_o x) : k_join (s_m m L) (s_a m x) = s_m m (k_join L x) := by
  rcases hx with rfl | hx
  · rfl
  · unfold k_join
    rw [s_ak hx, s_len, if_neg (s_ne1 hx), if_neg (s_ne1m hx hm)]
    by_cases h : nI 64 ≤ nI L.length
    · rw [if_pos h, if_pos h]
    · rw [if_neg h, if_neg h]
      unfold s_m
      rw [List.map_append]
      rfl
theorem s_Lgap {L : List Int32} (hL : s_L L) (g : Int32) : s_L (k_gap L g) := by
  unfold k_gap
  split
  · exact hL
  · split
    · exact fun x hx => hL x ((List.eraseIdx_sublist _ _).mem hx)
    · exact hL
theorem s_Ljoin {L : List Int32} (hL : s_L L) {x : Int32} (hx : s_o x) : s_L (k_join L x) := by
  unfold k_join
  by_cases h : x = -1
  · rw [if_pos h]; exact hL
  · rw [if_neg h]
    by_cases h2 : nI 64 ≤ nI L.length
    · rw [if_pos h2]; exact hL
    · rw [if_neg h2]
      intro y hy
      rcases List.mem_append.mp hy with q | q
      · exact hL y q
      · rw [List.mem_singleton] at q
        rw [q]
        exact hx.elim (fun e => absurd e h) id
/-! of a whole cache -/
theorem s_fu {m : Int32} {f : Nat → List Int32} {i : Nat} {L : List Int32} : va_up (s_f m f) i (s_m m L) = s_f m (va_up f i L) := by
  funext j
  by_cases h : j = i
  · subst h; show _ = s_m m (va_up f j L j); rw [va_up_self, va_up_self]
  · show _ = s_m m (va_up f i L j); rw [va_up_ne _ _ h, va_up_ne _ _ h]; rfl
theorem s_zu {m : Int32} {z : Nat → Int32} {i : Nat} {v : Int32} (hi : i ≠ 9) : va_up (s_z m z) i v = s_z m (va_up z i v) := by
  funext j
  by_cases h : j = i
  · subst h
    unfold s_z
    rw [va_up_self, if_neg hi, va_up_self]
  · rw [va_up_ne _ _ h]
    unfold s_z
    rw [va_up_ne _ _ (Ne.symm hi), va_up_ne _ _ h]
theorem s_zu9 {m : Int32} {z : Nat → Int32} {v : Int32} : va_up (s_z m z) 9 (s_a m v) = s_z m (va_up z 9 v) := by
  funext j
  by_cases h : j = 9
  · subst h
    unfold s_z
    rw [va_up_self, if_pos rfl, va_up_self]
  · rw [va_up_ne _ _ h]
    unfold s_z
    rw [if_neg h, if_neg h, va_up_ne _ _ h]
theorem s_1 (m : Int32) (st : ki_St) (i : Nat) : (s_st m st).1 i = s_m m (st.1 i) := rfl
theorem s_2 (m : Int32) (st : ki_St) {i : Nat} (h : i ≠ 9) : (s_st m st).2 i = st.2 i := if_neg h
theorem s_29 (m : Int32) (st : ki_St) : (s_st m st).2 9 = s_a m (st.2 9) := rfl
theorem s_5 (m : Int32) (st : ki_St) : (s_st m st).2 5 = st.2 5 := rfl
theorem s_6 (m : Int32) (st : ki_St) : (s_st m st).2 6 = st.2 6 := rfl
theorem s_7 (m : Int32) (st : ki_St) : (s_st m st).2 7 = st.2 7 := rfl
theorem s_8 (m : Int32) (st : ki_St) : (s_st m st).2 8 = st.2 8 := rfl
theorem s_10 (m : Int32) (st : ki_St) : (s_st m st).2 10 = st.2 10 := rfl
theorem s_pages (m : Int32) (st : ki_St) : c_pages (s_st m st) = c_pages st := by unfold c_pages; rw [s_1, s_1, s_len, s_len]
theorem s_rg (m : Int32) (st : ki_St) : c_rg (s_st m st) = c_rg st := by unfold c_rg; rw [s_1, s_1, s_len, s_len]
theorem s_all (m : Int32) (st : ki_St) : c_all (s_st m st) = c_all st := by unfold c_all; rw [s_pages, s_1, s_1, s_len, s_len]
theorem s_full (m : Int32) (st : ki_St) : c_full (s_st m st) ↔ c_full st := by unfold c_full; rw [s_pages, s_6]
theorem s_drops (m : Int32) (st : ki_St) : c_drops (s_st m st) ↔ c_drops st := by unfold c_drops; rw [s_rg, s_6, s_1, s_len]
theorem s_evR (m : Int32) (st : ki_St) (b : Int32) : c_evR (s_st m st) b ↔ c_evR st b := by unfold c_evR; rw [s_5, s_1, s_len]
theorem s_list (m : Int32) (st : ki_St) (x : Int32) : c_list (s_st m st) (x + m) = c_list st x := by
  unfold c_list
  simp only [s_1, s_mem]
theorem s_okup {st : ki_St} (h : s_ok st) {i : Nat} {L : List Int32} (hL : s_L L) {z : Nat → Int32} (hz : s_o (z 9)) : s_ok (va_up st.1 i L, z) := by
  refine ⟨fun j => ?_, hz⟩
  show s_L (va_up st.1 i L j)
  by_cases e : j = i
  · subst e; rw [va_up_self]; exact hL
  · rw [va_up_ne _ _ e]; exact h.1 j
theorem s_okz {st : ki_St} (h : s_ok st) {i : Nat} (hi : i ≠ 9) (v : Int32) : s_ok (st.1, va_up st.2 i v) := ⟨h.1, by show s_o (va_up st.2 i v 9); rw [va_up_ne _ _ (Ne.symm hi)]; exact h.2⟩
theorem s_mk1 {m : Int32} {st : ki_St} {i : Nat} {L : List Int32} : (va_up (s_st m st).1 i (s_m m L), (s_st m st).2) = s_st m (va_up st.1 i L, st.2) := by
  show (va_up (s_f m st.1) i (s_m m L), s_z m st.2) = (s_f m (va_up st.1 i L), s_z m st.2)
  rw [s_fu]
theorem s_mk2 {m : Int32} {st : ki_St} {i : Nat} {v : Int32} (hi : i ≠ 9) : ((s_st m st).1, va_up (s_st m st).2 i v) = s_st m (st.1, va_up st.2 i v) := by
  show (s_f m st.1, va_up (s_z m st.2) i v) = (s_f m st.1, s_z m (va_up st.2 i v))
  rw [s_zu hi]
theorem s_evict {m : Int32} (hm : s_n m) {st : ki_St} (h : s_ok st) (b : Int32) : c_evict (s_st m st) b = s_st m (c_evict st b) ∧ s_ok (c_evict st b) := by
  have hz : s_o (va_up st.2 10 (st.2 10 + 1) 9) := by rw [va_up_ne _ _ (by decide)]; exact h.2
  unfold c_evict
  by_cases q : c_evR st b
  · rw [if_pos q, if_pos ((s_evR m st b).mpr q)]
    refine ⟨?_, ?_⟩
    · rw [s_1, s_1, s_gap, s_at (h.1 1), s_join hm (s_ato (h.1 1) 0), s_10]
      show (va_up (va_up (s_f m st.1) 1 _) 3 _, va_up (s_z m st.2) 10 _) = _
      rw [s_fu, s_fu, s_zu (by decide)]
      rfl
    · exact s_okup (st := (va_up st.1 1 (k_gap (st.1 1) 0), st.2)) (s_okup h (s_Lgap (h.1 1) 0) h.2) (s_Ljoin (h.1 3) (s_ato (h.1 1) 0)) hz
  · rw [if_neg q, if_neg (fun z => q ((s_evR m st b).mp z))]
    refine ⟨?_, ?_⟩
    · rw [s_1, s_1, s_gap, s_at (h.1 2), s_join hm (s_ato (h.1 2) 0), s_10]
      show (va_up (va_up (s_f m st.1) 2 _) 4 _, va_up (s_z m st.2) 10 _) = _
      rw [s_fu, s_fu, s_zu (by decide)]
      rfl
    · exact s_okup (st := (va_up st.1 2 (k_gap (st.1 2) 0), st.2)) (s_okup h (s_Lgap (h.1 2) 0) h.2) (s_Ljoin (h.1 4) (s_ato (h.1 2) 0)) hz
theorem s_room {m : Int32} (hm : s_n m) {st : ki_St} (h : s_ok st) (b : Int32) : c_room (s_st m st) b = s_st m (c_room st b) ∧ s_ok (c_room st b) := by
  unfold c_room
  by_cases q : c_full st
  · rw [if_pos q, if_pos ((s_full m st).mpr q)]; exact s_evict hm h b
  · rw [if_neg q, if_neg (fun z => q ((s_full m st).mp z))]; exact ⟨rfl, h⟩
theorem s_adm1 {m : Int32} {st : ki_St} (h : s_ok st) : c_adm1 (s_st m st) = s_st m (c_adm1 st) ∧ s_ok (c_adm1 st) := by
  have hz : s_o (va_up st.2 10 (st.2 10 + 1) 9) := by rw [va_up_ne _ _ (by decide)]; exact h.2
  unfold c_adm1
  by_cases q : c_drops st
  · rw [if_pos q, if_pos ((s_drops m st).mpr q)]
    refine ⟨?_, s_okup h (s_Lgap (h.1 1) 0) hz⟩
    rw [s_1, s_gap, s_10]
    show (va_up (s_f m st.1) 1 _, va_up (s_z m st.2) 10 _) = _
    rw [s_fu, s_zu (by decide)]
    rfl
  · rw [if_neg q, if_neg (fun z => q ((s_drops m st).mp z)), s_rg, s_all, s_6]
    by_cases q2 : c_rg st = st.2 6
    · rw [if_pos q2, if_pos q2]
      refine ⟨?_, s_okup h (s_Lgap (h.1 3) 0) h.2⟩
      rw [s_1, s_gap, s_mk1]
    · rw [if_neg q2, if_neg q2]
      by_cases q3 : c_all st = 2 * st.2 6
      · rw [if_pos q3, if_pos q3]
        refine ⟨?_, s_okup h (s_Lgap (h.1 4) 0) h.2⟩
        rw [s_1, s_gap, s_mk1]
      · rw [if_neg q3, if_neg q3]; exact ⟨rfl, h⟩
theorem s_admit {m : Int32} (hm : s_n m) {st : ki_St} (h : s_ok st) {x : Int32} (hx : s_k x) : c_admit (s_st m st) (x + m) = s_st m (c_admit st x) ∧ s_ok (c_admit st x) := by
  obtain ⟨e1, h1⟩ := s_adm1 (m := m) h
  obtain ⟨e2, h2⟩ := s_room hm h1 0
  unfold c_admit
  rw [e1, e2]
  refine ⟨?_, s_okup h2 (s_Ljoin (h2.1 1) (Or.inr hx)) h2.2⟩
  rw [← s_ak hx, s_1, s_join hm (Or.inr hx), s_mk1]
theorem s_adapt {m : Int32} {st : ki_St} (h : s_ok st) (w : Int32) : c_adapt (s_st m st) w = s_st m (c_adapt st w) ∧ s_ok (c_adapt st w) := by
  unfold c_adapt
  rw [s_5, s_6, s_1, s_1, s_len, s_len]
  by_cases q : w = 3
  · rw [if_pos q, if_pos q]; exact ⟨s_mk2 (by decide), s_okz h (by decide) _⟩
  · rw [if_neg q, if_neg q]; exact ⟨s_mk2 (by decide), s_okz h (by decide) _⟩
theorem s_run {m : Int32} (hm : s_n m) {st : ki_St} (h : s_ok st) {x : Int32} (hx : s_k x) : c_run (s_st m st) (x + m) = s_st m (c_run st x) ∧ s_ok (c_run st x) := by
  have hc : (¬ (s_st m st).2 9 = -1 ∧ x + m = (s_st m st).2 9 + 1) ↔ (¬ st.2 9 = -1 ∧ x = st.2 9 + 1) := by
    rw [s_29]
    rcases h.2 with e | e
    · rw [e]
      exact ⟨fun z => absurd rfl z.1, fun z => absurd rfl z.1⟩
    · rw [s_ak e]
      have e3 : st.2 9 + m + 1 = (st.2 9 + 1) + m := by rw [Int32.add_assoc, Int32.add_comm m 1, ← Int32.add_assoc]
      rw [e3, s_inj]
      exact ⟨fun z => ⟨s_ne1 e, z.2⟩, fun z => ⟨s_ne1m e hm, z.2⟩⟩
  unfold c_run
  have ho : s_o (va_up (va_up st.2 8 (if ¬ st.2 9 = -1 ∧ x = st.2 9 + 1 then st.2 8 + 1 else 1)) 9 x 9) := by
    rw [va_up_self]
    exact Or.inr hx
  refine ⟨?_, h.1, ho⟩
  rw [s_8]
  have e8 : (if ¬ (s_st m st).2 9 = -1 ∧ x + m = (s_st m st).2 9 + 1 then st.2 8 + 1 else 1) = (if ¬ st.2 9 = -1 ∧ x = st.2 9 + 1 then st.2 8 + 1 else (1 : Int32)) := by
    by_cases q : ¬ st.2 9 = -1 ∧ x = st.2 9 + 1
    · rw [if_pos q, if_pos (hc.mpr q)]
    · rw [if_neg q, if_neg (fun z => q (hc.mp z))]
  rw [e8, ← s_ak hx]
  show (s_f m st.1, va_up (va_up (s_z m st.2) 8 _) 9 (s_a m x)) = _
  rw [s_zu (by decide), s_zu9]
  rfl
theorem s_from {m : Int32} {st : ki_St} (h : s_ok st) (w x : Int32) : c_from (s_st m st) w (x + m) = s_st m (c_from st w x) ∧ s_ok (c_from st w x) := by
  have hg : ∀ i : Nat, (va_up (s_st m st).1 i (k_gap ((s_st m st).1 i) (k_idx ((s_st m st).1 i) (x + m))), (s_st m st).2) = s_st m (va_up st.1 i (k_gap (st.1 i) (k_idx (st.1 i) x)), st.2) := fun i => by
    rw [s_1, s_idx, s_gap, s_mk1]
  have ho : ∀ i : Nat, s_ok (va_up st.1 i (k_gap (st.1 i) (k_idx (st.1 i) x)), st.2) := fun i => s_okup h (s_Lgap (h.1 i) _) h.2
  unfold c_from
  by_cases q1 : w = 1
  · rw [if_pos q1, if_pos q1]; exact ⟨hg 1, ho 1⟩
  · rw [if_neg q1, if_neg q1]
    by_cases q2 : w = 2
    · rw [if_pos q2, if_pos q2]; exact ⟨hg 2, ho 2⟩
    · rw [if_neg q2, if_neg q2]
      by_cases q3 : w = 3
      · rw [if_pos q3, if_pos q3]; exact ⟨hg 3, ho 3⟩
      · rw [if_neg q3, if_neg q3]
        by_cases q4 : w = 4
        · rw [if_pos q4, if_pos q4]; exact ⟨hg 4, ho 4⟩
        · rw [if_neg q4, if_neg q4]; exact ⟨rfl, h⟩
theorem s_join2 {m : Int32} (hm : s_n m) {st : ki_St} (h : s_ok st) {x : Int32} (hx : s_k x) : c_join2 (s_st m st) (x + m) = s_st m (c_join2 st x) ∧ s_ok (c_join2 st x) := by
  unfold c_join2
  refine ⟨?_, s_okup h (s_Ljoin (h.1 2) (Or.inr hx)) h.2⟩
  rw [← s_ak hx, s_1, s_join hm (Or.inr hx), s_mk1]
theorem s_serve {m : Int32} (hm : s_n m) {st : ki_St} (h : s_ok st) {x : Int32} (hx : s_k x) : c_serve (s_st m st) (x + m) = (s_st m (c_serve st x).1, (c_serve st x).2) ∧ s_ok (c_serve st x).1 := by
  obtain ⟨e1, h1⟩ := s_run hm h hx
  unfold c_serve
  rw [e1, s_list, s_7, s_8]
  generalize c_run st x = S at h1 ⊢
  by_cases q : ¬ S.2 7 = 0 ∧ ¬ S.2 8 < S.2 7
  · rw [if_pos q, if_pos q]; exact ⟨rfl, h1⟩
  · rw [if_neg q, if_neg q]
    by_cases q0 : c_list S x = 0
    · rw [if_pos q0, if_pos q0]
      obtain ⟨e2, h2⟩ := s_admit hm h1 hx
      rw [e2]; exact ⟨rfl, h2⟩
    · rw [if_neg q0, if_neg q0]
      by_cases q1 : c_list S x = 1 ∨ c_list S x = 2
      · rw [if_pos q1, if_pos q1]
        obtain ⟨e2, h2⟩ := s_from (m := m) h1 (c_list S x) x
        obtain ⟨e3, h3⟩ := s_join2 hm h2 hx
        rw [e2, e3]; exact ⟨rfl, h3⟩
      · rw [if_neg q1, if_neg q1]
        obtain ⟨e2, h2⟩ := s_adapt (m := m) h1 (c_list S x)
        obtain ⟨e3, h3⟩ := s_room hm h2 (if c_list S x = 4 then 1 else 0)
        obtain ⟨e4, h4⟩ := s_from (m := m) h3 (c_list S x) x
        obtain ⟨e5, h5⟩ := s_join2 hm h4 hx
        rw [e2, e3, e4, e5]; exact ⟨rfl, h5⟩
theorem s_forget {m : Int32} {st : ki_St} (h : s_ok st) (x : Int32) : c_forget (s_st m st) (x + m) = s_st m (c_forget st x) ∧ s_ok (c_forget st x) := by
  unfold c_forget
  rw [s_list]
  exact s_from h _ x
theorem s_nil (m : Int32) : s_m m [] = [] := rfl
theorem s_clear {m : Int32} {st : ki_St} (h : s_ok st) : c_clear (s_st m st) = s_st m (c_clear st) ∧ s_ok (c_clear st) := by
  unfold c_clear
  have hn : s_L [] := fun x hx => nomatch hx
  have h1 := s_okup (st := st) h (i := 1) hn h.2
  have h2 := s_okup h1 (i := 2) hn h.2
  have h3 := s_okup h2 (i := 3) hn h.2
  have h4 := s_okup h3 (i := 4) hn h.2
  refine ⟨?_, s_okz h4 (i := 5) (by decide) 0⟩
  show (va_up (va_up (va_up (va_up (s_f m st.1) 1 (s_m m [])) 2 (s_m m [])) 3 (s_m m [])) 4 (s_m m []), va_up (s_z m st.2) 5 0) = _
  rw [s_fu, s_fu, s_fu, s_fu, s_zu (by decide)]
  rfl
theorem s_victim {m : Int32} {st : ki_St} (h : s_ok st) : c_victim (s_st m st) = s_a m (c_victim st) ∧ s_o (c_victim st) := by
  unfold c_victim
  by_cases q : c_drops st
  · rw [if_pos q, if_pos ((s_drops m st).mpr q), s_1, s_at (h.1 1)]; exact ⟨rfl, s_ato (h.1 1) 0⟩
  · rw [if_neg q, if_neg (fun z => q ((s_drops m st).mp z))]
    by_cases q2 : c_full st
    · rw [if_pos q2, if_pos ((s_full m st).mpr q2)]
      by_cases q3 : c_evR st 0
      · rw [if_pos q3, if_pos ((s_evR m st 0).mpr q3), s_1, s_at (h.1 1)]; exact ⟨rfl, s_ato (h.1 1) 0⟩
      · rw [if_neg q3, if_neg (fun z => q3 ((s_evR m st 0).mp z)), s_1, s_at (h.1 2)]; exact ⟨rfl, s_ato (h.1 2) 0⟩
    · rw [if_neg q2, if_neg (fun z => q2 ((s_full m st).mp z))]; exact ⟨rfl, Or.inl rfl⟩
theorem s_evN {m : Int32} (hm : s_n m) {st : ki_St} (h : s_ok st) : ∀ n : Nat, c_evN n (s_st m st) = s_st m (c_evN n st) ∧ s_ok (c_evN n st)
  | 0 => ⟨rfl, h⟩
  | n + 1 => by
    obtain ⟨e, h1⟩ := s_evN hm h n
    obtain ⟨e2, h2⟩ := s_evict hm h1 0
    show c_evict (c_evN n (s_st m st)) 0 = s_st m (c_evict (c_evN n st) 0) ∧ s_ok (c_evict (c_evN n st) 0)
    rw [e]; exact ⟨e2, h2⟩
theorem s_dropN {m : Int32} {L : List Int32} (hL : s_L L) : ∀ n : Nat, k_dropN n (s_m m L) = s_m m (k_dropN n L) ∧ s_L (k_dropN n L)
  | 0 => ⟨rfl, hL⟩
  | n + 1 => by
    obtain ⟨e, h⟩ := s_dropN hL n
    show k_gap (k_dropN n (s_m m L)) 0 = s_m m (k_gap (k_dropN n L) 0) ∧ s_L (k_gap (k_dropN n L) 0)
    rw [e, s_gap]; exact ⟨rfl, s_Lgap h 0⟩
theorem s_capN (m : Int32) (st : ki_St) (k : Int32) : c_capN (s_st m st) k = c_capN st k := by unfold c_capN; rw [s_pages]
theorem s_cap {m : Int32} (hm : s_n m) {st : ki_St} (h : s_ok st) (k : Int32) : c_cap (s_st m st) k = s_st m (c_cap st k) ∧ s_ok (c_cap st k) := by
  have a1 : c_cap1 (s_st m st) k = s_st m (c_cap1 st k) ∧ s_ok (c_cap1 st k) := by
    unfold c_cap1
    rw [s_5]
    refine ⟨?_, s_okz (st := (st.1, va_up st.2 5 _)) (s_okz h (by decide) _) (by decide) k⟩
    show (s_f m st.1, va_up (va_up (s_z m st.2) 5 _) 6 k) = _
    rw [s_zu (by decide), s_zu (by decide)]
    rfl
  have a2 : c_cap2 (s_st m st) k = s_st m (c_cap2 st k) ∧ s_ok (c_cap2 st k) := by
    unfold c_cap2
    rw [s_capN, a1.1]
    exact s_evN hm a1.2 _
  have a3 : c_cap3 (s_st m st) k = s_st m (c_cap3 st k) ∧ s_ok (c_cap3 st k) := by
    unfold c_cap3
    rw [a2.1, s_rg, s_6, s_1]
    obtain ⟨e, h3⟩ := s_dropN (m := m) (a2.2.1 3) (c_rg (c_cap2 st k) - (c_cap2 st k).2 6).toNatClampNeg
    rw [e, s_mk1]
    exact ⟨rfl, s_okup a2.2 h3 a2.2.2⟩
  unfold c_cap
  rw [a3.1, s_all, s_6, s_1]
  obtain ⟨e, h3⟩ := s_dropN (m := m) (a3.2.1 4) (c_all (c_cap3 st k) - 2 * (c_cap3 st k).2 6).toNatClampNeg
  rw [e, s_mk1]
  exact ⟨rfl, s_okup a3.2 h3 a3.2.2⟩
theorem s_scan {m : Int32} {st : ki_St} (h : s_ok st) (z : Int32) : ((s_st m st).1, va_up (s_st m st).2 7 z) = s_st m (st.1, va_up st.2 7 z) ∧ s_ok (st.1, va_up st.2 7 z) := ⟨s_mk2 (by decide), s_okz h (by decide) z⟩
/-! the log, and what it is asked for -/
theorem s_log {m : Int32} (hm : s_n m) {L : List Int32} (hL : s_L L) {x : Int32} (hx : s_k x) : a_log (s_m m L) (x + m) = s_m m (a_log L x) ∧ s_L (a_log L x) := by
  unfold a_log
  rw [s_len, s_gap, ← s_ak hx, s_join hm (Or.inr hx), s_join hm (Or.inr hx)]
  by_cases q : nI L.length < 60
  · rw [if_pos q, if_pos q]; exact ⟨rfl, s_Ljoin hL (Or.inr hx)⟩
  · rw [if_neg q, if_neg q]; exact ⟨rfl, s_Ljoin (s_Lgap hL 0) (Or.inr hx)⟩
theorem s_anew (m k z : Int32) : c_anew k z = s_st m (c_anew k z) ∧ s_ok (c_anew k z) := by
  unfold c_anew
  refine ⟨?_, fun i x hx => (nomatch hx), Or.inl (va_up_self (va_up (va_up (fun _ => 0) 6 k) 7 z) 9 (-1))⟩
  refine Prod.ext rfl ?_
  funext j
  show _ = s_z m _ j
  unfold s_z
  by_cases h : j = 9
  · subst h; rfl
  · rw [if_neg h]
theorem s_new (m : Int32) : c_new = s_st m c_new ∧ s_ok c_new := by
  unfold c_new
  refine ⟨?_, fun i x hx => (nomatch hx), Or.inl (va_up_self (va_up (fun _ => 0) 6 8) 9 (-1))⟩
  refine Prod.ext rfl ?_
  funext j
  show _ = s_z m _ j
  unfold s_z
  by_cases h : j = 9
  · subst h; rfl
  · rw [if_neg h]
theorem s_hst {m : Int32} (hm : s_n m) {L : List Int32} (hL : s_L L) (h64 : L.length ≤ 64) (k z : Int32) : ∀ n : Nat, n ≤ L.length → h_st k z (s_m m L) n = s_st m (h_st k z L n) ∧ s_ok (h_st k z L n) ∧ h_n k z (s_m m L) n = h_n k z L n
  | 0, _ => ⟨(s_anew m k z).1, (s_anew m k z).2, rfl⟩
  | n + 1, hn => by
    obtain ⟨e1, h1, e2⟩ := s_hst hm hL h64 k z n (by omega)
    have hk : s_k (k_at L (nI n)) := s_atk hL (nI_pos (by omega)) (nI_ge (by omega) (by omega))
    obtain ⟨e3, h3⟩ := s_serve hm h1 hk
    rw [h_st, h_st, h_n, h_n, e1, s_at hL, s_ak hk, e3, e2]
    exact ⟨rfl, h3, rfl⟩
theorem s_rpg {m : Int32} (hm : s_n m) {L : List Int32} (hL : s_L L) (h64 : L.length ≤ 64) (k : Int32) : ∀ n : Nat, n ≤ L.length → r_pg k (s_m m L) n = s_m m (r_pg k L n) ∧ r_n k (s_m m L) n = r_n k L n
  | 0, _ => ⟨rfl, rfl⟩
  | n + 1, hn => by
    obtain ⟨e1, e2⟩ := s_rpg hm hL h64 k n (by omega)
    have hk : s_k (k_at L (nI n)) := s_atk hL (nI_pos (by omega)) (nI_ge (by omega) (by omega))
    rw [r_pg, r_pg, r_n, r_n, e1, e2, s_at hL, s_ak hk]
    generalize r_pg k L n = P
    generalize k_at L (nI n) = x at hk
    refine ⟨?_, ?_⟩
    · unfold r_step
      rw [s_idx, s_gap, s_gap, s_len, ← s_ak hk, s_join hm (Or.inr hk), s_join hm (Or.inr hk), s_ak hk]
      by_cases q : x ∈ P
      · rw [if_pos q, if_pos (s_mem.mpr q)]
      · rw [if_neg q, if_neg (fun z => q (s_mem.mp z))]
        by_cases q2 : nI (k_gap P (k_idx P x)).length < k
        · rw [if_pos q2, if_pos q2]
        · rw [if_neg q2, if_neg q2]
    · by_cases q : x ∈ P
      · rw [if_pos q, if_pos (s_mem.mpr q)]
      · rw [if_neg q, if_neg (fun z => q (s_mem.mp z))]
