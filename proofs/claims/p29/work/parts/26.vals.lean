/-! ===== a cache of the class as one value: its lists and numbers, its counters, its log; and what a call makes of it ===== -/
abbrev v_T : Type := ki_St × (Nat → Int32) × List Int32
def v_sh (m : Int32) (v : v_T) : v_T := (s_st m v.1, v.2.1, s_m m v.2.2)
def v_ok (v : v_T) : Prop := s_ok v.1 ∧ s_L v.2.2
def v_req (v : v_T) (key : Int32) : v_T := ((c_serve v.1 key).1, a_count v.2.1 (c_serve v.1 key).2, a_log v.2.2 key)
def v_rem (v : v_T) (key : Int32) : v_T := (c_forget v.1 key, v.2)
def v_cap (v : v_T) (k : Int32) : v_T := (c_cap v.1 k, v.2)
def v_scn (v : v_T) (z : Int32) : v_T := ((v.1.1, va_up v.1.2 7 z), v.2)
def v_clr (v : v_T) : v_T := (c_clear v.1, v.2)
theorem vs_req {m : Int32} (hm : s_n m) {v : v_T} (h : v_ok v) {x : Int32} (hx : s_k x) : v_req (v_sh m v) (x + m) = v_sh m (v_req v x) ∧ v_ok (v_req v x) ∧ (c_serve (v_sh m v).1 (x + m)).2 = (c_serve v.1 x).2 := by
  obtain ⟨e1, h1⟩ := s_serve hm h.1 hx
  obtain ⟨e2, h2⟩ := s_log hm h.2 hx
  refine ⟨?_, ⟨h1, h2⟩, ?_⟩
  · unfold v_req v_sh
    show ((c_serve (s_st m v.1) (x + m)).1, a_count v.2.1 (c_serve (s_st m v.1) (x + m)).2, a_log (s_m m v.2.2) (x + m)) = _
    rw [e1, e2]
  · show (c_serve (s_st m v.1) (x + m)).2 = _
    rw [e1]
theorem vs_rem {m : Int32} {v : v_T} (h : v_ok v) (x : Int32) : v_rem (v_sh m v) (x + m) = v_sh m (v_rem v x) ∧ v_ok (v_rem v x) ∧ c_list (v_sh m v).1 (x + m) = c_list v.1 x := by
  obtain ⟨e1, h1⟩ := s_forget (m := m) h.1 x
  refine ⟨?_, ⟨h1, h.2⟩, s_list m v.1 x⟩
  unfold v_rem v_sh
  show (c_forget (s_st m v.1) (x + m), _) = _
  rw [e1]
theorem vs_cap {m : Int32} (hm : s_n m) {v : v_T} (h : v_ok v) (k : Int32) : v_cap (v_sh m v) k = v_sh m (v_cap v k) ∧ v_ok (v_cap v k) ∧ c_capN (v_sh m v).1 k = c_capN v.1 k := by
  obtain ⟨e1, h1⟩ := s_cap hm h.1 k
  refine ⟨?_, ⟨h1, h.2⟩, s_capN m v.1 k⟩
  unfold v_cap v_sh
  show (c_cap (s_st m v.1) k, _) = _
  rw [e1]
theorem vs_scn {m : Int32} {v : v_T} (h : v_ok v) (z : Int32) : v_scn (v_sh m v) z = v_sh m (v_scn v z) ∧ v_ok (v_scn v z) ∧ (v_sh m v).1.2 7 = v.1.2 7 := by
  obtain ⟨e1, h1⟩ := s_scan (m := m) h.1 z
  refine ⟨?_, ⟨h1, h.2⟩, rfl⟩
  unfold v_scn v_sh
  show (((s_st m v.1).1, va_up (s_st m v.1).2 7 z), _) = _
  rw [e1]
theorem vs_clr {m : Int32} {v : v_T} (h : v_ok v) : v_clr (v_sh m v) = v_sh m (v_clr v) ∧ v_ok (v_clr v) ∧ c_pages (v_sh m v).1 = c_pages v.1 := by
  obtain ⟨e1, h1⟩ := s_clear (m := m) h.1
  refine ⟨?_, ⟨h1, h.2⟩, s_pages m v.1⟩
  unfold v_clr v_sh
  show (c_clear (s_st m v.1), _) = _
  rw [e1]
theorem vs_hit {m : Int32} (hm : s_n m) {v : v_T} (h : v_ok v) (h64 : v.2.2.length ≤ 64) (k : Int32) : h_n k ((v_sh m v).1.2 7) (v_sh m v).2.2 (v_sh m v).2.2.length = h_n k (v.1.2 7) v.2.2 v.2.2.length := by
  show h_n k (v.1.2 7) (s_m m v.2.2) (s_m m v.2.2).length = _
  rw [s_len]
  exact (s_hst hm h.2 h64 k _ _ (Nat.le_refl _)).2.2
theorem vs_lru {m : Int32} (hm : s_n m) {v : v_T} (h : v_ok v) (h64 : v.2.2.length ≤ 64) (k : Int32) : r_n k (v_sh m v).2.2 (v_sh m v).2.2.length = r_n k v.2.2 v.2.2.length := by
  show r_n k (s_m m v.2.2) (s_m m v.2.2).length = _
  rw [s_len]
  exact (s_rpg hm h.2 h64 k _ (Nat.le_refl _)).2
