/-! ===== a cache as a value: its lists by number, its numbers by number ===== -/
abbrev ki_St : Type := (Nat → List Int32) × (Nat → Int32)
def ki_reps (F : Nat → Nat → Int32) (L : Nat → List Int32) : Prop := ki_rep (F 1) (L 1) ∧ ki_rep (F 2) (L 2) ∧ ki_rep (F 3) (L 3) ∧ ki_rep (F 4) (L 4)
def c_pages (st : ki_St) : Int32 := nI (st.1 1).length + nI (st.1 2).length
def c_rg (st : ki_St) : Int32 := nI (st.1 1).length + nI (st.1 3).length
def c_all (st : ki_St) : Int32 := c_pages st + nI (st.1 3).length + nI (st.1 4).length
abbrev c_full (st : ki_St) : Prop := c_pages st = st.2 6
abbrev c_drops (st : ki_St) : Prop := c_rg st = st.2 6 ∧ nI (st.1 3).length = 0
abbrev c_evR (st : ki_St) (b : Int32) : Prop := st.2 5 < nI (st.1 1).length ∨ (¬ b = 0 ∧ nI (st.1 1).length = st.2 5 ∧ ¬ nI (st.1 1).length ≤ 0)
def c_list (st : ki_St) (key : Int32) : Int32 := if key ∈ st.1 1 then 1 else if key ∈ st.1 2 then 2 else if key ∈ st.1 3 then 3 else if key ∈ st.1 4 then 4 else 0
def c_evict (st : ki_St) (b : Int32) : ki_St :=
  if c_evR st b then (va_up (va_up st.1 1 (k_gap (st.1 1) 0)) 3 (k_join (st.1 3) (k_at (st.1 1) 0)), va_up st.2 10 (st.2 10 + 1))
  else (va_up (va_up st.1 2 (k_gap (st.1 2) 0)) 4 (k_join (st.1 4) (k_at (st.1 2) 0)), va_up st.2 10 (st.2 10 + 1))
def c_room (st : ki_St) (b : Int32) : ki_St := if c_full st then c_evict st b else st
def c_adm1 (st : ki_St) : ki_St :=
  if c_drops st then (va_up st.1 1 (k_gap (st.1 1) 0), va_up st.2 10 (st.2 10 + 1))
  else if c_rg st = st.2 6 then (va_up st.1 3 (k_gap (st.1 3) 0), st.2)
  else if c_all st = 2 * st.2 6 then (va_up st.1 4 (k_gap (st.1 4) 0), st.2) else st
def c_admit (st : ki_St) (key : Int32) : ki_St := (va_up (c_room (c_adm1 st) 0).1 1 (k_join ((c_room (c_adm1 st) 0).1 1) key), (c_room (c_adm1 st) 0).2)
def c_step (o w : Int32) : Int32 := if 1 ≤ w then (if 1 < o / w then o / w else 1) else 1
def c_adapt (st : ki_St) (w : Int32) : ki_St :=
  if w = 3 then (st.1, va_up st.2 5 (if st.2 5 + c_step (nI (st.1 4).length) (nI (st.1 3).length) < st.2 6 then st.2 5 + c_step (nI (st.1 4).length) (nI (st.1 3).length) else st.2 6))
  else (st.1, va_up st.2 5 (if 0 < st.2 5 - c_step (nI (st.1 3).length) (nI (st.1 4).length) then st.2 5 - c_step (nI (st.1 3).length) (nI (st.1 4).length) else 0))
def c_run (st : ki_St) (key : Int32) : ki_St := (st.1, va_up (va_up st.2 8 (if ¬ st.2 9 = -1 ∧ key = st.2 9 + 1 then st.2 8 + 1 else 1)) 9 key)
def c_from (st : ki_St) (w key : Int32) : ki_St :=
  if w = 1 then (va_up st.1 1 (k_gap (st.1 1) (k_idx (st.1 1) key)), st.2) else if w = 2 then (va_up st.1 2 (k_gap (st.1 2) (k_idx (st.1 2) key)), st.2)
  else if w = 3 then (va_up st.1 3 (k_gap (st.1 3) (k_idx (st.1 3) key)), st.2) else if w = 4 then (va_up st.1 4 (k_gap (st.1 4) (k_idx (st.1 4) key)), st.2) else st
def c_forget (st : ki_St) (key : Int32) : ki_St := c_from st (c_list st key) key
def c_clear (st : ki_St) : ki_St := (va_up (va_up (va_up (va_up st.1 1 []) 2 []) 3 []) 4 [], va_up st.2 5 0)
def c_anew (k z : Int32) : ki_St := (fun _ => [], va_up (va_up (va_up (fun _ => 0) 6 k) 7 z) 9 (-1))
def c_join2 (st : ki_St) (key : Int32) : ki_St := (va_up st.1 2 (k_join (st.1 2) key), st.2)
def c_serve (st : ki_St) (key : Int32) : ki_St × Int32 :=
  if ¬ (c_run st key).2 7 = 0 ∧ ¬ (c_run st key).2 8 < (c_run st key).2 7 then
    (c_run st key, if c_list (c_run st key) key = 1 ∨ c_list (c_run st key) key = 2 then c_list (c_run st key) key else 6)
  else if c_list (c_run st key) key = 0 then (c_admit (c_run st key) key, 5)
  else if c_list (c_run st key) key = 1 ∨ c_list (c_run st key) key = 2 then (c_join2 (c_from (c_run st key) (c_list (c_run st key) key) key) key, c_list (c_run st key) key)
  else (c_join2 (c_from (c_room (c_adapt (c_run st key) (c_list (c_run st key) key)) (if c_list (c_run st key) key = 4 then 1 else 0)) (c_list (c_run st key) key) key) key, c_list (c_run st key) key)
def c_victim (st : ki_St) : Int32 := if c_drops st then k_at (st.1 1) 0 else if c_full st then (if c_evR st 0 then k_at (st.1 1) 0 else k_at (st.1 2) 0) else -1
def c_evN : Nat → ki_St → ki_St
  | 0, s => s
  | n + 1, s => c_evict (c_evN n s) 0
def k_dropN : Nat → List Int32 → List Int32
  | 0, L => L
  | n + 1, L => k_gap (k_dropN n L) 0
def c_capN (st : ki_St) (k : Int32) : Int32 := if 0 < c_pages st - k then c_pages st - k else 0
def c_cap1 (st : ki_St) (k : Int32) : ki_St := (st.1, va_up (va_up st.2 5 (if k < st.2 5 then k else st.2 5)) 6 k)
def c_cap2 (st : ki_St) (k : Int32) : ki_St := c_evN (c_capN st k).toNatClampNeg (c_cap1 st k)
def c_cap3 (st : ki_St) (k : Int32) : ki_St := (va_up (c_cap2 st k).1 3 (k_dropN (c_rg (c_cap2 st k) - (c_cap2 st k).2 6).toNatClampNeg ((c_cap2 st k).1 3)), (c_cap2 st k).2)
def c_cap (st : ki_St) (k : Int32) : ki_St := (va_up (c_cap3 st k).1 4 (k_dropN (c_all (c_cap3 st k) - 2 * (c_cap3 st k).2 6).toNatClampNeg ((c_cap3 st k).1 4)), (c_cap3 st k).2)
theorem ki_cl31 (d : Int32) : d.toNatClampNeg < 2 ^ 31 := by
  have := d.toInt_lt
  show d.toInt.toNat < 2 ^ 31
  omega
theorem ki_cnt_t {d : Int32} {i : Nat} (hi : i < 2 ^ 31) (h : d ≤ nI i) : d.toNatClampNeg ≤ i := by
  have h1 := Int32.le_iff_toInt_le.mp h
  rw [nI_toInt hi] at h1
  show d.toInt.toNat ≤ i
  omega
theorem ki_cnt_f {d : Int32} {i : Nat} (hi : i < 2 ^ 31) (h : ¬ d ≤ nI i) : i < d.toNatClampNeg := by
  have h1 : ¬ d.toInt ≤ (nI i).toInt := fun q => h (Int32.le_iff_toInt_le.mpr q)
  rw [nI_toInt hi] at h1
  show i < d.toInt.toNat
  omega
theorem c_where (w : Int32) : w = 1 ∨ w = 2 ∨ w = 3 ∨ w = 4 ∨ (w.toInt < 1 ∨ 4 < w.toInt) := by
  by_cases h : w.toInt < 1 ∨ 4 < w.toInt
  · exact Or.inr (Or.inr (Or.inr (Or.inr h)))
  · have e : ∀ v : Int32, w.toInt = v.toInt → w = v := fun v q => Int32.toInt_inj.mp q
    have h1 : w.toInt = 1 ∨ w.toInt = 2 ∨ w.toInt = 3 ∨ w.toInt = 4 := by omega
    rcases h1 with q | q | q | q
    · exact Or.inl (e 1 q)
    · exact Or.inr (Or.inl (e 2 q))
    · exact Or.inr (Or.inr (Or.inl (e 3 q)))
    · exact Or.inr (Or.inr (Or.inr (Or.inl (e 4 q))))
theorem c_from_out {st : ki_St} {w key : Int32} (h : w.toInt < 1 ∨ 4 < w.toInt) : c_from st w key = st := by
  unfold c_from
  have e : ∀ v : Int32, 1 ≤ v.toInt → v.toInt ≤ 4 → ¬ w = v := fun v a b q => by rw [q] at h; omega
  rw [if_neg (e 1 (by decide) (by decide)), if_neg (e 2 (by decide) (by decide)), if_neg (e 3 (by decide) (by decide)), if_neg (e 4 (by decide) (by decide))]
