/-! ===== the cache with its log and counters, as values ===== -/
abbrev a_badKey (key : Int32) : Prop := key < 0 ∨ ¬ key ≤ 9999
abbrev a_badCap (k : Int32) : Prop := k < 1 ∨ ¬ k ≤ 32
abbrev a_badScan (z : Int32) : Prop := ¬ z = 0 ∧ (z < 2 ∨ ¬ z ≤ 20)
abbrev a_badPlace (L : List Int32) (i : Int32) : Prop := i < 0 ∨ ¬ i < nI L.length
def a_log (lg : List Int32) (key : Int32) : List Int32 := if nI lg.length < 60 then k_join lg key else k_join (k_gap lg 0) key
def a_count (kk : Nat → Int32) (w : Int32) : Nat → Int32 :=
  if w = 1 ∨ w = 2 then va_up (va_up kk 0 (kk 0 + 1)) 1 (kk 1 + 1)
  else if w = 3 ∨ w = 4 then va_up (va_up kk 0 (kk 0 + 1)) 2 (kk 2 + 1)
  else if w = 6 then va_up (va_up kk 0 (kk 0 + 1)) 3 (kk 3 + 1) else va_up kk 0 (kk 0 + 1)
def h_st (k z : Int32) (lg : List Int32) : Nat → ki_St
  | 0 => c_anew k z
  | n + 1 => (c_serve (h_st k z lg n) (k_at lg (nI n))).1
def h_n (k z : Int32) (lg : List Int32) : Nat → Int32
  | 0 => 0
  | n + 1 => if (c_serve (h_st k z lg n) (k_at lg (nI n))).2 = 1 ∨ (c_serve (h_st k z lg n) (k_at lg (nI n))).2 = 2 then h_n k z lg n + 1 else h_n k z lg n
def r_step (k : Int32) (P : List Int32) (key : Int32) : List Int32 :=
  if key ∈ P then k_join (k_gap P (k_idx P key)) key
  else if nI (k_gap P (k_idx P key)).length < k then k_join (k_gap P (k_idx P key)) key
  else k_join (k_gap (k_gap P (k_idx P key)) 0) key
def r_pg (k : Int32) (lg : List Int32) : Nat → List Int32
  | 0 => []
  | n + 1 => r_step k (r_pg k lg n) (k_at lg (nI n))
def r_n (k : Int32) (lg : List Int32) : Nat → Int32
  | 0 => 0
  | n + 1 => if k_at lg (nI n) ∈ r_pg k lg n then r_n k lg n + 1 else r_n k lg n
