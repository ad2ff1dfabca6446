/-! ===== what the tables and the start give ===== -/
set_option maxRecDepth 100000 in
theorem lw_env {s : State} {args : Array Value} (hts : ∀ w ∈ lw_tbl, w.before args s = true) (hgv : (Jvm.Cond.and given_1 narrow_1).before args s = true) : ki_env s := by
  have hs := flat_of_before _ hgv
  have st : ∀ (k : Nat) (tx : String), (Cond.stringRef RX2 k tx).before args s = true → (Cond.exactly (.string RX2 k) "java/lang/String").before args s = true → ∃ a, vk_R RX2 k tx a s := fun k tx h1 h2 => by
    obtain ⟨a, c, cell, kk, e1, -⟩ := Cond.exactly_spec h2
    exact ⟨a, vk_R.of h1 e1⟩
  refine ⟨⟨trivial, va_Nw.of rfl (hts _ (by decide +kernel)), va_Nw.of rfl (hts _ (by decide +kernel)), va_Nw.of rfl (hts _ (by decide +kernel)), va_Nw.of rfl (hts _ (by decide +kernel))⟩,
    ⟨va_Nw.of rfl (hts _ (by decide +kernel)), va_Nw.of rfl (hts _ (by decide +kernel)), va_Nw.of rfl (hts _ (by decide +kernel)), va_Nw.of rfl (hts _ (by decide +kernel))⟩,
    ⟨va_Nw.of rfl (hts _ (by decide +kernel)), va_Nw.of rfl (hts _ (by decide +kernel)), va_Nw.of rfl (hts _ (by decide +kernel)), va_Nw.of rfl (hts _ (by decide +kernel))⟩,
    ⟨st 142 _ (hts _ (by decide +kernel)) (hs _ (by decide +kernel)), st 144 _ (hts _ (by decide +kernel)) (hs _ (by decide +kernel)), st 62 _ (hts _ (by decide +kernel)) (hs _ (by decide +kernel)), st 148 _ (hts _ (by decide +kernel)) (hs _ (by decide +kernel))⟩,
    ⟨va_Nw.of rfl (hts _ (by decide +kernel)), va_Nw.of rfl (hts _ (by decide +kernel))⟩, ⟨va_Nw.of rfl (hts _ (by decide +kernel)), va_Nw.of rfl (hts _ (by decide +kernel)), va_Nw.of rfl (hts _ (by decide +kernel))⟩⟩
set_option maxRecDepth 100000 in
theorem lw_Zs {s : State} {args : Array Value} (hts : ∀ w ∈ lw_tbl, w.before args s = true) (hgv : (Jvm.Cond.and given_1 narrow_1).before args s = true) : ki_Z (fun q : Nat => s.heap.size ≤ q) s s.heap := by
  have hs := flat_of_before _ hgv
  have hA : ∀ a : Nat, a < s.heap.size → ¬ (fun q : Nat => s.heap.size ≤ q) a := fun a h => Nat.not_le.mpr h
  exact ⟨vx_Zqof (hts _ (by decide +kernel)) (hts _ (by decide +kernel)) (hs _ (by decide +kernel)) hA, vx_Zqof (hts _ (by decide +kernel)) (hts _ (by decide +kernel)) (hs _ (by decide +kernel)) hA⟩
set_option maxRecDepth 100000 in
theorem lw_Ks {s : State} {args : Array Value} (hts : ∀ w ∈ lw_tbl, w.before args s = true) : ∃ (D : va_G) (cy : ClassId), va_K D vwCl [(cy, .int)] s := by
  obtain ⟨c0, iS0, hKn0⟩ := u_known (C := RX0) (T := TX0) (N := 10) (n := 10) hts inX0 (hts (.instantiable RX0 10) (by decide +kernel))
  obtain ⟨c1, iS1, hKn1⟩ := u_known (C := RX1) (T := TX1) (N := 2) (n := 2) hts inX1 (hts (.instantiable RX1 2) (by decide +kernel))
  obtain ⟨c2, iS2, hKn2⟩ := u_known (C := RX2) (T := TX2) (N := 8) (n := 8) hts inX2 (hts (.instantiable RX2 8) (by decide +kernel))
  obtain ⟨dC, dI, hKc⟩ : ∃ (dC : Nat → ClassId) (dI : Nat → Nat → Nat), ∀ (k : Nat) (q : vw_C), vwCl[k]? = some q → u_Kn s q.1 q.2.1 q.2.2 (dC k) (dI k) := by
    refine ⟨fun k => if k = 0 then c0 else if k = 1 then c1 else c2, fun k => if k = 0 then iS0 else if k = 1 then iS1 else iS2, ?_⟩
    intro k q hq
    match k, hq with
    | 0, hq => cases hq; exact hKn0
    | 1, hq => cases hq; exact hKn1
    | 2, hq => cases hq; exact hKn2
    | k + 3, hq => simp [vwCl] at hq
  obtain ⟨cy, ky, ey, hy1, hy2, hy3⟩ := Cond.arrayClass_spec (hts (.arrayClass .int) (by decide +kernel))
  have hAy : ArrOfT s cy .int := fun n z => ⟨fun k h => (by cases h), ky, hy2, ey, hy3⟩
  refine ⟨(dC, dI), cy, hKc, fun k q h => ?_⟩
  match k, h with
  | 0, h => cases h; exact ⟨hAy, hy1⟩
  | k + 1, h => simp at h
theorem lw_flags (l : Launch) (h : l.flags = flags0) : l.stackTraces = false := by
  unfold Launch.stackTraces
  rw [h]
  decide +kernel
