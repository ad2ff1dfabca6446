/-! ===== calls of the law's methods ===== -/
section LAWROWS
variable {p : Program} {l : Launch} {e : Env} {R : Room} {s : State} {m : MethodId} {args : Array Value} {below : List Frame} {meth : Method} {c : Code} {H : Heap} {locs : List Loc} {cells slots : Nat} {Q : State → Prop}
variable {D : va_G} {tys tysC : List (ClassId × FieldType)} {A : Nat → Prop} {ws wc wr : va_W}
variable {y : MethodName} {bytes cc : ByteArray} {maxL nL mc ms n index : Nat} {ret : Option FieldType} {Wy Ts : List Cond} {rm : Room} {own : String} {As rest : List Value} {ls : Array Slot} {pc : Nat} {st0 : List Value}
theorem kl_cS {S : Type} {post : Int32 → S → Prop} {w1 : S → va_W} {hh : List (Nat × Nat × Nat × Nat)} (Sx : CallFix p m c cc nL s args Ts own) (hM : kw_I l y Wy rm mc ms D tysC As wc post w1) (cw : vx_CSW R s args own index y bytes maxL ret hh Wy rm mc ms n)
    (hK : va_K D vwCl tys s) (hE : ki_env s) (hZ : ki_Z A s s.heap) (hP : va_P D vwCl ws H) (hD : va_D A ws) (hS : va_S A s.heap H locs) (hA : ∀ q, s.heap.size ≤ q → A q) (ts : List Nat) (ht : ts.filterMap (fun i => tys[i]?) = tysC)
    (isC isR : List Nat) (hC : isC.map (fun i => ws[i]?) = wc.map some) (hnC : va_nd isC = true) (hR : isR.map (fun i => ws[i]?) = wr.map some) (hnR : va_nd isR = true) (hdis : ∀ i ∈ isR, i ∉ isC)
    (hn : As.length = n) (hsize : ls.size = nL) (hst : st0 = As.reverse ++ rest) (hroom : (rest.map fun v => v.category).sum ≤ 8) (hdg : decode cc pc = .ok (.invokestatic index, 3)) (hf : cells + mc ≤ R.cells ∧ slots + ms ≤ R.slots)
    (kk : ∀ (r : Int32) (u : S) (H1 : Heap) (locs1 : List Loc), post r u → va_P D vwCl (wr ++ w1 u) H1 → va_D A (wr ++ w1 u) → va_S A s.heap H1 locs1 → W p l e R s m args below meth c H1 locs1 (cells + mc) (slots + ms) Q (F0 m (pc + 3) ls (.int r :: rest))) :
    W p l e R s m args below meth c H locs cells slots Q (F0 m pc ls st0) := by
  have hF := va_free (wc := wc) hD hS hA isC hC
  refine vx_calli (vx_runSX Sx (hM H.size) cw ⟨ki_blindX, ki_preX hP hK hE hZ hD hS hA isC hC hnC ts ht rfl⟩ rfl hn hsize hst (lv_room hroom) hdg hf) hS (fun q _ h => hF q h) hF (fun q _ h => hF q h) (fun E ce q9 u t H1 locs1 ht9 hvm hu => hu.elim) ?_
  intro r u t H1 locs1 ht9 hvm hw hB hz1 hk1 hS1
  obtain ⟨hP1, -, hD1⟩ := hB
  rw [ht9] at hP1
  obtain ⟨hP2, hD2⟩ := va_join hP hD isC isR hC hR hnR hdis hk1 hF hP1 hD1
  exact kk r u H1 locs1 hw hP2 hD2 hS1
theorem kl_cN {S : Type} {post : Int32 → S → Prop} {w1 : S → va_W} (Sx : CallFix p m c cc nL s args Ts own) (hM : kw_I l y Wy rm mc ms D tysC As wc post w1) (cw : CallB R s args own index y bytes maxL ret Wy rm mc ms n ∧ (Cond.static y).before args s = true)
    (hK : va_K D vwCl tys s) (hE : ki_env s) (hZ : ki_Z A s s.heap) (hP : va_P D vwCl ws H) (hD : va_D A ws) (hS : va_S A s.heap H locs) (hA : ∀ q, s.heap.size ≤ q → A q) (ts : List Nat) (ht : ts.filterMap (fun i => tys[i]?) = tysC)
    (isC isR : List Nat) (hC : isC.map (fun i => ws[i]?) = wc.map some) (hnC : va_nd isC = true) (hR : isR.map (fun i => ws[i]?) = wr.map some) (hnR : va_nd isR = true) (hdis : ∀ i ∈ isR, i ∉ isC)
    (hn : As.length = n) (hsize : ls.size = nL) (hst : st0 = As.reverse ++ rest) (hroom : (rest.map fun v => v.category).sum ≤ 8) (hdg : decode cc pc = .ok (.invokestatic index, 3)) (hf : cells + mc ≤ R.cells ∧ slots + ms ≤ R.slots)
    (kk : ∀ (r : Int32) (u : S) (H1 : Heap) (locs1 : List Loc), post r u → va_P D vwCl (wr ++ w1 u) H1 → va_D A (wr ++ w1 u) → va_S A s.heap H1 locs1 → W p l e R s m args below meth c H1 locs1 (cells + mc) (slots + ms) Q (F0 m (pc + 3) ls (.int r :: rest))) :
    W p l e R s m args below meth c H locs cells slots Q (F0 m pc ls st0) := by
  have hF := va_free (wc := wc) hD hS hA isC hC
  refine vx_calli (vx_runS Sx (hM H.size) cw ⟨ki_blindX, ki_preX hP hK hE hZ hD hS hA isC hC hnC ts ht rfl⟩ rfl hn hsize hst (lv_room hroom) hdg hf) hS (fun q _ h => hF q h) hF (fun q _ h => hF q h) (fun E ce q9 u t H1 locs1 ht9 hvm hu => hu.elim) ?_
  intro r u t H1 locs1 ht9 hvm hw hB hz1 hk1 hS1
  obtain ⟨hP1, -, hD1⟩ := hB
  rw [ht9] at hP1
  obtain ⟨hP2, hD2⟩ := va_join hP hD isC isR hC hR hnR hdis hk1 hF hP1 hD1
  exact kk r u H1 locs1 hw hP2 hD2 hS1
variable {cy : ClassId} {x1 lh1 lk1 ph1 pk1 : Nat} {q1 qt1 : Nat → Nat} {x2 lh2 lk2 ph2 pk2 : Nat} {q2 qt2 : Nat → Nat} {ua ub : lo_U} {r' : Int32} {v' : v_T}
theorem kl_SA {hh : List (Nat × Nat × Nat × Nat)} (Sx : CallFix p m c cc nL s args Ts own) (hM : lo_C l y Wy rm mc ms D cy x1 lh1 lk1 ph1 pk1 q1 qt1 As ua r' v') (cw : vx_CSW R s args own index y bytes maxL ret hh Wy rm mc ms n)
    (hK : va_K D vwCl [(cy, .int)] s) (hE : ki_env s) (hZ : ki_Z A s s.heap) (hP : va_P D vwCl (lo_w cy x1 lh1 lk1 ph1 pk1 q1 qt1 ua ++ lo_w cy x2 lh2 lk2 ph2 pk2 q2 qt2 ub) H) (hD : va_D A (lo_w cy x1 lh1 lk1 ph1 pk1 q1 qt1 ua ++ lo_w cy x2 lh2 lk2 ph2 pk2 q2 qt2 ub)) (hS : va_S A s.heap H locs) (hA : ∀ q, s.heap.size ≤ q → A q)
    (hn : As.length = n) (hsize : ls.size = nL) (hst : st0 = As.reverse ++ rest) (hroom : (rest.map fun v => v.category).sum ≤ 8) (hdg : decode cc pc = .ok (.invokestatic index, 3)) (hf : cells + mc ≤ R.cells ∧ slots + ms ≤ R.slots)
    (kk : ∀ (u : lo_U) (H1 : Heap) (locs1 : List Loc), lo_ok u → lo_v u = v' → va_P D vwCl (lo_w cy x1 lh1 lk1 ph1 pk1 q1 qt1 u ++ lo_w cy x2 lh2 lk2 ph2 pk2 q2 qt2 ub) H1 → va_D A (lo_w cy x1 lh1 lk1 ph1 pk1 q1 qt1 u ++ lo_w cy x2 lh2 lk2 ph2 pk2 q2 qt2 ub) → va_S A s.heap H1 locs1 → W p l e R s m args below meth c H1 locs1 (cells + mc) (slots + ms) Q (F0 m (pc + 3) ls (.int r' :: rest))) :
    W p l e R s m args below meth c H locs cells slots Q (F0 m pc ls st0) := by
  refine kl_cS (wr := lo_w cy x2 lh2 lk2 ph2 pk2 q2 qt2 ub) Sx hM cw hK hE hZ hP hD hS hA [0] rfl [0, 1, 2, 3, 4, 5, 6, 7, 8, 9, 10, 11, 12, 13, 14, 15, 16, 17, 18, 19, 20, 21, 22] [23, 24, 25, 26, 27, 28, 29, 30, 31, 32, 33, 34, 35, 36, 37, 38, 39, 40, 41, 42, 43, 44, 45] rfl (by decide) rfl (by decide) (by decide) hn hsize hst hroom hdg hf (fun r u H1 locs1 hw hP1 hD1 hS1 => ?_)
  obtain ⟨e9, h1, h2⟩ := hw
  subst e9
  exact kk u H1 locs1 h1 h2 (ki_P hP1 [23, 24, 25, 26, 27, 28, 29, 30, 31, 32, 33, 34, 35, 36, 37, 38, 39, 40, 41, 42, 43, 44, 45, 0, 1, 2, 3, 4, 5, 6, 7, 8, 9, 10, 11, 12, 13, 14, 15, 16, 17, 18, 19, 20, 21, 22] rfl) (hD1.sub [23, 24, 25, 26, 27, 28, 29, 30, 31, 32, 33, 34, 35, 36, 37, 38, 39, 40, 41, 42, 43, 44, 45, 0, 1, 2, 3, 4, 5, 6, 7, 8, 9, 10, 11, 12, 13, 14, 15, 16, 17, 18, 19, 20, 21, 22] (by decide) rfl) hS1
theorem kl_SB {hh : List (Nat × Nat × Nat × Nat)} (Sx : CallFix p m c cc nL s args Ts own) (hM : lo_C l y Wy rm mc ms D cy x2 lh2 lk2 ph2 pk2 q2 qt2 As ub r' v') (cw : vx_CSW R s args own index y bytes maxL ret hh Wy rm mc ms n)
    (hK : va_K D vwCl [(cy, .int)] s) (hE : ki_env s) (hZ : ki_Z A s s.heap) (hP : va_P D vwCl (lo_w cy x1 lh1 lk1 ph1 pk1 q1 qt1 ua ++ lo_w cy x2 lh2 lk2 ph2 pk2 q2 qt2 ub) H) (hD : va_D A (lo_w cy x1 lh1 lk1 ph1 pk1 q1 qt1 ua ++ lo_w cy x2 lh2 lk2 ph2 pk2 q2 qt2 ub)) (hS : va_S A s.heap H locs) (hA : ∀ q, s.heap.size ≤ q → A q)
    (hn : As.length = n) (hsize : ls.size = nL) (hst : st0 = As.reverse ++ rest) (hroom : (rest.map fun v => v.category).sum ≤ 8) (hdg : decode cc pc = .ok (.invokestatic index, 3)) (hf : cells + mc ≤ R.cells ∧ slots + ms ≤ R.slots)
    (kk : ∀ (u : lo_U) (H1 : Heap) (locs1 : List Loc), lo_ok u → lo_v u = v' → va_P D vwCl (lo_w cy x1 lh1 lk1 ph1 pk1 q1 qt1 ua ++ lo_w cy x2 lh2 lk2 ph2 pk2 q2 qt2 u) H1 → va_D A (lo_w cy x1 lh1 lk1 ph1 pk1 q1 qt1 ua ++ lo_w cy x2 lh2 lk2 ph2 pk2 q2 qt2 u) → va_S A s.heap H1 locs1 → W p l e R s m args below meth c H1 locs1 (cells + mc) (slots + ms) Q (F0 m (pc + 3) ls (.int r' :: rest))) :
    W p l e R s m args below meth c H locs cells slots Q (F0 m pc ls st0) := by
  refine kl_cS (wr := lo_w cy x1 lh1 lk1 ph1 pk1 q1 qt1 ua) Sx hM cw hK hE hZ hP hD hS hA [0] rfl [23, 24, 25, 26, 27, 28, 29, 30, 31, 32, 33, 34, 35, 36, 37, 38, 39, 40, 41, 42, 43, 44, 45] [0, 1, 2, 3, 4, 5, 6, 7, 8, 9, 10, 11, 12, 13, 14, 15, 16, 17, 18, 19, 20, 21, 22] rfl (by decide) rfl (by decide) (by decide) hn hsize hst hroom hdg hf (fun r u H1 locs1 hw hP1 hD1 hS1 => ?_)
  obtain ⟨e9, h1, h2⟩ := hw
  subst e9
  exact kk u H1 locs1 h1 h2 (ki_P hP1 [0, 1, 2, 3, 4, 5, 6, 7, 8, 9, 10, 11, 12, 13, 14, 15, 16, 17, 18, 19, 20, 21, 22, 23, 24, 25, 26, 27, 28, 29, 30, 31, 32, 33, 34, 35, 36, 37, 38, 39, 40, 41, 42, 43, 44, 45] rfl) (hD1.sub [0, 1, 2, 3, 4, 5, 6, 7, 8, 9, 10, 11, 12, 13, 14, 15, 16, 17, 18, 19, 20, 21, 22, 23, 24, 25, 26, 27, 28, 29, 30, 31, 32, 33, 34, 35, 36, 37, 38, 39, 40, 41, 42, 43, 44, 45] (by decide) rfl) hS1
end LAWROWS
theorem c_L_at_ok (l : Launch) (D : va_G) (cy : ClassId) (x lh lk ph pk : Nat) (q qt : Nat → Nat) (u : lo_U) (hu : lo_ok u) (i : Nat) (h1 : 1 ≤ i) (h4 : i ≤ 4) (j : Int32) (hg : ¬ a_badPlace (u.1.1.1 i) j) : lo_C l yL_at wsL_at ({ frames := 8, cells := 0, slots := 0, locals := 124 }) 0 0 D cy x lh lk ph pk q qt [.ref x, .int (nI i), .int j] u (k_at (u.1.1.1 i) (nI (u.1.1.1 i).length - 1 - j)) (lo_v u) := by
  rcases (show i = 1 ∨ i = 2 ∨ i = 3 ∨ i = 4 by omega) with rfl | rfl | rfl | rfl
  · exact c_L_at1 l D cy x lh lk ph pk q qt u hu j hg
  · exact c_L_at2 l D cy x lh lk ph pk q qt u hu j hg
  · exact c_L_at3 l D cy x lh lk ph pk q qt u hu j hg
  · exact c_L_at4 l D cy x lh lk ph pk q qt u hu j hg
theorem c_L_at_no (l : Launch) (hl9 : l.stackTraces = false) (D : va_G) (cy : ClassId) (x lh lk ph pk : Nat) (q qt : Nat → Nat) (u : lo_U) (hu : lo_ok u) (i : Nat) (h1 : 1 ≤ i) (h4 : i ≤ 4) (j : Int32) (hg : a_badPlace (u.1.1.1 i) j) : lo_C l yL_at wsL_at ({ frames := 8, cells := 1, slots := 6, locals := 124 }) 1 6 D cy x lh lk ph pk q qt [.ref x, .int (nI i), .int j] u (-5) (lo_v u) := by
  rcases (show i = 1 ∨ i = 2 ∨ i = 3 ∨ i = 4 by omega) with rfl | rfl | rfl | rfl
  · exact c_L_at1_bad l hl9 D cy x lh lk ph pk q qt u hu j hg
  · exact c_L_at2_bad l hl9 D cy x lh lk ph pk q qt u hu j hg
  · exact c_L_at3_bad l hl9 D cy x lh lk ph pk q qt u hu j hg
  · exact c_L_at4_bad l hl9 D cy x lh lk ph pk q qt u hu j hg
/-- what ties the second cache to the first -/
def lo_R (m : Int32) (ua ub : lo_U) : Prop := lo_ok ua ∧ lo_ok ub ∧ v_ok (lo_v ua) ∧ lo_v ub = v_sh m (lo_v ua)
theorem lo_R.st {m : Int32} {ua ub : lo_U} (h : lo_R m ua ub) : ub.1.1 = s_st m ua.1.1 := congrArg (fun v : v_T => v.1) h.2.2.2
theorem lo_R.kk {m : Int32} {ua ub : lo_U} (h : lo_R m ua ub) : ub.2.1.1 = ua.2.1.1 := congrArg (fun v : v_T => v.2.1) h.2.2.2
theorem lo_R.same {m : Int32} {ua ub ua1 ub1 : lo_U} (h : lo_R m ua ub) (a1 : lo_ok ua1) (a2 : lo_v ua1 = lo_v ua) (b1 : lo_ok ub1) (b2 : lo_v ub1 = lo_v ub) : lo_R m ua1 ub1 := ⟨a1, b1, by rw [a2]; exact h.2.2.1, by rw [a2, b2]; exact h.2.2.2⟩
theorem lo_len {u : lo_U} (h : lo_ok u) {i : Nat} (h1 : 1 ≤ i) (h4 : i ≤ 4) : (u.1.1.1 i).length ≤ 64 := by
  rcases (show i = 1 ∨ i = 2 ∨ i = 3 ∨ i = 4 by omega) with rfl | rfl | rfl | rfl
  · exact h.1.1.1
  · exact h.1.2.1.1
  · exact h.1.2.2.1.1
  · exact h.1.2.2.2.1
theorem lo_lg {u : lo_U} (h : lo_ok u) : (lo_v u).2.2.length ≤ 64 := h.2.1.1
/-- the place of the k-th newest key -/
theorem lo_pl {n k : Nat} (h : k < n) : nI n - 1 - nI k = nI (n - 1 - k) := by
  rw [show nI n - 1 = nI (n - 1) from pk_sub (b := 1) (by omega), pk_sub (by omega)]
theorem lo_key {m : Int32} {ua ub : lo_U} (h : lo_R m ua ub) {i k : Nat} (h1 : 1 ≤ i) (h4 : i ≤ 4) (hk : k < (ua.1.1.1 i).length) :
    s_k (k_at (ua.1.1.1 i) (nI (ua.1.1.1 i).length - 1 - nI k)) ∧ k_at (ub.1.1.1 i) (nI (ub.1.1.1 i).length - 1 - nI k) = k_at (ua.1.1.1 i) (nI (ua.1.1.1 i).length - 1 - nI k) + m := by
  have hl := lo_len h.1 h1 h4
  have hL : s_L (ua.1.1.1 i) := h.2.2.1.1.1 i
  have e : ub.1.1.1 i = s_m m (ua.1.1.1 i) := by rw [h.st]; rfl
  have hs : s_k (k_at (ua.1.1.1 i) (nI (ua.1.1.1 i).length - 1 - nI k)) := by
    rw [lo_pl hk]
    exact s_atk hL (nI_pos (by omega)) (nI_ge (by omega) (by omega))
  refine ⟨hs, ?_⟩
  rw [e, s_len, s_at hL, s_ak hs]
theorem s_pos {x : Int32} (h : s_k x) : ¬ x < 0 := by
  obtain ⟨n, hn, rfl⟩ := h
  exact nI_pos (by omega)
theorem lo_in {m : Int32} {ua ub : lo_U} (h : lo_R m ua ub) {i k : Nat} (h1 : 1 ≤ i) (h4 : i ≤ 4) (hk : k < (ua.1.1.1 i).length) : ¬ a_badPlace (ua.1.1.1 i) (nI k) ∧ ¬ a_badPlace (ub.1.1.1 i) (nI k) := by
  have hl := lo_len h.1 h1 h4
  have e : ub.1.1.1 i = s_m m (ua.1.1.1 i) := by rw [h.st]; rfl
  have hp : ∀ L : List Int32, L.length = (ua.1.1.1 i).length → ¬ a_badPlace L (nI k) := fun L hL q => by
    rcases q with q | q
    · exact nI_pos (by omega) q
    · exact q (nI_lt (by omega) (by omega))
  exact ⟨hp _ rfl, hp _ (by rw [e, s_len])⟩
theorem lo_out {m : Int32} {ua ub : lo_U} (h : lo_R m ua ub) {i k : Nat} (h1 : 1 ≤ i) (h4 : i ≤ 4) (hk : k = (ua.1.1.1 i).length) : a_badPlace (ua.1.1.1 i) (nI k) ∧ a_badPlace (ub.1.1.1 i) (nI k) := by
  have hl := lo_len h.1 h1 h4
  have e : ub.1.1.1 i = s_m m (ua.1.1.1 i) := by rw [h.st]; rfl
  have hp : ∀ L : List Int32, L.length = (ua.1.1.1 i).length → a_badPlace L (nI k) := fun L hL => Or.inr (nI_nlt (by omega) (by omega))
  exact ⟨hp _ rfl, hp _ (by rw [e, s_len])⟩
