/-! ===== methods that may throw ===== -/
/-- what a made exception takes from Throwable's statics -/
def ki_Z (A : Nat → Prop) (U : State) (H : Heap) : Prop := vx_Zq Bundle.tN "UNASSIGNED_STACK" Bundle.steD A U H ∧ vx_Zq Bundle.tN "SUPPRESSED_SENTINEL" Bundle.listD A U H
theorem ki_Z.moved {A : Nat → Prop} {u U : State} {H : Heap} (hvm : u.vm.Alike U.vm) (h : ki_Z A u H) : ki_Z A U H := ⟨vx_Zq.moved hvm h.1, vx_Zq.moved hvm h.2⟩
theorem ki_Z.kept {A : Nat → Prop} {U : State} {H H1 : Heap} (h : ki_Z A U H) (hq : ∀ a : Nat, a < H.size → ¬ A a → H1[a]? = H[a]?) : ki_Z A U H1 := ⟨h.1.kept hq, h.2.kept hq⟩
theorem ki_Z.narrow {A B : Nat → Prop} {U : State} {H : Heap} (h : ki_Z A U H) (hAB : ∀ q, B q → A q) : ki_Z B U H := ⟨h.1.narrow hAB, h.2.narrow hAB⟩
def ki_InX (D : va_G) (tys : List (ClassId × FieldType)) (av : List Value) (w0 : va_W) (sz : Nat) : Array Value → State → Prop := va_Pc av (fun U => U.heap.size = sz ∧ va_P D vwCl w0 U.heap ∧ va_K D vwCl tys U ∧ va_D (fun _ => True) w0 ∧ ki_env U ∧ ki_Z (va_A w0 sz) U U.heap)
def ki_BX (D : va_G) (tys : List (ClassId × FieldType)) (A : Nat → Prop) (w0 : va_W) (E0 : String) : String → Unit → State → Prop := fun E _ t => E = E0 ∧ va_P D vwCl w0 t.heap ∧ va_K D vwCl tys t ∧ va_D A w0
def ki_XI (l : Launch) (y : MethodName) (Ws : List Cond) (rm : Room) (mc ms : Nat) (D : va_G) (tys : List (ClassId × FieldType)) (av : List Value) (w0 : va_W) {S : Type} (post : Int32 → S → Prop) (w1 : S → va_W) (E0 : String) (bad : Prop) : Prop :=
  l.stackTraces = false → ∀ sz : Nat, vx_Met l y Ws rm (ki_InX D tys av w0 sz) (va_Qi post (ki_B D tys (va_A w0 sz) w1) (va_A w0 sz)) (vx_X (fun _ : Unit => bad) (ki_BX D tys (va_A w0 sz) w0 E0) (va_A w0 sz)) mc ms (va_A w0 sz)
def ki_XV (l : Launch) (y : MethodName) (Ws : List Cond) (rm : Room) (mc ms : Nat) (D : va_G) (tys : List (ClassId × FieldType)) (av : List Value) (w0 : va_W) {S : Type} (post : S → Prop) (w1 : S → va_W) (E0 : String) (bad : Prop) : Prop :=
  l.stackTraces = false → ∀ sz : Nat, vx_Met l y Ws rm (ki_InX D tys av w0 sz) (va_Qv post (ki_B D tys (va_A w0 sz) w1) (va_A w0 sz)) (vx_X (fun _ : Unit => bad) (ki_BX D tys (va_A w0 sz) w0 E0) (va_A w0 sz)) mc ms (va_A w0 sz)
theorem ki_blindX {D : va_G} {tys : List (ClassId × FieldType)} {av : List Value} {w0 : va_W} {sz : Nat} : FrameBlind (ki_InX D tys av w0 sz) := fun a U g mk q => by
  obtain ⟨q0, q1, qP, qK, qD, qE, qZ⟩ := q
  exact ⟨q0, q1, qP, va_K.moved (u := U) (U := U.calling g mk a) (Vm.Alike.refl U.vm) qK, qD, qE.calling, ki_Z.moved (u := U) (U := U.calling g mk a) (Vm.Alike.refl U.vm) qZ⟩
theorem ki_ofXI {l : Launch} {y : MethodName} {Ws ws' : List Cond} {rm : Room} {mc ms : Nat} {D : va_G} {tys : List (ClassId × FieldType)} {av : List Value} {w0 : va_W} {S : Type} {post : Int32 → S → Prop} {w1 : S → va_W} {E0 : String} {bad : Prop} {cc : ByteArray} {maxL : Nat} {ret : Option FieldType}
    (hy : plainName y.cls = true) (hw : Ws = Cond.code y cc maxL ret :: ws') (hn : (lg_sl av).length ≤ maxL)
    (body : ∀ (p : Program) (e : Env) (s : State) (m : MethodId) (args : Array Value) (below : List Frame) (meth : Method) (c : Code) (A : Nat → Prop) (ls : Array Slot), l.stackTraces = false → (∀ x ∈ c.exceptionTable.toList, False) → ki_Z A s s.heap → p.tables.exec = Jvm.exec → c.code = cc → meth.sig.returnType = ret → (∀ w ∈ Ws, w.before args s = true) → s.vm.findClass y.cls = some m.cls → meth.locks = false → c.maxLocals = maxL → va_K D vwCl tys s → ki_env s → va_P D vwCl w0 s.heap → va_D A w0 → (∀ q : Nat, s.heap.size ≤ q → A q) → va_S A s.heap s.heap [] → lv_has ls maxL (lv_args 0 av) →
      W p l e rm s m args below meth c s.heap [] 0 0 (vx_MQ below (va_Qi post (ki_B D tys A w1) A) (vx_X (fun _ : Unit => bad) (ki_BX D tys A w0 E0) A) args s mc ms A) (F0 m 0 ls [])) : ki_XI l y Ws rm mc ms D tys av w0 post w1 E0 bad := by
  intro hl9 sz
  refine vx_ofW (cc := cc) (maxL := maxL) (ret := ret) hy hw ?_
  intro p e s m args below meth c s₁ B hml hout hv
  obtain ⟨rfl, hsz, hP, hK, hD0, hE, hZ⟩ := hv
  subst hsz
  have hts := atoms_spec (ws := Ws) B.pre
  have hown : s.vm.findClass y.cls = some m.cls := findClass_of_methodNamed B.named
  have hl := lv_entry av (n := maxL) hn
  rw [lg_entry_eq]
  generalize (lg_sl av ++ List.replicate (maxL - (lg_sl av).length) Slot.unset).toArray = ls at hl ⊢
  exact body p e s m _ below meth c (va_A w0 s.heap.size) ls hl9 hout hZ B.exec B.bytes B.returns hts hown B.notSynchronized hml hK hE hP hD0.self (fun q h => Or.inr h) va_S.rf hl
theorem ki_ofXV {l : Launch} {y : MethodName} {Ws ws' : List Cond} {rm : Room} {mc ms : Nat} {D : va_G} {tys : List (ClassId × FieldType)} {av : List Value} {w0 : va_W} {S : Type} {post : S → Prop} {w1 : S → va_W} {E0 : String} {bad : Prop} {cc : ByteArray} {maxL : Nat} {ret : Option FieldType}
    (hy : plainName y.cls = true) (hw : Ws = Cond.code y cc maxL ret :: ws') (hn : (lg_sl av).length ≤ maxL)
    (body : ∀ (p : Program) (e : Env) (s : State) (m : MethodId) (args : Array Value) (below : List Frame) (meth : Method) (c : Code) (A : Nat → Prop) (ls : Array Slot), l.stackTraces = false → (∀ x ∈ c.exceptionTable.toList, False) → ki_Z A s s.heap → p.tables.exec = Jvm.exec → c.code = cc → meth.sig.returnType = ret → (∀ w ∈ Ws, w.before args s = true) → s.vm.findClass y.cls = some m.cls → meth.locks = false → c.maxLocals = maxL → va_K D vwCl tys s → ki_env s → va_P D vwCl w0 s.heap → va_D A w0 → (∀ q : Nat, s.heap.size ≤ q → A q) → va_S A s.heap s.heap [] → lv_has ls maxL (lv_args 0 av) →
      W p l e rm s m args below meth c s.heap [] 0 0 (vx_MQ below (va_Qv post (ki_B D tys A w1) A) (vx_X (fun _ : Unit => bad) (ki_BX D tys A w0 E0) A) args s mc ms A) (F0 m 0 ls [])) : ki_XV l y Ws rm mc ms D tys av w0 post w1 E0 bad := by
  intro hl9 sz
  refine vx_ofW (cc := cc) (maxL := maxL) (ret := ret) hy hw ?_
  intro p e s m args below meth c s₁ B hml hout hv
  obtain ⟨rfl, hsz, hP, hK, hD0, hE, hZ⟩ := hv
  subst hsz
  have hts := atoms_spec (ws := Ws) B.pre
  have hown : s.vm.findClass y.cls = some m.cls := findClass_of_methodNamed B.named
  have hl := lv_entry av (n := maxL) hn
  rw [lg_entry_eq]
  generalize (lg_sl av ++ List.replicate (maxL - (lg_sl av).length) Slot.unset).toArray = ls at hl ⊢
  exact body p e s m _ below meth c (va_A w0 s.heap.size) ls hl9 hout hZ B.exec B.bytes B.returns hts hown B.notSynchronized hml hK hE hP hD0.self (fun q h => Or.inr h) va_S.rf hl
section THROW
variable {p : Program} {l : Launch} {e : Env} {R : Room} {s : State} {m : MethodId} {args : Array Value} {below : List Frame} {meth : Method} {c : Code} {H : Heap} {locs : List Loc} {cells slots : Nat} {Q : State → Prop}
variable {D : va_G} {tys tysC : List (ClassId × FieldType)} {A : Nat → Prop} {H0 : Heap} {ws wc wr : va_W}
variable {y : MethodName} {bytes cc : ByteArray} {maxL nL mc ms n index : Nat} {ret : Option FieldType} {Wy Ts : List Cond} {rm : Room} {own C : String} {b : Addr} {As rest : List Value} {ls : Array Slot} {pc : Nat} {st0 : List Value}
theorem ki_preX {sz : Nat} (hP : va_P D vwCl ws H) (hK : va_K D vwCl tys s) (hE : ki_env s) (hZ : ki_Z A s s.heap) (hD : va_D A ws) (hS : va_S A s.heap H locs) (hA : ∀ q, s.heap.size ≤ q → A q) (isC : List Nat) (hC : isC.map (fun i => ws[i]?) = wc.map some) (hn : va_nd isC = true) (ts : List Nat) (ht : ts.filterMap (fun i => tys[i]?) = tysC) (hz : H.size = sz) {av : List Value} :
    ∀ U : State, U.heap = H → s.WarmedH U.vm → ki_InX D tysC av wc sz av.toArray U := fun U hU hW => by
  have hF := va_free (wc := wc) hD hS hA isC hC
  subst hz
  exact ⟨rfl, by rw [hU], by rw [hU]; exact ki_P hP isC hC, va_K.moved hW.alike (hK.sub ts ht), (hD.sub isC hn hC).weaken (fun _ _ _ _ => trivial), hE.warm hW, by rw [hU]; exact ki_Z.moved hW.alike ((hZ.kept hS.2.1).narrow hF)⟩
/-- throw new E0("text") -/
theorem ki_thr {Qc : Array Value → State → Outcome → State → Prop} {text E0 : String} {ik is ic MC MS : Nat} {bad : Prop} (hx : p.tables.exec = Jvm.exec) (hb : c.code = cc) (hl9 : l.stackTraces = false) (hown : s.vm.findClass own = some m.cls) (hcls : Bundle.fit E0 = true)
    (hk : (Cond.classLink own ik E0).before args s = true) (hini : (Cond.initialized E0).before args s = true) (hstr : ∃ a, vk_R own is text a s) (hat : ∀ w ∈ (vx_atS own ic E0 ["java/lang/RuntimeException", "java/lang/Exception"]).filter goodWord, w.before args s = true)
    (hB : ∀ w ∈ (vx_atS own ic E0 ["java/lang/RuntimeException", "java/lang/Exception"]).filter (fun w => !goodWord w), w ∈ [Cond.castable E0 E0, .declares (Bundle.initS "java/lang/RuntimeException"), .declares (Bundle.initS "java/lang/Exception"), .declares (Bundle.initS Bundle.tN)]) (hcast : va_Nw (.castable E0 E0) s) (hdecl : ki_decl s)
    (hgood : ∀ w ∈ Cond.classLink own ik E0 :: Cond.initialized E0 :: vx_atS own ic E0 ["java/lang/RuntimeException", "java/lang/Exception"], vx_ot w = true)
    (hZ : ki_Z A s s.heap) (hS : va_S A s.heap H locs) (hsize : ls.size = c.maxLocals)
    (d0 : decode cc pc = .ok (.new ik, 3)) (d3 : decode cc (pc + 3) = .ok (.dup, 1)) (d4 : decode cc (pc + 4) = .ok (.ldc is, 2)) (d6 : decode cc (pc + 6) = .ok (.invokespecial ic, 3)) (d9 : decode cc (pc + 9) = .ok (.athrow, 1))
    (hout : ∀ x ∈ c.exceptionTable.toList, False) (hRf : 5 < R.frames) (hRl : (rest.map fun v => v.category).sum + 82 ≤ R.locals) (hRc : cells + 1 ≤ R.cells) (hRs : slots + 6 ≤ R.slots) (hlk : meth.locks = false) (hbad : bad)
    (hK : va_K D vwCl tys s) (hP : va_P D vwCl ws H) (hD : va_D A ws) (hc : cells + 1 ≤ MC) (hs : slots + 6 ≤ MS) :
    W p l e R s m args below meth c H locs cells slots (vx_MQ below Qc (vx_X (fun _ : Unit => bad) (ki_BX D tys A ws E0) A) args s MC MS A) (F0 m pc ls rest) := by
  obtain ⟨a, hstr⟩ := hstr
  exact vx_throwS (names := ["java/lang/RuntimeException", "java/lang/Exception"]) (text := text) (sa := a) (A := A) hx hb hl9 hown hcls (by decide +kernel) hk hini hstr (vx_hat hat hB (vx_c (va_Nw.use rfl hcast) (vx_c (va_Nw.use rfl hdecl.1) (vx_c (va_Nw.use rfl hdecl.2.1) (vx_c (va_Nw.use rfl hdecl.2.2) vx_n))))) hgood hZ.1 hZ.2 hS hsize d0 d3 d4 d6 d9 (fun x hx9 => (hout x hx9).elim) hRf hRl hRc hRs hlk
    (fun t hvm hz hq => ⟨(), hbad, ⟨rfl, hP.kept (fun k x hk => hq x.1 (hP k x hk).lt), va_K.moved hvm hK, hD⟩, ⟨Nat.le_trans hS.1 hz, fun q h1 h2 => (hq q (Nat.lt_of_lt_of_le h1 hS.1)).trans (hS.2.1 q h1 h2)⟩⟩) hS.2.2 hc hs
/-- behind a call that may throw, no handler here -/
theorem ki_kx {Qc : Array Value → State → Outcome → State → Prop} {E0 : String} {MC MS : Nat} {bad badC : Prop} {px : List Nat} (hP : va_P D vwCl ws H) (hD : va_D A ws) (hK : va_K D vwCl tys s) (isC isR : List Nat) (hC : isC.map (fun i => ws[i]?) = wc.map some) (hR : isR.map (fun i => ws[i]?) = wr.map some) (hnR : va_nd isR = true) (hdis : ∀ i ∈ isR, i ∉ isC)
    (hF : ∀ q, va_A wc H.size q → A q) (hpx : px.map (fun i => (wr ++ wc)[i]?) = ws.map some) (hpxn : va_nd px = true) (hout : ∀ x ∈ c.exceptionTable.toList, False) (hlk : meth.locks = false) (hbad : badC → bad) (hc : cells ≤ MC) (hs : slots ≤ MS)
    (E : String) (ce : Cell) (q9 : Addr) (u : Unit) (t : State) (H1 : Heap) (locs1 : List Loc) (ht : t.heap = H1) (hu : badC) (hB : ki_BX D tysC (va_A wc H.size) wc E0 E u t) (hk1 : ∀ q : Nat, q < H.size → ¬ va_A wc H.size q → H1[q]? = H[q]?) (hS1 : va_S A s.heap H1 locs1) (hce : H1[q9]? = some ce) (hv : ce.vm = .none) (hcl : s.vm.findClass E = some ce.cls) :
    vx_W p l e R s m args below meth c H1 locs1 cells slots (vx_MQ below Qc (vx_X (fun _ : Unit => bad) (ki_BX D tys A ws E0) A) args s MC MS A) (F0 m pc ls rest) q9 := by
  obtain ⟨hE0, hP1, hK1, hD1⟩ := hB
  obtain ⟨hP2, hD2⟩ := ki_back (w1 := fun _ : Unit => wc) (w2 := fun _ : Unit => ws) (u := ()) hP hD isC isR hC hR hnR hdis hF px hpx hpxn ht ⟨hP1, hK1, hD1⟩ hk1
  exact vx_out (E := E) (ce := ce) (fun x hx => (hout x hx).elim) hlk hce hv hcl (fun t' ht' hvm => ⟨(), hbad hu, ⟨hE0, by rw [ht']; exact hP2, va_K.moved hvm hK, hD2⟩, hS1.F ht'⟩) hS1.2.2 hc hs
theorem ki_cSXV {Qc : Array Value → State → Outcome → State → Prop} {S : Type} {post : S → Prop} {w1 : S → va_W} {E0 : String} {bad badC : Prop} {MC MS : Nat} (Sx : CallFix p m c cc nL s args Ts own) (hl9 : l.stackTraces = false) (hM : ki_XV l y Wy rm mc ms D tysC As wc post w1 E0 badC) (cw : CallB R s args own index y bytes maxL ret Wy rm mc ms n ∧ (Cond.static y).before args s = true)
    (hK : va_K D vwCl tys s) (hE : ki_env s) (hZ : ki_Z A s s.heap) (hP : va_P D vwCl ws H) (hD : va_D A ws) (hS : va_S A s.heap H locs) (hA : ∀ q, s.heap.size ≤ q → A q) (ts : List Nat) (ht : ts.filterMap (fun i => tys[i]?) = tysC)
    (isC isR : List Nat) (hC : isC.map (fun i => ws[i]?) = wc.map some) (hnC : va_nd isC = true) (hR : isR.map (fun i => ws[i]?) = wr.map some) (hnR : va_nd isR = true) (hdis : ∀ i ∈ isR, i ∉ isC)
    (hn : As.length = n) (hsize : ls.size = nL) (hst : st0 = As.reverse ++ rest) (hroom : (rest.map fun v => v.category).sum ≤ 8) (hdg : decode cc pc = .ok (.invokestatic index, 3)) (hf : cells + mc ≤ R.cells ∧ slots + ms ≤ R.slots)
    (hout : ∀ x ∈ c.exceptionTable.toList, False) (hlk : meth.locks = false) (hbad : badC → bad) (hc : cells + mc ≤ MC) (hs : slots + ms ≤ MS) (px : List Nat) (hpx : px.map (fun i => (wr ++ wc)[i]?) = ws.map some) (hpxn : va_nd px = true)
    (perm : List Nat) (w2 : S → va_W) (hperm : ∀ u, perm.map (fun i => (wr ++ w1 u)[i]?) = (w2 u).map some) (hpn : va_nd perm = true)
    (kk : ∀ (u : S) (H1 : Heap) (locs1 : List Loc), post u → va_P D vwCl (w2 u) H1 → va_D A (w2 u) → va_S A s.heap H1 locs1 → W p l e R s m args below meth c H1 locs1 (cells + mc) (slots + ms) (vx_MQ below Qc (vx_X (fun _ : Unit => bad) (ki_BX D tys A ws E0) A) args s MC MS A) (F0 m (pc + 3) ls rest)) :
    W p l e R s m args below meth c H locs cells slots (vx_MQ below Qc (vx_X (fun _ : Unit => bad) (ki_BX D tys A ws E0) A) args s MC MS A) (F0 m pc ls st0) := by
  have hF := va_free (wc := wc) hD hS hA isC hC
  refine vx_callv (vx_runS Sx (hM hl9 H.size) cw ⟨ki_blindX, ki_preX hP hK hE hZ hD hS hA isC hC hnC ts ht rfl⟩ rfl hn hsize hst (lv_room hroom) hdg hf) hS (fun q _ h => hF q h) hF (fun q _ h => hF q h) ?_ ?_
  · intro E ce q9 u t H1 locs1 ht9 hvm hu hB hz1 hk1 hS1 hce hv hcl
    exact ki_kx hP hD hK isC isR hC hR hnR hdis hF hpx hpxn hout hlk hbad hc hs E ce q9 u t H1 locs1 ht9 hu hB hk1 hS1 hce hv hcl
  · intro u t H1 locs1 ht9 hvm hw hB hz1 hk1 hS1
    obtain ⟨hP2, hD2⟩ := ki_back hP hD isC isR hC hR hnR hdis hF perm (hperm u) hpn ht9 hB hk1
    exact kk u H1 locs1 hw hP2 hD2 hS1
theorem ki_cSXI {Qc : Array Value → State → Outcome → State → Prop} {S : Type} {post : Int32 → S → Prop} {w1 : S → va_W} {E0 : String} {bad badC : Prop} {MC MS : Nat} (Sx : CallFix p m c cc nL s args Ts own) (hl9 : l.stackTraces = false) (hM : ki_XI l y Wy rm mc ms D tysC As wc post w1 E0 badC) (cw : CallB R s args own index y bytes maxL ret Wy rm mc ms n ∧ (Cond.static y).before args s = true)
    (hK : va_K D vwCl tys s) (hE : ki_env s) (hZ : ki_Z A s s.heap) (hP : va_P D vwCl ws H) (hD : va_D A ws) (hS : va_S A s.heap H locs) (hA : ∀ q, s.heap.size ≤ q → A q) (ts : List Nat) (ht : ts.filterMap (fun i => tys[i]?) = tysC)
    (isC isR : List Nat) (hC : isC.map (fun i => ws[i]?) = wc.map some) (hnC : va_nd isC = true) (hR : isR.map (fun i => ws[i]?) = wr.map some) (hnR : va_nd isR = true) (hdis : ∀ i ∈ isR, i ∉ isC)
    (hn : As.length = n) (hsize : ls.size = nL) (hst : st0 = As.reverse ++ rest) (hroom : (rest.map fun v => v.category).sum ≤ 8) (hdg : decode cc pc = .ok (.invokestatic index, 3)) (hf : cells + mc ≤ R.cells ∧ slots + ms ≤ R.slots)
    (hout : ∀ x ∈ c.exceptionTable.toList, False) (hlk : meth.locks = false) (hbad : badC → bad) (hc : cells + mc ≤ MC) (hs : slots + ms ≤ MS) (px : List Nat) (hpx : px.map (fun i => (wr ++ wc)[i]?) = ws.map some) (hpxn : va_nd px = true)
    (perm : List Nat) (w2 : S → va_W) (hperm : ∀ u, perm.map (fun i => (wr ++ w1 u)[i]?) = (w2 u).map some) (hpn : va_nd perm = true)
    (kk : ∀ (r : Int32) (u : S) (H1 : Heap) (locs1 : List Loc), post r u → va_P D vwCl (w2 u) H1 → va_D A (w2 u) → va_S A s.heap H1 locs1 → W p l e R s m args below meth c H1 locs1 (cells + mc) (slots + ms) (vx_MQ below Qc (vx_X (fun _ : Unit => bad) (ki_BX D tys A ws E0) A) args s MC MS A) (F0 m (pc + 3) ls (.int r :: rest))) :
    W p l e R s m args below meth c H locs cells slots (vx_MQ below Qc (vx_X (fun _ : Unit => bad) (ki_BX D tys A ws E0) A) args s MC MS A) (F0 m pc ls st0) := by
  have hF := va_free (wc := wc) hD hS hA isC hC
  refine vx_calli (vx_runS Sx (hM hl9 H.size) cw ⟨ki_blindX, ki_preX hP hK hE hZ hD hS hA isC hC hnC ts ht rfl⟩ rfl hn hsize hst (lv_room hroom) hdg hf) hS (fun q _ h => hF q h) hF (fun q _ h => hF q h) ?_ ?_
  · intro E ce q9 u t H1 locs1 ht9 hvm hu hB hz1 hk1 hS1 hce hv hcl
    exact ki_kx hP hD hK isC isR hC hR hnR hdis hF hpx hpxn hout hlk hbad hc hs E ce q9 u t H1 locs1 ht9 hu hB hk1 hS1 hce hv hcl
  · intro r u t H1 locs1 ht9 hvm hw hB hz1 hk1 hS1
    obtain ⟨hP2, hD2⟩ := ki_back hP hD isC isR hC hR hnR hdis hF perm (hperm u) hpn ht9 hB hk1
    exact kk r u H1 locs1 hw hP2 hD2 hS1
end THROW
