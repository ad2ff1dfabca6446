/-! ===== a cache of the class as the law holds it: its 23 cells; the law's private methods over it ===== -/
abbrev lo_U : Type := (ki_St × (Nat → Nat → Int32)) × ((Nat → Int32) × (List Int32 × (Nat → Int32))) × (ki_St × (Nat → Nat → Int32)) × (List Int32 × (Nat → Int32))
def lo_w (cy : ClassId) (x lh lk ph pk : Nat) (q qt : Nat → Nat) (u : lo_U) : va_W := [(x, .inr (2, [.ref (q 0), .ref lh, .int (u.2.1.1 0), .int (u.2.1.1 1), .int (u.2.1.1 2), .int (u.2.1.1 3), .ref (qt 0), .ref ph])), (q 0, .inr (0, [.ref (q 1), .ref (q 2), .ref (q 3), .ref (q 4), .int (u.1.1.2 6), .int (u.1.1.2 5), .int (u.1.1.2 7), .int (u.1.1.2 8), .int (u.1.1.2 9), .int (u.1.1.2 10)])), (q 1, .inr (1, [.ref (q 5), .int (nI (u.1.1.1 1).length)])), (q 2, .inr (1, [.ref (q 6), .int (nI (u.1.1.1 2).length)])), (q 3, .inr (1, [.ref (q 7), .int (nI (u.1.1.1 3).length)])), (q 4, .inr (1, [.ref (q 8), .int (nI (u.1.1.1 4).length)])), (q 5, .inl (cy, 64, .inl (u.1.2 1))), (q 6, .inl (cy, 64, .inl (u.1.2 2))), (q 7, .inl (cy, 64, .inl (u.1.2 3))), (q 8, .inl (cy, 64, .inl (u.1.2 4))), (lh, .inr (1, [.ref lk, .int (nI u.2.1.2.1.length)])), (lk, .inl (cy, 64, .inl u.2.1.2.2)), (qt 0, .inr (0, [.ref (qt 1), .ref (qt 2), .ref (qt 3), .ref (qt 4), .int (u.2.2.1.1.2 6), .int (u.2.2.1.1.2 5), .int (u.2.2.1.1.2 7), .int (u.2.2.1.1.2 8), .int (u.2.2.1.1.2 9), .int (u.2.2.1.1.2 10)])), (qt 1, .inr (1, [.ref (qt 5), .int (nI (u.2.2.1.1.1 1).length)])), (qt 2, .inr (1, [.ref (qt 6), .int (nI (u.2.2.1.1.1 2).length)])), (qt 3, .inr (1, [.ref (qt 7), .int (nI (u.2.2.1.1.1 3).length)])), (qt 4, .inr (1, [.ref (qt 8), .int (nI (u.2.2.1.1.1 4).length)])), (qt 5, .inl (cy, 64, .inl (u.2.2.1.2 1))), (qt 6, .inl (cy, 64, .inl (u.2.2.1.2 2))), (qt 7, .inl (cy, 64, .inl (u.2.2.1.2 3))), (qt 8, .inl (cy, 64, .inl (u.2.2.1.2 4))), (ph, .inr (1, [.ref pk, .int (nI u.2.2.2.1.length)])), (pk, .inl (cy, 64, .inl u.2.2.2.2))]
def lo_ok (u : lo_U) : Prop := ki_reps u.1.2 u.1.1.1 ∧ ki_rep u.2.1.2.2 u.2.1.2.1 ∧ ki_reps u.2.2.1.2 u.2.2.1.1.1 ∧ ki_rep u.2.2.2.2 u.2.2.2.1
def lo_v (u : lo_U) : v_T := (u.1.1, u.2.1.1, u.2.1.2.1)
def kw_I (l : Launch) (y : MethodName) (Ws : List Cond) (rm : Room) (mc ms : Nat) (D : va_G) (tys : List (ClassId × FieldType)) (av : List Value) (w0 : va_W) {S : Type} (post : Int32 → S → Prop) (w1 : S → va_W) : Prop :=
  ∀ sz : Nat, vx_Met l y Ws rm (ki_InX D tys av w0 sz) (va_Qi post (ki_B D tys (va_A w0 sz) w1) (va_A w0 sz)) (vx_X (fun _ : Unit => False) (ki_BX D tys (va_A w0 sz) w0 "") (va_A w0 sz)) mc ms (va_A w0 sz)
/-- the answer is r', the cache's value behind the call is v' -/
def lo_C (l : Launch) (y : MethodName) (Ws : List Cond) (rm : Room) (mc ms : Nat) (D : va_G) (cy : ClassId) (x lh lk ph pk : Nat) (q qt : Nat → Nat) (av : List Value) (u : lo_U) (r' : Int32) (v' : v_T) : Prop :=
  kw_I l y Ws rm mc ms D [(cy, .int)] av (lo_w cy x lh lk ph pk q qt u) (S := lo_U) (fun r u' => r = r' ∧ lo_ok u' ∧ lo_v u' = v') (fun u' => lo_w cy x lh lk ph pk q qt u')
theorem kw_ofH {l : Launch} {y : MethodName} {Ws ws' : List Cond} {rm : Room} {mc ms : Nat} {D : va_G} {tys : List (ClassId × FieldType)} {av : List Value} {w0 : va_W} {S : Type} {post : Int32 → S → Prop} {w1 : S → va_W} {cc : ByteArray} {maxL a b h ct : Nat} {ret : Option FieldType}
    (hy : plainName y.cls = true) (hw : Ws = Cond.codeWith y cc maxL ret [(a, b, h, ct)] :: ws') (hn : (lg_sl av).length ≤ maxL)
    (body : ∀ (p : Program) (e : Env) (s : State) (m : MethodId) (args : Array Value) (below : List Frame) (meth : Method) (c : Code) (A : Nat → Prop) (ls : Array Slot), c.exceptionTable.toList = [] ++ (⟨a, b, h, ct⟩ : ExceptionTableEntry) :: [] → ki_Z A s s.heap → p.tables.exec = Jvm.exec → c.code = cc → meth.sig.returnType = ret → (∀ w ∈ Ws, w.before args s = true) → s.vm.findClass y.cls = some m.cls → meth.locks = false → c.maxLocals = maxL → va_K D vwCl tys s → ki_env s → va_P D vwCl w0 s.heap → va_D A w0 → (∀ q : Nat, s.heap.size ≤ q → A q) → va_S A s.heap s.heap [] → lv_has ls maxL (lv_args 0 av) →
      W p l e rm s m args below meth c s.heap [] 0 0 (vx_MQ below (va_Qi post (ki_B D tys A w1) A) (vx_X (fun _ : Unit => False) (ki_BX D tys A w0 "") A) args s mc ms A) (F0 m 0 ls [])) : kw_I l y Ws rm mc ms D tys av w0 post w1 := by
  intro sz
  refine vx_ofWH (cc := cc) (maxL := maxL) (ret := ret) (hh := [(a, b, h, ct)]) hy hw ?_
  intro p e s m args below meth c s₁ B hml hv
  obtain ⟨rfl, hsz, hP, hK, hD0, hE, hZ⟩ := hv
  subst hsz
  have hts := atoms_spec (ws := Ws) B.pre
  have hown : s.vm.findClass y.cls = some m.cls := findClass_of_methodNamed B.named
  have htab : c.exceptionTable.toList = [] ++ (⟨a, b, h, ct⟩ : ExceptionTableEntry) :: [] := by
    have h9 := vx_table (x := y) B (show (Cond.codeWith y cc maxL ret [(a, b, h, ct)]).before _ s = true from hts _ (by rw [hw]; exact List.mem_cons_self))
    exact h9
  have hl := lv_entry av (n := maxL) hn
  rw [lg_entry_eq]
  generalize (lg_sl av ++ List.replicate (maxL - (lg_sl av).length) Slot.unset).toArray = ls at hl ⊢
  exact body p e s m _ below meth c (va_A w0 s.heap.size) ls htab hZ B.exec B.bytes B.returns hts hown B.notSynchronized hml hK hE hP hD0.self (fun q h => Or.inr h) va_S.rf hl
theorem kw_ofN {l : Launch} {y : MethodName} {Ws ws' : List Cond} {rm : Room} {mc ms : Nat} {D : va_G} {tys : List (ClassId × FieldType)} {av : List Value} {w0 : va_W} {S : Type} {post : Int32 → S → Prop} {w1 : S → va_W} {cc : ByteArray} {maxL : Nat} {ret : Option FieldType}
    (hy : plainName y.cls = true) (hw : Ws = Cond.code y cc maxL ret :: ws') (hn : (lg_sl av).length ≤ maxL)
    (body : ∀ (p : Program) (e : Env) (s : State) (m : MethodId) (args : Array Value) (below : List Frame) (meth : Method) (c : Code) (A : Nat → Prop) (ls : Array Slot), (∀ x ∈ c.exceptionTable.toList, False) → ki_Z A s s.heap → p.tables.exec = Jvm.exec → c.code = cc → meth.sig.returnType = ret → (∀ w ∈ Ws, w.before args s = true) → s.vm.findClass y.cls = some m.cls → meth.locks = false → c.maxLocals = maxL → va_K D vwCl tys s → ki_env s → va_P D vwCl w0 s.heap → va_D A w0 → (∀ q : Nat, s.heap.size ≤ q → A q) → va_S A s.heap s.heap [] → lv_has ls maxL (lv_args 0 av) →
      W p l e rm s m args below meth c s.heap [] 0 0 (vx_MQ below (va_Qi post (ki_B D tys A w1) A) (vx_X (fun _ : Unit => False) (ki_BX D tys A w0 "") A) args s mc ms A) (F0 m 0 ls [])) : kw_I l y Ws rm mc ms D tys av w0 post w1 := by
  intro sz
  refine vx_ofW (cc := cc) (maxL := maxL) (ret := ret) hy hw ?_
  intro p e s m args below meth c s₁ B hml hout hv
  obtain ⟨rfl, hsz, hP, hK, hD0, hE, hZ⟩ := hv
  subst hsz
  have hts := atoms_spec (ws := Ws) B.pre
  have hown : s.vm.findClass y.cls = some m.cls := findClass_of_methodNamed B.named
  have hl := lv_entry av (n := maxL) hn
  rw [lg_entry_eq]
  generalize (lg_sl av ++ List.replicate (maxL - (lg_sl av).length) Slot.unset).toArray = ls at hl ⊢
  exact body p e s m _ below meth c (va_A w0 s.heap.size) ls hout hZ B.exec B.bytes B.returns hts hown B.notSynchronized hml hK hE hP hD0.self (fun q h => Or.inr h) va_S.rf hl
