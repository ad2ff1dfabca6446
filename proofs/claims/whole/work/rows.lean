section
-- ===== PART A: goes FIRST, ahead of the names: the tables' words, and 'selects' of the private methods out of them =====
/-- a private method of a class that the tables say can be made, by its rows of tables_1 -/
def lw_okq (q : MethodName × Nat) : Prop := (q.1.cls ≠ "java/lang/invoke/MethodHandle" ∧ q.1.cls ≠ "java/lang/invoke/VarHandle") ∧ Cond.instantiable q.1.cls q.2 ∈ tables_1 ∧ Cond.privateMethod q.1 ∈ tables_1 ∧ Cond.instanceMethod q.1 ∈ tables_1
theorem lw_p0 : lw_okq (⟨"AdaptiveReplacementCache$Cache", "dropsRecentPage", "()Z"⟩, 10) := ⟨⟨by decide +kernel, by decide +kernel⟩, List.mem_of_getElem? (i := 20) (by decide +kernel), List.mem_of_getElem? (i := 152) (by decide +kernel), List.mem_of_getElem? (i := 153) (by decide +kernel)⟩
theorem lw_p1 : lw_okq (⟨"AdaptiveReplacementCache$Cache", "recentAndGhosts", "()I"⟩, 10) := ⟨⟨by decide +kernel, by decide +kernel⟩, List.mem_of_getElem? (i := 20) (by decide +kernel), List.mem_of_getElem? (i := 156) (by decide +kernel), List.mem_of_getElem? (i := 157) (by decide +kernel)⟩
theorem lw_p2 : lw_okq (⟨"AdaptiveReplacementCache$Cache", "isFull", "()Z"⟩, 10) := ⟨⟨by decide +kernel, by decide +kernel⟩, List.mem_of_getElem? (i := 20) (by decide +kernel), List.mem_of_getElem? (i := 168) (by decide +kernel), List.mem_of_getElem? (i := 169) (by decide +kernel)⟩
theorem lw_p3 : lw_okq (⟨"AdaptiveReplacementCache$Cache", "evictsRecentPage", "(Z)Z"⟩, 10) := ⟨⟨by decide +kernel, by decide +kernel⟩, List.mem_of_getElem? (i := 20) (by decide +kernel), List.mem_of_getElem? (i := 172) (by decide +kernel), List.mem_of_getElem? (i := 173) (by decide +kernel)⟩
theorem lw_p4 : lw_okq (⟨"java/lang/Throwable", "fillInStackTrace", "(I)Ljava/lang/Throwable;"⟩, 6) := ⟨⟨by decide +kernel, by decide +kernel⟩, List.mem_of_getElem? (i := 261) (by decide +kernel), List.mem_of_getElem? (i := 259) (by decide +kernel), List.mem_of_getElem? (i := 260) (by decide +kernel)⟩
theorem lw_p5 : lw_okq (⟨"AdaptiveReplacementCache", "addToLog", "(I)V"⟩, 8) := ⟨⟨by decide +kernel, by decide +kernel⟩, List.mem_of_getElem? (i := 12) (by decide +kernel), List.mem_of_getElem? (i := 291) (by decide +kernel), List.mem_of_getElem? (i := 292) (by decide +kernel)⟩
theorem lw_p6 : lw_okq (⟨"AdaptiveReplacementCache$KeyList", "closeGap", "(I)V"⟩, 2) := ⟨⟨by decide +kernel, by decide +kernel⟩, List.mem_of_getElem? (i := 26) (by decide +kernel), List.mem_of_getElem? (i := 299) (by decide +kernel), List.mem_of_getElem? (i := 300) (by decide +kernel)⟩
theorem lw_p7 : lw_okq (⟨"AdaptiveReplacementCache$Cache", "lengthenRun", "(I)V"⟩, 10) := ⟨⟨by decide +kernel, by decide +kernel⟩, List.mem_of_getElem? (i := 20) (by decide +kernel), List.mem_of_getElem? (i := 311) (by decide +kernel), List.mem_of_getElem? (i := 312) (by decide +kernel)⟩
theorem lw_p8 : lw_okq (⟨"AdaptiveReplacementCache$KeyList", "indexOf", "(I)I"⟩, 2) := ⟨⟨by decide +kernel, by decide +kernel⟩, List.mem_of_getElem? (i := 26) (by decide +kernel), List.mem_of_getElem? (i := 323) (by decide +kernel), List.mem_of_getElem? (i := 324) (by decide +kernel)⟩
theorem lw_p9 : lw_okq (⟨"AdaptiveReplacementCache$Cache", "admit", "(I)V"⟩, 10) := ⟨⟨by decide +kernel, by decide +kernel⟩, List.mem_of_getElem? (i := 20) (by decide +kernel), List.mem_of_getElem? (i := 330) (by decide +kernel), List.mem_of_getElem? (i := 331) (by decide +kernel)⟩
theorem lw_p10 : lw_okq (⟨"AdaptiveReplacementCache$Cache", "keysInAll", "()I"⟩, 10) := ⟨⟨by decide +kernel, by decide +kernel⟩, List.mem_of_getElem? (i := 20) (by decide +kernel), List.mem_of_getElem? (i := 335) (by decide +kernel), List.mem_of_getElem? (i := 336) (by decide +kernel)⟩
theorem lw_p11 : lw_okq (⟨"AdaptiveReplacementCache$Cache", "makeRoom", "(Z)V"⟩, 10) := ⟨⟨by decide +kernel, by decide +kernel⟩, List.mem_of_getElem? (i := 20) (by decide +kernel), List.mem_of_getElem? (i := 339) (by decide +kernel), List.mem_of_getElem? (i := 340) (by decide +kernel)⟩
theorem lw_p12 : lw_okq (⟨"AdaptiveReplacementCache$Cache", "evict", "(Z)V"⟩, 10) := ⟨⟨by decide +kernel, by decide +kernel⟩, List.mem_of_getElem? (i := 20) (by decide +kernel), List.mem_of_getElem? (i := 343) (by decide +kernel), List.mem_of_getElem? (i := 344) (by decide +kernel)⟩
theorem lw_p13 : lw_okq (⟨"AdaptiveReplacementCache$Cache", "adaptTarget", "(I)V"⟩, 10) := ⟨⟨by decide +kernel, by decide +kernel⟩, List.mem_of_getElem? (i := 20) (by decide +kernel), List.mem_of_getElem? (i := 348) (by decide +kernel), List.mem_of_getElem? (i := 349) (by decide +kernel)⟩
theorem lw_p14 : lw_okq (⟨"AdaptiveReplacementCache$Cache", "takeFrom", "(II)V"⟩, 10) := ⟨⟨by decide +kernel, by decide +kernel⟩, List.mem_of_getElem? (i := 20) (by decide +kernel), List.mem_of_getElem? (i := 361) (by decide +kernel), List.mem_of_getElem? (i := 362) (by decide +kernel)⟩
theorem lw_p15 : lw_okq (⟨"AdaptiveReplacementCache", "count", "(I)V"⟩, 8) := ⟨⟨by decide +kernel, by decide +kernel⟩, List.mem_of_getElem? (i := 12) (by decide +kernel), List.mem_of_getElem? (i := 369) (by decide +kernel), List.mem_of_getElem? (i := 370) (by decide +kernel)⟩
def lw_privs_1 : List (MethodName × Nat) := [(⟨"AdaptiveReplacementCache$Cache", "dropsRecentPage", "()Z"⟩, 10), (⟨"AdaptiveReplacementCache$Cache", "recentAndGhosts", "()I"⟩, 10), (⟨"AdaptiveReplacementCache$Cache", "isFull", "()Z"⟩, 10), (⟨"AdaptiveReplacementCache$Cache", "evictsRecentPage", "(Z)Z"⟩, 10), (⟨"java/lang/Throwable", "fillInStackTrace", "(I)Ljava/lang/Throwable;"⟩, 6), (⟨"AdaptiveReplacementCache", "addToLog", "(I)V"⟩, 8), (⟨"AdaptiveReplacementCache$KeyList", "closeGap", "(I)V"⟩, 2), (⟨"AdaptiveReplacementCache$Cache", "lengthenRun", "(I)V"⟩, 10), (⟨"AdaptiveReplacementCache$KeyList", "indexOf", "(I)I"⟩, 2), (⟨"AdaptiveReplacementCache$Cache", "admit", "(I)V"⟩, 10), (⟨"AdaptiveReplacementCache$Cache", "keysInAll", "()I"⟩, 10), (⟨"AdaptiveReplacementCache$Cache", "makeRoom", "(Z)V"⟩, 10), (⟨"AdaptiveReplacementCache$Cache", "evict", "(Z)V"⟩, 10), (⟨"AdaptiveReplacementCache$Cache", "adaptTarget", "(I)V"⟩, 10), (⟨"AdaptiveReplacementCache$Cache", "takeFrom", "(II)V"⟩, 10), (⟨"AdaptiveReplacementCache", "count", "(I)V"⟩, 8)]
theorem lw_r1 : ∀ q ∈ lw_privs_1, lw_okq q := List.forall_mem_cons.mpr ⟨lw_p0, List.forall_mem_cons.mpr ⟨lw_p1, List.forall_mem_cons.mpr ⟨lw_p2, List.forall_mem_cons.mpr ⟨lw_p3, List.forall_mem_cons.mpr ⟨lw_p4, List.forall_mem_cons.mpr ⟨lw_p5, List.forall_mem_cons.mpr ⟨lw_p6, List.forall_mem_cons.mpr ⟨lw_p7, List.forall_mem_cons.mpr ⟨lw_p8, List.forall_mem_cons.mpr ⟨lw_p9, List.forall_mem_cons.mpr ⟨lw_p10, List.forall_mem_cons.mpr ⟨lw_p11, List.forall_mem_cons.mpr ⟨lw_p12, List.forall_mem_cons.mpr ⟨lw_p13, List.forall_mem_cons.mpr ⟨lw_p14, List.forall_mem_cons.mpr ⟨lw_p15, fun _ h => absurd h List.not_mem_nil⟩⟩⟩⟩⟩⟩⟩⟩⟩⟩⟩⟩⟩⟩⟩⟩
theorem lw_p16 : lw_okq (⟨"AdaptiveReplacementCacheModel", "asked", "(Z)Z"⟩, 10) := ⟨⟨by decide +kernel, by decide +kernel⟩, List.mem_of_getElem? (i := 490) (by decide +kernel), List.mem_of_getElem? (i := 538) (by decide +kernel), List.mem_of_getElem? (i := 539) (by decide +kernel)⟩
theorem lw_p17 : lw_okq (⟨"AdaptiveReplacementCacheModel", "told", "(I)I"⟩, 10) := ⟨⟨by decide +kernel, by decide +kernel⟩, List.mem_of_getElem? (i := 490) (by decide +kernel), List.mem_of_getElem? (i := 603) (by decide +kernel), List.mem_of_getElem? (i := 604) (by decide +kernel)⟩
theorem lw_p18 : lw_okq (⟨"AdaptiveReplacementCacheModel", "newest", "(II)I"⟩, 10) := ⟨⟨by decide +kernel, by decide +kernel⟩, List.mem_of_getElem? (i := 490) (by decide +kernel), List.mem_of_getElem? (i := 651) (by decide +kernel), List.mem_of_getElem? (i := 652) (by decide +kernel)⟩
def lw_privs_2 : List (MethodName × Nat) := [(⟨"AdaptiveReplacementCacheModel", "asked", "(Z)Z"⟩, 10), (⟨"AdaptiveReplacementCacheModel", "told", "(I)I"⟩, 10), (⟨"AdaptiveReplacementCacheModel", "newest", "(II)I"⟩, 10)]
theorem lw_r2 : ∀ q ∈ lw_privs_2, lw_okq q := List.forall_mem_cons.mpr ⟨lw_p16, List.forall_mem_cons.mpr ⟨lw_p17, List.forall_mem_cons.mpr ⟨lw_p18, fun _ h => absurd h List.not_mem_nil⟩⟩⟩
def lw_privs : List (MethodName × Nat) := lw_privs_1 ++ (lw_privs_2)
def lw_tbl : List Cond := k2_sels lw_privs ++ tables_1
theorem lw_privs_ok : ∀ q ∈ lw_privs, lw_okq q := by
  show ∀ q ∈ lw_privs_1 ++ (lw_privs_2), lw_okq q
  exact List.forall_mem_append.mpr ⟨lw_r1, lw_r2⟩
end
section
/-! ===== BEGIN words of one list among another's, by their places ===== -/
theorem goodIn_r {big : List Cond} (ws : List Cond) (ps : List Nat) (hp : ws = ps.filterMap (fun i => big[i]?)) (h : ws.all goodWord = true) : GoodIn big ws := by
  intro w hw
  have h1 := List.all_eq_true.mp h w hw
  rw [hp] at hw
  obtain ⟨i, -, hi⟩ := List.mem_filterMap.mp hw
  have hm : w ∈ big := by first | exact List.mem_of_getElem? hi | exact List.getElem?_mem hi
  exact ⟨hm, good_of_word h1⟩
theorem goodIn_app {big a b : List Cond} (ha : GoodIn big a) (hb : GoodIn big b) : GoodIn big (a ++ b) := fun w h => (List.mem_append.mp h).elim (ha w) (hb w)
theorem goodIn_ca {big a b : List Cond} {c : Cond} (ha : GoodIn big (c :: a)) (hb : GoodIn big b) : GoodIn big (c :: (a ++ b)) := fun w h => (List.mem_cons.mp h).elim (fun e => ha w (List.mem_cons.mpr (Or.inl e))) (fun h => (List.mem_append.mp h).elim (fun h => ha w (List.mem_cons.mpr (Or.inr h))) (hb w))
theorem goodIn_sub {big ws : List Cond} (hm : ∀ w ∈ ws, w ∈ big) (h : ws.all goodWord = true) : GoodIn big ws := fun w hw => ⟨hm w hw, good_of_word (List.all_eq_true.mp h w hw)⟩
/-! ===== END ===== -/

/-! ===== BEGIN exceptions that leave a method, and their catching by the caller (launches without stack traces) ===== -/
section VXA
/-! The laws vx_back, vx_callV, vx_callS, vx_callSW, vx_throw0, vx_throwS follow proofs of the library, with one case more: JvmDerived/Free/Laws.lean (Back.of_free), Shelf42/LK1.lean (callV, callS), Shelf/KitTraced.lean (throwNew0V, throwNewS). -/
/-- where a method has thrown q: the class by its name, the cell, what was written, the world -/
def vx_T (XC : String → State → State → Prop) (st : State) (q : Addr) (t : State) (mc ms : Nat) (free : Addr → Prop) : Prop :=
  ∃ (E : String) (ce : Cell) (L : List Loc), XC E st t ∧ t.heap[q]? = some ce ∧ ce.vm = .none ∧ st.vm.findClass E = some ce.cls ∧ st.WarmedH t.vm ∧ st.sameButNew ({ t with vm := st.vm } : State) L mc ms ∧ ∀ z ∈ L, free z.base
def vx_Q (Qc : Array Value → State → Outcome → State → Prop) (XC : String → State → State → Prop) (mc ms : Nat) (free : Addr → Prop) : Array Value → State → Outcome → State → Prop := fun a st o t =>
  (Qc a st o t ∧ ∃ L, FrameEnd st o t L mc ms ∧ ∀ q ∈ L, free q.base) ∨ ∃ q, o = .threw q ∧ vx_T XC st q t mc ms free
/-- a callee that returns or throws -/
def vx_Met (l : Launch) (y : MethodName) (ws : List Cond) (rm : Room) (Pc : Array Value → State → Prop) (Qc : Array Value → State → Outcome → State → Prop) (XC : String → State → State → Prop) (mc ms : Nat) (free : Addr → Prop) : Prop :=
  MetFree l y (headSpec ws rm) Pc (fun _ _ _ _ _ => True) (vx_Q Qc XC mc ms free)
def vx_Post (XC : String → State → State → Prop) (mc ms : Nat) (free : Addr → Prop) : Pt → Array Value → Addr → Pt → Prop := fun A a q B =>
  ∃ (g : JFrame) (mk : MethodId) (t : State) (L : List Loc) (E : String) (ce : Cell), B.U.heap = t.heap ∧ B.U.vm = t.vm ∧ XC E (A.U.calling g mk a) t ∧ t.heap[q]? = some ce ∧ ce.vm = .none ∧ A.U.vm.findClass E = some ce.cls ∧ B.locs = A.locs ++ L ∧ (∀ z ∈ L, free z.base) ∧ B.cells = A.cells + mc ∧ B.slots = A.slots + ms
def vx_Back (l : Launch) (R : Room) (p : Program) (e : Env) (below : List Frame) (s : State) (sargs : Array Value) (y : MethodName) (len W9 : Nat)
    (Pre : Pt → Array Value → Prop) (Post : Pt → Array Value → Option Value → Pt → Prop) (PostX : Pt → Array Value → Addr → Pt → Prop) : Prop :=
  ∀ (m : MethodId) (meth : Method) (c : Code) (A : Pt) (g : JFrame) (ig : Instr) (mk : MethodId) (a : Array Value),
    Stand p l e R s m sargs below meth c A.U A.locs A.cells A.slots → g.method = m → g.locals.size = c.maxLocals → decode c.code g.pc = .ok (ig, len) →
    2 * g.monitorRoom + (g.stack.map fun v => v.category).sum ≤ W9 → A.U.methodNamed? y = some mk → Pre A a →
    (∃ (v : Option Value) (B : Pt), Stand p l e R s m sargs below meth c B.U B.locs B.cells B.slots ∧ Post A a v B ∧
      Steps p.tables e below (doInvoke e (A.U.setTop g) [] mk a).1 (B.U.setTop { g with pc := g.pc + len, stack := v.toList ++ g.stack })) ∨
    (∃ (q : Addr) (B : Pt), Stand p l e R s m sargs below meth c B.U B.locs B.cells B.slots ∧ PostX A a q B ∧
      Steps p.tables e below (doInvoke e (A.U.setTop g) [] mk a).1 ((B.U.setTop g).pushFrame (.throwing q)))
section Payer
variable {l : Launch} {R : Room} {p : Program} {e : Env} {below : List Frame} {s : State} {sargs : Array Value} {y : MethodName} {len W9 : Nat}
theorem vx_back {ws : List Cond} {rm : Room} {Pc : Array Value → State → Prop} {Qc : Array Value → State → Outcome → State → Prop} {XC : String → State → State → Prop} {mc ms : Nat} {free : Addr → Prop} {bytes : ByteArray} {maxL : Nat} {ret : Option FieldType}
    (hM : vx_Met l y ws rm Pc Qc XC mc ms free) (hblind : FrameBlind Pc) (hrc : rm.cells = mc) (hrs : rm.slots = ms)
    (hframes : rm.frames + 1 ≤ R.frames) (hlocals : W9 + (maxL + 11) + rm.locals ≤ R.locals)
    (hws : ∀ w ∈ ws, ∀ a' U, s.WarmedH U.vm → w.before a' U = true) (hcode : Cond.code y bytes maxL ret ∈ ws) (hinit : ∀ a' U, s.WarmedH U.vm → (Cond.initialized y.cls).before a' U = true) :
    vx_Back l R p e below s sargs y len W9 (PreOf R mc ms Pc) (PostOf Qc mc ms free) (vx_Post XC mc ms free) := by
  intro m meth c A g ig mk a X hg hsize hdg hW hn hp
  have h1 : (headSpec ws rm).pre.before a A.U = true := atoms_intro fun w hw => hws w hw _ _ X.warmed
  have h2 : (Cond.code y bytes maxL ret).before a A.U = true := hws _ hcode _ _ X.warmed
  have h3 : (Cond.initialized y.cls).before a A.U = true := hinit _ _ X.warmed
  have h4 : A.cells + (headSpec ws rm).room.cells ≤ R.cells := by rw [show (headSpec ws rm).room.cells = mc from hrc]; exact hp.1
  have h5 : A.slots + (headSpec ws rm).room.slots ≤ R.slots := by rw [show (headSpec ws rm).room.slots = ms from hrs]; exact hp.2.1
  have hPc : Pc a (A.U.calling g mk a) := hblind _ _ _ _ hp.2.2
  obtain ⟨U, Ls, c0, s0⟩ := A
  dsimp only [Pt.U, Pt.locs, Pt.cells, Pt.slots] at h1 h2 h3 h4 h5 X hn hPc ⊢
  obtain ⟨methY, cY, hmY, hcY, -, hlY, -, -, -, -⟩ := Cond.code_spec hn h2
  obtain ⟨kY, hkY, -⟩ := className_of_methodNamed hn
  have hinitY : kY.init = .initialized := Cond.initialized_spec (findClass_of_methodNamed hn) hkY h3
  have h : At U g.method c below := by rw [hg]; exact X.here
  have hlocals9 : W9 + (maxL + 11) + (headSpec ws rm).room.locals ≤ R.locals := hlocals
  have happ : (headSpec ws rm).appliesLoose y e.platform (U.calling g mk a) = true :=
    Spec.appliesLoose_calling (g := g) h hdg hn hkY hinitY
      (X.room_calling (g := g) (R' := (headSpec ws rm).room) hsize hmY hcY hframes (by rw [hlY]; omega) h4 h5) h1
  obtain ⟨mid, hmid⟩ := h.above
  have hfr : (U.setTop g).frames = (.java g :: mid) ++ below := by rw [State.frames_setTop' g h.top, hmid]; rfl
  obtain ⟨o, s₂, hsteps, -, hend, hq⟩ := Steps.callFree hM p X.admits X.cas X.clock (acts := []) hfr happ hPc trivial
  have hq' : vx_Q Qc XC mc ms free a (U.calling g mk a) o s₂ := hq
  rw [State.frames_setTop' g h.top] at hend
  obtain ⟨g₀, hg0⟩ := Option.isSome_iff_exists.mp h.top
  obtain ⟨r, hr⟩ := State.topJava?_eq_some.mp hg0
  have hr' : (({ U with heap := s₂.heap, slotsUsed := s₂.slotsUsed } : State).setVm s₂.vm).frames = .java g₀ :: r := hr
  rcases hq' with ⟨hqc, L, hfe, hL⟩ | ⟨q, rfl, E, ce, L, hx, hce, hcv, hcl, hW₂, hsm, hL⟩
  · obtain ⟨⟨v, rfl⟩, hW₂, e2, q2, q3, q4, q5, q6⟩ := id hfe
    have e3 : s₂ = ({ (U.calling g mk a).setFrames s₂.frames with heap := s₂.heap, slotsUsed := s₂.slotsUsed } : State).setVm s₂.vm := by
      have : s₂ = ({ s₂ with vm := (U.calling g mk a).vm } : State).setVm s₂.vm := rfl
      rw [e2] at this
      exact this
    obtain ⟨c₂, i₂, len₂, hc₂, hd₂, hf₂⟩ := hend
    have hW' : U.WarmedH s₂.vm := hW₂
    have hcc : c₂ = c := by
      have h1 : s₂.code? g.method = U.code? g.method := by
        rw [State.code?_eq, State.code?_eq, hW'.alike.method?]
      exact Option.some.inj (hc₂.symm.trans (h1.trans h.code))
    subst hcc
    have hlen : len₂ = len := by rw [hdg] at hd₂; cases hd₂; rfl
    subst hlen
    have hs₂ : s₂ = (({ U with heap := s₂.heap, slotsUsed := s₂.slotsUsed } : State).setVm s₂.vm).setTop { g with pc := g.pc + len₂, stack := v.toList ++ g.stack } := by
      refine e3.trans ?_
      rw [hf₂, State.calling_eq h.top, State.setFrames_setFrames, State.setTop_of_frames _ hr', hr]
      rfl
    have hsame : U.sameButNew ({ U with heap := s₂.heap, slotsUsed := s₂.slotsUsed } : State) L mc ms := by
      refine ⟨?_, q2, q3, q4, q5, q6⟩
      obtain ⟨t, ht, -⟩ := State.frames_cons hr
      show ({ U with heap := s₂.heap, slotsUsed := s₂.slotsUsed } : State) = { U.setFrames U.frames with heap := s₂.heap, slotsUsed := s₂.slotsUsed }
      rw [State.setFrames_self ht]
    subst hg
    refine Or.inl ⟨v, ⟨(({ U with heap := s₂.heap, slotsUsed := s₂.slotsUsed } : State).setVm s₂.vm), Ls ++ L, c0 + mc, s0 + ms⟩,
      ⟨X.admits, X.cas, X.clock, X.frames, X.room, X.hears, X.method, X.code, (X.here.setHeapUsed s₂.heap s₂.slotsUsed).setVm hW'.alike, X.tail, State.WarmedH.trans X.warmed hW', X.limits, X.bytes, X.same.trans (hsame.setVm s.vm)⟩,
      ⟨g, mk, s₂, L, rfl, rfl, hqc, rfl, hL, rfl, rfl⟩, ?_⟩
    show Steps p.tables e below _ ((({ U with heap := s₂.heap, slotsUsed := s₂.slotsUsed } : State).setVm s₂.vm).setTop { g with pc := g.pc + len₂, stack := v.toList ++ g.stack })
    rw [← hs₂]
    exact hsteps
  · obtain ⟨e2, q2, q3, q4, q5, q6⟩ := id hsm
    have e3 : s₂ = ({ (U.calling g mk a).setFrames s₂.frames with heap := s₂.heap, slotsUsed := s₂.slotsUsed } : State).setVm s₂.vm := by
      have : s₂ = ({ s₂ with vm := (U.calling g mk a).vm } : State).setVm s₂.vm := rfl
      rw [e2] at this
      exact this
    have hf₂ : s₂.frames = .throwing q :: .java g :: U.frames.tail := hend
    have hW' : U.WarmedH s₂.vm := hW₂
    have hs₂ : s₂ = ((({ U with heap := s₂.heap, slotsUsed := s₂.slotsUsed } : State).setVm s₂.vm).setTop g).pushFrame (.throwing q) := by
      refine e3.trans ?_
      rw [hf₂, State.calling_eq h.top, State.setFrames_setFrames, State.pushFrame, State.frames_setTop _ hr', State.setTop_of_frames _ hr', State.setFrames_setFrames, hr]
      rfl
    have hsame : U.sameButNew ({ U with heap := s₂.heap, slotsUsed := s₂.slotsUsed } : State) L mc ms := by
      refine ⟨?_, q2, q3, q4, q5, q6⟩
      obtain ⟨t, ht, -⟩ := State.frames_cons hr
      show ({ U with heap := s₂.heap, slotsUsed := s₂.slotsUsed } : State) = { U.setFrames U.frames with heap := s₂.heap, slotsUsed := s₂.slotsUsed }
      rw [State.setFrames_self ht]
    subst hg
    refine Or.inr ⟨q, ⟨(({ U with heap := s₂.heap, slotsUsed := s₂.slotsUsed } : State).setVm s₂.vm), Ls ++ L, c0 + mc, s0 + ms⟩,
      ⟨X.admits, X.cas, X.clock, X.frames, X.room, X.hears, X.method, X.code, (X.here.setHeapUsed s₂.heap s₂.slotsUsed).setVm hW'.alike, X.tail, State.WarmedH.trans X.warmed hW', X.limits, X.bytes, X.same.trans (hsame.setVm s.vm)⟩,
      ⟨g, mk, s₂, L, E, ce, rfl, rfl, hx, hce, hcv, hcl, rfl, hL, rfl, rfl⟩, ?_⟩
    show Steps p.tables e below _ (((({ U with heap := s₂.heap, slotsUsed := s₂.slotsUsed } : State).setVm s₂.vm).setTop g).pushFrame (.throwing q))
    rw [← hs₂]
    exact hsteps
end Payer
section Calls
variable {p : Program} {l : Launch} {e : Env} {R : Room} {s : State} {m : MethodId} {args : Array Value} {below : List Frame} {meth : Method} {c : Code} {T : State} {locs : List Loc} {cells slots : Nat}
theorem vx_callV (X : Stand p l e R s m args below meth c T locs cells slots) (hexec : p.tables.exec = Jvm.exec) {own C : String} {index : Nat} {y : MethodName} {bytes : ByteArray} {maxL : Nat} {ret : Option FieldType}
    (hown : s.vm.findClass own = some m.cls) (hlink : (Cond.methodLink own index y).before args s = true) (hinst : (Cond.instanceMethod y).before args s = true) (hsel : (Cond.selects C y y).before args s = true)
    (hcode : (Cond.code y bytes maxL ret).before args s = true) (hy : y.cls ≠ "java/lang/invoke/MethodHandle" ∧ y.cls ≠ "java/lang/invoke/VarHandle")
    {W9 : Nat} {Pre : Pt → Array Value → Prop} {Post : Pt → Array Value → Option Value → Pt → Prop} {PostX : Pt → Array Value → Addr → Pt → Prop} (hK : vx_Back l R p e below s args y 3 W9 Pre Post PostX)
    {b : Addr} {cellB : Cell} (hcell : T.heap[b]? = some cellB) (hobj : cellB.vm.isStatics = false) (hcls : s.vm.findClass C = some cellB.cls)
    {g : JFrame} (hg : g.method = m) (hsize : g.locals.size = c.maxLocals) {argsL rest : List Value} (hlen : ∀ sig, parseMethodDescriptor y.desc = some sig → argsL.length = sig.parameters.length)
    (hstack : g.stack = argsL.reverse ++ .ref b :: rest) (hW : 2 * g.monitorRoom + (rest.map fun v => v.category).sum ≤ W9) (hdg : decode c.code g.pc = .ok (.invokevirtual index, 3))
    (hpre : ∀ vm₁, s.WarmedH vm₁ → Pre ⟨T.setVm vm₁, locs, cells, slots⟩ (Value.ref b :: argsL).toArray) :
    (∃ (v : Option Value) (vm₁ : Vm) (B : Pt), s.WarmedH vm₁ ∧ Stand p l e R s m args below meth c B.U B.locs B.cells B.slots ∧ Post ⟨T.setVm vm₁, locs, cells, slots⟩ (Value.ref b :: argsL).toArray v B ∧
      ∀ target, Steps p.tables e below (B.U.setTop { g with pc := g.pc + 3, stack := v.toList ++ rest }) target → Steps p.tables e below (T.setTop g) target) ∨
    (∃ (q : Addr) (vm₁ : Vm) (B : Pt), s.WarmedH vm₁ ∧ Stand p l e R s m args below meth c B.U B.locs B.cells B.slots ∧ PostX ⟨T.setVm vm₁, locs, cells, slots⟩ (Value.ref b :: argsL).toArray q B ∧
      Steps p.tables e below (T.setTop g) ((B.U.setTop { g with stack := rest }).pushFrame (.throwing q))) := by
  obtain ⟨mk, methM, hnamed, hmethM, hstM, habM⟩ := Cond.instanceMethod_spec hinst
  obtain ⟨methM', cM, hmethM', -, -, -, -, -, -, hsigM⟩ := Cond.code_spec hnamed hcode
  cases hmethM.symm.trans hmethM'
  obtain ⟨c2, r2, m2, q1, q2, q3, q4, kP, hkP, hkPi⟩ := Cond.selects_spec hsel
  cases hcls.symm.trans q1
  cases (State.methodFound?_of_named hnamed hy).symm.trans q2
  cases hnamed.symm.trans q3
  have hselP : selectMethod e.platform s.vm cellB.cls mk = .method mk := by rw [Launch.admits_selectMethod X.admits]; exact q4
  obtain ⟨vm₁, X₁, hstep₁⟩ := X.invokevirtual hexec hown hlink hnamed hmethM hstM hkP hkPi hy (a := b) (cell := cellB) hcell
    (fun z h => by rw [h] at hobj; cases hobj) hselP hmethM habM hkP hkPi (g := g) hg (argsL := argsL) (rest := rest) (hlen _ hsigM) hstack hdg
  rcases hK m meth c ⟨T.setVm vm₁, locs, cells, slots⟩ { g with stack := rest } (.invokevirtual index) mk (Value.ref b :: argsL).toArray X₁ hg hsize hdg hW (X₁.named hnamed) (hpre vm₁ X₁.warmed) with ⟨v, B, X', hpost, hsteps⟩ | ⟨q, B, X', hpost, hsteps⟩
  · exact Or.inl ⟨v, vm₁, B, X₁.warmed, X', hpost, fun target h => hstep₁ _ fun acts => by rw [doInvoke_state]; exact hsteps.trans h⟩
  · exact Or.inr ⟨q, vm₁, B, X₁.warmed, X', hpost, hstep₁ _ fun acts => by rw [doInvoke_state]; exact hsteps⟩
theorem vx_callS (X : Stand p l e R s m args below meth c T locs cells slots) (hexec : p.tables.exec = Jvm.exec) {own : String} {index : Nat} {y : MethodName} {bytes : ByteArray} {maxL : Nat} {ret : Option FieldType}
    (hown : s.vm.findClass own = some m.cls) (hlink : (Cond.methodLink own index y).before args s = true) (hstat : (Cond.static y).before args s = true) (hinit : (Cond.initialized y.cls).before args s = true)
    (hcode : (Cond.code y bytes maxL ret).before args s = true) (hy : y.cls ≠ "java/lang/invoke/MethodHandle" ∧ y.cls ≠ "java/lang/invoke/VarHandle")
    {W9 : Nat} {Pre : Pt → Array Value → Prop} {Post : Pt → Array Value → Option Value → Pt → Prop} {PostX : Pt → Array Value → Addr → Pt → Prop} (hK : vx_Back l R p e below s args y 3 W9 Pre Post PostX)
    {g : JFrame} (hg : g.method = m) (hsize : g.locals.size = c.maxLocals) {argsL rest : List Value} (hlen : ∀ sig, parseMethodDescriptor y.desc = some sig → argsL.length = sig.parameters.length)
    (hstack : g.stack = argsL.reverse ++ rest) (hW : 2 * g.monitorRoom + (rest.map fun v => v.category).sum ≤ W9) (hdg : decode c.code g.pc = .ok (.invokestatic index, 3))
    (hpre : ∀ vm₁, s.WarmedH vm₁ → Pre ⟨T.setVm vm₁, locs, cells, slots⟩ argsL.toArray) :
    (∃ (v : Option Value) (vm₁ : Vm) (B : Pt), s.WarmedH vm₁ ∧ Stand p l e R s m args below meth c B.U B.locs B.cells B.slots ∧ Post ⟨T.setVm vm₁, locs, cells, slots⟩ argsL.toArray v B ∧
      ∀ target, Steps p.tables e below (B.U.setTop { g with pc := g.pc + 3, stack := v.toList ++ rest }) target → Steps p.tables e below (T.setTop g) target) ∨
    (∃ (q : Addr) (vm₁ : Vm) (B : Pt), s.WarmedH vm₁ ∧ Stand p l e R s m args below meth c B.U B.locs B.cells B.slots ∧ PostX ⟨T.setVm vm₁, locs, cells, slots⟩ argsL.toArray q B ∧
      Steps p.tables e below (T.setTop g) ((B.U.setTop { g with stack := rest }).pushFrame (.throwing q))) := by
  obtain ⟨mk, hnamed⟩ := Cond.code_named hcode
  obtain ⟨methM, cM, hmethM, -, -, -, -, -, -, hsigM⟩ := Cond.code_spec hnamed hcode
  have hstatic : methM.isStatic = true := Cond.static_spec hnamed hmethM hstat
  obtain ⟨kP, hkP, -⟩ := className_of_methodNamed hnamed
  have hinitP : kP.init = .initialized := Cond.initialized_spec (findClass_of_methodNamed hnamed) hkP hinit
  obtain ⟨vm₁, X₁, hstep₁⟩ := X.invokestatic hexec hown hlink hnamed hmethM hstatic hkP hinitP hy (g := g) hg (argsL := argsL) (rest := rest) (hlen _ hsigM) hstack hdg
  rcases hK m meth c ⟨T.setVm vm₁, locs, cells, slots⟩ { g with stack := rest } (.invokestatic index) mk argsL.toArray X₁ hg hsize hdg hW (X₁.named hnamed) (hpre vm₁ X₁.warmed) with ⟨v, B, X', hpost, hsteps⟩ | ⟨q, B, X', hpost, hsteps⟩
  · exact Or.inl ⟨v, vm₁, B, X₁.warmed, X', hpost, fun target h => hstep₁ _ fun acts => by rw [doInvoke_state]; exact hsteps.trans h⟩
  · exact Or.inr ⟨q, vm₁, B, X₁.warmed, X', hpost, hstep₁ _ fun acts => by rw [doInvoke_state]; exact hsteps⟩
end Calls
theorem vx_cls {s : State} {T : State} {vm₁ : Vm} {E : String} {k : ClassId} (hW : s.WarmedH vm₁) (h : (T.setVm vm₁).vm.findClass E = some k) : s.vm.findClass E = some k := by
  have h1 : vm₁.findClass E = some k := h
  rw [hW.alike.findClass] at h1
  exact h1
/-- the method's frame g, with q thrown over it -/
def vx_W (p : Program) (l : Launch) (e : Env) (R : Room) (s : State) (m : MethodId) (args : Array Value) (below : List Frame) (meth : Method) (c : Code) (H : Heap) (locs : List Loc) (cells slots : Nat) (Q : State → Prop) (g : JFrame) (q : Addr) : Prop :=
  ∀ T : State, T.heap = H → Stand p l e R s m args below meth c T locs cells slots → ∃ t, Steps p.tables e below ((T.setTop g).pushFrame (.throwing q)) t ∧ Q t
def vx_Run (p : Program) (l : Launch) (e : Env) (R : Room) (s : State) (m : MethodId) (args : Array Value) (below : List Frame) (meth : Method) (c : Code) (H : Heap) (locs : List Loc) (cells slots mc ms : Nat) (g : JFrame) (rest : List Value) (Qa : State → Outcome → State → Prop) (XC : String → State → State → Prop) (free : Addr → Prop) : Prop :=
  ∀ T : State, T.heap = H → Stand p l e R s m args below meth c T locs cells slots →
    (∃ (v : Option Value) (st₀ t T' : State) (L : List Loc), st₀.heap = H ∧ Stand p l e R s m args below meth c T' (locs ++ L) (cells + mc) (slots + ms) ∧ (∀ q ∈ L, free q.base) ∧ T'.heap = t.heap ∧ T'.vm = t.vm ∧ Qa st₀ (.returned v) t ∧
      Goes p e below T g T' { g with pc := g.pc + 3, stack := v.toList ++ rest }) ∨
    (∃ (q : Addr) (st₀ t T' : State) (L : List Loc) (E : String) (ce : Cell), st₀.heap = H ∧ Stand p l e R s m args below meth c T' (locs ++ L) (cells + mc) (slots + ms) ∧ (∀ z ∈ L, free z.base) ∧ T'.heap = t.heap ∧ T'.vm = t.vm ∧ XC E st₀ t ∧ t.heap[q]? = some ce ∧ ce.vm = .none ∧ s.vm.findClass E = some ce.cls ∧
      Steps p.tables e below (T.setTop g) ((T'.setTop { g with stack := rest }).pushFrame (.throwing q)))
def vx_X {S : Type} (px : S → Prop) (B : String → S → State → Prop) (A : Nat → Prop) : String → State → State → Prop := fun E st t => ∃ u : S, px u ∧ B E u t ∧ va_F A st t
section Runs
variable {p : Program} {l : Launch} {e : Env} {R : Room} {s : State} {m : MethodId} {args : Array Value} {below : List Frame} {meth : Method} {c : Code} {H : Heap} {locs : List Loc} {cells slots : Nat}
variable {y : MethodName} {bytes cc : ByteArray} {maxL nL mc ms n index : Nat} {ret : Option FieldType} {ws : List Cond} {rm : Room} {Pc : Array Value → State → Prop} {Qc : Array Value → State → Outcome → State → Prop} {XC : String → State → State → Prop} {free : Addr → Prop} {Ts : List Cond} {own C : String} {b : Addr} {As rest : List Value} {g : JFrame}
theorem vx_callBack (cb : CallB R s args own index y bytes maxL ret ws rm mc ms n) (hM : vx_Met l y ws rm Pc Qc XC mc ms free) (hbl : FrameBlind Pc) : vx_Back l R p e below s args y 3 8 (PreOf R mc ms Pc) (PostOf Qc mc ms free) (vx_Post XC mc ms free) := by
  obtain ⟨hrc, hrs, hfr, hlo, hws, hcw, -, hini, -⟩ := cb
  exact vx_back (bytes := bytes) (maxL := maxL) (ret := ret) hM hbl hrc hrs hfr hlo hws hcw (fun a' U hW => word_at hW (Or.inl (by first | rfl | simp [Cond.onTables, Cond.keeps, Cond.steady])) hini)
theorem vx_runV (S : CallFix p m c cc nL s args Ts own) (hM : vx_Met l y ws rm Pc Qc XC mc ms free) (cw : CallW R s args own C index y bytes maxL ret ws rm mc ms n) (hp : PreV s H C b Pc As)
    (hg : g.method = m) (hn : As.length = n) (hsize : g.locals.size = nL) (hstack : g.stack = As.reverse ++ .ref b :: rest) (hW : 2 * g.monitorRoom + (rest.map fun v => v.category).sum ≤ 8) (hdg : decode cc g.pc = .ok (.invokevirtual index, 3)) (hf : cells + mc ≤ R.cells ∧ slots + ms ≤ R.slots) :
    vx_Run p l e R s m args below meth c H locs cells slots mc ms g rest (Qc (Value.ref b :: As).toArray) XC free := by
  have hK : vx_Back l R p e below s args y 3 8 (PreOf R mc ms Pc) (PostOf Qc mc ms free) (vx_Post XC mc ms free) := vx_callBack cw.1 hM hp.1
  obtain ⟨⟨-, -, -, -, -, -, hcode, -, hy, hlen, hl⟩, hin, hse⟩ := cw
  obtain ⟨hx, hb, hml, ho, -⟩ := S
  obtain ⟨-, ⟨cellB, hcB, hoB, hclB⟩, hPc⟩ := hp
  intro T hT X
  rcases vx_callV X hx (C := C) (bytes := bytes) (maxL := maxL) (ret := ret) ho hl hin hse hcode hy hK (by rw [hT]; exact hcB) hoB hclB hg (hsize.trans hml.symm) (argsL := As) (rest := rest) (fun sig h => hn.trans (hlen sig h)) hstack hW (by rw [hb]; exact hdg)
    (fun vm₁ hW₁ => ⟨hf.1, hf.2, hPc (T.setVm vm₁) hT hW₁⟩) with ⟨v, vm₁, ⟨U', l2, c2, s2⟩, hW₁, X', ⟨g', mk, t, L, e1, e2, hq, h1, hL, h2, h3⟩, st⟩ | ⟨q, vm₁, ⟨U', l2, c2, s2⟩, hW₁, X', ⟨g', mk, t, L, E, ce, e1, e2, hq, hce, hcv, hcl, h1, hL, h2, h3⟩, st⟩
  · dsimp only [Pt.U, Pt.locs, Pt.cells, Pt.slots] at X' e1 e2 h1 h2 h3 st
    subst h1; subst h2; subst h3
    exact Or.inl ⟨v, (T.setVm vm₁).calling g' mk (Value.ref b :: As).toArray, t, U', L, hT, X', hL, e1, e2, hq, st⟩
  · dsimp only [Pt.U, Pt.locs, Pt.cells, Pt.slots] at X' e1 e2 h1 h2 h3 st hcl
    subst h1; subst h2; subst h3
    exact Or.inr ⟨q, (T.setVm vm₁).calling g' mk (Value.ref b :: As).toArray, t, U', L, E, ce, hT, X', hL, e1, e2, hq, hce, hcv, vx_cls hW₁ hcl, st⟩
theorem vx_runS (S : CallFix p m c cc nL s args Ts own) (hM : vx_Met l y ws rm Pc Qc XC mc ms free) (cw : CallB R s args own index y bytes maxL ret ws rm mc ms n ∧ (Cond.static y).before args s = true) (hp : PreS s H Pc As)
    (hg : g.method = m) (hn : As.length = n) (hsize : g.locals.size = nL) (hstack : g.stack = As.reverse ++ rest) (hW : 2 * g.monitorRoom + (rest.map fun v => v.category).sum ≤ 8) (hdg : decode cc g.pc = .ok (.invokestatic index, 3)) (hf : cells + mc ≤ R.cells ∧ slots + ms ≤ R.slots) :
    vx_Run p l e R s m args below meth c H locs cells slots mc ms g rest (Qc As.toArray) XC free := by
  have hK : vx_Back l R p e below s args y 3 8 (PreOf R mc ms Pc) (PostOf Qc mc ms free) (vx_Post XC mc ms free) := vx_callBack cw.1 hM hp.1
  obtain ⟨⟨-, -, -, -, -, -, hcode, hini, hy, hlen, hl⟩, hstt⟩ := cw
  obtain ⟨hx, hb, hml, ho, -⟩ := S
  intro T hT X
  rcases vx_callS X hx (bytes := bytes) (maxL := maxL) (ret := ret) ho hl hstt hini hcode hy hK hg (hsize.trans hml.symm) (argsL := As) (rest := rest) (fun sig h => hn.trans (hlen sig h)) hstack hW (by rw [hb]; exact hdg)
    (fun vm₁ hW₁ => ⟨hf.1, hf.2, hp.2 (T.setVm vm₁) hT hW₁⟩) with ⟨v, vm₁, ⟨U', l2, c2, s2⟩, hW₁, X', ⟨g', mk, t, L, e1, e2, hq, h1, hL, h2, h3⟩, st⟩ | ⟨q, vm₁, ⟨U', l2, c2, s2⟩, hW₁, X', ⟨g', mk, t, L, E, ce, e1, e2, hq, hce, hcv, hcl, h1, hL, h2, h3⟩, st⟩
  · dsimp only [Pt.U, Pt.locs, Pt.cells, Pt.slots] at X' e1 e2 h1 h2 h3 st
    subst h1; subst h2; subst h3
    exact Or.inl ⟨v, (T.setVm vm₁).calling g' mk As.toArray, t, U', L, hT, X', hL, e1, e2, hq, st⟩
  · dsimp only [Pt.U, Pt.locs, Pt.cells, Pt.slots] at X' e1 e2 h1 h2 h3 st hcl
    subst h1; subst h2; subst h3
    exact Or.inr ⟨q, (T.setVm vm₁).calling g' mk As.toArray, t, U', L, E, ce, hT, X', hL, e1, e2, hq, hce, hcv, vx_cls hW₁ hcl, st⟩
end Runs
section Rows
variable {p : Program} {l : Launch} {e : Env} {R : Room} {s : State} {m : MethodId} {args : Array Value} {below : List Frame} {meth : Method} {c : Code} {H : Heap} {locs : List Loc} {cells slots : Nat} {Q : State → Prop}
variable {mc ms : Nat} {free : Addr → Prop} {A0 A1 : Nat → Prop} {H0 : Heap} {a : Array Value} {pc : Nat} {ls : Array Slot} {st0 rest : List Value}
theorem vx_keep {st₀ t T' : State} {L : List Loc} (h0 : st₀.heap = H) (e1 : T'.heap = t.heap) (hS : va_S A0 H0 H locs) (hA : ∀ q, q < H.size → A1 q → A0 q) (hf : ∀ q, free q → A0 q) (hL : ∀ q ∈ L, free q.base) (hF : va_F A1 st₀ t) :
    H.size ≤ T'.heap.size ∧ (∀ q : Nat, q < H.size → ¬ A1 q → T'.heap[q]? = H[q]?) ∧ va_S A0 H0 T'.heap (locs ++ L) := by
  obtain ⟨hz, hk⟩ := hF
  rw [h0] at hz hk
  exact ⟨by rw [e1]; exact hz, fun q h1 h2 => by rw [e1]; exact hk q h1 h2,
    ⟨Nat.le_trans hS.1 (by rw [e1]; exact hz), fun q h1 h2 => by rw [e1, hk q (Nat.lt_of_lt_of_le h1 hS.1) (fun z => h2 (hA q (Nat.lt_of_lt_of_le h1 hS.1) z))]; exact hS.2.1 q h1 h2, fun q hq => by
      rcases List.mem_append.mp hq with h | h
      · exact hS.2.2 q h
      · exact hf _ (hL q h)⟩⟩
theorem vx_calli {S SX : Type} {post : Int32 → S → Prop} {px : SX → Prop} {B : S → State → Prop} {BX : String → SX → State → Prop} {AX : Nat → Prop} (hr : vx_Run p l e R s m args below meth c H locs cells slots mc ms (F0 m pc ls st0) rest (va_Qi post B A1 a) (vx_X px BX AX) free) (hS : va_S A0 H0 H locs) (hA : ∀ q, q < H.size → A1 q → A0 q) (hf : ∀ q, free q → A0 q) (hAX : ∀ q, q < H.size → AX q → A0 q)
    (kx : ∀ (E : String) (ce : Cell) (q9 : Addr) (u : SX) (t : State) (H1 : Heap) (locs1 : List Loc), t.heap = H1 → s.vm.Alike t.vm → px u → BX E u t → H.size ≤ H1.size → (∀ q : Nat, q < H.size → ¬ AX q → H1[q]? = H[q]?) → va_S A0 H0 H1 locs1 → H1[q9]? = some ce → ce.vm = .none → s.vm.findClass E = some ce.cls → vx_W p l e R s m args below meth c H1 locs1 (cells + mc) (slots + ms) Q (F0 m pc ls rest) q9)
    (kk : ∀ (r : Int32) (u : S) (t : State) (H1 : Heap) (locs1 : List Loc), t.heap = H1 → s.vm.Alike t.vm → post r u → B u t → H.size ≤ H1.size → (∀ q : Nat, q < H.size → ¬ A1 q → H1[q]? = H[q]?) → va_S A0 H0 H1 locs1 → W p l e R s m args below meth c H1 locs1 (cells + mc) (slots + ms) Q (F0 m (pc + 3) ls (.int r :: rest))) : W p l e R s m args below meth c H locs cells slots Q (F0 m pc ls st0) := by
  intro T hT X
  rcases hr T hT X with ⟨v, st₀, t, T', L, h0, X', hL, e1, e2, ⟨⟨r, u, hv, hp, hb⟩, hF⟩, st⟩ | ⟨q, st₀, t, T', L, E, ce, h0, X', hL, e1, e2, ⟨u, hp, hb, hF⟩, hce, hcv, hcl, st⟩
  · cases hv
    obtain ⟨k1, k2, k3⟩ := vx_keep h0 e1 hS hA hf hL hF
    obtain ⟨t2, a1, b1⟩ := kk r u t T'.heap (locs ++ L) e1.symm (by rw [← e2]; exact X'.warmed.alike) hp hb k1 k2 k3 T' rfl X'
    exact ⟨t2, st t2 a1, b1⟩
  · obtain ⟨k1, k2, k3⟩ := vx_keep h0 e1 hS hAX hf hL hF
    obtain ⟨t2, a1, b1⟩ := kx E ce q u t T'.heap (locs ++ L) e1.symm (by rw [← e2]; exact X'.warmed.alike) hp hb k1 k2 k3 (by rw [e1]; exact hce) hcv hcl T' rfl X'
    exact ⟨t2, st.trans a1, b1⟩
theorem vx_calll {S SX : Type} {post : Int64 → S → Prop} {px : SX → Prop} {B : S → State → Prop} {BX : String → SX → State → Prop} {AX : Nat → Prop} (hr : vx_Run p l e R s m args below meth c H locs cells slots mc ms (F0 m pc ls st0) rest (va_Ql post B A1 a) (vx_X px BX AX) free) (hS : va_S A0 H0 H locs) (hA : ∀ q, q < H.size → A1 q → A0 q) (hf : ∀ q, free q → A0 q) (hAX : ∀ q, q < H.size → AX q → A0 q)
    (kx : ∀ (E : String) (ce : Cell) (q9 : Addr) (u : SX) (t : State) (H1 : Heap) (locs1 : List Loc), t.heap = H1 → s.vm.Alike t.vm → px u → BX E u t → H.size ≤ H1.size → (∀ q : Nat, q < H.size → ¬ AX q → H1[q]? = H[q]?) → va_S A0 H0 H1 locs1 → H1[q9]? = some ce → ce.vm = .none → s.vm.findClass E = some ce.cls → vx_W p l e R s m args below meth c H1 locs1 (cells + mc) (slots + ms) Q (F0 m pc ls rest) q9)
    (kk : ∀ (r : Int64) (u : S) (t : State) (H1 : Heap) (locs1 : List Loc), t.heap = H1 → s.vm.Alike t.vm → post r u → B u t → H.size ≤ H1.size → (∀ q : Nat, q < H.size → ¬ A1 q → H1[q]? = H[q]?) → va_S A0 H0 H1 locs1 → W p l e R s m args below meth c H1 locs1 (cells + mc) (slots + ms) Q (F0 m (pc + 3) ls (.long r :: rest))) : W p l e R s m args below meth c H locs cells slots Q (F0 m pc ls st0) := by
  intro T hT X
  rcases hr T hT X with ⟨v, st₀, t, T', L, h0, X', hL, e1, e2, ⟨⟨r, u, hv, hp, hb⟩, hF⟩, st⟩ | ⟨q, st₀, t, T', L, E, ce, h0, X', hL, e1, e2, ⟨u, hp, hb, hF⟩, hce, hcv, hcl, st⟩
  · cases hv
    obtain ⟨k1, k2, k3⟩ := vx_keep h0 e1 hS hA hf hL hF
    obtain ⟨t2, a1, b1⟩ := kk r u t T'.heap (locs ++ L) e1.symm (by rw [← e2]; exact X'.warmed.alike) hp hb k1 k2 k3 T' rfl X'
    exact ⟨t2, st t2 a1, b1⟩
  · obtain ⟨k1, k2, k3⟩ := vx_keep h0 e1 hS hAX hf hL hF
    obtain ⟨t2, a1, b1⟩ := kx E ce q u t T'.heap (locs ++ L) e1.symm (by rw [← e2]; exact X'.warmed.alike) hp hb k1 k2 k3 (by rw [e1]; exact hce) hcv hcl T' rfl X'
    exact ⟨t2, st.trans a1, b1⟩
theorem vx_callf {S SX : Type} {post : UInt32 → S → Prop} {px : SX → Prop} {B : S → State → Prop} {BX : String → SX → State → Prop} {AX : Nat → Prop} (hr : vx_Run p l e R s m args below meth c H locs cells slots mc ms (F0 m pc ls st0) rest (va_Qf post B A1 a) (vx_X px BX AX) free) (hS : va_S A0 H0 H locs) (hA : ∀ q, q < H.size → A1 q → A0 q) (hf : ∀ q, free q → A0 q) (hAX : ∀ q, q < H.size → AX q → A0 q)
    (kx : ∀ (E : String) (ce : Cell) (q9 : Addr) (u : SX) (t : State) (H1 : Heap) (locs1 : List Loc), t.heap = H1 → s.vm.Alike t.vm → px u → BX E u t → H.size ≤ H1.size → (∀ q : Nat, q < H.size → ¬ AX q → H1[q]? = H[q]?) → va_S A0 H0 H1 locs1 → H1[q9]? = some ce → ce.vm = .none → s.vm.findClass E = some ce.cls → vx_W p l e R s m args below meth c H1 locs1 (cells + mc) (slots + ms) Q (F0 m pc ls rest) q9)
    (kk : ∀ (r : UInt32) (u : S) (t : State) (H1 : Heap) (locs1 : List Loc), t.heap = H1 → s.vm.Alike t.vm → post r u → B u t → H.size ≤ H1.size → (∀ q : Nat, q < H.size → ¬ A1 q → H1[q]? = H[q]?) → va_S A0 H0 H1 locs1 → W p l e R s m args below meth c H1 locs1 (cells + mc) (slots + ms) Q (F0 m (pc + 3) ls (.float r :: rest))) : W p l e R s m args below meth c H locs cells slots Q (F0 m pc ls st0) := by
  intro T hT X
  rcases hr T hT X with ⟨v, st₀, t, T', L, h0, X', hL, e1, e2, ⟨⟨r, u, hv, hp, hb⟩, hF⟩, st⟩ | ⟨q, st₀, t, T', L, E, ce, h0, X', hL, e1, e2, ⟨u, hp, hb, hF⟩, hce, hcv, hcl, st⟩
  · cases hv
    obtain ⟨k1, k2, k3⟩ := vx_keep h0 e1 hS hA hf hL hF
    obtain ⟨t2, a1, b1⟩ := kk r u t T'.heap (locs ++ L) e1.symm (by rw [← e2]; exact X'.warmed.alike) hp hb k1 k2 k3 T' rfl X'
    exact ⟨t2, st t2 a1, b1⟩
  · obtain ⟨k1, k2, k3⟩ := vx_keep h0 e1 hS hAX hf hL hF
    obtain ⟨t2, a1, b1⟩ := kx E ce q u t T'.heap (locs ++ L) e1.symm (by rw [← e2]; exact X'.warmed.alike) hp hb k1 k2 k3 (by rw [e1]; exact hce) hcv hcl T' rfl X'
    exact ⟨t2, st.trans a1, b1⟩
theorem vx_calld {S SX : Type} {post : UInt64 → S → Prop} {px : SX → Prop} {B : S → State → Prop} {BX : String → SX → State → Prop} {AX : Nat → Prop} (hr : vx_Run p l e R s m args below meth c H locs cells slots mc ms (F0 m pc ls st0) rest (va_Qd post B A1 a) (vx_X px BX AX) free) (hS : va_S A0 H0 H locs) (hA : ∀ q, q < H.size → A1 q → A0 q) (hf : ∀ q, free q → A0 q) (hAX : ∀ q, q < H.size → AX q → A0 q)
    (kx : ∀ (E : String) (ce : Cell) (q9 : Addr) (u : SX) (t : State) (H1 : Heap) (locs1 : List Loc), t.heap = H1 → s.vm.Alike t.vm → px u → BX E u t → H.size ≤ H1.size → (∀ q : Nat, q < H.size → ¬ AX q → H1[q]? = H[q]?) → va_S A0 H0 H1 locs1 → H1[q9]? = some ce → ce.vm = .none → s.vm.findClass E = some ce.cls → vx_W p l e R s m args below meth c H1 locs1 (cells + mc) (slots + ms) Q (F0 m pc ls rest) q9)
    (kk : ∀ (r : UInt64) (u : S) (t : State) (H1 : Heap) (locs1 : List Loc), t.heap = H1 → s.vm.Alike t.vm → post r u → B u t → H.size ≤ H1.size → (∀ q : Nat, q < H.size → ¬ A1 q → H1[q]? = H[q]?) → va_S A0 H0 H1 locs1 → W p l e R s m args below meth c H1 locs1 (cells + mc) (slots + ms) Q (F0 m (pc + 3) ls (.double r :: rest))) : W p l e R s m args below meth c H locs cells slots Q (F0 m pc ls st0) := by
  intro T hT X
  rcases hr T hT X with ⟨v, st₀, t, T', L, h0, X', hL, e1, e2, ⟨⟨r, u, hv, hp, hb⟩, hF⟩, st⟩ | ⟨q, st₀, t, T', L, E, ce, h0, X', hL, e1, e2, ⟨u, hp, hb, hF⟩, hce, hcv, hcl, st⟩
  · cases hv
    obtain ⟨k1, k2, k3⟩ := vx_keep h0 e1 hS hA hf hL hF
    obtain ⟨t2, a1, b1⟩ := kk r u t T'.heap (locs ++ L) e1.symm (by rw [← e2]; exact X'.warmed.alike) hp hb k1 k2 k3 T' rfl X'
    exact ⟨t2, st t2 a1, b1⟩
  · obtain ⟨k1, k2, k3⟩ := vx_keep h0 e1 hS hAX hf hL hF
    obtain ⟨t2, a1, b1⟩ := kx E ce q u t T'.heap (locs ++ L) e1.symm (by rw [← e2]; exact X'.warmed.alike) hp hb k1 k2 k3 (by rw [e1]; exact hce) hcv hcl T' rfl X'
    exact ⟨t2, st.trans a1, b1⟩
theorem vx_callv {S SX : Type} {post : S → Prop} {px : SX → Prop} {B : S → State → Prop} {BX : String → SX → State → Prop} {AX : Nat → Prop} (hr : vx_Run p l e R s m args below meth c H locs cells slots mc ms (F0 m pc ls st0) rest (va_Qv post B A1 a) (vx_X px BX AX) free) (hS : va_S A0 H0 H locs) (hA : ∀ q, q < H.size → A1 q → A0 q) (hf : ∀ q, free q → A0 q) (hAX : ∀ q, q < H.size → AX q → A0 q)
    (kx : ∀ (E : String) (ce : Cell) (q9 : Addr) (u : SX) (t : State) (H1 : Heap) (locs1 : List Loc), t.heap = H1 → s.vm.Alike t.vm → px u → BX E u t → H.size ≤ H1.size → (∀ q : Nat, q < H.size → ¬ AX q → H1[q]? = H[q]?) → va_S A0 H0 H1 locs1 → H1[q9]? = some ce → ce.vm = .none → s.vm.findClass E = some ce.cls → vx_W p l e R s m args below meth c H1 locs1 (cells + mc) (slots + ms) Q (F0 m pc ls rest) q9)
    (kk : ∀ (u : S) (t : State) (H1 : Heap) (locs1 : List Loc), t.heap = H1 → s.vm.Alike t.vm → post u → B u t → H.size ≤ H1.size → (∀ q : Nat, q < H.size → ¬ A1 q → H1[q]? = H[q]?) → va_S A0 H0 H1 locs1 → W p l e R s m args below meth c H1 locs1 (cells + mc) (slots + ms) Q (F0 m (pc + 3) ls (rest))) : W p l e R s m args below meth c H locs cells slots Q (F0 m pc ls st0) := by
  intro T hT X
  rcases hr T hT X with ⟨v, st₀, t, T', L, h0, X', hL, e1, e2, ⟨⟨u, hv, hp, hb⟩, hF⟩, st⟩ | ⟨q, st₀, t, T', L, E, ce, h0, X', hL, e1, e2, ⟨u, hp, hb, hF⟩, hce, hcv, hcl, st⟩
  · cases hv
    obtain ⟨k1, k2, k3⟩ := vx_keep h0 e1 hS hA hf hL hF
    obtain ⟨t2, a1, b1⟩ := kk u t T'.heap (locs ++ L) e1.symm (by rw [← e2]; exact X'.warmed.alike) hp hb k1 k2 k3 T' rfl X'
    exact ⟨t2, st t2 a1, b1⟩
  · obtain ⟨k1, k2, k3⟩ := vx_keep h0 e1 hS hAX hf hL hF
    obtain ⟨t2, a1, b1⟩ := kx E ce q u t T'.heap (locs ++ L) e1.symm (by rw [← e2]; exact X'.warmed.alike) hp hb k1 k2 k3 (by rw [e1]; exact hce) hcv hcl T' rfl X'
    exact ⟨t2, st.trans a1, b1⟩
/-- caught by the row x of this method's table; the rows ahead don't take it -/
theorem vx_catch {own name : String} {E : String} {ce : Cell} {q : Addr} (hown : s.vm.findClass own = some m.cls) (pre : List ExceptionTableEntry) (x : ExceptionTableEntry) (suf : List ExceptionTableEntry) (hsplit : c.exceptionTable.toList = pre ++ x :: suf)
    (hpass : ∀ z ∈ pre, covers z pc = false ∨ (z.catchType ≠ 0 ∧ ∃ nm : String, (Cond.classLink own z.catchType nm).before args s = true ∧ va_Nc E nm s)) (hx : covers x pc = true) (h0 : x.catchType ≠ 0)
    (hlink : (Cond.classLink own x.catchType name).before args s = true) (hcast : (Cond.castable E name).before args s = true) (hcell : H[q]? = some ce) (hv : ce.vm = .none) (hcl : s.vm.findClass E = some ce.cls)
    (kk : W p l e R s m args below meth c H locs cells slots Q (F0 m x.handlerPc ls [.ref q])) : vx_W p l e R s m args below meth c H locs cells slots Q (F0 m pc ls rest) q := by
  intro T hT X
  have hpl : e.platform.magicAccessors = ({} : Platform).magicAccessors := by rw [X.admits.platform]
  obtain ⟨c3, c4, hc3, hc4, hasg⟩ := Cond.castable_spec hcast
  cases Option.some.inj (hc3.symm.trans hcl)
  obtain ⟨c5, hc5, hcl5⟩ := Cond.classLink_spec hown hlink e.platform hpl
  cases Option.some.inj (hc4.symm.trans hc5)
  obtain ⟨vm', X', st⟩ := X.thenCaughtThrough q (g := F0 m pc ls rest) rfl (Steps.refl _) (by rw [hT]; exact hcell) (by rw [hv]; rfl) (by obtain ⟨k9, h9, -⟩ := Vm.findClass_spec hcl; exact ⟨k9, h9⟩) pre x suf hsplit
    (fun z hz => by
      rcases hpass z hz with h | ⟨hz0, nm, hl1, hn1⟩
      · exact Or.inl h
      · obtain ⟨c6, hc6, hcl6⟩ := Cond.classLink_spec hown hl1 e.platform hpl
        obtain ⟨a8, b8, h1, h2, h3⟩ := hn1
        cases Option.some.inj (h1.symm.trans hcl)
        cases Option.some.inj (h2.symm.trans hc6)
        exact Or.inr ⟨hz0, _, hcl6, h3⟩) hx (Or.inr ⟨h0, c4, hcl5, hasg⟩)
  obtain ⟨t, a1, b1⟩ := kk (T.setVm vm') hT X'
  exact ⟨t, st.trans a1, b1⟩
end Rows
section Ends
variable {p : Program} {l : Launch} {e : Env} {R : Room} {s : State} {m : MethodId} {args : Array Value} {below : List Frame} {meth : Method} {c : Code} {H : Heap} {locs : List Loc} {cells slots : Nat} {Q : State → Prop}
variable {mc ms : Nat} {free : Addr → Prop} {A0 A1 : Nat → Prop} {H0 : Heap} {a : Array Value} {ls : Array Slot} {st0 rest : List Value}
variable {Qc : Array Value → State → Outcome → State → Prop} {XC : String → State → State → Prop}
/-- what a body that may throw owes at its end -/
def vx_MQ (below : List Frame) (Qc : Array Value → State → Outcome → State → Prop) (XC : String → State → State → Prop) (a : Array Value) (s : State) (mc ms : Nat) (free : Addr → Prop) : State → Prop := fun t =>
  ∃ o, t.status = .running ∧ Ended t below o ∧ vx_Q Qc XC mc ms free a s o t
theorem vx_ret {g : JFrame} {mc ms : Nat} (k : W p l e R s m args below meth c H locs cells slots (MQ below Qc args s mc ms free) g) : W p l e R s m args below meth c H locs cells slots (vx_MQ below Qc XC args s mc ms free) g := by
  intro T hT X
  obtain ⟨t, a1, o, b1, b2, b3, b4⟩ := k T hT X
  exact ⟨t, a1, o, b1, b2, Or.inl ⟨b3, b4⟩⟩
/-- not caught here: it goes on to the caller -/
theorem vx_widen {g : JFrame} {q : Addr} {k n : Nat} (h1 : cells ≤ k) (h2 : slots ≤ n) (kk : vx_W p l e R s m args below meth c H locs k n Q g q) : vx_W p l e R s m args below meth c H locs cells slots Q g q := fun T hT X => kk T hT (stand_widen X h1 h2)
theorem vx_out {pc : Nat} {E : String} {ce : Cell} {q : Addr} {mc ms : Nat} (hout : ∀ x ∈ c.exceptionTable.toList, covers x pc = false) (hlocks : meth.locks = false) (hcell : H[q]? = some ce) (hv : ce.vm = .none) (hcl : s.vm.findClass E = some ce.cls)
    (hx : ∀ t : State, t.heap = H → s.vm.Alike t.vm → XC E s t) (hf : ∀ z ∈ locs, free z.base) (hc : cells ≤ mc) (hs : slots ≤ ms) :
    vx_W p l e R s m args below meth c H locs cells slots (vx_MQ below Qc XC args s mc ms free) (F0 m pc ls rest) q := by
  intro T hT X
  obtain ⟨st1, hrun, hend, hW, hsm⟩ := X.leaveThrown q (g := F0 m pc ls rest) rfl rfl rfl hout hlocks
  have hcell9 : (T.setFrames (.throwing q :: below)).heap[q]? = some ce := by
    show T.heap[q]? = some ce
    rw [hT]; exact hcell
  exact ⟨_, st1, .threw q, hrun, hend, Or.inr ⟨q, rfl, E, ce, locs, hx _ hT hW.alike, hcell9, hv, hcl, hW, hsm.mono hc hs, hf⟩⟩
theorem vx_frame {U : State} {k n : Nat} (h : s.sameButNew ({ U with vm := s.vm } : State) locs k n) : s.heap.size ≤ U.heap.size ∧ ∀ q : Nat, q < s.heap.size → (∀ z ∈ locs, z.base ≠ q) → U.heap[q]? = s.heap[q]? := by
  obtain ⟨-, h2, -, -, -, h6⟩ := h
  refine ⟨h2, fun q hq hz => ?_⟩
  obtain ⟨c9, e1, e2, e3, e4⟩ := h6 q _ (Array.getElem?_eq_getElem hq)
  have hs : c9.slots = (s.heap[q]).slots := Array.ext_getElem? fun i => e4 i fun hm => hz _ hm rfl
  have h9 : c9 = s.heap[q] := by
    rw [hs] at e2
    exact e2
  have e5 : U.heap[q]? = some c9 := e1
  rw [e5, h9, Array.getElem?_eq_getElem hq]
/-- the words of a throw but the four that speak of the heap -/
def vx_no (w : Cond) : Bool := decide (w ≠ .isRef (.static Bundle.tN "UNASSIGNED_STACK" Bundle.steD)) && decide (w ≠ .isRef (.static Bundle.tN "SUPPRESSED_SENTINEL" Bundle.listD)) && decide (w ≠ .laysStatic Bundle.tN "UNASSIGNED_STACK" Bundle.steD) && decide (w ≠ .laysStatic Bundle.tN "SUPPRESSED_SENTINEL" Bundle.listD)
def vx_at0 (own : String) (ic : Nat) (X : String) (names : List String) : List Cond := (Bundle.ownAtoms0 own ic X names).filter vx_no
def vx_atS (own : String) (ic : Nat) (X : String) (names : List String) : List Cond := (Bundle.ownAtoms own ic X names).filter vx_no
/-- a word that the tables alone decide, or a good one -/
def vx_ot (w : Cond) : Bool := w.onTables || goodWord w
theorem vx_ot_at {args a' : Array Value} {s U : State} {w : Cond} (hW : s.WarmedH U.vm) (hvm : s.vm = U.vm) (hg : vx_ot w = true) (h : w.before args s = true) : w.before a' U = true := by
  simp only [vx_ot, Bool.or_eq_true] at hg
  rcases hg with hg | hg
  · exact va_tabs hg hvm h
  · exact word_at hW (good_of_word hg) h
/-- a list's words: the good ones out of the method's own list, the others by premises of their own -/
theorem vx_hat {args : Array Value} {s : State} {L B : List Cond} (h1 : ∀ w ∈ L.filter goodWord, w.before args s = true) (h2 : ∀ w ∈ L.filter (fun w => !goodWord w), w ∈ B) (h3 : ∀ w ∈ B, w.before args s = true) : ∀ w ∈ L, w.before args s = true := by
  intro w hw
  by_cases g : goodWord w = true
  · exact h1 w (List.mem_filter.mpr ⟨hw, g⟩)
  · refine h3 w (h2 w (List.mem_filter.mpr ⟨hw, ?_⟩))
    show (!goodWord w) = true
    cases hgw : goodWord w
    · rfl
    · exact absurd hgw g
theorem vx_c {args : Array Value} {s : State} {w : Cond} {B : List Cond} (h : w.before args s = true) (t : ∀ w ∈ B, w.before args s = true) : ∀ w' ∈ w :: B, w'.before args s = true := fun w' h' => (List.mem_cons.mp h').elim (fun e => by rw [e]; exact h) (t w')
theorem vx_n {args : Array Value} {s : State} : ∀ w ∈ ([] : List Cond), w.before args s = true := fun _ h => nomatch h
theorem vx_own {args : Array Value} {s : State} {L : List Cond} (h1 : ∀ w ∈ L.filter vx_no, w.before args s = true)
    (hU : (Cond.isRef (.static Bundle.tN "UNASSIGNED_STACK" Bundle.steD)).before args s = true) (hN : (Cond.isRef (.static Bundle.tN "SUPPRESSED_SENTINEL" Bundle.listD)).before args s = true)
    (lU : (Cond.laysStatic Bundle.tN "UNASSIGNED_STACK" Bundle.steD).before args s = true) (lN : (Cond.laysStatic Bundle.tN "SUPPRESSED_SENTINEL" Bundle.listD).before args s = true) : ∀ w ∈ L, w.before args s = true := by
  intro w hw
  by_cases e1 : w = .isRef (.static Bundle.tN "UNASSIGNED_STACK" Bundle.steD)
  · rw [e1]; exact hU
  · by_cases e2 : w = .isRef (.static Bundle.tN "SUPPRESSED_SENTINEL" Bundle.listD)
    · rw [e2]; exact hN
    · by_cases e3 : w = .laysStatic Bundle.tN "UNASSIGNED_STACK" Bundle.steD
      · rw [e3]; exact lU
      · by_cases e4 : w = .laysStatic Bundle.tN "SUPPRESSED_SENTINEL" Bundle.listD
        · rw [e4]; exact lN
        · exact h1 w (List.mem_filter.mpr ⟨hw, by unfold vx_no; rw [decide_eq_true e1, decide_eq_true e2, decide_eq_true e3, decide_eq_true e4]; rfl⟩)
/-- where a static field lies, its class's statics cell in H -/
def vx_L (C n d : String) (A : Nat → Prop) (U : State) (H : Heap) : Prop := ∃ (c : ClassId) (k : Class) (i : Nat) (f : Field) (a : Nat) (cell : Cell), U.vm.findClass C = some c ∧ U.fieldFound? C n d = some (c, k, i, f) ∧ f.isStatic = true ∧ k.statics = some a ∧ H[a]? = some cell ∧ cell.vm.isStatics = true ∧ cell.cls = c ∧ f.slot < cell.slots.size ∧ k.staticTypes[f.slot]? = some f.type ∧ ¬ A a
theorem vx_L.moved {C n d : String} {A : Nat → Prop} {u U : State} {H : Heap} (hvm : u.vm.Alike U.vm) (h : vx_L C n d A u H) : vx_L C n d A U H := by
  obtain ⟨c, k, i, f, a, cell, h1, h2, h3, h4, h5, h6, h7, h8, h9, h10⟩ := h
  obtain ⟨k', hi', he⟩ := State.fieldFound?_setVm hvm h2
  exact ⟨c, k', i, f, a, cell, by rw [hvm.findClass]; exact h1, hi', h3, by rw [he]; exact h4, h5, h6, h7, h8, by rw [he]; exact h9, h10⟩
theorem vx_L.kept {C n d : String} {A : Nat → Prop} {U : State} {H H1 : Heap} (h : vx_L C n d A U H) (hq : ∀ a : Nat, a < H.size → ¬ A a → H1[a]? = H[a]?) : vx_L C n d A U H1 := by
  obtain ⟨c, k, i, f, a, cell, h1, h2, h3, h4, h5, h6, h7, h8, h9, h10⟩ := h
  exact ⟨c, k, i, f, a, cell, h1, h2, h3, h4, by rw [hq a (Array.getElem?_eq_some_iff.mp h5).1 h10]; exact h5, h6, h7, h8, h9, h10⟩
theorem vx_L.narrow {C n d : String} {A B : Nat → Prop} {U : State} {H : Heap} (h : vx_L C n d A U H) (hAB : ∀ q, B q → A q) : vx_L C n d B U H := by
  obtain ⟨c, k, i, f, a, cell, h1, h2, h3, h4, h5, h6, h7, h8, h9, h10⟩ := h
  exact ⟨c, k, i, f, a, cell, h1, h2, h3, h4, h5, h6, h7, h8, h9, fun z => h10 (hAB _ z)⟩
theorem vx_L.word {C n d : String} {A : Nat → Prop} {s : State} {args : Array Value} (h : vx_L C n d A s s.heap) : (Cond.laysStatic C n d).before args s = true := by
  obtain ⟨c, k, i, f, a, cell, h1, h2, h3, h4, h5, h6, h7, h8, h9, -⟩ := h
  show (Cond.laysStatic C n d).holds args s none s [] = true
  exact Cond.laysStatic_of h1 h2 h3 h4 h5 h6 h7 h8 h9
/-- .. and what it holds: null or some reference -/
def vx_Zq (C n d : String) (A : Nat → Prop) (U : State) (H : Heap) : Prop := va_Zq C n d A U H ∧ vx_L C n d A U H
theorem vx_Zq.moved {C n d : String} {A : Nat → Prop} {u U : State} {H : Heap} (hvm : u.vm.Alike U.vm) (h : vx_Zq C n d A u H) : vx_Zq C n d A U H := ⟨va_Zq.moved hvm h.1, vx_L.moved hvm h.2⟩
theorem vx_Zq.kept {C n d : String} {A : Nat → Prop} {U : State} {H H1 : Heap} (h : vx_Zq C n d A U H) (hq : ∀ a : Nat, a < H.size → ¬ A a → H1[a]? = H[a]?) : vx_Zq C n d A U H1 := ⟨va_Zq.kept h.1 hq, vx_L.kept h.2 hq⟩
theorem vx_Zq.narrow {C n d : String} {A B : Nat → Prop} {U : State} {H : Heap} (h : vx_Zq C n d A U H) (hAB : ∀ q, B q → A q) : vx_Zq C n d B U H := ⟨va_Zq.narrow h.1 hAB, vx_L.narrow h.2 hAB⟩
theorem vx_Zqof {args : Array Value} {s : State} {C n d : String} {A : Nat → Prop} (hl : (Cond.laysStatic C n d).before args s = true) (hini : (Cond.initialized C).before args s = true) (h : (Cond.isRef (.static C n d)).before args s = true) (hA : ∀ a : Nat, a < s.heap.size → ¬ A a) : vx_Zq C n d A s s.heap := by
  refine ⟨va_Zqof hl hini h hA, ?_⟩
  obtain ⟨c, k, i, f, a, cell, h1, h2, h3, h4, h5, h6, h7, h8, h9⟩ := Cond.laysStatic_spec hl
  exact ⟨c, k, i, f, a, cell, h1, h2, h3, h4, h5, h6, h7, h8, h9, hA a (Array.getElem?_eq_some_iff.mp h5).1⟩
theorem vx_isRef {C n d : String} {v : Value} {A : Nat → Prop} {s : State} {args : Array Value} (h : va_Z C n d v A s s.heap) (hv : v.isRef = true) : (Cond.isRef (.static C n d)).before args s = true := by
  obtain ⟨cf, kf, fi, f, a, cell, h1, h2, h3, h4, h5, h6, h7, -⟩ := h
  have he : (Term.static C n d).eval args s none [] s = some v := by
    simp [Term.eval, State.fieldNamed?, h1, h2, h4, h5, h6, h7]
  simp only [Cond.before, Cond.holds, Cond.value, he]
  cases v <;> simp_all [Value.isRef]
theorem vx_isRefq {C n d : String} {A : Nat → Prop} {s : State} {args : Array Value} (h : va_Zq C n d A s s.heap) : (Cond.isRef (.static C n d)).before args s = true := by
  rcases h with h | ⟨t, h⟩
  · exact vx_isRef h rfl
  · exact vx_isRef h rfl
/-- the same frame, seen from here: as if the method were called anew in this heap -/
theorem vx_rebase {T : State} (X : Stand p l e R s m args below meth c T locs cells slots) {R' : Room} (hf : R'.frames ≤ R.frames) (hl : R'.locals ≤ R.locals) (hc : cells + R'.cells ≤ R.cells) (hs : slots + R'.slots ≤ R.slots) :
    Stand p l e R' ((T.setVm s.vm).setFrames (.invoking m args :: below)) m args below meth c T [] 0 0 := by
  have htop : (T.setVm s.vm).topJava?.isSome := X.here.top
  have hF : ((T.setVm s.vm).setFrames (.invoking m args :: below)).frames = .invoking m args :: below := State.frames_setFrames _ (State.cur_lt_of_top htop)
  obtain ⟨g₀, hg0⟩ := Option.isSome_iff_exists.mp htop
  obtain ⟨r, hr⟩ := State.topJava?_eq_some.mp hg0
  have hl9 : e.platform.stackLimits (T.setVm s.vm).me = e.platform.stackLimits s.me := X.limits
  have hb9 : (T.setVm s.vm).me.stackBytes = s.me.stackBytes := X.bytes
  refine ⟨X.admits, X.cas, X.clock, hF, ?_, X.hears, X.method, X.code, X.here, X.tail, X.warmed, ?_, ?_, ?_⟩
  · have h := X.room
    have hU : ((T.setVm s.vm).setFrames (.invoking m args :: below)).localsInUse = s.localsInUse := by
      rw [State.localsInUse_invoking hF (meth := meth) (c := c) X.method X.code, State.localsInUse_invoking X.frames X.method X.code]
    simp only [State.hasRoom, Bool.and_eq_true, decide_eq_true_eq] at h ⊢
    obtain ⟨⟨⟨⟨h1, h2, h3, h4, h5, h6⟩, h7⟩, h8⟩, h9⟩ := h
    rw [X.frames, List.length_cons] at h2 h3
    have q1 := X.heapSize
    have q2 := X.used
    simp only [hF, hU, List.length_cons, State.stackLimits_setFrames, State.stackBytes_setFrames, hl9, hb9]
    refine ⟨⟨⟨⟨by omega, by omega, by omega, by omega, by omega, h6⟩, ?_⟩, ?_⟩, X.book⟩
    · show T.heap.size + R'.cells ≤ e.platform.maxCells
      omega
    · show T.slotsUsed + R'.slots ≤ e.platform.maxSlots
      omega
  · rw [State.stackLimits_setFrames]; rfl
  · rw [State.stackBytes_setFrames]; rfl
  · refine ⟨?_, Nat.le_refl _, Nat.le_refl _, ?_, ?_, fun a c9 h9 => ⟨c9, h9, rfl, rfl, fun _ _ => rfl⟩⟩
    · obtain ⟨t, ht, -⟩ := State.frames_cons hr
      show T.setVm s.vm = { ((T.setVm s.vm).setFrames (.invoking m args :: below)).setFrames (T.setVm s.vm).frames with heap := T.heap, slotsUsed := T.slotsUsed }
      rw [State.setFrames_setFrames, State.setFrames_self ht]
      rfl
    · show T.slotsUsed = T.slotsUsed + ((T.heap.toList.drop T.heap.size).map (·.slots.size)).sum
      rw [List.drop_eq_nil_of_le (Nat.le_of_eq Array.length_toList)]
      rfl
    · show ((T.heap.toList.drop T.heap.size).map (·.slots.size)).sum ≤ 0
      rw [List.drop_eq_nil_of_le (Nat.le_of_eq Array.length_toList)]
      exact Nat.le_refl _
/-- 'throw new E()': new; dup; invokespecial; athrow -/
theorem vx_throw0 {cc : ByteArray} {pc : Nat} (hexec : p.tables.exec = Jvm.exec) (hb : c.code = cc) (hl : l.stackTraces = false) {own cls : String} {names : List String} {ik ic mc ms : Nat} {A : Nat → Prop}
    (hown : s.vm.findClass own = some m.cls) (hcls : Bundle.fit cls = true) (hnames : ∀ n ∈ names, Bundle.fit n = true)
    (hk : (Cond.classLink own ik cls).before args s = true) (hini : (Cond.initialized cls).before args s = true) (hat : ∀ w ∈ vx_at0 own ic cls names, w.before args s = true)
    (hgood : ∀ w ∈ Cond.classLink own ik cls :: Cond.initialized cls :: vx_at0 own ic cls names, vx_ot w = true)
    (hU : vx_Zq Bundle.tN "UNASSIGNED_STACK" Bundle.steD A s s.heap) (hN : vx_Zq Bundle.tN "SUPPRESSED_SENTINEL" Bundle.listD A s s.heap) (hS : va_S A s.heap H locs) (hsize : ls.size = c.maxLocals)
    (d0 : decode cc pc = .ok (.new ik, 3)) (d3 : decode cc (pc + 3) = .ok (.dup, 1)) (d4 : decode cc (pc + 4) = .ok (.invokespecial ic, 3)) (d7 : decode cc (pc + 7) = .ok (.athrow, 1))
    (hout : ∀ x ∈ c.exceptionTable.toList, covers x (pc + 7) = false)
    (hRframes : names.length + 3 < R.frames) (hRlocals : (rest.map fun v => v.category).sum + (13 * (names.length + 1) + 42) ≤ R.locals) (hRcells : cells + 1 ≤ R.cells) (hRslots : slots + 6 ≤ R.slots) (hlocks : meth.locks = false)
    (hx : ∀ t : State, s.vm.Alike t.vm → H.size ≤ t.heap.size → (∀ q : Nat, q < H.size → t.heap[q]? = H[q]?) → XC cls s t)
    (hf : ∀ z ∈ locs, free z.base) (hc : cells + 1 ≤ mc) (hs : slots + 6 ≤ ms) :
    W p l e R s m args below meth c H locs cells slots (vx_MQ below Qc XC args s mc ms free) (F0 m pc ls rest) := by
  intro T hT X
  have htr : e.platform.stackTraces = false := (show e.platform.stackTraces = l.stackTraces by rw [X.admits.platform]).trans hl
  have Y := vx_rebase X (R' := { frames := R.frames, locals := R.locals, cells := 1, slots := 6 }) (Nat.le_refl _) (Nat.le_refl _) hRcells hRslots
  obtain ⟨s', hA⟩ : ∃ z, z = (T.setVm s.vm).setFrames (.invoking m args :: below) := ⟨_, rfl⟩
  rw [← hA] at Y
  have hvm : s'.vm = s.vm := by rw [hA]; rfl
  have hhp : s'.heap = H := by rw [hA]; exact hT
  have hW0 : s.WarmedH s'.vm := by rw [hvm]; exact State.WarmedH.refl s
  have hat' : ∀ w ∈ vx_at0 own ic cls names, w.before args s' = true := fun w hw => vx_ot_at hW0 hvm.symm (hgood w (List.mem_cons_of_mem _ (List.mem_cons_of_mem _ hw))) (hat w hw)
  have hk' : (Cond.classLink own ik cls).before args s' = true := vx_ot_at hW0 hvm.symm (hgood _ List.mem_cons_self) hk
  have hini' : (Cond.initialized cls).before args s' = true := vx_ot_at hW0 hvm.symm (hgood _ (List.mem_cons_of_mem _ List.mem_cons_self)) hini
  have hU' : vx_Zq Bundle.tN "UNASSIGNED_STACK" Bundle.steD A s' s'.heap := by rw [hhp]; exact vx_Zq.moved hW0.alike (hU.kept hS.2.1)
  have hN' : vx_Zq Bundle.tN "SUPPRESSED_SENTINEL" Bundle.listD A s' s'.heap := by rw [hhp]; exact vx_Zq.moved hW0.alike (hN.kept hS.2.1)
  have h : ∀ w ∈ Bundle.ownAtoms0 own ic cls names, w.before args s' = true := vx_own hat' (vx_isRefq hU'.1) (vx_isRefq hN'.1) hU'.2.word hN'.2.word
  have hown' : s'.vm.findClass own = some m.cls := by rw [hvm]; exact hown
  have hins : (Cond.instantiable cls 6).before args s' = true := h _ (by simp [Bundle.ownAtoms0])
  obtain ⟨vm₁, cX, kX, hfX, hkX, -, -, X₁, st1⟩ := Y.newCold hexec (own := own) (C := cls) (index := ik) (n := 6) hown' hk' hins hini'
    (g := F0 m pc ls rest) rfl (by rw [hb]; exact d0) (Nat.le_refl _) (Nat.le_refl _)
  generalize hT1 : (T.setVm vm₁).pushCell { cls := cX, slots := kX.instanceTypes.map defaultValue, vm := .none } = T1 at X₁ st1
  have hcat : (Value.ref T.heap.size).category = 1 := rfl
  have hcellA : T1.heap[T.heap.size]? = some (freshCell cX kX) := by rw [← hT1]; exact State.heap_pushCell_size _ _
  have d3' : decode c.code (pc + 3) = .ok (.dup, 1) := by rw [hb]; exact d3
  obtain ⟨U, hsteps, hrun, hend, hW, hsame, ce, hce, hO⟩ := X₁.ctorThrow0 hexec htr (own := own) (cls := cls) (names := names) (ic := ic) hown' hcls hnames h (fun x hx => nomatch hx) hfX hkX hcellA (by rw [hhp, hT]; exact Nat.le_refl _)
    (g := { method := m, pc := pc + 4, locals := ls, stack := .ref T.heap.size :: .ref T.heap.size :: rest, locked := none }) rfl hsize rfl rfl (rest := rest) rfl
    (by rw [hb]; exact d4) (by rw [hb]; exact d7) hout hRframes (by simp only [List.map_cons, List.sum_cons, hcat]; omega) hlocks
  obtain ⟨f1, f2⟩ := vx_frame hsame
  rw [hhp] at f1 f2
  have hWs : s.WarmedH U.vm := State.WarmedH.trans hW0 hW
  have hcl : s.vm.findClass cls = some ce.cls := by
    have h9 := hO.cls
    rw [hvm] at h9
    exact h9
  have hall : s.sameButNew ({ U with vm := s.vm } : State) locs mc ms := by
    subst hA
    obtain ⟨e1, e2⟩ := hsame
    rw [State.setFrames_setFrames] at e1
    have h2 : (T.setVm s.vm).sameButNew ({ U with vm := s.vm } : State) [] (0 + 1) (0 + 6) := ⟨e1, e2⟩
    have h3 := X.same.trans h2
    rw [List.append_nil] at h3
    exact h3.mono hc hs
  refine ⟨U, ?_, .threw T.heap.size, hrun, hend, Or.inr ⟨T.heap.size, rfl, cls, ce, locs, hx U hWs.alike f1 (fun q hq => f2 q hq (fun z hz => nomatch hz)), hce, hO.vm, hcl, hWs, hall, hf⟩⟩
  refine st1 _ ?_
  show Steps p.tables e below (T1.setTop { method := m, pc := pc + 3, locals := ls, stack := .ref T.heap.size :: rest, locked := none }) _
  jvm_step X₁.here [X₁.here.top, hexec, d3', Value.category]
  exact hsteps
/-- 'throw new E("text")': new; dup; ldc; invokespecial; athrow -/
theorem vx_throwS {cc : ByteArray} {pc : Nat} (hexec : p.tables.exec = Jvm.exec) (hb : c.code = cc) (hl : l.stackTraces = false) {own cls text : String} {names : List String} {ik is ic mc ms sa : Nat} {A : Nat → Prop}
    (hown : s.vm.findClass own = some m.cls) (hcls : Bundle.fit cls = true) (hnames : ∀ n ∈ names, Bundle.fit n = true)
    (hk : (Cond.classLink own ik cls).before args s = true) (hini : (Cond.initialized cls).before args s = true) (hstr : vk_R own is text sa s) (hat : ∀ w ∈ vx_atS own ic cls names, w.before args s = true)
    (hgood : ∀ w ∈ Cond.classLink own ik cls :: Cond.initialized cls :: vx_atS own ic cls names, vx_ot w = true)
    (hU : vx_Zq Bundle.tN "UNASSIGNED_STACK" Bundle.steD A s s.heap) (hN : vx_Zq Bundle.tN "SUPPRESSED_SENTINEL" Bundle.listD A s s.heap) (hS : va_S A s.heap H locs) (hsize : ls.size = c.maxLocals)
    (d0 : decode cc pc = .ok (.new ik, 3)) (d3 : decode cc (pc + 3) = .ok (.dup, 1)) (d4 : decode cc (pc + 4) = .ok (.ldc is, 2)) (d6 : decode cc (pc + 6) = .ok (.invokespecial ic, 3)) (d9 : decode cc (pc + 9) = .ok (.athrow, 1))
    (hout : ∀ x ∈ c.exceptionTable.toList, covers x (pc + 9) = false)
    (hRframes : names.length + 3 < R.frames) (hRlocals : (rest.map fun v => v.category).sum + (13 * (names.length + 1) + 43) ≤ R.locals) (hRcells : cells + 1 ≤ R.cells) (hRslots : slots + 6 ≤ R.slots) (hlocks : meth.locks = false)
    (hx : ∀ t : State, s.vm.Alike t.vm → H.size ≤ t.heap.size → (∀ q : Nat, q < H.size → t.heap[q]? = H[q]?) → XC cls s t)
    (hf : ∀ z ∈ locs, free z.base) (hc : cells + 1 ≤ mc) (hs : slots + 6 ≤ ms) :
    W p l e R s m args below meth c H locs cells slots (vx_MQ below Qc XC args s mc ms free) (F0 m pc ls rest) := by
  intro T hT X
  have htr : e.platform.stackTraces = false := (show e.platform.stackTraces = l.stackTraces by rw [X.admits.platform]).trans hl
  have Y := vx_rebase X (R' := { frames := R.frames, locals := R.locals, cells := 1, slots := 6 }) (Nat.le_refl _) (Nat.le_refl _) hRcells hRslots
  obtain ⟨s', hA⟩ : ∃ z, z = (T.setVm s.vm).setFrames (.invoking m args :: below) := ⟨_, rfl⟩
  rw [← hA] at Y
  have hvm : s'.vm = s.vm := by rw [hA]; rfl
  have hhp : s'.heap = H := by rw [hA]; exact hT
  have hW0 : s.WarmedH s'.vm := by rw [hvm]; exact State.WarmedH.refl s
  have hat' : ∀ w ∈ vx_atS own ic cls names, w.before args s' = true := fun w hw => vx_ot_at hW0 hvm.symm (hgood w (List.mem_cons_of_mem _ (List.mem_cons_of_mem _ hw))) (hat w hw)
  have hk' : (Cond.classLink own ik cls).before args s' = true := vx_ot_at hW0 hvm.symm (hgood _ List.mem_cons_self) hk
  have hini' : (Cond.initialized cls).before args s' = true := vx_ot_at hW0 hvm.symm (hgood _ (List.mem_cons_of_mem _ List.mem_cons_self)) hini
  have hU' : vx_Zq Bundle.tN "UNASSIGNED_STACK" Bundle.steD A s' s'.heap := by rw [hhp]; exact vx_Zq.moved hW0.alike (hU.kept hS.2.1)
  have hN' : vx_Zq Bundle.tN "SUPPRESSED_SENTINEL" Bundle.listD A s' s'.heap := by rw [hhp]; exact vx_Zq.moved hW0.alike (hN.kept hS.2.1)
  have h : ∀ w ∈ Bundle.ownAtoms own ic cls names, w.before args s' = true := vx_own hat' (vx_isRefq hU'.1) (vx_isRefq hN'.1) hU'.2.word hN'.2.word
  have hown' : s'.vm.findClass own = some m.cls := by rw [hvm]; exact hown
  have hins : (Cond.instantiable cls 6).before args s' = true := h _ (by simp [Bundle.ownAtoms])
  obtain ⟨vm₁, cX, kX, hfX, hkX, -, -, X₁, st1⟩ := Y.newCold hexec (own := own) (C := cls) (index := ik) (n := 6) hown' hk' hins hini'
    (g := F0 m pc ls rest) rfl (by rw [hb]; exact d0) (Nat.le_refl _) (Nat.le_refl _)
  generalize hT1 : (T.setVm vm₁).pushCell { cls := cX, slots := kX.instanceTypes.map defaultValue, vm := .none } = T1 at X₁ st1
  have hcat : (Value.ref T.heap.size).category = 1 := rfl
  have hcellA : T1.heap[T.heap.size]? = some (freshCell cX kX) := by rw [← hT1]; exact State.heap_pushCell_size _ _
  have d3' : decode c.code (pc + 3) = .ok (.dup, 1) := by rw [hb]; exact d3
  have d4' : decode c.code (pc + 4) = .ok (.ldc is, 2) := by rw [hb]; exact d4
  have hstr' : vk_R own is text sa s' := vk_R.warm hW0 hstr
  obtain ⟨U, hsteps, hrun, hend, hW, hsame, ce, hce, hO⟩ := X₁.ctorThrowS hexec htr (own := own) (cls := cls) (names := names) (ic := ic) hown' hcls hnames h (fun x hx => nomatch hx) hfX hkX hcellA (by rw [hhp, hT]; exact Nat.le_refl _) (msg := .ref sa) rfl
    (g := { method := m, pc := pc + 6, locals := ls, stack := .ref sa :: .ref T.heap.size :: .ref T.heap.size :: rest, locked := none }) rfl hsize rfl rfl (rest := rest) rfl
    (by rw [hb]; exact d6) (by rw [hb]; exact d9) hout hRframes (by simp only [List.map_cons, List.sum_cons, hcat]; omega) hlocks
  obtain ⟨f1, f2⟩ := vx_frame hsame
  rw [hhp] at f1 f2
  have hWs : s.WarmedH U.vm := State.WarmedH.trans hW0 hW
  have hcl : s.vm.findClass cls = some ce.cls := by
    have h9 := hO.cls
    rw [hvm] at h9
    exact h9
  have hall : s.sameButNew ({ U with vm := s.vm } : State) locs mc ms := by
    subst hA
    obtain ⟨e1, e2⟩ := hsame
    rw [State.setFrames_setFrames] at e1
    have h2 : (T.setVm s.vm).sameButNew ({ U with vm := s.vm } : State) [] (0 + 1) (0 + 6) := ⟨e1, e2⟩
    have h3 := X.same.trans h2
    rw [List.append_nil] at h3
    exact h3.mono hc hs
  refine ⟨U, ?_, .threw T.heap.size, hrun, hend, Or.inr ⟨T.heap.size, rfl, cls, ce, locs, hx U hWs.alike f1 (fun q hq => f2 q hq (fun z hz => nomatch hz)), hce, hO.vm, hcl, hWs, hall, hf⟩⟩
  refine st1 _ ?_
  show Steps p.tables e below (T1.setTop { method := m, pc := pc + 3, locals := ls, stack := .ref T.heap.size :: rest, locked := none }) _
  jvm_step X₁.here [X₁.here.top, hexec, d3', Value.category]
  exact X₁.ldcString hexec (own := own) (text := text) (index := is) (a := sa) hown' hstr'.1 hstr'.2
    (g := { method := m, pc := pc + 4, locals := ls, stack := .ref T.heap.size :: .ref T.heap.size :: rest, locked := none }) rfl d4' _ hsteps
/-- 'throw new E("text")', the text by a wide index -/
theorem vx_throwSW {cc : ByteArray} {pc : Nat} (hexec : p.tables.exec = Jvm.exec) (hb : c.code = cc) (hl : l.stackTraces = false) {own cls text : String} {names : List String} {ik is ic mc ms sa : Nat} {A : Nat → Prop}
    (hown : s.vm.findClass own = some m.cls) (hcls : Bundle.fit cls = true) (hnames : ∀ n ∈ names, Bundle.fit n = true)
    (hk : (Cond.classLink own ik cls).before args s = true) (hini : (Cond.initialized cls).before args s = true) (hstr : vk_R own is text sa s) (hat : ∀ w ∈ vx_atS own ic cls names, w.before args s = true)
    (hgood : ∀ w ∈ Cond.classLink own ik cls :: Cond.initialized cls :: vx_atS own ic cls names, vx_ot w = true)
    (hU : vx_Zq Bundle.tN "UNASSIGNED_STACK" Bundle.steD A s s.heap) (hN : vx_Zq Bundle.tN "SUPPRESSED_SENTINEL" Bundle.listD A s s.heap) (hS : va_S A s.heap H locs) (hsize : ls.size = c.maxLocals)
    (d0 : decode cc pc = .ok (.new ik, 3)) (d3 : decode cc (pc + 3) = .ok (.dup, 1)) (d4 : decode cc (pc + 4) = .ok (.ldc_w is, 3)) (d7 : decode cc (pc + 7) = .ok (.invokespecial ic, 3)) (d10 : decode cc (pc + 10) = .ok (.athrow, 1))
    (hout : ∀ x ∈ c.exceptionTable.toList, covers x (pc + 10) = false)
    (hRframes : names.length + 3 < R.frames) (hRlocals : (rest.map fun v => v.category).sum + (13 * (names.length + 1) + 43) ≤ R.locals) (hRcells : cells + 1 ≤ R.cells) (hRslots : slots + 6 ≤ R.slots) (hlocks : meth.locks = false)
    (hx : ∀ t : State, s.vm.Alike t.vm → H.size ≤ t.heap.size → (∀ q : Nat, q < H.size → t.heap[q]? = H[q]?) → XC cls s t)
    (hf : ∀ z ∈ locs, free z.base) (hc : cells + 1 ≤ mc) (hs : slots + 6 ≤ ms) :
    W p l e R s m args below meth c H locs cells slots (vx_MQ below Qc XC args s mc ms free) (F0 m pc ls rest) := by
  intro T hT X
  have htr : e.platform.stackTraces = false := (show e.platform.stackTraces = l.stackTraces by rw [X.admits.platform]).trans hl
  have Y := vx_rebase X (R' := { frames := R.frames, locals := R.locals, cells := 1, slots := 6 }) (Nat.le_refl _) (Nat.le_refl _) hRcells hRslots
  obtain ⟨s', hA⟩ : ∃ z, z = (T.setVm s.vm).setFrames (.invoking m args :: below) := ⟨_, rfl⟩
  rw [← hA] at Y
  have hvm : s'.vm = s.vm := by rw [hA]; rfl
  have hhp : s'.heap = H := by rw [hA]; exact hT
  have hW0 : s.WarmedH s'.vm := by rw [hvm]; exact State.WarmedH.refl s
  have hat' : ∀ w ∈ vx_atS own ic cls names, w.before args s' = true := fun w hw => vx_ot_at hW0 hvm.symm (hgood w (List.mem_cons_of_mem _ (List.mem_cons_of_mem _ hw))) (hat w hw)
  have hk' : (Cond.classLink own ik cls).before args s' = true := vx_ot_at hW0 hvm.symm (hgood _ List.mem_cons_self) hk
  have hini' : (Cond.initialized cls).before args s' = true := vx_ot_at hW0 hvm.symm (hgood _ (List.mem_cons_of_mem _ List.mem_cons_self)) hini
  have hU' : vx_Zq Bundle.tN "UNASSIGNED_STACK" Bundle.steD A s' s'.heap := by rw [hhp]; exact vx_Zq.moved hW0.alike (hU.kept hS.2.1)
  have hN' : vx_Zq Bundle.tN "SUPPRESSED_SENTINEL" Bundle.listD A s' s'.heap := by rw [hhp]; exact vx_Zq.moved hW0.alike (hN.kept hS.2.1)
  have h : ∀ w ∈ Bundle.ownAtoms own ic cls names, w.before args s' = true := vx_own hat' (vx_isRefq hU'.1) (vx_isRefq hN'.1) hU'.2.word hN'.2.word
  have hown' : s'.vm.findClass own = some m.cls := by rw [hvm]; exact hown
  have hins : (Cond.instantiable cls 6).before args s' = true := h _ (by simp [Bundle.ownAtoms])
  obtain ⟨vm₁, cX, kX, hfX, hkX, -, -, X₁, st1⟩ := Y.newCold hexec (own := own) (C := cls) (index := ik) (n := 6) hown' hk' hins hini'
    (g := F0 m pc ls rest) rfl (by rw [hb]; exact d0) (Nat.le_refl _) (Nat.le_refl _)
  generalize hT1 : (T.setVm vm₁).pushCell { cls := cX, slots := kX.instanceTypes.map defaultValue, vm := .none } = T1 at X₁ st1
  have hcat : (Value.ref T.heap.size).category = 1 := rfl
  have hcellA : T1.heap[T.heap.size]? = some (freshCell cX kX) := by rw [← hT1]; exact State.heap_pushCell_size _ _
  have d3' : decode c.code (pc + 3) = .ok (.dup, 1) := by rw [hb]; exact d3
  have d4' : decode c.code (pc + 4) = .ok (.ldc_w is, 3) := by rw [hb]; exact d4
  have hstr' : vk_R own is text sa s' := vk_R.warm hW0 hstr
  obtain ⟨U, hsteps, hrun, hend, hW, hsame, ce, hce, hO⟩ := X₁.ctorThrowS hexec htr (own := own) (cls := cls) (names := names) (ic := ic) hown' hcls hnames h (fun x hx => nomatch hx) hfX hkX hcellA (by rw [hhp, hT]; exact Nat.le_refl _) (msg := .ref sa) rfl
    (g := { method := m, pc := pc + 7, locals := ls, stack := .ref sa :: .ref T.heap.size :: .ref T.heap.size :: rest, locked := none }) rfl hsize rfl rfl (rest := rest) rfl
    (by rw [hb]; exact d7) (by rw [hb]; exact d10) hout hRframes (by simp only [List.map_cons, List.sum_cons, hcat]; omega) hlocks
  obtain ⟨f1, f2⟩ := vx_frame hsame
  rw [hhp] at f1 f2
  have hWs : s.WarmedH U.vm := State.WarmedH.trans hW0 hW
  have hcl : s.vm.findClass cls = some ce.cls := by
    have h9 := hO.cls
    rw [hvm] at h9
    exact h9
  have hall : s.sameButNew ({ U with vm := s.vm } : State) locs mc ms := by
    subst hA
    obtain ⟨e1, e2⟩ := hsame
    rw [State.setFrames_setFrames] at e1
    have h2 : (T.setVm s.vm).sameButNew ({ U with vm := s.vm } : State) [] (0 + 1) (0 + 6) := ⟨e1, e2⟩
    have h3 := X.same.trans h2
    rw [List.append_nil] at h3
    exact h3.mono hc hs
  refine ⟨U, ?_, .threw T.heap.size, hrun, hend, Or.inr ⟨T.heap.size, rfl, cls, ce, locs, hx U hWs.alike f1 (fun q hq => f2 q hq (fun z hz => nomatch hz)), hce, hO.vm, hcl, hWs, hall, hf⟩⟩
  refine st1 _ ?_
  show Steps p.tables e below (T1.setTop { method := m, pc := pc + 3, locals := ls, stack := .ref T.heap.size :: rest, locked := none }) _
  jvm_step X₁.here [X₁.here.top, hexec, d3', Value.category]
  exact X₁.ldcStringW hexec (own := own) (text := text) (index := is) (a := sa) hown' hstr'.1 hstr'.2
    (g := { method := m, pc := pc + 4, locals := ls, stack := .ref T.heap.size :: .ref T.heap.size :: rest, locked := none }) rfl d4' _ hsteps
end Ends
section Bodies
variable {l : Launch}
theorem vx_ofW {y : MethodName} {ws ws' : List Cond} {rm : Room} {Pc : Array Value → State → Prop} {Qc : Array Value → State → Outcome → State → Prop} {XC : String → State → State → Prop} {mc ms : Nat} {free : Addr → Prop} {cc : ByteArray} {maxL : Nat} {ret : Option FieldType}
    (hy : plainName y.cls = true) (hw : ws = Cond.code y cc maxL ret :: ws')
    (body : ∀ p e s m args below meth c s₁, BodyLoose p l y (headSpec ws rm) cc maxL ret e s m args below meth c s₁ → c.maxLocals = maxL → (∀ x ∈ c.exceptionTable.toList, False) → Pc args s →
      W p l e (headSpec ws rm).room s m args below meth c s.heap [] 0 0 (vx_MQ below Qc XC args s mc ms free) (entryFrame m args maxL)) : vx_Met l y ws rm Pc Qc XC mc ms free := by
  refine MetFree.of_bodyS (code := cc) (maxLocals := maxL) (ret := ret) hy ?_ ?_
  · intro args s m h hn
    obtain ⟨meth, c, h1, h2, h3, h4, h5, h6, -, -⟩ := Cond.code_spec hn (atoms_spec (ws := ws) h _ (by rw [hw]; exact List.mem_cons_self))
    exact ⟨meth, c, h1, h2, h3, h4, h5, h6⟩
  · intro p e s m args below meth c s₁ B hml hP _
    have hh0 : s₁.heap = s.heap := by rw [B.state]; rfl
    have ht : ∀ x ∈ c.exceptionTable.toList, False := by
      obtain ⟨meth9, c9, h1, h2, -, -, -, -, h7, -⟩ := Cond.code_spec B.named (atoms_spec (ws := ws) B.pre _ (by rw [hw]; exact List.mem_cons_self))
      cases Option.some.inj (h1.symm.trans B.method)
      cases Option.some.inj (h2.symm.trans (Stand.of_body B).code)
      intro x hx
      rw [Array.isEmpty_iff.mp h7] at hx
      cases hx
    obtain ⟨t, a1, o, b1, b2, b3⟩ := body p e s m args below meth c s₁ B hml ht hP s₁ hh0 (Stand.of_body B)
    exact ⟨t, o, a1, b1, b2, b3⟩
/-- the table of a body with handlers -/
theorem vx_table {p : Program} {x y : MethodName} {S : Spec} {cc bytes : ByteArray} {maxL maxL' : Nat} {ret ret' : Option FieldType} {e : Env} {s s₁ : State} {m : MethodId} {args : Array Value} {below : List Frame} {meth : Method} {c : Code} {hh : List (Nat × Nat × Nat × Nat)}
    (B : BodyLoose p l y S cc maxL ret e s m args below meth c s₁) (h : (Cond.codeWith y bytes maxL' ret' hh).before args s = true) : c.exceptionTable.toList = tableOf hh := by
  obtain ⟨m9, meth9, c9, hn9, h1, h2, -, -, h6, -⟩ := Cond.codeWith_spec h
  cases Option.some.inj (hn9.symm.trans B.named)
  cases Option.some.inj (h1.symm.trans B.method)
  cases Option.some.inj (h2.symm.trans (Stand.of_body B).code)
  rw [← h6, table_eq]
end Bodies
end VXA
/-! ===== END ===== -/
/-! ===== BEGIN a static call of a method with an exception table ===== -/
section VXS
variable {p : Program} {l : Launch} {e : Env} {R : Room} {s : State} {m : MethodId} {args : Array Value} {below : List Frame} {meth : Method} {c : Code} {T : State} {H : Heap} {locs : List Loc} {cells slots : Nat}
abbrev vx_CSW (R : Room) (s : State) (args : Array Value) (own : String) (index : Nat) (y : MethodName) (bytes : ByteArray) (maxL : Nat) (ret : Option FieldType) (hh : List (Nat × Nat × Nat × Nat)) (ws : List Cond) (rm : Room) (mc ms n : Nat) : Prop :=
  (rm.cells = mc ∧ rm.slots = ms ∧ rm.frames + 1 ≤ R.frames ∧ 8 + (maxL + 11) + rm.locals ≤ R.locals ∧ (∀ w ∈ ws, ∀ (a' : Array Value) (U : State), s.WarmedH U.vm → w.before a' U = true) ∧ Cond.codeWith y bytes maxL ret hh ∈ ws) ∧
  (Cond.codeWith y bytes maxL ret hh).before args s = true ∧ (Cond.initialized y.cls).before args s = true ∧ (y.cls ≠ "java/lang/invoke/MethodHandle" ∧ y.cls ≠ "java/lang/invoke/VarHandle") ∧
  (∀ sig, parseMethodDescriptor y.desc = some sig → n = sig.parameters.length) ∧ (Cond.methodLink own index y).before args s = true ∧ (Cond.static y).before args s = true
theorem vx_cwSW {own : String} {index maxL mc ms : Nat} {y : MethodName} {bytes : ByteArray} {ret : Option FieldType} {hh : List (Nat × Nat × Nat × Nat)} {Ts ws ws' : List Cond} {rm : Room} (n : Nat) (ht : ∀ w ∈ Ts, w.before args s = true) (hT : GoodIn Ts (va_wsS own index y ws)) (hw : ws = Cond.codeWith y bytes maxL ret hh :: ws') (hrc : rm.cells = mc) (hrs : rm.slots = ms)
    (hd : y.cls ≠ "java/lang/invoke/MethodHandle" ∧ y.cls ≠ "java/lang/invoke/VarHandle" ∧ (parseMethodDescriptor y.desc).map (fun d => d.parameters.length) = some n) (hR : rm.frames + 1 ≤ R.frames ∧ 8 + (maxL + 11) + rm.locals ≤ R.locals) :
    vx_CSW R s args own index y bytes maxL ret hh ws rm mc ms n := by
  have ok : ∀ w ∈ va_wsS own index y ws, w.before args s = true := fun w h => ht w (hT w h).1
  have hG : GoodIn Ts ws := fun w h => hT w (by unfold va_wsS; exact List.mem_append_right _ h)
  have hc : Cond.codeWith y bytes maxL ret hh ∈ ws := by rw [hw]; exact List.mem_cons_self
  refine ⟨⟨hrc, hrs, hR.1, hR.2, pay_in ht hG, hc⟩, ht _ (hG _ hc).1, ok _ (by simp [va_wsS]), ⟨hd.1, hd.2.1⟩, fun sig h => ?_, ok _ (by simp [va_wsS]), ok _ (by simp [va_wsS])⟩
  have h2 := hd.2.2
  rw [h] at h2
  exact (Option.some.inj h2).symm
theorem vx_callSW (X : Stand p l e R s m args below meth c T locs cells slots) (hexec : p.tables.exec = Jvm.exec) {own : String} {index : Nat} {y : MethodName} {bytes : ByteArray} {maxL : Nat} {ret : Option FieldType} {hh : List (Nat × Nat × Nat × Nat)}
    (hown : s.vm.findClass own = some m.cls) (hlink : (Cond.methodLink own index y).before args s = true) (hstat : (Cond.static y).before args s = true) (hinit : (Cond.initialized y.cls).before args s = true)
    (hcode : (Cond.codeWith y bytes maxL ret hh).before args s = true) (hy : y.cls ≠ "java/lang/invoke/MethodHandle" ∧ y.cls ≠ "java/lang/invoke/VarHandle")
    {W9 : Nat} {Pre : Pt → Array Value → Prop} {Post : Pt → Array Value → Option Value → Pt → Prop} (hK : Back l R p e below s args y 3 W9 Pre Post)
    {g : JFrame} (hg : g.method = m) (hsize : g.locals.size = c.maxLocals) {argsL rest : List Value} (hlen : ∀ sig, parseMethodDescriptor y.desc = some sig → argsL.length = sig.parameters.length)
    (hstack : g.stack = argsL.reverse ++ rest) (hW : 2 * g.monitorRoom + (rest.map fun v => v.category).sum ≤ W9) (hdg : decode c.code g.pc = .ok (.invokestatic index, 3))
    (hpre : ∀ vm₁, s.WarmedH vm₁ → Pre ⟨T.setVm vm₁, locs, cells, slots⟩ argsL.toArray) :
    ∃ (v : Option Value) (vm₁ : Vm) (B : Pt), s.WarmedH vm₁ ∧ Stand p l e R s m args below meth c B.U B.locs B.cells B.slots ∧ Post ⟨T.setVm vm₁, locs, cells, slots⟩ argsL.toArray v B ∧
      ∀ target, Steps p.tables e below (B.U.setTop { g with pc := g.pc + 3, stack := v.toList ++ rest }) target → Steps p.tables e below (T.setTop g) target := by
  obtain ⟨mk, methM, cM, hnamed, hmethM, -, -, -, -, -, -, hsigM⟩ := Cond.codeWith_spec hcode
  have hstatic : methM.isStatic = true := Cond.static_spec hnamed hmethM hstat
  obtain ⟨kP, hkP, -⟩ := className_of_methodNamed hnamed
  have hinitP : kP.init = .initialized := Cond.initialized_spec (findClass_of_methodNamed hnamed) hkP hinit
  obtain ⟨vm₁, X₁, hstep₁⟩ := X.invokestatic hexec hown hlink hnamed hmethM hstatic hkP hinitP hy (g := g) hg (argsL := argsL) (rest := rest) (hlen _ hsigM) hstack hdg
  obtain ⟨v, B, X', hpost, hsteps⟩ := hK m meth c ⟨T.setVm vm₁, locs, cells, slots⟩ { g with stack := rest } (.invokestatic index) mk argsL.toArray X₁ hg hsize hdg hW (X₁.named hnamed) (hpre vm₁ X₁.warmed)
  exact ⟨v, vm₁, B, X₁.warmed, X', hpost, fun target h => hstep₁ _ fun acts => by rw [doInvoke_state]; exact hsteps.trans h⟩
theorem vx_runSW {y : MethodName} {bytes cc : ByteArray} {maxL nL mc ms n index : Nat} {ret : Option FieldType} {hh : List (Nat × Nat × Nat × Nat)} {ws : List Cond} {rm : Room} {Pc : Array Value → State → Prop} {Qc : Array Value → State → Outcome → State → Prop} {free : Addr → Prop} {Ts : List Cond} {own : String} {As rest : List Value} {g : JFrame}
    (S : CallFix p m c cc nL s args Ts own) (hM : Met l y ws rm Pc Qc mc ms free) (cw : vx_CSW R s args own index y bytes maxL ret hh ws rm mc ms n) (hp : PreS s H Pc As)
    (hg : g.method = m) (hn : As.length = n) (hsize : g.locals.size = nL) (hstack : g.stack = As.reverse ++ rest) (hW : 2 * g.monitorRoom + (rest.map fun v => v.category).sum ≤ 8) (hdg : decode cc g.pc = .ok (.invokestatic index, 3)) (hf : cells + mc ≤ R.cells ∧ slots + ms ≤ R.slots) :
    va_Run p l e R s m args below meth c H locs cells slots mc ms g rest (Qc As.toArray) (free) := by
  obtain ⟨⟨hrc, hrs, hfr, hlo, hws, hcw⟩, hcode, hini, hy, hlen, hl, hstt⟩ := cw
  have hK : Back l R p e below s args y 3 8 (PreOf R mc ms Pc) (PostOf Qc mc ms free) := va_backW (hh := hh) (bytes := bytes) (maxL := maxL) (ret := ret) hM hp.1 hrc hrs hfr hlo hws hcw (fun a' U hW => word_at hW (Or.inl (by first | rfl | simp [Cond.onTables, Cond.keeps, Cond.steady])) hini)
  obtain ⟨hx, hb, hml, ho, -⟩ := S
  intro T hT X
  obtain ⟨v, vm₁, ⟨U', l2, c2, s2⟩, hW₁, X', ⟨g', mk, t, L, e1, e2, hq, h1, hL, h2, h3⟩, st⟩ := vx_callSW X hx (hh := hh) (bytes := bytes) (maxL := maxL) (ret := ret) ho hl hstt hini hcode hy hK hg (hsize.trans hml.symm) (argsL := As) (rest := rest) (fun sig h => hn.trans (hlen sig h)) hstack hW (by rw [hb]; exact hdg)
    (fun vm₁ hW₁ => ⟨hf.1, hf.2, hp.2 (T.setVm vm₁) hT hW₁⟩)
  dsimp only [Pt.U, Pt.locs, Pt.cells, Pt.slots] at X' e1 e2 h1 h2 h3 st
  subst h1; subst h2; subst h3
  exact ⟨v, (T.setVm vm₁).calling g' mk As.toArray, t, U', L, hT, X', hL, e1, e2, hq, st⟩
/-- not caught here, past rows that name other classes: it goes on to the caller -/
theorem vx_outP {p : Program} {l : Launch} {e : Env} {R : Room} {s : State} {m : MethodId} {args : Array Value} {below : List Frame} {meth : Method} {c : Code} {H : Heap} {locs : List Loc} {cells slots : Nat} {free : Addr → Prop} {ls : Array Slot} {rest : List Value} {Qc : Array Value → State → Outcome → State → Prop} {XC : String → State → State → Prop}
    {pc : Nat} {own E : String} {ce : Cell} {q : Addr} {mc ms : Nat} (hown : s.vm.findClass own = some m.cls) (hlocks : meth.locks = false)
    (hpass : ∀ z ∈ c.exceptionTable.toList, covers z pc = false ∨ (z.catchType ≠ 0 ∧ ∃ nm : String, (Cond.classLink own z.catchType nm).before args s = true ∧ va_Nc E nm s)) (hcell : H[q]? = some ce) (hv : ce.vm = .none) (hcl : s.vm.findClass E = some ce.cls)
    (hx : ∀ t : State, t.heap = H → s.vm.Alike t.vm → XC E s t) (hf : ∀ z ∈ locs, free z.base) (hc : cells ≤ mc) (hs : slots ≤ ms) :
    vx_W p l e R s m args below meth c H locs cells slots (vx_MQ below Qc XC args s mc ms free) (F0 m pc ls rest) q := by
  intro T hT X
  have hpl : e.platform.magicAccessors = ({} : Platform).magicAccessors := by rw [X.admits.platform]
  obtain ⟨vm', hW', X', st⟩ := X.outThrough hlocks q (g := F0 m pc ls rest) rfl rfl rfl (cell := ce) (by rw [hT]; exact hcell) (by rw [hv]; rfl)
    (by obtain ⟨k9, h9, -⟩ := Vm.findClass_spec hcl; exact ⟨k9, h9⟩) (fun z hz => by
      rcases hpass z hz with h | ⟨hz0, nm, hl1, hn1⟩
      · exact Or.inl h
      · obtain ⟨c6, hc6, hcl6⟩ := Cond.classLink_spec hown hl1 e.platform hpl
        obtain ⟨a8, b8, h1, h2, h3⟩ := hn1
        cases Option.some.inj (h1.symm.trans hcl)
        cases Option.some.inj (h2.symm.trans hc6)
        exact Or.inr ⟨hz0, _, hcl6, h3⟩)
  obtain ⟨g₀, hfr⟩ := X'.frames_eq
  have hcell9 : ((T.setVm vm').setFrames (.throwing q :: below)).heap[q]? = some ce := by
    show T.heap[q]? = some ce
    rw [hT]; exact hcell
  have hend : Ended ((T.setVm vm').setFrames (.throwing q :: below)) below (.threw q) := State.frames_setFrames _ (State.cur_lt_of_frames hfr)
  refine ⟨(T.setVm vm').setFrames (.throwing q :: below), ?_, .threw q, X'.here.running, hend, Or.inr ⟨q, rfl, E, ce, locs, hx _ hT (X'.ends _).1.alike, hcell9, hv, hcl, (X'.ends _).1, (X'.ends _).2.mono hc hs, hf⟩⟩
  rw [X.pushThrowing_eq]
  exact st
/-- a thing of a world lies in the heap -/
theorem vx_lt {D : va_G} {cl : List vw_C} {ws : va_W} {H1 : Heap} (h : va_P D cl ws H1) {k : Nat} {q : Nat × va_E} (hk : ws[k]? = some q) : q.1 < H1.size := (h k q hk).lt
end VXS
/-! ===== END ===== -/
/-! ===== BEGIN methods with a table of their own: called by a name, returning or throwing ===== -/
section VXH
/-! vx_backW, vx_callVX, vx_callSX, vx_callVW, vx_runVW, vx_runVX, vx_runSX, vx_ofWH follow the same proofs as their sisters above (Free/Laws.lean, Shelf42/LK1.lean); vx_outP calls Shelf42/NT130.lean (outThrough). -/
section
variable {l : Launch} {R : Room} {p : Program} {e : Env} {below : List Frame} {s : State} {sargs : Array Value} {y : MethodName} {len W9 : Nat}
theorem vx_backW {ws : List Cond} {rm : Room} {Pc : Array Value → State → Prop} {Qc : Array Value → State → Outcome → State → Prop} {XC : String → State → State → Prop} {mc ms : Nat} {free : Addr → Prop} {bytes : ByteArray} {maxL : Nat} {ret : Option FieldType} {hh : List (Nat × Nat × Nat × Nat)}
    (hM : vx_Met l y ws rm Pc Qc XC mc ms free) (hblind : FrameBlind Pc) (hrc : rm.cells = mc) (hrs : rm.slots = ms)
    (hframes : rm.frames + 1 ≤ R.frames) (hlocals : W9 + (maxL + 11) + rm.locals ≤ R.locals)
    (hws : ∀ w ∈ ws, ∀ a' U, s.WarmedH U.vm → w.before a' U = true) (hcode : Cond.codeWith y bytes maxL ret hh ∈ ws) (hinit : ∀ a' U, s.WarmedH U.vm → (Cond.initialized y.cls).before a' U = true) :
    vx_Back l R p e below s sargs y len W9 (PreOf R mc ms Pc) (PostOf Qc mc ms free) (vx_Post XC mc ms free) := by
  intro m meth c A g ig mk a X hg hsize hdg hW hn hp
  have h1 : (headSpec ws rm).pre.before a A.U = true := atoms_intro fun w hw => hws w hw _ _ X.warmed
  have h2 : (Cond.codeWith y bytes maxL ret hh).before a A.U = true := hws _ hcode _ _ X.warmed
  have h3 : (Cond.initialized y.cls).before a A.U = true := hinit _ _ X.warmed
  have h4 : A.cells + (headSpec ws rm).room.cells ≤ R.cells := by rw [show (headSpec ws rm).room.cells = mc from hrc]; exact hp.1
  have h5 : A.slots + (headSpec ws rm).room.slots ≤ R.slots := by rw [show (headSpec ws rm).room.slots = ms from hrs]; exact hp.2.1
  have hPc : Pc a (A.U.calling g mk a) := hblind _ _ _ _ hp.2.2
  obtain ⟨U, Ls, c0, s0⟩ := A
  dsimp only [Pt.U, Pt.locs, Pt.cells, Pt.slots] at h1 h2 h3 h4 h5 X hn hPc ⊢
  obtain ⟨m9, methY, cY, hn9, hmY, hcY, -, hlY, -⟩ := Cond.codeWith_spec h2
  cases Option.some.inj (hn9.symm.trans hn)
  obtain ⟨kY, hkY, -⟩ := className_of_methodNamed hn
  have hinitY : kY.init = .initialized := Cond.initialized_spec (findClass_of_methodNamed hn) hkY h3
  have h : At U g.method c below := by rw [hg]; exact X.here
  have hlocals9 : W9 + (maxL + 11) + (headSpec ws rm).room.locals ≤ R.locals := hlocals
  have happ : (headSpec ws rm).appliesLoose y e.platform (U.calling g mk a) = true :=
    Spec.appliesLoose_calling (g := g) h hdg hn hkY hinitY
      (X.room_calling (g := g) (R' := (headSpec ws rm).room) hsize hmY hcY hframes (by rw [hlY]; omega) h4 h5) h1
  obtain ⟨mid, hmid⟩ := h.above
  have hfr : (U.setTop g).frames = (.java g :: mid) ++ below := by rw [State.frames_setTop' g h.top, hmid]; rfl
  obtain ⟨o, s₂, hsteps, -, hend, hq⟩ := Steps.callFree hM p X.admits X.cas X.clock (acts := []) hfr happ hPc trivial
  have hq' : vx_Q Qc XC mc ms free a (U.calling g mk a) o s₂ := hq
  rw [State.frames_setTop' g h.top] at hend
  obtain ⟨g₀, hg0⟩ := Option.isSome_iff_exists.mp h.top
  obtain ⟨r, hr⟩ := State.topJava?_eq_some.mp hg0
  have hr' : (({ U with heap := s₂.heap, slotsUsed := s₂.slotsUsed } : State).setVm s₂.vm).frames = .java g₀ :: r := hr
  rcases hq' with ⟨hqc, L, hfe, hL⟩ | ⟨q, rfl, E, ce, L, hx, hce, hcv, hcl, hW₂, hsm, hL⟩
  · obtain ⟨⟨v, rfl⟩, hW₂, e2, q2, q3, q4, q5, q6⟩ := id hfe
    have e3 : s₂ = ({ (U.calling g mk a).setFrames s₂.frames with heap := s₂.heap, slotsUsed := s₂.slotsUsed } : State).setVm s₂.vm := by
      have : s₂ = ({ s₂ with vm := (U.calling g mk a).vm } : State).setVm s₂.vm := rfl
      rw [e2] at this
      exact this
    obtain ⟨c₂, i₂, len₂, hc₂, hd₂, hf₂⟩ := hend
    have hW' : U.WarmedH s₂.vm := hW₂
    have hcc : c₂ = c := by
      have h1 : s₂.code? g.method = U.code? g.method := by
        rw [State.code?_eq, State.code?_eq, hW'.alike.method?]
      exact Option.some.inj (hc₂.symm.trans (h1.trans h.code))
    subst hcc
    have hlen : len₂ = len := by rw [hdg] at hd₂; cases hd₂; rfl
    subst hlen
    have hs₂ : s₂ = (({ U with heap := s₂.heap, slotsUsed := s₂.slotsUsed } : State).setVm s₂.vm).setTop { g with pc := g.pc + len₂, stack := v.toList ++ g.stack } := by
      refine e3.trans ?_
      rw [hf₂, State.calling_eq h.top, State.setFrames_setFrames, State.setTop_of_frames _ hr', hr]
      rfl
    have hsame : U.sameButNew ({ U with heap := s₂.heap, slotsUsed := s₂.slotsUsed } : State) L mc ms := by
      refine ⟨?_, q2, q3, q4, q5, q6⟩
      obtain ⟨t, ht, -⟩ := State.frames_cons hr
      show ({ U with heap := s₂.heap, slotsUsed := s₂.slotsUsed } : State) = { U.setFrames U.frames with heap := s₂.heap, slotsUsed := s₂.slotsUsed }
      rw [State.setFrames_self ht]
    subst hg
    refine Or.inl ⟨v, ⟨(({ U with heap := s₂.heap, slotsUsed := s₂.slotsUsed } : State).setVm s₂.vm), Ls ++ L, c0 + mc, s0 + ms⟩,
      ⟨X.admits, X.cas, X.clock, X.frames, X.room, X.hears, X.method, X.code, (X.here.setHeapUsed s₂.heap s₂.slotsUsed).setVm hW'.alike, X.tail, State.WarmedH.trans X.warmed hW', X.limits, X.bytes, X.same.trans (hsame.setVm s.vm)⟩,
      ⟨g, mk, s₂, L, rfl, rfl, hqc, rfl, hL, rfl, rfl⟩, ?_⟩
    show Steps p.tables e below _ ((({ U with heap := s₂.heap, slotsUsed := s₂.slotsUsed } : State).setVm s₂.vm).setTop { g with pc := g.pc + len₂, stack := v.toList ++ g.stack })
    rw [← hs₂]
    exact hsteps
  · obtain ⟨e2, q2, q3, q4, q5, q6⟩ := id hsm
    have e3 : s₂ = ({ (U.calling g mk a).setFrames s₂.frames with heap := s₂.heap, slotsUsed := s₂.slotsUsed } : State).setVm s₂.vm := by
      have : s₂ = ({ s₂ with vm := (U.calling g mk a).vm } : State).setVm s₂.vm := rfl
      rw [e2] at this
      exact this
    have hf₂ : s₂.frames = .throwing q :: .java g :: U.frames.tail := hend
    have hW' : U.WarmedH s₂.vm := hW₂
    have hs₂ : s₂ = ((({ U with heap := s₂.heap, slotsUsed := s₂.slotsUsed } : State).setVm s₂.vm).setTop g).pushFrame (.throwing q) := by
      refine e3.trans ?_
      rw [hf₂, State.calling_eq h.top, State.setFrames_setFrames, State.pushFrame, State.frames_setTop _ hr', State.setTop_of_frames _ hr', State.setFrames_setFrames, hr]
      rfl
    have hsame : U.sameButNew ({ U with heap := s₂.heap, slotsUsed := s₂.slotsUsed } : State) L mc ms := by
      refine ⟨?_, q2, q3, q4, q5, q6⟩
      obtain ⟨t, ht, -⟩ := State.frames_cons hr
      show ({ U with heap := s₂.heap, slotsUsed := s₂.slotsUsed } : State) = { U.setFrames U.frames with heap := s₂.heap, slotsUsed := s₂.slotsUsed }
      rw [State.setFrames_self ht]
    subst hg
    refine Or.inr ⟨q, ⟨(({ U with heap := s₂.heap, slotsUsed := s₂.slotsUsed } : State).setVm s₂.vm), Ls ++ L, c0 + mc, s0 + ms⟩,
      ⟨X.admits, X.cas, X.clock, X.frames, X.room, X.hears, X.method, X.code, (X.here.setHeapUsed s₂.heap s₂.slotsUsed).setVm hW'.alike, X.tail, State.WarmedH.trans X.warmed hW', X.limits, X.bytes, X.same.trans (hsame.setVm s.vm)⟩,
      ⟨g, mk, s₂, L, E, ce, rfl, rfl, hx, hce, hcv, hcl, rfl, hL, rfl, rfl⟩, ?_⟩
    show Steps p.tables e below _ (((({ U with heap := s₂.heap, slotsUsed := s₂.slotsUsed } : State).setVm s₂.vm).setTop g).pushFrame (.throwing q))
    rw [← hs₂]
    exact hsteps
end
variable {p : Program} {l : Launch} {e : Env} {R : Room} {s : State} {m : MethodId} {args : Array Value} {below : List Frame} {meth : Method} {c : Code} {T : State} {H : Heap} {locs : List Loc} {cells slots : Nat}
theorem vx_callVX (X : Stand p l e R s m args below meth c T locs cells slots) (hexec : p.tables.exec = Jvm.exec) {own C : String} {index : Nat} {y : MethodName} {bytes : ByteArray} {maxL : Nat} {ret : Option FieldType} {hh : List (Nat × Nat × Nat × Nat)}
    (hown : s.vm.findClass own = some m.cls) (hlink : (Cond.methodLink own index y).before args s = true) (hinst : (Cond.instanceMethod y).before args s = true) (hsel : (Cond.selects C y y).before args s = true)
    (hcode : (Cond.codeWith y bytes maxL ret hh).before args s = true) (hy : y.cls ≠ "java/lang/invoke/MethodHandle" ∧ y.cls ≠ "java/lang/invoke/VarHandle")
    {W9 : Nat} {Pre : Pt → Array Value → Prop} {Post : Pt → Array Value → Option Value → Pt → Prop} {PostX : Pt → Array Value → Addr → Pt → Prop} (hK : vx_Back l R p e below s args y 3 W9 Pre Post PostX)
    {b : Addr} {cellB : Cell} (hcell : T.heap[b]? = some cellB) (hobj : cellB.vm.isStatics = false) (hcls : s.vm.findClass C = some cellB.cls)
    {g : JFrame} (hg : g.method = m) (hsize : g.locals.size = c.maxLocals) {argsL rest : List Value} (hlen : ∀ sig, parseMethodDescriptor y.desc = some sig → argsL.length = sig.parameters.length)
    (hstack : g.stack = argsL.reverse ++ .ref b :: rest) (hW : 2 * g.monitorRoom + (rest.map fun v => v.category).sum ≤ W9) (hdg : decode c.code g.pc = .ok (.invokevirtual index, 3))
    (hpre : ∀ vm₁, s.WarmedH vm₁ → Pre ⟨T.setVm vm₁, locs, cells, slots⟩ (Value.ref b :: argsL).toArray) :
    (∃ (v : Option Value) (vm₁ : Vm) (B : Pt), s.WarmedH vm₁ ∧ Stand p l e R s m args below meth c B.U B.locs B.cells B.slots ∧ Post ⟨T.setVm vm₁, locs, cells, slots⟩ (Value.ref b :: argsL).toArray v B ∧
      ∀ target, Steps p.tables e below (B.U.setTop { g with pc := g.pc + 3, stack := v.toList ++ rest }) target → Steps p.tables e below (T.setTop g) target) ∨
    (∃ (q : Addr) (vm₁ : Vm) (B : Pt), s.WarmedH vm₁ ∧ Stand p l e R s m args below meth c B.U B.locs B.cells B.slots ∧ PostX ⟨T.setVm vm₁, locs, cells, slots⟩ (Value.ref b :: argsL).toArray q B ∧
      Steps p.tables e below (T.setTop g) ((B.U.setTop { g with stack := rest }).pushFrame (.throwing q))) := by
  obtain ⟨mk, methM, hnamed, hmethM, hstM, habM⟩ := Cond.instanceMethod_spec hinst
  obtain ⟨m8, methM', cM, hn8, hmethM', -, -, -, -, -, -, hsigM⟩ := Cond.codeWith_spec hcode
  cases Option.some.inj (hn8.symm.trans hnamed)
  cases hmethM.symm.trans hmethM'
  obtain ⟨c2, r2, m2, q1, q2, q3, q4, kP, hkP, hkPi⟩ := Cond.selects_spec hsel
  cases hcls.symm.trans q1
  cases (State.methodFound?_of_named hnamed hy).symm.trans q2
  cases hnamed.symm.trans q3
  have hselP : selectMethod e.platform s.vm cellB.cls mk = .method mk := by rw [Launch.admits_selectMethod X.admits]; exact q4
  obtain ⟨vm₁, X₁, hstep₁⟩ := X.invokevirtual hexec hown hlink hnamed hmethM hstM hkP hkPi hy (a := b) (cell := cellB) hcell
    (fun z h => by rw [h] at hobj; cases hobj) hselP hmethM habM hkP hkPi (g := g) hg (argsL := argsL) (rest := rest) (hlen _ hsigM) hstack hdg
  rcases hK m meth c ⟨T.setVm vm₁, locs, cells, slots⟩ { g with stack := rest } (.invokevirtual index) mk (Value.ref b :: argsL).toArray X₁ hg hsize hdg hW (X₁.named hnamed) (hpre vm₁ X₁.warmed) with ⟨v, B, X', hpost, hsteps⟩ | ⟨q, B, X', hpost, hsteps⟩
  · exact Or.inl ⟨v, vm₁, B, X₁.warmed, X', hpost, fun target h => hstep₁ _ fun acts => by rw [doInvoke_state]; exact hsteps.trans h⟩
  · exact Or.inr ⟨q, vm₁, B, X₁.warmed, X', hpost, hstep₁ _ fun acts => by rw [doInvoke_state]; exact hsteps⟩
theorem vx_callSX (X : Stand p l e R s m args below meth c T locs cells slots) (hexec : p.tables.exec = Jvm.exec) {own : String} {index : Nat} {y : MethodName} {bytes : ByteArray} {maxL : Nat} {ret : Option FieldType} {hh : List (Nat × Nat × Nat × Nat)}
    (hown : s.vm.findClass own = some m.cls) (hlink : (Cond.methodLink own index y).before args s = true) (hstat : (Cond.static y).before args s = true) (hinit : (Cond.initialized y.cls).before args s = true)
    (hcode : (Cond.codeWith y bytes maxL ret hh).before args s = true) (hy : y.cls ≠ "java/lang/invoke/MethodHandle" ∧ y.cls ≠ "java/lang/invoke/VarHandle")
    {W9 : Nat} {Pre : Pt → Array Value → Prop} {Post : Pt → Array Value → Option Value → Pt → Prop} {PostX : Pt → Array Value → Addr → Pt → Prop} (hK : vx_Back l R p e below s args y 3 W9 Pre Post PostX)
    {g : JFrame} (hg : g.method = m) (hsize : g.locals.size = c.maxLocals) {argsL rest : List Value} (hlen : ∀ sig, parseMethodDescriptor y.desc = some sig → argsL.length = sig.parameters.length)
    (hstack : g.stack = argsL.reverse ++ rest) (hW : 2 * g.monitorRoom + (rest.map fun v => v.category).sum ≤ W9) (hdg : decode c.code g.pc = .ok (.invokestatic index, 3))
    (hpre : ∀ vm₁, s.WarmedH vm₁ → Pre ⟨T.setVm vm₁, locs, cells, slots⟩ argsL.toArray) :
    (∃ (v : Option Value) (vm₁ : Vm) (B : Pt), s.WarmedH vm₁ ∧ Stand p l e R s m args below meth c B.U B.locs B.cells B.slots ∧ Post ⟨T.setVm vm₁, locs, cells, slots⟩ argsL.toArray v B ∧
      ∀ target, Steps p.tables e below (B.U.setTop { g with pc := g.pc + 3, stack := v.toList ++ rest }) target → Steps p.tables e below (T.setTop g) target) ∨
    (∃ (q : Addr) (vm₁ : Vm) (B : Pt), s.WarmedH vm₁ ∧ Stand p l e R s m args below meth c B.U B.locs B.cells B.slots ∧ PostX ⟨T.setVm vm₁, locs, cells, slots⟩ argsL.toArray q B ∧
      Steps p.tables e below (T.setTop g) ((B.U.setTop { g with stack := rest }).pushFrame (.throwing q))) := by
  obtain ⟨mk, methM, cM, hnamed, hmethM, -, -, -, -, -, -, hsigM⟩ := Cond.codeWith_spec hcode
  have hstatic : methM.isStatic = true := Cond.static_spec hnamed hmethM hstat
  obtain ⟨kP, hkP, -⟩ := className_of_methodNamed hnamed
  have hinitP : kP.init = .initialized := Cond.initialized_spec (findClass_of_methodNamed hnamed) hkP hinit
  obtain ⟨vm₁, X₁, hstep₁⟩ := X.invokestatic hexec hown hlink hnamed hmethM hstatic hkP hinitP hy (g := g) hg (argsL := argsL) (rest := rest) (hlen _ hsigM) hstack hdg
  rcases hK m meth c ⟨T.setVm vm₁, locs, cells, slots⟩ { g with stack := rest } (.invokestatic index) mk argsL.toArray X₁ hg hsize hdg hW (X₁.named hnamed) (hpre vm₁ X₁.warmed) with ⟨v, B, X', hpost, hsteps⟩ | ⟨q, B, X', hpost, hsteps⟩
  · exact Or.inl ⟨v, vm₁, B, X₁.warmed, X', hpost, fun target h => hstep₁ _ fun acts => by rw [doInvoke_state]; exact hsteps.trans h⟩
  · exact Or.inr ⟨q, vm₁, B, X₁.warmed, X', hpost, hstep₁ _ fun acts => by rw [doInvoke_state]; exact hsteps⟩
theorem vx_callVW (X : Stand p l e R s m args below meth c T locs cells slots) (hexec : p.tables.exec = Jvm.exec) {own C : String} {index : Nat} {y : MethodName} {bytes : ByteArray} {maxL : Nat} {ret : Option FieldType} {hh : List (Nat × Nat × Nat × Nat)}
    (hown : s.vm.findClass own = some m.cls) (hlink : (Cond.methodLink own index y).before args s = true) (hinst : (Cond.instanceMethod y).before args s = true) (hsel : (Cond.selects C y y).before args s = true)
    (hcode : (Cond.codeWith y bytes maxL ret hh).before args s = true) (hy : y.cls ≠ "java/lang/invoke/MethodHandle" ∧ y.cls ≠ "java/lang/invoke/VarHandle")
    {W9 : Nat} {Pre : Pt → Array Value → Prop} {Post : Pt → Array Value → Option Value → Pt → Prop} (hK : Back l R p e below s args y 3 W9 Pre Post)
    {b : Addr} {cellB : Cell} (hcell : T.heap[b]? = some cellB) (hobj : cellB.vm.isStatics = false) (hcls : s.vm.findClass C = some cellB.cls)
    {g : JFrame} (hg : g.method = m) (hsize : g.locals.size = c.maxLocals) {argsL rest : List Value} (hlen : ∀ sig, parseMethodDescriptor y.desc = some sig → argsL.length = sig.parameters.length)
    (hstack : g.stack = argsL.reverse ++ .ref b :: rest) (hW : 2 * g.monitorRoom + (rest.map fun v => v.category).sum ≤ W9) (hdg : decode c.code g.pc = .ok (.invokevirtual index, 3))
    (hpre : ∀ vm₁, s.WarmedH vm₁ → Pre ⟨T.setVm vm₁, locs, cells, slots⟩ (Value.ref b :: argsL).toArray) :
    ∃ (v : Option Value) (vm₁ : Vm) (B : Pt), s.WarmedH vm₁ ∧ Stand p l e R s m args below meth c B.U B.locs B.cells B.slots ∧ Post ⟨T.setVm vm₁, locs, cells, slots⟩ (Value.ref b :: argsL).toArray v B ∧
      ∀ target, Steps p.tables e below (B.U.setTop { g with pc := g.pc + 3, stack := v.toList ++ rest }) target → Steps p.tables e below (T.setTop g) target := by
  obtain ⟨mk, methM, hnamed, hmethM, hstM, habM⟩ := Cond.instanceMethod_spec hinst
  obtain ⟨m8, methM', cM, hn8, hmethM', -, -, -, -, -, -, hsigM⟩ := Cond.codeWith_spec hcode
  cases Option.some.inj (hn8.symm.trans hnamed)
  cases hmethM.symm.trans hmethM'
  obtain ⟨c2, r2, m2, q1, q2, q3, q4, kP, hkP, hkPi⟩ := Cond.selects_spec hsel
  cases hcls.symm.trans q1
  cases (State.methodFound?_of_named hnamed hy).symm.trans q2
  cases hnamed.symm.trans q3
  have hselP : selectMethod e.platform s.vm cellB.cls mk = .method mk := by rw [Launch.admits_selectMethod X.admits]; exact q4
  obtain ⟨vm₁, X₁, hstep₁⟩ := X.invokevirtual hexec hown hlink hnamed hmethM hstM hkP hkPi hy (a := b) (cell := cellB) hcell
    (fun z h => by rw [h] at hobj; cases hobj) hselP hmethM habM hkP hkPi (g := g) hg (argsL := argsL) (rest := rest) (hlen _ hsigM) hstack hdg
  obtain ⟨v, B, X', hpost, hsteps⟩ := hK m meth c ⟨T.setVm vm₁, locs, cells, slots⟩ { g with stack := rest } (.invokevirtual index) mk (Value.ref b :: argsL).toArray X₁ hg hsize hdg hW (X₁.named hnamed) (hpre vm₁ X₁.warmed)
  exact ⟨v, vm₁, B, X₁.warmed, X', hpost, fun target h => hstep₁ _ fun acts => by rw [doInvoke_state]; exact hsteps.trans h⟩
abbrev vx_CVW (R : Room) (s : State) (args : Array Value) (own C : String) (index : Nat) (y : MethodName) (bytes : ByteArray) (maxL : Nat) (ret : Option FieldType) (hh : List (Nat × Nat × Nat × Nat)) (ws : List Cond) (rm : Room) (mc ms n : Nat) : Prop :=
  (rm.cells = mc ∧ rm.slots = ms ∧ rm.frames + 1 ≤ R.frames ∧ 8 + (maxL + 11) + rm.locals ≤ R.locals ∧ (∀ w ∈ ws, ∀ (a' : Array Value) (U : State), s.WarmedH U.vm → w.before a' U = true) ∧ Cond.codeWith y bytes maxL ret hh ∈ ws) ∧
  (Cond.codeWith y bytes maxL ret hh).before args s = true ∧ (Cond.initialized y.cls).before args s = true ∧ (y.cls ≠ "java/lang/invoke/MethodHandle" ∧ y.cls ≠ "java/lang/invoke/VarHandle") ∧
  (∀ sig, parseMethodDescriptor y.desc = some sig → n = sig.parameters.length) ∧ (Cond.methodLink own index y).before args s = true ∧ (Cond.instanceMethod y).before args s = true ∧ (Cond.selects C y y).before args s = true
theorem vx_cwVW {own C : String} {index maxL mc ms : Nat} {y : MethodName} {bytes : ByteArray} {ret : Option FieldType} {hh : List (Nat × Nat × Nat × Nat)} {Ts ws ws' : List Cond} {rm : Room} (n : Nat) (ht : ∀ w ∈ Ts, w.before args s = true) (hT : GoodIn Ts (wsV own index C y ws)) (hw : ws = Cond.codeWith y bytes maxL ret hh :: ws') (hrc : rm.cells = mc) (hrs : rm.slots = ms)
    (hd : y.cls = C ∧ y.cls ≠ "java/lang/invoke/MethodHandle" ∧ y.cls ≠ "java/lang/invoke/VarHandle" ∧ (parseMethodDescriptor y.desc).map (fun d => d.parameters.length) = some n) (hR : rm.frames + 1 ≤ R.frames ∧ 8 + (maxL + 11) + rm.locals ≤ R.locals) :
    vx_CVW R s args own C index y bytes maxL ret hh ws rm mc ms n := by
  obtain ⟨hC, hd⟩ := hd
  subst hC
  have ok : ∀ w ∈ wsV own index y.cls y ws, w.before args s = true := fun w h => ht w (hT w h).1
  have hG : GoodIn Ts ws := fun w h => hT w (by unfold wsV; exact List.mem_append_right _ h)
  have hc : Cond.codeWith y bytes maxL ret hh ∈ ws := by rw [hw]; exact List.mem_cons_self
  refine ⟨⟨hrc, hrs, hR.1, hR.2, pay_in ht hG, hc⟩, ht _ (hG _ hc).1, ok _ (by simp [wsV]), ⟨hd.1, hd.2.1⟩, fun sig h => ?_, ok _ (by simp [wsV]), ok _ (by simp [wsV]), ok _ (by simp [wsV])⟩
  have h2 := hd.2.2
  rw [h] at h2
  exact (Option.some.inj h2).symm
theorem vx_runVW {y : MethodName} {bytes cc : ByteArray} {maxL nL mc ms n index : Nat} {ret : Option FieldType} {hh : List (Nat × Nat × Nat × Nat)} {ws : List Cond} {rm : Room} {Pc : Array Value → State → Prop} {Qc : Array Value → State → Outcome → State → Prop} {free : Addr → Prop} {Ts : List Cond} {own C : String} {b : Addr} {As rest : List Value} {g : JFrame}
    (S : CallFix p m c cc nL s args Ts own) (hM : Met l y ws rm Pc Qc mc ms free) (cw : vx_CVW R s args own C index y bytes maxL ret hh ws rm mc ms n) (hp : PreV s H C b Pc As)
    (hg : g.method = m) (hn : As.length = n) (hsize : g.locals.size = nL) (hstack : g.stack = As.reverse ++ .ref b :: rest) (hW : 2 * g.monitorRoom + (rest.map fun v => v.category).sum ≤ 8) (hdg : decode cc g.pc = .ok (.invokevirtual index, 3)) (hf : cells + mc ≤ R.cells ∧ slots + ms ≤ R.slots) :
    va_Run p l e R s m args below meth c H locs cells slots mc ms g rest (Qc (Value.ref b :: As).toArray) free := by
  obtain ⟨⟨hrc, hrs, hfr, hlo, hws, hcw⟩, hcode, hini, hy, hlen, hl, hin, hse⟩ := cw
  have hK : Back l R p e below s args y 3 8 (PreOf R mc ms Pc) (PostOf Qc mc ms free) := va_backW (hh := hh) (bytes := bytes) (maxL := maxL) (ret := ret) hM hp.1 hrc hrs hfr hlo hws hcw (fun a' U hW => word_at hW (Or.inl (by first | rfl | simp [Cond.onTables, Cond.keeps, Cond.steady])) hini)
  obtain ⟨hx, hb, hml, ho, -⟩ := S
  obtain ⟨-, ⟨cellB, hcB, hoB, hclB⟩, hPc⟩ := hp
  intro T hT X
  obtain ⟨v, vm₁, ⟨U', l2, c2, s2⟩, hW₁, X', ⟨g', mk, t, L, e1, e2, hq, h1, hL, h2, h3⟩, st⟩ := vx_callVW X hx (C := C) (hh := hh) (bytes := bytes) (maxL := maxL) (ret := ret) ho hl hin hse hcode hy hK (by rw [hT]; exact hcB) hoB hclB hg (hsize.trans hml.symm) (argsL := As) (rest := rest) (fun sig h => hn.trans (hlen sig h)) hstack hW (by rw [hb]; exact hdg)
    (fun vm₁ hW₁ => ⟨hf.1, hf.2, hPc (T.setVm vm₁) hT hW₁⟩)
  dsimp only [Pt.U, Pt.locs, Pt.cells, Pt.slots] at X' e1 e2 h1 h2 h3 st
  subst h1; subst h2; subst h3
  exact ⟨v, (T.setVm vm₁).calling g' mk (Value.ref b :: As).toArray, t, U', L, hT, X', hL, e1, e2, hq, st⟩
section
variable {y : MethodName} {bytes cc : ByteArray} {maxL nL mc ms n index : Nat} {ret : Option FieldType} {ws : List Cond} {rm : Room} {Pc : Array Value → State → Prop} {Qc : Array Value → State → Outcome → State → Prop} {XC : String → State → State → Prop} {free : Addr → Prop} {Ts : List Cond} {own C : String} {b : Addr} {As rest : List Value} {g : JFrame}
theorem vx_runVX {hh : List (Nat × Nat × Nat × Nat)} (S : CallFix p m c cc nL s args Ts own) (hM : vx_Met l y ws rm Pc Qc XC mc ms free) (cw : vx_CVW R s args own C index y bytes maxL ret hh ws rm mc ms n) (hp : PreV s H C b Pc As)
    (hg : g.method = m) (hn : As.length = n) (hsize : g.locals.size = nL) (hstack : g.stack = As.reverse ++ .ref b :: rest) (hW : 2 * g.monitorRoom + (rest.map fun v => v.category).sum ≤ 8) (hdg : decode cc g.pc = .ok (.invokevirtual index, 3)) (hf : cells + mc ≤ R.cells ∧ slots + ms ≤ R.slots) :
    vx_Run p l e R s m args below meth c H locs cells slots mc ms g rest (Qc (Value.ref b :: As).toArray) XC free := by
  obtain ⟨⟨hrc, hrs, hfr, hlo, hws, hcw⟩, hcode, hini, hy, hlen, hl, hin, hse⟩ := cw
  have hK : vx_Back l R p e below s args y 3 8 (PreOf R mc ms Pc) (PostOf Qc mc ms free) (vx_Post XC mc ms free) := vx_backW (hh := hh) (bytes := bytes) (maxL := maxL) (ret := ret) hM hp.1 hrc hrs hfr hlo hws hcw (fun a' U hW => word_at hW (Or.inl (by first | rfl | simp [Cond.onTables, Cond.keeps, Cond.steady])) hini)
  obtain ⟨hx, hb, hml, ho, -⟩ := S
  obtain ⟨-, ⟨cellB, hcB, hoB, hclB⟩, hPc⟩ := hp
  intro T hT X
  rcases vx_callVX X hx (C := C) (hh := hh) (bytes := bytes) (maxL := maxL) (ret := ret) ho hl hin hse hcode hy hK (by rw [hT]; exact hcB) hoB hclB hg (hsize.trans hml.symm) (argsL := As) (rest := rest) (fun sig h => hn.trans (hlen sig h)) hstack hW (by rw [hb]; exact hdg)
    (fun vm₁ hW₁ => ⟨hf.1, hf.2, hPc (T.setVm vm₁) hT hW₁⟩) with ⟨v, vm₁, ⟨U', l2, c2, s2⟩, hW₁, X', ⟨g', mk, t, L, e1, e2, hq, h1, hL, h2, h3⟩, st⟩ | ⟨q, vm₁, ⟨U', l2, c2, s2⟩, hW₁, X', ⟨g', mk, t, L, E, ce, e1, e2, hq, hce, hcv, hcl, h1, hL, h2, h3⟩, st⟩
  · dsimp only [Pt.U, Pt.locs, Pt.cells, Pt.slots] at X' e1 e2 h1 h2 h3 st
    subst h1; subst h2; subst h3
    exact Or.inl ⟨v, (T.setVm vm₁).calling g' mk (Value.ref b :: As).toArray, t, U', L, hT, X', hL, e1, e2, hq, st⟩
  · dsimp only [Pt.U, Pt.locs, Pt.cells, Pt.slots] at X' e1 e2 h1 h2 h3 st hcl
    subst h1; subst h2; subst h3
    exact Or.inr ⟨q, (T.setVm vm₁).calling g' mk (Value.ref b :: As).toArray, t, U', L, E, ce, hT, X', hL, e1, e2, hq, hce, hcv, vx_cls hW₁ hcl, st⟩
theorem vx_runSX {hh : List (Nat × Nat × Nat × Nat)} (S : CallFix p m c cc nL s args Ts own) (hM : vx_Met l y ws rm Pc Qc XC mc ms free) (cw : vx_CSW R s args own index y bytes maxL ret hh ws rm mc ms n) (hp : PreS s H Pc As)
    (hg : g.method = m) (hn : As.length = n) (hsize : g.locals.size = nL) (hstack : g.stack = As.reverse ++ rest) (hW : 2 * g.monitorRoom + (rest.map fun v => v.category).sum ≤ 8) (hdg : decode cc g.pc = .ok (.invokestatic index, 3)) (hf : cells + mc ≤ R.cells ∧ slots + ms ≤ R.slots) :
    vx_Run p l e R s m args below meth c H locs cells slots mc ms g rest (Qc As.toArray) XC free := by
  obtain ⟨⟨hrc, hrs, hfr, hlo, hws, hcw⟩, hcode, hini, hy, hlen, hl, hstt⟩ := cw
  have hK : vx_Back l R p e below s args y 3 8 (PreOf R mc ms Pc) (PostOf Qc mc ms free) (vx_Post XC mc ms free) := vx_backW (hh := hh) (bytes := bytes) (maxL := maxL) (ret := ret) hM hp.1 hrc hrs hfr hlo hws hcw (fun a' U hW => word_at hW (Or.inl (by first | rfl | simp [Cond.onTables, Cond.keeps, Cond.steady])) hini)
  obtain ⟨hx, hb, hml, ho, -⟩ := S
  intro T hT X
  rcases vx_callSX X hx (hh := hh) (bytes := bytes) (maxL := maxL) (ret := ret) ho hl hstt hini hcode hy hK hg (hsize.trans hml.symm) (argsL := As) (rest := rest) (fun sig h => hn.trans (hlen sig h)) hstack hW (by rw [hb]; exact hdg)
    (fun vm₁ hW₁ => ⟨hf.1, hf.2, hp.2 (T.setVm vm₁) hT hW₁⟩) with ⟨v, vm₁, ⟨U', l2, c2, s2⟩, hW₁, X', ⟨g', mk, t, L, e1, e2, hq, h1, hL, h2, h3⟩, st⟩ | ⟨q, vm₁, ⟨U', l2, c2, s2⟩, hW₁, X', ⟨g', mk, t, L, E, ce, e1, e2, hq, hce, hcv, hcl, h1, hL, h2, h3⟩, st⟩
  · dsimp only [Pt.U, Pt.locs, Pt.cells, Pt.slots] at X' e1 e2 h1 h2 h3 st
    subst h1; subst h2; subst h3
    exact Or.inl ⟨v, (T.setVm vm₁).calling g' mk As.toArray, t, U', L, hT, X', hL, e1, e2, hq, st⟩
  · dsimp only [Pt.U, Pt.locs, Pt.cells, Pt.slots] at X' e1 e2 h1 h2 h3 st hcl
    subst h1; subst h2; subst h3
    exact Or.inr ⟨q, (T.setVm vm₁).calling g' mk As.toArray, t, U', L, E, ce, hT, X', hL, e1, e2, hq, hce, hcv, vx_cls hW₁ hcl, st⟩
end
end VXH
theorem vx_ofWH {l : Launch} {y : MethodName} {ws ws' : List Cond} {rm : Room} {Pc : Array Value → State → Prop} {Qc : Array Value → State → Outcome → State → Prop} {XC : String → State → State → Prop} {mc ms : Nat} {free : Addr → Prop} {cc : ByteArray} {maxL : Nat} {ret : Option FieldType} {hh : List (Nat × Nat × Nat × Nat)}
    (hy : plainName y.cls = true) (hw : ws = Cond.codeWith y cc maxL ret hh :: ws')
    (body : ∀ p e s m args below meth c s₁, BodyLoose p l y (headSpec ws rm) cc maxL ret e s m args below meth c s₁ → c.maxLocals = maxL → Pc args s →
      W p l e (headSpec ws rm).room s m args below meth c s.heap [] 0 0 (vx_MQ below Qc XC args s mc ms free) (entryFrame m args maxL)) : vx_Met l y ws rm Pc Qc XC mc ms free := by
  refine MetFree.of_bodyS (code := cc) (maxLocals := maxL) (ret := ret) hy ?_ ?_
  · intro args s m h hn
    obtain ⟨m9, meth, c, hn9, h1, h2, h3, h4, -, h5, h6, -⟩ := Cond.codeWith_spec (atoms_spec (ws := ws) h _ (by rw [hw]; exact List.mem_cons_self))
    cases hn.symm.trans hn9
    exact ⟨meth, c, h1, h2, h3, h4, h5, h6⟩
  · intro p e s m args below meth c s₁ B hml hP _
    have hh0 : s₁.heap = s.heap := by rw [B.state]; rfl
    obtain ⟨t, a1, o, b1, b2, b3⟩ := body p e s m args below meth c s₁ B hml hP s₁ hh0 (Stand.of_body B)
    exact ⟨t, o, a1, b1, b2, b3⟩
/-! ===== END ===== -/
end
section
def RX0 : String := "AdaptiveReplacementCache$Cache"
def TX0 : u_T := fun k => match k with
  | 0 => ("AdaptiveReplacementCache$Cache", "recent", "LAdaptiveReplacementCache$KeyList;", true)
  | 1 => ("AdaptiveReplacementCache$Cache", "frequent", "LAdaptiveReplacementCache$KeyList;", true)
  | 2 => ("AdaptiveReplacementCache$Cache", "recentGhosts", "LAdaptiveReplacementCache$KeyList;", true)
  | 3 => ("AdaptiveReplacementCache$Cache", "frequentGhosts", "LAdaptiveReplacementCache$KeyList;", true)
  | 4 => ("AdaptiveReplacementCache$Cache", "capacity", "I", false)
  | 5 => ("AdaptiveReplacementCache$Cache", "target", "I", false)
  | 6 => ("AdaptiveReplacementCache$Cache", "scanLength", "I", false)
  | 7 => ("AdaptiveReplacementCache$Cache", "run", "I", false)
  | 8 => ("AdaptiveReplacementCache$Cache", "keyBefore", "I", false)
  | _ => ("AdaptiveReplacementCache$Cache", "evictions", "I", false)
def tyX0 : Nat → FieldType := fun k => match k with
  | 0 => .object "AdaptiveReplacementCache$KeyList"
  | 1 => .object "AdaptiveReplacementCache$KeyList"
  | 2 => .object "AdaptiveReplacementCache$KeyList"
  | 3 => .object "AdaptiveReplacementCache$KeyList"
  | 4 => .int
  | 5 => .int
  | 6 => .int
  | 7 => .int
  | 8 => .int
  | _ => .int
abbrev wsX00 : List Cond := u_ws RX0 TX0 10
theorem nmX0 : ∀ a, a < 10 → ∀ b, b < 10 → a ≠ b → (TX0 a).2.1 ≠ (TX0 b).2.1 := by decide +kernel
theorem tyX0_ok : ∀ k, k < 10 → parseFieldDescriptor (TX0 k).2.2.1 = some (tyX0 k) := by decide +kernel
abbrev cX0_init : ByteArray := prog_2_method_1_code
def yX0_init : MethodName := ⟨RX0, "<init>", "()V"⟩
abbrev cX0_startAnew : ByteArray := prog_2_method_2_code
def yX0_startAnew : MethodName := ⟨RX0, "startAnew", "(II)V"⟩
abbrev cX0_pages : ByteArray := prog_2_method_3_code
def yX0_pages : MethodName := ⟨RX0, "pages", "()I"⟩
abbrev cX0_listWith : ByteArray := prog_2_method_4_code
def yX0_listWith : MethodName := ⟨RX0, "listWith", "(I)I"⟩
abbrev cX0_forget : ByteArray := prog_2_method_5_code
def yX0_forget : MethodName := ⟨RX0, "forget", "(I)I"⟩
abbrev cX0_forgetAll : ByteArray := prog_2_method_6_code
def yX0_forgetAll : MethodName := ⟨RX0, "forgetAll", "()I"⟩
abbrev cX0_changeCapacity : ByteArray := prog_2_method_7_code
def yX0_changeCapacity : MethodName := ⟨RX0, "changeCapacity", "(I)I"⟩
abbrev cX0_serve : ByteArray := prog_2_method_8_code
def yX0_serve : MethodName := ⟨RX0, "serve", "(I)I"⟩
abbrev cX0_nextToLeave : ByteArray := prog_2_method_9_code
def yX0_nextToLeave : MethodName := ⟨RX0, "nextToLeave", "()I"⟩
abbrev cX0_lengthenRun : ByteArray := prog_2_method_10_code
def yX0_lengthenRun : MethodName := ⟨RX0, "lengthenRun", "(I)V"⟩
abbrev cX0_admit : ByteArray := prog_2_method_11_code
def yX0_admit : MethodName := ⟨RX0, "admit", "(I)V"⟩
abbrev cX0_adaptTarget : ByteArray := prog_2_method_12_code
def yX0_adaptTarget : MethodName := ⟨RX0, "adaptTarget", "(I)V"⟩
abbrev cX0_adaptationStep : ByteArray := prog_2_method_13_code
def yX0_adaptationStep : MethodName := ⟨RX0, "adaptationStep", "(II)I"⟩
abbrev cX0_makeRoom : ByteArray := prog_2_method_14_code
def yX0_makeRoom : MethodName := ⟨RX0, "makeRoom", "(Z)V"⟩
abbrev cX0_evict : ByteArray := prog_2_method_15_code
def yX0_evict : MethodName := ⟨RX0, "evict", "(Z)V"⟩
abbrev cX0_evictsRecentPage : ByteArray := prog_2_method_16_code
def yX0_evictsRecentPage : MethodName := ⟨RX0, "evictsRecentPage", "(Z)Z"⟩
abbrev cX0_dropsRecentPage : ByteArray := prog_2_method_17_code
def yX0_dropsRecentPage : MethodName := ⟨RX0, "dropsRecentPage", "()Z"⟩
abbrev cX0_isFull : ByteArray := prog_2_method_18_code
def yX0_isFull : MethodName := ⟨RX0, "isFull", "()Z"⟩
abbrev cX0_recentAndGhosts : ByteArray := prog_2_method_19_code
def yX0_recentAndGhosts : MethodName := ⟨RX0, "recentAndGhosts", "()I"⟩
abbrev cX0_keysInAll : ByteArray := prog_2_method_20_code
def yX0_keysInAll : MethodName := ⟨RX0, "keysInAll", "()I"⟩
abbrev cX0_takeFrom : ByteArray := prog_2_method_21_code
def yX0_takeFrom : MethodName := ⟨RX0, "takeFrom", "(II)V"⟩
def RX1 : String := "AdaptiveReplacementCache$KeyList"
def TX1 : u_T := fun k => match k with
  | 0 => ("AdaptiveReplacementCache$KeyList", "keys", "[I", true)
  | _ => ("AdaptiveReplacementCache$KeyList", "length", "I", false)
def tyX1 : Nat → FieldType := fun k => match k with
  | 0 => .array .int
  | _ => .int
abbrev wsX10 : List Cond := u_ws RX1 TX1 2
theorem nmX1 : ∀ a, a < 2 → ∀ b, b < 2 → a ≠ b → (TX1 a).2.1 ≠ (TX1 b).2.1 := by decide +kernel
theorem tyX1_ok : ∀ k, k < 2 → parseFieldDescriptor (TX1 k).2.2.1 = some (tyX1 k) := by decide +kernel
abbrev cX1_init : ByteArray := prog_3_method_1_code
def yX1_init : MethodName := ⟨RX1, "<init>", "()V"⟩
abbrev cX1_length : ByteArray := prog_3_method_2_code
def yX1_length : MethodName := ⟨RX1, "length", "()I"⟩
abbrev cX1_empty : ByteArray := prog_3_method_3_code
def yX1_empty : MethodName := ⟨RX1, "empty", "()V"⟩
abbrev cX1_join : ByteArray := prog_3_method_4_code
def yX1_join : MethodName := ⟨RX1, "join", "(I)V"⟩
abbrev cX1_holds : ByteArray := prog_3_method_5_code
def yX1_holds : MethodName := ⟨RX1, "holds", "(I)Z"⟩
abbrev cX1_oldest : ByteArray := prog_3_method_6_code
def yX1_oldest : MethodName := ⟨RX1, "oldest", "()I"⟩
abbrev cX1_fromOldest : ByteArray := prog_3_method_7_code
def yX1_fromOldest : MethodName := ⟨RX1, "fromOldest", "(I)I"⟩
abbrev cX1_fromNewest : ByteArray := prog_3_method_8_code
def yX1_fromNewest : MethodName := ⟨RX1, "fromNewest", "(I)I"⟩
abbrev cX1_takeOldest : ByteArray := prog_3_method_9_code
def yX1_takeOldest : MethodName := ⟨RX1, "takeOldest", "()I"⟩
abbrev cX1_takeOut : ByteArray := prog_3_method_10_code
def yX1_takeOut : MethodName := ⟨RX1, "takeOut", "(I)Z"⟩
abbrev cX1_indexOf : ByteArray := prog_3_method_11_code
def yX1_indexOf : MethodName := ⟨RX1, "indexOf", "(I)I"⟩
abbrev cX1_closeGap : ByteArray := prog_3_method_12_code
def yX1_closeGap : MethodName := ⟨RX1, "closeGap", "(I)V"⟩
def RX2 : String := "AdaptiveReplacementCache"
def TX2 : u_T := fun k => match k with
  | 0 => ("AdaptiveReplacementCache", "cache", "LAdaptiveReplacementCache$Cache;", true)
  | 1 => ("AdaptiveReplacementCache", "log", "LAdaptiveReplacementCache$KeyList;", true)
  | 2 => ("AdaptiveReplacementCache", "requests", "I", false)
  | 3 => ("AdaptiveReplacementCache", "hits", "I", false)
  | 4 => ("AdaptiveReplacementCache", "ghostHits", "I", false)
  | 5 => ("AdaptiveReplacementCache", "bypassed", "I", false)
  | 6 => ("AdaptiveReplacementCache", "trial", "LAdaptiveReplacementCache$Cache;", true)
  | _ => ("AdaptiveReplacementCache", "latestPages", "LAdaptiveReplacementCache$KeyList;", true)
def tyX2 : Nat → FieldType := fun k => match k with
  | 0 => .object "AdaptiveReplacementCache$Cache"
  | 1 => .object "AdaptiveReplacementCache$KeyList"
  | 2 => .int
  | 3 => .int
  | 4 => .int
  | 5 => .int
  | 6 => .object "AdaptiveReplacementCache$Cache"
  | _ => .object "AdaptiveReplacementCache$KeyList"
abbrev wsX20 : List Cond := u_ws RX2 TX2 8
theorem nmX2 : ∀ a, a < 8 → ∀ b, b < 8 → a ≠ b → (TX2 a).2.1 ≠ (TX2 b).2.1 := by decide +kernel
theorem tyX2_ok : ∀ k, k < 8 → parseFieldDescriptor (TX2 k).2.2.1 = some (tyX2 k) := by decide +kernel
abbrev cX2_init : ByteArray := prog_1_method_1_code
def yX2_init : MethodName := ⟨RX2, "<init>", "()V"⟩
abbrev cX2_request : ByteArray := prog_1_method_2_code
def yX2_request : MethodName := ⟨RX2, "request", "(I)I"⟩
abbrev cX2_remove : ByteArray := prog_1_method_3_code
def yX2_remove : MethodName := ⟨RX2, "remove", "(I)I"⟩
abbrev cX2_clear : ByteArray := prog_1_method_4_code
def yX2_clear : MethodName := ⟨RX2, "clear", "()I"⟩
abbrev cX2_setCapacity : ByteArray := prog_1_method_5_code
def yX2_setCapacity : MethodName := ⟨RX2, "setCapacity", "(I)I"⟩
abbrev cX2_capacity : ByteArray := prog_1_method_6_code
def yX2_capacity : MethodName := ⟨RX2, "capacity", "()I"⟩
abbrev cX2_setScanLength : ByteArray := prog_1_method_7_code
def yX2_setScanLength : MethodName := ⟨RX2, "setScanLength", "(I)I"⟩
abbrev cX2_run : ByteArray := prog_1_method_8_code
def yX2_run : MethodName := ⟨RX2, "run", "()I"⟩
abbrev cX2_target : ByteArray := prog_1_method_9_code
def yX2_target : MethodName := ⟨RX2, "target", "()I"⟩
abbrev cX2_size : ByteArray := prog_1_method_10_code
def yX2_size : MethodName := ⟨RX2, "size", "()I"⟩
abbrev cX2_whereIs : ByteArray := prog_1_method_11_code
def yX2_whereIs : MethodName := ⟨RX2, "whereIs", "(I)I"⟩
abbrev cX2_victim : ByteArray := prog_1_method_12_code
def yX2_victim : MethodName := ⟨RX2, "victim", "()I"⟩
abbrev cX2_recentSize : ByteArray := prog_1_method_13_code
def yX2_recentSize : MethodName := ⟨RX2, "recentSize", "()I"⟩
abbrev cX2_frequentSize : ByteArray := prog_1_method_14_code
def yX2_frequentSize : MethodName := ⟨RX2, "frequentSize", "()I"⟩
abbrev cX2_recentGhosts : ByteArray := prog_1_method_15_code
def yX2_recentGhosts : MethodName := ⟨RX2, "recentGhosts", "()I"⟩
abbrev cX2_frequentGhosts : ByteArray := prog_1_method_16_code
def yX2_frequentGhosts : MethodName := ⟨RX2, "frequentGhosts", "()I"⟩
abbrev cX2_recentAt : ByteArray := prog_1_method_17_code
def yX2_recentAt : MethodName := ⟨RX2, "recentAt", "(I)I"⟩
abbrev cX2_frequentAt : ByteArray := prog_1_method_18_code
def yX2_frequentAt : MethodName := ⟨RX2, "frequentAt", "(I)I"⟩
abbrev cX2_recentGhostAt : ByteArray := prog_1_method_19_code
def yX2_recentGhostAt : MethodName := ⟨RX2, "recentGhostAt", "(I)I"⟩
abbrev cX2_frequentGhostAt : ByteArray := prog_1_method_20_code
def yX2_frequentGhostAt : MethodName := ⟨RX2, "frequentGhostAt", "(I)I"⟩
abbrev cX2_requests : ByteArray := prog_1_method_21_code
def yX2_requests : MethodName := ⟨RX2, "requests", "()I"⟩
abbrev cX2_hits : ByteArray := prog_1_method_22_code
def yX2_hits : MethodName := ⟨RX2, "hits", "()I"⟩
abbrev cX2_ghostHits : ByteArray := prog_1_method_23_code
def yX2_ghostHits : MethodName := ⟨RX2, "ghostHits", "()I"⟩
abbrev cX2_bypassed : ByteArray := prog_1_method_24_code
def yX2_bypassed : MethodName := ⟨RX2, "bypassed", "()I"⟩
abbrev cX2_evictions : ByteArray := prog_1_method_25_code
def yX2_evictions : MethodName := ⟨RX2, "evictions", "()I"⟩
abbrev cX2_hitsIf : ByteArray := prog_1_method_26_code
def yX2_hitsIf : MethodName := ⟨RX2, "hitsIf", "(I)I"⟩
abbrev cX2_leastRecentHitsIf : ByteArray := prog_1_method_27_code
def yX2_leastRecentHitsIf : MethodName := ⟨RX2, "leastRecentHitsIf", "(I)I"⟩
abbrev cX2_checkKey : ByteArray := prog_1_method_28_code
def yX2_checkKey : MethodName := ⟨RX2, "checkKey", "(I)V"⟩
abbrev cX2_checkCapacity : ByteArray := prog_1_method_29_code
def yX2_checkCapacity : MethodName := ⟨RX2, "checkCapacity", "(I)V"⟩
abbrev cX2_keyAt : ByteArray := prog_1_method_30_code
def yX2_keyAt : MethodName := ⟨RX2, "keyAt", "(LAdaptiveReplacementCache$KeyList;I)I"⟩
abbrev cX2_isPage : ByteArray := prog_1_method_31_code
def yX2_isPage : MethodName := ⟨RX2, "isPage", "(I)Z"⟩
abbrev cX2_addToLog : ByteArray := prog_1_method_32_code
def yX2_addToLog : MethodName := ⟨RX2, "addToLog", "(I)V"⟩
abbrev cX2_count : ByteArray := prog_1_method_33_code
def yX2_count : MethodName := ⟨RX2, "count", "(I)V"⟩
def RX3 : String := "AdaptiveReplacementCacheModel"
def TX3 : u_T := fun k => match k with
  | 0 => ("AdaptiveReplacementCacheModel", "now", "[I", true)
  | 1 => ("AdaptiveReplacementCacheModel", "then", "[I", true)
  | 2 => ("AdaptiveReplacementCacheModel", "log", "[I", true)
  | 3 => ("AdaptiveReplacementCacheModel", "pages", "[I", true)
  | 4 => ("AdaptiveReplacementCacheModel", "logged", "I", false)
  | 5 => ("AdaptiveReplacementCacheModel", "requests", "I", false)
  | 6 => ("AdaptiveReplacementCacheModel", "hits", "I", false)
  | 7 => ("AdaptiveReplacementCacheModel", "ghostHits", "I", false)
  | 8 => ("AdaptiveReplacementCacheModel", "bypassed", "I", false)
  | _ => ("AdaptiveReplacementCacheModel", "thrown", "I", false)
def tyX3 : Nat → FieldType := fun k => match k with
  | 0 => .array .int
  | 1 => .array .int
  | 2 => .array .int
  | 3 => .array .int
  | 4 => .int
  | 5 => .int
  | 6 => .int
  | 7 => .int
  | 8 => .int
  | _ => .int
abbrev wsX30 : List Cond := u_ws RX3 TX3 10
theorem nmX3 : ∀ a, a < 10 → ∀ b, b < 10 → a ≠ b → (TX3 a).2.1 ≠ (TX3 b).2.1 := by decide +kernel
theorem tyX3_ok : ∀ k, k < 10 → parseFieldDescriptor (TX3 k).2.2.1 = some (tyX3 k) := by decide +kernel
abbrev cX3_init : ByteArray := prog_5_method_1_code
def yX3_init : MethodName := ⟨RX3, "<init>", "()V"⟩
abbrev cX3_thrown : ByteArray := prog_5_method_2_code
def yX3_thrown : MethodName := ⟨RX3, "thrown", "()I"⟩
abbrev cX3_asked : ByteArray := prog_5_method_3_code
def yX3_asked : MethodName := ⟨RX3, "asked", "(Z)Z"⟩
abbrev cX3_told : ByteArray := prog_5_method_4_code
def yX3_told : MethodName := ⟨RX3, "told", "(I)I"⟩
abbrev cX3_isKey : ByteArray := prog_5_method_5_code
def yX3_isKey : MethodName := ⟨RX3, "isKey", "(I)Z"⟩
abbrev cX3_at : ByteArray := prog_5_method_6_code
def yX3_at : MethodName := ⟨RX3, "at", "(II)I"⟩
abbrev cX3_placeIn : ByteArray := prog_5_method_7_code
def yX3_placeIn : MethodName := ⟨RX3, "placeIn", "([III)I"⟩
abbrev cX3_listOf : ByteArray := prog_5_method_8_code
def yX3_listOf : MethodName := ⟨RX3, "listOf", "([II)I"⟩
abbrev cX3_joins : ByteArray := prog_5_method_9_code
def yX3_joins : MethodName := ⟨RX3, "joins", "([III)V"⟩
abbrev cX3_leaves : ByteArray := prog_5_method_10_code
def yX3_leaves : MethodName := ⟨RX3, "leaves", "([III)I"⟩
abbrev cX3_isFull : ByteArray := prog_5_method_11_code
def yX3_isFull : MethodName := ⟨RX3, "isFull", "([I)Z"⟩
abbrev cX3_allKeys : ByteArray := prog_5_method_12_code
def yX3_allKeys : MethodName := ⟨RX3, "allKeys", "([I)I"⟩
abbrev cX3_evictedFrom : ByteArray := prog_5_method_13_code
def yX3_evictedFrom : MethodName := ⟨RX3, "evictedFrom", "([II)I"⟩
abbrev cX3_evicts : ByteArray := prog_5_method_14_code
def yX3_evicts : MethodName := ⟨RX3, "evicts", "([II)V"⟩
abbrev cX3_evictsIfFull : ByteArray := prog_5_method_15_code
def yX3_evictsIfFull : MethodName := ⟨RX3, "evictsIfFull", "([II)V"⟩
abbrev cX3_step : ByteArray := prog_5_method_16_code
def yX3_step : MethodName := ⟨RX3, "step", "(II)I"⟩
abbrev cX3_ghost : ByteArray := prog_5_method_17_code
def yX3_ghost : MethodName := ⟨RX3, "ghost", "([III)V"⟩
abbrev cX3_miss : ByteArray := prog_5_method_18_code
def yX3_miss : MethodName := ⟨RX3, "miss", "([II)V"⟩
abbrev cX3_asks : ByteArray := prog_5_method_19_code
def yX3_asks : MethodName := ⟨RX3, "asks", "([II)I"⟩
abbrev cX3_request : ByteArray := prog_5_method_20_code
def yX3_request : MethodName := ⟨RX3, "request", "(I)I"⟩
abbrev cX3_remove : ByteArray := prog_5_method_21_code
def yX3_remove : MethodName := ⟨RX3, "remove", "(I)I"⟩
abbrev cX3_clear : ByteArray := prog_5_method_22_code
def yX3_clear : MethodName := ⟨RX3, "clear", "()I"⟩
abbrev cX3_isCapacity : ByteArray := prog_5_method_23_code
def yX3_isCapacity : MethodName := ⟨RX3, "isCapacity", "(I)Z"⟩
abbrev cX3_setCapacity : ByteArray := prog_5_method_24_code
def yX3_setCapacity : MethodName := ⟨RX3, "setCapacity", "(I)I"⟩
abbrev cX3_capacity : ByteArray := prog_5_method_25_code
def yX3_capacity : MethodName := ⟨RX3, "capacity", "()I"⟩
abbrev cX3_setScanLength : ByteArray := prog_5_method_26_code
def yX3_setScanLength : MethodName := ⟨RX3, "setScanLength", "(I)I"⟩
abbrev cX3_run : ByteArray := prog_5_method_27_code
def yX3_run : MethodName := ⟨RX3, "run", "()I"⟩
abbrev cX3_target : ByteArray := prog_5_method_28_code
def yX3_target : MethodName := ⟨RX3, "target", "()I"⟩
abbrev cX3_size : ByteArray := prog_5_method_29_code
def yX3_size : MethodName := ⟨RX3, "size", "()I"⟩
abbrev cX3_whereIs : ByteArray := prog_5_method_30_code
def yX3_whereIs : MethodName := ⟨RX3, "whereIs", "(I)I"⟩
abbrev cX3_victim : ByteArray := prog_5_method_31_code
def yX3_victim : MethodName := ⟨RX3, "victim", "()I"⟩
abbrev cX3_recentSize : ByteArray := prog_5_method_32_code
def yX3_recentSize : MethodName := ⟨RX3, "recentSize", "()I"⟩
abbrev cX3_frequentSize : ByteArray := prog_5_method_33_code
def yX3_frequentSize : MethodName := ⟨RX3, "frequentSize", "()I"⟩
abbrev cX3_recentGhosts : ByteArray := prog_5_method_34_code
def yX3_recentGhosts : MethodName := ⟨RX3, "recentGhosts", "()I"⟩
abbrev cX3_frequentGhosts : ByteArray := prog_5_method_35_code
def yX3_frequentGhosts : MethodName := ⟨RX3, "frequentGhosts", "()I"⟩
abbrev cX3_newest : ByteArray := prog_5_method_36_code
def yX3_newest : MethodName := ⟨RX3, "newest", "(II)I"⟩
abbrev cX3_recentAt : ByteArray := prog_5_method_37_code
def yX3_recentAt : MethodName := ⟨RX3, "recentAt", "(I)I"⟩
abbrev cX3_frequentAt : ByteArray := prog_5_method_38_code
def yX3_frequentAt : MethodName := ⟨RX3, "frequentAt", "(I)I"⟩
abbrev cX3_recentGhostAt : ByteArray := prog_5_method_39_code
def yX3_recentGhostAt : MethodName := ⟨RX3, "recentGhostAt", "(I)I"⟩
abbrev cX3_frequentGhostAt : ByteArray := prog_5_method_40_code
def yX3_frequentGhostAt : MethodName := ⟨RX3, "frequentGhostAt", "(I)I"⟩
abbrev cX3_requests : ByteArray := prog_5_method_41_code
def yX3_requests : MethodName := ⟨RX3, "requests", "()I"⟩
abbrev cX3_hits : ByteArray := prog_5_method_42_code
def yX3_hits : MethodName := ⟨RX3, "hits", "()I"⟩
abbrev cX3_ghostHits : ByteArray := prog_5_method_43_code
def yX3_ghostHits : MethodName := ⟨RX3, "ghostHits", "()I"⟩
abbrev cX3_bypassed : ByteArray := prog_5_method_44_code
def yX3_bypassed : MethodName := ⟨RX3, "bypassed", "()I"⟩
abbrev cX3_evictions : ByteArray := prog_5_method_45_code
def yX3_evictions : MethodName := ⟨RX3, "evictions", "()I"⟩
abbrev cX3_hitsIf : ByteArray := prog_5_method_46_code
def yX3_hitsIf : MethodName := ⟨RX3, "hitsIf", "(I)I"⟩
abbrev cX3_leastRecentHitsIf : ByteArray := prog_5_method_47_code
def yX3_leastRecentHitsIf : MethodName := ⟨RX3, "leastRecentHitsIf", "(I)I"⟩
def RJ9 : String := "java/lang/Math"
def TJ9 : u_T := fun k => match k with
  | _ => ("", "", "", false)
def tyJ9 : Nat → FieldType := fun k => match k with
  | _ => .int
abbrev wsJ90 : List Cond := u_ws RJ9 TJ9 0
theorem nmJ9 : ∀ a, a < 0 → ∀ b, b < 0 → a ≠ b → (TJ9 a).2.1 ≠ (TJ9 b).2.1 := by decide +kernel
theorem tyJ9_ok : ∀ k, k < 0 → parseFieldDescriptor (TJ9 k).2.2.1 = some (tyJ9 k) := by decide +kernel
abbrev cJ9_max_7cf53 : ByteArray := prog_9_method_65_code
def yJ9_max_7cf53 : MethodName := ⟨RJ9, "max", "(II)I"⟩
abbrev cJ9_min_7cf53 : ByteArray := prog_9_method_69_code
def yJ9_min_7cf53 : MethodName := ⟨RJ9, "min", "(II)I"⟩
def RJ0 : String := "java/lang/String"
def TJ0 : u_T := fun k => match k with
  | _ => ("", "", "", false)
def tyJ0 : Nat → FieldType := fun k => match k with
  | _ => .int
abbrev wsJ00 : List Cond := u_ws RJ0 TJ0 0
theorem nmJ0 : ∀ a, a < 0 → ∀ b, b < 0 → a ≠ b → (TJ0 a).2.1 ≠ (TJ0 b).2.1 := by decide +kernel
theorem tyJ0_ok : ∀ k, k < 0 → parseFieldDescriptor (TJ0 k).2.2.1 = some (tyJ0 k) := by decide +kernel
def RL : String := "AdaptiveReplacementCacheLaw"
abbrev cL_request : ByteArray := method_3_code
def yL_request : MethodName := ⟨RL, "request", "(LAdaptiveReplacementCache;I[J)I"⟩
abbrev cL_remove : ByteArray := method_4_code
def yL_remove : MethodName := ⟨RL, "remove", "(LAdaptiveReplacementCache;I[J)I"⟩
abbrev cL_setCapacity : ByteArray := method_5_code
def yL_setCapacity : MethodName := ⟨RL, "setCapacity", "(LAdaptiveReplacementCache;I[J)I"⟩
abbrev cL_setScanLength : ByteArray := method_6_code
def yL_setScanLength : MethodName := ⟨RL, "setScanLength", "(LAdaptiveReplacementCache;I[J)I"⟩
abbrev cL_whereIs : ByteArray := method_7_code
def yL_whereIs : MethodName := ⟨RL, "whereIs", "(LAdaptiveReplacementCache;I[J)I"⟩
abbrev cL_recentAt : ByteArray := method_8_code
def yL_recentAt : MethodName := ⟨RL, "recentAt", "(LAdaptiveReplacementCache;I[J)I"⟩
abbrev cL_frequentAt : ByteArray := method_9_code
def yL_frequentAt : MethodName := ⟨RL, "frequentAt", "(LAdaptiveReplacementCache;I[J)I"⟩
abbrev cL_recentGhostAt : ByteArray := method_10_code
def yL_recentGhostAt : MethodName := ⟨RL, "recentGhostAt", "(LAdaptiveReplacementCache;I[J)I"⟩
abbrev cL_frequentGhostAt : ByteArray := method_11_code
def yL_frequentGhostAt : MethodName := ⟨RL, "frequentGhostAt", "(LAdaptiveReplacementCache;I[J)I"⟩
abbrev cL_hitsIf : ByteArray := method_12_code
def yL_hitsIf : MethodName := ⟨RL, "hitsIf", "(LAdaptiveReplacementCache;I[J)I"⟩
abbrev cL_leastRecentHitsIf : ByteArray := method_13_code
def yL_leastRecentHitsIf : MethodName := ⟨RL, "leastRecentHitsIf", "(LAdaptiveReplacementCache;I[J)I"⟩
abbrev cL_law : ByteArray := code
def yL_law : MethodName := ⟨RL, "law", "([I)Z"⟩
def wsX1_init : List Cond := .code yX1_init cX1_init 1 none :: ([.methodLink RX1 3 objectInit, .instanceMethod objectInit, .code objectInit ⟨#[0xb1]⟩ 1 none, .arrayClass .int, .fieldLink RX1 9 "AdaptiveReplacementCache$KeyList" "keys" "[I"] ++ wsX10)
def wsX0_init : List Cond := .code yX0_init cX0_init 1 none :: ([.methodLink RX0 3 objectInit, .instanceMethod objectInit, .code objectInit ⟨#[0xb1]⟩ 1 none, .classLink RX0 9 RX1, .instantiable RX1 2, .initialized RX1, .fieldLink RX0 12 "AdaptiveReplacementCache$Cache" "recent" "LAdaptiveReplacementCache$KeyList;", .fieldLink RX0 18 "AdaptiveReplacementCache$Cache" "frequent" "LAdaptiveReplacementCache$KeyList;", .fieldLink RX0 21 "AdaptiveReplacementCache$Cache" "recentGhosts" "LAdaptiveReplacementCache$KeyList;", .fieldLink RX0 24 "AdaptiveReplacementCache$Cache" "frequentGhosts" "LAdaptiveReplacementCache$KeyList;", .fieldLink RX0 27 "AdaptiveReplacementCache$Cache" "capacity" "I", .fieldLink RX0 31 "AdaptiveReplacementCache$Cache" "keyBefore" "I", .instanceMethod yX1_init, .code yX1_init cX1_init 1 none, .methodLink RX1 3 objectInit, .arrayClass .int, .fieldLink RX1 9 "AdaptiveReplacementCache$KeyList" "keys" "[I"] ++ wsX10 ++ wsX00)
def wsX1_length : List Cond := .code yX1_length cX1_length 1 (some .int) :: ([.fieldLink RX1 15 "AdaptiveReplacementCache$KeyList" "length" "I"] ++ wsX10)
def wsX0_pages : List Cond := .code yX0_pages cX0_pages 1 (some .int) :: ([.fieldLink RX0 12 "AdaptiveReplacementCache$Cache" "recent" "LAdaptiveReplacementCache$KeyList;", .fieldLink RX0 18 "AdaptiveReplacementCache$Cache" "frequent" "LAdaptiveReplacementCache$KeyList;", .methodLink RX0 47 yX1_length, .instanceMethod yX1_length, .selects RX1 yX1_length yX1_length, .initialized RX1, .code yX1_length cX1_length 1 (some .int), .fieldLink RX1 15 "AdaptiveReplacementCache$KeyList" "length" "I"] ++ wsX00 ++ wsX10)
def wsX1_empty : List Cond := .code yX1_empty cX1_empty 1 none :: ([.fieldLink RX1 15 "AdaptiveReplacementCache$KeyList" "length" "I"] ++ wsX10)
def wsX0_forgetAll : List Cond := .code yX0_forgetAll cX0_forgetAll 2 (some .int) :: ([.fieldLink RX0 12 "AdaptiveReplacementCache$Cache" "recent" "LAdaptiveReplacementCache$KeyList;", .fieldLink RX0 18 "AdaptiveReplacementCache$Cache" "frequent" "LAdaptiveReplacementCache$KeyList;", .fieldLink RX0 21 "AdaptiveReplacementCache$Cache" "recentGhosts" "LAdaptiveReplacementCache$KeyList;", .fieldLink RX0 24 "AdaptiveReplacementCache$Cache" "frequentGhosts" "LAdaptiveReplacementCache$KeyList;", .fieldLink RX0 68 "AdaptiveReplacementCache$Cache" "target" "I", .methodLink RX0 62 yX0_pages, .instanceMethod yX0_pages, .selects RX0 yX0_pages yX0_pages, .initialized RX0, .code yX0_pages cX0_pages 1 (some .int), .methodLink RX0 47 yX1_length, .instanceMethod yX1_length, .selects RX1 yX1_length yX1_length, .initialized RX1, .code yX1_length cX1_length 1 (some .int), .fieldLink RX1 15 "AdaptiveReplacementCache$KeyList" "length" "I", .methodLink RX0 65 yX1_empty, .instanceMethod yX1_empty, .selects RX1 yX1_empty yX1_empty, .code yX1_empty cX1_empty 1 none] ++ wsX00 ++ wsX10)
def wsX0_startAnew_r1 : List Cond := [Cond.fieldLink RX0 27 "AdaptiveReplacementCache$Cache" "capacity" "I", Cond.fieldLink RX0 38 "AdaptiveReplacementCache$Cache" "scanLength" "I", Cond.fieldLink RX0 41 "AdaptiveReplacementCache$Cache" "run" "I", Cond.fieldLink RX0 31 "AdaptiveReplacementCache$Cache" "keyBefore" "I", Cond.fieldLink RX0 44 "AdaptiveReplacementCache$Cache" "evictions" "I", Cond.methodLink RX0 34 yX0_forgetAll, Cond.instanceMethod yX0_forgetAll, Cond.selects RX0 yX0_forgetAll yX0_forgetAll, Cond.initialized RX0, Cond.code yX0_forgetAll cX0_forgetAll 2 (some .int), Cond.fieldLink RX0 12 "AdaptiveReplacementCache$Cache" "recent" "LAdaptiveReplacementCache$KeyList;", Cond.fieldLink RX0 18 "AdaptiveReplacementCache$Cache" "frequent" "LAdaptiveReplacementCache$KeyList;", Cond.fieldLink RX0 21 "AdaptiveReplacementCache$Cache" "recentGhosts" "LAdaptiveReplacementCache$KeyList;", Cond.fieldLink RX0 24 "AdaptiveReplacementCache$Cache" "frequentGhosts" "LAdaptiveReplacementCache$KeyList;", Cond.fieldLink RX0 68 "AdaptiveReplacementCache$Cache" "target" "I", Cond.methodLink RX0 62 yX0_pages, Cond.instanceMethod yX0_pages, Cond.selects RX0 yX0_pages yX0_pages, Cond.code yX0_pages cX0_pages 1 (some .int), Cond.methodLink RX0 47 yX1_length, Cond.instanceMethod yX1_length, Cond.selects RX1 yX1_length yX1_length, Cond.initialized RX1, Cond.code yX1_length cX1_length 1 (some .int)]
def wsX0_startAnew_r2 : List Cond := [Cond.fieldLink RX1 15 "AdaptiveReplacementCache$KeyList" "length" "I", Cond.methodLink RX0 65 yX1_empty, Cond.instanceMethod yX1_empty, Cond.selects RX1 yX1_empty yX1_empty, Cond.code yX1_empty cX1_empty 1 none]
def wsX0_startAnew : List Cond := .code yX0_startAnew cX0_startAnew 3 none :: ((wsX0_startAnew_r1 ++ wsX0_startAnew_r2) ++ wsX00 ++ wsX10)
def wsX1_indexOf : List Cond := .code yX1_indexOf cX1_indexOf 3 (some .int) :: ([.fieldLink RX1 15 "AdaptiveReplacementCache$KeyList" "length" "I", .fieldLink RX1 9 "AdaptiveReplacementCache$KeyList" "keys" "[I"] ++ wsX10)
def wsX1_holds : List Cond := .code yX1_holds cX1_holds 2 (some .boolean) :: ([.methodLink RX1 19 yX1_indexOf, .instanceMethod yX1_indexOf, .selects RX1 yX1_indexOf yX1_indexOf, .initialized RX1, .code yX1_indexOf cX1_indexOf 3 (some .int), .fieldLink RX1 15 "AdaptiveReplacementCache$KeyList" "length" "I", .fieldLink RX1 9 "AdaptiveReplacementCache$KeyList" "keys" "[I"] ++ wsX10)
def wsX0_listWith : List Cond := .code yX0_listWith cX0_listWith 2 (some .int) :: ([.fieldLink RX0 12 "AdaptiveReplacementCache$Cache" "recent" "LAdaptiveReplacementCache$KeyList;", .fieldLink RX0 18 "AdaptiveReplacementCache$Cache" "frequent" "LAdaptiveReplacementCache$KeyList;", .fieldLink RX0 21 "AdaptiveReplacementCache$Cache" "recentGhosts" "LAdaptiveReplacementCache$KeyList;", .fieldLink RX0 24 "AdaptiveReplacementCache$Cache" "frequentGhosts" "LAdaptiveReplacementCache$KeyList;", .methodLink RX0 50 yX1_holds, .instanceMethod yX1_holds, .selects RX1 yX1_holds yX1_holds, .initialized RX1, .code yX1_holds cX1_holds 2 (some .boolean), .methodLink RX1 19 yX1_indexOf, .instanceMethod yX1_indexOf, .selects RX1 yX1_indexOf yX1_indexOf, .code yX1_indexOf cX1_indexOf 3 (some .int), .fieldLink RX1 15 "AdaptiveReplacementCache$KeyList" "length" "I", .fieldLink RX1 9 "AdaptiveReplacementCache$KeyList" "keys" "[I"] ++ wsX00 ++ wsX10)
def wsX1_closeGap : List Cond := .code yX1_closeGap cX1_closeGap 3 none :: ([.fieldLink RX1 15 "AdaptiveReplacementCache$KeyList" "length" "I", .fieldLink RX1 9 "AdaptiveReplacementCache$KeyList" "keys" "[I"] ++ wsX10)
def wsX1_takeOut : List Cond := .code yX1_takeOut cX1_takeOut 3 (some .boolean) :: ([.methodLink RX1 19 yX1_indexOf, .instanceMethod yX1_indexOf, .selects RX1 yX1_indexOf yX1_indexOf, .initialized RX1, .code yX1_indexOf cX1_indexOf 3 (some .int), .fieldLink RX1 15 "AdaptiveReplacementCache$KeyList" "length" "I", .fieldLink RX1 9 "AdaptiveReplacementCache$KeyList" "keys" "[I", .methodLink RX1 26 yX1_closeGap, .instanceMethod yX1_closeGap, .selects RX1 yX1_closeGap yX1_closeGap, .code yX1_closeGap cX1_closeGap 3 none] ++ wsX10)
def wsX0_takeFrom : List Cond := .code yX0_takeFrom cX0_takeFrom 3 none :: ([.fieldLink RX0 12 "AdaptiveReplacementCache$Cache" "recent" "LAdaptiveReplacementCache$KeyList;", .fieldLink RX0 18 "AdaptiveReplacementCache$Cache" "frequent" "LAdaptiveReplacementCache$KeyList;", .fieldLink RX0 21 "AdaptiveReplacementCache$Cache" "recentGhosts" "LAdaptiveReplacementCache$KeyList;", .fieldLink RX0 24 "AdaptiveReplacementCache$Cache" "frequentGhosts" "LAdaptiveReplacementCache$KeyList;", .methodLink RX0 129 yX1_takeOut, .instanceMethod yX1_takeOut, .selects RX1 yX1_takeOut yX1_takeOut, .initialized RX1, .code yX1_takeOut cX1_takeOut 3 (some .boolean), .methodLink RX1 19 yX1_indexOf, .instanceMethod yX1_indexOf, .selects RX1 yX1_indexOf yX1_indexOf, .code yX1_indexOf cX1_indexOf 3 (some .int), .fieldLink RX1 15 "AdaptiveReplacementCache$KeyList" "length" "I", .fieldLink RX1 9 "AdaptiveReplacementCache$KeyList" "keys" "[I", .methodLink RX1 26 yX1_closeGap, .instanceMethod yX1_closeGap, .selects RX1 yX1_closeGap yX1_closeGap, .code yX1_closeGap cX1_closeGap 3 none] ++ wsX00 ++ wsX10)
def wsX0_forget_r1 : List Cond := [Cond.methodLink RX0 54 yX0_listWith, Cond.instanceMethod yX0_listWith, Cond.selects RX0 yX0_listWith yX0_listWith, Cond.initialized RX0, Cond.code yX0_listWith cX0_listWith 2 (some .int), Cond.fieldLink RX0 12 "AdaptiveReplacementCache$Cache" "recent" "LAdaptiveReplacementCache$KeyList;", Cond.fieldLink RX0 18 "AdaptiveReplacementCache$Cache" "frequent" "LAdaptiveReplacementCache$KeyList;", Cond.fieldLink RX0 21 "AdaptiveReplacementCache$Cache" "recentGhosts" "LAdaptiveReplacementCache$KeyList;", Cond.fieldLink RX0 24 "AdaptiveReplacementCache$Cache" "frequentGhosts" "LAdaptiveReplacementCache$KeyList;", Cond.methodLink RX0 50 yX1_holds, Cond.instanceMethod yX1_holds, Cond.selects RX1 yX1_holds yX1_holds, Cond.initialized RX1, Cond.code yX1_holds cX1_holds 2 (some .boolean), Cond.methodLink RX1 19 yX1_indexOf, Cond.instanceMethod yX1_indexOf, Cond.selects RX1 yX1_indexOf yX1_indexOf, Cond.code yX1_indexOf cX1_indexOf 3 (some .int), Cond.fieldLink RX1 15 "AdaptiveReplacementCache$KeyList" "length" "I", Cond.fieldLink RX1 9 "AdaptiveReplacementCache$KeyList" "keys" "[I", Cond.methodLink RX0 58 yX0_takeFrom, Cond.instanceMethod yX0_takeFrom, Cond.selects RX0 yX0_takeFrom yX0_takeFrom, Cond.code yX0_takeFrom cX0_takeFrom 3 none]
def wsX0_forget_r2 : List Cond := [Cond.methodLink RX0 129 yX1_takeOut, Cond.instanceMethod yX1_takeOut, Cond.selects RX1 yX1_takeOut yX1_takeOut, Cond.code yX1_takeOut cX1_takeOut 3 (some .boolean), Cond.methodLink RX1 26 yX1_closeGap, Cond.instanceMethod yX1_closeGap, Cond.selects RX1 yX1_closeGap yX1_closeGap, Cond.code yX1_closeGap cX1_closeGap 3 none]
def wsX0_forget : List Cond := .code yX0_forget cX0_forget 3 (some .int) :: ((wsX0_forget_r1 ++ wsX0_forget_r2) ++ wsX00 ++ wsX10)
def wsX0_evictsRecentPage : List Cond := .code yX0_evictsRecentPage cX0_evictsRecentPage 3 (some .boolean) :: ([.fieldLink RX0 12 "AdaptiveReplacementCache$Cache" "recent" "LAdaptiveReplacementCache$KeyList;", .fieldLink RX0 68 "AdaptiveReplacementCache$Cache" "target" "I", .methodLink RX0 47 yX1_length, .instanceMethod yX1_length, .selects RX1 yX1_length yX1_length, .initialized RX1, .code yX1_length cX1_length 1 (some .int), .fieldLink RX1 15 "AdaptiveReplacementCache$KeyList" "length" "I"] ++ wsX00 ++ wsX10)
def wsX1_fromOldest : List Cond := .code yX1_fromOldest cX1_fromOldest 2 (some .int) :: ([.fieldLink RX1 15 "AdaptiveReplacementCache$KeyList" "length" "I", .fieldLink RX1 9 "AdaptiveReplacementCache$KeyList" "keys" "[I"] ++ wsX10)
def wsX1_takeOldest : List Cond := .code yX1_takeOldest cX1_takeOldest 2 (some .int) :: ([.methodLink RX1 23 yX1_fromOldest, .instanceMethod yX1_fromOldest, .selects RX1 yX1_fromOldest yX1_fromOldest, .initialized RX1, .code yX1_fromOldest cX1_fromOldest 2 (some .int), .fieldLink RX1 15 "AdaptiveReplacementCache$KeyList" "length" "I", .fieldLink RX1 9 "AdaptiveReplacementCache$KeyList" "keys" "[I", .methodLink RX1 26 yX1_closeGap, .instanceMethod yX1_closeGap, .selects RX1 yX1_closeGap yX1_closeGap, .code yX1_closeGap cX1_closeGap 3 none] ++ wsX10)
def wsX1_join : List Cond := .code yX1_join cX1_join 2 none :: ([.fieldLink RX1 15 "AdaptiveReplacementCache$KeyList" "length" "I", .fieldLink RX1 9 "AdaptiveReplacementCache$KeyList" "keys" "[I"] ++ wsX10)
def wsX0_evict_r1 : List Cond := [Cond.fieldLink RX0 21 "AdaptiveReplacementCache$Cache" "recentGhosts" "LAdaptiveReplacementCache$KeyList;", Cond.fieldLink RX0 12 "AdaptiveReplacementCache$Cache" "recent" "LAdaptiveReplacementCache$KeyList;", Cond.fieldLink RX0 24 "AdaptiveReplacementCache$Cache" "frequentGhosts" "LAdaptiveReplacementCache$KeyList;", Cond.fieldLink RX0 18 "AdaptiveReplacementCache$Cache" "frequent" "LAdaptiveReplacementCache$KeyList;", Cond.fieldLink RX0 44 "AdaptiveReplacementCache$Cache" "evictions" "I", Cond.methodLink RX0 122 yX0_evictsRecentPage, Cond.instanceMethod yX0_evictsRecentPage, Cond.selects RX0 yX0_evictsRecentPage yX0_evictsRecentPage, Cond.initialized RX0, Cond.code yX0_evictsRecentPage cX0_evictsRecentPage 3 (some .boolean), Cond.fieldLink RX0 68 "AdaptiveReplacementCache$Cache" "target" "I", Cond.methodLink RX0 47 yX1_length, Cond.instanceMethod yX1_length, Cond.selects RX1 yX1_length yX1_length, Cond.initialized RX1, Cond.code yX1_length cX1_length 1 (some .int), Cond.fieldLink RX1 15 "AdaptiveReplacementCache$KeyList" "length" "I", Cond.methodLink RX0 87 yX1_takeOldest, Cond.instanceMethod yX1_takeOldest, Cond.selects RX1 yX1_takeOldest yX1_takeOldest, Cond.code yX1_takeOldest cX1_takeOldest 2 (some .int), Cond.methodLink RX1 23 yX1_fromOldest, Cond.instanceMethod yX1_fromOldest, Cond.selects RX1 yX1_fromOldest yX1_fromOldest]
def wsX0_evict_r2 : List Cond := [Cond.code yX1_fromOldest cX1_fromOldest 2 (some .int), Cond.fieldLink RX1 9 "AdaptiveReplacementCache$KeyList" "keys" "[I", Cond.methodLink RX1 26 yX1_closeGap, Cond.instanceMethod yX1_closeGap, Cond.selects RX1 yX1_closeGap yX1_closeGap, Cond.code yX1_closeGap cX1_closeGap 3 none, Cond.methodLink RX0 109 yX1_join, Cond.instanceMethod yX1_join, Cond.selects RX1 yX1_join yX1_join, Cond.code yX1_join cX1_join 2 none]
def wsX0_evict : List Cond := .code yX0_evict cX0_evict 2 none :: ((wsX0_evict_r1 ++ wsX0_evict_r2) ++ wsX00 ++ wsX10)
def wsX0_recentAndGhosts : List Cond := .code yX0_recentAndGhosts cX0_recentAndGhosts 1 (some .int) :: ([.fieldLink RX0 12 "AdaptiveReplacementCache$Cache" "recent" "LAdaptiveReplacementCache$KeyList;", .fieldLink RX0 21 "AdaptiveReplacementCache$Cache" "recentGhosts" "LAdaptiveReplacementCache$KeyList;", .methodLink RX0 47 yX1_length, .instanceMethod yX1_length, .selects RX1 yX1_length yX1_length, .initialized RX1, .code yX1_length cX1_length 1 (some .int), .fieldLink RX1 15 "AdaptiveReplacementCache$KeyList" "length" "I"] ++ wsX00 ++ wsX10)
def wsX0_keysInAll : List Cond := .code yX0_keysInAll cX0_keysInAll 1 (some .int) :: ([.fieldLink RX0 21 "AdaptiveReplacementCache$Cache" "recentGhosts" "LAdaptiveReplacementCache$KeyList;", .fieldLink RX0 24 "AdaptiveReplacementCache$Cache" "frequentGhosts" "LAdaptiveReplacementCache$KeyList;", .methodLink RX0 62 yX0_pages, .instanceMethod yX0_pages, .selects RX0 yX0_pages yX0_pages, .initialized RX0, .code yX0_pages cX0_pages 1 (some .int), .fieldLink RX0 12 "AdaptiveReplacementCache$Cache" "recent" "LAdaptiveReplacementCache$KeyList;", .fieldLink RX0 18 "AdaptiveReplacementCache$Cache" "frequent" "LAdaptiveReplacementCache$KeyList;", .methodLink RX0 47 yX1_length, .instanceMethod yX1_length, .selects RX1 yX1_length yX1_length, .initialized RX1, .code yX1_length cX1_length 1 (some .int), .fieldLink RX1 15 "AdaptiveReplacementCache$KeyList" "length" "I"] ++ wsX00 ++ wsX10)
def wsX0_changeCapacity_r1 : List Cond := [Cond.fieldLink RX0 27 "AdaptiveReplacementCache$Cache" "capacity" "I", Cond.fieldLink RX0 68 "AdaptiveReplacementCache$Cache" "target" "I", Cond.methodLink RX0 71 Lib.Math.min.name, Cond.static Lib.Math.min.name, Cond.initialized "java/lang/Math", Cond.code Lib.Math.min.name Lib.Math.min.code 2 (some .int), Cond.methodLink RX0 77 Lib.Math.max.name, Cond.static Lib.Math.max.name, Cond.code Lib.Math.max.name Lib.Math.max.code 2 (some .int), Cond.fieldLink RX0 21 "AdaptiveReplacementCache$Cache" "recentGhosts" "LAdaptiveReplacementCache$KeyList;", Cond.fieldLink RX0 24 "AdaptiveReplacementCache$Cache" "frequentGhosts" "LAdaptiveReplacementCache$KeyList;", Cond.methodLink RX0 62 yX0_pages, Cond.instanceMethod yX0_pages, Cond.selects RX0 yX0_pages yX0_pages, Cond.initialized RX0, Cond.code yX0_pages cX0_pages 1 (some .int), Cond.fieldLink RX0 12 "AdaptiveReplacementCache$Cache" "recent" "LAdaptiveReplacementCache$KeyList;", Cond.fieldLink RX0 18 "AdaptiveReplacementCache$Cache" "frequent" "LAdaptiveReplacementCache$KeyList;", Cond.methodLink RX0 47 yX1_length, Cond.instanceMethod yX1_length, Cond.selects RX1 yX1_length yX1_length, Cond.initialized RX1, Cond.code yX1_length cX1_length 1 (some .int), Cond.fieldLink RX1 15 "AdaptiveReplacementCache$KeyList" "length" "I"]
def wsX0_changeCapacity_r2 : List Cond := [Cond.methodLink RX0 80 yX0_evict, Cond.instanceMethod yX0_evict, Cond.selects RX0 yX0_evict yX0_evict, Cond.code yX0_evict cX0_evict 2 none, Cond.fieldLink RX0 44 "AdaptiveReplacementCache$Cache" "evictions" "I", Cond.methodLink RX0 122 yX0_evictsRecentPage, Cond.instanceMethod yX0_evictsRecentPage, Cond.selects RX0 yX0_evictsRecentPage yX0_evictsRecentPage, Cond.code yX0_evictsRecentPage cX0_evictsRecentPage 3 (some .boolean), Cond.methodLink RX0 87 yX1_takeOldest, Cond.instanceMethod yX1_takeOldest, Cond.selects RX1 yX1_takeOldest yX1_takeOldest, Cond.code yX1_takeOldest cX1_takeOldest 2 (some .int), Cond.methodLink RX1 23 yX1_fromOldest, Cond.instanceMethod yX1_fromOldest, Cond.selects RX1 yX1_fromOldest yX1_fromOldest, Cond.code yX1_fromOldest cX1_fromOldest 2 (some .int), Cond.fieldLink RX1 9 "AdaptiveReplacementCache$KeyList" "keys" "[I", Cond.methodLink RX1 26 yX1_closeGap, Cond.instanceMethod yX1_closeGap, Cond.selects RX1 yX1_closeGap yX1_closeGap, Cond.code yX1_closeGap cX1_closeGap 3 none, Cond.methodLink RX0 109 yX1_join, Cond.instanceMethod yX1_join]
def wsX0_changeCapacity_r3 : List Cond := [Cond.selects RX1 yX1_join yX1_join, Cond.code yX1_join cX1_join 2 none, Cond.methodLink RX0 84 yX0_recentAndGhosts, Cond.instanceMethod yX0_recentAndGhosts, Cond.selects RX0 yX0_recentAndGhosts yX0_recentAndGhosts, Cond.code yX0_recentAndGhosts cX0_recentAndGhosts 1 (some .int), Cond.methodLink RX0 90 yX0_keysInAll, Cond.instanceMethod yX0_keysInAll, Cond.selects RX0 yX0_keysInAll yX0_keysInAll, Cond.code yX0_keysInAll cX0_keysInAll 1 (some .int)]
def wsX0_changeCapacity : List Cond := .code yX0_changeCapacity cX0_changeCapacity 6 (some .int) :: ((wsX0_changeCapacity_r1 ++ (wsX0_changeCapacity_r2 ++ wsX0_changeCapacity_r3)) ++ wsX00 ++ wsX10)
def wsX0_lengthenRun : List Cond := .code yX0_lengthenRun cX0_lengthenRun 3 none :: ([.fieldLink RX0 31 "AdaptiveReplacementCache$Cache" "keyBefore" "I", .fieldLink RX0 41 "AdaptiveReplacementCache$Cache" "run" "I"] ++ wsX00)
def wsX2_isPage : List Cond := .code yX2_isPage cX2_isPage 1 (some .boolean) :: ([])
def wsX0_dropsRecentPage : List Cond := .code yX0_dropsRecentPage cX0_dropsRecentPage 1 (some .boolean) :: ([.fieldLink RX0 27 "AdaptiveReplacementCache$Cache" "capacity" "I", .fieldLink RX0 21 "AdaptiveReplacementCache$Cache" "recentGhosts" "LAdaptiveReplacementCache$KeyList;", .methodLink RX0 84 yX0_recentAndGhosts, .instanceMethod yX0_recentAndGhosts, .selects RX0 yX0_recentAndGhosts yX0_recentAndGhosts, .initialized RX0, .code yX0_recentAndGhosts cX0_recentAndGhosts 1 (some .int), .fieldLink RX0 12 "AdaptiveReplacementCache$Cache" "recent" "LAdaptiveReplacementCache$KeyList;", .methodLink RX0 47 yX1_length, .instanceMethod yX1_length, .selects RX1 yX1_length yX1_length, .initialized RX1, .code yX1_length cX1_length 1 (some .int), .fieldLink RX1 15 "AdaptiveReplacementCache$KeyList" "length" "I"] ++ wsX00 ++ wsX10)
def wsX0_isFull : List Cond := .code yX0_isFull cX0_isFull 1 (some .boolean) :: ([.fieldLink RX0 27 "AdaptiveReplacementCache$Cache" "capacity" "I", .methodLink RX0 62 yX0_pages, .instanceMethod yX0_pages, .selects RX0 yX0_pages yX0_pages, .initialized RX0, .code yX0_pages cX0_pages 1 (some .int), .fieldLink RX0 12 "AdaptiveReplacementCache$Cache" "recent" "LAdaptiveReplacementCache$KeyList;", .fieldLink RX0 18 "AdaptiveReplacementCache$Cache" "frequent" "LAdaptiveReplacementCache$KeyList;", .methodLink RX0 47 yX1_length, .instanceMethod yX1_length, .selects RX1 yX1_length yX1_length, .initialized RX1, .code yX1_length cX1_length 1 (some .int), .fieldLink RX1 15 "AdaptiveReplacementCache$KeyList" "length" "I"] ++ wsX00 ++ wsX10)
def wsX0_makeRoom_r1 : List Cond := [Cond.methodLink RX0 119 yX0_isFull, Cond.instanceMethod yX0_isFull, Cond.selects RX0 yX0_isFull yX0_isFull, Cond.initialized RX0, Cond.code yX0_isFull cX0_isFull 1 (some .boolean), Cond.fieldLink RX0 27 "AdaptiveReplacementCache$Cache" "capacity" "I", Cond.methodLink RX0 62 yX0_pages, Cond.instanceMethod yX0_pages, Cond.selects RX0 yX0_pages yX0_pages, Cond.code yX0_pages cX0_pages 1 (some .int), Cond.fieldLink RX0 12 "AdaptiveReplacementCache$Cache" "recent" "LAdaptiveReplacementCache$KeyList;", Cond.fieldLink RX0 18 "AdaptiveReplacementCache$Cache" "frequent" "LAdaptiveReplacementCache$KeyList;", Cond.methodLink RX0 47 yX1_length, Cond.instanceMethod yX1_length, Cond.selects RX1 yX1_length yX1_length, Cond.initialized RX1, Cond.code yX1_length cX1_length 1 (some .int), Cond.fieldLink RX1 15 "AdaptiveReplacementCache$KeyList" "length" "I", Cond.methodLink RX0 80 yX0_evict, Cond.instanceMethod yX0_evict, Cond.selects RX0 yX0_evict yX0_evict, Cond.code yX0_evict cX0_evict 2 none, Cond.fieldLink RX0 21 "AdaptiveReplacementCache$Cache" "recentGhosts" "LAdaptiveReplacementCache$KeyList;", Cond.fieldLink RX0 24 "AdaptiveReplacementCache$Cache" "frequentGhosts" "LAdaptiveReplacementCache$KeyList;"]
def wsX0_makeRoom_r2 : List Cond := [Cond.fieldLink RX0 44 "AdaptiveReplacementCache$Cache" "evictions" "I", Cond.methodLink RX0 122 yX0_evictsRecentPage, Cond.instanceMethod yX0_evictsRecentPage, Cond.selects RX0 yX0_evictsRecentPage yX0_evictsRecentPage, Cond.code yX0_evictsRecentPage cX0_evictsRecentPage 3 (some .boolean), Cond.fieldLink RX0 68 "AdaptiveReplacementCache$Cache" "target" "I", Cond.methodLink RX0 87 yX1_takeOldest, Cond.instanceMethod yX1_takeOldest, Cond.selects RX1 yX1_takeOldest yX1_takeOldest, Cond.code yX1_takeOldest cX1_takeOldest 2 (some .int), Cond.methodLink RX1 23 yX1_fromOldest, Cond.instanceMethod yX1_fromOldest, Cond.selects RX1 yX1_fromOldest yX1_fromOldest, Cond.code yX1_fromOldest cX1_fromOldest 2 (some .int), Cond.fieldLink RX1 9 "AdaptiveReplacementCache$KeyList" "keys" "[I", Cond.methodLink RX1 26 yX1_closeGap, Cond.instanceMethod yX1_closeGap, Cond.selects RX1 yX1_closeGap yX1_closeGap, Cond.code yX1_closeGap cX1_closeGap 3 none, Cond.methodLink RX0 109 yX1_join, Cond.instanceMethod yX1_join, Cond.selects RX1 yX1_join yX1_join, Cond.code yX1_join cX1_join 2 none]
def wsX0_makeRoom : List Cond := .code yX0_makeRoom cX0_makeRoom 2 none :: ((wsX0_makeRoom_r1 ++ wsX0_makeRoom_r2) ++ wsX00 ++ wsX10)
def wsX0_admit_r1 : List Cond := [Cond.fieldLink RX0 12 "AdaptiveReplacementCache$Cache" "recent" "LAdaptiveReplacementCache$KeyList;", Cond.fieldLink RX0 44 "AdaptiveReplacementCache$Cache" "evictions" "I", Cond.fieldLink RX0 27 "AdaptiveReplacementCache$Cache" "capacity" "I", Cond.fieldLink RX0 21 "AdaptiveReplacementCache$Cache" "recentGhosts" "LAdaptiveReplacementCache$KeyList;", Cond.fieldLink RX0 24 "AdaptiveReplacementCache$Cache" "frequentGhosts" "LAdaptiveReplacementCache$KeyList;", Cond.methodLink RX0 112 yX0_dropsRecentPage, Cond.instanceMethod yX0_dropsRecentPage, Cond.selects RX0 yX0_dropsRecentPage yX0_dropsRecentPage, Cond.initialized RX0, Cond.code yX0_dropsRecentPage cX0_dropsRecentPage 1 (some .boolean), Cond.methodLink RX0 84 yX0_recentAndGhosts, Cond.instanceMethod yX0_recentAndGhosts, Cond.selects RX0 yX0_recentAndGhosts yX0_recentAndGhosts, Cond.code yX0_recentAndGhosts cX0_recentAndGhosts 1 (some .int), Cond.methodLink RX0 47 yX1_length, Cond.instanceMethod yX1_length, Cond.selects RX1 yX1_length yX1_length, Cond.initialized RX1, Cond.code yX1_length cX1_length 1 (some .int), Cond.fieldLink RX1 15 "AdaptiveReplacementCache$KeyList" "length" "I", Cond.methodLink RX0 87 yX1_takeOldest, Cond.instanceMethod yX1_takeOldest, Cond.selects RX1 yX1_takeOldest yX1_takeOldest, Cond.code yX1_takeOldest cX1_takeOldest 2 (some .int)]
def wsX0_admit_r2 : List Cond := [Cond.methodLink RX1 23 yX1_fromOldest, Cond.instanceMethod yX1_fromOldest, Cond.selects RX1 yX1_fromOldest yX1_fromOldest, Cond.code yX1_fromOldest cX1_fromOldest 2 (some .int), Cond.fieldLink RX1 9 "AdaptiveReplacementCache$KeyList" "keys" "[I", Cond.methodLink RX1 26 yX1_closeGap, Cond.instanceMethod yX1_closeGap, Cond.selects RX1 yX1_closeGap yX1_closeGap, Cond.code yX1_closeGap cX1_closeGap 3 none, Cond.methodLink RX0 90 yX0_keysInAll, Cond.instanceMethod yX0_keysInAll, Cond.selects RX0 yX0_keysInAll yX0_keysInAll, Cond.code yX0_keysInAll cX0_keysInAll 1 (some .int), Cond.methodLink RX0 62 yX0_pages, Cond.instanceMethod yX0_pages, Cond.selects RX0 yX0_pages yX0_pages, Cond.code yX0_pages cX0_pages 1 (some .int), Cond.fieldLink RX0 18 "AdaptiveReplacementCache$Cache" "frequent" "LAdaptiveReplacementCache$KeyList;", Cond.methodLink RX0 106 yX0_makeRoom, Cond.instanceMethod yX0_makeRoom, Cond.selects RX0 yX0_makeRoom yX0_makeRoom, Cond.code yX0_makeRoom cX0_makeRoom 2 none, Cond.methodLink RX0 119 yX0_isFull, Cond.instanceMethod yX0_isFull]
def wsX0_admit_r3 : List Cond := [Cond.selects RX0 yX0_isFull yX0_isFull, Cond.code yX0_isFull cX0_isFull 1 (some .boolean), Cond.methodLink RX0 80 yX0_evict, Cond.instanceMethod yX0_evict, Cond.selects RX0 yX0_evict yX0_evict, Cond.code yX0_evict cX0_evict 2 none, Cond.methodLink RX0 122 yX0_evictsRecentPage, Cond.instanceMethod yX0_evictsRecentPage, Cond.selects RX0 yX0_evictsRecentPage yX0_evictsRecentPage, Cond.code yX0_evictsRecentPage cX0_evictsRecentPage 3 (some .boolean), Cond.fieldLink RX0 68 "AdaptiveReplacementCache$Cache" "target" "I", Cond.methodLink RX0 109 yX1_join, Cond.instanceMethod yX1_join, Cond.selects RX1 yX1_join yX1_join, Cond.code yX1_join cX1_join 2 none]
def wsX0_admit : List Cond := .code yX0_admit cX0_admit 2 none :: ((wsX0_admit_r1 ++ (wsX0_admit_r2 ++ wsX0_admit_r3)) ++ wsX00 ++ wsX10)
def wsX0_adaptationStep : List Cond := .code yX0_adaptationStep cX0_adaptationStep 2 (some .int) :: ([.methodLink RX0 77 Lib.Math.max.name, .static Lib.Math.max.name, .initialized "java/lang/Math", .code Lib.Math.max.name Lib.Math.max.code 2 (some .int)])
def wsX0_adaptTarget : List Cond := .code yX0_adaptTarget cX0_adaptTarget 4 none :: ([.fieldLink RX0 21 "AdaptiveReplacementCache$Cache" "recentGhosts" "LAdaptiveReplacementCache$KeyList;", .fieldLink RX0 24 "AdaptiveReplacementCache$Cache" "frequentGhosts" "LAdaptiveReplacementCache$KeyList;", .fieldLink RX0 27 "AdaptiveReplacementCache$Cache" "capacity" "I", .fieldLink RX0 68 "AdaptiveReplacementCache$Cache" "target" "I", .methodLink RX0 71 Lib.Math.min.name, .static Lib.Math.min.name, .initialized "java/lang/Math", .code Lib.Math.min.name Lib.Math.min.code 2 (some .int), .methodLink RX0 77 Lib.Math.max.name, .static Lib.Math.max.name, .code Lib.Math.max.name Lib.Math.max.code 2 (some .int), .methodLink RX0 47 yX1_length, .instanceMethod yX1_length, .selects RX1 yX1_length yX1_length, .initialized RX1, .code yX1_length cX1_length 1 (some .int), .fieldLink RX1 15 "AdaptiveReplacementCache$KeyList" "length" "I", .methodLink RX0 126 yX0_adaptationStep, .static yX0_adaptationStep, .initialized RX0, .code yX0_adaptationStep cX0_adaptationStep 2 (some .int)] ++ wsX00 ++ wsX10)
def wsX0_serve_r1 : List Cond := [Cond.fieldLink RX0 38 "AdaptiveReplacementCache$Cache" "scanLength" "I", Cond.fieldLink RX0 41 "AdaptiveReplacementCache$Cache" "run" "I", Cond.fieldLink RX0 18 "AdaptiveReplacementCache$Cache" "frequent" "LAdaptiveReplacementCache$KeyList;", Cond.methodLink RX0 93 yX0_lengthenRun, Cond.instanceMethod yX0_lengthenRun, Cond.selects RX0 yX0_lengthenRun yX0_lengthenRun, Cond.initialized RX0, Cond.code yX0_lengthenRun cX0_lengthenRun 3 none, Cond.fieldLink RX0 31 "AdaptiveReplacementCache$Cache" "keyBefore" "I", Cond.methodLink RX0 54 yX0_listWith, Cond.instanceMethod yX0_listWith, Cond.selects RX0 yX0_listWith yX0_listWith, Cond.code yX0_listWith cX0_listWith 2 (some .int), Cond.fieldLink RX0 12 "AdaptiveReplacementCache$Cache" "recent" "LAdaptiveReplacementCache$KeyList;", Cond.fieldLink RX0 21 "AdaptiveReplacementCache$Cache" "recentGhosts" "LAdaptiveReplacementCache$KeyList;", Cond.fieldLink RX0 24 "AdaptiveReplacementCache$Cache" "frequentGhosts" "LAdaptiveReplacementCache$KeyList;", Cond.methodLink RX0 50 yX1_holds, Cond.instanceMethod yX1_holds, Cond.selects RX1 yX1_holds yX1_holds, Cond.initialized RX1, Cond.code yX1_holds cX1_holds 2 (some .boolean), Cond.methodLink RX1 19 yX1_indexOf, Cond.instanceMethod yX1_indexOf, Cond.selects RX1 yX1_indexOf yX1_indexOf]
def wsX0_serve_r2 : List Cond := [Cond.code yX1_indexOf cX1_indexOf 3 (some .int), Cond.fieldLink RX1 15 "AdaptiveReplacementCache$KeyList" "length" "I", Cond.fieldLink RX1 9 "AdaptiveReplacementCache$KeyList" "keys" "[I", Cond.static yX2_isPage, Cond.initialized RX2, Cond.code yX2_isPage cX2_isPage 1 (some .boolean), Cond.methodLink RX0 100 yX0_admit, Cond.instanceMethod yX0_admit, Cond.selects RX0 yX0_admit yX0_admit, Cond.code yX0_admit cX0_admit 2 none, Cond.fieldLink RX0 44 "AdaptiveReplacementCache$Cache" "evictions" "I", Cond.fieldLink RX0 27 "AdaptiveReplacementCache$Cache" "capacity" "I", Cond.methodLink RX0 112 yX0_dropsRecentPage, Cond.instanceMethod yX0_dropsRecentPage, Cond.selects RX0 yX0_dropsRecentPage yX0_dropsRecentPage, Cond.code yX0_dropsRecentPage cX0_dropsRecentPage 1 (some .boolean), Cond.methodLink RX0 84 yX0_recentAndGhosts, Cond.instanceMethod yX0_recentAndGhosts, Cond.selects RX0 yX0_recentAndGhosts yX0_recentAndGhosts, Cond.code yX0_recentAndGhosts cX0_recentAndGhosts 1 (some .int), Cond.methodLink RX0 47 yX1_length, Cond.instanceMethod yX1_length, Cond.selects RX1 yX1_length yX1_length, Cond.code yX1_length cX1_length 1 (some .int)]
def wsX0_serve_r3 : List Cond := [Cond.methodLink RX0 87 yX1_takeOldest, Cond.instanceMethod yX1_takeOldest, Cond.selects RX1 yX1_takeOldest yX1_takeOldest, Cond.code yX1_takeOldest cX1_takeOldest 2 (some .int), Cond.methodLink RX1 23 yX1_fromOldest, Cond.instanceMethod yX1_fromOldest, Cond.selects RX1 yX1_fromOldest yX1_fromOldest, Cond.code yX1_fromOldest cX1_fromOldest 2 (some .int), Cond.methodLink RX1 26 yX1_closeGap, Cond.instanceMethod yX1_closeGap, Cond.selects RX1 yX1_closeGap yX1_closeGap, Cond.code yX1_closeGap cX1_closeGap 3 none, Cond.methodLink RX0 90 yX0_keysInAll, Cond.instanceMethod yX0_keysInAll, Cond.selects RX0 yX0_keysInAll yX0_keysInAll, Cond.code yX0_keysInAll cX0_keysInAll 1 (some .int), Cond.methodLink RX0 62 yX0_pages, Cond.instanceMethod yX0_pages, Cond.selects RX0 yX0_pages yX0_pages, Cond.code yX0_pages cX0_pages 1 (some .int), Cond.methodLink RX0 106 yX0_makeRoom, Cond.instanceMethod yX0_makeRoom, Cond.selects RX0 yX0_makeRoom yX0_makeRoom, Cond.code yX0_makeRoom cX0_makeRoom 2 none]
def wsX0_serve_r4 : List Cond := [Cond.methodLink RX0 119 yX0_isFull, Cond.instanceMethod yX0_isFull, Cond.selects RX0 yX0_isFull yX0_isFull, Cond.code yX0_isFull cX0_isFull 1 (some .boolean), Cond.methodLink RX0 80 yX0_evict, Cond.instanceMethod yX0_evict, Cond.selects RX0 yX0_evict yX0_evict, Cond.code yX0_evict cX0_evict 2 none, Cond.methodLink RX0 122 yX0_evictsRecentPage, Cond.instanceMethod yX0_evictsRecentPage, Cond.selects RX0 yX0_evictsRecentPage yX0_evictsRecentPage, Cond.code yX0_evictsRecentPage cX0_evictsRecentPage 3 (some .boolean), Cond.fieldLink RX0 68 "AdaptiveReplacementCache$Cache" "target" "I", Cond.methodLink RX0 109 yX1_join, Cond.instanceMethod yX1_join, Cond.selects RX1 yX1_join yX1_join, Cond.code yX1_join cX1_join 2 none, Cond.methodLink RX0 103 yX0_adaptTarget, Cond.instanceMethod yX0_adaptTarget, Cond.selects RX0 yX0_adaptTarget yX0_adaptTarget, Cond.code yX0_adaptTarget cX0_adaptTarget 4 none, Cond.methodLink RX0 71 Lib.Math.min.name, Cond.static Lib.Math.min.name, Cond.initialized "java/lang/Math"]
def wsX0_serve_r5 : List Cond := [Cond.code Lib.Math.min.name Lib.Math.min.code 2 (some .int), Cond.methodLink RX0 77 Lib.Math.max.name, Cond.static Lib.Math.max.name, Cond.code Lib.Math.max.name Lib.Math.max.code 2 (some .int), Cond.methodLink RX0 126 yX0_adaptationStep, Cond.static yX0_adaptationStep, Cond.code yX0_adaptationStep cX0_adaptationStep 2 (some .int), Cond.methodLink RX0 58 yX0_takeFrom, Cond.instanceMethod yX0_takeFrom, Cond.selects RX0 yX0_takeFrom yX0_takeFrom, Cond.code yX0_takeFrom cX0_takeFrom 3 none, Cond.methodLink RX0 129 yX1_takeOut, Cond.instanceMethod yX1_takeOut, Cond.selects RX1 yX1_takeOut yX1_takeOut, Cond.code yX1_takeOut cX1_takeOut 3 (some .boolean)]
def wsX0_serve : List Cond := .code yX0_serve cX0_serve 3 (some .int) :: ((wsX0_serve_r1 ++ (wsX0_serve_r2 ++ (wsX0_serve_r3 ++ (wsX0_serve_r4 ++ wsX0_serve_r5)))) ++ wsX00 ++ wsX10)
def wsX1_oldest : List Cond := .code yX1_oldest cX1_oldest 1 (some .int) :: ([.methodLink RX1 23 yX1_fromOldest, .instanceMethod yX1_fromOldest, .selects RX1 yX1_fromOldest yX1_fromOldest, .initialized RX1, .code yX1_fromOldest cX1_fromOldest 2 (some .int), .fieldLink RX1 15 "AdaptiveReplacementCache$KeyList" "length" "I", .fieldLink RX1 9 "AdaptiveReplacementCache$KeyList" "keys" "[I"] ++ wsX10)
def wsX0_nextToLeave_r1 : List Cond := [Cond.fieldLink RX0 12 "AdaptiveReplacementCache$Cache" "recent" "LAdaptiveReplacementCache$KeyList;", Cond.fieldLink RX0 18 "AdaptiveReplacementCache$Cache" "frequent" "LAdaptiveReplacementCache$KeyList;", Cond.methodLink RX0 112 yX0_dropsRecentPage, Cond.instanceMethod yX0_dropsRecentPage, Cond.selects RX0 yX0_dropsRecentPage yX0_dropsRecentPage, Cond.initialized RX0, Cond.code yX0_dropsRecentPage cX0_dropsRecentPage 1 (some .boolean), Cond.fieldLink RX0 27 "AdaptiveReplacementCache$Cache" "capacity" "I", Cond.fieldLink RX0 21 "AdaptiveReplacementCache$Cache" "recentGhosts" "LAdaptiveReplacementCache$KeyList;", Cond.methodLink RX0 84 yX0_recentAndGhosts, Cond.instanceMethod yX0_recentAndGhosts, Cond.selects RX0 yX0_recentAndGhosts yX0_recentAndGhosts, Cond.code yX0_recentAndGhosts cX0_recentAndGhosts 1 (some .int), Cond.methodLink RX0 47 yX1_length, Cond.instanceMethod yX1_length, Cond.selects RX1 yX1_length yX1_length, Cond.initialized RX1, Cond.code yX1_length cX1_length 1 (some .int), Cond.fieldLink RX1 15 "AdaptiveReplacementCache$KeyList" "length" "I", Cond.methodLink RX0 116 yX1_oldest, Cond.instanceMethod yX1_oldest, Cond.selects RX1 yX1_oldest yX1_oldest, Cond.code yX1_oldest cX1_oldest 1 (some .int), Cond.methodLink RX1 23 yX1_fromOldest]
def wsX0_nextToLeave_r2 : List Cond := [Cond.instanceMethod yX1_fromOldest, Cond.selects RX1 yX1_fromOldest yX1_fromOldest, Cond.code yX1_fromOldest cX1_fromOldest 2 (some .int), Cond.fieldLink RX1 9 "AdaptiveReplacementCache$KeyList" "keys" "[I", Cond.methodLink RX0 119 yX0_isFull, Cond.instanceMethod yX0_isFull, Cond.selects RX0 yX0_isFull yX0_isFull, Cond.code yX0_isFull cX0_isFull 1 (some .boolean), Cond.methodLink RX0 62 yX0_pages, Cond.instanceMethod yX0_pages, Cond.selects RX0 yX0_pages yX0_pages, Cond.code yX0_pages cX0_pages 1 (some .int), Cond.methodLink RX0 122 yX0_evictsRecentPage, Cond.instanceMethod yX0_evictsRecentPage, Cond.selects RX0 yX0_evictsRecentPage yX0_evictsRecentPage, Cond.code yX0_evictsRecentPage cX0_evictsRecentPage 3 (some .boolean), Cond.fieldLink RX0 68 "AdaptiveReplacementCache$Cache" "target" "I"]
def wsX0_nextToLeave : List Cond := .code yX0_nextToLeave cX0_nextToLeave 1 (some .int) :: ((wsX0_nextToLeave_r1 ++ wsX0_nextToLeave_r2) ++ wsX00 ++ wsX10)
def wsX1_fromNewest : List Cond := .code yX1_fromNewest cX1_fromNewest 2 (some .int) :: ([.fieldLink RX1 15 "AdaptiveReplacementCache$KeyList" "length" "I", .methodLink RX1 23 yX1_fromOldest, .instanceMethod yX1_fromOldest, .selects RX1 yX1_fromOldest yX1_fromOldest, .initialized RX1, .code yX1_fromOldest cX1_fromOldest 2 (some .int), .fieldLink RX1 9 "AdaptiveReplacementCache$KeyList" "keys" "[I"] ++ wsX10)
def wsX2_init_r1 : List Cond := [Cond.methodLink RX2 3 objectInit, Cond.instanceMethod objectInit, Cond.code objectInit ⟨#[0xb1]⟩ 1 none, Cond.classLink RX2 9 RX0, Cond.instantiable RX0 10, Cond.initialized RX0, Cond.fieldLink RX2 12 "AdaptiveReplacementCache" "cache" "LAdaptiveReplacementCache$Cache;", Cond.classLink RX2 16 RX1, Cond.instantiable RX1 2, Cond.initialized RX1, Cond.fieldLink RX2 19 "AdaptiveReplacementCache" "log" "LAdaptiveReplacementCache$KeyList;", Cond.fieldLink RX2 23 "AdaptiveReplacementCache" "trial" "LAdaptiveReplacementCache$Cache;", Cond.fieldLink RX2 26 "AdaptiveReplacementCache" "latestPages" "LAdaptiveReplacementCache$KeyList;", Cond.instanceMethod yX0_init, Cond.code yX0_init cX0_init 1 none, Cond.methodLink RX0 3 objectInit, Cond.classLink RX0 9 RX1, Cond.fieldLink RX0 12 "AdaptiveReplacementCache$Cache" "recent" "LAdaptiveReplacementCache$KeyList;", Cond.fieldLink RX0 18 "AdaptiveReplacementCache$Cache" "frequent" "LAdaptiveReplacementCache$KeyList;", Cond.fieldLink RX0 21 "AdaptiveReplacementCache$Cache" "recentGhosts" "LAdaptiveReplacementCache$KeyList;", Cond.fieldLink RX0 24 "AdaptiveReplacementCache$Cache" "frequentGhosts" "LAdaptiveReplacementCache$KeyList;", Cond.fieldLink RX0 27 "AdaptiveReplacementCache$Cache" "capacity" "I", Cond.fieldLink RX0 31 "AdaptiveReplacementCache$Cache" "keyBefore" "I", Cond.instanceMethod yX1_init]
def wsX2_init_r2 : List Cond := [Cond.code yX1_init cX1_init 1 none, Cond.methodLink RX1 3 objectInit, Cond.arrayClass .int, Cond.fieldLink RX1 9 "AdaptiveReplacementCache$KeyList" "keys" "[I"]
def wsX2_init : List Cond := .code yX2_init cX2_init 1 none :: ((wsX2_init_r1 ++ wsX2_init_r2) ++ wsX00 ++ wsX20 ++ wsX10)
def wsX2_checkKey : List Cond := .code yX2_checkKey cX2_checkKey 1 none :: ([.classLink RX2 60 "java/lang/IllegalArgumentException", .initialized "java/lang/IllegalArgumentException"] ++ (vx_atS RX2 64 "java/lang/IllegalArgumentException" ["java/lang/RuntimeException", "java/lang/Exception"]).filter goodWord)
def wsX2_addToLog : List Cond := .code yX2_addToLog cX2_addToLog 2 none :: ([.fieldLink RX2 19 "AdaptiveReplacementCache" "log" "LAdaptiveReplacementCache$KeyList;", .methodLink RX2 88 yX1_length, .instanceMethod yX1_length, .selects RX1 yX1_length yX1_length, .initialized RX1, .code yX1_length cX1_length 1 (some .int), .fieldLink RX1 15 "AdaptiveReplacementCache$KeyList" "length" "I", .methodLink RX2 136 yX1_takeOldest, .instanceMethod yX1_takeOldest, .selects RX1 yX1_takeOldest yX1_takeOldest, .code yX1_takeOldest cX1_takeOldest 2 (some .int), .methodLink RX1 23 yX1_fromOldest, .instanceMethod yX1_fromOldest, .selects RX1 yX1_fromOldest yX1_fromOldest, .code yX1_fromOldest cX1_fromOldest 2 (some .int), .fieldLink RX1 9 "AdaptiveReplacementCache$KeyList" "keys" "[I", .methodLink RX1 26 yX1_closeGap, .instanceMethod yX1_closeGap, .selects RX1 yX1_closeGap yX1_closeGap, .code yX1_closeGap cX1_closeGap 3 none, .methodLink RX2 139 yX1_join, .instanceMethod yX1_join, .selects RX1 yX1_join yX1_join, .code yX1_join cX1_join 2 none] ++ wsX20 ++ wsX10)
def wsX2_count : List Cond := .code yX2_count cX2_count 2 none :: ([.fieldLink RX2 104 "AdaptiveReplacementCache" "requests" "I", .fieldLink RX2 107 "AdaptiveReplacementCache" "hits" "I", .fieldLink RX2 110 "AdaptiveReplacementCache" "ghostHits" "I", .fieldLink RX2 113 "AdaptiveReplacementCache" "bypassed" "I", .methodLink RX2 126 yX2_isPage, .static yX2_isPage, .initialized RX2, .code yX2_isPage cX2_isPage 1 (some .boolean)] ++ wsX20)
def wsX2_request_r1 : List Cond := [Cond.fieldLink RX2 12 "AdaptiveReplacementCache" "cache" "LAdaptiveReplacementCache$Cache;", Cond.methodLink RX2 29 yX2_checkKey, Cond.static yX2_checkKey, Cond.initialized RX2, Cond.code yX2_checkKey cX2_checkKey 1 none, Cond.classLink RX2 60 "java/lang/IllegalArgumentException", Cond.initialized "java/lang/IllegalArgumentException", Cond.methodLink RX2 33 yX2_addToLog, Cond.instanceMethod yX2_addToLog, Cond.selects RX2 yX2_addToLog yX2_addToLog, Cond.code yX2_addToLog cX2_addToLog 2 none, Cond.fieldLink RX2 19 "AdaptiveReplacementCache" "log" "LAdaptiveReplacementCache$KeyList;", Cond.methodLink RX2 88 yX1_length, Cond.instanceMethod yX1_length, Cond.selects RX1 yX1_length yX1_length, Cond.initialized RX1, Cond.code yX1_length cX1_length 1 (some .int), Cond.fieldLink RX1 15 "AdaptiveReplacementCache$KeyList" "length" "I", Cond.methodLink RX2 136 yX1_takeOldest, Cond.instanceMethod yX1_takeOldest, Cond.selects RX1 yX1_takeOldest yX1_takeOldest, Cond.code yX1_takeOldest cX1_takeOldest 2 (some .int), Cond.methodLink RX1 23 yX1_fromOldest, Cond.instanceMethod yX1_fromOldest]
def wsX2_request_r2 : List Cond := [Cond.selects RX1 yX1_fromOldest yX1_fromOldest, Cond.code yX1_fromOldest cX1_fromOldest 2 (some .int), Cond.fieldLink RX1 9 "AdaptiveReplacementCache$KeyList" "keys" "[I", Cond.methodLink RX1 26 yX1_closeGap, Cond.instanceMethod yX1_closeGap, Cond.selects RX1 yX1_closeGap yX1_closeGap, Cond.code yX1_closeGap cX1_closeGap 3 none, Cond.methodLink RX2 139 yX1_join, Cond.instanceMethod yX1_join, Cond.selects RX1 yX1_join yX1_join, Cond.code yX1_join cX1_join 2 none, Cond.methodLink RX2 36 yX0_serve, Cond.instanceMethod yX0_serve, Cond.selects RX0 yX0_serve yX0_serve, Cond.initialized RX0, Cond.code yX0_serve cX0_serve 3 (some .int), Cond.fieldLink RX0 38 "AdaptiveReplacementCache$Cache" "scanLength" "I", Cond.fieldLink RX0 41 "AdaptiveReplacementCache$Cache" "run" "I", Cond.fieldLink RX0 18 "AdaptiveReplacementCache$Cache" "frequent" "LAdaptiveReplacementCache$KeyList;", Cond.methodLink RX0 93 yX0_lengthenRun, Cond.instanceMethod yX0_lengthenRun, Cond.selects RX0 yX0_lengthenRun yX0_lengthenRun, Cond.code yX0_lengthenRun cX0_lengthenRun 3 none, Cond.fieldLink RX0 31 "AdaptiveReplacementCache$Cache" "keyBefore" "I"]
def wsX2_request_r3 : List Cond := [Cond.methodLink RX0 54 yX0_listWith, Cond.instanceMethod yX0_listWith, Cond.selects RX0 yX0_listWith yX0_listWith, Cond.code yX0_listWith cX0_listWith 2 (some .int), Cond.fieldLink RX0 12 "AdaptiveReplacementCache$Cache" "recent" "LAdaptiveReplacementCache$KeyList;", Cond.fieldLink RX0 21 "AdaptiveReplacementCache$Cache" "recentGhosts" "LAdaptiveReplacementCache$KeyList;", Cond.fieldLink RX0 24 "AdaptiveReplacementCache$Cache" "frequentGhosts" "LAdaptiveReplacementCache$KeyList;", Cond.methodLink RX0 50 yX1_holds, Cond.instanceMethod yX1_holds, Cond.selects RX1 yX1_holds yX1_holds, Cond.code yX1_holds cX1_holds 2 (some .boolean), Cond.methodLink RX1 19 yX1_indexOf, Cond.instanceMethod yX1_indexOf, Cond.selects RX1 yX1_indexOf yX1_indexOf, Cond.code yX1_indexOf cX1_indexOf 3 (some .int), Cond.static yX2_isPage, Cond.code yX2_isPage cX2_isPage 1 (some .boolean), Cond.methodLink RX0 100 yX0_admit, Cond.instanceMethod yX0_admit, Cond.selects RX0 yX0_admit yX0_admit, Cond.code yX0_admit cX0_admit 2 none, Cond.fieldLink RX0 44 "AdaptiveReplacementCache$Cache" "evictions" "I", Cond.fieldLink RX0 27 "AdaptiveReplacementCache$Cache" "capacity" "I", Cond.methodLink RX0 112 yX0_dropsRecentPage]
def wsX2_request_r4 : List Cond := [Cond.instanceMethod yX0_dropsRecentPage, Cond.selects RX0 yX0_dropsRecentPage yX0_dropsRecentPage, Cond.code yX0_dropsRecentPage cX0_dropsRecentPage 1 (some .boolean), Cond.methodLink RX0 84 yX0_recentAndGhosts, Cond.instanceMethod yX0_recentAndGhosts, Cond.selects RX0 yX0_recentAndGhosts yX0_recentAndGhosts, Cond.code yX0_recentAndGhosts cX0_recentAndGhosts 1 (some .int), Cond.methodLink RX0 47 yX1_length, Cond.methodLink RX0 87 yX1_takeOldest, Cond.methodLink RX0 90 yX0_keysInAll, Cond.instanceMethod yX0_keysInAll, Cond.selects RX0 yX0_keysInAll yX0_keysInAll, Cond.code yX0_keysInAll cX0_keysInAll 1 (some .int), Cond.methodLink RX0 62 yX0_pages, Cond.instanceMethod yX0_pages, Cond.selects RX0 yX0_pages yX0_pages, Cond.code yX0_pages cX0_pages 1 (some .int), Cond.methodLink RX0 106 yX0_makeRoom, Cond.instanceMethod yX0_makeRoom, Cond.selects RX0 yX0_makeRoom yX0_makeRoom, Cond.code yX0_makeRoom cX0_makeRoom 2 none, Cond.methodLink RX0 119 yX0_isFull, Cond.instanceMethod yX0_isFull, Cond.selects RX0 yX0_isFull yX0_isFull]
def wsX2_request_r5 : List Cond := [Cond.code yX0_isFull cX0_isFull 1 (some .boolean), Cond.methodLink RX0 80 yX0_evict, Cond.instanceMethod yX0_evict, Cond.selects RX0 yX0_evict yX0_evict, Cond.code yX0_evict cX0_evict 2 none, Cond.methodLink RX0 122 yX0_evictsRecentPage, Cond.instanceMethod yX0_evictsRecentPage, Cond.selects RX0 yX0_evictsRecentPage yX0_evictsRecentPage, Cond.code yX0_evictsRecentPage cX0_evictsRecentPage 3 (some .boolean), Cond.fieldLink RX0 68 "AdaptiveReplacementCache$Cache" "target" "I", Cond.methodLink RX0 109 yX1_join, Cond.methodLink RX0 103 yX0_adaptTarget, Cond.instanceMethod yX0_adaptTarget, Cond.selects RX0 yX0_adaptTarget yX0_adaptTarget, Cond.code yX0_adaptTarget cX0_adaptTarget 4 none, Cond.methodLink RX0 71 Lib.Math.min.name, Cond.static Lib.Math.min.name, Cond.initialized "java/lang/Math", Cond.code Lib.Math.min.name Lib.Math.min.code 2 (some .int), Cond.methodLink RX0 77 Lib.Math.max.name, Cond.static Lib.Math.max.name, Cond.code Lib.Math.max.name Lib.Math.max.code 2 (some .int), Cond.methodLink RX0 126 yX0_adaptationStep, Cond.static yX0_adaptationStep]
def wsX2_request_r6 : List Cond := [Cond.code yX0_adaptationStep cX0_adaptationStep 2 (some .int), Cond.methodLink RX0 58 yX0_takeFrom, Cond.instanceMethod yX0_takeFrom, Cond.selects RX0 yX0_takeFrom yX0_takeFrom, Cond.code yX0_takeFrom cX0_takeFrom 3 none, Cond.methodLink RX0 129 yX1_takeOut, Cond.instanceMethod yX1_takeOut, Cond.selects RX1 yX1_takeOut yX1_takeOut, Cond.code yX1_takeOut cX1_takeOut 3 (some .boolean), Cond.methodLink RX2 40 yX2_count, Cond.instanceMethod yX2_count, Cond.selects RX2 yX2_count yX2_count, Cond.code yX2_count cX2_count 2 none, Cond.fieldLink RX2 104 "AdaptiveReplacementCache" "requests" "I", Cond.fieldLink RX2 107 "AdaptiveReplacementCache" "hits" "I", Cond.fieldLink RX2 110 "AdaptiveReplacementCache" "ghostHits" "I", Cond.fieldLink RX2 113 "AdaptiveReplacementCache" "bypassed" "I", Cond.methodLink RX2 126 yX2_isPage]
def wsX2_request : List Cond := .code yX2_request cX2_request 3 (some .int) :: ((wsX2_request_r1 ++ (wsX2_request_r2 ++ (wsX2_request_r3 ++ (wsX2_request_r4 ++ (wsX2_request_r5 ++ wsX2_request_r6))))) ++ wsX20 ++ wsX10 ++ wsX00 ++ (vx_atS RX2 64 "java/lang/IllegalArgumentException" ["java/lang/RuntimeException", "java/lang/Exception"]).filter goodWord)
def wsX2_remove_r1 : List Cond := [Cond.fieldLink RX2 12 "AdaptiveReplacementCache" "cache" "LAdaptiveReplacementCache$Cache;", Cond.methodLink RX2 29 yX2_checkKey, Cond.static yX2_checkKey, Cond.initialized RX2, Cond.code yX2_checkKey cX2_checkKey 1 none, Cond.classLink RX2 60 "java/lang/IllegalArgumentException", Cond.initialized "java/lang/IllegalArgumentException", Cond.methodLink RX2 43 yX0_forget, Cond.instanceMethod yX0_forget, Cond.selects RX0 yX0_forget yX0_forget, Cond.initialized RX0, Cond.code yX0_forget cX0_forget 3 (some .int), Cond.methodLink RX0 54 yX0_listWith, Cond.instanceMethod yX0_listWith, Cond.selects RX0 yX0_listWith yX0_listWith, Cond.code yX0_listWith cX0_listWith 2 (some .int), Cond.fieldLink RX0 12 "AdaptiveReplacementCache$Cache" "recent" "LAdaptiveReplacementCache$KeyList;", Cond.fieldLink RX0 18 "AdaptiveReplacementCache$Cache" "frequent" "LAdaptiveReplacementCache$KeyList;", Cond.fieldLink RX0 21 "AdaptiveReplacementCache$Cache" "recentGhosts" "LAdaptiveReplacementCache$KeyList;", Cond.fieldLink RX0 24 "AdaptiveReplacementCache$Cache" "frequentGhosts" "LAdaptiveReplacementCache$KeyList;", Cond.methodLink RX0 50 yX1_holds, Cond.instanceMethod yX1_holds, Cond.selects RX1 yX1_holds yX1_holds, Cond.initialized RX1]
def wsX2_remove_r2 : List Cond := [Cond.code yX1_holds cX1_holds 2 (some .boolean), Cond.methodLink RX1 19 yX1_indexOf, Cond.instanceMethod yX1_indexOf, Cond.selects RX1 yX1_indexOf yX1_indexOf, Cond.code yX1_indexOf cX1_indexOf 3 (some .int), Cond.fieldLink RX1 15 "AdaptiveReplacementCache$KeyList" "length" "I", Cond.fieldLink RX1 9 "AdaptiveReplacementCache$KeyList" "keys" "[I", Cond.methodLink RX0 58 yX0_takeFrom, Cond.instanceMethod yX0_takeFrom, Cond.selects RX0 yX0_takeFrom yX0_takeFrom, Cond.code yX0_takeFrom cX0_takeFrom 3 none, Cond.methodLink RX0 129 yX1_takeOut, Cond.instanceMethod yX1_takeOut, Cond.selects RX1 yX1_takeOut yX1_takeOut, Cond.code yX1_takeOut cX1_takeOut 3 (some .boolean), Cond.methodLink RX1 26 yX1_closeGap, Cond.instanceMethod yX1_closeGap, Cond.selects RX1 yX1_closeGap yX1_closeGap, Cond.code yX1_closeGap cX1_closeGap 3 none]
def wsX2_remove : List Cond := .code yX2_remove cX2_remove 2 (some .int) :: ((wsX2_remove_r1 ++ wsX2_remove_r2) ++ wsX20 ++ wsX00 ++ wsX10 ++ (vx_atS RX2 64 "java/lang/IllegalArgumentException" ["java/lang/RuntimeException", "java/lang/Exception"]).filter goodWord)
def wsX2_clear_r1 : List Cond := [Cond.fieldLink RX2 12 "AdaptiveReplacementCache" "cache" "LAdaptiveReplacementCache$Cache;", Cond.methodLink RX2 46 yX0_forgetAll, Cond.instanceMethod yX0_forgetAll, Cond.selects RX0 yX0_forgetAll yX0_forgetAll, Cond.initialized RX0, Cond.code yX0_forgetAll cX0_forgetAll 2 (some .int), Cond.fieldLink RX0 12 "AdaptiveReplacementCache$Cache" "recent" "LAdaptiveReplacementCache$KeyList;", Cond.fieldLink RX0 18 "AdaptiveReplacementCache$Cache" "frequent" "LAdaptiveReplacementCache$KeyList;", Cond.fieldLink RX0 21 "AdaptiveReplacementCache$Cache" "recentGhosts" "LAdaptiveReplacementCache$KeyList;", Cond.fieldLink RX0 24 "AdaptiveReplacementCache$Cache" "frequentGhosts" "LAdaptiveReplacementCache$KeyList;", Cond.fieldLink RX0 68 "AdaptiveReplacementCache$Cache" "target" "I", Cond.methodLink RX0 62 yX0_pages, Cond.instanceMethod yX0_pages, Cond.selects RX0 yX0_pages yX0_pages, Cond.code yX0_pages cX0_pages 1 (some .int), Cond.methodLink RX0 47 yX1_length, Cond.instanceMethod yX1_length, Cond.selects RX1 yX1_length yX1_length, Cond.initialized RX1, Cond.code yX1_length cX1_length 1 (some .int), Cond.fieldLink RX1 15 "AdaptiveReplacementCache$KeyList" "length" "I", Cond.methodLink RX0 65 yX1_empty, Cond.instanceMethod yX1_empty, Cond.selects RX1 yX1_empty yX1_empty]
def wsX2_clear_r2 : List Cond := [Cond.code yX1_empty cX1_empty 1 none]
def wsX2_clear : List Cond := .code yX2_clear cX2_clear 1 (some .int) :: ((wsX2_clear_r1 ++ wsX2_clear_r2) ++ wsX20 ++ wsX00 ++ wsX10)
def wsX2_checkCapacity : List Cond := .code yX2_checkCapacity cX2_checkCapacity 1 none :: ([.classLink RX2 60 "java/lang/IllegalArgumentException", .initialized "java/lang/IllegalArgumentException"] ++ (vx_atS RX2 64 "java/lang/IllegalArgumentException" ["java/lang/RuntimeException", "java/lang/Exception"]).filter goodWord)
def wsX2_setCapacity_r1 : List Cond := [Cond.fieldLink RX2 12 "AdaptiveReplacementCache" "cache" "LAdaptiveReplacementCache$Cache;", Cond.methodLink RX2 50 yX2_checkCapacity, Cond.static yX2_checkCapacity, Cond.initialized RX2, Cond.code yX2_checkCapacity cX2_checkCapacity 1 none, Cond.classLink RX2 60 "java/lang/IllegalArgumentException", Cond.initialized "java/lang/IllegalArgumentException", Cond.methodLink RX2 53 yX0_changeCapacity, Cond.instanceMethod yX0_changeCapacity, Cond.selects RX0 yX0_changeCapacity yX0_changeCapacity, Cond.initialized RX0, Cond.code yX0_changeCapacity cX0_changeCapacity 6 (some .int), Cond.fieldLink RX0 27 "AdaptiveReplacementCache$Cache" "capacity" "I", Cond.fieldLink RX0 68 "AdaptiveReplacementCache$Cache" "target" "I", Cond.methodLink RX0 71 Lib.Math.min.name, Cond.static Lib.Math.min.name, Cond.initialized "java/lang/Math", Cond.code Lib.Math.min.name Lib.Math.min.code 2 (some .int), Cond.methodLink RX0 77 Lib.Math.max.name, Cond.static Lib.Math.max.name, Cond.code Lib.Math.max.name Lib.Math.max.code 2 (some .int), Cond.fieldLink RX0 21 "AdaptiveReplacementCache$Cache" "recentGhosts" "LAdaptiveReplacementCache$KeyList;", Cond.fieldLink RX0 24 "AdaptiveReplacementCache$Cache" "frequentGhosts" "LAdaptiveReplacementCache$KeyList;", Cond.methodLink RX0 62 yX0_pages]
def wsX2_setCapacity_r2 : List Cond := [Cond.instanceMethod yX0_pages, Cond.selects RX0 yX0_pages yX0_pages, Cond.code yX0_pages cX0_pages 1 (some .int), Cond.fieldLink RX0 12 "AdaptiveReplacementCache$Cache" "recent" "LAdaptiveReplacementCache$KeyList;", Cond.fieldLink RX0 18 "AdaptiveReplacementCache$Cache" "frequent" "LAdaptiveReplacementCache$KeyList;", Cond.methodLink RX0 47 yX1_length, Cond.instanceMethod yX1_length, Cond.selects RX1 yX1_length yX1_length, Cond.initialized RX1, Cond.code yX1_length cX1_length 1 (some .int), Cond.fieldLink RX1 15 "AdaptiveReplacementCache$KeyList" "length" "I", Cond.methodLink RX0 80 yX0_evict, Cond.instanceMethod yX0_evict, Cond.selects RX0 yX0_evict yX0_evict, Cond.code yX0_evict cX0_evict 2 none, Cond.fieldLink RX0 44 "AdaptiveReplacementCache$Cache" "evictions" "I", Cond.methodLink RX0 122 yX0_evictsRecentPage, Cond.instanceMethod yX0_evictsRecentPage, Cond.selects RX0 yX0_evictsRecentPage yX0_evictsRecentPage, Cond.code yX0_evictsRecentPage cX0_evictsRecentPage 3 (some .boolean), Cond.methodLink RX0 87 yX1_takeOldest, Cond.instanceMethod yX1_takeOldest, Cond.selects RX1 yX1_takeOldest yX1_takeOldest, Cond.code yX1_takeOldest cX1_takeOldest 2 (some .int)]
def wsX2_setCapacity_r3 : List Cond := [Cond.methodLink RX1 23 yX1_fromOldest, Cond.instanceMethod yX1_fromOldest, Cond.selects RX1 yX1_fromOldest yX1_fromOldest, Cond.code yX1_fromOldest cX1_fromOldest 2 (some .int), Cond.fieldLink RX1 9 "AdaptiveReplacementCache$KeyList" "keys" "[I", Cond.methodLink RX1 26 yX1_closeGap, Cond.instanceMethod yX1_closeGap, Cond.selects RX1 yX1_closeGap yX1_closeGap, Cond.code yX1_closeGap cX1_closeGap 3 none, Cond.methodLink RX0 109 yX1_join, Cond.instanceMethod yX1_join, Cond.selects RX1 yX1_join yX1_join, Cond.code yX1_join cX1_join 2 none, Cond.methodLink RX0 84 yX0_recentAndGhosts, Cond.instanceMethod yX0_recentAndGhosts, Cond.selects RX0 yX0_recentAndGhosts yX0_recentAndGhosts, Cond.code yX0_recentAndGhosts cX0_recentAndGhosts 1 (some .int), Cond.methodLink RX0 90 yX0_keysInAll, Cond.instanceMethod yX0_keysInAll, Cond.selects RX0 yX0_keysInAll yX0_keysInAll, Cond.code yX0_keysInAll cX0_keysInAll 1 (some .int)]
def wsX2_setCapacity : List Cond := .code yX2_setCapacity cX2_setCapacity 2 (some .int) :: ((wsX2_setCapacity_r1 ++ (wsX2_setCapacity_r2 ++ wsX2_setCapacity_r3)) ++ wsX20 ++ wsX00 ++ wsX10 ++ (vx_atS RX2 64 "java/lang/IllegalArgumentException" ["java/lang/RuntimeException", "java/lang/Exception"]).filter goodWord)
def wsX2_capacity : List Cond := .code yX2_capacity cX2_capacity 1 (some .int) :: ([.fieldLink RX2 12 "AdaptiveReplacementCache" "cache" "LAdaptiveReplacementCache$Cache;"] ++ wsX20 ++ wsX00)
def wsX2_setScanLength : List Cond := .code yX2_setScanLength cX2_setScanLength 3 (some .int) :: ([.classLink RX2 60 "java/lang/IllegalArgumentException", .initialized "java/lang/IllegalArgumentException", .fieldLink RX2 12 "AdaptiveReplacementCache" "cache" "LAdaptiveReplacementCache$Cache;"] ++ wsX20 ++ wsX00 ++ (vx_atS RX2 64 "java/lang/IllegalArgumentException" ["java/lang/RuntimeException", "java/lang/Exception"]).filter goodWord)
def wsX2_run : List Cond := .code yX2_run cX2_run 1 (some .int) :: ([.fieldLink RX2 12 "AdaptiveReplacementCache" "cache" "LAdaptiveReplacementCache$Cache;"] ++ wsX20 ++ wsX00)
def wsX2_target : List Cond := .code yX2_target cX2_target 1 (some .int) :: ([.fieldLink RX2 12 "AdaptiveReplacementCache" "cache" "LAdaptiveReplacementCache$Cache;"] ++ wsX20 ++ wsX00)
def wsX2_size : List Cond := .code yX2_size cX2_size 1 (some .int) :: ([.fieldLink RX2 12 "AdaptiveReplacementCache" "cache" "LAdaptiveReplacementCache$Cache;", .methodLink RX2 76 yX0_pages, .instanceMethod yX0_pages, .selects RX0 yX0_pages yX0_pages, .initialized RX0, .code yX0_pages cX0_pages 1 (some .int), .fieldLink RX0 12 "AdaptiveReplacementCache$Cache" "recent" "LAdaptiveReplacementCache$KeyList;", .fieldLink RX0 18 "AdaptiveReplacementCache$Cache" "frequent" "LAdaptiveReplacementCache$KeyList;", .methodLink RX0 47 yX1_length, .instanceMethod yX1_length, .selects RX1 yX1_length yX1_length, .initialized RX1, .code yX1_length cX1_length 1 (some .int), .fieldLink RX1 15 "AdaptiveReplacementCache$KeyList" "length" "I"] ++ wsX20 ++ wsX00 ++ wsX10)
def wsX2_whereIs_r1 : List Cond := [Cond.fieldLink RX2 12 "AdaptiveReplacementCache" "cache" "LAdaptiveReplacementCache$Cache;", Cond.methodLink RX2 29 yX2_checkKey, Cond.static yX2_checkKey, Cond.initialized RX2, Cond.code yX2_checkKey cX2_checkKey 1 none, Cond.classLink RX2 60 "java/lang/IllegalArgumentException", Cond.initialized "java/lang/IllegalArgumentException", Cond.methodLink RX2 79 yX0_listWith, Cond.instanceMethod yX0_listWith, Cond.selects RX0 yX0_listWith yX0_listWith, Cond.initialized RX0, Cond.code yX0_listWith cX0_listWith 2 (some .int), Cond.fieldLink RX0 12 "AdaptiveReplacementCache$Cache" "recent" "LAdaptiveReplacementCache$KeyList;", Cond.fieldLink RX0 18 "AdaptiveReplacementCache$Cache" "frequent" "LAdaptiveReplacementCache$KeyList;", Cond.fieldLink RX0 21 "AdaptiveReplacementCache$Cache" "recentGhosts" "LAdaptiveReplacementCache$KeyList;", Cond.fieldLink RX0 24 "AdaptiveReplacementCache$Cache" "frequentGhosts" "LAdaptiveReplacementCache$KeyList;", Cond.methodLink RX0 50 yX1_holds, Cond.instanceMethod yX1_holds, Cond.selects RX1 yX1_holds yX1_holds, Cond.initialized RX1, Cond.code yX1_holds cX1_holds 2 (some .boolean), Cond.methodLink RX1 19 yX1_indexOf, Cond.instanceMethod yX1_indexOf, Cond.selects RX1 yX1_indexOf yX1_indexOf]
def wsX2_whereIs_r2 : List Cond := [Cond.code yX1_indexOf cX1_indexOf 3 (some .int), Cond.fieldLink RX1 15 "AdaptiveReplacementCache$KeyList" "length" "I", Cond.fieldLink RX1 9 "AdaptiveReplacementCache$KeyList" "keys" "[I"]
def wsX2_whereIs : List Cond := .code yX2_whereIs cX2_whereIs 2 (some .int) :: ((wsX2_whereIs_r1 ++ wsX2_whereIs_r2) ++ wsX20 ++ wsX00 ++ wsX10 ++ (vx_atS RX2 64 "java/lang/IllegalArgumentException" ["java/lang/RuntimeException", "java/lang/Exception"]).filter goodWord)
def wsX2_victim_r1 : List Cond := [Cond.fieldLink RX2 12 "AdaptiveReplacementCache" "cache" "LAdaptiveReplacementCache$Cache;", Cond.methodLink RX2 82 yX0_nextToLeave, Cond.instanceMethod yX0_nextToLeave, Cond.selects RX0 yX0_nextToLeave yX0_nextToLeave, Cond.initialized RX0, Cond.code yX0_nextToLeave cX0_nextToLeave 1 (some .int), Cond.fieldLink RX0 12 "AdaptiveReplacementCache$Cache" "recent" "LAdaptiveReplacementCache$KeyList;", Cond.fieldLink RX0 18 "AdaptiveReplacementCache$Cache" "frequent" "LAdaptiveReplacementCache$KeyList;", Cond.methodLink RX0 112 yX0_dropsRecentPage, Cond.instanceMethod yX0_dropsRecentPage, Cond.selects RX0 yX0_dropsRecentPage yX0_dropsRecentPage, Cond.code yX0_dropsRecentPage cX0_dropsRecentPage 1 (some .boolean), Cond.fieldLink RX0 27 "AdaptiveReplacementCache$Cache" "capacity" "I", Cond.fieldLink RX0 21 "AdaptiveReplacementCache$Cache" "recentGhosts" "LAdaptiveReplacementCache$KeyList;", Cond.methodLink RX0 84 yX0_recentAndGhosts, Cond.instanceMethod yX0_recentAndGhosts, Cond.selects RX0 yX0_recentAndGhosts yX0_recentAndGhosts, Cond.code yX0_recentAndGhosts cX0_recentAndGhosts 1 (some .int), Cond.methodLink RX0 47 yX1_length, Cond.instanceMethod yX1_length, Cond.selects RX1 yX1_length yX1_length, Cond.initialized RX1, Cond.code yX1_length cX1_length 1 (some .int), Cond.fieldLink RX1 15 "AdaptiveReplacementCache$KeyList" "length" "I"]
def wsX2_victim_r2 : List Cond := [Cond.methodLink RX0 116 yX1_oldest, Cond.instanceMethod yX1_oldest, Cond.selects RX1 yX1_oldest yX1_oldest, Cond.code yX1_oldest cX1_oldest 1 (some .int), Cond.methodLink RX1 23 yX1_fromOldest, Cond.instanceMethod yX1_fromOldest, Cond.selects RX1 yX1_fromOldest yX1_fromOldest, Cond.code yX1_fromOldest cX1_fromOldest 2 (some .int), Cond.fieldLink RX1 9 "AdaptiveReplacementCache$KeyList" "keys" "[I", Cond.methodLink RX0 119 yX0_isFull, Cond.instanceMethod yX0_isFull, Cond.selects RX0 yX0_isFull yX0_isFull, Cond.code yX0_isFull cX0_isFull 1 (some .boolean), Cond.methodLink RX0 62 yX0_pages, Cond.instanceMethod yX0_pages, Cond.selects RX0 yX0_pages yX0_pages, Cond.code yX0_pages cX0_pages 1 (some .int), Cond.methodLink RX0 122 yX0_evictsRecentPage, Cond.instanceMethod yX0_evictsRecentPage, Cond.selects RX0 yX0_evictsRecentPage yX0_evictsRecentPage, Cond.code yX0_evictsRecentPage cX0_evictsRecentPage 3 (some .boolean), Cond.fieldLink RX0 68 "AdaptiveReplacementCache$Cache" "target" "I"]
def wsX2_victim : List Cond := .code yX2_victim cX2_victim 1 (some .int) :: ((wsX2_victim_r1 ++ wsX2_victim_r2) ++ wsX20 ++ wsX00 ++ wsX10)
def wsX2_recentSize : List Cond := .code yX2_recentSize cX2_recentSize 1 (some .int) :: ([.fieldLink RX2 12 "AdaptiveReplacementCache" "cache" "LAdaptiveReplacementCache$Cache;", .methodLink RX2 88 yX1_length, .instanceMethod yX1_length, .selects RX1 yX1_length yX1_length, .initialized RX1, .code yX1_length cX1_length 1 (some .int), .fieldLink RX1 15 "AdaptiveReplacementCache$KeyList" "length" "I"] ++ wsX20 ++ wsX00 ++ wsX10)
def wsX2_frequentSize : List Cond := .code yX2_frequentSize cX2_frequentSize 1 (some .int) :: ([.fieldLink RX2 12 "AdaptiveReplacementCache" "cache" "LAdaptiveReplacementCache$Cache;", .methodLink RX2 88 yX1_length, .instanceMethod yX1_length, .selects RX1 yX1_length yX1_length, .initialized RX1, .code yX1_length cX1_length 1 (some .int), .fieldLink RX1 15 "AdaptiveReplacementCache$KeyList" "length" "I"] ++ wsX20 ++ wsX00 ++ wsX10)
def wsX2_recentGhosts : List Cond := .code yX2_recentGhosts cX2_recentGhosts 1 (some .int) :: ([.fieldLink RX2 12 "AdaptiveReplacementCache" "cache" "LAdaptiveReplacementCache$Cache;", .methodLink RX2 88 yX1_length, .instanceMethod yX1_length, .selects RX1 yX1_length yX1_length, .initialized RX1, .code yX1_length cX1_length 1 (some .int), .fieldLink RX1 15 "AdaptiveReplacementCache$KeyList" "length" "I"] ++ wsX20 ++ wsX00 ++ wsX10)
def wsX2_frequentGhosts : List Cond := .code yX2_frequentGhosts cX2_frequentGhosts 1 (some .int) :: ([.fieldLink RX2 12 "AdaptiveReplacementCache" "cache" "LAdaptiveReplacementCache$Cache;", .methodLink RX2 88 yX1_length, .instanceMethod yX1_length, .selects RX1 yX1_length yX1_length, .initialized RX1, .code yX1_length cX1_length 1 (some .int), .fieldLink RX1 15 "AdaptiveReplacementCache$KeyList" "length" "I"] ++ wsX20 ++ wsX00 ++ wsX10)
def wsX2_keyAt : List Cond := .code yX2_keyAt cX2_keyAt 2 (some .int) :: ([.classLink RX2 146 "java/lang/IndexOutOfBoundsException", .initialized "java/lang/IndexOutOfBoundsException", .methodLink RX2 88 yX1_length, .instanceMethod yX1_length, .selects RX1 yX1_length yX1_length, .initialized RX1, .code yX1_length cX1_length 1 (some .int), .fieldLink RX1 15 "AdaptiveReplacementCache$KeyList" "length" "I", .methodLink RX2 151 yX1_fromNewest, .instanceMethod yX1_fromNewest, .selects RX1 yX1_fromNewest yX1_fromNewest, .code yX1_fromNewest cX1_fromNewest 2 (some .int), .methodLink RX1 23 yX1_fromOldest, .instanceMethod yX1_fromOldest, .selects RX1 yX1_fromOldest yX1_fromOldest, .code yX1_fromOldest cX1_fromOldest 2 (some .int), .fieldLink RX1 9 "AdaptiveReplacementCache$KeyList" "keys" "[I"] ++ wsX10 ++ (vx_atS RX2 150 "java/lang/IndexOutOfBoundsException" ["java/lang/RuntimeException", "java/lang/Exception"]).filter goodWord)
def wsX2_recentAt : List Cond := .code yX2_recentAt cX2_recentAt 2 (some .int) :: ([.fieldLink RX2 12 "AdaptiveReplacementCache" "cache" "LAdaptiveReplacementCache$Cache;", .methodLink RX2 100 yX2_keyAt, .static yX2_keyAt, .initialized RX2, .code yX2_keyAt cX2_keyAt 2 (some .int), .classLink RX2 146 "java/lang/IndexOutOfBoundsException", .initialized "java/lang/IndexOutOfBoundsException", .methodLink RX2 88 yX1_length, .instanceMethod yX1_length, .selects RX1 yX1_length yX1_length, .initialized RX1, .code yX1_length cX1_length 1 (some .int), .fieldLink RX1 15 "AdaptiveReplacementCache$KeyList" "length" "I", .methodLink RX2 151 yX1_fromNewest, .instanceMethod yX1_fromNewest, .selects RX1 yX1_fromNewest yX1_fromNewest, .code yX1_fromNewest cX1_fromNewest 2 (some .int), .methodLink RX1 23 yX1_fromOldest, .instanceMethod yX1_fromOldest, .selects RX1 yX1_fromOldest yX1_fromOldest, .code yX1_fromOldest cX1_fromOldest 2 (some .int), .fieldLink RX1 9 "AdaptiveReplacementCache$KeyList" "keys" "[I"] ++ wsX20 ++ wsX00 ++ wsX10 ++ (vx_atS RX2 150 "java/lang/IndexOutOfBoundsException" ["java/lang/RuntimeException", "java/lang/Exception"]).filter goodWord)
def wsX2_frequentAt : List Cond := .code yX2_frequentAt cX2_frequentAt 2 (some .int) :: ([.fieldLink RX2 12 "AdaptiveReplacementCache" "cache" "LAdaptiveReplacementCache$Cache;", .methodLink RX2 100 yX2_keyAt, .static yX2_keyAt, .initialized RX2, .code yX2_keyAt cX2_keyAt 2 (some .int), .classLink RX2 146 "java/lang/IndexOutOfBoundsException", .initialized "java/lang/IndexOutOfBoundsException", .methodLink RX2 88 yX1_length, .instanceMethod yX1_length, .selects RX1 yX1_length yX1_length, .initialized RX1, .code yX1_length cX1_length 1 (some .int), .fieldLink RX1 15 "AdaptiveReplacementCache$KeyList" "length" "I", .methodLink RX2 151 yX1_fromNewest, .instanceMethod yX1_fromNewest, .selects RX1 yX1_fromNewest yX1_fromNewest, .code yX1_fromNewest cX1_fromNewest 2 (some .int), .methodLink RX1 23 yX1_fromOldest, .instanceMethod yX1_fromOldest, .selects RX1 yX1_fromOldest yX1_fromOldest, .code yX1_fromOldest cX1_fromOldest 2 (some .int), .fieldLink RX1 9 "AdaptiveReplacementCache$KeyList" "keys" "[I"] ++ wsX20 ++ wsX00 ++ wsX10 ++ (vx_atS RX2 150 "java/lang/IndexOutOfBoundsException" ["java/lang/RuntimeException", "java/lang/Exception"]).filter goodWord)
def wsX2_recentGhostAt : List Cond := .code yX2_recentGhostAt cX2_recentGhostAt 2 (some .int) :: ([.fieldLink RX2 12 "AdaptiveReplacementCache" "cache" "LAdaptiveReplacementCache$Cache;", .methodLink RX2 100 yX2_keyAt, .static yX2_keyAt, .initialized RX2, .code yX2_keyAt cX2_keyAt 2 (some .int), .classLink RX2 146 "java/lang/IndexOutOfBoundsException", .initialized "java/lang/IndexOutOfBoundsException", .methodLink RX2 88 yX1_length, .instanceMethod yX1_length, .selects RX1 yX1_length yX1_length, .initialized RX1, .code yX1_length cX1_length 1 (some .int), .fieldLink RX1 15 "AdaptiveReplacementCache$KeyList" "length" "I", .methodLink RX2 151 yX1_fromNewest, .instanceMethod yX1_fromNewest, .selects RX1 yX1_fromNewest yX1_fromNewest, .code yX1_fromNewest cX1_fromNewest 2 (some .int), .methodLink RX1 23 yX1_fromOldest, .instanceMethod yX1_fromOldest, .selects RX1 yX1_fromOldest yX1_fromOldest, .code yX1_fromOldest cX1_fromOldest 2 (some .int), .fieldLink RX1 9 "AdaptiveReplacementCache$KeyList" "keys" "[I"] ++ wsX20 ++ wsX00 ++ wsX10 ++ (vx_atS RX2 150 "java/lang/IndexOutOfBoundsException" ["java/lang/RuntimeException", "java/lang/Exception"]).filter goodWord)
def wsX2_frequentGhostAt : List Cond := .code yX2_frequentGhostAt cX2_frequentGhostAt 2 (some .int) :: ([.fieldLink RX2 12 "AdaptiveReplacementCache" "cache" "LAdaptiveReplacementCache$Cache;", .methodLink RX2 100 yX2_keyAt, .static yX2_keyAt, .initialized RX2, .code yX2_keyAt cX2_keyAt 2 (some .int), .classLink RX2 146 "java/lang/IndexOutOfBoundsException", .initialized "java/lang/IndexOutOfBoundsException", .methodLink RX2 88 yX1_length, .instanceMethod yX1_length, .selects RX1 yX1_length yX1_length, .initialized RX1, .code yX1_length cX1_length 1 (some .int), .fieldLink RX1 15 "AdaptiveReplacementCache$KeyList" "length" "I", .methodLink RX2 151 yX1_fromNewest, .instanceMethod yX1_fromNewest, .selects RX1 yX1_fromNewest yX1_fromNewest, .code yX1_fromNewest cX1_fromNewest 2 (some .int), .methodLink RX1 23 yX1_fromOldest, .instanceMethod yX1_fromOldest, .selects RX1 yX1_fromOldest yX1_fromOldest, .code yX1_fromOldest cX1_fromOldest 2 (some .int), .fieldLink RX1 9 "AdaptiveReplacementCache$KeyList" "keys" "[I"] ++ wsX20 ++ wsX00 ++ wsX10 ++ (vx_atS RX2 150 "java/lang/IndexOutOfBoundsException" ["java/lang/RuntimeException", "java/lang/Exception"]).filter goodWord)
def wsX2_requests : List Cond := .code yX2_requests cX2_requests 1 (some .int) :: ([.fieldLink RX2 104 "AdaptiveReplacementCache" "requests" "I"] ++ wsX20)
def wsX2_hits : List Cond := .code yX2_hits cX2_hits 1 (some .int) :: ([.fieldLink RX2 107 "AdaptiveReplacementCache" "hits" "I"] ++ wsX20)
def wsX2_ghostHits : List Cond := .code yX2_ghostHits cX2_ghostHits 1 (some .int) :: ([.fieldLink RX2 110 "AdaptiveReplacementCache" "ghostHits" "I"] ++ wsX20)
def wsX2_bypassed : List Cond := .code yX2_bypassed cX2_bypassed 1 (some .int) :: ([.fieldLink RX2 113 "AdaptiveReplacementCache" "bypassed" "I"] ++ wsX20)
def wsX2_evictions : List Cond := .code yX2_evictions cX2_evictions 1 (some .int) :: ([.fieldLink RX2 12 "AdaptiveReplacementCache" "cache" "LAdaptiveReplacementCache$Cache;"] ++ wsX20 ++ wsX00)
def wsX2_hitsIf_r1 : List Cond := [Cond.fieldLink RX2 23 "AdaptiveReplacementCache" "trial" "LAdaptiveReplacementCache$Cache;", Cond.fieldLink RX2 12 "AdaptiveReplacementCache" "cache" "LAdaptiveReplacementCache$Cache;", Cond.fieldLink RX2 19 "AdaptiveReplacementCache" "log" "LAdaptiveReplacementCache$KeyList;", Cond.methodLink RX2 50 yX2_checkCapacity, Cond.static yX2_checkCapacity, Cond.initialized RX2, Cond.code yX2_checkCapacity cX2_checkCapacity 1 none, Cond.classLink RX2 60 "java/lang/IllegalArgumentException", Cond.initialized "java/lang/IllegalArgumentException", Cond.methodLink RX2 119 yX0_startAnew, Cond.instanceMethod yX0_startAnew, Cond.selects RX0 yX0_startAnew yX0_startAnew, Cond.initialized RX0, Cond.code yX0_startAnew cX0_startAnew 3 none, Cond.fieldLink RX0 27 "AdaptiveReplacementCache$Cache" "capacity" "I", Cond.fieldLink RX0 38 "AdaptiveReplacementCache$Cache" "scanLength" "I", Cond.fieldLink RX0 41 "AdaptiveReplacementCache$Cache" "run" "I", Cond.fieldLink RX0 31 "AdaptiveReplacementCache$Cache" "keyBefore" "I", Cond.fieldLink RX0 44 "AdaptiveReplacementCache$Cache" "evictions" "I", Cond.methodLink RX0 34 yX0_forgetAll, Cond.instanceMethod yX0_forgetAll, Cond.selects RX0 yX0_forgetAll yX0_forgetAll, Cond.code yX0_forgetAll cX0_forgetAll 2 (some .int), Cond.fieldLink RX0 12 "AdaptiveReplacementCache$Cache" "recent" "LAdaptiveReplacementCache$KeyList;"]
def wsX2_hitsIf_r2 : List Cond := [Cond.fieldLink RX0 18 "AdaptiveReplacementCache$Cache" "frequent" "LAdaptiveReplacementCache$KeyList;", Cond.fieldLink RX0 21 "AdaptiveReplacementCache$Cache" "recentGhosts" "LAdaptiveReplacementCache$KeyList;", Cond.fieldLink RX0 24 "AdaptiveReplacementCache$Cache" "frequentGhosts" "LAdaptiveReplacementCache$KeyList;", Cond.fieldLink RX0 68 "AdaptiveReplacementCache$Cache" "target" "I", Cond.methodLink RX0 62 yX0_pages, Cond.instanceMethod yX0_pages, Cond.selects RX0 yX0_pages yX0_pages, Cond.code yX0_pages cX0_pages 1 (some .int), Cond.methodLink RX0 47 yX1_length, Cond.instanceMethod yX1_length, Cond.selects RX1 yX1_length yX1_length, Cond.initialized RX1, Cond.code yX1_length cX1_length 1 (some .int), Cond.fieldLink RX1 15 "AdaptiveReplacementCache$KeyList" "length" "I", Cond.methodLink RX0 65 yX1_empty, Cond.instanceMethod yX1_empty, Cond.selects RX1 yX1_empty yX1_empty, Cond.code yX1_empty cX1_empty 1 none, Cond.methodLink RX2 88 yX1_length, Cond.methodLink RX2 123 yX1_fromOldest, Cond.instanceMethod yX1_fromOldest, Cond.selects RX1 yX1_fromOldest yX1_fromOldest, Cond.code yX1_fromOldest cX1_fromOldest 2 (some .int), Cond.fieldLink RX1 9 "AdaptiveReplacementCache$KeyList" "keys" "[I"]
def wsX2_hitsIf_r3 : List Cond := [Cond.methodLink RX2 36 yX0_serve, Cond.instanceMethod yX0_serve, Cond.selects RX0 yX0_serve yX0_serve, Cond.code yX0_serve cX0_serve 3 (some .int), Cond.methodLink RX0 93 yX0_lengthenRun, Cond.instanceMethod yX0_lengthenRun, Cond.selects RX0 yX0_lengthenRun yX0_lengthenRun, Cond.code yX0_lengthenRun cX0_lengthenRun 3 none, Cond.methodLink RX0 54 yX0_listWith, Cond.instanceMethod yX0_listWith, Cond.selects RX0 yX0_listWith yX0_listWith, Cond.code yX0_listWith cX0_listWith 2 (some .int), Cond.methodLink RX0 50 yX1_holds, Cond.instanceMethod yX1_holds, Cond.selects RX1 yX1_holds yX1_holds, Cond.code yX1_holds cX1_holds 2 (some .boolean), Cond.methodLink RX1 19 yX1_indexOf, Cond.instanceMethod yX1_indexOf, Cond.selects RX1 yX1_indexOf yX1_indexOf, Cond.code yX1_indexOf cX1_indexOf 3 (some .int), Cond.static yX2_isPage, Cond.code yX2_isPage cX2_isPage 1 (some .boolean), Cond.methodLink RX0 100 yX0_admit, Cond.instanceMethod yX0_admit]
def wsX2_hitsIf_r4 : List Cond := [Cond.selects RX0 yX0_admit yX0_admit, Cond.code yX0_admit cX0_admit 2 none, Cond.methodLink RX0 112 yX0_dropsRecentPage, Cond.instanceMethod yX0_dropsRecentPage, Cond.selects RX0 yX0_dropsRecentPage yX0_dropsRecentPage, Cond.code yX0_dropsRecentPage cX0_dropsRecentPage 1 (some .boolean), Cond.methodLink RX0 84 yX0_recentAndGhosts, Cond.instanceMethod yX0_recentAndGhosts, Cond.selects RX0 yX0_recentAndGhosts yX0_recentAndGhosts, Cond.code yX0_recentAndGhosts cX0_recentAndGhosts 1 (some .int), Cond.methodLink RX0 87 yX1_takeOldest, Cond.instanceMethod yX1_takeOldest, Cond.selects RX1 yX1_takeOldest yX1_takeOldest, Cond.code yX1_takeOldest cX1_takeOldest 2 (some .int), Cond.methodLink RX1 23 yX1_fromOldest, Cond.methodLink RX1 26 yX1_closeGap, Cond.instanceMethod yX1_closeGap, Cond.selects RX1 yX1_closeGap yX1_closeGap, Cond.code yX1_closeGap cX1_closeGap 3 none, Cond.methodLink RX0 90 yX0_keysInAll, Cond.instanceMethod yX0_keysInAll, Cond.selects RX0 yX0_keysInAll yX0_keysInAll, Cond.code yX0_keysInAll cX0_keysInAll 1 (some .int), Cond.methodLink RX0 106 yX0_makeRoom]
def wsX2_hitsIf_r5 : List Cond := [Cond.instanceMethod yX0_makeRoom, Cond.selects RX0 yX0_makeRoom yX0_makeRoom, Cond.code yX0_makeRoom cX0_makeRoom 2 none, Cond.methodLink RX0 119 yX0_isFull, Cond.instanceMethod yX0_isFull, Cond.selects RX0 yX0_isFull yX0_isFull, Cond.code yX0_isFull cX0_isFull 1 (some .boolean), Cond.methodLink RX0 80 yX0_evict, Cond.instanceMethod yX0_evict, Cond.selects RX0 yX0_evict yX0_evict, Cond.code yX0_evict cX0_evict 2 none, Cond.methodLink RX0 122 yX0_evictsRecentPage, Cond.instanceMethod yX0_evictsRecentPage, Cond.selects RX0 yX0_evictsRecentPage yX0_evictsRecentPage, Cond.code yX0_evictsRecentPage cX0_evictsRecentPage 3 (some .boolean), Cond.methodLink RX0 109 yX1_join, Cond.instanceMethod yX1_join, Cond.selects RX1 yX1_join yX1_join, Cond.code yX1_join cX1_join 2 none, Cond.methodLink RX0 103 yX0_adaptTarget, Cond.instanceMethod yX0_adaptTarget, Cond.selects RX0 yX0_adaptTarget yX0_adaptTarget, Cond.code yX0_adaptTarget cX0_adaptTarget 4 none, Cond.methodLink RX0 71 Lib.Math.min.name]
def wsX2_hitsIf_r6 : List Cond := [Cond.static Lib.Math.min.name, Cond.initialized "java/lang/Math", Cond.code Lib.Math.min.name Lib.Math.min.code 2 (some .int), Cond.methodLink RX0 77 Lib.Math.max.name, Cond.static Lib.Math.max.name, Cond.code Lib.Math.max.name Lib.Math.max.code 2 (some .int), Cond.methodLink RX0 126 yX0_adaptationStep, Cond.static yX0_adaptationStep, Cond.code yX0_adaptationStep cX0_adaptationStep 2 (some .int), Cond.methodLink RX0 58 yX0_takeFrom, Cond.instanceMethod yX0_takeFrom, Cond.selects RX0 yX0_takeFrom yX0_takeFrom, Cond.code yX0_takeFrom cX0_takeFrom 3 none, Cond.methodLink RX0 129 yX1_takeOut, Cond.instanceMethod yX1_takeOut, Cond.selects RX1 yX1_takeOut yX1_takeOut, Cond.code yX1_takeOut cX1_takeOut 3 (some .boolean), Cond.methodLink RX2 126 yX2_isPage]
def wsX2_hitsIf : List Cond := .code yX2_hitsIf cX2_hitsIf 4 (some .int) :: ((wsX2_hitsIf_r1 ++ (wsX2_hitsIf_r2 ++ (wsX2_hitsIf_r3 ++ (wsX2_hitsIf_r4 ++ (wsX2_hitsIf_r5 ++ wsX2_hitsIf_r6))))) ++ wsX20 ++ wsX00 ++ wsX10 ++ (vx_atS RX2 64 "java/lang/IllegalArgumentException" ["java/lang/RuntimeException", "java/lang/Exception"]).filter goodWord)
def wsX2_leastRecentHitsIf_r1 : List Cond := [Cond.fieldLink RX2 26 "AdaptiveReplacementCache" "latestPages" "LAdaptiveReplacementCache$KeyList;", Cond.fieldLink RX2 19 "AdaptiveReplacementCache" "log" "LAdaptiveReplacementCache$KeyList;", Cond.methodLink RX2 50 yX2_checkCapacity, Cond.static yX2_checkCapacity, Cond.initialized RX2, Cond.code yX2_checkCapacity cX2_checkCapacity 1 none, Cond.classLink RX2 60 "java/lang/IllegalArgumentException", Cond.initialized "java/lang/IllegalArgumentException", Cond.methodLink RX2 130 yX1_empty, Cond.instanceMethod yX1_empty, Cond.selects RX1 yX1_empty yX1_empty, Cond.initialized RX1, Cond.code yX1_empty cX1_empty 1 none, Cond.fieldLink RX1 15 "AdaptiveReplacementCache$KeyList" "length" "I", Cond.methodLink RX2 88 yX1_length, Cond.instanceMethod yX1_length, Cond.selects RX1 yX1_length yX1_length, Cond.code yX1_length cX1_length 1 (some .int), Cond.methodLink RX2 123 yX1_fromOldest, Cond.instanceMethod yX1_fromOldest, Cond.selects RX1 yX1_fromOldest yX1_fromOldest, Cond.code yX1_fromOldest cX1_fromOldest 2 (some .int), Cond.fieldLink RX1 9 "AdaptiveReplacementCache$KeyList" "keys" "[I", Cond.methodLink RX2 133 yX1_takeOut]
def wsX2_leastRecentHitsIf_r2 : List Cond := [Cond.instanceMethod yX1_takeOut, Cond.selects RX1 yX1_takeOut yX1_takeOut, Cond.code yX1_takeOut cX1_takeOut 3 (some .boolean), Cond.methodLink RX1 19 yX1_indexOf, Cond.instanceMethod yX1_indexOf, Cond.selects RX1 yX1_indexOf yX1_indexOf, Cond.code yX1_indexOf cX1_indexOf 3 (some .int), Cond.methodLink RX1 26 yX1_closeGap, Cond.instanceMethod yX1_closeGap, Cond.selects RX1 yX1_closeGap yX1_closeGap, Cond.code yX1_closeGap cX1_closeGap 3 none, Cond.methodLink RX2 136 yX1_takeOldest, Cond.instanceMethod yX1_takeOldest, Cond.selects RX1 yX1_takeOldest yX1_takeOldest, Cond.code yX1_takeOldest cX1_takeOldest 2 (some .int), Cond.methodLink RX1 23 yX1_fromOldest, Cond.methodLink RX2 139 yX1_join, Cond.instanceMethod yX1_join, Cond.selects RX1 yX1_join yX1_join, Cond.code yX1_join cX1_join 2 none]
def wsX2_leastRecentHitsIf : List Cond := .code yX2_leastRecentHitsIf cX2_leastRecentHitsIf 5 (some .int) :: ((wsX2_leastRecentHitsIf_r1 ++ wsX2_leastRecentHitsIf_r2) ++ wsX20 ++ wsX10 ++ (vx_atS RX2 64 "java/lang/IllegalArgumentException" ["java/lang/RuntimeException", "java/lang/Exception"]).filter goodWord)
def wsX3_init : List Cond := .code yX3_init cX3_init 1 none :: ([.methodLink RX3 1 objectInit, .instanceMethod objectInit, .code objectInit ⟨#[0xb1]⟩ 1 none, .arrayClass .int, .fieldLink RX3 7 "AdaptiveReplacementCacheModel" "now" "[I", .fieldLink RX3 13 "AdaptiveReplacementCacheModel" "then" "[I", .fieldLink RX3 16 "AdaptiveReplacementCacheModel" "log" "[I", .fieldLink RX3 19 "AdaptiveReplacementCacheModel" "pages" "[I"] ++ wsX30)
def wsX3_thrown : List Cond := .code yX3_thrown cX3_thrown 1 (some .int) :: ([.fieldLink RX3 22 "AdaptiveReplacementCacheModel" "thrown" "I"] ++ wsX30)
def wsX3_asked : List Cond := .code yX3_asked cX3_asked 2 (some .boolean) :: ([.fieldLink RX3 22 "AdaptiveReplacementCacheModel" "thrown" "I"] ++ wsX30)
def wsX3_told : List Cond := .code yX3_told cX3_told 2 (some .int) :: ([.fieldLink RX3 22 "AdaptiveReplacementCacheModel" "thrown" "I"] ++ wsX30)
def wsX3_isKey : List Cond := .code yX3_isKey cX3_isKey 1 (some .boolean) :: ([])
def wsX3_at : List Cond := .code yX3_at cX3_at 2 (some .int) :: ([])
def wsX3_placeIn : List Cond := .code yX3_placeIn cX3_placeIn 5 (some .int) :: ([.methodLink RX3 26 yX3_at, .static yX3_at, .initialized RX3, .code yX3_at cX3_at 2 (some .int)])
def wsX3_listOf : List Cond := .code yX3_listOf cX3_listOf 4 (some .int) :: ([.methodLink RX3 30 yX3_placeIn, .static yX3_placeIn, .initialized RX3, .code yX3_placeIn cX3_placeIn 5 (some .int), .methodLink RX3 26 yX3_at, .static yX3_at, .code yX3_at cX3_at 2 (some .int)])
def wsX3_joins : List Cond := .code yX3_joins cX3_joins 3 none :: ([.methodLink RX3 26 yX3_at, .static yX3_at, .initialized RX3, .code yX3_at cX3_at 2 (some .int)])
def wsX3_leaves : List Cond := .code yX3_leaves cX3_leaves 5 (some .int) :: ([.methodLink RX3 26 yX3_at, .static yX3_at, .initialized RX3, .code yX3_at cX3_at 2 (some .int)])
def wsX3_isFull : List Cond := .code yX3_isFull cX3_isFull 1 (some .boolean) :: ([])
def wsX3_allKeys : List Cond := .code yX3_allKeys cX3_allKeys 1 (some .int) :: ([])
def wsX3_evictedFrom : List Cond := .code yX3_evictedFrom cX3_evictedFrom 3 (some .int) :: ([])
def wsX3_evicts : List Cond := .code yX3_evicts cX3_evicts 3 none :: ([.methodLink RX3 34 yX3_evictedFrom, .static yX3_evictedFrom, .initialized RX3, .code yX3_evictedFrom cX3_evictedFrom 3 (some .int), .methodLink RX3 38 yX3_leaves, .static yX3_leaves, .code yX3_leaves cX3_leaves 5 (some .int), .methodLink RX3 26 yX3_at, .static yX3_at, .code yX3_at cX3_at 2 (some .int), .methodLink RX3 41 yX3_joins, .static yX3_joins, .code yX3_joins cX3_joins 3 none])
def wsX3_evictsIfFull : List Cond := .code yX3_evictsIfFull cX3_evictsIfFull 2 none :: ([.methodLink RX3 45 yX3_isFull, .static yX3_isFull, .initialized RX3, .code yX3_isFull cX3_isFull 1 (some .boolean), .methodLink RX3 49 yX3_evicts, .static yX3_evicts, .code yX3_evicts cX3_evicts 3 none, .methodLink RX3 34 yX3_evictedFrom, .static yX3_evictedFrom, .code yX3_evictedFrom cX3_evictedFrom 3 (some .int), .methodLink RX3 38 yX3_leaves, .static yX3_leaves, .code yX3_leaves cX3_leaves 5 (some .int), .methodLink RX3 26 yX3_at, .static yX3_at, .code yX3_at cX3_at 2 (some .int), .methodLink RX3 41 yX3_joins, .static yX3_joins, .code yX3_joins cX3_joins 3 none])
def wsX3_step : List Cond := .code yX3_step cX3_step 3 (some .int) :: ([])
def wsX3_ghost_r1 : List Cond := [Cond.methodLink RX3 53 yX3_step, Cond.static yX3_step, Cond.initialized RX3, Cond.code yX3_step cX3_step 3 (some .int), Cond.methodLink RX3 56 yX3_evictsIfFull, Cond.static yX3_evictsIfFull, Cond.code yX3_evictsIfFull cX3_evictsIfFull 2 none, Cond.methodLink RX3 45 yX3_isFull, Cond.static yX3_isFull, Cond.code yX3_isFull cX3_isFull 1 (some .boolean), Cond.methodLink RX3 49 yX3_evicts, Cond.static yX3_evicts, Cond.code yX3_evicts cX3_evicts 3 none, Cond.methodLink RX3 34 yX3_evictedFrom, Cond.static yX3_evictedFrom, Cond.code yX3_evictedFrom cX3_evictedFrom 3 (some .int), Cond.methodLink RX3 38 yX3_leaves, Cond.static yX3_leaves, Cond.code yX3_leaves cX3_leaves 5 (some .int), Cond.methodLink RX3 26 yX3_at, Cond.static yX3_at, Cond.code yX3_at cX3_at 2 (some .int), Cond.methodLink RX3 41 yX3_joins, Cond.static yX3_joins]
def wsX3_ghost_r2 : List Cond := [Cond.code yX3_joins cX3_joins 3 none, Cond.methodLink RX3 30 yX3_placeIn, Cond.static yX3_placeIn, Cond.code yX3_placeIn cX3_placeIn 5 (some .int)]
def wsX3_ghost : List Cond := .code yX3_ghost cX3_ghost 5 none :: ((wsX3_ghost_r1 ++ wsX3_ghost_r2))
def wsX3_miss_r1 : List Cond := [Cond.methodLink RX3 38 yX3_leaves, Cond.static yX3_leaves, Cond.initialized RX3, Cond.code yX3_leaves cX3_leaves 5 (some .int), Cond.methodLink RX3 26 yX3_at, Cond.static yX3_at, Cond.code yX3_at cX3_at 2 (some .int), Cond.methodLink RX3 56 yX3_evictsIfFull, Cond.static yX3_evictsIfFull, Cond.code yX3_evictsIfFull cX3_evictsIfFull 2 none, Cond.methodLink RX3 45 yX3_isFull, Cond.static yX3_isFull, Cond.code yX3_isFull cX3_isFull 1 (some .boolean), Cond.methodLink RX3 49 yX3_evicts, Cond.static yX3_evicts, Cond.code yX3_evicts cX3_evicts 3 none, Cond.methodLink RX3 34 yX3_evictedFrom, Cond.static yX3_evictedFrom, Cond.code yX3_evictedFrom cX3_evictedFrom 3 (some .int), Cond.methodLink RX3 41 yX3_joins, Cond.static yX3_joins, Cond.code yX3_joins cX3_joins 3 none, Cond.methodLink RX3 59 yX3_allKeys, Cond.static yX3_allKeys]
def wsX3_miss_r2 : List Cond := [Cond.code yX3_allKeys cX3_allKeys 1 (some .int)]
def wsX3_miss : List Cond := .code yX3_miss cX3_miss 2 none :: ((wsX3_miss_r1 ++ wsX3_miss_r2))
def wsX3_asks_r1 : List Cond := [Cond.methodLink RX3 63 yX3_listOf, Cond.static yX3_listOf, Cond.initialized RX3, Cond.code yX3_listOf cX3_listOf 4 (some .int), Cond.methodLink RX3 30 yX3_placeIn, Cond.static yX3_placeIn, Cond.code yX3_placeIn cX3_placeIn 5 (some .int), Cond.methodLink RX3 26 yX3_at, Cond.static yX3_at, Cond.code yX3_at cX3_at 2 (some .int), Cond.methodLink RX3 38 yX3_leaves, Cond.static yX3_leaves, Cond.code yX3_leaves cX3_leaves 5 (some .int), Cond.methodLink RX3 41 yX3_joins, Cond.static yX3_joins, Cond.code yX3_joins cX3_joins 3 none, Cond.methodLink RX3 66 yX3_ghost, Cond.static yX3_ghost, Cond.code yX3_ghost cX3_ghost 5 none, Cond.methodLink RX3 53 yX3_step, Cond.static yX3_step, Cond.code yX3_step cX3_step 3 (some .int), Cond.methodLink RX3 56 yX3_evictsIfFull, Cond.static yX3_evictsIfFull]
def wsX3_asks_r2 : List Cond := [Cond.code yX3_evictsIfFull cX3_evictsIfFull 2 none, Cond.methodLink RX3 45 yX3_isFull, Cond.static yX3_isFull, Cond.code yX3_isFull cX3_isFull 1 (some .boolean), Cond.methodLink RX3 49 yX3_evicts, Cond.static yX3_evicts, Cond.code yX3_evicts cX3_evicts 3 none, Cond.methodLink RX3 34 yX3_evictedFrom, Cond.static yX3_evictedFrom, Cond.code yX3_evictedFrom cX3_evictedFrom 3 (some .int), Cond.methodLink RX3 69 yX3_miss, Cond.static yX3_miss, Cond.code yX3_miss cX3_miss 2 none, Cond.methodLink RX3 59 yX3_allKeys, Cond.static yX3_allKeys, Cond.code yX3_allKeys cX3_allKeys 1 (some .int)]
def wsX3_asks : List Cond := .code yX3_asks cX3_asks 3 (some .int) :: ((wsX3_asks_r1 ++ wsX3_asks_r2))
def wsX3_request_r1 : List Cond := [Cond.fieldLink RX3 7 "AdaptiveReplacementCacheModel" "now" "[I", Cond.fieldLink RX3 83 "AdaptiveReplacementCacheModel" "requests" "I", Cond.fieldLink RX3 86 "AdaptiveReplacementCacheModel" "hits" "I", Cond.fieldLink RX3 89 "AdaptiveReplacementCacheModel" "ghostHits" "I", Cond.fieldLink RX3 92 "AdaptiveReplacementCacheModel" "bypassed" "I", Cond.fieldLink RX3 95 "AdaptiveReplacementCacheModel" "logged" "I", Cond.fieldLink RX3 16 "AdaptiveReplacementCacheModel" "log" "[I", Cond.methodLink RX3 72 yX3_isKey, Cond.static yX3_isKey, Cond.initialized RX3, Cond.code yX3_isKey cX3_isKey 1 (some .boolean), Cond.methodLink RX3 76 yX3_asked, Cond.instanceMethod yX3_asked, Cond.selects RX3 yX3_asked yX3_asked, Cond.code yX3_asked cX3_asked 2 (some .boolean), Cond.fieldLink RX3 22 "AdaptiveReplacementCacheModel" "thrown" "I", Cond.methodLink RX3 80 yX3_asks, Cond.static yX3_asks, Cond.code yX3_asks cX3_asks 3 (some .int), Cond.methodLink RX3 63 yX3_listOf, Cond.static yX3_listOf, Cond.code yX3_listOf cX3_listOf 4 (some .int), Cond.methodLink RX3 30 yX3_placeIn, Cond.static yX3_placeIn]
def wsX3_request_r2 : List Cond := [Cond.code yX3_placeIn cX3_placeIn 5 (some .int), Cond.methodLink RX3 26 yX3_at, Cond.static yX3_at, Cond.code yX3_at cX3_at 2 (some .int), Cond.methodLink RX3 38 yX3_leaves, Cond.static yX3_leaves, Cond.code yX3_leaves cX3_leaves 5 (some .int), Cond.methodLink RX3 41 yX3_joins, Cond.static yX3_joins, Cond.code yX3_joins cX3_joins 3 none, Cond.methodLink RX3 66 yX3_ghost, Cond.static yX3_ghost, Cond.code yX3_ghost cX3_ghost 5 none, Cond.methodLink RX3 53 yX3_step, Cond.static yX3_step, Cond.code yX3_step cX3_step 3 (some .int), Cond.methodLink RX3 56 yX3_evictsIfFull, Cond.static yX3_evictsIfFull, Cond.code yX3_evictsIfFull cX3_evictsIfFull 2 none, Cond.methodLink RX3 45 yX3_isFull, Cond.static yX3_isFull, Cond.code yX3_isFull cX3_isFull 1 (some .boolean), Cond.methodLink RX3 49 yX3_evicts, Cond.static yX3_evicts]
def wsX3_request_r3 : List Cond := [Cond.code yX3_evicts cX3_evicts 3 none, Cond.methodLink RX3 34 yX3_evictedFrom, Cond.static yX3_evictedFrom, Cond.code yX3_evictedFrom cX3_evictedFrom 3 (some .int), Cond.methodLink RX3 69 yX3_miss, Cond.static yX3_miss, Cond.code yX3_miss cX3_miss 2 none, Cond.methodLink RX3 59 yX3_allKeys, Cond.static yX3_allKeys, Cond.code yX3_allKeys cX3_allKeys 1 (some .int)]
def wsX3_request : List Cond := .code yX3_request cX3_request 4 (some .int) :: ((wsX3_request_r1 ++ (wsX3_request_r2 ++ wsX3_request_r3)) ++ wsX30)
def wsX3_remove : List Cond := .code yX3_remove cX3_remove 3 (some .int) :: ([.fieldLink RX3 7 "AdaptiveReplacementCacheModel" "now" "[I", .methodLink RX3 72 yX3_isKey, .static yX3_isKey, .initialized RX3, .code yX3_isKey cX3_isKey 1 (some .boolean), .methodLink RX3 76 yX3_asked, .instanceMethod yX3_asked, .selects RX3 yX3_asked yX3_asked, .code yX3_asked cX3_asked 2 (some .boolean), .fieldLink RX3 22 "AdaptiveReplacementCacheModel" "thrown" "I", .methodLink RX3 63 yX3_listOf, .static yX3_listOf, .code yX3_listOf cX3_listOf 4 (some .int), .methodLink RX3 30 yX3_placeIn, .static yX3_placeIn, .code yX3_placeIn cX3_placeIn 5 (some .int), .methodLink RX3 26 yX3_at, .static yX3_at, .code yX3_at cX3_at 2 (some .int), .methodLink RX3 38 yX3_leaves, .static yX3_leaves, .code yX3_leaves cX3_leaves 5 (some .int)] ++ wsX30)
def wsX3_clear : List Cond := .code yX3_clear cX3_clear 3 (some .int) :: ([.fieldLink RX3 22 "AdaptiveReplacementCacheModel" "thrown" "I", .fieldLink RX3 7 "AdaptiveReplacementCacheModel" "now" "[I"] ++ wsX30)
def wsX3_isCapacity : List Cond := .code yX3_isCapacity cX3_isCapacity 1 (some .boolean) :: ([])
def wsX3_setCapacity_r1 : List Cond := [Cond.fieldLink RX3 7 "AdaptiveReplacementCacheModel" "now" "[I", Cond.methodLink RX3 98 yX3_isCapacity, Cond.static yX3_isCapacity, Cond.initialized RX3, Cond.code yX3_isCapacity cX3_isCapacity 1 (some .boolean), Cond.methodLink RX3 76 yX3_asked, Cond.instanceMethod yX3_asked, Cond.selects RX3 yX3_asked yX3_asked, Cond.code yX3_asked cX3_asked 2 (some .boolean), Cond.fieldLink RX3 22 "AdaptiveReplacementCacheModel" "thrown" "I", Cond.methodLink RX3 49 yX3_evicts, Cond.static yX3_evicts, Cond.code yX3_evicts cX3_evicts 3 none, Cond.methodLink RX3 34 yX3_evictedFrom, Cond.static yX3_evictedFrom, Cond.code yX3_evictedFrom cX3_evictedFrom 3 (some .int), Cond.methodLink RX3 38 yX3_leaves, Cond.static yX3_leaves, Cond.code yX3_leaves cX3_leaves 5 (some .int), Cond.methodLink RX3 26 yX3_at, Cond.static yX3_at, Cond.code yX3_at cX3_at 2 (some .int), Cond.methodLink RX3 41 yX3_joins, Cond.static yX3_joins]
def wsX3_setCapacity_r2 : List Cond := [Cond.code yX3_joins cX3_joins 3 none, Cond.methodLink RX3 59 yX3_allKeys, Cond.static yX3_allKeys, Cond.code yX3_allKeys cX3_allKeys 1 (some .int)]
def wsX3_setCapacity : List Cond := .code yX3_setCapacity cX3_setCapacity 3 (some .int) :: ((wsX3_setCapacity_r1 ++ wsX3_setCapacity_r2) ++ wsX30)
def wsX3_capacity : List Cond := .code yX3_capacity cX3_capacity 1 (some .int) :: ([.fieldLink RX3 7 "AdaptiveReplacementCacheModel" "now" "[I", .methodLink RX3 101 yX3_told, .instanceMethod yX3_told, .selects RX3 yX3_told yX3_told, .initialized RX3, .code yX3_told cX3_told 2 (some .int), .fieldLink RX3 22 "AdaptiveReplacementCacheModel" "thrown" "I"] ++ wsX30)
def wsX3_setScanLength : List Cond := .code yX3_setScanLength cX3_setScanLength 3 (some .int) :: ([.fieldLink RX3 7 "AdaptiveReplacementCacheModel" "now" "[I", .methodLink RX3 76 yX3_asked, .instanceMethod yX3_asked, .selects RX3 yX3_asked yX3_asked, .initialized RX3, .code yX3_asked cX3_asked 2 (some .boolean), .fieldLink RX3 22 "AdaptiveReplacementCacheModel" "thrown" "I"] ++ wsX30)
def wsX3_run : List Cond := .code yX3_run cX3_run 1 (some .int) :: ([.fieldLink RX3 7 "AdaptiveReplacementCacheModel" "now" "[I", .methodLink RX3 101 yX3_told, .instanceMethod yX3_told, .selects RX3 yX3_told yX3_told, .initialized RX3, .code yX3_told cX3_told 2 (some .int), .fieldLink RX3 22 "AdaptiveReplacementCacheModel" "thrown" "I"] ++ wsX30)
def wsX3_target : List Cond := .code yX3_target cX3_target 1 (some .int) :: ([.fieldLink RX3 7 "AdaptiveReplacementCacheModel" "now" "[I", .methodLink RX3 101 yX3_told, .instanceMethod yX3_told, .selects RX3 yX3_told yX3_told, .initialized RX3, .code yX3_told cX3_told 2 (some .int), .fieldLink RX3 22 "AdaptiveReplacementCacheModel" "thrown" "I"] ++ wsX30)
def wsX3_size : List Cond := .code yX3_size cX3_size 1 (some .int) :: ([.fieldLink RX3 7 "AdaptiveReplacementCacheModel" "now" "[I", .methodLink RX3 101 yX3_told, .instanceMethod yX3_told, .selects RX3 yX3_told yX3_told, .initialized RX3, .code yX3_told cX3_told 2 (some .int), .fieldLink RX3 22 "AdaptiveReplacementCacheModel" "thrown" "I"] ++ wsX30)
def wsX3_whereIs : List Cond := .code yX3_whereIs cX3_whereIs 2 (some .int) :: ([.fieldLink RX3 7 "AdaptiveReplacementCacheModel" "now" "[I", .methodLink RX3 72 yX3_isKey, .static yX3_isKey, .initialized RX3, .code yX3_isKey cX3_isKey 1 (some .boolean), .methodLink RX3 76 yX3_asked, .instanceMethod yX3_asked, .selects RX3 yX3_asked yX3_asked, .code yX3_asked cX3_asked 2 (some .boolean), .fieldLink RX3 22 "AdaptiveReplacementCacheModel" "thrown" "I", .methodLink RX3 63 yX3_listOf, .static yX3_listOf, .code yX3_listOf cX3_listOf 4 (some .int), .methodLink RX3 30 yX3_placeIn, .static yX3_placeIn, .code yX3_placeIn cX3_placeIn 5 (some .int), .methodLink RX3 26 yX3_at, .static yX3_at, .code yX3_at cX3_at 2 (some .int)] ++ wsX30)
def wsX3_victim : List Cond := .code yX3_victim cX3_victim 2 (some .int) :: ([.fieldLink RX3 22 "AdaptiveReplacementCacheModel" "thrown" "I", .fieldLink RX3 7 "AdaptiveReplacementCacheModel" "now" "[I", .methodLink RX3 45 yX3_isFull, .static yX3_isFull, .initialized RX3, .code yX3_isFull cX3_isFull 1 (some .boolean), .methodLink RX3 34 yX3_evictedFrom, .static yX3_evictedFrom, .code yX3_evictedFrom cX3_evictedFrom 3 (some .int), .methodLink RX3 26 yX3_at, .static yX3_at, .code yX3_at cX3_at 2 (some .int)] ++ wsX30)
def wsX3_recentSize : List Cond := .code yX3_recentSize cX3_recentSize 1 (some .int) :: ([.fieldLink RX3 7 "AdaptiveReplacementCacheModel" "now" "[I", .methodLink RX3 101 yX3_told, .instanceMethod yX3_told, .selects RX3 yX3_told yX3_told, .initialized RX3, .code yX3_told cX3_told 2 (some .int), .fieldLink RX3 22 "AdaptiveReplacementCacheModel" "thrown" "I"] ++ wsX30)
def wsX3_frequentSize : List Cond := .code yX3_frequentSize cX3_frequentSize 1 (some .int) :: ([.fieldLink RX3 7 "AdaptiveReplacementCacheModel" "now" "[I", .methodLink RX3 101 yX3_told, .instanceMethod yX3_told, .selects RX3 yX3_told yX3_told, .initialized RX3, .code yX3_told cX3_told 2 (some .int), .fieldLink RX3 22 "AdaptiveReplacementCacheModel" "thrown" "I"] ++ wsX30)
def wsX3_recentGhosts : List Cond := .code yX3_recentGhosts cX3_recentGhosts 1 (some .int) :: ([.fieldLink RX3 7 "AdaptiveReplacementCacheModel" "now" "[I", .methodLink RX3 101 yX3_told, .instanceMethod yX3_told, .selects RX3 yX3_told yX3_told, .initialized RX3, .code yX3_told cX3_told 2 (some .int), .fieldLink RX3 22 "AdaptiveReplacementCacheModel" "thrown" "I"] ++ wsX30)
def wsX3_frequentGhosts : List Cond := .code yX3_frequentGhosts cX3_frequentGhosts 1 (some .int) :: ([.fieldLink RX3 7 "AdaptiveReplacementCacheModel" "now" "[I", .methodLink RX3 101 yX3_told, .instanceMethod yX3_told, .selects RX3 yX3_told yX3_told, .initialized RX3, .code yX3_told cX3_told 2 (some .int), .fieldLink RX3 22 "AdaptiveReplacementCacheModel" "thrown" "I"] ++ wsX30)
def wsX3_newest : List Cond := .code yX3_newest cX3_newest 3 (some .int) :: ([.fieldLink RX3 7 "AdaptiveReplacementCacheModel" "now" "[I", .methodLink RX3 76 yX3_asked, .instanceMethod yX3_asked, .selects RX3 yX3_asked yX3_asked, .initialized RX3, .code yX3_asked cX3_asked 2 (some .boolean), .fieldLink RX3 22 "AdaptiveReplacementCacheModel" "thrown" "I", .methodLink RX3 26 yX3_at, .static yX3_at, .code yX3_at cX3_at 2 (some .int)] ++ wsX30)
def wsX3_recentAt : List Cond := .code yX3_recentAt cX3_recentAt 2 (some .int) :: ([.methodLink RX3 105 yX3_newest, .instanceMethod yX3_newest, .selects RX3 yX3_newest yX3_newest, .initialized RX3, .code yX3_newest cX3_newest 3 (some .int), .fieldLink RX3 7 "AdaptiveReplacementCacheModel" "now" "[I", .methodLink RX3 76 yX3_asked, .instanceMethod yX3_asked, .selects RX3 yX3_asked yX3_asked, .code yX3_asked cX3_asked 2 (some .boolean), .fieldLink RX3 22 "AdaptiveReplacementCacheModel" "thrown" "I", .methodLink RX3 26 yX3_at, .static yX3_at, .code yX3_at cX3_at 2 (some .int)] ++ wsX30)
def wsX3_frequentAt : List Cond := .code yX3_frequentAt cX3_frequentAt 2 (some .int) :: ([.methodLink RX3 105 yX3_newest, .instanceMethod yX3_newest, .selects RX3 yX3_newest yX3_newest, .initialized RX3, .code yX3_newest cX3_newest 3 (some .int), .fieldLink RX3 7 "AdaptiveReplacementCacheModel" "now" "[I", .methodLink RX3 76 yX3_asked, .instanceMethod yX3_asked, .selects RX3 yX3_asked yX3_asked, .code yX3_asked cX3_asked 2 (some .boolean), .fieldLink RX3 22 "AdaptiveReplacementCacheModel" "thrown" "I", .methodLink RX3 26 yX3_at, .static yX3_at, .code yX3_at cX3_at 2 (some .int)] ++ wsX30)
def wsX3_recentGhostAt : List Cond := .code yX3_recentGhostAt cX3_recentGhostAt 2 (some .int) :: ([.methodLink RX3 105 yX3_newest, .instanceMethod yX3_newest, .selects RX3 yX3_newest yX3_newest, .initialized RX3, .code yX3_newest cX3_newest 3 (some .int), .fieldLink RX3 7 "AdaptiveReplacementCacheModel" "now" "[I", .methodLink RX3 76 yX3_asked, .instanceMethod yX3_asked, .selects RX3 yX3_asked yX3_asked, .code yX3_asked cX3_asked 2 (some .boolean), .fieldLink RX3 22 "AdaptiveReplacementCacheModel" "thrown" "I", .methodLink RX3 26 yX3_at, .static yX3_at, .code yX3_at cX3_at 2 (some .int)] ++ wsX30)
def wsX3_frequentGhostAt : List Cond := .code yX3_frequentGhostAt cX3_frequentGhostAt 2 (some .int) :: ([.methodLink RX3 105 yX3_newest, .instanceMethod yX3_newest, .selects RX3 yX3_newest yX3_newest, .initialized RX3, .code yX3_newest cX3_newest 3 (some .int), .fieldLink RX3 7 "AdaptiveReplacementCacheModel" "now" "[I", .methodLink RX3 76 yX3_asked, .instanceMethod yX3_asked, .selects RX3 yX3_asked yX3_asked, .code yX3_asked cX3_asked 2 (some .boolean), .fieldLink RX3 22 "AdaptiveReplacementCacheModel" "thrown" "I", .methodLink RX3 26 yX3_at, .static yX3_at, .code yX3_at cX3_at 2 (some .int)] ++ wsX30)
def wsX3_requests : List Cond := .code yX3_requests cX3_requests 1 (some .int) :: ([.fieldLink RX3 83 "AdaptiveReplacementCacheModel" "requests" "I", .methodLink RX3 101 yX3_told, .instanceMethod yX3_told, .selects RX3 yX3_told yX3_told, .initialized RX3, .code yX3_told cX3_told 2 (some .int), .fieldLink RX3 22 "AdaptiveReplacementCacheModel" "thrown" "I"] ++ wsX30)
def wsX3_hits : List Cond := .code yX3_hits cX3_hits 1 (some .int) :: ([.fieldLink RX3 86 "AdaptiveReplacementCacheModel" "hits" "I", .methodLink RX3 101 yX3_told, .instanceMethod yX3_told, .selects RX3 yX3_told yX3_told, .initialized RX3, .code yX3_told cX3_told 2 (some .int), .fieldLink RX3 22 "AdaptiveReplacementCacheModel" "thrown" "I"] ++ wsX30)
def wsX3_ghostHits : List Cond := .code yX3_ghostHits cX3_ghostHits 1 (some .int) :: ([.fieldLink RX3 89 "AdaptiveReplacementCacheModel" "ghostHits" "I", .methodLink RX3 101 yX3_told, .instanceMethod yX3_told, .selects RX3 yX3_told yX3_told, .initialized RX3, .code yX3_told cX3_told 2 (some .int), .fieldLink RX3 22 "AdaptiveReplacementCacheModel" "thrown" "I"] ++ wsX30)
def wsX3_bypassed : List Cond := .code yX3_bypassed cX3_bypassed 1 (some .int) :: ([.fieldLink RX3 92 "AdaptiveReplacementCacheModel" "bypassed" "I", .methodLink RX3 101 yX3_told, .instanceMethod yX3_told, .selects RX3 yX3_told yX3_told, .initialized RX3, .code yX3_told cX3_told 2 (some .int), .fieldLink RX3 22 "AdaptiveReplacementCacheModel" "thrown" "I"] ++ wsX30)
def wsX3_evictions : List Cond := .code yX3_evictions cX3_evictions 1 (some .int) :: ([.fieldLink RX3 7 "AdaptiveReplacementCacheModel" "now" "[I", .methodLink RX3 101 yX3_told, .instanceMethod yX3_told, .selects RX3 yX3_told yX3_told, .initialized RX3, .code yX3_told cX3_told 2 (some .int), .fieldLink RX3 22 "AdaptiveReplacementCacheModel" "thrown" "I"] ++ wsX30)
def wsX3_hitsIf_r1 : List Cond := [Cond.fieldLink RX3 13 "AdaptiveReplacementCacheModel" "then" "[I", Cond.fieldLink RX3 7 "AdaptiveReplacementCacheModel" "now" "[I", Cond.fieldLink RX3 95 "AdaptiveReplacementCacheModel" "logged" "I", Cond.fieldLink RX3 16 "AdaptiveReplacementCacheModel" "log" "[I", Cond.methodLink RX3 98 yX3_isCapacity, Cond.static yX3_isCapacity, Cond.initialized RX3, Cond.code yX3_isCapacity cX3_isCapacity 1 (some .boolean), Cond.methodLink RX3 76 yX3_asked, Cond.instanceMethod yX3_asked, Cond.selects RX3 yX3_asked yX3_asked, Cond.code yX3_asked cX3_asked 2 (some .boolean), Cond.fieldLink RX3 22 "AdaptiveReplacementCacheModel" "thrown" "I", Cond.methodLink RX3 80 yX3_asks, Cond.static yX3_asks, Cond.code yX3_asks cX3_asks 3 (some .int), Cond.methodLink RX3 63 yX3_listOf, Cond.static yX3_listOf, Cond.code yX3_listOf cX3_listOf 4 (some .int), Cond.methodLink RX3 30 yX3_placeIn, Cond.static yX3_placeIn, Cond.code yX3_placeIn cX3_placeIn 5 (some .int), Cond.methodLink RX3 26 yX3_at, Cond.static yX3_at]
def wsX3_hitsIf_r2 : List Cond := [Cond.code yX3_at cX3_at 2 (some .int), Cond.methodLink RX3 38 yX3_leaves, Cond.static yX3_leaves, Cond.code yX3_leaves cX3_leaves 5 (some .int), Cond.methodLink RX3 41 yX3_joins, Cond.static yX3_joins, Cond.code yX3_joins cX3_joins 3 none, Cond.methodLink RX3 66 yX3_ghost, Cond.static yX3_ghost, Cond.code yX3_ghost cX3_ghost 5 none, Cond.methodLink RX3 53 yX3_step, Cond.static yX3_step, Cond.code yX3_step cX3_step 3 (some .int), Cond.methodLink RX3 56 yX3_evictsIfFull, Cond.static yX3_evictsIfFull, Cond.code yX3_evictsIfFull cX3_evictsIfFull 2 none, Cond.methodLink RX3 45 yX3_isFull, Cond.static yX3_isFull, Cond.code yX3_isFull cX3_isFull 1 (some .boolean), Cond.methodLink RX3 49 yX3_evicts, Cond.static yX3_evicts, Cond.code yX3_evicts cX3_evicts 3 none, Cond.methodLink RX3 34 yX3_evictedFrom, Cond.static yX3_evictedFrom]
def wsX3_hitsIf_r3 : List Cond := [Cond.code yX3_evictedFrom cX3_evictedFrom 3 (some .int), Cond.methodLink RX3 69 yX3_miss, Cond.static yX3_miss, Cond.code yX3_miss cX3_miss 2 none, Cond.methodLink RX3 59 yX3_allKeys, Cond.static yX3_allKeys, Cond.code yX3_allKeys cX3_allKeys 1 (some .int)]
def wsX3_hitsIf : List Cond := .code yX3_hitsIf cX3_hitsIf 4 (some .int) :: ((wsX3_hitsIf_r1 ++ (wsX3_hitsIf_r2 ++ wsX3_hitsIf_r3)) ++ wsX30)
def wsX3_leastRecentHitsIf : List Cond := .code yX3_leastRecentHitsIf cX3_leastRecentHitsIf 8 (some .int) :: ([.fieldLink RX3 95 "AdaptiveReplacementCacheModel" "logged" "I", .fieldLink RX3 19 "AdaptiveReplacementCacheModel" "pages" "[I", .fieldLink RX3 16 "AdaptiveReplacementCacheModel" "log" "[I", .methodLink RX3 98 yX3_isCapacity, .static yX3_isCapacity, .initialized RX3, .code yX3_isCapacity cX3_isCapacity 1 (some .boolean), .methodLink RX3 76 yX3_asked, .instanceMethod yX3_asked, .selects RX3 yX3_asked yX3_asked, .code yX3_asked cX3_asked 2 (some .boolean), .fieldLink RX3 22 "AdaptiveReplacementCacheModel" "thrown" "I"] ++ wsX30)
def wsJ9_max_7cf53 : List Cond := .code yJ9_max_7cf53 cJ9_max_7cf53 2 (some .int) :: ([])
def wsJ9_min_7cf53 : List Cond := .code yJ9_min_7cf53 cJ9_min_7cf53 2 (some .int) :: ([])
def wsL_request_r1 : List Cond := [Cond.classLink RL 13 "java/lang/IllegalArgumentException", Cond.methodLink RL 7 yX2_request, Cond.instanceMethod yX2_request, Cond.selects RX2 yX2_request yX2_request, Cond.initialized RX2, Cond.code yX2_request cX2_request 3 (some .int), Cond.fieldLink RX2 12 "AdaptiveReplacementCache" "cache" "LAdaptiveReplacementCache$Cache;", Cond.methodLink RX2 29 yX2_checkKey, Cond.static yX2_checkKey, Cond.code yX2_checkKey cX2_checkKey 1 none, Cond.classLink RX2 60 "java/lang/IllegalArgumentException", Cond.initialized "java/lang/IllegalArgumentException", Cond.methodLink RX2 33 yX2_addToLog, Cond.instanceMethod yX2_addToLog, Cond.selects RX2 yX2_addToLog yX2_addToLog, Cond.code yX2_addToLog cX2_addToLog 2 none, Cond.fieldLink RX2 19 "AdaptiveReplacementCache" "log" "LAdaptiveReplacementCache$KeyList;", Cond.methodLink RX2 88 yX1_length, Cond.instanceMethod yX1_length, Cond.selects RX1 yX1_length yX1_length, Cond.initialized RX1, Cond.code yX1_length cX1_length 1 (some .int), Cond.fieldLink RX1 15 "AdaptiveReplacementCache$KeyList" "length" "I", Cond.methodLink RX2 136 yX1_takeOldest]
def wsL_request_r2 : List Cond := [Cond.instanceMethod yX1_takeOldest, Cond.selects RX1 yX1_takeOldest yX1_takeOldest, Cond.code yX1_takeOldest cX1_takeOldest 2 (some .int), Cond.methodLink RX1 23 yX1_fromOldest, Cond.instanceMethod yX1_fromOldest, Cond.selects RX1 yX1_fromOldest yX1_fromOldest, Cond.code yX1_fromOldest cX1_fromOldest 2 (some .int), Cond.fieldLink RX1 9 "AdaptiveReplacementCache$KeyList" "keys" "[I", Cond.methodLink RX1 26 yX1_closeGap, Cond.instanceMethod yX1_closeGap, Cond.selects RX1 yX1_closeGap yX1_closeGap, Cond.code yX1_closeGap cX1_closeGap 3 none, Cond.methodLink RX2 139 yX1_join, Cond.instanceMethod yX1_join, Cond.selects RX1 yX1_join yX1_join, Cond.code yX1_join cX1_join 2 none, Cond.methodLink RX2 36 yX0_serve, Cond.instanceMethod yX0_serve, Cond.selects RX0 yX0_serve yX0_serve, Cond.initialized RX0, Cond.code yX0_serve cX0_serve 3 (some .int), Cond.fieldLink RX0 38 "AdaptiveReplacementCache$Cache" "scanLength" "I", Cond.fieldLink RX0 41 "AdaptiveReplacementCache$Cache" "run" "I", Cond.fieldLink RX0 18 "AdaptiveReplacementCache$Cache" "frequent" "LAdaptiveReplacementCache$KeyList;"]
def wsL_request_r3 : List Cond := [Cond.methodLink RX0 93 yX0_lengthenRun, Cond.instanceMethod yX0_lengthenRun, Cond.selects RX0 yX0_lengthenRun yX0_lengthenRun, Cond.code yX0_lengthenRun cX0_lengthenRun 3 none, Cond.fieldLink RX0 31 "AdaptiveReplacementCache$Cache" "keyBefore" "I", Cond.methodLink RX0 54 yX0_listWith, Cond.instanceMethod yX0_listWith, Cond.selects RX0 yX0_listWith yX0_listWith, Cond.code yX0_listWith cX0_listWith 2 (some .int), Cond.fieldLink RX0 12 "AdaptiveReplacementCache$Cache" "recent" "LAdaptiveReplacementCache$KeyList;", Cond.fieldLink RX0 21 "AdaptiveReplacementCache$Cache" "recentGhosts" "LAdaptiveReplacementCache$KeyList;", Cond.fieldLink RX0 24 "AdaptiveReplacementCache$Cache" "frequentGhosts" "LAdaptiveReplacementCache$KeyList;", Cond.methodLink RX0 50 yX1_holds, Cond.instanceMethod yX1_holds, Cond.selects RX1 yX1_holds yX1_holds, Cond.code yX1_holds cX1_holds 2 (some .boolean), Cond.methodLink RX1 19 yX1_indexOf, Cond.instanceMethod yX1_indexOf, Cond.selects RX1 yX1_indexOf yX1_indexOf, Cond.code yX1_indexOf cX1_indexOf 3 (some .int), Cond.static yX2_isPage, Cond.code yX2_isPage cX2_isPage 1 (some .boolean), Cond.methodLink RX0 100 yX0_admit, Cond.instanceMethod yX0_admit]
def wsL_request_r4 : List Cond := [Cond.selects RX0 yX0_admit yX0_admit, Cond.code yX0_admit cX0_admit 2 none, Cond.fieldLink RX0 44 "AdaptiveReplacementCache$Cache" "evictions" "I", Cond.fieldLink RX0 27 "AdaptiveReplacementCache$Cache" "capacity" "I", Cond.methodLink RX0 112 yX0_dropsRecentPage, Cond.instanceMethod yX0_dropsRecentPage, Cond.selects RX0 yX0_dropsRecentPage yX0_dropsRecentPage, Cond.code yX0_dropsRecentPage cX0_dropsRecentPage 1 (some .boolean), Cond.methodLink RX0 84 yX0_recentAndGhosts, Cond.instanceMethod yX0_recentAndGhosts, Cond.selects RX0 yX0_recentAndGhosts yX0_recentAndGhosts, Cond.code yX0_recentAndGhosts cX0_recentAndGhosts 1 (some .int), Cond.methodLink RX0 47 yX1_length, Cond.methodLink RX0 87 yX1_takeOldest, Cond.methodLink RX0 90 yX0_keysInAll, Cond.instanceMethod yX0_keysInAll, Cond.selects RX0 yX0_keysInAll yX0_keysInAll, Cond.code yX0_keysInAll cX0_keysInAll 1 (some .int), Cond.methodLink RX0 62 yX0_pages, Cond.instanceMethod yX0_pages, Cond.selects RX0 yX0_pages yX0_pages, Cond.code yX0_pages cX0_pages 1 (some .int), Cond.methodLink RX0 106 yX0_makeRoom, Cond.instanceMethod yX0_makeRoom]
def wsL_request_r5 : List Cond := [Cond.selects RX0 yX0_makeRoom yX0_makeRoom, Cond.code yX0_makeRoom cX0_makeRoom 2 none, Cond.methodLink RX0 119 yX0_isFull, Cond.instanceMethod yX0_isFull, Cond.selects RX0 yX0_isFull yX0_isFull, Cond.code yX0_isFull cX0_isFull 1 (some .boolean), Cond.methodLink RX0 80 yX0_evict, Cond.instanceMethod yX0_evict, Cond.selects RX0 yX0_evict yX0_evict, Cond.code yX0_evict cX0_evict 2 none, Cond.methodLink RX0 122 yX0_evictsRecentPage, Cond.instanceMethod yX0_evictsRecentPage, Cond.selects RX0 yX0_evictsRecentPage yX0_evictsRecentPage, Cond.code yX0_evictsRecentPage cX0_evictsRecentPage 3 (some .boolean), Cond.fieldLink RX0 68 "AdaptiveReplacementCache$Cache" "target" "I", Cond.methodLink RX0 109 yX1_join, Cond.methodLink RX0 103 yX0_adaptTarget, Cond.instanceMethod yX0_adaptTarget, Cond.selects RX0 yX0_adaptTarget yX0_adaptTarget, Cond.code yX0_adaptTarget cX0_adaptTarget 4 none, Cond.methodLink RX0 71 Lib.Math.min.name, Cond.static Lib.Math.min.name, Cond.initialized "java/lang/Math", Cond.code Lib.Math.min.name Lib.Math.min.code 2 (some .int)]
def wsL_request_r6 : List Cond := [Cond.methodLink RX0 77 Lib.Math.max.name, Cond.static Lib.Math.max.name, Cond.code Lib.Math.max.name Lib.Math.max.code 2 (some .int), Cond.methodLink RX0 126 yX0_adaptationStep, Cond.static yX0_adaptationStep, Cond.code yX0_adaptationStep cX0_adaptationStep 2 (some .int), Cond.methodLink RX0 58 yX0_takeFrom, Cond.instanceMethod yX0_takeFrom, Cond.selects RX0 yX0_takeFrom yX0_takeFrom, Cond.code yX0_takeFrom cX0_takeFrom 3 none, Cond.methodLink RX0 129 yX1_takeOut, Cond.instanceMethod yX1_takeOut, Cond.selects RX1 yX1_takeOut yX1_takeOut, Cond.code yX1_takeOut cX1_takeOut 3 (some .boolean), Cond.methodLink RX2 40 yX2_count, Cond.instanceMethod yX2_count, Cond.selects RX2 yX2_count yX2_count, Cond.code yX2_count cX2_count 2 none, Cond.fieldLink RX2 104 "AdaptiveReplacementCache" "requests" "I", Cond.fieldLink RX2 107 "AdaptiveReplacementCache" "hits" "I", Cond.fieldLink RX2 110 "AdaptiveReplacementCache" "ghostHits" "I", Cond.fieldLink RX2 113 "AdaptiveReplacementCache" "bypassed" "I", Cond.methodLink RX2 126 yX2_isPage]
def wsL_request : List Cond := .codeWith yL_request cL_request 4 (some .int) [(0, 9, 12, 13)] :: ((wsL_request_r1 ++ (wsL_request_r2 ++ (wsL_request_r3 ++ (wsL_request_r4 ++ (wsL_request_r5 ++ wsL_request_r6))))) ++ wsX20 ++ wsX10 ++ wsX00 ++ (vx_atS RX2 64 "java/lang/IllegalArgumentException" ["java/lang/RuntimeException", "java/lang/Exception"]).filter goodWord)
def wsL_remove_r1 : List Cond := [Cond.classLink RL 13 "java/lang/IllegalArgumentException", Cond.methodLink RL 15 yX2_remove, Cond.instanceMethod yX2_remove, Cond.selects RX2 yX2_remove yX2_remove, Cond.initialized RX2, Cond.code yX2_remove cX2_remove 2 (some .int), Cond.fieldLink RX2 12 "AdaptiveReplacementCache" "cache" "LAdaptiveReplacementCache$Cache;", Cond.methodLink RX2 29 yX2_checkKey, Cond.static yX2_checkKey, Cond.code yX2_checkKey cX2_checkKey 1 none, Cond.classLink RX2 60 "java/lang/IllegalArgumentException", Cond.initialized "java/lang/IllegalArgumentException", Cond.methodLink RX2 43 yX0_forget, Cond.instanceMethod yX0_forget, Cond.selects RX0 yX0_forget yX0_forget, Cond.initialized RX0, Cond.code yX0_forget cX0_forget 3 (some .int), Cond.methodLink RX0 54 yX0_listWith, Cond.instanceMethod yX0_listWith, Cond.selects RX0 yX0_listWith yX0_listWith, Cond.code yX0_listWith cX0_listWith 2 (some .int), Cond.fieldLink RX0 12 "AdaptiveReplacementCache$Cache" "recent" "LAdaptiveReplacementCache$KeyList;", Cond.fieldLink RX0 18 "AdaptiveReplacementCache$Cache" "frequent" "LAdaptiveReplacementCache$KeyList;", Cond.fieldLink RX0 21 "AdaptiveReplacementCache$Cache" "recentGhosts" "LAdaptiveReplacementCache$KeyList;"]
def wsL_remove_r2 : List Cond := [Cond.fieldLink RX0 24 "AdaptiveReplacementCache$Cache" "frequentGhosts" "LAdaptiveReplacementCache$KeyList;", Cond.methodLink RX0 50 yX1_holds, Cond.instanceMethod yX1_holds, Cond.selects RX1 yX1_holds yX1_holds, Cond.initialized RX1, Cond.code yX1_holds cX1_holds 2 (some .boolean), Cond.methodLink RX1 19 yX1_indexOf, Cond.instanceMethod yX1_indexOf, Cond.selects RX1 yX1_indexOf yX1_indexOf, Cond.code yX1_indexOf cX1_indexOf 3 (some .int), Cond.fieldLink RX1 15 "AdaptiveReplacementCache$KeyList" "length" "I", Cond.fieldLink RX1 9 "AdaptiveReplacementCache$KeyList" "keys" "[I", Cond.methodLink RX0 58 yX0_takeFrom, Cond.instanceMethod yX0_takeFrom, Cond.selects RX0 yX0_takeFrom yX0_takeFrom, Cond.code yX0_takeFrom cX0_takeFrom 3 none, Cond.methodLink RX0 129 yX1_takeOut, Cond.instanceMethod yX1_takeOut, Cond.selects RX1 yX1_takeOut yX1_takeOut, Cond.code yX1_takeOut cX1_takeOut 3 (some .boolean), Cond.methodLink RX1 26 yX1_closeGap, Cond.instanceMethod yX1_closeGap, Cond.selects RX1 yX1_closeGap yX1_closeGap, Cond.code yX1_closeGap cX1_closeGap 3 none]
def wsL_remove : List Cond := .codeWith yL_remove cL_remove 4 (some .int) [(0, 9, 12, 13)] :: ((wsL_remove_r1 ++ wsL_remove_r2) ++ wsX20 ++ wsX00 ++ wsX10 ++ (vx_atS RX2 64 "java/lang/IllegalArgumentException" ["java/lang/RuntimeException", "java/lang/Exception"]).filter goodWord)
def wsL_setCapacity_r1 : List Cond := [Cond.classLink RL 13 "java/lang/IllegalArgumentException", Cond.methodLink RL 18 yX2_setCapacity, Cond.instanceMethod yX2_setCapacity, Cond.selects RX2 yX2_setCapacity yX2_setCapacity, Cond.initialized RX2, Cond.code yX2_setCapacity cX2_setCapacity 2 (some .int), Cond.fieldLink RX2 12 "AdaptiveReplacementCache" "cache" "LAdaptiveReplacementCache$Cache;", Cond.methodLink RX2 50 yX2_checkCapacity, Cond.static yX2_checkCapacity, Cond.code yX2_checkCapacity cX2_checkCapacity 1 none, Cond.classLink RX2 60 "java/lang/IllegalArgumentException", Cond.initialized "java/lang/IllegalArgumentException", Cond.methodLink RX2 53 yX0_changeCapacity, Cond.instanceMethod yX0_changeCapacity, Cond.selects RX0 yX0_changeCapacity yX0_changeCapacity, Cond.initialized RX0, Cond.code yX0_changeCapacity cX0_changeCapacity 6 (some .int), Cond.fieldLink RX0 27 "AdaptiveReplacementCache$Cache" "capacity" "I", Cond.fieldLink RX0 68 "AdaptiveReplacementCache$Cache" "target" "I", Cond.methodLink RX0 71 Lib.Math.min.name, Cond.static Lib.Math.min.name, Cond.initialized "java/lang/Math", Cond.code Lib.Math.min.name Lib.Math.min.code 2 (some .int), Cond.methodLink RX0 77 Lib.Math.max.name]
def wsL_setCapacity_r2 : List Cond := [Cond.static Lib.Math.max.name, Cond.code Lib.Math.max.name Lib.Math.max.code 2 (some .int), Cond.fieldLink RX0 21 "AdaptiveReplacementCache$Cache" "recentGhosts" "LAdaptiveReplacementCache$KeyList;", Cond.fieldLink RX0 24 "AdaptiveReplacementCache$Cache" "frequentGhosts" "LAdaptiveReplacementCache$KeyList;", Cond.methodLink RX0 62 yX0_pages, Cond.instanceMethod yX0_pages, Cond.selects RX0 yX0_pages yX0_pages, Cond.code yX0_pages cX0_pages 1 (some .int), Cond.fieldLink RX0 12 "AdaptiveReplacementCache$Cache" "recent" "LAdaptiveReplacementCache$KeyList;", Cond.fieldLink RX0 18 "AdaptiveReplacementCache$Cache" "frequent" "LAdaptiveReplacementCache$KeyList;", Cond.methodLink RX0 47 yX1_length, Cond.instanceMethod yX1_length, Cond.selects RX1 yX1_length yX1_length, Cond.initialized RX1, Cond.code yX1_length cX1_length 1 (some .int), Cond.fieldLink RX1 15 "AdaptiveReplacementCache$KeyList" "length" "I", Cond.methodLink RX0 80 yX0_evict, Cond.instanceMethod yX0_evict, Cond.selects RX0 yX0_evict yX0_evict, Cond.code yX0_evict cX0_evict 2 none, Cond.fieldLink RX0 44 "AdaptiveReplacementCache$Cache" "evictions" "I", Cond.methodLink RX0 122 yX0_evictsRecentPage, Cond.instanceMethod yX0_evictsRecentPage, Cond.selects RX0 yX0_evictsRecentPage yX0_evictsRecentPage]
def wsL_setCapacity_r3 : List Cond := [Cond.code yX0_evictsRecentPage cX0_evictsRecentPage 3 (some .boolean), Cond.methodLink RX0 87 yX1_takeOldest, Cond.instanceMethod yX1_takeOldest, Cond.selects RX1 yX1_takeOldest yX1_takeOldest, Cond.code yX1_takeOldest cX1_takeOldest 2 (some .int), Cond.methodLink RX1 23 yX1_fromOldest, Cond.instanceMethod yX1_fromOldest, Cond.selects RX1 yX1_fromOldest yX1_fromOldest, Cond.code yX1_fromOldest cX1_fromOldest 2 (some .int), Cond.fieldLink RX1 9 "AdaptiveReplacementCache$KeyList" "keys" "[I", Cond.methodLink RX1 26 yX1_closeGap, Cond.instanceMethod yX1_closeGap, Cond.selects RX1 yX1_closeGap yX1_closeGap, Cond.code yX1_closeGap cX1_closeGap 3 none, Cond.methodLink RX0 109 yX1_join, Cond.instanceMethod yX1_join, Cond.selects RX1 yX1_join yX1_join, Cond.code yX1_join cX1_join 2 none, Cond.methodLink RX0 84 yX0_recentAndGhosts, Cond.instanceMethod yX0_recentAndGhosts, Cond.selects RX0 yX0_recentAndGhosts yX0_recentAndGhosts, Cond.code yX0_recentAndGhosts cX0_recentAndGhosts 1 (some .int), Cond.methodLink RX0 90 yX0_keysInAll, Cond.instanceMethod yX0_keysInAll]
def wsL_setCapacity_r4 : List Cond := [Cond.selects RX0 yX0_keysInAll yX0_keysInAll, Cond.code yX0_keysInAll cX0_keysInAll 1 (some .int)]
def wsL_setCapacity : List Cond := .codeWith yL_setCapacity cL_setCapacity 4 (some .int) [(0, 9, 12, 13)] :: ((wsL_setCapacity_r1 ++ (wsL_setCapacity_r2 ++ (wsL_setCapacity_r3 ++ wsL_setCapacity_r4))) ++ wsX20 ++ wsX00 ++ wsX10 ++ (vx_atS RX2 64 "java/lang/IllegalArgumentException" ["java/lang/RuntimeException", "java/lang/Exception"]).filter goodWord)
def wsL_setScanLength : List Cond := .codeWith yL_setScanLength cL_setScanLength 4 (some .int) [(0, 9, 12, 13)] :: ([.classLink RL 13 "java/lang/IllegalArgumentException", .methodLink RL 21 yX2_setScanLength, .instanceMethod yX2_setScanLength, .selects RX2 yX2_setScanLength yX2_setScanLength, .initialized RX2, .code yX2_setScanLength cX2_setScanLength 3 (some .int), .classLink RX2 60 "java/lang/IllegalArgumentException", .initialized "java/lang/IllegalArgumentException", .fieldLink RX2 12 "AdaptiveReplacementCache" "cache" "LAdaptiveReplacementCache$Cache;"] ++ wsX20 ++ wsX00 ++ (vx_atS RX2 64 "java/lang/IllegalArgumentException" ["java/lang/RuntimeException", "java/lang/Exception"]).filter goodWord)
def wsL_whereIs_r1 : List Cond := [Cond.classLink RL 13 "java/lang/IllegalArgumentException", Cond.methodLink RL 24 yX2_whereIs, Cond.instanceMethod yX2_whereIs, Cond.selects RX2 yX2_whereIs yX2_whereIs, Cond.initialized RX2, Cond.code yX2_whereIs cX2_whereIs 2 (some .int), Cond.fieldLink RX2 12 "AdaptiveReplacementCache" "cache" "LAdaptiveReplacementCache$Cache;", Cond.methodLink RX2 29 yX2_checkKey, Cond.static yX2_checkKey, Cond.code yX2_checkKey cX2_checkKey 1 none, Cond.classLink RX2 60 "java/lang/IllegalArgumentException", Cond.initialized "java/lang/IllegalArgumentException", Cond.methodLink RX2 79 yX0_listWith, Cond.instanceMethod yX0_listWith, Cond.selects RX0 yX0_listWith yX0_listWith, Cond.initialized RX0, Cond.code yX0_listWith cX0_listWith 2 (some .int), Cond.fieldLink RX0 12 "AdaptiveReplacementCache$Cache" "recent" "LAdaptiveReplacementCache$KeyList;", Cond.fieldLink RX0 18 "AdaptiveReplacementCache$Cache" "frequent" "LAdaptiveReplacementCache$KeyList;", Cond.fieldLink RX0 21 "AdaptiveReplacementCache$Cache" "recentGhosts" "LAdaptiveReplacementCache$KeyList;", Cond.fieldLink RX0 24 "AdaptiveReplacementCache$Cache" "frequentGhosts" "LAdaptiveReplacementCache$KeyList;", Cond.methodLink RX0 50 yX1_holds, Cond.instanceMethod yX1_holds, Cond.selects RX1 yX1_holds yX1_holds]
def wsL_whereIs_r2 : List Cond := [Cond.initialized RX1, Cond.code yX1_holds cX1_holds 2 (some .boolean), Cond.methodLink RX1 19 yX1_indexOf, Cond.instanceMethod yX1_indexOf, Cond.selects RX1 yX1_indexOf yX1_indexOf, Cond.code yX1_indexOf cX1_indexOf 3 (some .int), Cond.fieldLink RX1 15 "AdaptiveReplacementCache$KeyList" "length" "I", Cond.fieldLink RX1 9 "AdaptiveReplacementCache$KeyList" "keys" "[I"]
def wsL_whereIs : List Cond := .codeWith yL_whereIs cL_whereIs 4 (some .int) [(0, 9, 12, 13)] :: ((wsL_whereIs_r1 ++ wsL_whereIs_r2) ++ wsX20 ++ wsX00 ++ wsX10 ++ (vx_atS RX2 64 "java/lang/IllegalArgumentException" ["java/lang/RuntimeException", "java/lang/Exception"]).filter goodWord)
def wsL_recentAt_r1 : List Cond := [Cond.classLink RL 30 "java/lang/IndexOutOfBoundsException", Cond.methodLink RL 27 yX2_recentAt, Cond.instanceMethod yX2_recentAt, Cond.selects RX2 yX2_recentAt yX2_recentAt, Cond.initialized RX2, Cond.code yX2_recentAt cX2_recentAt 2 (some .int), Cond.fieldLink RX2 12 "AdaptiveReplacementCache" "cache" "LAdaptiveReplacementCache$Cache;", Cond.methodLink RX2 100 yX2_keyAt, Cond.static yX2_keyAt, Cond.code yX2_keyAt cX2_keyAt 2 (some .int), Cond.classLink RX2 146 "java/lang/IndexOutOfBoundsException", Cond.initialized "java/lang/IndexOutOfBoundsException", Cond.methodLink RX2 88 yX1_length, Cond.instanceMethod yX1_length, Cond.selects RX1 yX1_length yX1_length, Cond.initialized RX1, Cond.code yX1_length cX1_length 1 (some .int), Cond.fieldLink RX1 15 "AdaptiveReplacementCache$KeyList" "length" "I", Cond.methodLink RX2 151 yX1_fromNewest, Cond.instanceMethod yX1_fromNewest, Cond.selects RX1 yX1_fromNewest yX1_fromNewest, Cond.code yX1_fromNewest cX1_fromNewest 2 (some .int), Cond.methodLink RX1 23 yX1_fromOldest, Cond.instanceMethod yX1_fromOldest]
def wsL_recentAt_r2 : List Cond := [Cond.selects RX1 yX1_fromOldest yX1_fromOldest, Cond.code yX1_fromOldest cX1_fromOldest 2 (some .int), Cond.fieldLink RX1 9 "AdaptiveReplacementCache$KeyList" "keys" "[I"]
def wsL_recentAt : List Cond := .codeWith yL_recentAt cL_recentAt 4 (some .int) [(0, 9, 12, 30)] :: ((wsL_recentAt_r1 ++ wsL_recentAt_r2) ++ wsX20 ++ wsX00 ++ wsX10 ++ (vx_atS RX2 150 "java/lang/IndexOutOfBoundsException" ["java/lang/RuntimeException", "java/lang/Exception"]).filter goodWord)
def wsL_frequentAt_r1 : List Cond := [Cond.classLink RL 30 "java/lang/IndexOutOfBoundsException", Cond.methodLink RL 32 yX2_frequentAt, Cond.instanceMethod yX2_frequentAt, Cond.selects RX2 yX2_frequentAt yX2_frequentAt, Cond.initialized RX2, Cond.code yX2_frequentAt cX2_frequentAt 2 (some .int), Cond.fieldLink RX2 12 "AdaptiveReplacementCache" "cache" "LAdaptiveReplacementCache$Cache;", Cond.methodLink RX2 100 yX2_keyAt, Cond.static yX2_keyAt, Cond.code yX2_keyAt cX2_keyAt 2 (some .int), Cond.classLink RX2 146 "java/lang/IndexOutOfBoundsException", Cond.initialized "java/lang/IndexOutOfBoundsException", Cond.methodLink RX2 88 yX1_length, Cond.instanceMethod yX1_length, Cond.selects RX1 yX1_length yX1_length, Cond.initialized RX1, Cond.code yX1_length cX1_length 1 (some .int), Cond.fieldLink RX1 15 "AdaptiveReplacementCache$KeyList" "length" "I", Cond.methodLink RX2 151 yX1_fromNewest, Cond.instanceMethod yX1_fromNewest, Cond.selects RX1 yX1_fromNewest yX1_fromNewest, Cond.code yX1_fromNewest cX1_fromNewest 2 (some .int), Cond.methodLink RX1 23 yX1_fromOldest, Cond.instanceMethod yX1_fromOldest]
def wsL_frequentAt_r2 : List Cond := [Cond.selects RX1 yX1_fromOldest yX1_fromOldest, Cond.code yX1_fromOldest cX1_fromOldest 2 (some .int), Cond.fieldLink RX1 9 "AdaptiveReplacementCache$KeyList" "keys" "[I"]
def wsL_frequentAt : List Cond := .codeWith yL_frequentAt cL_frequentAt 4 (some .int) [(0, 9, 12, 30)] :: ((wsL_frequentAt_r1 ++ wsL_frequentAt_r2) ++ wsX20 ++ wsX00 ++ wsX10 ++ (vx_atS RX2 150 "java/lang/IndexOutOfBoundsException" ["java/lang/RuntimeException", "java/lang/Exception"]).filter goodWord)
def wsL_recentGhostAt_r1 : List Cond := [Cond.classLink RL 30 "java/lang/IndexOutOfBoundsException", Cond.methodLink RL 35 yX2_recentGhostAt, Cond.instanceMethod yX2_recentGhostAt, Cond.selects RX2 yX2_recentGhostAt yX2_recentGhostAt, Cond.initialized RX2, Cond.code yX2_recentGhostAt cX2_recentGhostAt 2 (some .int), Cond.fieldLink RX2 12 "AdaptiveReplacementCache" "cache" "LAdaptiveReplacementCache$Cache;", Cond.methodLink RX2 100 yX2_keyAt, Cond.static yX2_keyAt, Cond.code yX2_keyAt cX2_keyAt 2 (some .int), Cond.classLink RX2 146 "java/lang/IndexOutOfBoundsException", Cond.initialized "java/lang/IndexOutOfBoundsException", Cond.methodLink RX2 88 yX1_length, Cond.instanceMethod yX1_length, Cond.selects RX1 yX1_length yX1_length, Cond.initialized RX1, Cond.code yX1_length cX1_length 1 (some .int), Cond.fieldLink RX1 15 "AdaptiveReplacementCache$KeyList" "length" "I", Cond.methodLink RX2 151 yX1_fromNewest, Cond.instanceMethod yX1_fromNewest, Cond.selects RX1 yX1_fromNewest yX1_fromNewest, Cond.code yX1_fromNewest cX1_fromNewest 2 (some .int), Cond.methodLink RX1 23 yX1_fromOldest, Cond.instanceMethod yX1_fromOldest]
def wsL_recentGhostAt_r2 : List Cond := [Cond.selects RX1 yX1_fromOldest yX1_fromOldest, Cond.code yX1_fromOldest cX1_fromOldest 2 (some .int), Cond.fieldLink RX1 9 "AdaptiveReplacementCache$KeyList" "keys" "[I"]
def wsL_recentGhostAt : List Cond := .codeWith yL_recentGhostAt cL_recentGhostAt 4 (some .int) [(0, 9, 12, 30)] :: ((wsL_recentGhostAt_r1 ++ wsL_recentGhostAt_r2) ++ wsX20 ++ wsX00 ++ wsX10 ++ (vx_atS RX2 150 "java/lang/IndexOutOfBoundsException" ["java/lang/RuntimeException", "java/lang/Exception"]).filter goodWord)
def wsL_frequentGhostAt_r1 : List Cond := [Cond.classLink RL 30 "java/lang/IndexOutOfBoundsException", Cond.methodLink RL 38 yX2_frequentGhostAt, Cond.instanceMethod yX2_frequentGhostAt, Cond.selects RX2 yX2_frequentGhostAt yX2_frequentGhostAt, Cond.initialized RX2, Cond.code yX2_frequentGhostAt cX2_frequentGhostAt 2 (some .int), Cond.fieldLink RX2 12 "AdaptiveReplacementCache" "cache" "LAdaptiveReplacementCache$Cache;", Cond.methodLink RX2 100 yX2_keyAt, Cond.static yX2_keyAt, Cond.code yX2_keyAt cX2_keyAt 2 (some .int), Cond.classLink RX2 146 "java/lang/IndexOutOfBoundsException", Cond.initialized "java/lang/IndexOutOfBoundsException", Cond.methodLink RX2 88 yX1_length, Cond.instanceMethod yX1_length, Cond.selects RX1 yX1_length yX1_length, Cond.initialized RX1, Cond.code yX1_length cX1_length 1 (some .int), Cond.fieldLink RX1 15 "AdaptiveReplacementCache$KeyList" "length" "I", Cond.methodLink RX2 151 yX1_fromNewest, Cond.instanceMethod yX1_fromNewest, Cond.selects RX1 yX1_fromNewest yX1_fromNewest, Cond.code yX1_fromNewest cX1_fromNewest 2 (some .int), Cond.methodLink RX1 23 yX1_fromOldest, Cond.instanceMethod yX1_fromOldest]
def wsL_frequentGhostAt_r2 : List Cond := [Cond.selects RX1 yX1_fromOldest yX1_fromOldest, Cond.code yX1_fromOldest cX1_fromOldest 2 (some .int), Cond.fieldLink RX1 9 "AdaptiveReplacementCache$KeyList" "keys" "[I"]
def wsL_frequentGhostAt : List Cond := .codeWith yL_frequentGhostAt cL_frequentGhostAt 4 (some .int) [(0, 9, 12, 30)] :: ((wsL_frequentGhostAt_r1 ++ wsL_frequentGhostAt_r2) ++ wsX20 ++ wsX00 ++ wsX10 ++ (vx_atS RX2 150 "java/lang/IndexOutOfBoundsException" ["java/lang/RuntimeException", "java/lang/Exception"]).filter goodWord)
def wsL_hitsIf_r1 : List Cond := [Cond.classLink RL 13 "java/lang/IllegalArgumentException", Cond.methodLink RL 41 yX2_hitsIf, Cond.instanceMethod yX2_hitsIf, Cond.selects RX2 yX2_hitsIf yX2_hitsIf, Cond.initialized RX2, Cond.code yX2_hitsIf cX2_hitsIf 4 (some .int), Cond.fieldLink RX2 23 "AdaptiveReplacementCache" "trial" "LAdaptiveReplacementCache$Cache;", Cond.fieldLink RX2 12 "AdaptiveReplacementCache" "cache" "LAdaptiveReplacementCache$Cache;", Cond.fieldLink RX2 19 "AdaptiveReplacementCache" "log" "LAdaptiveReplacementCache$KeyList;", Cond.methodLink RX2 50 yX2_checkCapacity, Cond.static yX2_checkCapacity, Cond.code yX2_checkCapacity cX2_checkCapacity 1 none, Cond.classLink RX2 60 "java/lang/IllegalArgumentException", Cond.initialized "java/lang/IllegalArgumentException", Cond.methodLink RX2 119 yX0_startAnew, Cond.instanceMethod yX0_startAnew, Cond.selects RX0 yX0_startAnew yX0_startAnew, Cond.initialized RX0, Cond.code yX0_startAnew cX0_startAnew 3 none, Cond.fieldLink RX0 27 "AdaptiveReplacementCache$Cache" "capacity" "I", Cond.fieldLink RX0 38 "AdaptiveReplacementCache$Cache" "scanLength" "I", Cond.fieldLink RX0 41 "AdaptiveReplacementCache$Cache" "run" "I", Cond.fieldLink RX0 31 "AdaptiveReplacementCache$Cache" "keyBefore" "I", Cond.fieldLink RX0 44 "AdaptiveReplacementCache$Cache" "evictions" "I"]
def wsL_hitsIf_r2 : List Cond := [Cond.methodLink RX0 34 yX0_forgetAll, Cond.instanceMethod yX0_forgetAll, Cond.selects RX0 yX0_forgetAll yX0_forgetAll, Cond.code yX0_forgetAll cX0_forgetAll 2 (some .int), Cond.fieldLink RX0 12 "AdaptiveReplacementCache$Cache" "recent" "LAdaptiveReplacementCache$KeyList;", Cond.fieldLink RX0 18 "AdaptiveReplacementCache$Cache" "frequent" "LAdaptiveReplacementCache$KeyList;", Cond.fieldLink RX0 21 "AdaptiveReplacementCache$Cache" "recentGhosts" "LAdaptiveReplacementCache$KeyList;", Cond.fieldLink RX0 24 "AdaptiveReplacementCache$Cache" "frequentGhosts" "LAdaptiveReplacementCache$KeyList;", Cond.fieldLink RX0 68 "AdaptiveReplacementCache$Cache" "target" "I", Cond.methodLink RX0 62 yX0_pages, Cond.instanceMethod yX0_pages, Cond.selects RX0 yX0_pages yX0_pages, Cond.code yX0_pages cX0_pages 1 (some .int), Cond.methodLink RX0 47 yX1_length, Cond.instanceMethod yX1_length, Cond.selects RX1 yX1_length yX1_length, Cond.initialized RX1, Cond.code yX1_length cX1_length 1 (some .int), Cond.fieldLink RX1 15 "AdaptiveReplacementCache$KeyList" "length" "I", Cond.methodLink RX0 65 yX1_empty, Cond.instanceMethod yX1_empty, Cond.selects RX1 yX1_empty yX1_empty, Cond.code yX1_empty cX1_empty 1 none, Cond.methodLink RX2 88 yX1_length]
def wsL_hitsIf_r3 : List Cond := [Cond.methodLink RX2 123 yX1_fromOldest, Cond.instanceMethod yX1_fromOldest, Cond.selects RX1 yX1_fromOldest yX1_fromOldest, Cond.code yX1_fromOldest cX1_fromOldest 2 (some .int), Cond.fieldLink RX1 9 "AdaptiveReplacementCache$KeyList" "keys" "[I", Cond.methodLink RX2 36 yX0_serve, Cond.instanceMethod yX0_serve, Cond.selects RX0 yX0_serve yX0_serve, Cond.code yX0_serve cX0_serve 3 (some .int), Cond.methodLink RX0 93 yX0_lengthenRun, Cond.instanceMethod yX0_lengthenRun, Cond.selects RX0 yX0_lengthenRun yX0_lengthenRun, Cond.code yX0_lengthenRun cX0_lengthenRun 3 none, Cond.methodLink RX0 54 yX0_listWith, Cond.instanceMethod yX0_listWith, Cond.selects RX0 yX0_listWith yX0_listWith, Cond.code yX0_listWith cX0_listWith 2 (some .int), Cond.methodLink RX0 50 yX1_holds, Cond.instanceMethod yX1_holds, Cond.selects RX1 yX1_holds yX1_holds, Cond.code yX1_holds cX1_holds 2 (some .boolean), Cond.methodLink RX1 19 yX1_indexOf, Cond.instanceMethod yX1_indexOf, Cond.selects RX1 yX1_indexOf yX1_indexOf]
def wsL_hitsIf_r4 : List Cond := [Cond.code yX1_indexOf cX1_indexOf 3 (some .int), Cond.static yX2_isPage, Cond.code yX2_isPage cX2_isPage 1 (some .boolean), Cond.methodLink RX0 100 yX0_admit, Cond.instanceMethod yX0_admit, Cond.selects RX0 yX0_admit yX0_admit, Cond.code yX0_admit cX0_admit 2 none, Cond.methodLink RX0 112 yX0_dropsRecentPage, Cond.instanceMethod yX0_dropsRecentPage, Cond.selects RX0 yX0_dropsRecentPage yX0_dropsRecentPage, Cond.code yX0_dropsRecentPage cX0_dropsRecentPage 1 (some .boolean), Cond.methodLink RX0 84 yX0_recentAndGhosts, Cond.instanceMethod yX0_recentAndGhosts, Cond.selects RX0 yX0_recentAndGhosts yX0_recentAndGhosts, Cond.code yX0_recentAndGhosts cX0_recentAndGhosts 1 (some .int), Cond.methodLink RX0 87 yX1_takeOldest, Cond.instanceMethod yX1_takeOldest, Cond.selects RX1 yX1_takeOldest yX1_takeOldest, Cond.code yX1_takeOldest cX1_takeOldest 2 (some .int), Cond.methodLink RX1 23 yX1_fromOldest, Cond.methodLink RX1 26 yX1_closeGap, Cond.instanceMethod yX1_closeGap, Cond.selects RX1 yX1_closeGap yX1_closeGap, Cond.code yX1_closeGap cX1_closeGap 3 none]
def wsL_hitsIf_r5 : List Cond := [Cond.methodLink RX0 90 yX0_keysInAll, Cond.instanceMethod yX0_keysInAll, Cond.selects RX0 yX0_keysInAll yX0_keysInAll, Cond.code yX0_keysInAll cX0_keysInAll 1 (some .int), Cond.methodLink RX0 106 yX0_makeRoom, Cond.instanceMethod yX0_makeRoom, Cond.selects RX0 yX0_makeRoom yX0_makeRoom, Cond.code yX0_makeRoom cX0_makeRoom 2 none, Cond.methodLink RX0 119 yX0_isFull, Cond.instanceMethod yX0_isFull, Cond.selects RX0 yX0_isFull yX0_isFull, Cond.code yX0_isFull cX0_isFull 1 (some .boolean), Cond.methodLink RX0 80 yX0_evict, Cond.instanceMethod yX0_evict, Cond.selects RX0 yX0_evict yX0_evict, Cond.code yX0_evict cX0_evict 2 none, Cond.methodLink RX0 122 yX0_evictsRecentPage, Cond.instanceMethod yX0_evictsRecentPage, Cond.selects RX0 yX0_evictsRecentPage yX0_evictsRecentPage, Cond.code yX0_evictsRecentPage cX0_evictsRecentPage 3 (some .boolean), Cond.methodLink RX0 109 yX1_join, Cond.instanceMethod yX1_join, Cond.selects RX1 yX1_join yX1_join, Cond.code yX1_join cX1_join 2 none]
def wsL_hitsIf_r6 : List Cond := [Cond.methodLink RX0 103 yX0_adaptTarget, Cond.instanceMethod yX0_adaptTarget, Cond.selects RX0 yX0_adaptTarget yX0_adaptTarget, Cond.code yX0_adaptTarget cX0_adaptTarget 4 none, Cond.methodLink RX0 71 Lib.Math.min.name, Cond.static Lib.Math.min.name, Cond.initialized "java/lang/Math", Cond.code Lib.Math.min.name Lib.Math.min.code 2 (some .int), Cond.methodLink RX0 77 Lib.Math.max.name, Cond.static Lib.Math.max.name, Cond.code Lib.Math.max.name Lib.Math.max.code 2 (some .int), Cond.methodLink RX0 126 yX0_adaptationStep, Cond.static yX0_adaptationStep, Cond.code yX0_adaptationStep cX0_adaptationStep 2 (some .int), Cond.methodLink RX0 58 yX0_takeFrom, Cond.instanceMethod yX0_takeFrom, Cond.selects RX0 yX0_takeFrom yX0_takeFrom, Cond.code yX0_takeFrom cX0_takeFrom 3 none, Cond.methodLink RX0 129 yX1_takeOut, Cond.instanceMethod yX1_takeOut, Cond.selects RX1 yX1_takeOut yX1_takeOut, Cond.code yX1_takeOut cX1_takeOut 3 (some .boolean), Cond.methodLink RX2 126 yX2_isPage]
def wsL_hitsIf : List Cond := .codeWith yL_hitsIf cL_hitsIf 4 (some .int) [(0, 9, 12, 13)] :: ((wsL_hitsIf_r1 ++ (wsL_hitsIf_r2 ++ (wsL_hitsIf_r3 ++ (wsL_hitsIf_r4 ++ (wsL_hitsIf_r5 ++ wsL_hitsIf_r6))))) ++ wsX20 ++ wsX00 ++ wsX10 ++ (vx_atS RX2 64 "java/lang/IllegalArgumentException" ["java/lang/RuntimeException", "java/lang/Exception"]).filter goodWord)
def wsL_leastRecentHitsIf_r1 : List Cond := [Cond.classLink RL 13 "java/lang/IllegalArgumentException", Cond.methodLink RL 44 yX2_leastRecentHitsIf, Cond.instanceMethod yX2_leastRecentHitsIf, Cond.selects RX2 yX2_leastRecentHitsIf yX2_leastRecentHitsIf, Cond.initialized RX2, Cond.code yX2_leastRecentHitsIf cX2_leastRecentHitsIf 5 (some .int), Cond.fieldLink RX2 26 "AdaptiveReplacementCache" "latestPages" "LAdaptiveReplacementCache$KeyList;", Cond.fieldLink RX2 19 "AdaptiveReplacementCache" "log" "LAdaptiveReplacementCache$KeyList;", Cond.methodLink RX2 50 yX2_checkCapacity, Cond.static yX2_checkCapacity, Cond.code yX2_checkCapacity cX2_checkCapacity 1 none, Cond.classLink RX2 60 "java/lang/IllegalArgumentException", Cond.initialized "java/lang/IllegalArgumentException", Cond.methodLink RX2 130 yX1_empty, Cond.instanceMethod yX1_empty, Cond.selects RX1 yX1_empty yX1_empty, Cond.initialized RX1, Cond.code yX1_empty cX1_empty 1 none, Cond.fieldLink RX1 15 "AdaptiveReplacementCache$KeyList" "length" "I", Cond.methodLink RX2 88 yX1_length, Cond.instanceMethod yX1_length, Cond.selects RX1 yX1_length yX1_length, Cond.code yX1_length cX1_length 1 (some .int), Cond.methodLink RX2 123 yX1_fromOldest]
def wsL_leastRecentHitsIf_r2 : List Cond := [Cond.instanceMethod yX1_fromOldest, Cond.selects RX1 yX1_fromOldest yX1_fromOldest, Cond.code yX1_fromOldest cX1_fromOldest 2 (some .int), Cond.fieldLink RX1 9 "AdaptiveReplacementCache$KeyList" "keys" "[I", Cond.methodLink RX2 133 yX1_takeOut, Cond.instanceMethod yX1_takeOut, Cond.selects RX1 yX1_takeOut yX1_takeOut, Cond.code yX1_takeOut cX1_takeOut 3 (some .boolean), Cond.methodLink RX1 19 yX1_indexOf, Cond.instanceMethod yX1_indexOf, Cond.selects RX1 yX1_indexOf yX1_indexOf, Cond.code yX1_indexOf cX1_indexOf 3 (some .int), Cond.methodLink RX1 26 yX1_closeGap, Cond.instanceMethod yX1_closeGap, Cond.selects RX1 yX1_closeGap yX1_closeGap, Cond.code yX1_closeGap cX1_closeGap 3 none, Cond.methodLink RX2 136 yX1_takeOldest, Cond.instanceMethod yX1_takeOldest, Cond.selects RX1 yX1_takeOldest yX1_takeOldest, Cond.code yX1_takeOldest cX1_takeOldest 2 (some .int), Cond.methodLink RX1 23 yX1_fromOldest, Cond.methodLink RX2 139 yX1_join, Cond.instanceMethod yX1_join, Cond.selects RX1 yX1_join yX1_join]
def wsL_leastRecentHitsIf_r3 : List Cond := [Cond.code yX1_join cX1_join 2 none]
def wsL_leastRecentHitsIf : List Cond := .codeWith yL_leastRecentHitsIf cL_leastRecentHitsIf 4 (some .int) [(0, 9, 12, 13)] :: ((wsL_leastRecentHitsIf_r1 ++ (wsL_leastRecentHitsIf_r2 ++ wsL_leastRecentHitsIf_r3)) ++ wsX20 ++ wsX10 ++ (vx_atS RX2 64 "java/lang/IllegalArgumentException" ["java/lang/RuntimeException", "java/lang/Exception"]).filter goodWord)
def wsL_law0_r1 : List Cond := [Cond.classLink RL 8 RX2, Cond.instantiable RX2 8, Cond.initialized RX2, Cond.classLink RL 48 RX3, Cond.instantiable RX3 10, Cond.initialized RX3, Cond.arrayClass .long, Cond.methodLink RL 47 yX2_init, Cond.instanceMethod yX2_init, Cond.code yX2_init cX2_init 1 none, Cond.methodLink RX2 3 objectInit, Cond.instanceMethod objectInit, Cond.code objectInit ⟨#[0xb1]⟩ 1 none, Cond.classLink RX2 9 RX0, Cond.instantiable RX0 10, Cond.initialized RX0, Cond.fieldLink RX2 12 "AdaptiveReplacementCache" "cache" "LAdaptiveReplacementCache$Cache;", Cond.classLink RX2 16 RX1, Cond.instantiable RX1 2, Cond.initialized RX1, Cond.fieldLink RX2 19 "AdaptiveReplacementCache" "log" "LAdaptiveReplacementCache$KeyList;", Cond.fieldLink RX2 23 "AdaptiveReplacementCache" "trial" "LAdaptiveReplacementCache$Cache;", Cond.fieldLink RX2 26 "AdaptiveReplacementCache" "latestPages" "LAdaptiveReplacementCache$KeyList;", Cond.instanceMethod yX0_init]
def wsL_law0_r2 : List Cond := [Cond.code yX0_init cX0_init 1 none, Cond.methodLink RX0 3 objectInit, Cond.classLink RX0 9 RX1, Cond.fieldLink RX0 12 "AdaptiveReplacementCache$Cache" "recent" "LAdaptiveReplacementCache$KeyList;", Cond.fieldLink RX0 18 "AdaptiveReplacementCache$Cache" "frequent" "LAdaptiveReplacementCache$KeyList;", Cond.fieldLink RX0 21 "AdaptiveReplacementCache$Cache" "recentGhosts" "LAdaptiveReplacementCache$KeyList;", Cond.fieldLink RX0 24 "AdaptiveReplacementCache$Cache" "frequentGhosts" "LAdaptiveReplacementCache$KeyList;", Cond.fieldLink RX0 27 "AdaptiveReplacementCache$Cache" "capacity" "I", Cond.fieldLink RX0 31 "AdaptiveReplacementCache$Cache" "keyBefore" "I", Cond.instanceMethod yX1_init, Cond.code yX1_init cX1_init 1 none, Cond.methodLink RX1 3 objectInit, Cond.arrayClass .int, Cond.fieldLink RX1 9 "AdaptiveReplacementCache$KeyList" "keys" "[I", Cond.methodLink RL 50 yX3_init, Cond.instanceMethod yX3_init, Cond.code yX3_init cX3_init 1 none, Cond.methodLink RX3 1 objectInit, Cond.fieldLink RX3 7 "AdaptiveReplacementCacheModel" "now" "[I", Cond.fieldLink RX3 13 "AdaptiveReplacementCacheModel" "then" "[I", Cond.fieldLink RX3 16 "AdaptiveReplacementCacheModel" "log" "[I", Cond.fieldLink RX3 19 "AdaptiveReplacementCacheModel" "pages" "[I", Cond.methodLink RL 51 yL_request, Cond.static yL_request]
def wsL_law0_r3 : List Cond := [Cond.initialized RL, Cond.codeWith yL_request cL_request 4 (some .int) [(0, 9, 12, 13)], Cond.classLink RL 13 "java/lang/IllegalArgumentException", Cond.methodLink RL 7 yX2_request, Cond.instanceMethod yX2_request, Cond.selects RX2 yX2_request yX2_request, Cond.code yX2_request cX2_request 3 (some .int), Cond.methodLink RX2 29 yX2_checkKey, Cond.static yX2_checkKey, Cond.code yX2_checkKey cX2_checkKey 1 none, Cond.classLink RX2 60 "java/lang/IllegalArgumentException", Cond.initialized "java/lang/IllegalArgumentException", Cond.methodLink RX2 33 yX2_addToLog, Cond.instanceMethod yX2_addToLog, Cond.selects RX2 yX2_addToLog yX2_addToLog, Cond.code yX2_addToLog cX2_addToLog 2 none, Cond.methodLink RX2 88 yX1_length, Cond.instanceMethod yX1_length, Cond.selects RX1 yX1_length yX1_length, Cond.code yX1_length cX1_length 1 (some .int), Cond.fieldLink RX1 15 "AdaptiveReplacementCache$KeyList" "length" "I", Cond.methodLink RX2 136 yX1_takeOldest, Cond.instanceMethod yX1_takeOldest, Cond.selects RX1 yX1_takeOldest yX1_takeOldest]
def wsL_law0_r4 : List Cond := [Cond.code yX1_takeOldest cX1_takeOldest 2 (some .int), Cond.methodLink RX1 23 yX1_fromOldest, Cond.instanceMethod yX1_fromOldest, Cond.selects RX1 yX1_fromOldest yX1_fromOldest, Cond.code yX1_fromOldest cX1_fromOldest 2 (some .int), Cond.methodLink RX1 26 yX1_closeGap, Cond.instanceMethod yX1_closeGap, Cond.selects RX1 yX1_closeGap yX1_closeGap, Cond.code yX1_closeGap cX1_closeGap 3 none, Cond.methodLink RX2 139 yX1_join, Cond.instanceMethod yX1_join, Cond.selects RX1 yX1_join yX1_join, Cond.code yX1_join cX1_join 2 none, Cond.methodLink RX2 36 yX0_serve, Cond.instanceMethod yX0_serve, Cond.selects RX0 yX0_serve yX0_serve, Cond.code yX0_serve cX0_serve 3 (some .int), Cond.fieldLink RX0 38 "AdaptiveReplacementCache$Cache" "scanLength" "I", Cond.fieldLink RX0 41 "AdaptiveReplacementCache$Cache" "run" "I", Cond.methodLink RX0 93 yX0_lengthenRun, Cond.instanceMethod yX0_lengthenRun, Cond.selects RX0 yX0_lengthenRun yX0_lengthenRun, Cond.code yX0_lengthenRun cX0_lengthenRun 3 none, Cond.methodLink RX0 54 yX0_listWith]
def wsL_law0_r5 : List Cond := [Cond.instanceMethod yX0_listWith, Cond.selects RX0 yX0_listWith yX0_listWith, Cond.code yX0_listWith cX0_listWith 2 (some .int), Cond.methodLink RX0 50 yX1_holds, Cond.instanceMethod yX1_holds, Cond.selects RX1 yX1_holds yX1_holds, Cond.code yX1_holds cX1_holds 2 (some .boolean), Cond.methodLink RX1 19 yX1_indexOf, Cond.instanceMethod yX1_indexOf, Cond.selects RX1 yX1_indexOf yX1_indexOf, Cond.code yX1_indexOf cX1_indexOf 3 (some .int), Cond.static yX2_isPage, Cond.code yX2_isPage cX2_isPage 1 (some .boolean), Cond.methodLink RX0 100 yX0_admit, Cond.instanceMethod yX0_admit, Cond.selects RX0 yX0_admit yX0_admit, Cond.code yX0_admit cX0_admit 2 none, Cond.fieldLink RX0 44 "AdaptiveReplacementCache$Cache" "evictions" "I", Cond.methodLink RX0 112 yX0_dropsRecentPage, Cond.instanceMethod yX0_dropsRecentPage, Cond.selects RX0 yX0_dropsRecentPage yX0_dropsRecentPage, Cond.code yX0_dropsRecentPage cX0_dropsRecentPage 1 (some .boolean), Cond.methodLink RX0 84 yX0_recentAndGhosts, Cond.instanceMethod yX0_recentAndGhosts]
def wsL_law0_r6 : List Cond := [Cond.selects RX0 yX0_recentAndGhosts yX0_recentAndGhosts, Cond.code yX0_recentAndGhosts cX0_recentAndGhosts 1 (some .int), Cond.methodLink RX0 47 yX1_length, Cond.methodLink RX0 87 yX1_takeOldest, Cond.methodLink RX0 90 yX0_keysInAll, Cond.instanceMethod yX0_keysInAll, Cond.selects RX0 yX0_keysInAll yX0_keysInAll, Cond.code yX0_keysInAll cX0_keysInAll 1 (some .int), Cond.methodLink RX0 62 yX0_pages, Cond.instanceMethod yX0_pages, Cond.selects RX0 yX0_pages yX0_pages, Cond.code yX0_pages cX0_pages 1 (some .int), Cond.methodLink RX0 106 yX0_makeRoom, Cond.instanceMethod yX0_makeRoom, Cond.selects RX0 yX0_makeRoom yX0_makeRoom, Cond.code yX0_makeRoom cX0_makeRoom 2 none, Cond.methodLink RX0 119 yX0_isFull, Cond.instanceMethod yX0_isFull, Cond.selects RX0 yX0_isFull yX0_isFull, Cond.code yX0_isFull cX0_isFull 1 (some .boolean), Cond.methodLink RX0 80 yX0_evict, Cond.instanceMethod yX0_evict, Cond.selects RX0 yX0_evict yX0_evict, Cond.code yX0_evict cX0_evict 2 none]
def wsL_law0_r7 : List Cond := [Cond.methodLink RX0 122 yX0_evictsRecentPage, Cond.instanceMethod yX0_evictsRecentPage, Cond.selects RX0 yX0_evictsRecentPage yX0_evictsRecentPage, Cond.code yX0_evictsRecentPage cX0_evictsRecentPage 3 (some .boolean), Cond.fieldLink RX0 68 "AdaptiveReplacementCache$Cache" "target" "I", Cond.methodLink RX0 109 yX1_join, Cond.methodLink RX0 103 yX0_adaptTarget, Cond.instanceMethod yX0_adaptTarget, Cond.selects RX0 yX0_adaptTarget yX0_adaptTarget, Cond.code yX0_adaptTarget cX0_adaptTarget 4 none, Cond.methodLink RX0 71 Lib.Math.min.name, Cond.static Lib.Math.min.name, Cond.initialized "java/lang/Math", Cond.code Lib.Math.min.name Lib.Math.min.code 2 (some .int), Cond.methodLink RX0 77 Lib.Math.max.name, Cond.static Lib.Math.max.name, Cond.code Lib.Math.max.name Lib.Math.max.code 2 (some .int), Cond.methodLink RX0 126 yX0_adaptationStep, Cond.static yX0_adaptationStep, Cond.code yX0_adaptationStep cX0_adaptationStep 2 (some .int), Cond.methodLink RX0 58 yX0_takeFrom, Cond.instanceMethod yX0_takeFrom, Cond.selects RX0 yX0_takeFrom yX0_takeFrom, Cond.code yX0_takeFrom cX0_takeFrom 3 none]
def wsL_law0_r8 : List Cond := [Cond.methodLink RX0 129 yX1_takeOut, Cond.instanceMethod yX1_takeOut, Cond.selects RX1 yX1_takeOut yX1_takeOut, Cond.code yX1_takeOut cX1_takeOut 3 (some .boolean), Cond.methodLink RX2 40 yX2_count, Cond.instanceMethod yX2_count, Cond.selects RX2 yX2_count yX2_count, Cond.code yX2_count cX2_count 2 none, Cond.fieldLink RX2 104 "AdaptiveReplacementCache" "requests" "I", Cond.fieldLink RX2 107 "AdaptiveReplacementCache" "hits" "I", Cond.fieldLink RX2 110 "AdaptiveReplacementCache" "ghostHits" "I", Cond.fieldLink RX2 113 "AdaptiveReplacementCache" "bypassed" "I", Cond.methodLink RX2 126 yX2_isPage, Cond.methodLink RL 56 yX3_request, Cond.instanceMethod yX3_request, Cond.selects RX3 yX3_request yX3_request, Cond.code yX3_request cX3_request 4 (some .int), Cond.fieldLink RX3 83 "AdaptiveReplacementCacheModel" "requests" "I", Cond.fieldLink RX3 86 "AdaptiveReplacementCacheModel" "hits" "I", Cond.fieldLink RX3 89 "AdaptiveReplacementCacheModel" "ghostHits" "I", Cond.fieldLink RX3 92 "AdaptiveReplacementCacheModel" "bypassed" "I", Cond.fieldLink RX3 95 "AdaptiveReplacementCacheModel" "logged" "I", Cond.methodLink RX3 72 yX3_isKey, Cond.static yX3_isKey]
def wsL_law0_r9 : List Cond := [Cond.code yX3_isKey cX3_isKey 1 (some .boolean), Cond.methodLink RX3 76 yX3_asked, Cond.instanceMethod yX3_asked, Cond.selects RX3 yX3_asked yX3_asked, Cond.code yX3_asked cX3_asked 2 (some .boolean), Cond.fieldLink RX3 22 "AdaptiveReplacementCacheModel" "thrown" "I", Cond.methodLink RX3 80 yX3_asks, Cond.static yX3_asks, Cond.code yX3_asks cX3_asks 3 (some .int), Cond.methodLink RX3 63 yX3_listOf, Cond.static yX3_listOf, Cond.code yX3_listOf cX3_listOf 4 (some .int), Cond.methodLink RX3 30 yX3_placeIn, Cond.static yX3_placeIn, Cond.code yX3_placeIn cX3_placeIn 5 (some .int), Cond.methodLink RX3 26 yX3_at, Cond.static yX3_at, Cond.code yX3_at cX3_at 2 (some .int), Cond.methodLink RX3 38 yX3_leaves, Cond.static yX3_leaves, Cond.code yX3_leaves cX3_leaves 5 (some .int), Cond.methodLink RX3 41 yX3_joins, Cond.static yX3_joins, Cond.code yX3_joins cX3_joins 3 none]
def wsL_law0_r10 : List Cond := [Cond.methodLink RX3 66 yX3_ghost, Cond.static yX3_ghost, Cond.code yX3_ghost cX3_ghost 5 none, Cond.methodLink RX3 53 yX3_step, Cond.static yX3_step, Cond.code yX3_step cX3_step 3 (some .int), Cond.methodLink RX3 56 yX3_evictsIfFull, Cond.static yX3_evictsIfFull, Cond.code yX3_evictsIfFull cX3_evictsIfFull 2 none, Cond.methodLink RX3 45 yX3_isFull, Cond.static yX3_isFull, Cond.code yX3_isFull cX3_isFull 1 (some .boolean), Cond.methodLink RX3 49 yX3_evicts, Cond.static yX3_evicts, Cond.code yX3_evicts cX3_evicts 3 none, Cond.methodLink RX3 34 yX3_evictedFrom, Cond.static yX3_evictedFrom, Cond.code yX3_evictedFrom cX3_evictedFrom 3 (some .int), Cond.methodLink RX3 69 yX3_miss, Cond.static yX3_miss, Cond.code yX3_miss cX3_miss 2 none, Cond.methodLink RX3 59 yX3_allKeys, Cond.static yX3_allKeys, Cond.code yX3_allKeys cX3_allKeys 1 (some .int)]
def wsL_law0_r11 : List Cond := [Cond.methodLink RL 57 yX3_thrown, Cond.instanceMethod yX3_thrown, Cond.selects RX3 yX3_thrown yX3_thrown, Cond.code yX3_thrown cX3_thrown 1 (some .int), Cond.methodLink RL 61 yL_remove, Cond.static yL_remove, Cond.codeWith yL_remove cL_remove 4 (some .int) [(0, 9, 12, 13)], Cond.methodLink RL 15 yX2_remove, Cond.instanceMethod yX2_remove, Cond.selects RX2 yX2_remove yX2_remove, Cond.code yX2_remove cX2_remove 2 (some .int), Cond.methodLink RX2 43 yX0_forget, Cond.instanceMethod yX0_forget, Cond.selects RX0 yX0_forget yX0_forget, Cond.code yX0_forget cX0_forget 3 (some .int), Cond.methodLink RL 63 yX3_remove, Cond.instanceMethod yX3_remove, Cond.selects RX3 yX3_remove yX3_remove, Cond.code yX3_remove cX3_remove 3 (some .int), Cond.methodLink RL 64 yX2_clear, Cond.instanceMethod yX2_clear, Cond.selects RX2 yX2_clear yX2_clear, Cond.code yX2_clear cX2_clear 1 (some .int), Cond.methodLink RX2 46 yX0_forgetAll]
def wsL_law0_r12 : List Cond := [Cond.instanceMethod yX0_forgetAll, Cond.selects RX0 yX0_forgetAll yX0_forgetAll, Cond.code yX0_forgetAll cX0_forgetAll 2 (some .int), Cond.methodLink RX0 65 yX1_empty, Cond.instanceMethod yX1_empty, Cond.selects RX1 yX1_empty yX1_empty, Cond.code yX1_empty cX1_empty 1 none, Cond.methodLink RL 67 yX3_clear, Cond.instanceMethod yX3_clear, Cond.selects RX3 yX3_clear yX3_clear, Cond.code yX3_clear cX3_clear 3 (some .int), Cond.methodLink RL 68 yL_setCapacity, Cond.static yL_setCapacity, Cond.codeWith yL_setCapacity cL_setCapacity 4 (some .int) [(0, 9, 12, 13)], Cond.methodLink RL 18 yX2_setCapacity, Cond.instanceMethod yX2_setCapacity, Cond.selects RX2 yX2_setCapacity yX2_setCapacity, Cond.code yX2_setCapacity cX2_setCapacity 2 (some .int), Cond.methodLink RX2 50 yX2_checkCapacity, Cond.static yX2_checkCapacity, Cond.code yX2_checkCapacity cX2_checkCapacity 1 none, Cond.methodLink RX2 53 yX0_changeCapacity, Cond.instanceMethod yX0_changeCapacity, Cond.selects RX0 yX0_changeCapacity yX0_changeCapacity]
def wsL_law0_r13 : List Cond := [Cond.code yX0_changeCapacity cX0_changeCapacity 6 (some .int), Cond.methodLink RL 70 yX3_setCapacity, Cond.instanceMethod yX3_setCapacity, Cond.selects RX3 yX3_setCapacity yX3_setCapacity, Cond.code yX3_setCapacity cX3_setCapacity 3 (some .int), Cond.methodLink RX3 98 yX3_isCapacity, Cond.static yX3_isCapacity, Cond.code yX3_isCapacity cX3_isCapacity 1 (some .boolean), Cond.methodLink RL 71 yX2_capacity, Cond.instanceMethod yX2_capacity, Cond.selects RX2 yX2_capacity yX2_capacity, Cond.code yX2_capacity cX2_capacity 1 (some .int), Cond.methodLink RL 74 yX3_capacity, Cond.instanceMethod yX3_capacity, Cond.selects RX3 yX3_capacity yX3_capacity, Cond.code yX3_capacity cX3_capacity 1 (some .int), Cond.methodLink RX3 101 yX3_told, Cond.instanceMethod yX3_told, Cond.selects RX3 yX3_told yX3_told, Cond.code yX3_told cX3_told 2 (some .int), Cond.methodLink RL 75 yL_setScanLength, Cond.static yL_setScanLength, Cond.codeWith yL_setScanLength cL_setScanLength 4 (some .int) [(0, 9, 12, 13)], Cond.methodLink RL 21 yX2_setScanLength]
def wsL_law0_r14 : List Cond := [Cond.instanceMethod yX2_setScanLength, Cond.selects RX2 yX2_setScanLength yX2_setScanLength, Cond.code yX2_setScanLength cX2_setScanLength 3 (some .int), Cond.methodLink RL 77 yX3_setScanLength, Cond.instanceMethod yX3_setScanLength, Cond.selects RX3 yX3_setScanLength yX3_setScanLength, Cond.code yX3_setScanLength cX3_setScanLength 3 (some .int), Cond.methodLink RL 78 yX2_run, Cond.instanceMethod yX2_run, Cond.selects RX2 yX2_run yX2_run, Cond.code yX2_run cX2_run 1 (some .int), Cond.methodLink RL 81 yX3_run, Cond.instanceMethod yX3_run, Cond.selects RX3 yX3_run yX3_run, Cond.code yX3_run cX3_run 1 (some .int), Cond.methodLink RL 82 yX2_target, Cond.instanceMethod yX2_target, Cond.selects RX2 yX2_target yX2_target, Cond.code yX2_target cX2_target 1 (some .int), Cond.methodLink RL 85 yX3_target, Cond.instanceMethod yX3_target, Cond.selects RX3 yX3_target yX3_target, Cond.code yX3_target cX3_target 1 (some .int), Cond.methodLink RL 86 yX2_size]
def wsL_law0_r15 : List Cond := [Cond.instanceMethod yX2_size, Cond.selects RX2 yX2_size yX2_size, Cond.code yX2_size cX2_size 1 (some .int), Cond.methodLink RX2 76 yX0_pages, Cond.methodLink RL 89 yX3_size, Cond.instanceMethod yX3_size, Cond.selects RX3 yX3_size yX3_size, Cond.code yX3_size cX3_size 1 (some .int), Cond.methodLink RL 90 yL_whereIs, Cond.static yL_whereIs, Cond.codeWith yL_whereIs cL_whereIs 4 (some .int) [(0, 9, 12, 13)], Cond.methodLink RL 24 yX2_whereIs, Cond.instanceMethod yX2_whereIs, Cond.selects RX2 yX2_whereIs yX2_whereIs, Cond.code yX2_whereIs cX2_whereIs 2 (some .int), Cond.methodLink RX2 79 yX0_listWith, Cond.methodLink RL 92 yX3_whereIs, Cond.instanceMethod yX3_whereIs, Cond.selects RX3 yX3_whereIs yX3_whereIs, Cond.code yX3_whereIs cX3_whereIs 2 (some .int), Cond.methodLink RL 93 yX2_victim, Cond.instanceMethod yX2_victim, Cond.selects RX2 yX2_victim yX2_victim, Cond.code yX2_victim cX2_victim 1 (some .int)]
def wsL_law0_r16 : List Cond := [Cond.methodLink RX2 82 yX0_nextToLeave, Cond.instanceMethod yX0_nextToLeave, Cond.selects RX0 yX0_nextToLeave yX0_nextToLeave, Cond.code yX0_nextToLeave cX0_nextToLeave 1 (some .int), Cond.methodLink RX0 116 yX1_oldest, Cond.instanceMethod yX1_oldest, Cond.selects RX1 yX1_oldest yX1_oldest, Cond.code yX1_oldest cX1_oldest 1 (some .int), Cond.methodLink RL 96 yX3_victim, Cond.instanceMethod yX3_victim, Cond.selects RX3 yX3_victim yX3_victim, Cond.code yX3_victim cX3_victim 2 (some .int), Cond.methodLink RL 97 yX2_recentSize, Cond.instanceMethod yX2_recentSize, Cond.selects RX2 yX2_recentSize yX2_recentSize, Cond.code yX2_recentSize cX2_recentSize 1 (some .int), Cond.methodLink RL 100 yX3_recentSize, Cond.instanceMethod yX3_recentSize, Cond.selects RX3 yX3_recentSize yX3_recentSize, Cond.code yX3_recentSize cX3_recentSize 1 (some .int), Cond.methodLink RL 101 yX2_frequentSize, Cond.instanceMethod yX2_frequentSize, Cond.selects RX2 yX2_frequentSize yX2_frequentSize, Cond.code yX2_frequentSize cX2_frequentSize 1 (some .int)]
def wsL_law0_r17 : List Cond := [Cond.methodLink RL 104 yX3_frequentSize, Cond.instanceMethod yX3_frequentSize, Cond.selects RX3 yX3_frequentSize yX3_frequentSize, Cond.code yX3_frequentSize cX3_frequentSize 1 (some .int), Cond.methodLink RL 105 yX2_recentGhosts, Cond.instanceMethod yX2_recentGhosts, Cond.selects RX2 yX2_recentGhosts yX2_recentGhosts, Cond.code yX2_recentGhosts cX2_recentGhosts 1 (some .int), Cond.methodLink RL 108 yX3_recentGhosts, Cond.instanceMethod yX3_recentGhosts, Cond.selects RX3 yX3_recentGhosts yX3_recentGhosts, Cond.code yX3_recentGhosts cX3_recentGhosts 1 (some .int), Cond.methodLink RL 109 yX2_frequentGhosts, Cond.instanceMethod yX2_frequentGhosts, Cond.selects RX2 yX2_frequentGhosts yX2_frequentGhosts, Cond.code yX2_frequentGhosts cX2_frequentGhosts 1 (some .int), Cond.methodLink RL 112 yX3_frequentGhosts, Cond.instanceMethod yX3_frequentGhosts, Cond.selects RX3 yX3_frequentGhosts yX3_frequentGhosts, Cond.code yX3_frequentGhosts cX3_frequentGhosts 1 (some .int), Cond.methodLink RL 113 yL_recentAt, Cond.static yL_recentAt, Cond.codeWith yL_recentAt cL_recentAt 4 (some .int) [(0, 9, 12, 30)], Cond.classLink RL 30 "java/lang/IndexOutOfBoundsException"]
def wsL_law0_r18 : List Cond := [Cond.methodLink RL 27 yX2_recentAt, Cond.instanceMethod yX2_recentAt, Cond.selects RX2 yX2_recentAt yX2_recentAt, Cond.code yX2_recentAt cX2_recentAt 2 (some .int), Cond.methodLink RX2 100 yX2_keyAt, Cond.static yX2_keyAt, Cond.code yX2_keyAt cX2_keyAt 2 (some .int), Cond.classLink RX2 146 "java/lang/IndexOutOfBoundsException", Cond.initialized "java/lang/IndexOutOfBoundsException", Cond.methodLink RX2 151 yX1_fromNewest, Cond.instanceMethod yX1_fromNewest, Cond.selects RX1 yX1_fromNewest yX1_fromNewest, Cond.code yX1_fromNewest cX1_fromNewest 2 (some .int), Cond.methodLink RL 115 yX3_recentAt, Cond.instanceMethod yX3_recentAt, Cond.selects RX3 yX3_recentAt yX3_recentAt, Cond.code yX3_recentAt cX3_recentAt 2 (some .int), Cond.methodLink RX3 105 yX3_newest, Cond.instanceMethod yX3_newest, Cond.selects RX3 yX3_newest yX3_newest, Cond.code yX3_newest cX3_newest 3 (some .int), Cond.methodLink RL 116 yL_frequentAt, Cond.static yL_frequentAt, Cond.codeWith yL_frequentAt cL_frequentAt 4 (some .int) [(0, 9, 12, 30)]]
def wsL_law0_r19 : List Cond := [Cond.methodLink RL 32 yX2_frequentAt, Cond.instanceMethod yX2_frequentAt, Cond.selects RX2 yX2_frequentAt yX2_frequentAt, Cond.code yX2_frequentAt cX2_frequentAt 2 (some .int), Cond.methodLink RL 118 yX3_frequentAt, Cond.instanceMethod yX3_frequentAt, Cond.selects RX3 yX3_frequentAt yX3_frequentAt, Cond.code yX3_frequentAt cX3_frequentAt 2 (some .int), Cond.methodLink RL 119 yL_recentGhostAt, Cond.static yL_recentGhostAt, Cond.codeWith yL_recentGhostAt cL_recentGhostAt 4 (some .int) [(0, 9, 12, 30)], Cond.methodLink RL 35 yX2_recentGhostAt, Cond.instanceMethod yX2_recentGhostAt, Cond.selects RX2 yX2_recentGhostAt yX2_recentGhostAt, Cond.code yX2_recentGhostAt cX2_recentGhostAt 2 (some .int), Cond.methodLink RL 121 yX3_recentGhostAt, Cond.instanceMethod yX3_recentGhostAt, Cond.selects RX3 yX3_recentGhostAt yX3_recentGhostAt, Cond.code yX3_recentGhostAt cX3_recentGhostAt 2 (some .int), Cond.methodLink RL 122 yL_frequentGhostAt, Cond.static yL_frequentGhostAt, Cond.codeWith yL_frequentGhostAt cL_frequentGhostAt 4 (some .int) [(0, 9, 12, 30)], Cond.methodLink RL 38 yX2_frequentGhostAt, Cond.instanceMethod yX2_frequentGhostAt]
def wsL_law0_r20 : List Cond := [Cond.selects RX2 yX2_frequentGhostAt yX2_frequentGhostAt, Cond.code yX2_frequentGhostAt cX2_frequentGhostAt 2 (some .int), Cond.methodLink RL 124 yX3_frequentGhostAt, Cond.instanceMethod yX3_frequentGhostAt, Cond.selects RX3 yX3_frequentGhostAt yX3_frequentGhostAt, Cond.code yX3_frequentGhostAt cX3_frequentGhostAt 2 (some .int), Cond.methodLink RL 125 yX2_requests, Cond.instanceMethod yX2_requests, Cond.selects RX2 yX2_requests yX2_requests, Cond.code yX2_requests cX2_requests 1 (some .int), Cond.methodLink RL 128 yX3_requests, Cond.instanceMethod yX3_requests, Cond.selects RX3 yX3_requests yX3_requests, Cond.code yX3_requests cX3_requests 1 (some .int), Cond.methodLink RL 129 yX2_hits, Cond.instanceMethod yX2_hits, Cond.selects RX2 yX2_hits yX2_hits, Cond.code yX2_hits cX2_hits 1 (some .int), Cond.methodLink RL 132 yX3_hits, Cond.instanceMethod yX3_hits, Cond.selects RX3 yX3_hits yX3_hits, Cond.code yX3_hits cX3_hits 1 (some .int), Cond.methodLink RL 133 yX2_ghostHits, Cond.instanceMethod yX2_ghostHits]
def wsL_law0_r21 : List Cond := [Cond.selects RX2 yX2_ghostHits yX2_ghostHits, Cond.code yX2_ghostHits cX2_ghostHits 1 (some .int), Cond.methodLink RL 136 yX3_ghostHits, Cond.instanceMethod yX3_ghostHits, Cond.selects RX3 yX3_ghostHits yX3_ghostHits, Cond.code yX3_ghostHits cX3_ghostHits 1 (some .int), Cond.methodLink RL 137 yX2_bypassed, Cond.instanceMethod yX2_bypassed, Cond.selects RX2 yX2_bypassed yX2_bypassed, Cond.code yX2_bypassed cX2_bypassed 1 (some .int), Cond.methodLink RL 140 yX3_bypassed, Cond.instanceMethod yX3_bypassed, Cond.selects RX3 yX3_bypassed yX3_bypassed, Cond.code yX3_bypassed cX3_bypassed 1 (some .int), Cond.methodLink RL 141 yX2_evictions, Cond.instanceMethod yX2_evictions, Cond.selects RX2 yX2_evictions yX2_evictions, Cond.code yX2_evictions cX2_evictions 1 (some .int), Cond.methodLink RL 144 yX3_evictions, Cond.instanceMethod yX3_evictions, Cond.selects RX3 yX3_evictions yX3_evictions, Cond.code yX3_evictions cX3_evictions 1 (some .int), Cond.methodLink RL 145 yL_hitsIf, Cond.static yL_hitsIf]
def wsL_law0_r22 : List Cond := [Cond.codeWith yL_hitsIf cL_hitsIf 4 (some .int) [(0, 9, 12, 13)], Cond.methodLink RL 41 yX2_hitsIf, Cond.instanceMethod yX2_hitsIf, Cond.selects RX2 yX2_hitsIf yX2_hitsIf, Cond.code yX2_hitsIf cX2_hitsIf 4 (some .int), Cond.methodLink RX2 119 yX0_startAnew, Cond.instanceMethod yX0_startAnew, Cond.selects RX0 yX0_startAnew yX0_startAnew, Cond.code yX0_startAnew cX0_startAnew 3 none, Cond.methodLink RX0 34 yX0_forgetAll, Cond.methodLink RX2 123 yX1_fromOldest, Cond.methodLink RL 147 yX3_hitsIf, Cond.instanceMethod yX3_hitsIf, Cond.selects RX3 yX3_hitsIf yX3_hitsIf, Cond.code yX3_hitsIf cX3_hitsIf 4 (some .int), Cond.methodLink RL 148 yL_leastRecentHitsIf, Cond.static yL_leastRecentHitsIf, Cond.codeWith yL_leastRecentHitsIf cL_leastRecentHitsIf 4 (some .int) [(0, 9, 12, 13)], Cond.methodLink RL 44 yX2_leastRecentHitsIf, Cond.instanceMethod yX2_leastRecentHitsIf, Cond.selects RX2 yX2_leastRecentHitsIf yX2_leastRecentHitsIf, Cond.code yX2_leastRecentHitsIf cX2_leastRecentHitsIf 5 (some .int), Cond.methodLink RX2 130 yX1_empty, Cond.methodLink RX2 133 yX1_takeOut]
def wsL_law0_r23 : List Cond := [Cond.methodLink RL 150 yX3_leastRecentHitsIf, Cond.instanceMethod yX3_leastRecentHitsIf, Cond.selects RX3 yX3_leastRecentHitsIf yX3_leastRecentHitsIf, Cond.code yX3_leastRecentHitsIf cX3_leastRecentHitsIf 8 (some .int)]
def wsL_law0 : List Cond := (wsL_law0_r1 ++ (wsL_law0_r2 ++ (wsL_law0_r3 ++ (wsL_law0_r4 ++ (wsL_law0_r5 ++ (wsL_law0_r6 ++ (wsL_law0_r7 ++ (wsL_law0_r8 ++ (wsL_law0_r9 ++ (wsL_law0_r10 ++ (wsL_law0_r11 ++ (wsL_law0_r12 ++ (wsL_law0_r13 ++ (wsL_law0_r14 ++ (wsL_law0_r15 ++ (wsL_law0_r16 ++ (wsL_law0_r17 ++ (wsL_law0_r18 ++ (wsL_law0_r19 ++ (wsL_law0_r20 ++ (wsL_law0_r21 ++ (wsL_law0_r22 ++ wsL_law0_r23)))))))))))))))))))))) ++ wsX20 ++ wsX30 ++ wsX00 ++ wsX10 ++ ([] : List Cond)
def wsL_law : List Cond := wsL_law0 ++ (vx_atS RX2 64 "java/lang/IllegalArgumentException" ["java/lang/RuntimeException", "java/lang/Exception"]).filter goodWord ++ (vx_atS RX2 150 "java/lang/IndexOutOfBoundsException" ["java/lang/RuntimeException", "java/lang/Exception"]).filter goodWord
end
section
set_option maxRecDepth 20000 in
theorem ggX0_init_X1_init : GoodIn wsX0_init wsX1_init := goodIn_r _ [14, 15, 2, 3, 16, 17, 18, 19] (by decide +kernel) (by decide +kernel)
set_option maxRecDepth 20000 in
theorem gX0_init_X1_init_n11 : GoodIn wsX0_init (wsX1_init) := ggX0_init_X1_init
theorem dX0_init_0 : decode cX0_init 0 = .ok (.aload_n 0, 1) := by decide +kernel
theorem dX0_init_1 : decode cX0_init 1 = .ok (.invokespecial 3, 3) := by decide +kernel
theorem dX0_init_4 : decode cX0_init 4 = .ok (.aload_n 0, 1) := by decide +kernel
theorem dX0_init_5 : decode cX0_init 5 = .ok (.new 9, 3) := by decide +kernel
theorem dX0_init_8 : decode cX0_init 8 = .ok (.dup, 1) := by decide +kernel
theorem dX0_init_9 : decode cX0_init 9 = .ok (.invokespecial 11, 3) := by decide +kernel
theorem dX0_init_12 : decode cX0_init 12 = .ok (.putfield 12, 3) := by decide +kernel
theorem dX0_init_15 : decode cX0_init 15 = .ok (.aload_n 0, 1) := by decide +kernel
theorem dX0_init_16 : decode cX0_init 16 = .ok (.new 9, 3) := by decide +kernel
theorem dX0_init_19 : decode cX0_init 19 = .ok (.dup, 1) := by decide +kernel
theorem dX0_init_20 : decode cX0_init 20 = .ok (.invokespecial 11, 3) := by decide +kernel
theorem dX0_init_23 : decode cX0_init 23 = .ok (.putfield 18, 3) := by decide +kernel
theorem dX0_init_26 : decode cX0_init 26 = .ok (.aload_n 0, 1) := by decide +kernel
theorem dX0_init_27 : decode cX0_init 27 = .ok (.new 9, 3) := by decide +kernel
theorem dX0_init_30 : decode cX0_init 30 = .ok (.dup, 1) := by decide +kernel
theorem dX0_init_31 : decode cX0_init 31 = .ok (.invokespecial 11, 3) := by decide +kernel
theorem dX0_init_34 : decode cX0_init 34 = .ok (.putfield 21, 3) := by decide +kernel
theorem dX0_init_37 : decode cX0_init 37 = .ok (.aload_n 0, 1) := by decide +kernel
theorem dX0_init_38 : decode cX0_init 38 = .ok (.new 9, 3) := by decide +kernel
theorem dX0_init_41 : decode cX0_init 41 = .ok (.dup, 1) := by decide +kernel
theorem dX0_init_42 : decode cX0_init 42 = .ok (.invokespecial 11, 3) := by decide +kernel
theorem dX0_init_45 : decode cX0_init 45 = .ok (.putfield 24, 3) := by decide +kernel
theorem dX0_init_48 : decode cX0_init 48 = .ok (.aload_n 0, 1) := by decide +kernel
theorem dX0_init_49 : decode cX0_init 49 = .ok (.bipush 8, 2) := by decide +kernel
theorem dX0_init_51 : decode cX0_init 51 = .ok (.putfield 27, 3) := by decide +kernel
theorem dX0_init_54 : decode cX0_init 54 = .ok (.aload_n 0, 1) := by decide +kernel
theorem dX0_init_55 : decode cX0_init 55 = .ok (.iconst (-1), 1) := by decide +kernel
theorem dX0_init_56 : decode cX0_init 56 = .ok (.putfield 31, 3) := by decide +kernel
theorem dX0_init_59 : decode cX0_init 59 = .ok (.return_, 1) := by decide +kernel
set_option maxRecDepth 20000 in
theorem ggX0_startAnew_X0_forgetAll : GoodIn wsX0_startAnew wsX0_forgetAll := goodIn_r _ [10, 11, 12, 13, 14, 15, 16, 17, 18, 9, 19, 20, 21, 22, 23, 24, 25, 26, 27, 28, 29, 30, 31, 32, 33, 34, 35, 36, 37, 38, 39, 40, 41] (by decide +kernel) (by decide +kernel)
set_option maxRecDepth 20000 in
theorem gX0_startAnew_X0_forgetAll : GoodIn wsX0_startAnew (wsV RX0 34 RX0 yX0_forgetAll wsX0_forgetAll) := goodIn_app (goodIn_of _ (by decide +kernel)) ggX0_startAnew_X0_forgetAll
theorem dX0_startAnew_0 : decode cX0_startAnew 0 = .ok (.aload_n 0, 1) := by decide +kernel
theorem dX0_startAnew_1 : decode cX0_startAnew 1 = .ok (.invokevirtual 34, 3) := by decide +kernel
theorem dX0_startAnew_4 : decode cX0_startAnew 4 = .ok (.pop, 1) := by decide +kernel
theorem dX0_startAnew_5 : decode cX0_startAnew 5 = .ok (.aload_n 0, 1) := by decide +kernel
theorem dX0_startAnew_6 : decode cX0_startAnew 6 = .ok (.iload_n 1, 1) := by decide +kernel
theorem dX0_startAnew_7 : decode cX0_startAnew 7 = .ok (.putfield 27, 3) := by decide +kernel
theorem dX0_startAnew_10 : decode cX0_startAnew 10 = .ok (.aload_n 0, 1) := by decide +kernel
theorem dX0_startAnew_11 : decode cX0_startAnew 11 = .ok (.iload_n 2, 1) := by decide +kernel
theorem dX0_startAnew_12 : decode cX0_startAnew 12 = .ok (.putfield 38, 3) := by decide +kernel
theorem dX0_startAnew_15 : decode cX0_startAnew 15 = .ok (.aload_n 0, 1) := by decide +kernel
theorem dX0_startAnew_16 : decode cX0_startAnew 16 = .ok (.iconst 0, 1) := by decide +kernel
theorem dX0_startAnew_17 : decode cX0_startAnew 17 = .ok (.putfield 41, 3) := by decide +kernel
theorem dX0_startAnew_20 : decode cX0_startAnew 20 = .ok (.aload_n 0, 1) := by decide +kernel
theorem dX0_startAnew_21 : decode cX0_startAnew 21 = .ok (.iconst (-1), 1) := by decide +kernel
theorem dX0_startAnew_22 : decode cX0_startAnew 22 = .ok (.putfield 31, 3) := by decide +kernel
theorem dX0_startAnew_25 : decode cX0_startAnew 25 = .ok (.aload_n 0, 1) := by decide +kernel
theorem dX0_startAnew_26 : decode cX0_startAnew 26 = .ok (.iconst 0, 1) := by decide +kernel
theorem dX0_startAnew_27 : decode cX0_startAnew 27 = .ok (.putfield 44, 3) := by decide +kernel
theorem dX0_startAnew_30 : decode cX0_startAnew 30 = .ok (.return_, 1) := by decide +kernel
set_option maxRecDepth 20000 in
theorem ggX0_pages_X1_length : GoodIn wsX0_pages wsX1_length := goodIn_r _ [7, 8, 19, 20] (by decide +kernel) (by decide +kernel)
set_option maxRecDepth 20000 in
theorem gX0_pages_X1_length : GoodIn wsX0_pages (wsV RX0 47 RX1 yX1_length wsX1_length) := goodIn_app (goodIn_of _ (by decide +kernel)) ggX0_pages_X1_length
theorem dX0_pages_0 : decode cX0_pages 0 = .ok (.aload_n 0, 1) := by decide +kernel
theorem dX0_pages_1 : decode cX0_pages 1 = .ok (.getfield 12, 3) := by decide +kernel
theorem dX0_pages_4 : decode cX0_pages 4 = .ok (.invokevirtual 47, 3) := by decide +kernel
theorem dX0_pages_7 : decode cX0_pages 7 = .ok (.aload_n 0, 1) := by decide +kernel
theorem dX0_pages_8 : decode cX0_pages 8 = .ok (.getfield 18, 3) := by decide +kernel
theorem dX0_pages_11 : decode cX0_pages 11 = .ok (.invokevirtual 47, 3) := by decide +kernel
theorem dX0_pages_14 : decode cX0_pages 14 = .ok (.iadd, 1) := by decide +kernel
theorem dX0_pages_15 : decode cX0_pages 15 = .ok (.ireturn, 1) := by decide +kernel
set_option maxRecDepth 20000 in
theorem ggX0_listWith_X1_holds : GoodIn wsX0_listWith wsX1_holds := goodIn_r _ [9, 10, 11, 12, 8, 13, 14, 15, 26, 27] (by decide +kernel) (by decide +kernel)
set_option maxRecDepth 20000 in
theorem gX0_listWith_X1_holds : GoodIn wsX0_listWith (wsV RX0 50 RX1 yX1_holds wsX1_holds) := goodIn_app (goodIn_of _ (by decide +kernel)) ggX0_listWith_X1_holds
theorem dX0_listWith_0 : decode cX0_listWith 0 = .ok (.aload_n 0, 1) := by decide +kernel
theorem dX0_listWith_1 : decode cX0_listWith 1 = .ok (.getfield 12, 3) := by decide +kernel
theorem dX0_listWith_4 : decode cX0_listWith 4 = .ok (.iload_n 1, 1) := by decide +kernel
theorem dX0_listWith_5 : decode cX0_listWith 5 = .ok (.invokevirtual 50, 3) := by decide +kernel
theorem dX0_listWith_8 : decode cX0_listWith 8 = .ok (.ifCond .eq 5, 3) := by decide +kernel
theorem dX0_listWith_11 : decode cX0_listWith 11 = .ok (.iconst 1, 1) := by decide +kernel
theorem dX0_listWith_12 : decode cX0_listWith 12 = .ok (.ireturn, 1) := by decide +kernel
theorem dX0_listWith_13 : decode cX0_listWith 13 = .ok (.aload_n 0, 1) := by decide +kernel
theorem dX0_listWith_14 : decode cX0_listWith 14 = .ok (.getfield 18, 3) := by decide +kernel
theorem dX0_listWith_17 : decode cX0_listWith 17 = .ok (.iload_n 1, 1) := by decide +kernel
theorem dX0_listWith_18 : decode cX0_listWith 18 = .ok (.invokevirtual 50, 3) := by decide +kernel
theorem dX0_listWith_21 : decode cX0_listWith 21 = .ok (.ifCond .eq 5, 3) := by decide +kernel
theorem dX0_listWith_24 : decode cX0_listWith 24 = .ok (.iconst 2, 1) := by decide +kernel
theorem dX0_listWith_25 : decode cX0_listWith 25 = .ok (.ireturn, 1) := by decide +kernel
theorem dX0_listWith_26 : decode cX0_listWith 26 = .ok (.aload_n 0, 1) := by decide +kernel
theorem dX0_listWith_27 : decode cX0_listWith 27 = .ok (.getfield 21, 3) := by decide +kernel
theorem dX0_listWith_30 : decode cX0_listWith 30 = .ok (.iload_n 1, 1) := by decide +kernel
theorem dX0_listWith_31 : decode cX0_listWith 31 = .ok (.invokevirtual 50, 3) := by decide +kernel
theorem dX0_listWith_34 : decode cX0_listWith 34 = .ok (.ifCond .eq 5, 3) := by decide +kernel
theorem dX0_listWith_37 : decode cX0_listWith 37 = .ok (.iconst 3, 1) := by decide +kernel
theorem dX0_listWith_38 : decode cX0_listWith 38 = .ok (.ireturn, 1) := by decide +kernel
theorem dX0_listWith_39 : decode cX0_listWith 39 = .ok (.aload_n 0, 1) := by decide +kernel
theorem dX0_listWith_40 : decode cX0_listWith 40 = .ok (.getfield 24, 3) := by decide +kernel
theorem dX0_listWith_43 : decode cX0_listWith 43 = .ok (.iload_n 1, 1) := by decide +kernel
theorem dX0_listWith_44 : decode cX0_listWith 44 = .ok (.invokevirtual 50, 3) := by decide +kernel
theorem dX0_listWith_47 : decode cX0_listWith 47 = .ok (.ifCond .eq 7, 3) := by decide +kernel
theorem dX0_listWith_50 : decode cX0_listWith 50 = .ok (.iconst 4, 1) := by decide +kernel
theorem dX0_listWith_51 : decode cX0_listWith 51 = .ok (.goto 4, 3) := by decide +kernel
theorem dX0_listWith_54 : decode cX0_listWith 54 = .ok (.iconst 0, 1) := by decide +kernel
theorem dX0_listWith_55 : decode cX0_listWith 55 = .ok (.ireturn, 1) := by decide +kernel
set_option maxRecDepth 20000 in
theorem ggX0_forget_X0_listWith : GoodIn wsX0_forget wsX0_listWith := goodIn_r _ [5, 6, 7, 8, 9, 10, 11, 12, 13, 14, 15, 16, 17, 18, 19, 20, 33, 34, 35, 36, 37, 38, 39, 40, 41, 42, 43, 44] (by decide +kernel) (by decide +kernel)
set_option maxRecDepth 20000 in
theorem gX0_forget_X0_listWith : GoodIn wsX0_forget (wsV RX0 54 RX0 yX0_listWith wsX0_listWith) := goodIn_app (goodIn_of _ (by decide +kernel)) ggX0_forget_X0_listWith
set_option maxRecDepth 20000 in
theorem ggX0_forget_X0_takeFrom : GoodIn wsX0_forget wsX0_takeFrom := goodIn_r _ [24, 6, 7, 8, 9, 25, 26, 27, 13, 28, 15, 16, 17, 18, 19, 20, 29, 30, 31, 32, 33, 34, 35, 36, 37, 38, 39, 40, 41, 42, 43, 44] (by decide +kernel) (by decide +kernel)
set_option maxRecDepth 20000 in
theorem gX0_forget_X0_takeFrom : GoodIn wsX0_forget (wsV RX0 58 RX0 yX0_takeFrom wsX0_takeFrom) := goodIn_app (goodIn_of _ (by decide +kernel)) ggX0_forget_X0_takeFrom
theorem dX0_forget_0 : decode cX0_forget 0 = .ok (.aload_n 0, 1) := by decide +kernel
theorem dX0_forget_1 : decode cX0_forget 1 = .ok (.iload_n 1, 1) := by decide +kernel
theorem dX0_forget_2 : decode cX0_forget 2 = .ok (.invokevirtual 54, 3) := by decide +kernel
theorem dX0_forget_5 : decode cX0_forget 5 = .ok (.istore_n 2, 1) := by decide +kernel
theorem dX0_forget_6 : decode cX0_forget 6 = .ok (.aload_n 0, 1) := by decide +kernel
theorem dX0_forget_7 : decode cX0_forget 7 = .ok (.iload_n 2, 1) := by decide +kernel
theorem dX0_forget_8 : decode cX0_forget 8 = .ok (.iload_n 1, 1) := by decide +kernel
theorem dX0_forget_9 : decode cX0_forget 9 = .ok (.invokevirtual 58, 3) := by decide +kernel
theorem dX0_forget_12 : decode cX0_forget 12 = .ok (.iload_n 2, 1) := by decide +kernel
theorem dX0_forget_13 : decode cX0_forget 13 = .ok (.ireturn, 1) := by decide +kernel
set_option maxRecDepth 20000 in
theorem ggX0_forgetAll_X0_pages : GoodIn wsX0_forgetAll wsX0_pages := goodIn_r _ [10, 1, 2, 11, 12, 13, 14, 15, 16, 21, 22, 23, 24, 25, 26, 27, 28, 29, 30, 31, 32] (by decide +kernel) (by decide +kernel)
set_option maxRecDepth 20000 in
theorem gX0_forgetAll_X0_pages : GoodIn wsX0_forgetAll (wsV RX0 62 RX0 yX0_pages wsX0_pages) := goodIn_app (goodIn_of _ (by decide +kernel)) ggX0_forgetAll_X0_pages
set_option maxRecDepth 20000 in
theorem ggX0_forgetAll_X1_empty : GoodIn wsX0_forgetAll wsX1_empty := goodIn_r _ [20, 16, 31, 32] (by decide +kernel) (by decide +kernel)
set_option maxRecDepth 20000 in
theorem gX0_forgetAll_X1_empty : GoodIn wsX0_forgetAll (wsV RX0 65 RX1 yX1_empty wsX1_empty) := goodIn_app (goodIn_of _ (by decide +kernel)) ggX0_forgetAll_X1_empty
theorem dX0_forgetAll_0 : decode cX0_forgetAll 0 = .ok (.aload_n 0, 1) := by decide +kernel
theorem dX0_forgetAll_1 : decode cX0_forgetAll 1 = .ok (.invokevirtual 62, 3) := by decide +kernel
theorem dX0_forgetAll_4 : decode cX0_forgetAll 4 = .ok (.istore_n 1, 1) := by decide +kernel
theorem dX0_forgetAll_5 : decode cX0_forgetAll 5 = .ok (.aload_n 0, 1) := by decide +kernel
theorem dX0_forgetAll_6 : decode cX0_forgetAll 6 = .ok (.getfield 12, 3) := by decide +kernel
theorem dX0_forgetAll_9 : decode cX0_forgetAll 9 = .ok (.invokevirtual 65, 3) := by decide +kernel
theorem dX0_forgetAll_12 : decode cX0_forgetAll 12 = .ok (.aload_n 0, 1) := by decide +kernel
theorem dX0_forgetAll_13 : decode cX0_forgetAll 13 = .ok (.getfield 18, 3) := by decide +kernel
theorem dX0_forgetAll_16 : decode cX0_forgetAll 16 = .ok (.invokevirtual 65, 3) := by decide +kernel
theorem dX0_forgetAll_19 : decode cX0_forgetAll 19 = .ok (.aload_n 0, 1) := by decide +kernel
theorem dX0_forgetAll_20 : decode cX0_forgetAll 20 = .ok (.getfield 21, 3) := by decide +kernel
theorem dX0_forgetAll_23 : decode cX0_forgetAll 23 = .ok (.invokevirtual 65, 3) := by decide +kernel
theorem dX0_forgetAll_26 : decode cX0_forgetAll 26 = .ok (.aload_n 0, 1) := by decide +kernel
theorem dX0_forgetAll_27 : decode cX0_forgetAll 27 = .ok (.getfield 24, 3) := by decide +kernel
theorem dX0_forgetAll_30 : decode cX0_forgetAll 30 = .ok (.invokevirtual 65, 3) := by decide +kernel
theorem dX0_forgetAll_33 : decode cX0_forgetAll 33 = .ok (.aload_n 0, 1) := by decide +kernel
theorem dX0_forgetAll_34 : decode cX0_forgetAll 34 = .ok (.iconst 0, 1) := by decide +kernel
theorem dX0_forgetAll_35 : decode cX0_forgetAll 35 = .ok (.putfield 68, 3) := by decide +kernel
theorem dX0_forgetAll_38 : decode cX0_forgetAll 38 = .ok (.iload_n 1, 1) := by decide +kernel
theorem dX0_forgetAll_39 : decode cX0_forgetAll 39 = .ok (.ireturn, 1) := by decide +kernel
set_option maxRecDepth 20000 in
theorem ggX0_changeCapacity_X0_pages : GoodIn wsX0_changeCapacity wsX0_pages := goodIn_r _ [16, 17, 18, 19, 20, 21, 22, 23, 24, 59, 60, 61, 62, 63, 64, 65, 66, 67, 68, 69, 70] (by decide +kernel) (by decide +kernel)
set_option maxRecDepth 20000 in
theorem gX0_changeCapacity_X0_pages : GoodIn wsX0_changeCapacity (wsV RX0 62 RX0 yX0_pages wsX0_pages) := goodIn_app (goodIn_of _ (by decide +kernel)) ggX0_changeCapacity_X0_pages
set_option maxRecDepth 20000 in
theorem ggX0_changeCapacity_X0_evict : GoodIn wsX0_changeCapacity wsX0_evict := goodIn_r _ [28, 10, 17, 11, 18, 29, 30, 31, 32, 15, 33, 2, 19, 20, 21, 22, 23, 24, 34, 35, 36, 37, 38, 39, 40, 41, 42, 43, 44, 45, 46, 47, 48, 49, 50, 59, 60, 61, 62, 63, 64, 65, 66, 67, 68, 69, 70] (by decide +kernel) (by decide +kernel)
set_option maxRecDepth 20000 in
theorem gX0_changeCapacity_X0_evict : GoodIn wsX0_changeCapacity (wsV RX0 80 RX0 yX0_evict wsX0_evict) := goodIn_app (goodIn_of _ (by decide +kernel)) ggX0_changeCapacity_X0_evict
set_option maxRecDepth 20000 in
theorem ggX0_changeCapacity_X0_recentAndGhosts : GoodIn wsX0_changeCapacity wsX0_recentAndGhosts := goodIn_r _ [54, 17, 10, 19, 20, 21, 22, 23, 24, 59, 60, 61, 62, 63, 64, 65, 66, 67, 68, 69, 70] (by decide +kernel) (by decide +kernel)
set_option maxRecDepth 20000 in
theorem gX0_changeCapacity_X0_recentAndGhosts : GoodIn wsX0_changeCapacity (wsV RX0 84 RX0 yX0_recentAndGhosts wsX0_recentAndGhosts) := goodIn_app (goodIn_of _ (by decide +kernel)) ggX0_changeCapacity_X0_recentAndGhosts
set_option maxRecDepth 20000 in
theorem ggX0_changeCapacity_X1_takeOldest : GoodIn wsX0_changeCapacity wsX1_takeOldest := goodIn_r _ [37, 38, 39, 40, 22, 41, 24, 42, 43, 44, 45, 46, 69, 70] (by decide +kernel) (by decide +kernel)
set_option maxRecDepth 20000 in
theorem gX0_changeCapacity_X1_takeOldest : GoodIn wsX0_changeCapacity (wsV RX0 87 RX1 yX1_takeOldest wsX1_takeOldest) := goodIn_app (goodIn_of _ (by decide +kernel)) ggX0_changeCapacity_X1_takeOldest
set_option maxRecDepth 20000 in
theorem ggX0_changeCapacity_X0_keysInAll : GoodIn wsX0_changeCapacity wsX0_keysInAll := goodIn_r _ [58, 10, 11, 12, 13, 14, 15, 16, 17, 18, 19, 20, 21, 22, 23, 24, 59, 60, 61, 62, 63, 64, 65, 66, 67, 68, 69, 70] (by decide +kernel) (by decide +kernel)
set_option maxRecDepth 20000 in
theorem gX0_changeCapacity_X0_keysInAll : GoodIn wsX0_changeCapacity (wsV RX0 90 RX0 yX0_keysInAll wsX0_keysInAll) := goodIn_app (goodIn_of _ (by decide +kernel)) ggX0_changeCapacity_X0_keysInAll
theorem dX0_changeCapacity_0 : decode cX0_changeCapacity 0 = .ok (.aload_n 0, 1) := by decide +kernel
theorem dX0_changeCapacity_1 : decode cX0_changeCapacity 1 = .ok (.iload_n 1, 1) := by decide +kernel
theorem dX0_changeCapacity_2 : decode cX0_changeCapacity 2 = .ok (.putfield 27, 3) := by decide +kernel
theorem dX0_changeCapacity_5 : decode cX0_changeCapacity 5 = .ok (.aload_n 0, 1) := by decide +kernel
theorem dX0_changeCapacity_6 : decode cX0_changeCapacity 6 = .ok (.aload_n 0, 1) := by decide +kernel
theorem dX0_changeCapacity_7 : decode cX0_changeCapacity 7 = .ok (.getfield 68, 3) := by decide +kernel
theorem dX0_changeCapacity_10 : decode cX0_changeCapacity 10 = .ok (.aload_n 0, 1) := by decide +kernel
theorem dX0_changeCapacity_11 : decode cX0_changeCapacity 11 = .ok (.getfield 27, 3) := by decide +kernel
theorem dX0_changeCapacity_14 : decode cX0_changeCapacity 14 = .ok (.invokestatic 71, 3) := by decide +kernel
theorem dX0_changeCapacity_17 : decode cX0_changeCapacity 17 = .ok (.putfield 68, 3) := by decide +kernel
theorem dX0_changeCapacity_20 : decode cX0_changeCapacity 20 = .ok (.iconst 0, 1) := by decide +kernel
theorem dX0_changeCapacity_21 : decode cX0_changeCapacity 21 = .ok (.aload_n 0, 1) := by decide +kernel
theorem dX0_changeCapacity_22 : decode cX0_changeCapacity 22 = .ok (.invokevirtual 62, 3) := by decide +kernel
theorem dX0_changeCapacity_25 : decode cX0_changeCapacity 25 = .ok (.aload_n 0, 1) := by decide +kernel
theorem dX0_changeCapacity_26 : decode cX0_changeCapacity 26 = .ok (.getfield 27, 3) := by decide +kernel
theorem dX0_changeCapacity_29 : decode cX0_changeCapacity 29 = .ok (.isub, 1) := by decide +kernel
theorem dX0_changeCapacity_30 : decode cX0_changeCapacity 30 = .ok (.invokestatic 77, 3) := by decide +kernel
theorem dX0_changeCapacity_33 : decode cX0_changeCapacity 33 = .ok (.istore_n 2, 1) := by decide +kernel
theorem dX0_changeCapacity_34 : decode cX0_changeCapacity 34 = .ok (.iconst 0, 1) := by decide +kernel
theorem dX0_changeCapacity_35 : decode cX0_changeCapacity 35 = .ok (.istore_n 3, 1) := by decide +kernel
theorem dX0_changeCapacity_36 : decode cX0_changeCapacity 36 = .ok (.iload_n 3, 1) := by decide +kernel
theorem dX0_changeCapacity_37 : decode cX0_changeCapacity 37 = .ok (.iload_n 2, 1) := by decide +kernel
theorem dX0_changeCapacity_38 : decode cX0_changeCapacity 38 = .ok (.if_icmp .ge 14, 3) := by decide +kernel
theorem dX0_changeCapacity_41 : decode cX0_changeCapacity 41 = .ok (.aload_n 0, 1) := by decide +kernel
theorem dX0_changeCapacity_42 : decode cX0_changeCapacity 42 = .ok (.iconst 0, 1) := by decide +kernel
theorem dX0_changeCapacity_43 : decode cX0_changeCapacity 43 = .ok (.invokevirtual 80, 3) := by decide +kernel
theorem dX0_changeCapacity_46 : decode cX0_changeCapacity 46 = .ok (.iinc 3 1, 3) := by decide +kernel
theorem dX0_changeCapacity_49 : decode cX0_changeCapacity 49 = .ok (.goto (-13), 3) := by decide +kernel
theorem dX0_changeCapacity_52 : decode cX0_changeCapacity 52 = .ok (.aload_n 0, 1) := by decide +kernel
theorem dX0_changeCapacity_53 : decode cX0_changeCapacity 53 = .ok (.invokevirtual 84, 3) := by decide +kernel
theorem dX0_changeCapacity_56 : decode cX0_changeCapacity 56 = .ok (.aload_n 0, 1) := by decide +kernel
theorem dX0_changeCapacity_57 : decode cX0_changeCapacity 57 = .ok (.getfield 27, 3) := by decide +kernel
theorem dX0_changeCapacity_60 : decode cX0_changeCapacity 60 = .ok (.isub, 1) := by decide +kernel
theorem dX0_changeCapacity_61 : decode cX0_changeCapacity 61 = .ok (.istore_n 3, 1) := by decide +kernel
theorem dX0_changeCapacity_62 : decode cX0_changeCapacity 62 = .ok (.iconst 0, 1) := by decide +kernel
theorem dX0_changeCapacity_63 : decode cX0_changeCapacity 63 = .ok (.istore 4, 2) := by decide +kernel
theorem dX0_changeCapacity_65 : decode cX0_changeCapacity 65 = .ok (.iload 4, 2) := by decide +kernel
theorem dX0_changeCapacity_67 : decode cX0_changeCapacity 67 = .ok (.iload_n 3, 1) := by decide +kernel
theorem dX0_changeCapacity_68 : decode cX0_changeCapacity 68 = .ok (.if_icmp .ge 17, 3) := by decide +kernel
theorem dX0_changeCapacity_71 : decode cX0_changeCapacity 71 = .ok (.aload_n 0, 1) := by decide +kernel
theorem dX0_changeCapacity_72 : decode cX0_changeCapacity 72 = .ok (.getfield 21, 3) := by decide +kernel
theorem dX0_changeCapacity_75 : decode cX0_changeCapacity 75 = .ok (.invokevirtual 87, 3) := by decide +kernel
theorem dX0_changeCapacity_78 : decode cX0_changeCapacity 78 = .ok (.pop, 1) := by decide +kernel
theorem dX0_changeCapacity_79 : decode cX0_changeCapacity 79 = .ok (.iinc 4 1, 3) := by decide +kernel
theorem dX0_changeCapacity_82 : decode cX0_changeCapacity 82 = .ok (.goto (-17), 3) := by decide +kernel
theorem dX0_changeCapacity_85 : decode cX0_changeCapacity 85 = .ok (.aload_n 0, 1) := by decide +kernel
theorem dX0_changeCapacity_86 : decode cX0_changeCapacity 86 = .ok (.invokevirtual 90, 3) := by decide +kernel
theorem dX0_changeCapacity_89 : decode cX0_changeCapacity 89 = .ok (.iconst 2, 1) := by decide +kernel
theorem dX0_changeCapacity_90 : decode cX0_changeCapacity 90 = .ok (.aload_n 0, 1) := by decide +kernel
theorem dX0_changeCapacity_91 : decode cX0_changeCapacity 91 = .ok (.getfield 27, 3) := by decide +kernel
theorem dX0_changeCapacity_94 : decode cX0_changeCapacity 94 = .ok (.imul, 1) := by decide +kernel
theorem dX0_changeCapacity_95 : decode cX0_changeCapacity 95 = .ok (.isub, 1) := by decide +kernel
theorem dX0_changeCapacity_96 : decode cX0_changeCapacity 96 = .ok (.istore 4, 2) := by decide +kernel
theorem dX0_changeCapacity_98 : decode cX0_changeCapacity 98 = .ok (.iconst 0, 1) := by decide +kernel
theorem dX0_changeCapacity_99 : decode cX0_changeCapacity 99 = .ok (.istore 5, 2) := by decide +kernel
theorem dX0_changeCapacity_101 : decode cX0_changeCapacity 101 = .ok (.iload 5, 2) := by decide +kernel
theorem dX0_changeCapacity_103 : decode cX0_changeCapacity 103 = .ok (.iload 4, 2) := by decide +kernel
theorem dX0_changeCapacity_105 : decode cX0_changeCapacity 105 = .ok (.if_icmp .ge 17, 3) := by decide +kernel
theorem dX0_changeCapacity_108 : decode cX0_changeCapacity 108 = .ok (.aload_n 0, 1) := by decide +kernel
theorem dX0_changeCapacity_109 : decode cX0_changeCapacity 109 = .ok (.getfield 24, 3) := by decide +kernel
theorem dX0_changeCapacity_112 : decode cX0_changeCapacity 112 = .ok (.invokevirtual 87, 3) := by decide +kernel
theorem dX0_changeCapacity_115 : decode cX0_changeCapacity 115 = .ok (.pop, 1) := by decide +kernel
theorem dX0_changeCapacity_116 : decode cX0_changeCapacity 116 = .ok (.iinc 5 1, 3) := by decide +kernel
theorem dX0_changeCapacity_119 : decode cX0_changeCapacity 119 = .ok (.goto (-18), 3) := by decide +kernel
theorem dX0_changeCapacity_122 : decode cX0_changeCapacity 122 = .ok (.iload_n 2, 1) := by decide +kernel
theorem dX0_changeCapacity_123 : decode cX0_changeCapacity 123 = .ok (.ireturn, 1) := by decide +kernel
set_option maxRecDepth 20000 in
theorem ggX0_serve_X0_lengthenRun : GoodIn wsX0_serve wsX0_lengthenRun := goodIn_r _ [8, 9, 2, 112, 113, 114, 115, 116, 117, 118, 119, 120, 121] (by decide +kernel) (by decide +kernel)
set_option maxRecDepth 20000 in
theorem gX0_serve_X0_lengthenRun : GoodIn wsX0_serve (wsV RX0 93 RX0 yX0_lengthenRun wsX0_lengthenRun) := goodIn_app (goodIn_of _ (by decide +kernel)) ggX0_serve_X0_lengthenRun
set_option maxRecDepth 20000 in
theorem ggX0_serve_X0_listWith : GoodIn wsX0_serve wsX0_listWith := goodIn_r _ [13, 14, 3, 15, 16, 17, 18, 19, 20, 21, 22, 23, 24, 25, 26, 27, 112, 113, 114, 115, 116, 117, 118, 119, 120, 121, 122, 123] (by decide +kernel) (by decide +kernel)
set_option maxRecDepth 20000 in
theorem gX0_serve_X0_listWith : GoodIn wsX0_serve (wsV RX0 54 RX0 yX0_listWith wsX0_listWith) := goodIn_app (goodIn_of _ (by decide +kernel)) ggX0_serve_X0_listWith
set_option maxRecDepth 20000 in
theorem ggX0_serve_X2_isPage : GoodIn wsX0_serve wsX2_isPage := goodIn_r _ [30] (by decide +kernel) (by decide +kernel)
set_option maxRecDepth 20000 in
theorem gX0_serve_X2_isPage_n97 : GoodIn wsX0_serve (wsX2_isPage) := ggX0_serve_X2_isPage
set_option maxRecDepth 20000 in
theorem ggX0_serve_X0_admit : GoodIn wsX0_serve wsX0_admit := goodIn_r _ [34, 14, 35, 36, 15, 16, 37, 38, 39, 7, 40, 41, 42, 43, 44, 45, 46, 47, 20, 48, 26, 49, 50, 51, 52, 53, 54, 55, 56, 27, 57, 58, 59, 60, 61, 62, 63, 64, 65, 66, 67, 68, 3, 69, 70, 71, 72, 73, 74, 75, 76, 77, 78, 79, 80, 81, 82, 83, 84, 85, 86, 87, 88, 89, 112, 113, 114, 115, 116, 117, 118, 119, 120, 121, 122, 123] (by decide +kernel) (by decide +kernel)
set_option maxRecDepth 20000 in
theorem gX0_serve_X0_admit : GoodIn wsX0_serve (wsV RX0 100 RX0 yX0_admit wsX0_admit) := goodIn_app (goodIn_of _ (by decide +kernel)) ggX0_serve_X0_admit
set_option maxRecDepth 20000 in
theorem ggX0_serve_X0_adaptTarget : GoodIn wsX0_serve wsX0_adaptTarget := goodIn_r _ [93, 15, 16, 36, 85, 94, 95, 96, 97, 98, 99, 100, 45, 46, 47, 20, 48, 26, 101, 102, 7, 103, 112, 113, 114, 115, 116, 117, 118, 119, 120, 121, 122, 123] (by decide +kernel) (by decide +kernel)
set_option maxRecDepth 20000 in
theorem gX0_serve_X0_adaptTarget : GoodIn wsX0_serve (wsV RX0 103 RX0 yX0_adaptTarget wsX0_adaptTarget) := goodIn_app (goodIn_of _ (by decide +kernel)) ggX0_serve_X0_adaptTarget
set_option maxRecDepth 20000 in
theorem ggX0_serve_X0_makeRoom : GoodIn wsX0_serve wsX0_makeRoom := goodIn_r _ [72, 73, 74, 75, 7, 76, 36, 65, 66, 67, 68, 14, 3, 45, 46, 47, 20, 48, 26, 77, 78, 79, 80, 15, 16, 35, 81, 82, 83, 84, 85, 49, 50, 51, 52, 53, 54, 55, 56, 27, 57, 58, 59, 60, 86, 87, 88, 89, 112, 113, 114, 115, 116, 117, 118, 119, 120, 121, 122, 123] (by decide +kernel) (by decide +kernel)
set_option maxRecDepth 20000 in
theorem gX0_serve_X0_makeRoom : GoodIn wsX0_serve (wsV RX0 106 RX0 yX0_makeRoom wsX0_makeRoom) := goodIn_app (goodIn_of _ (by decide +kernel)) ggX0_serve_X0_makeRoom
set_option maxRecDepth 20000 in
theorem ggX0_serve_X0_takeFrom : GoodIn wsX0_serve wsX0_takeFrom := goodIn_r _ [107, 14, 3, 15, 16, 108, 109, 110, 20, 111, 22, 23, 24, 25, 26, 27, 57, 58, 59, 60, 112, 113, 114, 115, 116, 117, 118, 119, 120, 121, 122, 123] (by decide +kernel) (by decide +kernel)
set_option maxRecDepth 20000 in
theorem gX0_serve_X0_takeFrom : GoodIn wsX0_serve (wsV RX0 58 RX0 yX0_takeFrom wsX0_takeFrom) := goodIn_app (goodIn_of _ (by decide +kernel)) ggX0_serve_X0_takeFrom
set_option maxRecDepth 20000 in
theorem ggX0_serve_X1_join : GoodIn wsX0_serve wsX1_join := goodIn_r _ [89, 26, 27, 122, 123] (by decide +kernel) (by decide +kernel)
set_option maxRecDepth 20000 in
theorem gX0_serve_X1_join : GoodIn wsX0_serve (wsV RX0 109 RX1 yX1_join wsX1_join) := goodIn_app (goodIn_of _ (by decide +kernel)) ggX0_serve_X1_join
theorem dX0_serve_0 : decode cX0_serve 0 = .ok (.aload_n 0, 1) := by decide +kernel
theorem dX0_serve_1 : decode cX0_serve 1 = .ok (.iload_n 1, 1) := by decide +kernel
theorem dX0_serve_2 : decode cX0_serve 2 = .ok (.invokevirtual 93, 3) := by decide +kernel
theorem dX0_serve_5 : decode cX0_serve 5 = .ok (.aload_n 0, 1) := by decide +kernel
theorem dX0_serve_6 : decode cX0_serve 6 = .ok (.iload_n 1, 1) := by decide +kernel
theorem dX0_serve_7 : decode cX0_serve 7 = .ok (.invokevirtual 54, 3) := by decide +kernel
theorem dX0_serve_10 : decode cX0_serve 10 = .ok (.istore_n 2, 1) := by decide +kernel
theorem dX0_serve_11 : decode cX0_serve 11 = .ok (.aload_n 0, 1) := by decide +kernel
theorem dX0_serve_12 : decode cX0_serve 12 = .ok (.getfield 38, 3) := by decide +kernel
theorem dX0_serve_15 : decode cX0_serve 15 = .ok (.ifCond .eq 28, 3) := by decide +kernel
theorem dX0_serve_18 : decode cX0_serve 18 = .ok (.aload_n 0, 1) := by decide +kernel
theorem dX0_serve_19 : decode cX0_serve 19 = .ok (.getfield 41, 3) := by decide +kernel
theorem dX0_serve_22 : decode cX0_serve 22 = .ok (.aload_n 0, 1) := by decide +kernel
theorem dX0_serve_23 : decode cX0_serve 23 = .ok (.getfield 38, 3) := by decide +kernel
theorem dX0_serve_26 : decode cX0_serve 26 = .ok (.if_icmp .lt 17, 3) := by decide +kernel
theorem dX0_serve_29 : decode cX0_serve 29 = .ok (.iload_n 2, 1) := by decide +kernel
theorem dX0_serve_30 : decode cX0_serve 30 = .ok (.invokestatic 97, 3) := by decide +kernel
theorem dX0_serve_33 : decode cX0_serve 33 = .ok (.ifCond .eq 7, 3) := by decide +kernel
theorem dX0_serve_36 : decode cX0_serve 36 = .ok (.iload_n 2, 1) := by decide +kernel
theorem dX0_serve_37 : decode cX0_serve 37 = .ok (.goto 5, 3) := by decide +kernel
theorem dX0_serve_40 : decode cX0_serve 40 = .ok (.bipush 6, 2) := by decide +kernel
theorem dX0_serve_42 : decode cX0_serve 42 = .ok (.ireturn, 1) := by decide +kernel
theorem dX0_serve_43 : decode cX0_serve 43 = .ok (.iload_n 2, 1) := by decide +kernel
theorem dX0_serve_44 : decode cX0_serve 44 = .ok (.ifCond .ne 10, 3) := by decide +kernel
theorem dX0_serve_47 : decode cX0_serve 47 = .ok (.aload_n 0, 1) := by decide +kernel
theorem dX0_serve_48 : decode cX0_serve 48 = .ok (.iload_n 1, 1) := by decide +kernel
theorem dX0_serve_49 : decode cX0_serve 49 = .ok (.invokevirtual 100, 3) := by decide +kernel
theorem dX0_serve_52 : decode cX0_serve 52 = .ok (.iconst 5, 1) := by decide +kernel
theorem dX0_serve_53 : decode cX0_serve 53 = .ok (.ireturn, 1) := by decide +kernel
theorem dX0_serve_54 : decode cX0_serve 54 = .ok (.iload_n 2, 1) := by decide +kernel
theorem dX0_serve_55 : decode cX0_serve 55 = .ok (.invokestatic 97, 3) := by decide +kernel
theorem dX0_serve_58 : decode cX0_serve 58 = .ok (.ifCond .ne 22, 3) := by decide +kernel
theorem dX0_serve_61 : decode cX0_serve 61 = .ok (.aload_n 0, 1) := by decide +kernel
theorem dX0_serve_62 : decode cX0_serve 62 = .ok (.iload_n 2, 1) := by decide +kernel
theorem dX0_serve_63 : decode cX0_serve 63 = .ok (.invokevirtual 103, 3) := by decide +kernel
theorem dX0_serve_66 : decode cX0_serve 66 = .ok (.aload_n 0, 1) := by decide +kernel
theorem dX0_serve_67 : decode cX0_serve 67 = .ok (.iload_n 2, 1) := by decide +kernel
theorem dX0_serve_68 : decode cX0_serve 68 = .ok (.iconst 4, 1) := by decide +kernel
theorem dX0_serve_69 : decode cX0_serve 69 = .ok (.if_icmp .ne 7, 3) := by decide +kernel
theorem dX0_serve_72 : decode cX0_serve 72 = .ok (.iconst 1, 1) := by decide +kernel
theorem dX0_serve_73 : decode cX0_serve 73 = .ok (.goto 4, 3) := by decide +kernel
theorem dX0_serve_76 : decode cX0_serve 76 = .ok (.iconst 0, 1) := by decide +kernel
theorem dX0_serve_77 : decode cX0_serve 77 = .ok (.invokevirtual 106, 3) := by decide +kernel
theorem dX0_serve_80 : decode cX0_serve 80 = .ok (.aload_n 0, 1) := by decide +kernel
theorem dX0_serve_81 : decode cX0_serve 81 = .ok (.iload_n 2, 1) := by decide +kernel
theorem dX0_serve_82 : decode cX0_serve 82 = .ok (.iload_n 1, 1) := by decide +kernel
theorem dX0_serve_83 : decode cX0_serve 83 = .ok (.invokevirtual 58, 3) := by decide +kernel
theorem dX0_serve_86 : decode cX0_serve 86 = .ok (.aload_n 0, 1) := by decide +kernel
theorem dX0_serve_87 : decode cX0_serve 87 = .ok (.getfield 18, 3) := by decide +kernel
theorem dX0_serve_90 : decode cX0_serve 90 = .ok (.iload_n 1, 1) := by decide +kernel
theorem dX0_serve_91 : decode cX0_serve 91 = .ok (.invokevirtual 109, 3) := by decide +kernel
theorem dX0_serve_94 : decode cX0_serve 94 = .ok (.iload_n 2, 1) := by decide +kernel
theorem dX0_serve_95 : decode cX0_serve 95 = .ok (.ireturn, 1) := by decide +kernel
set_option maxRecDepth 20000 in
theorem ggX0_nextToLeave_X0_dropsRecentPage : GoodIn wsX0_nextToLeave wsX0_dropsRecentPage := goodIn_r _ [7, 8, 9, 10, 11, 12, 6, 13, 1, 14, 15, 16, 17, 18, 19, 42, 43, 44, 45, 46, 47, 48, 49, 50, 51, 52, 53] (by decide +kernel) (by decide +kernel)
set_option maxRecDepth 20000 in
theorem gX0_nextToLeave_X0_dropsRecentPage : GoodIn wsX0_nextToLeave (wsV RX0 112 RX0 yX0_dropsRecentPage wsX0_dropsRecentPage) := goodIn_app (goodIn_of _ (by decide +kernel)) ggX0_nextToLeave_X0_dropsRecentPage
set_option maxRecDepth 20000 in
theorem ggX0_nextToLeave_X1_oldest : GoodIn wsX0_nextToLeave wsX1_oldest := goodIn_r _ [23, 24, 25, 26, 17, 27, 19, 28, 52, 53] (by decide +kernel) (by decide +kernel)
set_option maxRecDepth 20000 in
theorem gX0_nextToLeave_X1_oldest : GoodIn wsX0_nextToLeave (wsV RX0 116 RX1 yX1_oldest wsX1_oldest) := goodIn_app (goodIn_of _ (by decide +kernel)) ggX0_nextToLeave_X1_oldest
set_option maxRecDepth 20000 in
theorem ggX0_nextToLeave_X0_isFull : GoodIn wsX0_nextToLeave wsX0_isFull := goodIn_r _ [32, 8, 33, 34, 35, 6, 36, 1, 2, 14, 15, 16, 17, 18, 19, 42, 43, 44, 45, 46, 47, 48, 49, 50, 51, 52, 53] (by decide +kernel) (by decide +kernel)
set_option maxRecDepth 20000 in
theorem gX0_nextToLeave_X0_isFull : GoodIn wsX0_nextToLeave (wsV RX0 119 RX0 yX0_isFull wsX0_isFull) := goodIn_app (goodIn_of _ (by decide +kernel)) ggX0_nextToLeave_X0_isFull
set_option maxRecDepth 20000 in
theorem ggX0_nextToLeave_X0_evictsRecentPage : GoodIn wsX0_nextToLeave wsX0_evictsRecentPage := goodIn_r _ [40, 1, 41, 14, 15, 16, 17, 18, 19, 42, 43, 44, 45, 46, 47, 48, 49, 50, 51, 52, 53] (by decide +kernel) (by decide +kernel)
set_option maxRecDepth 20000 in
theorem gX0_nextToLeave_X0_evictsRecentPage : GoodIn wsX0_nextToLeave (wsV RX0 122 RX0 yX0_evictsRecentPage wsX0_evictsRecentPage) := goodIn_app (goodIn_of _ (by decide +kernel)) ggX0_nextToLeave_X0_evictsRecentPage
theorem dX0_nextToLeave_0 : decode cX0_nextToLeave 0 = .ok (.aload_n 0, 1) := by decide +kernel
theorem dX0_nextToLeave_1 : decode cX0_nextToLeave 1 = .ok (.invokevirtual 112, 3) := by decide +kernel
theorem dX0_nextToLeave_4 : decode cX0_nextToLeave 4 = .ok (.ifCond .eq 11, 3) := by decide +kernel
theorem dX0_nextToLeave_7 : decode cX0_nextToLeave 7 = .ok (.aload_n 0, 1) := by decide +kernel
theorem dX0_nextToLeave_8 : decode cX0_nextToLeave 8 = .ok (.getfield 12, 3) := by decide +kernel
theorem dX0_nextToLeave_11 : decode cX0_nextToLeave 11 = .ok (.invokevirtual 116, 3) := by decide +kernel
theorem dX0_nextToLeave_14 : decode cX0_nextToLeave 14 = .ok (.ireturn, 1) := by decide +kernel
theorem dX0_nextToLeave_15 : decode cX0_nextToLeave 15 = .ok (.aload_n 0, 1) := by decide +kernel
theorem dX0_nextToLeave_16 : decode cX0_nextToLeave 16 = .ok (.invokevirtual 119, 3) := by decide +kernel
theorem dX0_nextToLeave_19 : decode cX0_nextToLeave 19 = .ok (.ifCond .ne 5, 3) := by decide +kernel
theorem dX0_nextToLeave_22 : decode cX0_nextToLeave 22 = .ok (.iconst (-1), 1) := by decide +kernel
theorem dX0_nextToLeave_23 : decode cX0_nextToLeave 23 = .ok (.ireturn, 1) := by decide +kernel
theorem dX0_nextToLeave_24 : decode cX0_nextToLeave 24 = .ok (.aload_n 0, 1) := by decide +kernel
theorem dX0_nextToLeave_25 : decode cX0_nextToLeave 25 = .ok (.iconst 0, 1) := by decide +kernel
theorem dX0_nextToLeave_26 : decode cX0_nextToLeave 26 = .ok (.invokevirtual 122, 3) := by decide +kernel
theorem dX0_nextToLeave_29 : decode cX0_nextToLeave 29 = .ok (.ifCond .eq 13, 3) := by decide +kernel
theorem dX0_nextToLeave_32 : decode cX0_nextToLeave 32 = .ok (.aload_n 0, 1) := by decide +kernel
theorem dX0_nextToLeave_33 : decode cX0_nextToLeave 33 = .ok (.getfield 12, 3) := by decide +kernel
theorem dX0_nextToLeave_36 : decode cX0_nextToLeave 36 = .ok (.invokevirtual 116, 3) := by decide +kernel
theorem dX0_nextToLeave_39 : decode cX0_nextToLeave 39 = .ok (.goto 10, 3) := by decide +kernel
theorem dX0_nextToLeave_42 : decode cX0_nextToLeave 42 = .ok (.aload_n 0, 1) := by decide +kernel
theorem dX0_nextToLeave_43 : decode cX0_nextToLeave 43 = .ok (.getfield 18, 3) := by decide +kernel
theorem dX0_nextToLeave_46 : decode cX0_nextToLeave 46 = .ok (.invokevirtual 116, 3) := by decide +kernel
theorem dX0_nextToLeave_49 : decode cX0_nextToLeave 49 = .ok (.ireturn, 1) := by decide +kernel
theorem dX0_lengthenRun_0 : decode cX0_lengthenRun 0 = .ok (.aload_n 0, 1) := by decide +kernel
theorem dX0_lengthenRun_1 : decode cX0_lengthenRun 1 = .ok (.getfield 31, 3) := by decide +kernel
theorem dX0_lengthenRun_4 : decode cX0_lengthenRun 4 = .ok (.iconst (-1), 1) := by decide +kernel
theorem dX0_lengthenRun_5 : decode cX0_lengthenRun 5 = .ok (.if_icmp .eq 17, 3) := by decide +kernel
theorem dX0_lengthenRun_8 : decode cX0_lengthenRun 8 = .ok (.iload_n 1, 1) := by decide +kernel
theorem dX0_lengthenRun_9 : decode cX0_lengthenRun 9 = .ok (.aload_n 0, 1) := by decide +kernel
theorem dX0_lengthenRun_10 : decode cX0_lengthenRun 10 = .ok (.getfield 31, 3) := by decide +kernel
theorem dX0_lengthenRun_13 : decode cX0_lengthenRun 13 = .ok (.iconst 1, 1) := by decide +kernel
theorem dX0_lengthenRun_14 : decode cX0_lengthenRun 14 = .ok (.iadd, 1) := by decide +kernel
theorem dX0_lengthenRun_15 : decode cX0_lengthenRun 15 = .ok (.if_icmp .ne 7, 3) := by decide +kernel
theorem dX0_lengthenRun_18 : decode cX0_lengthenRun 18 = .ok (.iconst 1, 1) := by decide +kernel
theorem dX0_lengthenRun_19 : decode cX0_lengthenRun 19 = .ok (.goto 4, 3) := by decide +kernel
theorem dX0_lengthenRun_22 : decode cX0_lengthenRun 22 = .ok (.iconst 0, 1) := by decide +kernel
theorem dX0_lengthenRun_23 : decode cX0_lengthenRun 23 = .ok (.istore_n 2, 1) := by decide +kernel
theorem dX0_lengthenRun_24 : decode cX0_lengthenRun 24 = .ok (.aload_n 0, 1) := by decide +kernel
theorem dX0_lengthenRun_25 : decode cX0_lengthenRun 25 = .ok (.iload_n 2, 1) := by decide +kernel
theorem dX0_lengthenRun_26 : decode cX0_lengthenRun 26 = .ok (.ifCond .eq 12, 3) := by decide +kernel
theorem dX0_lengthenRun_29 : decode cX0_lengthenRun 29 = .ok (.aload_n 0, 1) := by decide +kernel
theorem dX0_lengthenRun_30 : decode cX0_lengthenRun 30 = .ok (.getfield 41, 3) := by decide +kernel
theorem dX0_lengthenRun_33 : decode cX0_lengthenRun 33 = .ok (.iconst 1, 1) := by decide +kernel
theorem dX0_lengthenRun_34 : decode cX0_lengthenRun 34 = .ok (.iadd, 1) := by decide +kernel
theorem dX0_lengthenRun_35 : decode cX0_lengthenRun 35 = .ok (.goto 4, 3) := by decide +kernel
theorem dX0_lengthenRun_38 : decode cX0_lengthenRun 38 = .ok (.iconst 1, 1) := by decide +kernel
theorem dX0_lengthenRun_39 : decode cX0_lengthenRun 39 = .ok (.putfield 41, 3) := by decide +kernel
theorem dX0_lengthenRun_42 : decode cX0_lengthenRun 42 = .ok (.aload_n 0, 1) := by decide +kernel
theorem dX0_lengthenRun_43 : decode cX0_lengthenRun 43 = .ok (.iload_n 1, 1) := by decide +kernel
theorem dX0_lengthenRun_44 : decode cX0_lengthenRun 44 = .ok (.putfield 31, 3) := by decide +kernel
theorem dX0_lengthenRun_47 : decode cX0_lengthenRun 47 = .ok (.return_, 1) := by decide +kernel
set_option maxRecDepth 20000 in
theorem ggX0_admit_X0_dropsRecentPage : GoodIn wsX0_admit wsX0_dropsRecentPage := goodIn_r _ [10, 3, 4, 11, 12, 13, 9, 14, 1, 15, 16, 17, 18, 19, 20, 64, 65, 66, 67, 68, 69, 70, 71, 72, 73, 74, 75] (by decide +kernel) (by decide +kernel)
set_option maxRecDepth 20000 in
theorem gX0_admit_X0_dropsRecentPage : GoodIn wsX0_admit (wsV RX0 112 RX0 yX0_dropsRecentPage wsX0_dropsRecentPage) := goodIn_app (goodIn_of _ (by decide +kernel)) ggX0_admit_X0_dropsRecentPage
set_option maxRecDepth 20000 in
theorem ggX0_admit_X1_takeOldest : GoodIn wsX0_admit wsX1_takeOldest := goodIn_r _ [24, 25, 26, 27, 18, 28, 20, 29, 30, 31, 32, 33, 74, 75] (by decide +kernel) (by decide +kernel)
set_option maxRecDepth 20000 in
theorem gX0_admit_X1_takeOldest : GoodIn wsX0_admit (wsV RX0 87 RX1 yX1_takeOldest wsX1_takeOldest) := goodIn_app (goodIn_of _ (by decide +kernel)) ggX0_admit_X1_takeOldest
set_option maxRecDepth 20000 in
theorem ggX0_admit_X0_recentAndGhosts : GoodIn wsX0_admit wsX0_recentAndGhosts := goodIn_r _ [14, 1, 4, 15, 16, 17, 18, 19, 20, 64, 65, 66, 67, 68, 69, 70, 71, 72, 73, 74, 75] (by decide +kernel) (by decide +kernel)
set_option maxRecDepth 20000 in
theorem gX0_admit_X0_recentAndGhosts : GoodIn wsX0_admit (wsV RX0 84 RX0 yX0_recentAndGhosts wsX0_recentAndGhosts) := goodIn_app (goodIn_of _ (by decide +kernel)) ggX0_admit_X0_recentAndGhosts
set_option maxRecDepth 20000 in
theorem ggX0_admit_X0_keysInAll : GoodIn wsX0_admit wsX0_keysInAll := goodIn_r _ [37, 4, 5, 38, 39, 40, 9, 41, 1, 42, 15, 16, 17, 18, 19, 20, 64, 65, 66, 67, 68, 69, 70, 71, 72, 73, 74, 75] (by decide +kernel) (by decide +kernel)
set_option maxRecDepth 20000 in
theorem gX0_admit_X0_keysInAll : GoodIn wsX0_admit (wsV RX0 90 RX0 yX0_keysInAll wsX0_keysInAll) := goodIn_app (goodIn_of _ (by decide +kernel)) ggX0_admit_X0_keysInAll
set_option maxRecDepth 20000 in
theorem ggX0_admit_X0_makeRoom : GoodIn wsX0_admit wsX0_makeRoom := goodIn_r _ [46, 47, 48, 49, 9, 50, 3, 38, 39, 40, 41, 1, 42, 15, 16, 17, 18, 19, 20, 51, 52, 53, 54, 4, 5, 2, 55, 56, 57, 58, 59, 21, 22, 23, 24, 25, 26, 27, 28, 29, 30, 31, 32, 33, 60, 61, 62, 63, 64, 65, 66, 67, 68, 69, 70, 71, 72, 73, 74, 75] (by decide +kernel) (by decide +kernel)
set_option maxRecDepth 20000 in
theorem gX0_admit_X0_makeRoom : GoodIn wsX0_admit (wsV RX0 106 RX0 yX0_makeRoom wsX0_makeRoom) := goodIn_app (goodIn_of _ (by decide +kernel)) ggX0_admit_X0_makeRoom
set_option maxRecDepth 20000 in
theorem ggX0_admit_X1_join : GoodIn wsX0_admit wsX1_join := goodIn_r _ [63, 20, 29, 74, 75] (by decide +kernel) (by decide +kernel)
set_option maxRecDepth 20000 in
theorem gX0_admit_X1_join : GoodIn wsX0_admit (wsV RX0 109 RX1 yX1_join wsX1_join) := goodIn_app (goodIn_of _ (by decide +kernel)) ggX0_admit_X1_join
theorem dX0_admit_0 : decode cX0_admit 0 = .ok (.aload_n 0, 1) := by decide +kernel
theorem dX0_admit_1 : decode cX0_admit 1 = .ok (.invokevirtual 112, 3) := by decide +kernel
theorem dX0_admit_4 : decode cX0_admit 4 = .ok (.ifCond .eq 24, 3) := by decide +kernel
theorem dX0_admit_7 : decode cX0_admit 7 = .ok (.aload_n 0, 1) := by decide +kernel
theorem dX0_admit_8 : decode cX0_admit 8 = .ok (.getfield 12, 3) := by decide +kernel
theorem dX0_admit_11 : decode cX0_admit 11 = .ok (.invokevirtual 87, 3) := by decide +kernel
theorem dX0_admit_14 : decode cX0_admit 14 = .ok (.pop, 1) := by decide +kernel
theorem dX0_admit_15 : decode cX0_admit 15 = .ok (.aload_n 0, 1) := by decide +kernel
theorem dX0_admit_16 : decode cX0_admit 16 = .ok (.dup, 1) := by decide +kernel
theorem dX0_admit_17 : decode cX0_admit 17 = .ok (.getfield 44, 3) := by decide +kernel
theorem dX0_admit_20 : decode cX0_admit 20 = .ok (.iconst 1, 1) := by decide +kernel
theorem dX0_admit_21 : decode cX0_admit 21 = .ok (.iadd, 1) := by decide +kernel
theorem dX0_admit_22 : decode cX0_admit 22 = .ok (.putfield 44, 3) := by decide +kernel
theorem dX0_admit_25 : decode cX0_admit 25 = .ok (.goto 46, 3) := by decide +kernel
theorem dX0_admit_28 : decode cX0_admit 28 = .ok (.aload_n 0, 1) := by decide +kernel
theorem dX0_admit_29 : decode cX0_admit 29 = .ok (.invokevirtual 84, 3) := by decide +kernel
theorem dX0_admit_32 : decode cX0_admit 32 = .ok (.aload_n 0, 1) := by decide +kernel
theorem dX0_admit_33 : decode cX0_admit 33 = .ok (.getfield 27, 3) := by decide +kernel
theorem dX0_admit_36 : decode cX0_admit 36 = .ok (.if_icmp .ne 14, 3) := by decide +kernel
theorem dX0_admit_39 : decode cX0_admit 39 = .ok (.aload_n 0, 1) := by decide +kernel
theorem dX0_admit_40 : decode cX0_admit 40 = .ok (.getfield 21, 3) := by decide +kernel
theorem dX0_admit_43 : decode cX0_admit 43 = .ok (.invokevirtual 87, 3) := by decide +kernel
theorem dX0_admit_46 : decode cX0_admit 46 = .ok (.pop, 1) := by decide +kernel
theorem dX0_admit_47 : decode cX0_admit 47 = .ok (.goto 24, 3) := by decide +kernel
theorem dX0_admit_50 : decode cX0_admit 50 = .ok (.aload_n 0, 1) := by decide +kernel
theorem dX0_admit_51 : decode cX0_admit 51 = .ok (.invokevirtual 90, 3) := by decide +kernel
theorem dX0_admit_54 : decode cX0_admit 54 = .ok (.iconst 2, 1) := by decide +kernel
theorem dX0_admit_55 : decode cX0_admit 55 = .ok (.aload_n 0, 1) := by decide +kernel
theorem dX0_admit_56 : decode cX0_admit 56 = .ok (.getfield 27, 3) := by decide +kernel
theorem dX0_admit_59 : decode cX0_admit 59 = .ok (.imul, 1) := by decide +kernel
theorem dX0_admit_60 : decode cX0_admit 60 = .ok (.if_icmp .ne 11, 3) := by decide +kernel
theorem dX0_admit_63 : decode cX0_admit 63 = .ok (.aload_n 0, 1) := by decide +kernel
theorem dX0_admit_64 : decode cX0_admit 64 = .ok (.getfield 24, 3) := by decide +kernel
theorem dX0_admit_67 : decode cX0_admit 67 = .ok (.invokevirtual 87, 3) := by decide +kernel
theorem dX0_admit_70 : decode cX0_admit 70 = .ok (.pop, 1) := by decide +kernel
theorem dX0_admit_71 : decode cX0_admit 71 = .ok (.aload_n 0, 1) := by decide +kernel
theorem dX0_admit_72 : decode cX0_admit 72 = .ok (.iconst 0, 1) := by decide +kernel
theorem dX0_admit_73 : decode cX0_admit 73 = .ok (.invokevirtual 106, 3) := by decide +kernel
theorem dX0_admit_76 : decode cX0_admit 76 = .ok (.aload_n 0, 1) := by decide +kernel
theorem dX0_admit_77 : decode cX0_admit 77 = .ok (.getfield 12, 3) := by decide +kernel
theorem dX0_admit_80 : decode cX0_admit 80 = .ok (.iload_n 1, 1) := by decide +kernel
theorem dX0_admit_81 : decode cX0_admit 81 = .ok (.invokevirtual 109, 3) := by decide +kernel
theorem dX0_admit_84 : decode cX0_admit 84 = .ok (.return_, 1) := by decide +kernel
set_option maxRecDepth 20000 in
theorem ggX0_adaptTarget_X1_length : GoodIn wsX0_adaptTarget wsX1_length := goodIn_r _ [16, 17, 32, 33] (by decide +kernel) (by decide +kernel)
set_option maxRecDepth 20000 in
theorem gX0_adaptTarget_X1_length : GoodIn wsX0_adaptTarget (wsV RX0 47 RX1 yX1_length wsX1_length) := goodIn_app (goodIn_of _ (by decide +kernel)) ggX0_adaptTarget_X1_length
set_option maxRecDepth 20000 in
theorem ggX0_adaptTarget_X0_adaptationStep : GoodIn wsX0_adaptTarget wsX0_adaptationStep := goodIn_r _ [21, 9, 10, 7, 11] (by decide +kernel) (by decide +kernel)
set_option maxRecDepth 20000 in
theorem gX0_adaptTarget_X0_adaptationStep : GoodIn wsX0_adaptTarget (va_wsS RX0 126 yX0_adaptationStep wsX0_adaptationStep) := goodIn_app (goodIn_of _ (by decide +kernel)) ggX0_adaptTarget_X0_adaptationStep
theorem dX0_adaptTarget_0 : decode cX0_adaptTarget 0 = .ok (.aload_n 0, 1) := by decide +kernel
theorem dX0_adaptTarget_1 : decode cX0_adaptTarget 1 = .ok (.getfield 21, 3) := by decide +kernel
theorem dX0_adaptTarget_4 : decode cX0_adaptTarget 4 = .ok (.invokevirtual 47, 3) := by decide +kernel
theorem dX0_adaptTarget_7 : decode cX0_adaptTarget 7 = .ok (.istore_n 2, 1) := by decide +kernel
theorem dX0_adaptTarget_8 : decode cX0_adaptTarget 8 = .ok (.aload_n 0, 1) := by decide +kernel
theorem dX0_adaptTarget_9 : decode cX0_adaptTarget 9 = .ok (.getfield 24, 3) := by decide +kernel
theorem dX0_adaptTarget_12 : decode cX0_adaptTarget 12 = .ok (.invokevirtual 47, 3) := by decide +kernel
theorem dX0_adaptTarget_15 : decode cX0_adaptTarget 15 = .ok (.istore_n 3, 1) := by decide +kernel
theorem dX0_adaptTarget_16 : decode cX0_adaptTarget 16 = .ok (.iload_n 1, 1) := by decide +kernel
theorem dX0_adaptTarget_17 : decode cX0_adaptTarget 17 = .ok (.iconst 3, 1) := by decide +kernel
theorem dX0_adaptTarget_18 : decode cX0_adaptTarget 18 = .ok (.if_icmp .ne 27, 3) := by decide +kernel
theorem dX0_adaptTarget_21 : decode cX0_adaptTarget 21 = .ok (.aload_n 0, 1) := by decide +kernel
theorem dX0_adaptTarget_22 : decode cX0_adaptTarget 22 = .ok (.aload_n 0, 1) := by decide +kernel
theorem dX0_adaptTarget_23 : decode cX0_adaptTarget 23 = .ok (.getfield 27, 3) := by decide +kernel
theorem dX0_adaptTarget_26 : decode cX0_adaptTarget 26 = .ok (.aload_n 0, 1) := by decide +kernel
theorem dX0_adaptTarget_27 : decode cX0_adaptTarget 27 = .ok (.getfield 68, 3) := by decide +kernel
theorem dX0_adaptTarget_30 : decode cX0_adaptTarget 30 = .ok (.iload_n 3, 1) := by decide +kernel
theorem dX0_adaptTarget_31 : decode cX0_adaptTarget 31 = .ok (.iload_n 2, 1) := by decide +kernel
theorem dX0_adaptTarget_32 : decode cX0_adaptTarget 32 = .ok (.invokestatic 126, 3) := by decide +kernel
theorem dX0_adaptTarget_35 : decode cX0_adaptTarget 35 = .ok (.iadd, 1) := by decide +kernel
theorem dX0_adaptTarget_36 : decode cX0_adaptTarget 36 = .ok (.invokestatic 71, 3) := by decide +kernel
theorem dX0_adaptTarget_39 : decode cX0_adaptTarget 39 = .ok (.putfield 68, 3) := by decide +kernel
theorem dX0_adaptTarget_42 : decode cX0_adaptTarget 42 = .ok (.goto 21, 3) := by decide +kernel
theorem dX0_adaptTarget_45 : decode cX0_adaptTarget 45 = .ok (.aload_n 0, 1) := by decide +kernel
theorem dX0_adaptTarget_46 : decode cX0_adaptTarget 46 = .ok (.iconst 0, 1) := by decide +kernel
theorem dX0_adaptTarget_47 : decode cX0_adaptTarget 47 = .ok (.aload_n 0, 1) := by decide +kernel
theorem dX0_adaptTarget_48 : decode cX0_adaptTarget 48 = .ok (.getfield 68, 3) := by decide +kernel
theorem dX0_adaptTarget_51 : decode cX0_adaptTarget 51 = .ok (.iload_n 2, 1) := by decide +kernel
theorem dX0_adaptTarget_52 : decode cX0_adaptTarget 52 = .ok (.iload_n 3, 1) := by decide +kernel
theorem dX0_adaptTarget_53 : decode cX0_adaptTarget 53 = .ok (.invokestatic 126, 3) := by decide +kernel
theorem dX0_adaptTarget_56 : decode cX0_adaptTarget 56 = .ok (.isub, 1) := by decide +kernel
theorem dX0_adaptTarget_57 : decode cX0_adaptTarget 57 = .ok (.invokestatic 77, 3) := by decide +kernel
theorem dX0_adaptTarget_60 : decode cX0_adaptTarget 60 = .ok (.putfield 68, 3) := by decide +kernel
theorem dX0_adaptTarget_63 : decode cX0_adaptTarget 63 = .ok (.return_, 1) := by decide +kernel
theorem dX0_adaptationStep_0 : decode cX0_adaptationStep 0 = .ok (.iload_n 1, 1) := by decide +kernel
theorem dX0_adaptationStep_1 : decode cX0_adaptationStep 1 = .ok (.iconst 1, 1) := by decide +kernel
theorem dX0_adaptationStep_2 : decode cX0_adaptationStep 2 = .ok (.if_icmp .ge 7, 3) := by decide +kernel
theorem dX0_adaptationStep_5 : decode cX0_adaptationStep 5 = .ok (.iconst 1, 1) := by decide +kernel
theorem dX0_adaptationStep_6 : decode cX0_adaptationStep 6 = .ok (.goto 10, 3) := by decide +kernel
theorem dX0_adaptationStep_9 : decode cX0_adaptationStep 9 = .ok (.iconst 1, 1) := by decide +kernel
theorem dX0_adaptationStep_10 : decode cX0_adaptationStep 10 = .ok (.iload_n 0, 1) := by decide +kernel
theorem dX0_adaptationStep_11 : decode cX0_adaptationStep 11 = .ok (.iload_n 1, 1) := by decide +kernel
theorem dX0_adaptationStep_12 : decode cX0_adaptationStep 12 = .ok (.idiv, 1) := by decide +kernel
theorem dX0_adaptationStep_13 : decode cX0_adaptationStep 13 = .ok (.invokestatic 77, 3) := by decide +kernel
theorem dX0_adaptationStep_16 : decode cX0_adaptationStep 16 = .ok (.ireturn, 1) := by decide +kernel
set_option maxRecDepth 20000 in
theorem ggX0_makeRoom_X0_isFull : GoodIn wsX0_makeRoom wsX0_isFull := goodIn_r _ [5, 6, 7, 8, 9, 4, 10, 11, 12, 13, 14, 15, 16, 17, 18, 48, 49, 50, 51, 52, 53, 54, 55, 56, 57, 58, 59] (by decide +kernel) (by decide +kernel)
set_option maxRecDepth 20000 in
theorem gX0_makeRoom_X0_isFull : GoodIn wsX0_makeRoom (wsV RX0 119 RX0 yX0_isFull wsX0_isFull) := goodIn_app (goodIn_of _ (by decide +kernel)) ggX0_makeRoom_X0_isFull
set_option maxRecDepth 20000 in
theorem ggX0_makeRoom_X0_evict : GoodIn wsX0_makeRoom wsX0_evict := goodIn_r _ [22, 23, 11, 24, 12, 25, 26, 27, 28, 4, 29, 30, 13, 14, 15, 16, 17, 18, 31, 32, 33, 34, 35, 36, 37, 38, 39, 40, 41, 42, 43, 44, 45, 46, 47, 48, 49, 50, 51, 52, 53, 54, 55, 56, 57, 58, 59] (by decide +kernel) (by decide +kernel)
set_option maxRecDepth 20000 in
theorem gX0_makeRoom_X0_evict : GoodIn wsX0_makeRoom (wsV RX0 80 RX0 yX0_evict wsX0_evict) := goodIn_app (goodIn_of _ (by decide +kernel)) ggX0_makeRoom_X0_evict
theorem dX0_makeRoom_0 : decode cX0_makeRoom 0 = .ok (.aload_n 0, 1) := by decide +kernel
theorem dX0_makeRoom_1 : decode cX0_makeRoom 1 = .ok (.invokevirtual 119, 3) := by decide +kernel
theorem dX0_makeRoom_4 : decode cX0_makeRoom 4 = .ok (.ifCond .eq 8, 3) := by decide +kernel
theorem dX0_makeRoom_7 : decode cX0_makeRoom 7 = .ok (.aload_n 0, 1) := by decide +kernel
theorem dX0_makeRoom_8 : decode cX0_makeRoom 8 = .ok (.iload_n 1, 1) := by decide +kernel
theorem dX0_makeRoom_9 : decode cX0_makeRoom 9 = .ok (.invokevirtual 80, 3) := by decide +kernel
theorem dX0_makeRoom_12 : decode cX0_makeRoom 12 = .ok (.return_, 1) := by decide +kernel
set_option maxRecDepth 20000 in
theorem ggX0_evict_X0_evictsRecentPage : GoodIn wsX0_evict wsX0_evictsRecentPage := goodIn_r _ [10, 2, 11, 12, 13, 14, 15, 16, 17, 35, 36, 37, 38, 39, 40, 41, 42, 43, 44, 45, 46] (by decide +kernel) (by decide +kernel)
set_option maxRecDepth 20000 in
theorem gX0_evict_X0_evictsRecentPage : GoodIn wsX0_evict (wsV RX0 122 RX0 yX0_evictsRecentPage wsX0_evictsRecentPage) := goodIn_app (goodIn_of _ (by decide +kernel)) ggX0_evict_X0_evictsRecentPage
set_option maxRecDepth 20000 in
theorem ggX0_evict_X1_takeOldest : GoodIn wsX0_evict wsX1_takeOldest := goodIn_r _ [21, 22, 23, 24, 15, 25, 17, 26, 27, 28, 29, 30, 45, 46] (by decide +kernel) (by decide +kernel)
set_option maxRecDepth 20000 in
theorem gX0_evict_X1_takeOldest : GoodIn wsX0_evict (wsV RX0 87 RX1 yX1_takeOldest wsX1_takeOldest) := goodIn_app (goodIn_of _ (by decide +kernel)) ggX0_evict_X1_takeOldest
set_option maxRecDepth 20000 in
theorem ggX0_evict_X1_join : GoodIn wsX0_evict wsX1_join := goodIn_r _ [34, 17, 26, 45, 46] (by decide +kernel) (by decide +kernel)
set_option maxRecDepth 20000 in
theorem gX0_evict_X1_join : GoodIn wsX0_evict (wsV RX0 109 RX1 yX1_join wsX1_join) := goodIn_app (goodIn_of _ (by decide +kernel)) ggX0_evict_X1_join
theorem dX0_evict_0 : decode cX0_evict 0 = .ok (.aload_n 0, 1) := by decide +kernel
theorem dX0_evict_1 : decode cX0_evict 1 = .ok (.iload_n 1, 1) := by decide +kernel
theorem dX0_evict_2 : decode cX0_evict 2 = .ok (.invokevirtual 122, 3) := by decide +kernel
theorem dX0_evict_5 : decode cX0_evict 5 = .ok (.ifCond .eq 20, 3) := by decide +kernel
theorem dX0_evict_8 : decode cX0_evict 8 = .ok (.aload_n 0, 1) := by decide +kernel
theorem dX0_evict_9 : decode cX0_evict 9 = .ok (.getfield 21, 3) := by decide +kernel
theorem dX0_evict_12 : decode cX0_evict 12 = .ok (.aload_n 0, 1) := by decide +kernel
theorem dX0_evict_13 : decode cX0_evict 13 = .ok (.getfield 12, 3) := by decide +kernel
theorem dX0_evict_16 : decode cX0_evict 16 = .ok (.invokevirtual 87, 3) := by decide +kernel
theorem dX0_evict_19 : decode cX0_evict 19 = .ok (.invokevirtual 109, 3) := by decide +kernel
theorem dX0_evict_22 : decode cX0_evict 22 = .ok (.goto 17, 3) := by decide +kernel
theorem dX0_evict_25 : decode cX0_evict 25 = .ok (.aload_n 0, 1) := by decide +kernel
theorem dX0_evict_26 : decode cX0_evict 26 = .ok (.getfield 24, 3) := by decide +kernel
theorem dX0_evict_29 : decode cX0_evict 29 = .ok (.aload_n 0, 1) := by decide +kernel
theorem dX0_evict_30 : decode cX0_evict 30 = .ok (.getfield 18, 3) := by decide +kernel
theorem dX0_evict_33 : decode cX0_evict 33 = .ok (.invokevirtual 87, 3) := by decide +kernel
theorem dX0_evict_36 : decode cX0_evict 36 = .ok (.invokevirtual 109, 3) := by decide +kernel
theorem dX0_evict_39 : decode cX0_evict 39 = .ok (.aload_n 0, 1) := by decide +kernel
theorem dX0_evict_40 : decode cX0_evict 40 = .ok (.dup, 1) := by decide +kernel
theorem dX0_evict_41 : decode cX0_evict 41 = .ok (.getfield 44, 3) := by decide +kernel
theorem dX0_evict_44 : decode cX0_evict 44 = .ok (.iconst 1, 1) := by decide +kernel
theorem dX0_evict_45 : decode cX0_evict 45 = .ok (.iadd, 1) := by decide +kernel
theorem dX0_evict_46 : decode cX0_evict 46 = .ok (.putfield 44, 3) := by decide +kernel
theorem dX0_evict_49 : decode cX0_evict 49 = .ok (.return_, 1) := by decide +kernel
set_option maxRecDepth 20000 in
theorem ggX0_evictsRecentPage_X1_length : GoodIn wsX0_evictsRecentPage wsX1_length := goodIn_r _ [7, 8, 19, 20] (by decide +kernel) (by decide +kernel)
set_option maxRecDepth 20000 in
theorem gX0_evictsRecentPage_X1_length : GoodIn wsX0_evictsRecentPage (wsV RX0 47 RX1 yX1_length wsX1_length) := goodIn_app (goodIn_of _ (by decide +kernel)) ggX0_evictsRecentPage_X1_length
theorem dX0_evictsRecentPage_0 : decode cX0_evictsRecentPage 0 = .ok (.aload_n 0, 1) := by decide +kernel
theorem dX0_evictsRecentPage_1 : decode cX0_evictsRecentPage 1 = .ok (.getfield 12, 3) := by decide +kernel
theorem dX0_evictsRecentPage_4 : decode cX0_evictsRecentPage 4 = .ok (.invokevirtual 47, 3) := by decide +kernel
theorem dX0_evictsRecentPage_7 : decode cX0_evictsRecentPage 7 = .ok (.istore_n 2, 1) := by decide +kernel
theorem dX0_evictsRecentPage_8 : decode cX0_evictsRecentPage 8 = .ok (.iload_n 2, 1) := by decide +kernel
theorem dX0_evictsRecentPage_9 : decode cX0_evictsRecentPage 9 = .ok (.aload_n 0, 1) := by decide +kernel
theorem dX0_evictsRecentPage_10 : decode cX0_evictsRecentPage 10 = .ok (.getfield 68, 3) := by decide +kernel
theorem dX0_evictsRecentPage_13 : decode cX0_evictsRecentPage 13 = .ok (.if_icmp .gt 19, 3) := by decide +kernel
theorem dX0_evictsRecentPage_16 : decode cX0_evictsRecentPage 16 = .ok (.iload_n 1, 1) := by decide +kernel
theorem dX0_evictsRecentPage_17 : decode cX0_evictsRecentPage 17 = .ok (.ifCond .eq 19, 3) := by decide +kernel
theorem dX0_evictsRecentPage_20 : decode cX0_evictsRecentPage 20 = .ok (.iload_n 2, 1) := by decide +kernel
theorem dX0_evictsRecentPage_21 : decode cX0_evictsRecentPage 21 = .ok (.aload_n 0, 1) := by decide +kernel
theorem dX0_evictsRecentPage_22 : decode cX0_evictsRecentPage 22 = .ok (.getfield 68, 3) := by decide +kernel
theorem dX0_evictsRecentPage_25 : decode cX0_evictsRecentPage 25 = .ok (.if_icmp .ne 11, 3) := by decide +kernel
theorem dX0_evictsRecentPage_28 : decode cX0_evictsRecentPage 28 = .ok (.iload_n 2, 1) := by decide +kernel
theorem dX0_evictsRecentPage_29 : decode cX0_evictsRecentPage 29 = .ok (.ifCond .le 7, 3) := by decide +kernel
theorem dX0_evictsRecentPage_32 : decode cX0_evictsRecentPage 32 = .ok (.iconst 1, 1) := by decide +kernel
theorem dX0_evictsRecentPage_33 : decode cX0_evictsRecentPage 33 = .ok (.goto 4, 3) := by decide +kernel
theorem dX0_evictsRecentPage_36 : decode cX0_evictsRecentPage 36 = .ok (.iconst 0, 1) := by decide +kernel
theorem dX0_evictsRecentPage_37 : decode cX0_evictsRecentPage 37 = .ok (.ireturn, 1) := by decide +kernel
set_option maxRecDepth 20000 in
theorem ggX0_dropsRecentPage_X0_recentAndGhosts : GoodIn wsX0_dropsRecentPage wsX0_recentAndGhosts := goodIn_r _ [7, 8, 2, 9, 10, 11, 12, 13, 14, 15, 16, 17, 18, 19, 20, 21, 22, 23, 24, 25, 26] (by decide +kernel) (by decide +kernel)
set_option maxRecDepth 20000 in
theorem gX0_dropsRecentPage_X0_recentAndGhosts : GoodIn wsX0_dropsRecentPage (wsV RX0 84 RX0 yX0_recentAndGhosts wsX0_recentAndGhosts) := goodIn_app (goodIn_of _ (by decide +kernel)) ggX0_dropsRecentPage_X0_recentAndGhosts
set_option maxRecDepth 20000 in
theorem ggX0_dropsRecentPage_X1_length : GoodIn wsX0_dropsRecentPage wsX1_length := goodIn_r _ [13, 14, 25, 26] (by decide +kernel) (by decide +kernel)
set_option maxRecDepth 20000 in
theorem gX0_dropsRecentPage_X1_length : GoodIn wsX0_dropsRecentPage (wsV RX0 47 RX1 yX1_length wsX1_length) := goodIn_app (goodIn_of _ (by decide +kernel)) ggX0_dropsRecentPage_X1_length
theorem dX0_dropsRecentPage_0 : decode cX0_dropsRecentPage 0 = .ok (.aload_n 0, 1) := by decide +kernel
theorem dX0_dropsRecentPage_1 : decode cX0_dropsRecentPage 1 = .ok (.invokevirtual 84, 3) := by decide +kernel
theorem dX0_dropsRecentPage_4 : decode cX0_dropsRecentPage 4 = .ok (.aload_n 0, 1) := by decide +kernel
theorem dX0_dropsRecentPage_5 : decode cX0_dropsRecentPage 5 = .ok (.getfield 27, 3) := by decide +kernel
theorem dX0_dropsRecentPage_8 : decode cX0_dropsRecentPage 8 = .ok (.if_icmp .ne 17, 3) := by decide +kernel
theorem dX0_dropsRecentPage_11 : decode cX0_dropsRecentPage 11 = .ok (.aload_n 0, 1) := by decide +kernel
theorem dX0_dropsRecentPage_12 : decode cX0_dropsRecentPage 12 = .ok (.getfield 21, 3) := by decide +kernel
theorem dX0_dropsRecentPage_15 : decode cX0_dropsRecentPage 15 = .ok (.invokevirtual 47, 3) := by decide +kernel
theorem dX0_dropsRecentPage_18 : decode cX0_dropsRecentPage 18 = .ok (.ifCond .ne 7, 3) := by decide +kernel
theorem dX0_dropsRecentPage_21 : decode cX0_dropsRecentPage 21 = .ok (.iconst 1, 1) := by decide +kernel
theorem dX0_dropsRecentPage_22 : decode cX0_dropsRecentPage 22 = .ok (.goto 4, 3) := by decide +kernel
theorem dX0_dropsRecentPage_25 : decode cX0_dropsRecentPage 25 = .ok (.iconst 0, 1) := by decide +kernel
theorem dX0_dropsRecentPage_26 : decode cX0_dropsRecentPage 26 = .ok (.ireturn, 1) := by decide +kernel
set_option maxRecDepth 20000 in
theorem ggX0_isFull_X0_pages : GoodIn wsX0_isFull wsX0_pages := goodIn_r _ [6, 7, 8, 9, 10, 11, 12, 13, 14, 15, 16, 17, 18, 19, 20, 21, 22, 23, 24, 25, 26] (by decide +kernel) (by decide +kernel)
set_option maxRecDepth 20000 in
theorem gX0_isFull_X0_pages : GoodIn wsX0_isFull (wsV RX0 62 RX0 yX0_pages wsX0_pages) := goodIn_app (goodIn_of _ (by decide +kernel)) ggX0_isFull_X0_pages
theorem dX0_isFull_0 : decode cX0_isFull 0 = .ok (.aload_n 0, 1) := by decide +kernel
theorem dX0_isFull_1 : decode cX0_isFull 1 = .ok (.invokevirtual 62, 3) := by decide +kernel
theorem dX0_isFull_4 : decode cX0_isFull 4 = .ok (.aload_n 0, 1) := by decide +kernel
theorem dX0_isFull_5 : decode cX0_isFull 5 = .ok (.getfield 27, 3) := by decide +kernel
theorem dX0_isFull_8 : decode cX0_isFull 8 = .ok (.if_icmp .ne 7, 3) := by decide +kernel
theorem dX0_isFull_11 : decode cX0_isFull 11 = .ok (.iconst 1, 1) := by decide +kernel
theorem dX0_isFull_12 : decode cX0_isFull 12 = .ok (.goto 4, 3) := by decide +kernel
theorem dX0_isFull_15 : decode cX0_isFull 15 = .ok (.iconst 0, 1) := by decide +kernel
theorem dX0_isFull_16 : decode cX0_isFull 16 = .ok (.ireturn, 1) := by decide +kernel
set_option maxRecDepth 20000 in
theorem ggX0_recentAndGhosts_X1_length : GoodIn wsX0_recentAndGhosts wsX1_length := goodIn_r _ [7, 8, 19, 20] (by decide +kernel) (by decide +kernel)
set_option maxRecDepth 20000 in
theorem gX0_recentAndGhosts_X1_length : GoodIn wsX0_recentAndGhosts (wsV RX0 47 RX1 yX1_length wsX1_length) := goodIn_app (goodIn_of _ (by decide +kernel)) ggX0_recentAndGhosts_X1_length
theorem dX0_recentAndGhosts_0 : decode cX0_recentAndGhosts 0 = .ok (.aload_n 0, 1) := by decide +kernel
theorem dX0_recentAndGhosts_1 : decode cX0_recentAndGhosts 1 = .ok (.getfield 12, 3) := by decide +kernel
theorem dX0_recentAndGhosts_4 : decode cX0_recentAndGhosts 4 = .ok (.invokevirtual 47, 3) := by decide +kernel
theorem dX0_recentAndGhosts_7 : decode cX0_recentAndGhosts 7 = .ok (.aload_n 0, 1) := by decide +kernel
theorem dX0_recentAndGhosts_8 : decode cX0_recentAndGhosts 8 = .ok (.getfield 21, 3) := by decide +kernel
theorem dX0_recentAndGhosts_11 : decode cX0_recentAndGhosts 11 = .ok (.invokevirtual 47, 3) := by decide +kernel
theorem dX0_recentAndGhosts_14 : decode cX0_recentAndGhosts 14 = .ok (.iadd, 1) := by decide +kernel
theorem dX0_recentAndGhosts_15 : decode cX0_recentAndGhosts 15 = .ok (.ireturn, 1) := by decide +kernel
set_option maxRecDepth 20000 in
theorem ggX0_keysInAll_X0_pages : GoodIn wsX0_keysInAll wsX0_pages := goodIn_r _ [7, 8, 9, 10, 11, 12, 13, 14, 15, 16, 17, 18, 19, 20, 21, 22, 23, 24, 25, 26, 27] (by decide +kernel) (by decide +kernel)
set_option maxRecDepth 20000 in
theorem gX0_keysInAll_X0_pages : GoodIn wsX0_keysInAll (wsV RX0 62 RX0 yX0_pages wsX0_pages) := goodIn_app (goodIn_of _ (by decide +kernel)) ggX0_keysInAll_X0_pages
set_option maxRecDepth 20000 in
theorem ggX0_keysInAll_X1_length : GoodIn wsX0_keysInAll wsX1_length := goodIn_r _ [14, 15, 26, 27] (by decide +kernel) (by decide +kernel)
set_option maxRecDepth 20000 in
theorem gX0_keysInAll_X1_length : GoodIn wsX0_keysInAll (wsV RX0 47 RX1 yX1_length wsX1_length) := goodIn_app (goodIn_of _ (by decide +kernel)) ggX0_keysInAll_X1_length
theorem dX0_keysInAll_0 : decode cX0_keysInAll 0 = .ok (.aload_n 0, 1) := by decide +kernel
theorem dX0_keysInAll_1 : decode cX0_keysInAll 1 = .ok (.invokevirtual 62, 3) := by decide +kernel
theorem dX0_keysInAll_4 : decode cX0_keysInAll 4 = .ok (.aload_n 0, 1) := by decide +kernel
theorem dX0_keysInAll_5 : decode cX0_keysInAll 5 = .ok (.getfield 21, 3) := by decide +kernel
theorem dX0_keysInAll_8 : decode cX0_keysInAll 8 = .ok (.invokevirtual 47, 3) := by decide +kernel
theorem dX0_keysInAll_11 : decode cX0_keysInAll 11 = .ok (.iadd, 1) := by decide +kernel
theorem dX0_keysInAll_12 : decode cX0_keysInAll 12 = .ok (.aload_n 0, 1) := by decide +kernel
theorem dX0_keysInAll_13 : decode cX0_keysInAll 13 = .ok (.getfield 24, 3) := by decide +kernel
theorem dX0_keysInAll_16 : decode cX0_keysInAll 16 = .ok (.invokevirtual 47, 3) := by decide +kernel
theorem dX0_keysInAll_19 : decode cX0_keysInAll 19 = .ok (.iadd, 1) := by decide +kernel
theorem dX0_keysInAll_20 : decode cX0_keysInAll 20 = .ok (.ireturn, 1) := by decide +kernel
set_option maxRecDepth 20000 in
theorem ggX0_takeFrom_X1_takeOut : GoodIn wsX0_takeFrom wsX1_takeOut := goodIn_r _ [9, 10, 11, 12, 8, 13, 14, 15, 16, 17, 18, 19, 30, 31] (by decide +kernel) (by decide +kernel)
set_option maxRecDepth 20000 in
theorem gX0_takeFrom_X1_takeOut : GoodIn wsX0_takeFrom (wsV RX0 129 RX1 yX1_takeOut wsX1_takeOut) := goodIn_app (goodIn_of _ (by decide +kernel)) ggX0_takeFrom_X1_takeOut
theorem dX0_takeFrom_0 : decode cX0_takeFrom 0 = .ok (.iload_n 1, 1) := by decide +kernel
theorem dX0_takeFrom_1 : decode cX0_takeFrom 1 = .ok (.tableswitch 79 1 4 #[31, 43, 55, 67], 31) := by decide +kernel
theorem dX0_takeFrom_32 : decode cX0_takeFrom 32 = .ok (.aload_n 0, 1) := by decide +kernel
theorem dX0_takeFrom_33 : decode cX0_takeFrom 33 = .ok (.getfield 12, 3) := by decide +kernel
theorem dX0_takeFrom_36 : decode cX0_takeFrom 36 = .ok (.iload_n 2, 1) := by decide +kernel
theorem dX0_takeFrom_37 : decode cX0_takeFrom 37 = .ok (.invokevirtual 129, 3) := by decide +kernel
theorem dX0_takeFrom_40 : decode cX0_takeFrom 40 = .ok (.pop, 1) := by decide +kernel
theorem dX0_takeFrom_41 : decode cX0_takeFrom 41 = .ok (.goto 39, 3) := by decide +kernel
theorem dX0_takeFrom_44 : decode cX0_takeFrom 44 = .ok (.aload_n 0, 1) := by decide +kernel
theorem dX0_takeFrom_45 : decode cX0_takeFrom 45 = .ok (.getfield 18, 3) := by decide +kernel
theorem dX0_takeFrom_48 : decode cX0_takeFrom 48 = .ok (.iload_n 2, 1) := by decide +kernel
theorem dX0_takeFrom_49 : decode cX0_takeFrom 49 = .ok (.invokevirtual 129, 3) := by decide +kernel
theorem dX0_takeFrom_52 : decode cX0_takeFrom 52 = .ok (.pop, 1) := by decide +kernel
theorem dX0_takeFrom_53 : decode cX0_takeFrom 53 = .ok (.goto 27, 3) := by decide +kernel
theorem dX0_takeFrom_56 : decode cX0_takeFrom 56 = .ok (.aload_n 0, 1) := by decide +kernel
theorem dX0_takeFrom_57 : decode cX0_takeFrom 57 = .ok (.getfield 21, 3) := by decide +kernel
theorem dX0_takeFrom_60 : decode cX0_takeFrom 60 = .ok (.iload_n 2, 1) := by decide +kernel
theorem dX0_takeFrom_61 : decode cX0_takeFrom 61 = .ok (.invokevirtual 129, 3) := by decide +kernel
theorem dX0_takeFrom_64 : decode cX0_takeFrom 64 = .ok (.pop, 1) := by decide +kernel
theorem dX0_takeFrom_65 : decode cX0_takeFrom 65 = .ok (.goto 15, 3) := by decide +kernel
theorem dX0_takeFrom_68 : decode cX0_takeFrom 68 = .ok (.aload_n 0, 1) := by decide +kernel
theorem dX0_takeFrom_69 : decode cX0_takeFrom 69 = .ok (.getfield 24, 3) := by decide +kernel
theorem dX0_takeFrom_72 : decode cX0_takeFrom 72 = .ok (.iload_n 2, 1) := by decide +kernel
theorem dX0_takeFrom_73 : decode cX0_takeFrom 73 = .ok (.invokevirtual 129, 3) := by decide +kernel
theorem dX0_takeFrom_76 : decode cX0_takeFrom 76 = .ok (.pop, 1) := by decide +kernel
theorem dX0_takeFrom_77 : decode cX0_takeFrom 77 = .ok (.goto 3, 3) := by decide +kernel
theorem dX0_takeFrom_80 : decode cX0_takeFrom 80 = .ok (.return_, 1) := by decide +kernel
theorem dX1_init_0 : decode cX1_init 0 = .ok (.aload_n 0, 1) := by decide +kernel
theorem dX1_init_1 : decode cX1_init 1 = .ok (.invokespecial 3, 3) := by decide +kernel
theorem dX1_init_4 : decode cX1_init 4 = .ok (.aload_n 0, 1) := by decide +kernel
theorem dX1_init_5 : decode cX1_init 5 = .ok (.bipush 64, 2) := by decide +kernel
theorem dX1_init_7 : decode cX1_init 7 = .ok (.newarray .int, 2) := by decide +kernel
theorem dX1_init_9 : decode cX1_init 9 = .ok (.putfield 9, 3) := by decide +kernel
theorem dX1_init_12 : decode cX1_init 12 = .ok (.return_, 1) := by decide +kernel
theorem dX1_length_0 : decode cX1_length 0 = .ok (.aload_n 0, 1) := by decide +kernel
theorem dX1_length_1 : decode cX1_length 1 = .ok (.getfield 15, 3) := by decide +kernel
theorem dX1_length_4 : decode cX1_length 4 = .ok (.ireturn, 1) := by decide +kernel
theorem dX1_empty_0 : decode cX1_empty 0 = .ok (.aload_n 0, 1) := by decide +kernel
theorem dX1_empty_1 : decode cX1_empty 1 = .ok (.iconst 0, 1) := by decide +kernel
theorem dX1_empty_2 : decode cX1_empty 2 = .ok (.putfield 15, 3) := by decide +kernel
theorem dX1_empty_5 : decode cX1_empty 5 = .ok (.return_, 1) := by decide +kernel
theorem dX1_join_0 : decode cX1_join 0 = .ok (.iload_n 1, 1) := by decide +kernel
theorem dX1_join_1 : decode cX1_join 1 = .ok (.iconst (-1), 1) := by decide +kernel
theorem dX1_join_2 : decode cX1_join 2 = .ok (.if_icmp .eq 35, 3) := by decide +kernel
theorem dX1_join_5 : decode cX1_join 5 = .ok (.aload_n 0, 1) := by decide +kernel
theorem dX1_join_6 : decode cX1_join 6 = .ok (.getfield 15, 3) := by decide +kernel
theorem dX1_join_9 : decode cX1_join 9 = .ok (.aload_n 0, 1) := by decide +kernel
theorem dX1_join_10 : decode cX1_join 10 = .ok (.getfield 9, 3) := by decide +kernel
theorem dX1_join_13 : decode cX1_join 13 = .ok (.arraylength, 1) := by decide +kernel
theorem dX1_join_14 : decode cX1_join 14 = .ok (.if_icmp .ge 23, 3) := by decide +kernel
theorem dX1_join_17 : decode cX1_join 17 = .ok (.aload_n 0, 1) := by decide +kernel
theorem dX1_join_18 : decode cX1_join 18 = .ok (.getfield 9, 3) := by decide +kernel
theorem dX1_join_21 : decode cX1_join 21 = .ok (.aload_n 0, 1) := by decide +kernel
theorem dX1_join_22 : decode cX1_join 22 = .ok (.getfield 15, 3) := by decide +kernel
theorem dX1_join_25 : decode cX1_join 25 = .ok (.iload_n 1, 1) := by decide +kernel
theorem dX1_join_26 : decode cX1_join 26 = .ok (.iastore, 1) := by decide +kernel
theorem dX1_join_27 : decode cX1_join 27 = .ok (.aload_n 0, 1) := by decide +kernel
theorem dX1_join_28 : decode cX1_join 28 = .ok (.dup, 1) := by decide +kernel
theorem dX1_join_29 : decode cX1_join 29 = .ok (.getfield 15, 3) := by decide +kernel
theorem dX1_join_32 : decode cX1_join 32 = .ok (.iconst 1, 1) := by decide +kernel
theorem dX1_join_33 : decode cX1_join 33 = .ok (.iadd, 1) := by decide +kernel
theorem dX1_join_34 : decode cX1_join 34 = .ok (.putfield 15, 3) := by decide +kernel
theorem dX1_join_37 : decode cX1_join 37 = .ok (.return_, 1) := by decide +kernel
set_option maxRecDepth 20000 in
theorem ggX1_holds_X1_indexOf : GoodIn wsX1_holds wsX1_indexOf := goodIn_r _ [5, 6, 7, 8, 9] (by decide +kernel) (by decide +kernel)
set_option maxRecDepth 20000 in
theorem gX1_holds_X1_indexOf : GoodIn wsX1_holds (wsV RX1 19 RX1 yX1_indexOf wsX1_indexOf) := goodIn_app (goodIn_of _ (by decide +kernel)) ggX1_holds_X1_indexOf
theorem dX1_holds_0 : decode cX1_holds 0 = .ok (.aload_n 0, 1) := by decide +kernel
theorem dX1_holds_1 : decode cX1_holds 1 = .ok (.iload_n 1, 1) := by decide +kernel
theorem dX1_holds_2 : decode cX1_holds 2 = .ok (.invokevirtual 19, 3) := by decide +kernel
theorem dX1_holds_5 : decode cX1_holds 5 = .ok (.ifCond .lt 7, 3) := by decide +kernel
theorem dX1_holds_8 : decode cX1_holds 8 = .ok (.iconst 1, 1) := by decide +kernel
theorem dX1_holds_9 : decode cX1_holds 9 = .ok (.goto 4, 3) := by decide +kernel
theorem dX1_holds_12 : decode cX1_holds 12 = .ok (.iconst 0, 1) := by decide +kernel
theorem dX1_holds_13 : decode cX1_holds 13 = .ok (.ireturn, 1) := by decide +kernel
set_option maxRecDepth 20000 in
theorem ggX1_oldest_X1_fromOldest : GoodIn wsX1_oldest wsX1_fromOldest := goodIn_r _ [5, 6, 7, 8, 9] (by decide +kernel) (by decide +kernel)
set_option maxRecDepth 20000 in
theorem gX1_oldest_X1_fromOldest : GoodIn wsX1_oldest (wsV RX1 23 RX1 yX1_fromOldest wsX1_fromOldest) := goodIn_app (goodIn_of _ (by decide +kernel)) ggX1_oldest_X1_fromOldest
theorem dX1_oldest_0 : decode cX1_oldest 0 = .ok (.aload_n 0, 1) := by decide +kernel
theorem dX1_oldest_1 : decode cX1_oldest 1 = .ok (.iconst 0, 1) := by decide +kernel
theorem dX1_oldest_2 : decode cX1_oldest 2 = .ok (.invokevirtual 23, 3) := by decide +kernel
theorem dX1_oldest_5 : decode cX1_oldest 5 = .ok (.ireturn, 1) := by decide +kernel
theorem dX1_fromOldest_0 : decode cX1_fromOldest 0 = .ok (.iload_n 1, 1) := by decide +kernel
theorem dX1_fromOldest_1 : decode cX1_fromOldest 1 = .ok (.ifCond .lt 29, 3) := by decide +kernel
theorem dX1_fromOldest_4 : decode cX1_fromOldest 4 = .ok (.iload_n 1, 1) := by decide +kernel
theorem dX1_fromOldest_5 : decode cX1_fromOldest 5 = .ok (.aload_n 0, 1) := by decide +kernel
theorem dX1_fromOldest_6 : decode cX1_fromOldest 6 = .ok (.getfield 15, 3) := by decide +kernel
theorem dX1_fromOldest_9 : decode cX1_fromOldest 9 = .ok (.if_icmp .ge 21, 3) := by decide +kernel
theorem dX1_fromOldest_12 : decode cX1_fromOldest 12 = .ok (.iload_n 1, 1) := by decide +kernel
theorem dX1_fromOldest_13 : decode cX1_fromOldest 13 = .ok (.aload_n 0, 1) := by decide +kernel
theorem dX1_fromOldest_14 : decode cX1_fromOldest 14 = .ok (.getfield 9, 3) := by decide +kernel
theorem dX1_fromOldest_17 : decode cX1_fromOldest 17 = .ok (.arraylength, 1) := by decide +kernel
theorem dX1_fromOldest_18 : decode cX1_fromOldest 18 = .ok (.if_icmp .ge 12, 3) := by decide +kernel
theorem dX1_fromOldest_21 : decode cX1_fromOldest 21 = .ok (.aload_n 0, 1) := by decide +kernel
theorem dX1_fromOldest_22 : decode cX1_fromOldest 22 = .ok (.getfield 9, 3) := by decide +kernel
theorem dX1_fromOldest_25 : decode cX1_fromOldest 25 = .ok (.iload_n 1, 1) := by decide +kernel
theorem dX1_fromOldest_26 : decode cX1_fromOldest 26 = .ok (.iaload, 1) := by decide +kernel
theorem dX1_fromOldest_27 : decode cX1_fromOldest 27 = .ok (.goto 4, 3) := by decide +kernel
theorem dX1_fromOldest_30 : decode cX1_fromOldest 30 = .ok (.iconst (-1), 1) := by decide +kernel
theorem dX1_fromOldest_31 : decode cX1_fromOldest 31 = .ok (.ireturn, 1) := by decide +kernel
set_option maxRecDepth 20000 in
theorem ggX1_fromNewest_X1_fromOldest : GoodIn wsX1_fromNewest wsX1_fromOldest := goodIn_r _ [6, 1, 7, 8, 9] (by decide +kernel) (by decide +kernel)
set_option maxRecDepth 20000 in
theorem gX1_fromNewest_X1_fromOldest : GoodIn wsX1_fromNewest (wsV RX1 23 RX1 yX1_fromOldest wsX1_fromOldest) := goodIn_app (goodIn_of _ (by decide +kernel)) ggX1_fromNewest_X1_fromOldest
theorem dX1_fromNewest_0 : decode cX1_fromNewest 0 = .ok (.aload_n 0, 1) := by decide +kernel
theorem dX1_fromNewest_1 : decode cX1_fromNewest 1 = .ok (.aload_n 0, 1) := by decide +kernel
theorem dX1_fromNewest_2 : decode cX1_fromNewest 2 = .ok (.getfield 15, 3) := by decide +kernel
theorem dX1_fromNewest_5 : decode cX1_fromNewest 5 = .ok (.iconst 1, 1) := by decide +kernel
theorem dX1_fromNewest_6 : decode cX1_fromNewest 6 = .ok (.isub, 1) := by decide +kernel
theorem dX1_fromNewest_7 : decode cX1_fromNewest 7 = .ok (.iload_n 1, 1) := by decide +kernel
theorem dX1_fromNewest_8 : decode cX1_fromNewest 8 = .ok (.isub, 1) := by decide +kernel
theorem dX1_fromNewest_9 : decode cX1_fromNewest 9 = .ok (.invokevirtual 23, 3) := by decide +kernel
theorem dX1_fromNewest_12 : decode cX1_fromNewest 12 = .ok (.ireturn, 1) := by decide +kernel
set_option maxRecDepth 20000 in
theorem ggX1_takeOldest_X1_fromOldest : GoodIn wsX1_takeOldest wsX1_fromOldest := goodIn_r _ [5, 6, 7, 12, 13] (by decide +kernel) (by decide +kernel)
set_option maxRecDepth 20000 in
theorem gX1_takeOldest_X1_fromOldest : GoodIn wsX1_takeOldest (wsV RX1 23 RX1 yX1_fromOldest wsX1_fromOldest) := goodIn_app (goodIn_of _ (by decide +kernel)) ggX1_takeOldest_X1_fromOldest
set_option maxRecDepth 20000 in
theorem ggX1_takeOldest_X1_closeGap : GoodIn wsX1_takeOldest wsX1_closeGap := goodIn_r _ [11, 6, 7, 12, 13] (by decide +kernel) (by decide +kernel)
set_option maxRecDepth 20000 in
theorem gX1_takeOldest_X1_closeGap : GoodIn wsX1_takeOldest (wsV RX1 26 RX1 yX1_closeGap wsX1_closeGap) := goodIn_app (goodIn_of _ (by decide +kernel)) ggX1_takeOldest_X1_closeGap
theorem dX1_takeOldest_0 : decode cX1_takeOldest 0 = .ok (.aload_n 0, 1) := by decide +kernel
theorem dX1_takeOldest_1 : decode cX1_takeOldest 1 = .ok (.iconst 0, 1) := by decide +kernel
theorem dX1_takeOldest_2 : decode cX1_takeOldest 2 = .ok (.invokevirtual 23, 3) := by decide +kernel
theorem dX1_takeOldest_5 : decode cX1_takeOldest 5 = .ok (.istore_n 1, 1) := by decide +kernel
theorem dX1_takeOldest_6 : decode cX1_takeOldest 6 = .ok (.aload_n 0, 1) := by decide +kernel
theorem dX1_takeOldest_7 : decode cX1_takeOldest 7 = .ok (.iconst 0, 1) := by decide +kernel
theorem dX1_takeOldest_8 : decode cX1_takeOldest 8 = .ok (.invokevirtual 26, 3) := by decide +kernel
theorem dX1_takeOldest_11 : decode cX1_takeOldest 11 = .ok (.iload_n 1, 1) := by decide +kernel
theorem dX1_takeOldest_12 : decode cX1_takeOldest 12 = .ok (.ireturn, 1) := by decide +kernel
set_option maxRecDepth 20000 in
theorem ggX1_takeOut_X1_indexOf : GoodIn wsX1_takeOut wsX1_indexOf := goodIn_r _ [5, 6, 7, 12, 13] (by decide +kernel) (by decide +kernel)
set_option maxRecDepth 20000 in
theorem gX1_takeOut_X1_indexOf : GoodIn wsX1_takeOut (wsV RX1 19 RX1 yX1_indexOf wsX1_indexOf) := goodIn_app (goodIn_of _ (by decide +kernel)) ggX1_takeOut_X1_indexOf
set_option maxRecDepth 20000 in
theorem ggX1_takeOut_X1_closeGap : GoodIn wsX1_takeOut wsX1_closeGap := goodIn_r _ [11, 6, 7, 12, 13] (by decide +kernel) (by decide +kernel)
set_option maxRecDepth 20000 in
theorem gX1_takeOut_X1_closeGap : GoodIn wsX1_takeOut (wsV RX1 26 RX1 yX1_closeGap wsX1_closeGap) := goodIn_app (goodIn_of _ (by decide +kernel)) ggX1_takeOut_X1_closeGap
theorem dX1_takeOut_0 : decode cX1_takeOut 0 = .ok (.aload_n 0, 1) := by decide +kernel
theorem dX1_takeOut_1 : decode cX1_takeOut 1 = .ok (.iload_n 1, 1) := by decide +kernel
theorem dX1_takeOut_2 : decode cX1_takeOut 2 = .ok (.invokevirtual 19, 3) := by decide +kernel
theorem dX1_takeOut_5 : decode cX1_takeOut 5 = .ok (.istore_n 2, 1) := by decide +kernel
theorem dX1_takeOut_6 : decode cX1_takeOut 6 = .ok (.aload_n 0, 1) := by decide +kernel
theorem dX1_takeOut_7 : decode cX1_takeOut 7 = .ok (.iload_n 2, 1) := by decide +kernel
theorem dX1_takeOut_8 : decode cX1_takeOut 8 = .ok (.invokevirtual 26, 3) := by decide +kernel
theorem dX1_takeOut_11 : decode cX1_takeOut 11 = .ok (.iload_n 2, 1) := by decide +kernel
theorem dX1_takeOut_12 : decode cX1_takeOut 12 = .ok (.ifCond .lt 7, 3) := by decide +kernel
theorem dX1_takeOut_15 : decode cX1_takeOut 15 = .ok (.iconst 1, 1) := by decide +kernel
theorem dX1_takeOut_16 : decode cX1_takeOut 16 = .ok (.goto 4, 3) := by decide +kernel
theorem dX1_takeOut_19 : decode cX1_takeOut 19 = .ok (.iconst 0, 1) := by decide +kernel
theorem dX1_takeOut_20 : decode cX1_takeOut 20 = .ok (.ireturn, 1) := by decide +kernel
theorem dX1_indexOf_0 : decode cX1_indexOf 0 = .ok (.iconst 0, 1) := by decide +kernel
theorem dX1_indexOf_1 : decode cX1_indexOf 1 = .ok (.istore_n 2, 1) := by decide +kernel
theorem dX1_indexOf_2 : decode cX1_indexOf 2 = .ok (.iload_n 2, 1) := by decide +kernel
theorem dX1_indexOf_3 : decode cX1_indexOf 3 = .ok (.aload_n 0, 1) := by decide +kernel
theorem dX1_indexOf_4 : decode cX1_indexOf 4 = .ok (.getfield 15, 3) := by decide +kernel
theorem dX1_indexOf_7 : decode cX1_indexOf 7 = .ok (.if_icmp .ge 30, 3) := by decide +kernel
theorem dX1_indexOf_10 : decode cX1_indexOf 10 = .ok (.iload_n 2, 1) := by decide +kernel
theorem dX1_indexOf_11 : decode cX1_indexOf 11 = .ok (.aload_n 0, 1) := by decide +kernel
theorem dX1_indexOf_12 : decode cX1_indexOf 12 = .ok (.getfield 9, 3) := by decide +kernel
theorem dX1_indexOf_15 : decode cX1_indexOf 15 = .ok (.arraylength, 1) := by decide +kernel
theorem dX1_indexOf_16 : decode cX1_indexOf 16 = .ok (.if_icmp .ge 21, 3) := by decide +kernel
theorem dX1_indexOf_19 : decode cX1_indexOf 19 = .ok (.aload_n 0, 1) := by decide +kernel
theorem dX1_indexOf_20 : decode cX1_indexOf 20 = .ok (.getfield 9, 3) := by decide +kernel
theorem dX1_indexOf_23 : decode cX1_indexOf 23 = .ok (.iload_n 2, 1) := by decide +kernel
theorem dX1_indexOf_24 : decode cX1_indexOf 24 = .ok (.iaload, 1) := by decide +kernel
theorem dX1_indexOf_25 : decode cX1_indexOf 25 = .ok (.iload_n 1, 1) := by decide +kernel
theorem dX1_indexOf_26 : decode cX1_indexOf 26 = .ok (.if_icmp .ne 5, 3) := by decide +kernel
theorem dX1_indexOf_29 : decode cX1_indexOf 29 = .ok (.iload_n 2, 1) := by decide +kernel
theorem dX1_indexOf_30 : decode cX1_indexOf 30 = .ok (.ireturn, 1) := by decide +kernel
theorem dX1_indexOf_31 : decode cX1_indexOf 31 = .ok (.iinc 2 1, 3) := by decide +kernel
theorem dX1_indexOf_34 : decode cX1_indexOf 34 = .ok (.goto (-32), 3) := by decide +kernel
theorem dX1_indexOf_37 : decode cX1_indexOf 37 = .ok (.iconst (-1), 1) := by decide +kernel
theorem dX1_indexOf_38 : decode cX1_indexOf 38 = .ok (.ireturn, 1) := by decide +kernel
theorem dX1_closeGap_0 : decode cX1_closeGap 0 = .ok (.iload_n 1, 1) := by decide +kernel
theorem dX1_closeGap_1 : decode cX1_closeGap 1 = .ok (.ifCond .lt 11, 3) := by decide +kernel
theorem dX1_closeGap_4 : decode cX1_closeGap 4 = .ok (.iload_n 1, 1) := by decide +kernel
theorem dX1_closeGap_5 : decode cX1_closeGap 5 = .ok (.aload_n 0, 1) := by decide +kernel
theorem dX1_closeGap_6 : decode cX1_closeGap 6 = .ok (.getfield 15, 3) := by decide +kernel
theorem dX1_closeGap_9 : decode cX1_closeGap 9 = .ok (.if_icmp .lt 4, 3) := by decide +kernel
theorem dX1_closeGap_12 : decode cX1_closeGap 12 = .ok (.return_, 1) := by decide +kernel
theorem dX1_closeGap_13 : decode cX1_closeGap 13 = .ok (.iload_n 1, 1) := by decide +kernel
theorem dX1_closeGap_14 : decode cX1_closeGap 14 = .ok (.istore_n 2, 1) := by decide +kernel
theorem dX1_closeGap_15 : decode cX1_closeGap 15 = .ok (.iload_n 2, 1) := by decide +kernel
theorem dX1_closeGap_16 : decode cX1_closeGap 16 = .ok (.iconst 1, 1) := by decide +kernel
theorem dX1_closeGap_17 : decode cX1_closeGap 17 = .ok (.iadd, 1) := by decide +kernel
theorem dX1_closeGap_18 : decode cX1_closeGap 18 = .ok (.aload_n 0, 1) := by decide +kernel
theorem dX1_closeGap_19 : decode cX1_closeGap 19 = .ok (.getfield 15, 3) := by decide +kernel
theorem dX1_closeGap_22 : decode cX1_closeGap 22 = .ok (.if_icmp .ge 34, 3) := by decide +kernel
theorem dX1_closeGap_25 : decode cX1_closeGap 25 = .ok (.iload_n 2, 1) := by decide +kernel
theorem dX1_closeGap_26 : decode cX1_closeGap 26 = .ok (.iconst 1, 1) := by decide +kernel
theorem dX1_closeGap_27 : decode cX1_closeGap 27 = .ok (.iadd, 1) := by decide +kernel
theorem dX1_closeGap_28 : decode cX1_closeGap 28 = .ok (.aload_n 0, 1) := by decide +kernel
theorem dX1_closeGap_29 : decode cX1_closeGap 29 = .ok (.getfield 9, 3) := by decide +kernel
theorem dX1_closeGap_32 : decode cX1_closeGap 32 = .ok (.arraylength, 1) := by decide +kernel
theorem dX1_closeGap_33 : decode cX1_closeGap 33 = .ok (.if_icmp .ge 23, 3) := by decide +kernel
theorem dX1_closeGap_36 : decode cX1_closeGap 36 = .ok (.aload_n 0, 1) := by decide +kernel
theorem dX1_closeGap_37 : decode cX1_closeGap 37 = .ok (.getfield 9, 3) := by decide +kernel
theorem dX1_closeGap_40 : decode cX1_closeGap 40 = .ok (.iload_n 2, 1) := by decide +kernel
theorem dX1_closeGap_41 : decode cX1_closeGap 41 = .ok (.aload_n 0, 1) := by decide +kernel
theorem dX1_closeGap_42 : decode cX1_closeGap 42 = .ok (.getfield 9, 3) := by decide +kernel
theorem dX1_closeGap_45 : decode cX1_closeGap 45 = .ok (.iload_n 2, 1) := by decide +kernel
theorem dX1_closeGap_46 : decode cX1_closeGap 46 = .ok (.iconst 1, 1) := by decide +kernel
theorem dX1_closeGap_47 : decode cX1_closeGap 47 = .ok (.iadd, 1) := by decide +kernel
theorem dX1_closeGap_48 : decode cX1_closeGap 48 = .ok (.iaload, 1) := by decide +kernel
theorem dX1_closeGap_49 : decode cX1_closeGap 49 = .ok (.iastore, 1) := by decide +kernel
theorem dX1_closeGap_50 : decode cX1_closeGap 50 = .ok (.iinc 2 1, 3) := by decide +kernel
theorem dX1_closeGap_53 : decode cX1_closeGap 53 = .ok (.goto (-38), 3) := by decide +kernel
theorem dX1_closeGap_56 : decode cX1_closeGap 56 = .ok (.aload_n 0, 1) := by decide +kernel
theorem dX1_closeGap_57 : decode cX1_closeGap 57 = .ok (.dup, 1) := by decide +kernel
theorem dX1_closeGap_58 : decode cX1_closeGap 58 = .ok (.getfield 15, 3) := by decide +kernel
theorem dX1_closeGap_61 : decode cX1_closeGap 61 = .ok (.iconst 1, 1) := by decide +kernel
theorem dX1_closeGap_62 : decode cX1_closeGap 62 = .ok (.isub, 1) := by decide +kernel
theorem dX1_closeGap_63 : decode cX1_closeGap 63 = .ok (.putfield 15, 3) := by decide +kernel
theorem dX1_closeGap_66 : decode cX1_closeGap 66 = .ok (.return_, 1) := by decide +kernel
set_option maxRecDepth 20000 in
theorem ggX2_init_X0_init : GoodIn wsX2_init wsX0_init := goodIn_r _ [15, 16, 2, 3, 17, 9, 10, 18, 19, 20, 21, 22, 23, 24, 25, 26, 27, 28, 47, 48, 29, 30, 31, 32, 33, 34, 35, 36, 37, 38] (by decide +kernel) (by decide +kernel)
set_option maxRecDepth 20000 in
theorem gX2_init_X0_init_n11 : GoodIn wsX2_init (wsX0_init) := ggX2_init_X0_init
set_option maxRecDepth 20000 in
theorem ggX2_init_X1_init : GoodIn wsX2_init wsX1_init := goodIn_r _ [25, 26, 2, 3, 27, 28, 47, 48] (by decide +kernel) (by decide +kernel)
set_option maxRecDepth 20000 in
theorem gX2_init_X1_init_n18 : GoodIn wsX2_init (wsX1_init) := ggX2_init_X1_init
theorem dX2_init_0 : decode cX2_init 0 = .ok (.aload_n 0, 1) := by decide +kernel
theorem dX2_init_1 : decode cX2_init 1 = .ok (.invokespecial 3, 3) := by decide +kernel
theorem dX2_init_4 : decode cX2_init 4 = .ok (.aload_n 0, 1) := by decide +kernel
theorem dX2_init_5 : decode cX2_init 5 = .ok (.new 9, 3) := by decide +kernel
theorem dX2_init_8 : decode cX2_init 8 = .ok (.dup, 1) := by decide +kernel
theorem dX2_init_9 : decode cX2_init 9 = .ok (.invokespecial 11, 3) := by decide +kernel
theorem dX2_init_12 : decode cX2_init 12 = .ok (.putfield 12, 3) := by decide +kernel
theorem dX2_init_15 : decode cX2_init 15 = .ok (.aload_n 0, 1) := by decide +kernel
theorem dX2_init_16 : decode cX2_init 16 = .ok (.new 16, 3) := by decide +kernel
theorem dX2_init_19 : decode cX2_init 19 = .ok (.dup, 1) := by decide +kernel
theorem dX2_init_20 : decode cX2_init 20 = .ok (.invokespecial 18, 3) := by decide +kernel
theorem dX2_init_23 : decode cX2_init 23 = .ok (.putfield 19, 3) := by decide +kernel
theorem dX2_init_26 : decode cX2_init 26 = .ok (.aload_n 0, 1) := by decide +kernel
theorem dX2_init_27 : decode cX2_init 27 = .ok (.new 9, 3) := by decide +kernel
theorem dX2_init_30 : decode cX2_init 30 = .ok (.dup, 1) := by decide +kernel
theorem dX2_init_31 : decode cX2_init 31 = .ok (.invokespecial 11, 3) := by decide +kernel
theorem dX2_init_34 : decode cX2_init 34 = .ok (.putfield 23, 3) := by decide +kernel
theorem dX2_init_37 : decode cX2_init 37 = .ok (.aload_n 0, 1) := by decide +kernel
theorem dX2_init_38 : decode cX2_init 38 = .ok (.new 16, 3) := by decide +kernel
theorem dX2_init_41 : decode cX2_init 41 = .ok (.dup, 1) := by decide +kernel
theorem dX2_init_42 : decode cX2_init 42 = .ok (.invokespecial 18, 3) := by decide +kernel
theorem dX2_init_45 : decode cX2_init 45 = .ok (.putfield 26, 3) := by decide +kernel
theorem dX2_init_48 : decode cX2_init 48 = .ok (.return_, 1) := by decide +kernel
set_option maxRecDepth 20000 in
theorem ggX2_request_X2_checkKey : GoodIn wsX2_request wsX2_checkKey := goodIn_ca (goodIn_r _ [5, 6, 7] (by decide +kernel) (by decide +kernel)) (goodIn_sub (fun _ h => List.mem_cons_of_mem _ (List.mem_append_right _ h)) (by decide +kernel))
set_option maxRecDepth 20000 in
theorem gX2_request_X2_checkKey : GoodIn wsX2_request (va_wsS RX2 29 yX2_checkKey wsX2_checkKey) := goodIn_app (goodIn_of _ (by decide +kernel)) ggX2_request_X2_checkKey
set_option maxRecDepth 20000 in
theorem ggX2_request_X2_addToLog : GoodIn wsX2_request wsX2_addToLog := goodIn_r _ [11, 12, 13, 14, 15, 16, 17, 18, 19, 20, 21, 22, 23, 24, 25, 26, 27, 28, 29, 30, 31, 32, 33, 34, 35, 139, 140, 141, 142, 143, 144, 145, 146, 147, 148] (by decide +kernel) (by decide +kernel)
set_option maxRecDepth 20000 in
theorem gX2_request_X2_addToLog : GoodIn wsX2_request (wsV RX2 33 RX2 yX2_addToLog wsX2_addToLog) := goodIn_app (goodIn_of _ (by decide +kernel)) ggX2_request_X2_addToLog
set_option maxRecDepth 20000 in
theorem ggX2_request_X0_serve : GoodIn wsX2_request wsX0_serve := goodIn_r _ [40, 41, 42, 43, 44, 45, 46, 39, 47, 48, 49, 50, 51, 52, 53, 54, 55, 56, 57, 58, 16, 59, 60, 61, 62, 63, 18, 27, 64, 4, 65, 66, 67, 68, 69, 70, 71, 72, 73, 74, 75, 76, 77, 78, 79, 80, 14, 15, 17, 81, 20, 21, 22, 23, 24, 25, 26, 28, 29, 30, 31, 82, 83, 84, 85, 86, 87, 88, 89, 90, 91, 92, 93, 94, 95, 96, 97, 98, 99, 100, 101, 102, 103, 104, 105, 106, 107, 33, 34, 35, 108, 109, 110, 111, 112, 113, 114, 115, 116, 117, 118, 119, 120, 121, 122, 123, 124, 125, 126, 127, 128, 129, 149, 150, 151, 152, 153, 154, 155, 156, 157, 158, 147, 148] (by decide +kernel) (by decide +kernel)
set_option maxRecDepth 20000 in
theorem gX2_request_X0_serve : GoodIn wsX2_request (wsV RX2 36 RX0 yX0_serve wsX0_serve) := goodIn_app (goodIn_of _ (by decide +kernel)) ggX2_request_X0_serve
set_option maxRecDepth 20000 in
theorem ggX2_request_X2_count : GoodIn wsX2_request wsX2_count := goodIn_r _ [133, 134, 135, 136, 137, 138, 64, 4, 65, 139, 140, 141, 142, 143, 144, 145, 146] (by decide +kernel) (by decide +kernel)
set_option maxRecDepth 20000 in
theorem gX2_request_X2_count : GoodIn wsX2_request (wsV RX2 40 RX2 yX2_count wsX2_count) := goodIn_app (goodIn_of _ (by decide +kernel)) ggX2_request_X2_count
theorem dX2_request_0 : decode cX2_request 0 = .ok (.iload_n 1, 1) := by decide +kernel
theorem dX2_request_1 : decode cX2_request 1 = .ok (.invokestatic 29, 3) := by decide +kernel
theorem dX2_request_4 : decode cX2_request 4 = .ok (.aload_n 0, 1) := by decide +kernel
theorem dX2_request_5 : decode cX2_request 5 = .ok (.iload_n 1, 1) := by decide +kernel
theorem dX2_request_6 : decode cX2_request 6 = .ok (.invokevirtual 33, 3) := by decide +kernel
theorem dX2_request_9 : decode cX2_request 9 = .ok (.aload_n 0, 1) := by decide +kernel
theorem dX2_request_10 : decode cX2_request 10 = .ok (.getfield 12, 3) := by decide +kernel
theorem dX2_request_13 : decode cX2_request 13 = .ok (.iload_n 1, 1) := by decide +kernel
theorem dX2_request_14 : decode cX2_request 14 = .ok (.invokevirtual 36, 3) := by decide +kernel
theorem dX2_request_17 : decode cX2_request 17 = .ok (.istore_n 2, 1) := by decide +kernel
theorem dX2_request_18 : decode cX2_request 18 = .ok (.aload_n 0, 1) := by decide +kernel
theorem dX2_request_19 : decode cX2_request 19 = .ok (.iload_n 2, 1) := by decide +kernel
theorem dX2_request_20 : decode cX2_request 20 = .ok (.invokevirtual 40, 3) := by decide +kernel
theorem dX2_request_23 : decode cX2_request 23 = .ok (.iload_n 2, 1) := by decide +kernel
theorem dX2_request_24 : decode cX2_request 24 = .ok (.ireturn, 1) := by decide +kernel
set_option maxRecDepth 20000 in
theorem ggX2_remove_X2_checkKey : GoodIn wsX2_remove wsX2_checkKey := goodIn_ca (goodIn_r _ [5, 6, 7] (by decide +kernel) (by decide +kernel)) (goodIn_sub (fun _ h => List.mem_cons_of_mem _ (List.mem_append_right _ h)) (by decide +kernel))
set_option maxRecDepth 20000 in
theorem gX2_remove_X2_checkKey : GoodIn wsX2_remove (va_wsS RX2 29 yX2_checkKey wsX2_checkKey) := goodIn_app (goodIn_of _ (by decide +kernel)) ggX2_remove_X2_checkKey
set_option maxRecDepth 20000 in
theorem ggX2_remove_X0_forget : GoodIn wsX2_remove wsX0_forget := goodIn_r _ [12, 13, 14, 15, 11, 16, 17, 18, 19, 20, 21, 22, 23, 24, 25, 26, 27, 28, 29, 30, 31, 32, 33, 34, 35, 36, 37, 38, 39, 40, 41, 42, 43, 52, 53, 54, 55, 56, 57, 58, 59, 60, 61, 62, 63] (by decide +kernel) (by decide +kernel)
set_option maxRecDepth 20000 in
theorem gX2_remove_X0_forget : GoodIn wsX2_remove (wsV RX2 43 RX0 yX0_forget wsX0_forget) := goodIn_app (goodIn_of _ (by decide +kernel)) ggX2_remove_X0_forget
theorem dX2_remove_0 : decode cX2_remove 0 = .ok (.iload_n 1, 1) := by decide +kernel
theorem dX2_remove_1 : decode cX2_remove 1 = .ok (.invokestatic 29, 3) := by decide +kernel
theorem dX2_remove_4 : decode cX2_remove 4 = .ok (.aload_n 0, 1) := by decide +kernel
theorem dX2_remove_5 : decode cX2_remove 5 = .ok (.getfield 12, 3) := by decide +kernel
theorem dX2_remove_8 : decode cX2_remove 8 = .ok (.iload_n 1, 1) := by decide +kernel
theorem dX2_remove_9 : decode cX2_remove 9 = .ok (.invokevirtual 43, 3) := by decide +kernel
theorem dX2_remove_12 : decode cX2_remove 12 = .ok (.ireturn, 1) := by decide +kernel
set_option maxRecDepth 20000 in
theorem ggX2_clear_X0_forgetAll : GoodIn wsX2_clear wsX0_forgetAll := goodIn_r _ [6, 7, 8, 9, 10, 11, 12, 13, 14, 5, 15, 16, 17, 18, 19, 20, 21, 22, 23, 24, 25, 34, 35, 36, 37, 38, 39, 40, 41, 42, 43, 44, 45] (by decide +kernel) (by decide +kernel)
set_option maxRecDepth 20000 in
theorem gX2_clear_X0_forgetAll : GoodIn wsX2_clear (wsV RX2 46 RX0 yX0_forgetAll wsX0_forgetAll) := goodIn_app (goodIn_of _ (by decide +kernel)) ggX2_clear_X0_forgetAll
theorem dX2_clear_0 : decode cX2_clear 0 = .ok (.aload_n 0, 1) := by decide +kernel
theorem dX2_clear_1 : decode cX2_clear 1 = .ok (.getfield 12, 3) := by decide +kernel
theorem dX2_clear_4 : decode cX2_clear 4 = .ok (.invokevirtual 46, 3) := by decide +kernel
theorem dX2_clear_7 : decode cX2_clear 7 = .ok (.ireturn, 1) := by decide +kernel
set_option maxRecDepth 20000 in
theorem ggX2_setCapacity_X2_checkCapacity : GoodIn wsX2_setCapacity wsX2_checkCapacity := goodIn_ca (goodIn_r _ [5, 6, 7] (by decide +kernel) (by decide +kernel)) (goodIn_sub (fun _ h => List.mem_cons_of_mem _ (List.mem_append_right _ h)) (by decide +kernel))
set_option maxRecDepth 20000 in
theorem gX2_setCapacity_X2_checkCapacity : GoodIn wsX2_setCapacity (va_wsS RX2 50 yX2_checkCapacity wsX2_checkCapacity) := goodIn_app (goodIn_of _ (by decide +kernel)) ggX2_setCapacity_X2_checkCapacity
set_option maxRecDepth 20000 in
theorem ggX2_setCapacity_X0_changeCapacity : GoodIn wsX2_setCapacity wsX0_changeCapacity := goodIn_r _ [12, 13, 14, 15, 16, 17, 18, 19, 20, 21, 22, 23, 24, 25, 26, 11, 27, 28, 29, 30, 31, 32, 33, 34, 35, 36, 37, 38, 39, 40, 41, 42, 43, 44, 45, 46, 47, 48, 49, 50, 51, 52, 53, 54, 55, 56, 57, 58, 59, 60, 61, 62, 63, 64, 65, 66, 67, 68, 69, 78, 79, 80, 81, 82, 83, 84, 85, 86, 87, 88, 89] (by decide +kernel) (by decide +kernel)
set_option maxRecDepth 20000 in
theorem gX2_setCapacity_X0_changeCapacity : GoodIn wsX2_setCapacity (wsV RX2 53 RX0 yX0_changeCapacity wsX0_changeCapacity) := goodIn_app (goodIn_of _ (by decide +kernel)) ggX2_setCapacity_X0_changeCapacity
theorem dX2_setCapacity_0 : decode cX2_setCapacity 0 = .ok (.iload_n 1, 1) := by decide +kernel
theorem dX2_setCapacity_1 : decode cX2_setCapacity 1 = .ok (.invokestatic 50, 3) := by decide +kernel
theorem dX2_setCapacity_4 : decode cX2_setCapacity 4 = .ok (.aload_n 0, 1) := by decide +kernel
theorem dX2_setCapacity_5 : decode cX2_setCapacity 5 = .ok (.getfield 12, 3) := by decide +kernel
theorem dX2_setCapacity_8 : decode cX2_setCapacity 8 = .ok (.iload_n 1, 1) := by decide +kernel
theorem dX2_setCapacity_9 : decode cX2_setCapacity 9 = .ok (.invokevirtual 53, 3) := by decide +kernel
theorem dX2_setCapacity_12 : decode cX2_setCapacity 12 = .ok (.ireturn, 1) := by decide +kernel
theorem dX2_capacity_0 : decode cX2_capacity 0 = .ok (.aload_n 0, 1) := by decide +kernel
theorem dX2_capacity_1 : decode cX2_capacity 1 = .ok (.getfield 12, 3) := by decide +kernel
theorem dX2_capacity_4 : decode cX2_capacity 4 = .ok (.getfield 56, 3) := by decide +kernel
theorem dX2_capacity_7 : decode cX2_capacity 7 = .ok (.ireturn, 1) := by decide +kernel
theorem dX2_setScanLength_0 : decode cX2_setScanLength 0 = .ok (.iload_n 1, 1) := by decide +kernel
theorem dX2_setScanLength_1 : decode cX2_setScanLength 1 = .ok (.ifCond .eq 24, 3) := by decide +kernel
theorem dX2_setScanLength_4 : decode cX2_setScanLength 4 = .ok (.iload_n 1, 1) := by decide +kernel
theorem dX2_setScanLength_5 : decode cX2_setScanLength 5 = .ok (.iconst 2, 1) := by decide +kernel
theorem dX2_setScanLength_6 : decode cX2_setScanLength 6 = .ok (.if_icmp .lt 9, 3) := by decide +kernel
theorem dX2_setScanLength_9 : decode cX2_setScanLength 9 = .ok (.iload_n 1, 1) := by decide +kernel
theorem dX2_setScanLength_10 : decode cX2_setScanLength 10 = .ok (.bipush 20, 2) := by decide +kernel
theorem dX2_setScanLength_12 : decode cX2_setScanLength 12 = .ok (.if_icmp .le 13, 3) := by decide +kernel
theorem dX2_setScanLength_15 : decode cX2_setScanLength 15 = .ok (.new 60, 3) := by decide +kernel
theorem dX2_setScanLength_18 : decode cX2_setScanLength 18 = .ok (.dup, 1) := by decide +kernel
theorem dX2_setScanLength_19 : decode cX2_setScanLength 19 = .ok (.ldc 62, 2) := by decide +kernel
theorem dX2_setScanLength_21 : decode cX2_setScanLength 21 = .ok (.invokespecial 64, 3) := by decide +kernel
theorem dX2_setScanLength_24 : decode cX2_setScanLength 24 = .ok (.athrow, 1) := by decide +kernel
theorem dX2_setScanLength_25 : decode cX2_setScanLength 25 = .ok (.aload_n 0, 1) := by decide +kernel
theorem dX2_setScanLength_26 : decode cX2_setScanLength 26 = .ok (.getfield 12, 3) := by decide +kernel
theorem dX2_setScanLength_29 : decode cX2_setScanLength 29 = .ok (.getfield 67, 3) := by decide +kernel
theorem dX2_setScanLength_32 : decode cX2_setScanLength 32 = .ok (.istore_n 2, 1) := by decide +kernel
theorem dX2_setScanLength_33 : decode cX2_setScanLength 33 = .ok (.aload_n 0, 1) := by decide +kernel
theorem dX2_setScanLength_34 : decode cX2_setScanLength 34 = .ok (.getfield 12, 3) := by decide +kernel
theorem dX2_setScanLength_37 : decode cX2_setScanLength 37 = .ok (.iload_n 1, 1) := by decide +kernel
theorem dX2_setScanLength_38 : decode cX2_setScanLength 38 = .ok (.putfield 67, 3) := by decide +kernel
theorem dX2_setScanLength_41 : decode cX2_setScanLength 41 = .ok (.iload_n 2, 1) := by decide +kernel
theorem dX2_setScanLength_42 : decode cX2_setScanLength 42 = .ok (.ireturn, 1) := by decide +kernel
theorem dX2_run_0 : decode cX2_run 0 = .ok (.aload_n 0, 1) := by decide +kernel
theorem dX2_run_1 : decode cX2_run 1 = .ok (.getfield 12, 3) := by decide +kernel
theorem dX2_run_4 : decode cX2_run 4 = .ok (.getfield 70, 3) := by decide +kernel
theorem dX2_run_7 : decode cX2_run 7 = .ok (.ireturn, 1) := by decide +kernel
theorem dX2_target_0 : decode cX2_target 0 = .ok (.aload_n 0, 1) := by decide +kernel
theorem dX2_target_1 : decode cX2_target 1 = .ok (.getfield 12, 3) := by decide +kernel
theorem dX2_target_4 : decode cX2_target 4 = .ok (.getfield 73, 3) := by decide +kernel
theorem dX2_target_7 : decode cX2_target 7 = .ok (.ireturn, 1) := by decide +kernel
set_option maxRecDepth 20000 in
theorem ggX2_size_X0_pages : GoodIn wsX2_size wsX0_pages := goodIn_r _ [6, 7, 8, 9, 10, 11, 12, 13, 14, 23, 24, 25, 26, 27, 28, 29, 30, 31, 32, 33, 34] (by decide +kernel) (by decide +kernel)
set_option maxRecDepth 20000 in
theorem gX2_size_X0_pages : GoodIn wsX2_size (wsV RX2 76 RX0 yX0_pages wsX0_pages) := goodIn_app (goodIn_of _ (by decide +kernel)) ggX2_size_X0_pages
theorem dX2_size_0 : decode cX2_size 0 = .ok (.aload_n 0, 1) := by decide +kernel
theorem dX2_size_1 : decode cX2_size 1 = .ok (.getfield 12, 3) := by decide +kernel
theorem dX2_size_4 : decode cX2_size 4 = .ok (.invokevirtual 76, 3) := by decide +kernel
theorem dX2_size_7 : decode cX2_size 7 = .ok (.ireturn, 1) := by decide +kernel
set_option maxRecDepth 20000 in
theorem ggX2_whereIs_X2_checkKey : GoodIn wsX2_whereIs wsX2_checkKey := goodIn_ca (goodIn_r _ [5, 6, 7] (by decide +kernel) (by decide +kernel)) (goodIn_sub (fun _ h => List.mem_cons_of_mem _ (List.mem_append_right _ h)) (by decide +kernel))
set_option maxRecDepth 20000 in
theorem gX2_whereIs_X2_checkKey : GoodIn wsX2_whereIs (va_wsS RX2 29 yX2_checkKey wsX2_checkKey) := goodIn_app (goodIn_of _ (by decide +kernel)) ggX2_whereIs_X2_checkKey
set_option maxRecDepth 20000 in
theorem ggX2_whereIs_X0_listWith : GoodIn wsX2_whereIs wsX0_listWith := goodIn_r _ [12, 13, 14, 15, 16, 17, 18, 19, 20, 21, 22, 23, 24, 25, 26, 27, 36, 37, 38, 39, 40, 41, 42, 43, 44, 45, 46, 47] (by decide +kernel) (by decide +kernel)
set_option maxRecDepth 20000 in
theorem gX2_whereIs_X0_listWith : GoodIn wsX2_whereIs (wsV RX2 79 RX0 yX0_listWith wsX0_listWith) := goodIn_app (goodIn_of _ (by decide +kernel)) ggX2_whereIs_X0_listWith
theorem dX2_whereIs_0 : decode cX2_whereIs 0 = .ok (.iload_n 1, 1) := by decide +kernel
theorem dX2_whereIs_1 : decode cX2_whereIs 1 = .ok (.invokestatic 29, 3) := by decide +kernel
theorem dX2_whereIs_4 : decode cX2_whereIs 4 = .ok (.aload_n 0, 1) := by decide +kernel
theorem dX2_whereIs_5 : decode cX2_whereIs 5 = .ok (.getfield 12, 3) := by decide +kernel
theorem dX2_whereIs_8 : decode cX2_whereIs 8 = .ok (.iload_n 1, 1) := by decide +kernel
theorem dX2_whereIs_9 : decode cX2_whereIs 9 = .ok (.invokevirtual 79, 3) := by decide +kernel
theorem dX2_whereIs_12 : decode cX2_whereIs 12 = .ok (.ireturn, 1) := by decide +kernel
set_option maxRecDepth 20000 in
theorem ggX2_victim_X0_nextToLeave : GoodIn wsX2_victim wsX0_nextToLeave := goodIn_r _ [6, 7, 8, 9, 10, 11, 5, 12, 13, 14, 15, 16, 17, 18, 19, 20, 21, 22, 23, 24, 25, 26, 27, 28, 29, 30, 31, 32, 33, 34, 35, 36, 37, 38, 39, 40, 41, 42, 43, 44, 45, 46, 55, 56, 57, 58, 59, 60, 61, 62, 63, 64, 65, 66] (by decide +kernel) (by decide +kernel)
set_option maxRecDepth 20000 in
theorem gX2_victim_X0_nextToLeave : GoodIn wsX2_victim (wsV RX2 82 RX0 yX0_nextToLeave wsX0_nextToLeave) := goodIn_app (goodIn_of _ (by decide +kernel)) ggX2_victim_X0_nextToLeave
theorem dX2_victim_0 : decode cX2_victim 0 = .ok (.aload_n 0, 1) := by decide +kernel
theorem dX2_victim_1 : decode cX2_victim 1 = .ok (.getfield 12, 3) := by decide +kernel
theorem dX2_victim_4 : decode cX2_victim 4 = .ok (.invokevirtual 82, 3) := by decide +kernel
theorem dX2_victim_7 : decode cX2_victim 7 = .ok (.ireturn, 1) := by decide +kernel
set_option maxRecDepth 20000 in
theorem ggX2_recentSize_X1_length : GoodIn wsX2_recentSize wsX1_length := goodIn_r _ [6, 7, 26, 27] (by decide +kernel) (by decide +kernel)
set_option maxRecDepth 20000 in
theorem gX2_recentSize_X1_length : GoodIn wsX2_recentSize (wsV RX2 88 RX1 yX1_length wsX1_length) := goodIn_app (goodIn_of _ (by decide +kernel)) ggX2_recentSize_X1_length
theorem dX2_recentSize_0 : decode cX2_recentSize 0 = .ok (.aload_n 0, 1) := by decide +kernel
theorem dX2_recentSize_1 : decode cX2_recentSize 1 = .ok (.getfield 12, 3) := by decide +kernel
theorem dX2_recentSize_4 : decode cX2_recentSize 4 = .ok (.getfield 85, 3) := by decide +kernel
theorem dX2_recentSize_7 : decode cX2_recentSize 7 = .ok (.invokevirtual 88, 3) := by decide +kernel
theorem dX2_recentSize_10 : decode cX2_recentSize 10 = .ok (.ireturn, 1) := by decide +kernel
set_option maxRecDepth 20000 in
theorem ggX2_frequentSize_X1_length : GoodIn wsX2_frequentSize wsX1_length := goodIn_r _ [6, 7, 26, 27] (by decide +kernel) (by decide +kernel)
set_option maxRecDepth 20000 in
theorem gX2_frequentSize_X1_length : GoodIn wsX2_frequentSize (wsV RX2 88 RX1 yX1_length wsX1_length) := goodIn_app (goodIn_of _ (by decide +kernel)) ggX2_frequentSize_X1_length
theorem dX2_frequentSize_0 : decode cX2_frequentSize 0 = .ok (.aload_n 0, 1) := by decide +kernel
theorem dX2_frequentSize_1 : decode cX2_frequentSize 1 = .ok (.getfield 12, 3) := by decide +kernel
theorem dX2_frequentSize_4 : decode cX2_frequentSize 4 = .ok (.getfield 91, 3) := by decide +kernel
theorem dX2_frequentSize_7 : decode cX2_frequentSize 7 = .ok (.invokevirtual 88, 3) := by decide +kernel
theorem dX2_frequentSize_10 : decode cX2_frequentSize 10 = .ok (.ireturn, 1) := by decide +kernel
set_option maxRecDepth 20000 in
theorem ggX2_recentGhosts_X1_length : GoodIn wsX2_recentGhosts wsX1_length := goodIn_r _ [6, 7, 26, 27] (by decide +kernel) (by decide +kernel)
set_option maxRecDepth 20000 in
theorem gX2_recentGhosts_X1_length : GoodIn wsX2_recentGhosts (wsV RX2 88 RX1 yX1_length wsX1_length) := goodIn_app (goodIn_of _ (by decide +kernel)) ggX2_recentGhosts_X1_length
theorem dX2_recentGhosts_0 : decode cX2_recentGhosts 0 = .ok (.aload_n 0, 1) := by decide +kernel
theorem dX2_recentGhosts_1 : decode cX2_recentGhosts 1 = .ok (.getfield 12, 3) := by decide +kernel
theorem dX2_recentGhosts_4 : decode cX2_recentGhosts 4 = .ok (.getfield 94, 3) := by decide +kernel
theorem dX2_recentGhosts_7 : decode cX2_recentGhosts 7 = .ok (.invokevirtual 88, 3) := by decide +kernel
theorem dX2_recentGhosts_10 : decode cX2_recentGhosts 10 = .ok (.ireturn, 1) := by decide +kernel
set_option maxRecDepth 20000 in
theorem ggX2_frequentGhosts_X1_length : GoodIn wsX2_frequentGhosts wsX1_length := goodIn_r _ [6, 7, 26, 27] (by decide +kernel) (by decide +kernel)
set_option maxRecDepth 20000 in
theorem gX2_frequentGhosts_X1_length : GoodIn wsX2_frequentGhosts (wsV RX2 88 RX1 yX1_length wsX1_length) := goodIn_app (goodIn_of _ (by decide +kernel)) ggX2_frequentGhosts_X1_length
theorem dX2_frequentGhosts_0 : decode cX2_frequentGhosts 0 = .ok (.aload_n 0, 1) := by decide +kernel
theorem dX2_frequentGhosts_1 : decode cX2_frequentGhosts 1 = .ok (.getfield 12, 3) := by decide +kernel
theorem dX2_frequentGhosts_4 : decode cX2_frequentGhosts 4 = .ok (.getfield 97, 3) := by decide +kernel
theorem dX2_frequentGhosts_7 : decode cX2_frequentGhosts 7 = .ok (.invokevirtual 88, 3) := by decide +kernel
theorem dX2_frequentGhosts_10 : decode cX2_frequentGhosts 10 = .ok (.ireturn, 1) := by decide +kernel
set_option maxRecDepth 20000 in
theorem ggX2_recentAt_X2_keyAt : GoodIn wsX2_recentAt wsX2_keyAt := goodIn_ca (goodIn_r _ [5, 6, 7, 8, 9, 10, 11, 12, 13, 14, 15, 16, 17, 18, 19, 20, 21, 22, 41, 42] (by decide +kernel) (by decide +kernel)) (goodIn_sub (fun _ h => List.mem_cons_of_mem _ (List.mem_append_right _ h)) (by decide +kernel))
set_option maxRecDepth 20000 in
theorem gX2_recentAt_X2_keyAt : GoodIn wsX2_recentAt (va_wsS RX2 100 yX2_keyAt wsX2_keyAt) := goodIn_app (goodIn_of _ (by decide +kernel)) ggX2_recentAt_X2_keyAt
theorem dX2_recentAt_0 : decode cX2_recentAt 0 = .ok (.aload_n 0, 1) := by decide +kernel
theorem dX2_recentAt_1 : decode cX2_recentAt 1 = .ok (.getfield 12, 3) := by decide +kernel
theorem dX2_recentAt_4 : decode cX2_recentAt 4 = .ok (.getfield 85, 3) := by decide +kernel
theorem dX2_recentAt_7 : decode cX2_recentAt 7 = .ok (.iload_n 1, 1) := by decide +kernel
theorem dX2_recentAt_8 : decode cX2_recentAt 8 = .ok (.invokestatic 100, 3) := by decide +kernel
theorem dX2_recentAt_11 : decode cX2_recentAt 11 = .ok (.ireturn, 1) := by decide +kernel
set_option maxRecDepth 20000 in
theorem ggX2_frequentAt_X2_keyAt : GoodIn wsX2_frequentAt wsX2_keyAt := goodIn_ca (goodIn_r _ [5, 6, 7, 8, 9, 10, 11, 12, 13, 14, 15, 16, 17, 18, 19, 20, 21, 22, 41, 42] (by decide +kernel) (by decide +kernel)) (goodIn_sub (fun _ h => List.mem_cons_of_mem _ (List.mem_append_right _ h)) (by decide +kernel))
set_option maxRecDepth 20000 in
theorem gX2_frequentAt_X2_keyAt : GoodIn wsX2_frequentAt (va_wsS RX2 100 yX2_keyAt wsX2_keyAt) := goodIn_app (goodIn_of _ (by decide +kernel)) ggX2_frequentAt_X2_keyAt
theorem dX2_frequentAt_0 : decode cX2_frequentAt 0 = .ok (.aload_n 0, 1) := by decide +kernel
theorem dX2_frequentAt_1 : decode cX2_frequentAt 1 = .ok (.getfield 12, 3) := by decide +kernel
theorem dX2_frequentAt_4 : decode cX2_frequentAt 4 = .ok (.getfield 91, 3) := by decide +kernel
theorem dX2_frequentAt_7 : decode cX2_frequentAt 7 = .ok (.iload_n 1, 1) := by decide +kernel
theorem dX2_frequentAt_8 : decode cX2_frequentAt 8 = .ok (.invokestatic 100, 3) := by decide +kernel
theorem dX2_frequentAt_11 : decode cX2_frequentAt 11 = .ok (.ireturn, 1) := by decide +kernel
set_option maxRecDepth 20000 in
theorem ggX2_recentGhostAt_X2_keyAt : GoodIn wsX2_recentGhostAt wsX2_keyAt := goodIn_ca (goodIn_r _ [5, 6, 7, 8, 9, 10, 11, 12, 13, 14, 15, 16, 17, 18, 19, 20, 21, 22, 41, 42] (by decide +kernel) (by decide +kernel)) (goodIn_sub (fun _ h => List.mem_cons_of_mem _ (List.mem_append_right _ h)) (by decide +kernel))
set_option maxRecDepth 20000 in
theorem gX2_recentGhostAt_X2_keyAt : GoodIn wsX2_recentGhostAt (va_wsS RX2 100 yX2_keyAt wsX2_keyAt) := goodIn_app (goodIn_of _ (by decide +kernel)) ggX2_recentGhostAt_X2_keyAt
theorem dX2_recentGhostAt_0 : decode cX2_recentGhostAt 0 = .ok (.aload_n 0, 1) := by decide +kernel
theorem dX2_recentGhostAt_1 : decode cX2_recentGhostAt 1 = .ok (.getfield 12, 3) := by decide +kernel
theorem dX2_recentGhostAt_4 : decode cX2_recentGhostAt 4 = .ok (.getfield 94, 3) := by decide +kernel
theorem dX2_recentGhostAt_7 : decode cX2_recentGhostAt 7 = .ok (.iload_n 1, 1) := by decide +kernel
theorem dX2_recentGhostAt_8 : decode cX2_recentGhostAt 8 = .ok (.invokestatic 100, 3) := by decide +kernel
theorem dX2_recentGhostAt_11 : decode cX2_recentGhostAt 11 = .ok (.ireturn, 1) := by decide +kernel
set_option maxRecDepth 20000 in
theorem ggX2_frequentGhostAt_X2_keyAt : GoodIn wsX2_frequentGhostAt wsX2_keyAt := goodIn_ca (goodIn_r _ [5, 6, 7, 8, 9, 10, 11, 12, 13, 14, 15, 16, 17, 18, 19, 20, 21, 22, 41, 42] (by decide +kernel) (by decide +kernel)) (goodIn_sub (fun _ h => List.mem_cons_of_mem _ (List.mem_append_right _ h)) (by decide +kernel))
set_option maxRecDepth 20000 in
theorem gX2_frequentGhostAt_X2_keyAt : GoodIn wsX2_frequentGhostAt (va_wsS RX2 100 yX2_keyAt wsX2_keyAt) := goodIn_app (goodIn_of _ (by decide +kernel)) ggX2_frequentGhostAt_X2_keyAt
theorem dX2_frequentGhostAt_0 : decode cX2_frequentGhostAt 0 = .ok (.aload_n 0, 1) := by decide +kernel
theorem dX2_frequentGhostAt_1 : decode cX2_frequentGhostAt 1 = .ok (.getfield 12, 3) := by decide +kernel
theorem dX2_frequentGhostAt_4 : decode cX2_frequentGhostAt 4 = .ok (.getfield 97, 3) := by decide +kernel
theorem dX2_frequentGhostAt_7 : decode cX2_frequentGhostAt 7 = .ok (.iload_n 1, 1) := by decide +kernel
theorem dX2_frequentGhostAt_8 : decode cX2_frequentGhostAt 8 = .ok (.invokestatic 100, 3) := by decide +kernel
theorem dX2_frequentGhostAt_11 : decode cX2_frequentGhostAt 11 = .ok (.ireturn, 1) := by decide +kernel
theorem dX2_requests_0 : decode cX2_requests 0 = .ok (.aload_n 0, 1) := by decide +kernel
theorem dX2_requests_1 : decode cX2_requests 1 = .ok (.getfield 104, 3) := by decide +kernel
theorem dX2_requests_4 : decode cX2_requests 4 = .ok (.ireturn, 1) := by decide +kernel
theorem dX2_hits_0 : decode cX2_hits 0 = .ok (.aload_n 0, 1) := by decide +kernel
theorem dX2_hits_1 : decode cX2_hits 1 = .ok (.getfield 107, 3) := by decide +kernel
theorem dX2_hits_4 : decode cX2_hits 4 = .ok (.ireturn, 1) := by decide +kernel
theorem dX2_ghostHits_0 : decode cX2_ghostHits 0 = .ok (.aload_n 0, 1) := by decide +kernel
theorem dX2_ghostHits_1 : decode cX2_ghostHits 1 = .ok (.getfield 110, 3) := by decide +kernel
theorem dX2_ghostHits_4 : decode cX2_ghostHits 4 = .ok (.ireturn, 1) := by decide +kernel
theorem dX2_bypassed_0 : decode cX2_bypassed 0 = .ok (.aload_n 0, 1) := by decide +kernel
theorem dX2_bypassed_1 : decode cX2_bypassed 1 = .ok (.getfield 113, 3) := by decide +kernel
theorem dX2_bypassed_4 : decode cX2_bypassed 4 = .ok (.ireturn, 1) := by decide +kernel
theorem dX2_evictions_0 : decode cX2_evictions 0 = .ok (.aload_n 0, 1) := by decide +kernel
theorem dX2_evictions_1 : decode cX2_evictions 1 = .ok (.getfield 12, 3) := by decide +kernel
theorem dX2_evictions_4 : decode cX2_evictions 4 = .ok (.getfield 116, 3) := by decide +kernel
theorem dX2_evictions_7 : decode cX2_evictions 7 = .ok (.ireturn, 1) := by decide +kernel
set_option maxRecDepth 20000 in
theorem ggX2_hitsIf_X2_checkCapacity : GoodIn wsX2_hitsIf wsX2_checkCapacity := goodIn_ca (goodIn_r _ [7, 8, 9] (by decide +kernel) (by decide +kernel)) (goodIn_sub (fun _ h => List.mem_cons_of_mem _ (List.mem_append_right _ h)) (by decide +kernel))
set_option maxRecDepth 20000 in
theorem gX2_hitsIf_X2_checkCapacity : GoodIn wsX2_hitsIf (va_wsS RX2 50 yX2_checkCapacity wsX2_checkCapacity) := goodIn_app (goodIn_of _ (by decide +kernel)) ggX2_hitsIf_X2_checkCapacity
set_option maxRecDepth 20000 in
theorem ggX2_hitsIf_X0_startAnew : GoodIn wsX2_hitsIf wsX0_startAnew := goodIn_r _ [14, 15, 16, 17, 18, 19, 20, 21, 22, 13, 23, 24, 25, 26, 27, 28, 29, 30, 31, 32, 33, 34, 35, 36, 37, 38, 39, 40, 41, 42, 147, 148, 149, 150, 151, 152, 153, 154, 155, 156, 157, 158] (by decide +kernel) (by decide +kernel)
set_option maxRecDepth 20000 in
theorem gX2_hitsIf_X0_startAnew : GoodIn wsX2_hitsIf (wsV RX2 119 RX0 yX0_startAnew wsX0_startAnew) := goodIn_app (goodIn_of _ (by decide +kernel)) ggX2_hitsIf_X0_startAnew
set_option maxRecDepth 20000 in
theorem ggX2_hitsIf_X1_length : GoodIn wsX2_hitsIf wsX1_length := goodIn_r _ [37, 38, 157, 158] (by decide +kernel) (by decide +kernel)
set_option maxRecDepth 20000 in
theorem gX2_hitsIf_X1_length : GoodIn wsX2_hitsIf (wsV RX2 88 RX1 yX1_length wsX1_length) := goodIn_app (goodIn_of _ (by decide +kernel)) ggX2_hitsIf_X1_length
set_option maxRecDepth 20000 in
theorem ggX2_hitsIf_X1_fromOldest : GoodIn wsX2_hitsIf wsX1_fromOldest := goodIn_r _ [47, 38, 48, 157, 158] (by decide +kernel) (by decide +kernel)
set_option maxRecDepth 20000 in
theorem gX2_hitsIf_X1_fromOldest : GoodIn wsX2_hitsIf (wsV RX2 123 RX1 yX1_fromOldest wsX1_fromOldest) := goodIn_app (goodIn_of _ (by decide +kernel)) ggX2_hitsIf_X1_fromOldest
set_option maxRecDepth 20000 in
theorem ggX2_hitsIf_X0_serve : GoodIn wsX2_hitsIf wsX0_serve := goodIn_r _ [52, 16, 17, 25, 53, 54, 55, 13, 56, 18, 57, 58, 59, 60, 24, 26, 27, 61, 62, 63, 36, 64, 65, 66, 67, 68, 38, 48, 69, 6, 70, 71, 72, 73, 74, 19, 15, 75, 76, 77, 78, 79, 80, 81, 82, 33, 34, 35, 37, 83, 84, 85, 86, 87, 45, 46, 47, 88, 89, 90, 91, 92, 93, 94, 95, 29, 30, 31, 32, 96, 97, 98, 99, 100, 101, 102, 103, 104, 105, 106, 107, 108, 109, 110, 111, 28, 112, 113, 114, 115, 116, 117, 118, 119, 120, 121, 122, 123, 124, 125, 126, 127, 128, 129, 130, 131, 132, 133, 134, 135, 136, 137, 147, 148, 149, 150, 151, 152, 153, 154, 155, 156, 157, 158] (by decide +kernel) (by decide +kernel)
set_option maxRecDepth 20000 in
theorem gX2_hitsIf_X0_serve : GoodIn wsX2_hitsIf (wsV RX2 36 RX0 yX0_serve wsX0_serve) := goodIn_app (goodIn_of _ (by decide +kernel)) ggX2_hitsIf_X0_serve
set_option maxRecDepth 20000 in
theorem ggX2_hitsIf_X2_isPage : GoodIn wsX2_hitsIf wsX2_isPage := goodIn_r _ [70] (by decide +kernel) (by decide +kernel)
set_option maxRecDepth 20000 in
theorem gX2_hitsIf_X2_isPage : GoodIn wsX2_hitsIf (va_wsS RX2 126 yX2_isPage wsX2_isPage) := goodIn_app (goodIn_of _ (by decide +kernel)) ggX2_hitsIf_X2_isPage
theorem dX2_hitsIf_0 : decode cX2_hitsIf 0 = .ok (.iload_n 1, 1) := by decide +kernel
theorem dX2_hitsIf_1 : decode cX2_hitsIf 1 = .ok (.invokestatic 50, 3) := by decide +kernel
theorem dX2_hitsIf_4 : decode cX2_hitsIf 4 = .ok (.aload_n 0, 1) := by decide +kernel
theorem dX2_hitsIf_5 : decode cX2_hitsIf 5 = .ok (.getfield 23, 3) := by decide +kernel
theorem dX2_hitsIf_8 : decode cX2_hitsIf 8 = .ok (.iload_n 1, 1) := by decide +kernel
theorem dX2_hitsIf_9 : decode cX2_hitsIf 9 = .ok (.aload_n 0, 1) := by decide +kernel
theorem dX2_hitsIf_10 : decode cX2_hitsIf 10 = .ok (.getfield 12, 3) := by decide +kernel
theorem dX2_hitsIf_13 : decode cX2_hitsIf 13 = .ok (.getfield 67, 3) := by decide +kernel
theorem dX2_hitsIf_16 : decode cX2_hitsIf 16 = .ok (.invokevirtual 119, 3) := by decide +kernel
theorem dX2_hitsIf_19 : decode cX2_hitsIf 19 = .ok (.iconst 0, 1) := by decide +kernel
theorem dX2_hitsIf_20 : decode cX2_hitsIf 20 = .ok (.istore_n 2, 1) := by decide +kernel
theorem dX2_hitsIf_21 : decode cX2_hitsIf 21 = .ok (.iconst 0, 1) := by decide +kernel
theorem dX2_hitsIf_22 : decode cX2_hitsIf 22 = .ok (.istore_n 3, 1) := by decide +kernel
theorem dX2_hitsIf_23 : decode cX2_hitsIf 23 = .ok (.iload_n 3, 1) := by decide +kernel
theorem dX2_hitsIf_24 : decode cX2_hitsIf 24 = .ok (.aload_n 0, 1) := by decide +kernel
theorem dX2_hitsIf_25 : decode cX2_hitsIf 25 = .ok (.getfield 19, 3) := by decide +kernel
theorem dX2_hitsIf_28 : decode cX2_hitsIf 28 = .ok (.invokevirtual 88, 3) := by decide +kernel
theorem dX2_hitsIf_31 : decode cX2_hitsIf 31 = .ok (.if_icmp .ge 33, 3) := by decide +kernel
theorem dX2_hitsIf_34 : decode cX2_hitsIf 34 = .ok (.aload_n 0, 1) := by decide +kernel
theorem dX2_hitsIf_35 : decode cX2_hitsIf 35 = .ok (.getfield 23, 3) := by decide +kernel
theorem dX2_hitsIf_38 : decode cX2_hitsIf 38 = .ok (.aload_n 0, 1) := by decide +kernel
theorem dX2_hitsIf_39 : decode cX2_hitsIf 39 = .ok (.getfield 19, 3) := by decide +kernel
theorem dX2_hitsIf_42 : decode cX2_hitsIf 42 = .ok (.iload_n 3, 1) := by decide +kernel
theorem dX2_hitsIf_43 : decode cX2_hitsIf 43 = .ok (.invokevirtual 123, 3) := by decide +kernel
theorem dX2_hitsIf_46 : decode cX2_hitsIf 46 = .ok (.invokevirtual 36, 3) := by decide +kernel
theorem dX2_hitsIf_49 : decode cX2_hitsIf 49 = .ok (.invokestatic 126, 3) := by decide +kernel
theorem dX2_hitsIf_52 : decode cX2_hitsIf 52 = .ok (.ifCond .eq 6, 3) := by decide +kernel
theorem dX2_hitsIf_55 : decode cX2_hitsIf 55 = .ok (.iinc 2 1, 3) := by decide +kernel
theorem dX2_hitsIf_58 : decode cX2_hitsIf 58 = .ok (.iinc 3 1, 3) := by decide +kernel
theorem dX2_hitsIf_61 : decode cX2_hitsIf 61 = .ok (.goto (-38), 3) := by decide +kernel
theorem dX2_hitsIf_64 : decode cX2_hitsIf 64 = .ok (.iload_n 2, 1) := by decide +kernel
theorem dX2_hitsIf_65 : decode cX2_hitsIf 65 = .ok (.ireturn, 1) := by decide +kernel
set_option maxRecDepth 20000 in
theorem ggX2_leastRecentHitsIf_X2_checkCapacity : GoodIn wsX2_leastRecentHitsIf wsX2_checkCapacity := goodIn_ca (goodIn_r _ [6, 7, 8] (by decide +kernel) (by decide +kernel)) (goodIn_sub (fun _ h => List.mem_cons_of_mem _ (List.mem_append_right _ h)) (by decide +kernel))
set_option maxRecDepth 20000 in
theorem gX2_leastRecentHitsIf_X2_checkCapacity : GoodIn wsX2_leastRecentHitsIf (va_wsS RX2 50 yX2_checkCapacity wsX2_checkCapacity) := goodIn_app (goodIn_of _ (by decide +kernel)) ggX2_leastRecentHitsIf_X2_checkCapacity
set_option maxRecDepth 20000 in
theorem ggX2_leastRecentHitsIf_X1_empty : GoodIn wsX2_leastRecentHitsIf wsX1_empty := goodIn_r _ [13, 14, 53, 54] (by decide +kernel) (by decide +kernel)
set_option maxRecDepth 20000 in
theorem gX2_leastRecentHitsIf_X1_empty : GoodIn wsX2_leastRecentHitsIf (wsV RX2 130 RX1 yX1_empty wsX1_empty) := goodIn_app (goodIn_of _ (by decide +kernel)) ggX2_leastRecentHitsIf_X1_empty
set_option maxRecDepth 20000 in
theorem ggX2_leastRecentHitsIf_X1_length : GoodIn wsX2_leastRecentHitsIf wsX1_length := goodIn_r _ [18, 14, 53, 54] (by decide +kernel) (by decide +kernel)
set_option maxRecDepth 20000 in
theorem gX2_leastRecentHitsIf_X1_length : GoodIn wsX2_leastRecentHitsIf (wsV RX2 88 RX1 yX1_length wsX1_length) := goodIn_app (goodIn_of _ (by decide +kernel)) ggX2_leastRecentHitsIf_X1_length
set_option maxRecDepth 20000 in
theorem ggX2_leastRecentHitsIf_X1_fromOldest : GoodIn wsX2_leastRecentHitsIf wsX1_fromOldest := goodIn_r _ [22, 14, 23, 53, 54] (by decide +kernel) (by decide +kernel)
set_option maxRecDepth 20000 in
theorem gX2_leastRecentHitsIf_X1_fromOldest : GoodIn wsX2_leastRecentHitsIf (wsV RX2 123 RX1 yX1_fromOldest wsX1_fromOldest) := goodIn_app (goodIn_of _ (by decide +kernel)) ggX2_leastRecentHitsIf_X1_fromOldest
set_option maxRecDepth 20000 in
theorem ggX2_leastRecentHitsIf_X1_takeOut : GoodIn wsX2_leastRecentHitsIf wsX1_takeOut := goodIn_r _ [27, 28, 29, 30, 12, 31, 14, 23, 32, 33, 34, 35, 53, 54] (by decide +kernel) (by decide +kernel)
set_option maxRecDepth 20000 in
theorem gX2_leastRecentHitsIf_X1_takeOut : GoodIn wsX2_leastRecentHitsIf (wsV RX2 133 RX1 yX1_takeOut wsX1_takeOut) := goodIn_app (goodIn_of _ (by decide +kernel)) ggX2_leastRecentHitsIf_X1_takeOut
set_option maxRecDepth 20000 in
theorem ggX2_leastRecentHitsIf_X1_takeOldest : GoodIn wsX2_leastRecentHitsIf wsX1_takeOldest := goodIn_r _ [39, 40, 20, 21, 12, 22, 14, 23, 32, 33, 34, 35, 53, 54] (by decide +kernel) (by decide +kernel)
set_option maxRecDepth 20000 in
theorem gX2_leastRecentHitsIf_X1_takeOldest : GoodIn wsX2_leastRecentHitsIf (wsV RX2 136 RX1 yX1_takeOldest wsX1_takeOldest) := goodIn_app (goodIn_of _ (by decide +kernel)) ggX2_leastRecentHitsIf_X1_takeOldest
set_option maxRecDepth 20000 in
theorem ggX2_leastRecentHitsIf_X1_join : GoodIn wsX2_leastRecentHitsIf wsX1_join := goodIn_r _ [44, 14, 23, 53, 54] (by decide +kernel) (by decide +kernel)
set_option maxRecDepth 20000 in
theorem gX2_leastRecentHitsIf_X1_join : GoodIn wsX2_leastRecentHitsIf (wsV RX2 139 RX1 yX1_join wsX1_join) := goodIn_app (goodIn_of _ (by decide +kernel)) ggX2_leastRecentHitsIf_X1_join
theorem dX2_leastRecentHitsIf_0 : decode cX2_leastRecentHitsIf 0 = .ok (.iload_n 1, 1) := by decide +kernel
theorem dX2_leastRecentHitsIf_1 : decode cX2_leastRecentHitsIf 1 = .ok (.invokestatic 50, 3) := by decide +kernel
theorem dX2_leastRecentHitsIf_4 : decode cX2_leastRecentHitsIf 4 = .ok (.aload_n 0, 1) := by decide +kernel
theorem dX2_leastRecentHitsIf_5 : decode cX2_leastRecentHitsIf 5 = .ok (.getfield 26, 3) := by decide +kernel
theorem dX2_leastRecentHitsIf_8 : decode cX2_leastRecentHitsIf 8 = .ok (.invokevirtual 130, 3) := by decide +kernel
theorem dX2_leastRecentHitsIf_11 : decode cX2_leastRecentHitsIf 11 = .ok (.iconst 0, 1) := by decide +kernel
theorem dX2_leastRecentHitsIf_12 : decode cX2_leastRecentHitsIf 12 = .ok (.istore_n 2, 1) := by decide +kernel
theorem dX2_leastRecentHitsIf_13 : decode cX2_leastRecentHitsIf 13 = .ok (.iconst 0, 1) := by decide +kernel
theorem dX2_leastRecentHitsIf_14 : decode cX2_leastRecentHitsIf 14 = .ok (.istore_n 3, 1) := by decide +kernel
theorem dX2_leastRecentHitsIf_15 : decode cX2_leastRecentHitsIf 15 = .ok (.iload_n 3, 1) := by decide +kernel
theorem dX2_leastRecentHitsIf_16 : decode cX2_leastRecentHitsIf 16 = .ok (.aload_n 0, 1) := by decide +kernel
theorem dX2_leastRecentHitsIf_17 : decode cX2_leastRecentHitsIf 17 = .ok (.getfield 19, 3) := by decide +kernel
theorem dX2_leastRecentHitsIf_20 : decode cX2_leastRecentHitsIf 20 = .ok (.invokevirtual 88, 3) := by decide +kernel
theorem dX2_leastRecentHitsIf_23 : decode cX2_leastRecentHitsIf 23 = .ok (.if_icmp .ge 65, 3) := by decide +kernel
theorem dX2_leastRecentHitsIf_26 : decode cX2_leastRecentHitsIf 26 = .ok (.aload_n 0, 1) := by decide +kernel
theorem dX2_leastRecentHitsIf_27 : decode cX2_leastRecentHitsIf 27 = .ok (.getfield 19, 3) := by decide +kernel
theorem dX2_leastRecentHitsIf_30 : decode cX2_leastRecentHitsIf 30 = .ok (.iload_n 3, 1) := by decide +kernel
theorem dX2_leastRecentHitsIf_31 : decode cX2_leastRecentHitsIf 31 = .ok (.invokevirtual 123, 3) := by decide +kernel
theorem dX2_leastRecentHitsIf_34 : decode cX2_leastRecentHitsIf 34 = .ok (.istore 4, 2) := by decide +kernel
theorem dX2_leastRecentHitsIf_36 : decode cX2_leastRecentHitsIf 36 = .ok (.aload_n 0, 1) := by decide +kernel
theorem dX2_leastRecentHitsIf_37 : decode cX2_leastRecentHitsIf 37 = .ok (.getfield 26, 3) := by decide +kernel
theorem dX2_leastRecentHitsIf_40 : decode cX2_leastRecentHitsIf 40 = .ok (.iload 4, 2) := by decide +kernel
theorem dX2_leastRecentHitsIf_42 : decode cX2_leastRecentHitsIf 42 = .ok (.invokevirtual 133, 3) := by decide +kernel
theorem dX2_leastRecentHitsIf_45 : decode cX2_leastRecentHitsIf 45 = .ok (.ifCond .eq 9, 3) := by decide +kernel
theorem dX2_leastRecentHitsIf_48 : decode cX2_leastRecentHitsIf 48 = .ok (.iinc 2 1, 3) := by decide +kernel
theorem dX2_leastRecentHitsIf_51 : decode cX2_leastRecentHitsIf 51 = .ok (.goto 22, 3) := by decide +kernel
theorem dX2_leastRecentHitsIf_54 : decode cX2_leastRecentHitsIf 54 = .ok (.aload_n 0, 1) := by decide +kernel
theorem dX2_leastRecentHitsIf_55 : decode cX2_leastRecentHitsIf 55 = .ok (.getfield 26, 3) := by decide +kernel
theorem dX2_leastRecentHitsIf_58 : decode cX2_leastRecentHitsIf 58 = .ok (.invokevirtual 88, 3) := by decide +kernel
theorem dX2_leastRecentHitsIf_61 : decode cX2_leastRecentHitsIf 61 = .ok (.iload_n 1, 1) := by decide +kernel
theorem dX2_leastRecentHitsIf_62 : decode cX2_leastRecentHitsIf 62 = .ok (.if_icmp .lt 11, 3) := by decide +kernel
theorem dX2_leastRecentHitsIf_65 : decode cX2_leastRecentHitsIf 65 = .ok (.aload_n 0, 1) := by decide +kernel
theorem dX2_leastRecentHitsIf_66 : decode cX2_leastRecentHitsIf 66 = .ok (.getfield 26, 3) := by decide +kernel
theorem dX2_leastRecentHitsIf_69 : decode cX2_leastRecentHitsIf 69 = .ok (.invokevirtual 136, 3) := by decide +kernel
theorem dX2_leastRecentHitsIf_72 : decode cX2_leastRecentHitsIf 72 = .ok (.pop, 1) := by decide +kernel
theorem dX2_leastRecentHitsIf_73 : decode cX2_leastRecentHitsIf 73 = .ok (.aload_n 0, 1) := by decide +kernel
theorem dX2_leastRecentHitsIf_74 : decode cX2_leastRecentHitsIf 74 = .ok (.getfield 26, 3) := by decide +kernel
theorem dX2_leastRecentHitsIf_77 : decode cX2_leastRecentHitsIf 77 = .ok (.iload 4, 2) := by decide +kernel
theorem dX2_leastRecentHitsIf_79 : decode cX2_leastRecentHitsIf 79 = .ok (.invokevirtual 139, 3) := by decide +kernel
theorem dX2_leastRecentHitsIf_82 : decode cX2_leastRecentHitsIf 82 = .ok (.iinc 3 1, 3) := by decide +kernel
theorem dX2_leastRecentHitsIf_85 : decode cX2_leastRecentHitsIf 85 = .ok (.goto (-70), 3) := by decide +kernel
theorem dX2_leastRecentHitsIf_88 : decode cX2_leastRecentHitsIf 88 = .ok (.iload_n 2, 1) := by decide +kernel
theorem dX2_leastRecentHitsIf_89 : decode cX2_leastRecentHitsIf 89 = .ok (.ireturn, 1) := by decide +kernel
theorem dX2_checkKey_0 : decode cX2_checkKey 0 = .ok (.iload_n 0, 1) := by decide +kernel
theorem dX2_checkKey_1 : decode cX2_checkKey 1 = .ok (.ifCond .lt 10, 3) := by decide +kernel
theorem dX2_checkKey_4 : decode cX2_checkKey 4 = .ok (.iload_n 0, 1) := by decide +kernel
theorem dX2_checkKey_5 : decode cX2_checkKey 5 = .ok (.sipush 9999, 3) := by decide +kernel
theorem dX2_checkKey_8 : decode cX2_checkKey 8 = .ok (.if_icmp .le 13, 3) := by decide +kernel
theorem dX2_checkKey_11 : decode cX2_checkKey 11 = .ok (.new 60, 3) := by decide +kernel
theorem dX2_checkKey_14 : decode cX2_checkKey 14 = .ok (.dup, 1) := by decide +kernel
theorem dX2_checkKey_15 : decode cX2_checkKey 15 = .ok (.ldc 142, 2) := by decide +kernel
theorem dX2_checkKey_17 : decode cX2_checkKey 17 = .ok (.invokespecial 64, 3) := by decide +kernel
theorem dX2_checkKey_20 : decode cX2_checkKey 20 = .ok (.athrow, 1) := by decide +kernel
theorem dX2_checkKey_21 : decode cX2_checkKey 21 = .ok (.return_, 1) := by decide +kernel
theorem dX2_checkCapacity_0 : decode cX2_checkCapacity 0 = .ok (.iload_n 0, 1) := by decide +kernel
theorem dX2_checkCapacity_1 : decode cX2_checkCapacity 1 = .ok (.iconst 1, 1) := by decide +kernel
theorem dX2_checkCapacity_2 : decode cX2_checkCapacity 2 = .ok (.if_icmp .lt 9, 3) := by decide +kernel
theorem dX2_checkCapacity_5 : decode cX2_checkCapacity 5 = .ok (.iload_n 0, 1) := by decide +kernel
theorem dX2_checkCapacity_6 : decode cX2_checkCapacity 6 = .ok (.bipush 32, 2) := by decide +kernel
theorem dX2_checkCapacity_8 : decode cX2_checkCapacity 8 = .ok (.if_icmp .le 13, 3) := by decide +kernel
theorem dX2_checkCapacity_11 : decode cX2_checkCapacity 11 = .ok (.new 60, 3) := by decide +kernel
theorem dX2_checkCapacity_14 : decode cX2_checkCapacity 14 = .ok (.dup, 1) := by decide +kernel
theorem dX2_checkCapacity_15 : decode cX2_checkCapacity 15 = .ok (.ldc 144, 2) := by decide +kernel
theorem dX2_checkCapacity_17 : decode cX2_checkCapacity 17 = .ok (.invokespecial 64, 3) := by decide +kernel
theorem dX2_checkCapacity_20 : decode cX2_checkCapacity 20 = .ok (.athrow, 1) := by decide +kernel
theorem dX2_checkCapacity_21 : decode cX2_checkCapacity 21 = .ok (.return_, 1) := by decide +kernel
set_option maxRecDepth 20000 in
theorem ggX2_keyAt_X1_length : GoodIn wsX2_keyAt wsX1_length := goodIn_r _ [7, 8, 18, 19] (by decide +kernel) (by decide +kernel)
set_option maxRecDepth 20000 in
theorem gX2_keyAt_X1_length : GoodIn wsX2_keyAt (wsV RX2 88 RX1 yX1_length wsX1_length) := goodIn_app (goodIn_of _ (by decide +kernel)) ggX2_keyAt_X1_length
set_option maxRecDepth 20000 in
theorem ggX2_keyAt_X1_fromNewest : GoodIn wsX2_keyAt wsX1_fromNewest := goodIn_r _ [12, 8, 13, 14, 15, 6, 16, 17, 18, 19] (by decide +kernel) (by decide +kernel)
set_option maxRecDepth 20000 in
theorem gX2_keyAt_X1_fromNewest : GoodIn wsX2_keyAt (wsV RX2 151 RX1 yX1_fromNewest wsX1_fromNewest) := goodIn_app (goodIn_of _ (by decide +kernel)) ggX2_keyAt_X1_fromNewest
theorem dX2_keyAt_0 : decode cX2_keyAt 0 = .ok (.iload_n 1, 1) := by decide +kernel
theorem dX2_keyAt_1 : decode cX2_keyAt 1 = .ok (.ifCond .lt 11, 3) := by decide +kernel
theorem dX2_keyAt_4 : decode cX2_keyAt 4 = .ok (.iload_n 1, 1) := by decide +kernel
theorem dX2_keyAt_5 : decode cX2_keyAt 5 = .ok (.aload_n 0, 1) := by decide +kernel
theorem dX2_keyAt_6 : decode cX2_keyAt 6 = .ok (.invokevirtual 88, 3) := by decide +kernel
theorem dX2_keyAt_9 : decode cX2_keyAt 9 = .ok (.if_icmp .lt 13, 3) := by decide +kernel
theorem dX2_keyAt_12 : decode cX2_keyAt 12 = .ok (.new 146, 3) := by decide +kernel
theorem dX2_keyAt_15 : decode cX2_keyAt 15 = .ok (.dup, 1) := by decide +kernel
theorem dX2_keyAt_16 : decode cX2_keyAt 16 = .ok (.ldc 148, 2) := by decide +kernel
theorem dX2_keyAt_18 : decode cX2_keyAt 18 = .ok (.invokespecial 150, 3) := by decide +kernel
theorem dX2_keyAt_21 : decode cX2_keyAt 21 = .ok (.athrow, 1) := by decide +kernel
theorem dX2_keyAt_22 : decode cX2_keyAt 22 = .ok (.aload_n 0, 1) := by decide +kernel
theorem dX2_keyAt_23 : decode cX2_keyAt 23 = .ok (.iload_n 1, 1) := by decide +kernel
theorem dX2_keyAt_24 : decode cX2_keyAt 24 = .ok (.invokevirtual 151, 3) := by decide +kernel
theorem dX2_keyAt_27 : decode cX2_keyAt 27 = .ok (.ireturn, 1) := by decide +kernel
theorem dX2_isPage_0 : decode cX2_isPage 0 = .ok (.iload_n 0, 1) := by decide +kernel
theorem dX2_isPage_1 : decode cX2_isPage 1 = .ok (.iconst 1, 1) := by decide +kernel
theorem dX2_isPage_2 : decode cX2_isPage 2 = .ok (.if_icmp .eq 8, 3) := by decide +kernel
theorem dX2_isPage_5 : decode cX2_isPage 5 = .ok (.iload_n 0, 1) := by decide +kernel
theorem dX2_isPage_6 : decode cX2_isPage 6 = .ok (.iconst 2, 1) := by decide +kernel
theorem dX2_isPage_7 : decode cX2_isPage 7 = .ok (.if_icmp .ne 7, 3) := by decide +kernel
theorem dX2_isPage_10 : decode cX2_isPage 10 = .ok (.iconst 1, 1) := by decide +kernel
theorem dX2_isPage_11 : decode cX2_isPage 11 = .ok (.goto 4, 3) := by decide +kernel
theorem dX2_isPage_14 : decode cX2_isPage 14 = .ok (.iconst 0, 1) := by decide +kernel
theorem dX2_isPage_15 : decode cX2_isPage 15 = .ok (.ireturn, 1) := by decide +kernel
set_option maxRecDepth 20000 in
theorem ggX2_addToLog_X1_length : GoodIn wsX2_addToLog wsX1_length := goodIn_r _ [6, 7, 33, 34] (by decide +kernel) (by decide +kernel)
set_option maxRecDepth 20000 in
theorem gX2_addToLog_X1_length : GoodIn wsX2_addToLog (wsV RX2 88 RX1 yX1_length wsX1_length) := goodIn_app (goodIn_of _ (by decide +kernel)) ggX2_addToLog_X1_length
set_option maxRecDepth 20000 in
theorem ggX2_addToLog_X1_takeOldest : GoodIn wsX2_addToLog wsX1_takeOldest := goodIn_r _ [11, 12, 13, 14, 5, 15, 7, 16, 17, 18, 19, 20, 33, 34] (by decide +kernel) (by decide +kernel)
set_option maxRecDepth 20000 in
theorem gX2_addToLog_X1_takeOldest : GoodIn wsX2_addToLog (wsV RX2 136 RX1 yX1_takeOldest wsX1_takeOldest) := goodIn_app (goodIn_of _ (by decide +kernel)) ggX2_addToLog_X1_takeOldest
set_option maxRecDepth 20000 in
theorem ggX2_addToLog_X1_join : GoodIn wsX2_addToLog wsX1_join := goodIn_r _ [24, 7, 16, 33, 34] (by decide +kernel) (by decide +kernel)
set_option maxRecDepth 20000 in
theorem gX2_addToLog_X1_join : GoodIn wsX2_addToLog (wsV RX2 139 RX1 yX1_join wsX1_join) := goodIn_app (goodIn_of _ (by decide +kernel)) ggX2_addToLog_X1_join
theorem dX2_addToLog_0 : decode cX2_addToLog 0 = .ok (.aload_n 0, 1) := by decide +kernel
end
section
theorem dX2_addToLog_1 : decode cX2_addToLog 1 = .ok (.getfield 19, 3) := by decide +kernel
theorem dX2_addToLog_4 : decode cX2_addToLog 4 = .ok (.invokevirtual 88, 3) := by decide +kernel
theorem dX2_addToLog_7 : decode cX2_addToLog 7 = .ok (.bipush 60, 2) := by decide +kernel
theorem dX2_addToLog_9 : decode cX2_addToLog 9 = .ok (.if_icmp .lt 11, 3) := by decide +kernel
theorem dX2_addToLog_12 : decode cX2_addToLog 12 = .ok (.aload_n 0, 1) := by decide +kernel
theorem dX2_addToLog_13 : decode cX2_addToLog 13 = .ok (.getfield 19, 3) := by decide +kernel
theorem dX2_addToLog_16 : decode cX2_addToLog 16 = .ok (.invokevirtual 136, 3) := by decide +kernel
theorem dX2_addToLog_19 : decode cX2_addToLog 19 = .ok (.pop, 1) := by decide +kernel
theorem dX2_addToLog_20 : decode cX2_addToLog 20 = .ok (.aload_n 0, 1) := by decide +kernel
theorem dX2_addToLog_21 : decode cX2_addToLog 21 = .ok (.getfield 19, 3) := by decide +kernel
theorem dX2_addToLog_24 : decode cX2_addToLog 24 = .ok (.iload_n 1, 1) := by decide +kernel
theorem dX2_addToLog_25 : decode cX2_addToLog 25 = .ok (.invokevirtual 139, 3) := by decide +kernel
theorem dX2_addToLog_28 : decode cX2_addToLog 28 = .ok (.return_, 1) := by decide +kernel
set_option maxRecDepth 20000 in
theorem ggX2_count_X2_isPage : GoodIn wsX2_count wsX2_isPage := goodIn_r _ [8] (by decide +kernel) (by decide +kernel)
set_option maxRecDepth 20000 in
theorem gX2_count_X2_isPage : GoodIn wsX2_count (va_wsS RX2 126 yX2_isPage wsX2_isPage) := goodIn_app (goodIn_of _ (by decide +kernel)) ggX2_count_X2_isPage
theorem dX2_count_0 : decode cX2_count 0 = .ok (.aload_n 0, 1) := by decide +kernel
theorem dX2_count_1 : decode cX2_count 1 = .ok (.dup, 1) := by decide +kernel
theorem dX2_count_2 : decode cX2_count 2 = .ok (.getfield 104, 3) := by decide +kernel
theorem dX2_count_5 : decode cX2_count 5 = .ok (.iconst 1, 1) := by decide +kernel
theorem dX2_count_6 : decode cX2_count 6 = .ok (.iadd, 1) := by decide +kernel
theorem dX2_count_7 : decode cX2_count 7 = .ok (.putfield 104, 3) := by decide +kernel
theorem dX2_count_10 : decode cX2_count 10 = .ok (.iload_n 1, 1) := by decide +kernel
theorem dX2_count_11 : decode cX2_count 11 = .ok (.invokestatic 126, 3) := by decide +kernel
theorem dX2_count_14 : decode cX2_count 14 = .ok (.ifCond .eq 16, 3) := by decide +kernel
theorem dX2_count_17 : decode cX2_count 17 = .ok (.aload_n 0, 1) := by decide +kernel
theorem dX2_count_18 : decode cX2_count 18 = .ok (.dup, 1) := by decide +kernel
theorem dX2_count_19 : decode cX2_count 19 = .ok (.getfield 107, 3) := by decide +kernel
theorem dX2_count_22 : decode cX2_count 22 = .ok (.iconst 1, 1) := by decide +kernel
theorem dX2_count_23 : decode cX2_count 23 = .ok (.iadd, 1) := by decide +kernel
theorem dX2_count_24 : decode cX2_count 24 = .ok (.putfield 107, 3) := by decide +kernel
theorem dX2_count_27 : decode cX2_count 27 = .ok (.goto 42, 3) := by decide +kernel
theorem dX2_count_30 : decode cX2_count 30 = .ok (.iload_n 1, 1) := by decide +kernel
theorem dX2_count_31 : decode cX2_count 31 = .ok (.iconst 3, 1) := by decide +kernel
theorem dX2_count_32 : decode cX2_count 32 = .ok (.if_icmp .eq 8, 3) := by decide +kernel
theorem dX2_count_35 : decode cX2_count 35 = .ok (.iload_n 1, 1) := by decide +kernel
theorem dX2_count_36 : decode cX2_count 36 = .ok (.iconst 4, 1) := by decide +kernel
theorem dX2_count_37 : decode cX2_count 37 = .ok (.if_icmp .ne 16, 3) := by decide +kernel
theorem dX2_count_40 : decode cX2_count 40 = .ok (.aload_n 0, 1) := by decide +kernel
theorem dX2_count_41 : decode cX2_count 41 = .ok (.dup, 1) := by decide +kernel
theorem dX2_count_42 : decode cX2_count 42 = .ok (.getfield 110, 3) := by decide +kernel
theorem dX2_count_45 : decode cX2_count 45 = .ok (.iconst 1, 1) := by decide +kernel
theorem dX2_count_46 : decode cX2_count 46 = .ok (.iadd, 1) := by decide +kernel
theorem dX2_count_47 : decode cX2_count 47 = .ok (.putfield 110, 3) := by decide +kernel
theorem dX2_count_50 : decode cX2_count 50 = .ok (.goto 19, 3) := by decide +kernel
theorem dX2_count_53 : decode cX2_count 53 = .ok (.iload_n 1, 1) := by decide +kernel
theorem dX2_count_54 : decode cX2_count 54 = .ok (.bipush 6, 2) := by decide +kernel
theorem dX2_count_56 : decode cX2_count 56 = .ok (.if_icmp .ne 13, 3) := by decide +kernel
theorem dX2_count_59 : decode cX2_count 59 = .ok (.aload_n 0, 1) := by decide +kernel
theorem dX2_count_60 : decode cX2_count 60 = .ok (.dup, 1) := by decide +kernel
theorem dX2_count_61 : decode cX2_count 61 = .ok (.getfield 113, 3) := by decide +kernel
theorem dX2_count_64 : decode cX2_count 64 = .ok (.iconst 1, 1) := by decide +kernel
theorem dX2_count_65 : decode cX2_count 65 = .ok (.iadd, 1) := by decide +kernel
theorem dX2_count_66 : decode cX2_count 66 = .ok (.putfield 113, 3) := by decide +kernel
theorem dX2_count_69 : decode cX2_count 69 = .ok (.return_, 1) := by decide +kernel
theorem dX3_init_0 : decode cX3_init 0 = .ok (.aload_n 0, 1) := by decide +kernel
theorem dX3_init_1 : decode cX3_init 1 = .ok (.invokespecial 1, 3) := by decide +kernel
theorem dX3_init_4 : decode cX3_init 4 = .ok (.aload_n 0, 1) := by decide +kernel
theorem dX3_init_5 : decode cX3_init 5 = .ok (.sipush 366, 3) := by decide +kernel
theorem dX3_init_8 : decode cX3_init 8 = .ok (.newarray .int, 2) := by decide +kernel
theorem dX3_init_10 : decode cX3_init 10 = .ok (.putfield 7, 3) := by decide +kernel
theorem dX3_init_13 : decode cX3_init 13 = .ok (.aload_n 0, 1) := by decide +kernel
theorem dX3_init_14 : decode cX3_init 14 = .ok (.sipush 366, 3) := by decide +kernel
theorem dX3_init_17 : decode cX3_init 17 = .ok (.newarray .int, 2) := by decide +kernel
theorem dX3_init_19 : decode cX3_init 19 = .ok (.putfield 13, 3) := by decide +kernel
theorem dX3_init_22 : decode cX3_init 22 = .ok (.aload_n 0, 1) := by decide +kernel
theorem dX3_init_23 : decode cX3_init 23 = .ok (.bipush 60, 2) := by decide +kernel
theorem dX3_init_25 : decode cX3_init 25 = .ok (.newarray .int, 2) := by decide +kernel
theorem dX3_init_27 : decode cX3_init 27 = .ok (.putfield 16, 3) := by decide +kernel
theorem dX3_init_30 : decode cX3_init 30 = .ok (.aload_n 0, 1) := by decide +kernel
theorem dX3_init_31 : decode cX3_init 31 = .ok (.bipush 32, 2) := by decide +kernel
theorem dX3_init_33 : decode cX3_init 33 = .ok (.newarray .int, 2) := by decide +kernel
theorem dX3_init_35 : decode cX3_init 35 = .ok (.putfield 19, 3) := by decide +kernel
theorem dX3_init_38 : decode cX3_init 38 = .ok (.aload_n 0, 1) := by decide +kernel
theorem dX3_init_39 : decode cX3_init 39 = .ok (.getfield 7, 3) := by decide +kernel
theorem dX3_init_42 : decode cX3_init 42 = .ok (.bipush 6, 2) := by decide +kernel
theorem dX3_init_44 : decode cX3_init 44 = .ok (.bipush 8, 2) := by decide +kernel
theorem dX3_init_46 : decode cX3_init 46 = .ok (.iastore, 1) := by decide +kernel
theorem dX3_init_47 : decode cX3_init 47 = .ok (.aload_n 0, 1) := by decide +kernel
theorem dX3_init_48 : decode cX3_init 48 = .ok (.getfield 7, 3) := by decide +kernel
theorem dX3_init_51 : decode cX3_init 51 = .ok (.bipush 9, 2) := by decide +kernel
theorem dX3_init_53 : decode cX3_init 53 = .ok (.iconst (-1), 1) := by decide +kernel
theorem dX3_init_54 : decode cX3_init 54 = .ok (.iastore, 1) := by decide +kernel
theorem dX3_init_55 : decode cX3_init 55 = .ok (.return_, 1) := by decide +kernel
theorem dX3_thrown_0 : decode cX3_thrown 0 = .ok (.aload_n 0, 1) := by decide +kernel
theorem dX3_thrown_1 : decode cX3_thrown 1 = .ok (.getfield 22, 3) := by decide +kernel
theorem dX3_thrown_4 : decode cX3_thrown 4 = .ok (.ireturn, 1) := by decide +kernel
theorem dX3_asked_0 : decode cX3_asked 0 = .ok (.aload_n 0, 1) := by decide +kernel
theorem dX3_asked_1 : decode cX3_asked 1 = .ok (.iload_n 1, 1) := by decide +kernel
theorem dX3_asked_2 : decode cX3_asked 2 = .ok (.ifCond .eq 7, 3) := by decide +kernel
theorem dX3_asked_5 : decode cX3_asked 5 = .ok (.iconst 0, 1) := by decide +kernel
theorem dX3_asked_6 : decode cX3_asked 6 = .ok (.goto 4, 3) := by decide +kernel
theorem dX3_asked_9 : decode cX3_asked 9 = .ok (.iconst 1, 1) := by decide +kernel
theorem dX3_asked_10 : decode cX3_asked 10 = .ok (.putfield 22, 3) := by decide +kernel
theorem dX3_asked_13 : decode cX3_asked 13 = .ok (.iload_n 1, 1) := by decide +kernel
theorem dX3_asked_14 : decode cX3_asked 14 = .ok (.ireturn, 1) := by decide +kernel
theorem dX3_told_0 : decode cX3_told 0 = .ok (.aload_n 0, 1) := by decide +kernel
theorem dX3_told_1 : decode cX3_told 1 = .ok (.iconst 0, 1) := by decide +kernel
theorem dX3_told_2 : decode cX3_told 2 = .ok (.putfield 22, 3) := by decide +kernel
theorem dX3_told_5 : decode cX3_told 5 = .ok (.iload_n 1, 1) := by decide +kernel
theorem dX3_told_6 : decode cX3_told 6 = .ok (.ireturn, 1) := by decide +kernel
theorem dX3_isKey_0 : decode cX3_isKey 0 = .ok (.iload_n 0, 1) := by decide +kernel
theorem dX3_isKey_1 : decode cX3_isKey 1 = .ok (.ifCond .lt 14, 3) := by decide +kernel
theorem dX3_isKey_4 : decode cX3_isKey 4 = .ok (.iload_n 0, 1) := by decide +kernel
theorem dX3_isKey_5 : decode cX3_isKey 5 = .ok (.sipush 10000, 3) := by decide +kernel
theorem dX3_isKey_8 : decode cX3_isKey 8 = .ok (.if_icmp .ge 7, 3) := by decide +kernel
theorem dX3_isKey_11 : decode cX3_isKey 11 = .ok (.iconst 1, 1) := by decide +kernel
theorem dX3_isKey_12 : decode cX3_isKey 12 = .ok (.goto 4, 3) := by decide +kernel
theorem dX3_isKey_15 : decode cX3_isKey 15 = .ok (.iconst 0, 1) := by decide +kernel
theorem dX3_isKey_16 : decode cX3_isKey 16 = .ok (.ireturn, 1) := by decide +kernel
theorem dX3_at_0 : decode cX3_at 0 = .ok (.bipush 16, 2) := by decide +kernel
theorem dX3_at_2 : decode cX3_at 2 = .ok (.bipush 70, 2) := by decide +kernel
theorem dX3_at_4 : decode cX3_at 4 = .ok (.iload_n 0, 1) := by decide +kernel
theorem dX3_at_5 : decode cX3_at 5 = .ok (.imul, 1) := by decide +kernel
theorem dX3_at_6 : decode cX3_at 6 = .ok (.iadd, 1) := by decide +kernel
theorem dX3_at_7 : decode cX3_at 7 = .ok (.iload_n 1, 1) := by decide +kernel
theorem dX3_at_8 : decode cX3_at 8 = .ok (.iadd, 1) := by decide +kernel
theorem dX3_at_9 : decode cX3_at 9 = .ok (.ireturn, 1) := by decide +kernel
set_option maxRecDepth 20000 in
theorem ggX3_placeIn_X3_at : GoodIn wsX3_placeIn wsX3_at := goodIn_r _ [4] (by decide +kernel) (by decide +kernel)
set_option maxRecDepth 20000 in
theorem gX3_placeIn_X3_at : GoodIn wsX3_placeIn (va_wsS RX3 26 yX3_at wsX3_at) := goodIn_app (goodIn_of _ (by decide +kernel)) ggX3_placeIn_X3_at
theorem dX3_placeIn_0 : decode cX3_placeIn 0 = .ok (.iconst (-1), 1) := by decide +kernel
theorem dX3_placeIn_1 : decode cX3_placeIn 1 = .ok (.istore_n 3, 1) := by decide +kernel
theorem dX3_placeIn_2 : decode cX3_placeIn 2 = .ok (.iconst 0, 1) := by decide +kernel
theorem dX3_placeIn_3 : decode cX3_placeIn 3 = .ok (.istore 4, 2) := by decide +kernel
theorem dX3_placeIn_5 : decode cX3_placeIn 5 = .ok (.iload 4, 2) := by decide +kernel
theorem dX3_placeIn_7 : decode cX3_placeIn 7 = .ok (.aload_n 0, 1) := by decide +kernel
theorem dX3_placeIn_8 : decode cX3_placeIn 8 = .ok (.iload_n 1, 1) := by decide +kernel
theorem dX3_placeIn_9 : decode cX3_placeIn 9 = .ok (.iaload, 1) := by decide +kernel
theorem dX3_placeIn_10 : decode cX3_placeIn 10 = .ok (.if_icmp .ge 28, 3) := by decide +kernel
theorem dX3_placeIn_13 : decode cX3_placeIn 13 = .ok (.aload_n 0, 1) := by decide +kernel
theorem dX3_placeIn_14 : decode cX3_placeIn 14 = .ok (.iload_n 1, 1) := by decide +kernel
theorem dX3_placeIn_15 : decode cX3_placeIn 15 = .ok (.iload 4, 2) := by decide +kernel
theorem dX3_placeIn_17 : decode cX3_placeIn 17 = .ok (.invokestatic 26, 3) := by decide +kernel
theorem dX3_placeIn_20 : decode cX3_placeIn 20 = .ok (.iaload, 1) := by decide +kernel
theorem dX3_placeIn_21 : decode cX3_placeIn 21 = .ok (.iload_n 2, 1) := by decide +kernel
theorem dX3_placeIn_22 : decode cX3_placeIn 22 = .ok (.if_icmp .ne 8, 3) := by decide +kernel
theorem dX3_placeIn_25 : decode cX3_placeIn 25 = .ok (.iload 4, 2) := by decide +kernel
theorem dX3_placeIn_27 : decode cX3_placeIn 27 = .ok (.goto 4, 3) := by decide +kernel
theorem dX3_placeIn_30 : decode cX3_placeIn 30 = .ok (.iload_n 3, 1) := by decide +kernel
theorem dX3_placeIn_31 : decode cX3_placeIn 31 = .ok (.istore_n 3, 1) := by decide +kernel
theorem dX3_placeIn_32 : decode cX3_placeIn 32 = .ok (.iinc 4 1, 3) := by decide +kernel
theorem dX3_placeIn_35 : decode cX3_placeIn 35 = .ok (.goto (-30), 3) := by decide +kernel
theorem dX3_placeIn_38 : decode cX3_placeIn 38 = .ok (.iload_n 3, 1) := by decide +kernel
theorem dX3_placeIn_39 : decode cX3_placeIn 39 = .ok (.ireturn, 1) := by decide +kernel
set_option maxRecDepth 20000 in
theorem ggX3_listOf_X3_placeIn : GoodIn wsX3_listOf wsX3_placeIn := goodIn_r _ [4, 5, 6, 3, 7] (by decide +kernel) (by decide +kernel)
set_option maxRecDepth 20000 in
theorem gX3_listOf_X3_placeIn : GoodIn wsX3_listOf (va_wsS RX3 30 yX3_placeIn wsX3_placeIn) := goodIn_app (goodIn_of _ (by decide +kernel)) ggX3_listOf_X3_placeIn
theorem dX3_listOf_0 : decode cX3_listOf 0 = .ok (.iconst 0, 1) := by decide +kernel
theorem dX3_listOf_1 : decode cX3_listOf 1 = .ok (.istore_n 2, 1) := by decide +kernel
theorem dX3_listOf_2 : decode cX3_listOf 2 = .ok (.iconst 1, 1) := by decide +kernel
theorem dX3_listOf_3 : decode cX3_listOf 3 = .ok (.istore_n 3, 1) := by decide +kernel
theorem dX3_listOf_4 : decode cX3_listOf 4 = .ok (.iload_n 3, 1) := by decide +kernel
theorem dX3_listOf_5 : decode cX3_listOf 5 = .ok (.iconst 4, 1) := by decide +kernel
theorem dX3_listOf_6 : decode cX3_listOf 6 = .ok (.if_icmp .gt 25, 3) := by decide +kernel
theorem dX3_listOf_9 : decode cX3_listOf 9 = .ok (.aload_n 0, 1) := by decide +kernel
theorem dX3_listOf_10 : decode cX3_listOf 10 = .ok (.iload_n 3, 1) := by decide +kernel
theorem dX3_listOf_11 : decode cX3_listOf 11 = .ok (.iload_n 1, 1) := by decide +kernel
theorem dX3_listOf_12 : decode cX3_listOf 12 = .ok (.invokestatic 30, 3) := by decide +kernel
theorem dX3_listOf_15 : decode cX3_listOf 15 = .ok (.iconst (-1), 1) := by decide +kernel
theorem dX3_listOf_16 : decode cX3_listOf 16 = .ok (.if_icmp .ne 7, 3) := by decide +kernel
theorem dX3_listOf_19 : decode cX3_listOf 19 = .ok (.iload_n 2, 1) := by decide +kernel
theorem dX3_listOf_20 : decode cX3_listOf 20 = .ok (.goto 4, 3) := by decide +kernel
theorem dX3_listOf_23 : decode cX3_listOf 23 = .ok (.iload_n 3, 1) := by decide +kernel
theorem dX3_listOf_24 : decode cX3_listOf 24 = .ok (.istore_n 2, 1) := by decide +kernel
theorem dX3_listOf_25 : decode cX3_listOf 25 = .ok (.iinc 3 1, 3) := by decide +kernel
theorem dX3_listOf_28 : decode cX3_listOf 28 = .ok (.goto (-24), 3) := by decide +kernel
theorem dX3_listOf_31 : decode cX3_listOf 31 = .ok (.iload_n 2, 1) := by decide +kernel
theorem dX3_listOf_32 : decode cX3_listOf 32 = .ok (.ireturn, 1) := by decide +kernel
set_option maxRecDepth 20000 in
theorem ggX3_joins_X3_at : GoodIn wsX3_joins wsX3_at := goodIn_r _ [4] (by decide +kernel) (by decide +kernel)
set_option maxRecDepth 20000 in
theorem gX3_joins_X3_at : GoodIn wsX3_joins (va_wsS RX3 26 yX3_at wsX3_at) := goodIn_app (goodIn_of _ (by decide +kernel)) ggX3_joins_X3_at
theorem dX3_joins_0 : decode cX3_joins 0 = .ok (.aload_n 0, 1) := by decide +kernel
theorem dX3_joins_1 : decode cX3_joins 1 = .ok (.iload_n 1, 1) := by decide +kernel
theorem dX3_joins_2 : decode cX3_joins 2 = .ok (.aload_n 0, 1) := by decide +kernel
theorem dX3_joins_3 : decode cX3_joins 3 = .ok (.iload_n 1, 1) := by decide +kernel
theorem dX3_joins_4 : decode cX3_joins 4 = .ok (.iaload, 1) := by decide +kernel
theorem dX3_joins_5 : decode cX3_joins 5 = .ok (.invokestatic 26, 3) := by decide +kernel
theorem dX3_joins_8 : decode cX3_joins 8 = .ok (.iload_n 2, 1) := by decide +kernel
theorem dX3_joins_9 : decode cX3_joins 9 = .ok (.iastore, 1) := by decide +kernel
theorem dX3_joins_10 : decode cX3_joins 10 = .ok (.aload_n 0, 1) := by decide +kernel
theorem dX3_joins_11 : decode cX3_joins 11 = .ok (.iload_n 1, 1) := by decide +kernel
theorem dX3_joins_12 : decode cX3_joins 12 = .ok (.dup2, 1) := by decide +kernel
theorem dX3_joins_13 : decode cX3_joins 13 = .ok (.iaload, 1) := by decide +kernel
theorem dX3_joins_14 : decode cX3_joins 14 = .ok (.iconst 1, 1) := by decide +kernel
theorem dX3_joins_15 : decode cX3_joins 15 = .ok (.iadd, 1) := by decide +kernel
theorem dX3_joins_16 : decode cX3_joins 16 = .ok (.iastore, 1) := by decide +kernel
theorem dX3_joins_17 : decode cX3_joins 17 = .ok (.return_, 1) := by decide +kernel
set_option maxRecDepth 20000 in
theorem ggX3_leaves_X3_at : GoodIn wsX3_leaves wsX3_at := goodIn_r _ [4] (by decide +kernel) (by decide +kernel)
set_option maxRecDepth 20000 in
theorem gX3_leaves_X3_at : GoodIn wsX3_leaves (va_wsS RX3 26 yX3_at wsX3_at) := goodIn_app (goodIn_of _ (by decide +kernel)) ggX3_leaves_X3_at
theorem dX3_leaves_0 : decode cX3_leaves 0 = .ok (.aload_n 0, 1) := by decide +kernel
theorem dX3_leaves_1 : decode cX3_leaves 1 = .ok (.iload_n 1, 1) := by decide +kernel
theorem dX3_leaves_2 : decode cX3_leaves 2 = .ok (.iload_n 2, 1) := by decide +kernel
theorem dX3_leaves_3 : decode cX3_leaves 3 = .ok (.invokestatic 26, 3) := by decide +kernel
theorem dX3_leaves_6 : decode cX3_leaves 6 = .ok (.iaload, 1) := by decide +kernel
theorem dX3_leaves_7 : decode cX3_leaves 7 = .ok (.istore_n 3, 1) := by decide +kernel
theorem dX3_leaves_8 : decode cX3_leaves 8 = .ok (.aload_n 0, 1) := by decide +kernel
theorem dX3_leaves_9 : decode cX3_leaves 9 = .ok (.iload_n 1, 1) := by decide +kernel
theorem dX3_leaves_10 : decode cX3_leaves 10 = .ok (.dup2, 1) := by decide +kernel
theorem dX3_leaves_11 : decode cX3_leaves 11 = .ok (.iaload, 1) := by decide +kernel
theorem dX3_leaves_12 : decode cX3_leaves 12 = .ok (.iconst 1, 1) := by decide +kernel
theorem dX3_leaves_13 : decode cX3_leaves 13 = .ok (.isub, 1) := by decide +kernel
theorem dX3_leaves_14 : decode cX3_leaves 14 = .ok (.iastore, 1) := by decide +kernel
theorem dX3_leaves_15 : decode cX3_leaves 15 = .ok (.iload_n 2, 1) := by decide +kernel
theorem dX3_leaves_16 : decode cX3_leaves 16 = .ok (.istore 4, 2) := by decide +kernel
theorem dX3_leaves_18 : decode cX3_leaves 18 = .ok (.iload 4, 2) := by decide +kernel
theorem dX3_leaves_20 : decode cX3_leaves 20 = .ok (.aload_n 0, 1) := by decide +kernel
theorem dX3_leaves_21 : decode cX3_leaves 21 = .ok (.iload_n 1, 1) := by decide +kernel
theorem dX3_leaves_22 : decode cX3_leaves 22 = .ok (.iaload, 1) := by decide +kernel
theorem dX3_leaves_23 : decode cX3_leaves 23 = .ok (.if_icmp .ge 27, 3) := by decide +kernel
theorem dX3_leaves_26 : decode cX3_leaves 26 = .ok (.aload_n 0, 1) := by decide +kernel
theorem dX3_leaves_27 : decode cX3_leaves 27 = .ok (.iload_n 1, 1) := by decide +kernel
theorem dX3_leaves_28 : decode cX3_leaves 28 = .ok (.iload 4, 2) := by decide +kernel
theorem dX3_leaves_30 : decode cX3_leaves 30 = .ok (.invokestatic 26, 3) := by decide +kernel
theorem dX3_leaves_33 : decode cX3_leaves 33 = .ok (.aload_n 0, 1) := by decide +kernel
theorem dX3_leaves_34 : decode cX3_leaves 34 = .ok (.iload_n 1, 1) := by decide +kernel
theorem dX3_leaves_35 : decode cX3_leaves 35 = .ok (.iload 4, 2) := by decide +kernel
theorem dX3_leaves_37 : decode cX3_leaves 37 = .ok (.iconst 1, 1) := by decide +kernel
theorem dX3_leaves_38 : decode cX3_leaves 38 = .ok (.iadd, 1) := by decide +kernel
theorem dX3_leaves_39 : decode cX3_leaves 39 = .ok (.invokestatic 26, 3) := by decide +kernel
theorem dX3_leaves_42 : decode cX3_leaves 42 = .ok (.iaload, 1) := by decide +kernel
theorem dX3_leaves_43 : decode cX3_leaves 43 = .ok (.iastore, 1) := by decide +kernel
theorem dX3_leaves_44 : decode cX3_leaves 44 = .ok (.iinc 4 1, 3) := by decide +kernel
theorem dX3_leaves_47 : decode cX3_leaves 47 = .ok (.goto (-29), 3) := by decide +kernel
theorem dX3_leaves_50 : decode cX3_leaves 50 = .ok (.iload_n 3, 1) := by decide +kernel
theorem dX3_leaves_51 : decode cX3_leaves 51 = .ok (.ireturn, 1) := by decide +kernel
theorem dX3_isFull_0 : decode cX3_isFull 0 = .ok (.aload_n 0, 1) := by decide +kernel
theorem dX3_isFull_1 : decode cX3_isFull 1 = .ok (.iconst 1, 1) := by decide +kernel
theorem dX3_isFull_2 : decode cX3_isFull 2 = .ok (.iaload, 1) := by decide +kernel
theorem dX3_isFull_3 : decode cX3_isFull 3 = .ok (.aload_n 0, 1) := by decide +kernel
theorem dX3_isFull_4 : decode cX3_isFull 4 = .ok (.iconst 2, 1) := by decide +kernel
theorem dX3_isFull_5 : decode cX3_isFull 5 = .ok (.iaload, 1) := by decide +kernel
theorem dX3_isFull_6 : decode cX3_isFull 6 = .ok (.iadd, 1) := by decide +kernel
theorem dX3_isFull_7 : decode cX3_isFull 7 = .ok (.aload_n 0, 1) := by decide +kernel
theorem dX3_isFull_8 : decode cX3_isFull 8 = .ok (.bipush 6, 2) := by decide +kernel
theorem dX3_isFull_10 : decode cX3_isFull 10 = .ok (.iaload, 1) := by decide +kernel
theorem dX3_isFull_11 : decode cX3_isFull 11 = .ok (.if_icmp .lt 7, 3) := by decide +kernel
theorem dX3_isFull_14 : decode cX3_isFull 14 = .ok (.iconst 1, 1) := by decide +kernel
theorem dX3_isFull_15 : decode cX3_isFull 15 = .ok (.goto 4, 3) := by decide +kernel
theorem dX3_isFull_18 : decode cX3_isFull 18 = .ok (.iconst 0, 1) := by decide +kernel
theorem dX3_isFull_19 : decode cX3_isFull 19 = .ok (.ireturn, 1) := by decide +kernel
theorem dX3_allKeys_0 : decode cX3_allKeys 0 = .ok (.aload_n 0, 1) := by decide +kernel
theorem dX3_allKeys_1 : decode cX3_allKeys 1 = .ok (.iconst 1, 1) := by decide +kernel
theorem dX3_allKeys_2 : decode cX3_allKeys 2 = .ok (.iaload, 1) := by decide +kernel
theorem dX3_allKeys_3 : decode cX3_allKeys 3 = .ok (.aload_n 0, 1) := by decide +kernel
theorem dX3_allKeys_4 : decode cX3_allKeys 4 = .ok (.iconst 2, 1) := by decide +kernel
theorem dX3_allKeys_5 : decode cX3_allKeys 5 = .ok (.iaload, 1) := by decide +kernel
theorem dX3_allKeys_6 : decode cX3_allKeys 6 = .ok (.iadd, 1) := by decide +kernel
theorem dX3_allKeys_7 : decode cX3_allKeys 7 = .ok (.aload_n 0, 1) := by decide +kernel
theorem dX3_allKeys_8 : decode cX3_allKeys 8 = .ok (.iconst 3, 1) := by decide +kernel
theorem dX3_allKeys_9 : decode cX3_allKeys 9 = .ok (.iaload, 1) := by decide +kernel
theorem dX3_allKeys_10 : decode cX3_allKeys 10 = .ok (.iadd, 1) := by decide +kernel
theorem dX3_allKeys_11 : decode cX3_allKeys 11 = .ok (.aload_n 0, 1) := by decide +kernel
theorem dX3_allKeys_12 : decode cX3_allKeys 12 = .ok (.iconst 4, 1) := by decide +kernel
theorem dX3_allKeys_13 : decode cX3_allKeys 13 = .ok (.iaload, 1) := by decide +kernel
theorem dX3_allKeys_14 : decode cX3_allKeys 14 = .ok (.iadd, 1) := by decide +kernel
theorem dX3_allKeys_15 : decode cX3_allKeys 15 = .ok (.ireturn, 1) := by decide +kernel
theorem dX3_evictedFrom_0 : decode cX3_evictedFrom 0 = .ok (.aload_n 0, 1) := by decide +kernel
theorem dX3_evictedFrom_1 : decode cX3_evictedFrom 1 = .ok (.iconst 1, 1) := by decide +kernel
theorem dX3_evictedFrom_2 : decode cX3_evictedFrom 2 = .ok (.iaload, 1) := by decide +kernel
theorem dX3_evictedFrom_3 : decode cX3_evictedFrom 3 = .ok (.aload_n 0, 1) := by decide +kernel
theorem dX3_evictedFrom_4 : decode cX3_evictedFrom 4 = .ok (.iconst 5, 1) := by decide +kernel
theorem dX3_evictedFrom_5 : decode cX3_evictedFrom 5 = .ok (.iaload, 1) := by decide +kernel
theorem dX3_evictedFrom_6 : decode cX3_evictedFrom 6 = .ok (.if_icmp .gt 23, 3) := by decide +kernel
theorem dX3_evictedFrom_9 : decode cX3_evictedFrom 9 = .ok (.aload_n 0, 1) := by decide +kernel
theorem dX3_evictedFrom_10 : decode cX3_evictedFrom 10 = .ok (.iconst 1, 1) := by decide +kernel
theorem dX3_evictedFrom_11 : decode cX3_evictedFrom 11 = .ok (.iaload, 1) := by decide +kernel
theorem dX3_evictedFrom_12 : decode cX3_evictedFrom 12 = .ok (.aload_n 0, 1) := by decide +kernel
theorem dX3_evictedFrom_13 : decode cX3_evictedFrom 13 = .ok (.iconst 5, 1) := by decide +kernel
theorem dX3_evictedFrom_14 : decode cX3_evictedFrom 14 = .ok (.iaload, 1) := by decide +kernel
theorem dX3_evictedFrom_15 : decode cX3_evictedFrom 15 = .ok (.if_icmp .ne 18, 3) := by decide +kernel
theorem dX3_evictedFrom_18 : decode cX3_evictedFrom 18 = .ok (.aload_n 0, 1) := by decide +kernel
theorem dX3_evictedFrom_19 : decode cX3_evictedFrom 19 = .ok (.iconst 1, 1) := by decide +kernel
theorem dX3_evictedFrom_20 : decode cX3_evictedFrom 20 = .ok (.iaload, 1) := by decide +kernel
theorem dX3_evictedFrom_21 : decode cX3_evictedFrom 21 = .ok (.ifCond .le 12, 3) := by decide +kernel
theorem dX3_evictedFrom_24 : decode cX3_evictedFrom 24 = .ok (.iload_n 1, 1) := by decide +kernel
theorem dX3_evictedFrom_25 : decode cX3_evictedFrom 25 = .ok (.iconst 4, 1) := by decide +kernel
theorem dX3_evictedFrom_26 : decode cX3_evictedFrom 26 = .ok (.if_icmp .ne 7, 3) := by decide +kernel
theorem dX3_evictedFrom_29 : decode cX3_evictedFrom 29 = .ok (.iconst 1, 1) := by decide +kernel
theorem dX3_evictedFrom_30 : decode cX3_evictedFrom 30 = .ok (.goto 4, 3) := by decide +kernel
theorem dX3_evictedFrom_33 : decode cX3_evictedFrom 33 = .ok (.iconst 0, 1) := by decide +kernel
theorem dX3_evictedFrom_34 : decode cX3_evictedFrom 34 = .ok (.istore_n 2, 1) := by decide +kernel
theorem dX3_evictedFrom_35 : decode cX3_evictedFrom 35 = .ok (.iload_n 2, 1) := by decide +kernel
theorem dX3_evictedFrom_36 : decode cX3_evictedFrom 36 = .ok (.ifCond .eq 7, 3) := by decide +kernel
theorem dX3_evictedFrom_39 : decode cX3_evictedFrom 39 = .ok (.iconst 1, 1) := by decide +kernel
theorem dX3_evictedFrom_40 : decode cX3_evictedFrom 40 = .ok (.goto 4, 3) := by decide +kernel
theorem dX3_evictedFrom_43 : decode cX3_evictedFrom 43 = .ok (.iconst 2, 1) := by decide +kernel
theorem dX3_evictedFrom_44 : decode cX3_evictedFrom 44 = .ok (.ireturn, 1) := by decide +kernel
set_option maxRecDepth 20000 in
theorem ggX3_evicts_X3_evictedFrom : GoodIn wsX3_evicts wsX3_evictedFrom := goodIn_r _ [4] (by decide +kernel) (by decide +kernel)
set_option maxRecDepth 20000 in
theorem gX3_evicts_X3_evictedFrom : GoodIn wsX3_evicts (va_wsS RX3 34 yX3_evictedFrom wsX3_evictedFrom) := goodIn_app (goodIn_of _ (by decide +kernel)) ggX3_evicts_X3_evictedFrom
set_option maxRecDepth 20000 in
theorem ggX3_evicts_X3_leaves : GoodIn wsX3_evicts wsX3_leaves := goodIn_r _ [7, 8, 9, 3, 10] (by decide +kernel) (by decide +kernel)
set_option maxRecDepth 20000 in
theorem gX3_evicts_X3_leaves : GoodIn wsX3_evicts (va_wsS RX3 38 yX3_leaves wsX3_leaves) := goodIn_app (goodIn_of _ (by decide +kernel)) ggX3_evicts_X3_leaves
set_option maxRecDepth 20000 in
theorem ggX3_evicts_X3_joins : GoodIn wsX3_evicts wsX3_joins := goodIn_r _ [13, 8, 9, 3, 10] (by decide +kernel) (by decide +kernel)
set_option maxRecDepth 20000 in
theorem gX3_evicts_X3_joins : GoodIn wsX3_evicts (va_wsS RX3 41 yX3_joins wsX3_joins) := goodIn_app (goodIn_of _ (by decide +kernel)) ggX3_evicts_X3_joins
theorem dX3_evicts_0 : decode cX3_evicts 0 = .ok (.aload_n 0, 1) := by decide +kernel
theorem dX3_evicts_1 : decode cX3_evicts 1 = .ok (.iload_n 1, 1) := by decide +kernel
theorem dX3_evicts_2 : decode cX3_evicts 2 = .ok (.invokestatic 34, 3) := by decide +kernel
theorem dX3_evicts_5 : decode cX3_evicts 5 = .ok (.istore_n 2, 1) := by decide +kernel
theorem dX3_evicts_6 : decode cX3_evicts 6 = .ok (.aload_n 0, 1) := by decide +kernel
theorem dX3_evicts_7 : decode cX3_evicts 7 = .ok (.iload_n 2, 1) := by decide +kernel
theorem dX3_evicts_8 : decode cX3_evicts 8 = .ok (.iconst 2, 1) := by decide +kernel
theorem dX3_evicts_9 : decode cX3_evicts 9 = .ok (.iadd, 1) := by decide +kernel
theorem dX3_evicts_10 : decode cX3_evicts 10 = .ok (.aload_n 0, 1) := by decide +kernel
theorem dX3_evicts_11 : decode cX3_evicts 11 = .ok (.iload_n 2, 1) := by decide +kernel
theorem dX3_evicts_12 : decode cX3_evicts 12 = .ok (.iconst 0, 1) := by decide +kernel
theorem dX3_evicts_13 : decode cX3_evicts 13 = .ok (.invokestatic 38, 3) := by decide +kernel
theorem dX3_evicts_16 : decode cX3_evicts 16 = .ok (.invokestatic 41, 3) := by decide +kernel
theorem dX3_evicts_19 : decode cX3_evicts 19 = .ok (.aload_n 0, 1) := by decide +kernel
theorem dX3_evicts_20 : decode cX3_evicts 20 = .ok (.bipush 10, 2) := by decide +kernel
theorem dX3_evicts_22 : decode cX3_evicts 22 = .ok (.dup2, 1) := by decide +kernel
theorem dX3_evicts_23 : decode cX3_evicts 23 = .ok (.iaload, 1) := by decide +kernel
theorem dX3_evicts_24 : decode cX3_evicts 24 = .ok (.iconst 1, 1) := by decide +kernel
theorem dX3_evicts_25 : decode cX3_evicts 25 = .ok (.iadd, 1) := by decide +kernel
theorem dX3_evicts_26 : decode cX3_evicts 26 = .ok (.iastore, 1) := by decide +kernel
theorem dX3_evicts_27 : decode cX3_evicts 27 = .ok (.return_, 1) := by decide +kernel
set_option maxRecDepth 20000 in
theorem ggX3_evictsIfFull_X3_isFull : GoodIn wsX3_evictsIfFull wsX3_isFull := goodIn_r _ [4] (by decide +kernel) (by decide +kernel)
set_option maxRecDepth 20000 in
theorem gX3_evictsIfFull_X3_isFull : GoodIn wsX3_evictsIfFull (va_wsS RX3 45 yX3_isFull wsX3_isFull) := goodIn_app (goodIn_of _ (by decide +kernel)) ggX3_evictsIfFull_X3_isFull
set_option maxRecDepth 20000 in
theorem ggX3_evictsIfFull_X3_evicts : GoodIn wsX3_evictsIfFull wsX3_evicts := goodIn_r _ [7, 8, 9, 3, 10, 11, 12, 13, 14, 15, 16, 17, 18, 19] (by decide +kernel) (by decide +kernel)
set_option maxRecDepth 20000 in
theorem gX3_evictsIfFull_X3_evicts : GoodIn wsX3_evictsIfFull (va_wsS RX3 49 yX3_evicts wsX3_evicts) := goodIn_app (goodIn_of _ (by decide +kernel)) ggX3_evictsIfFull_X3_evicts
theorem dX3_evictsIfFull_0 : decode cX3_evictsIfFull 0 = .ok (.aload_n 0, 1) := by decide +kernel
theorem dX3_evictsIfFull_1 : decode cX3_evictsIfFull 1 = .ok (.invokestatic 45, 3) := by decide +kernel
theorem dX3_evictsIfFull_4 : decode cX3_evictsIfFull 4 = .ok (.ifCond .eq 8, 3) := by decide +kernel
theorem dX3_evictsIfFull_7 : decode cX3_evictsIfFull 7 = .ok (.aload_n 0, 1) := by decide +kernel
theorem dX3_evictsIfFull_8 : decode cX3_evictsIfFull 8 = .ok (.iload_n 1, 1) := by decide +kernel
theorem dX3_evictsIfFull_9 : decode cX3_evictsIfFull 9 = .ok (.invokestatic 49, 3) := by decide +kernel
theorem dX3_evictsIfFull_12 : decode cX3_evictsIfFull 12 = .ok (.return_, 1) := by decide +kernel
theorem dX3_step_0 : decode cX3_step 0 = .ok (.iload_n 0, 1) := by decide +kernel
theorem dX3_step_1 : decode cX3_step 1 = .ok (.iload_n 1, 1) := by decide +kernel
theorem dX3_step_2 : decode cX3_step 2 = .ok (.idiv, 1) := by decide +kernel
theorem dX3_step_3 : decode cX3_step 3 = .ok (.istore_n 2, 1) := by decide +kernel
theorem dX3_step_4 : decode cX3_step 4 = .ok (.iload_n 2, 1) := by decide +kernel
theorem dX3_step_5 : decode cX3_step 5 = .ok (.iconst 1, 1) := by decide +kernel
theorem dX3_step_6 : decode cX3_step 6 = .ok (.if_icmp .le 7, 3) := by decide +kernel
theorem dX3_step_9 : decode cX3_step 9 = .ok (.iload_n 2, 1) := by decide +kernel
theorem dX3_step_10 : decode cX3_step 10 = .ok (.goto 4, 3) := by decide +kernel
theorem dX3_step_13 : decode cX3_step 13 = .ok (.iconst 1, 1) := by decide +kernel
theorem dX3_step_14 : decode cX3_step 14 = .ok (.ireturn, 1) := by decide +kernel
set_option maxRecDepth 20000 in
theorem ggX3_ghost_X3_step : GoodIn wsX3_ghost wsX3_step := goodIn_r _ [4] (by decide +kernel) (by decide +kernel)
set_option maxRecDepth 20000 in
theorem gX3_ghost_X3_step : GoodIn wsX3_ghost (va_wsS RX3 53 yX3_step wsX3_step) := goodIn_app (goodIn_of _ (by decide +kernel)) ggX3_ghost_X3_step
set_option maxRecDepth 20000 in
theorem ggX3_ghost_X3_evictsIfFull : GoodIn wsX3_ghost wsX3_evictsIfFull := goodIn_r _ [7, 8, 9, 3, 10, 11, 12, 13, 14, 15, 16, 17, 18, 19, 20, 21, 22, 23, 24, 25] (by decide +kernel) (by decide +kernel)
set_option maxRecDepth 20000 in
theorem gX3_ghost_X3_evictsIfFull : GoodIn wsX3_ghost (va_wsS RX3 56 yX3_evictsIfFull wsX3_evictsIfFull) := goodIn_app (goodIn_of _ (by decide +kernel)) ggX3_ghost_X3_evictsIfFull
set_option maxRecDepth 20000 in
theorem ggX3_ghost_X3_placeIn : GoodIn wsX3_ghost wsX3_placeIn := goodIn_r _ [28, 20, 21, 3, 22] (by decide +kernel) (by decide +kernel)
set_option maxRecDepth 20000 in
theorem gX3_ghost_X3_placeIn : GoodIn wsX3_ghost (va_wsS RX3 30 yX3_placeIn wsX3_placeIn) := goodIn_app (goodIn_of _ (by decide +kernel)) ggX3_ghost_X3_placeIn
set_option maxRecDepth 20000 in
theorem ggX3_ghost_X3_leaves : GoodIn wsX3_ghost wsX3_leaves := goodIn_r _ [19, 20, 21, 3, 22] (by decide +kernel) (by decide +kernel)
set_option maxRecDepth 20000 in
theorem gX3_ghost_X3_leaves : GoodIn wsX3_ghost (va_wsS RX3 38 yX3_leaves wsX3_leaves) := goodIn_app (goodIn_of _ (by decide +kernel)) ggX3_ghost_X3_leaves
set_option maxRecDepth 20000 in
theorem ggX3_ghost_X3_joins : GoodIn wsX3_ghost wsX3_joins := goodIn_r _ [25, 20, 21, 3, 22] (by decide +kernel) (by decide +kernel)
set_option maxRecDepth 20000 in
theorem gX3_ghost_X3_joins : GoodIn wsX3_ghost (va_wsS RX3 41 yX3_joins wsX3_joins) := goodIn_app (goodIn_of _ (by decide +kernel)) ggX3_ghost_X3_joins
theorem dX3_ghost_0 : decode cX3_ghost 0 = .ok (.aload_n 0, 1) := by decide +kernel
theorem dX3_ghost_1 : decode cX3_ghost 1 = .ok (.iconst 5, 1) := by decide +kernel
theorem dX3_ghost_2 : decode cX3_ghost 2 = .ok (.iaload, 1) := by decide +kernel
theorem dX3_ghost_3 : decode cX3_ghost 3 = .ok (.aload_n 0, 1) := by decide +kernel
theorem dX3_ghost_4 : decode cX3_ghost 4 = .ok (.iconst 4, 1) := by decide +kernel
theorem dX3_ghost_5 : decode cX3_ghost 5 = .ok (.iaload, 1) := by decide +kernel
theorem dX3_ghost_6 : decode cX3_ghost 6 = .ok (.aload_n 0, 1) := by decide +kernel
theorem dX3_ghost_7 : decode cX3_ghost 7 = .ok (.iconst 3, 1) := by decide +kernel
theorem dX3_ghost_8 : decode cX3_ghost 8 = .ok (.iaload, 1) := by decide +kernel
theorem dX3_ghost_9 : decode cX3_ghost 9 = .ok (.ifCond .le 9, 3) := by decide +kernel
theorem dX3_ghost_12 : decode cX3_ghost 12 = .ok (.aload_n 0, 1) := by decide +kernel
theorem dX3_ghost_13 : decode cX3_ghost 13 = .ok (.iconst 3, 1) := by decide +kernel
theorem dX3_ghost_14 : decode cX3_ghost 14 = .ok (.iaload, 1) := by decide +kernel
theorem dX3_ghost_15 : decode cX3_ghost 15 = .ok (.goto 4, 3) := by decide +kernel
theorem dX3_ghost_18 : decode cX3_ghost 18 = .ok (.iconst 1, 1) := by decide +kernel
theorem dX3_ghost_19 : decode cX3_ghost 19 = .ok (.invokestatic 53, 3) := by decide +kernel
theorem dX3_ghost_22 : decode cX3_ghost 22 = .ok (.iadd, 1) := by decide +kernel
theorem dX3_ghost_23 : decode cX3_ghost 23 = .ok (.istore_n 3, 1) := by decide +kernel
theorem dX3_ghost_24 : decode cX3_ghost 24 = .ok (.aload_n 0, 1) := by decide +kernel
theorem dX3_ghost_25 : decode cX3_ghost 25 = .ok (.iconst 5, 1) := by decide +kernel
theorem dX3_ghost_26 : decode cX3_ghost 26 = .ok (.iaload, 1) := by decide +kernel
theorem dX3_ghost_27 : decode cX3_ghost 27 = .ok (.aload_n 0, 1) := by decide +kernel
theorem dX3_ghost_28 : decode cX3_ghost 28 = .ok (.iconst 3, 1) := by decide +kernel
theorem dX3_ghost_29 : decode cX3_ghost 29 = .ok (.iaload, 1) := by decide +kernel
theorem dX3_ghost_30 : decode cX3_ghost 30 = .ok (.aload_n 0, 1) := by decide +kernel
theorem dX3_ghost_31 : decode cX3_ghost 31 = .ok (.iconst 4, 1) := by decide +kernel
theorem dX3_ghost_32 : decode cX3_ghost 32 = .ok (.iaload, 1) := by decide +kernel
theorem dX3_ghost_33 : decode cX3_ghost 33 = .ok (.ifCond .le 9, 3) := by decide +kernel
theorem dX3_ghost_36 : decode cX3_ghost 36 = .ok (.aload_n 0, 1) := by decide +kernel
theorem dX3_ghost_37 : decode cX3_ghost 37 = .ok (.iconst 4, 1) := by decide +kernel
theorem dX3_ghost_38 : decode cX3_ghost 38 = .ok (.iaload, 1) := by decide +kernel
theorem dX3_ghost_39 : decode cX3_ghost 39 = .ok (.goto 4, 3) := by decide +kernel
theorem dX3_ghost_42 : decode cX3_ghost 42 = .ok (.iconst 1, 1) := by decide +kernel
theorem dX3_ghost_43 : decode cX3_ghost 43 = .ok (.invokestatic 53, 3) := by decide +kernel
theorem dX3_ghost_46 : decode cX3_ghost 46 = .ok (.isub, 1) := by decide +kernel
theorem dX3_ghost_47 : decode cX3_ghost 47 = .ok (.istore 4, 2) := by decide +kernel
theorem dX3_ghost_49 : decode cX3_ghost 49 = .ok (.iload_n 2, 1) := by decide +kernel
theorem dX3_ghost_50 : decode cX3_ghost 50 = .ok (.iconst 3, 1) := by decide +kernel
theorem dX3_ghost_51 : decode cX3_ghost 51 = .ok (.if_icmp .ne 25, 3) := by decide +kernel
theorem dX3_ghost_54 : decode cX3_ghost 54 = .ok (.aload_n 0, 1) := by decide +kernel
theorem dX3_ghost_55 : decode cX3_ghost 55 = .ok (.iconst 5, 1) := by decide +kernel
theorem dX3_ghost_56 : decode cX3_ghost 56 = .ok (.iload_n 3, 1) := by decide +kernel
theorem dX3_ghost_57 : decode cX3_ghost 57 = .ok (.aload_n 0, 1) := by decide +kernel
theorem dX3_ghost_58 : decode cX3_ghost 58 = .ok (.bipush 6, 2) := by decide +kernel
theorem dX3_ghost_60 : decode cX3_ghost 60 = .ok (.iaload, 1) := by decide +kernel
theorem dX3_ghost_61 : decode cX3_ghost 61 = .ok (.if_icmp .le 10, 3) := by decide +kernel
theorem dX3_ghost_64 : decode cX3_ghost 64 = .ok (.aload_n 0, 1) := by decide +kernel
theorem dX3_ghost_65 : decode cX3_ghost 65 = .ok (.bipush 6, 2) := by decide +kernel
theorem dX3_ghost_67 : decode cX3_ghost 67 = .ok (.iaload, 1) := by decide +kernel
theorem dX3_ghost_68 : decode cX3_ghost 68 = .ok (.goto 4, 3) := by decide +kernel
theorem dX3_ghost_71 : decode cX3_ghost 71 = .ok (.iload_n 3, 1) := by decide +kernel
theorem dX3_ghost_72 : decode cX3_ghost 72 = .ok (.iastore, 1) := by decide +kernel
theorem dX3_ghost_73 : decode cX3_ghost 73 = .ok (.goto 17, 3) := by decide +kernel
theorem dX3_ghost_76 : decode cX3_ghost 76 = .ok (.aload_n 0, 1) := by decide +kernel
theorem dX3_ghost_77 : decode cX3_ghost 77 = .ok (.iconst 5, 1) := by decide +kernel
theorem dX3_ghost_78 : decode cX3_ghost 78 = .ok (.iload 4, 2) := by decide +kernel
theorem dX3_ghost_80 : decode cX3_ghost 80 = .ok (.ifCond .ge 7, 3) := by decide +kernel
theorem dX3_ghost_83 : decode cX3_ghost 83 = .ok (.iconst 0, 1) := by decide +kernel
theorem dX3_ghost_84 : decode cX3_ghost 84 = .ok (.goto 5, 3) := by decide +kernel
theorem dX3_ghost_87 : decode cX3_ghost 87 = .ok (.iload 4, 2) := by decide +kernel
theorem dX3_ghost_89 : decode cX3_ghost 89 = .ok (.iastore, 1) := by decide +kernel
theorem dX3_ghost_90 : decode cX3_ghost 90 = .ok (.aload_n 0, 1) := by decide +kernel
theorem dX3_ghost_91 : decode cX3_ghost 91 = .ok (.iload_n 2, 1) := by decide +kernel
theorem dX3_ghost_92 : decode cX3_ghost 92 = .ok (.invokestatic 56, 3) := by decide +kernel
theorem dX3_ghost_95 : decode cX3_ghost 95 = .ok (.aload_n 0, 1) := by decide +kernel
theorem dX3_ghost_96 : decode cX3_ghost 96 = .ok (.iload_n 2, 1) := by decide +kernel
theorem dX3_ghost_97 : decode cX3_ghost 97 = .ok (.aload_n 0, 1) := by decide +kernel
theorem dX3_ghost_98 : decode cX3_ghost 98 = .ok (.iload_n 2, 1) := by decide +kernel
theorem dX3_ghost_99 : decode cX3_ghost 99 = .ok (.iload_n 1, 1) := by decide +kernel
theorem dX3_ghost_100 : decode cX3_ghost 100 = .ok (.invokestatic 30, 3) := by decide +kernel
theorem dX3_ghost_103 : decode cX3_ghost 103 = .ok (.invokestatic 38, 3) := by decide +kernel
theorem dX3_ghost_106 : decode cX3_ghost 106 = .ok (.pop, 1) := by decide +kernel
theorem dX3_ghost_107 : decode cX3_ghost 107 = .ok (.aload_n 0, 1) := by decide +kernel
theorem dX3_ghost_108 : decode cX3_ghost 108 = .ok (.iconst 2, 1) := by decide +kernel
theorem dX3_ghost_109 : decode cX3_ghost 109 = .ok (.iload_n 1, 1) := by decide +kernel
theorem dX3_ghost_110 : decode cX3_ghost 110 = .ok (.invokestatic 41, 3) := by decide +kernel
theorem dX3_ghost_113 : decode cX3_ghost 113 = .ok (.return_, 1) := by decide +kernel
set_option maxRecDepth 20000 in
theorem ggX3_miss_X3_leaves : GoodIn wsX3_miss wsX3_leaves := goodIn_r _ [4, 5, 6, 3, 7] (by decide +kernel) (by decide +kernel)
set_option maxRecDepth 20000 in
theorem gX3_miss_X3_leaves : GoodIn wsX3_miss (va_wsS RX3 38 yX3_leaves wsX3_leaves) := goodIn_app (goodIn_of _ (by decide +kernel)) ggX3_miss_X3_leaves
set_option maxRecDepth 20000 in
theorem ggX3_miss_X3_evictsIfFull : GoodIn wsX3_miss wsX3_evictsIfFull := goodIn_r _ [10, 11, 12, 3, 13, 14, 15, 16, 17, 18, 19, 1, 2, 4, 5, 6, 7, 20, 21, 22] (by decide +kernel) (by decide +kernel)
set_option maxRecDepth 20000 in
theorem gX3_miss_X3_evictsIfFull : GoodIn wsX3_miss (va_wsS RX3 56 yX3_evictsIfFull wsX3_evictsIfFull) := goodIn_app (goodIn_of _ (by decide +kernel)) ggX3_miss_X3_evictsIfFull
set_option maxRecDepth 20000 in
theorem ggX3_miss_X3_allKeys : GoodIn wsX3_miss wsX3_allKeys := goodIn_r _ [25] (by decide +kernel) (by decide +kernel)
set_option maxRecDepth 20000 in
theorem gX3_miss_X3_allKeys : GoodIn wsX3_miss (va_wsS RX3 59 yX3_allKeys wsX3_allKeys) := goodIn_app (goodIn_of _ (by decide +kernel)) ggX3_miss_X3_allKeys
set_option maxRecDepth 20000 in
theorem ggX3_miss_X3_joins : GoodIn wsX3_miss wsX3_joins := goodIn_r _ [22, 5, 6, 3, 7] (by decide +kernel) (by decide +kernel)
set_option maxRecDepth 20000 in
theorem gX3_miss_X3_joins : GoodIn wsX3_miss (va_wsS RX3 41 yX3_joins wsX3_joins) := goodIn_app (goodIn_of _ (by decide +kernel)) ggX3_miss_X3_joins
theorem dX3_miss_0 : decode cX3_miss 0 = .ok (.aload_n 0, 1) := by decide +kernel
theorem dX3_miss_1 : decode cX3_miss 1 = .ok (.iconst 1, 1) := by decide +kernel
theorem dX3_miss_2 : decode cX3_miss 2 = .ok (.iaload, 1) := by decide +kernel
theorem dX3_miss_3 : decode cX3_miss 3 = .ok (.aload_n 0, 1) := by decide +kernel
theorem dX3_miss_4 : decode cX3_miss 4 = .ok (.iconst 3, 1) := by decide +kernel
theorem dX3_miss_5 : decode cX3_miss 5 = .ok (.iaload, 1) := by decide +kernel
theorem dX3_miss_6 : decode cX3_miss 6 = .ok (.iadd, 1) := by decide +kernel
theorem dX3_miss_7 : decode cX3_miss 7 = .ok (.aload_n 0, 1) := by decide +kernel
theorem dX3_miss_8 : decode cX3_miss 8 = .ok (.bipush 6, 2) := by decide +kernel
theorem dX3_miss_10 : decode cX3_miss 10 = .ok (.iaload, 1) := by decide +kernel
theorem dX3_miss_11 : decode cX3_miss 11 = .ok (.if_icmp .lt 42, 3) := by decide +kernel
theorem dX3_miss_14 : decode cX3_miss 14 = .ok (.aload_n 0, 1) := by decide +kernel
theorem dX3_miss_15 : decode cX3_miss 15 = .ok (.iconst 3, 1) := by decide +kernel
theorem dX3_miss_16 : decode cX3_miss 16 = .ok (.iaload, 1) := by decide +kernel
theorem dX3_miss_17 : decode cX3_miss 17 = .ok (.ifCond .ne 21, 3) := by decide +kernel
theorem dX3_miss_20 : decode cX3_miss 20 = .ok (.aload_n 0, 1) := by decide +kernel
theorem dX3_miss_21 : decode cX3_miss 21 = .ok (.iconst 1, 1) := by decide +kernel
theorem dX3_miss_22 : decode cX3_miss 22 = .ok (.iconst 0, 1) := by decide +kernel
theorem dX3_miss_23 : decode cX3_miss 23 = .ok (.invokestatic 38, 3) := by decide +kernel
theorem dX3_miss_26 : decode cX3_miss 26 = .ok (.pop, 1) := by decide +kernel
theorem dX3_miss_27 : decode cX3_miss 27 = .ok (.aload_n 0, 1) := by decide +kernel
theorem dX3_miss_28 : decode cX3_miss 28 = .ok (.bipush 10, 2) := by decide +kernel
theorem dX3_miss_30 : decode cX3_miss 30 = .ok (.dup2, 1) := by decide +kernel
theorem dX3_miss_31 : decode cX3_miss 31 = .ok (.iaload, 1) := by decide +kernel
theorem dX3_miss_32 : decode cX3_miss 32 = .ok (.iconst 1, 1) := by decide +kernel
theorem dX3_miss_33 : decode cX3_miss 33 = .ok (.iadd, 1) := by decide +kernel
theorem dX3_miss_34 : decode cX3_miss 34 = .ok (.iastore, 1) := by decide +kernel
theorem dX3_miss_35 : decode cX3_miss 35 = .ok (.goto 43, 3) := by decide +kernel
theorem dX3_miss_38 : decode cX3_miss 38 = .ok (.aload_n 0, 1) := by decide +kernel
theorem dX3_miss_39 : decode cX3_miss 39 = .ok (.iconst 3, 1) := by decide +kernel
theorem dX3_miss_40 : decode cX3_miss 40 = .ok (.iconst 0, 1) := by decide +kernel
theorem dX3_miss_41 : decode cX3_miss 41 = .ok (.invokestatic 38, 3) := by decide +kernel
theorem dX3_miss_44 : decode cX3_miss 44 = .ok (.pop, 1) := by decide +kernel
theorem dX3_miss_45 : decode cX3_miss 45 = .ok (.aload_n 0, 1) := by decide +kernel
theorem dX3_miss_46 : decode cX3_miss 46 = .ok (.iconst 0, 1) := by decide +kernel
theorem dX3_miss_47 : decode cX3_miss 47 = .ok (.invokestatic 56, 3) := by decide +kernel
theorem dX3_miss_50 : decode cX3_miss 50 = .ok (.goto 28, 3) := by decide +kernel
theorem dX3_miss_53 : decode cX3_miss 53 = .ok (.aload_n 0, 1) := by decide +kernel
theorem dX3_miss_54 : decode cX3_miss 54 = .ok (.invokestatic 59, 3) := by decide +kernel
theorem dX3_miss_57 : decode cX3_miss 57 = .ok (.iconst 2, 1) := by decide +kernel
theorem dX3_miss_58 : decode cX3_miss 58 = .ok (.aload_n 0, 1) := by decide +kernel
theorem dX3_miss_59 : decode cX3_miss 59 = .ok (.bipush 6, 2) := by decide +kernel
theorem dX3_miss_61 : decode cX3_miss 61 = .ok (.iaload, 1) := by decide +kernel
theorem dX3_miss_62 : decode cX3_miss 62 = .ok (.imul, 1) := by decide +kernel
theorem dX3_miss_63 : decode cX3_miss 63 = .ok (.if_icmp .lt 10, 3) := by decide +kernel
theorem dX3_miss_66 : decode cX3_miss 66 = .ok (.aload_n 0, 1) := by decide +kernel
theorem dX3_miss_67 : decode cX3_miss 67 = .ok (.iconst 4, 1) := by decide +kernel
theorem dX3_miss_68 : decode cX3_miss 68 = .ok (.iconst 0, 1) := by decide +kernel
theorem dX3_miss_69 : decode cX3_miss 69 = .ok (.invokestatic 38, 3) := by decide +kernel
theorem dX3_miss_72 : decode cX3_miss 72 = .ok (.pop, 1) := by decide +kernel
theorem dX3_miss_73 : decode cX3_miss 73 = .ok (.aload_n 0, 1) := by decide +kernel
theorem dX3_miss_74 : decode cX3_miss 74 = .ok (.iconst 0, 1) := by decide +kernel
theorem dX3_miss_75 : decode cX3_miss 75 = .ok (.invokestatic 56, 3) := by decide +kernel
theorem dX3_miss_78 : decode cX3_miss 78 = .ok (.aload_n 0, 1) := by decide +kernel
theorem dX3_miss_79 : decode cX3_miss 79 = .ok (.iconst 1, 1) := by decide +kernel
theorem dX3_miss_80 : decode cX3_miss 80 = .ok (.iload_n 1, 1) := by decide +kernel
theorem dX3_miss_81 : decode cX3_miss 81 = .ok (.invokestatic 41, 3) := by decide +kernel
theorem dX3_miss_84 : decode cX3_miss 84 = .ok (.return_, 1) := by decide +kernel
set_option maxRecDepth 20000 in
theorem ggX3_asks_X3_listOf : GoodIn wsX3_asks wsX3_listOf := goodIn_r _ [4, 5, 6, 3, 7, 8, 9, 10] (by decide +kernel) (by decide +kernel)
set_option maxRecDepth 20000 in
theorem gX3_asks_X3_listOf : GoodIn wsX3_asks (va_wsS RX3 63 yX3_listOf wsX3_listOf) := goodIn_app (goodIn_of _ (by decide +kernel)) ggX3_asks_X3_listOf
set_option maxRecDepth 20000 in
theorem ggX3_asks_X3_placeIn : GoodIn wsX3_asks wsX3_placeIn := goodIn_r _ [7, 8, 9, 3, 10] (by decide +kernel) (by decide +kernel)
set_option maxRecDepth 20000 in
theorem gX3_asks_X3_placeIn : GoodIn wsX3_asks (va_wsS RX3 30 yX3_placeIn wsX3_placeIn) := goodIn_app (goodIn_of _ (by decide +kernel)) ggX3_asks_X3_placeIn
set_option maxRecDepth 20000 in
theorem ggX3_asks_X3_leaves : GoodIn wsX3_asks wsX3_leaves := goodIn_r _ [13, 8, 9, 3, 10] (by decide +kernel) (by decide +kernel)
set_option maxRecDepth 20000 in
theorem gX3_asks_X3_leaves : GoodIn wsX3_asks (va_wsS RX3 38 yX3_leaves wsX3_leaves) := goodIn_app (goodIn_of _ (by decide +kernel)) ggX3_asks_X3_leaves
set_option maxRecDepth 20000 in
theorem ggX3_asks_X3_joins : GoodIn wsX3_asks wsX3_joins := goodIn_r _ [16, 8, 9, 3, 10] (by decide +kernel) (by decide +kernel)
set_option maxRecDepth 20000 in
theorem gX3_asks_X3_joins : GoodIn wsX3_asks (va_wsS RX3 41 yX3_joins wsX3_joins) := goodIn_app (goodIn_of _ (by decide +kernel)) ggX3_asks_X3_joins
set_option maxRecDepth 20000 in
theorem ggX3_asks_X3_ghost : GoodIn wsX3_asks wsX3_ghost := goodIn_r _ [19, 20, 21, 3, 22, 23, 24, 25, 26, 27, 28, 29, 30, 31, 32, 33, 34, 11, 12, 13, 8, 9, 10, 14, 15, 16, 5, 6, 7] (by decide +kernel) (by decide +kernel)
set_option maxRecDepth 20000 in
theorem gX3_asks_X3_ghost : GoodIn wsX3_asks (va_wsS RX3 66 yX3_ghost wsX3_ghost) := goodIn_app (goodIn_of _ (by decide +kernel)) ggX3_asks_X3_ghost
set_option maxRecDepth 20000 in
theorem ggX3_asks_X3_miss : GoodIn wsX3_asks wsX3_miss := goodIn_r _ [37, 11, 12, 3, 13, 8, 9, 10, 23, 24, 25, 26, 27, 28, 29, 30, 31, 32, 33, 34, 14, 15, 16, 38, 39, 40] (by decide +kernel) (by decide +kernel)
set_option maxRecDepth 20000 in
theorem gX3_asks_X3_miss : GoodIn wsX3_asks (va_wsS RX3 69 yX3_miss wsX3_miss) := goodIn_app (goodIn_of _ (by decide +kernel)) ggX3_asks_X3_miss
theorem dX3_asks_0 : decode cX3_asks 0 = .ok (.aload_n 0, 1) := by decide +kernel
theorem dX3_asks_1 : decode cX3_asks 1 = .ok (.iload_n 1, 1) := by decide +kernel
theorem dX3_asks_2 : decode cX3_asks 2 = .ok (.invokestatic 63, 3) := by decide +kernel
theorem dX3_asks_5 : decode cX3_asks 5 = .ok (.istore_n 2, 1) := by decide +kernel
theorem dX3_asks_6 : decode cX3_asks 6 = .ok (.aload_n 0, 1) := by decide +kernel
theorem dX3_asks_7 : decode cX3_asks 7 = .ok (.bipush 8, 2) := by decide +kernel
theorem dX3_asks_9 : decode cX3_asks 9 = .ok (.aload_n 0, 1) := by decide +kernel
theorem dX3_asks_10 : decode cX3_asks 10 = .ok (.bipush 8, 2) := by decide +kernel
theorem dX3_asks_12 : decode cX3_asks 12 = .ok (.iaload, 1) := by decide +kernel
theorem dX3_asks_13 : decode cX3_asks 13 = .ok (.ifCond .le 22, 3) := by decide +kernel
theorem dX3_asks_16 : decode cX3_asks 16 = .ok (.iload_n 1, 1) := by decide +kernel
theorem dX3_asks_17 : decode cX3_asks 17 = .ok (.aload_n 0, 1) := by decide +kernel
theorem dX3_asks_18 : decode cX3_asks 18 = .ok (.bipush 9, 2) := by decide +kernel
theorem dX3_asks_20 : decode cX3_asks 20 = .ok (.iaload, 1) := by decide +kernel
theorem dX3_asks_21 : decode cX3_asks 21 = .ok (.iconst 1, 1) := by decide +kernel
theorem dX3_asks_22 : decode cX3_asks 22 = .ok (.iadd, 1) := by decide +kernel
theorem dX3_asks_23 : decode cX3_asks 23 = .ok (.if_icmp .ne 12, 3) := by decide +kernel
theorem dX3_asks_26 : decode cX3_asks 26 = .ok (.aload_n 0, 1) := by decide +kernel
theorem dX3_asks_27 : decode cX3_asks 27 = .ok (.bipush 8, 2) := by decide +kernel
theorem dX3_asks_29 : decode cX3_asks 29 = .ok (.iaload, 1) := by decide +kernel
theorem dX3_asks_30 : decode cX3_asks 30 = .ok (.iconst 1, 1) := by decide +kernel
theorem dX3_asks_31 : decode cX3_asks 31 = .ok (.iadd, 1) := by decide +kernel
theorem dX3_asks_32 : decode cX3_asks 32 = .ok (.goto 4, 3) := by decide +kernel
theorem dX3_asks_35 : decode cX3_asks 35 = .ok (.iconst 1, 1) := by decide +kernel
theorem dX3_asks_36 : decode cX3_asks 36 = .ok (.iastore, 1) := by decide +kernel
theorem dX3_asks_37 : decode cX3_asks 37 = .ok (.aload_n 0, 1) := by decide +kernel
theorem dX3_asks_38 : decode cX3_asks 38 = .ok (.bipush 9, 2) := by decide +kernel
theorem dX3_asks_40 : decode cX3_asks 40 = .ok (.iload_n 1, 1) := by decide +kernel
theorem dX3_asks_41 : decode cX3_asks 41 = .ok (.iastore, 1) := by decide +kernel
theorem dX3_asks_42 : decode cX3_asks 42 = .ok (.aload_n 0, 1) := by decide +kernel
theorem dX3_asks_43 : decode cX3_asks 43 = .ok (.bipush 7, 2) := by decide +kernel
theorem dX3_asks_45 : decode cX3_asks 45 = .ok (.iaload, 1) := by decide +kernel
theorem dX3_asks_46 : decode cX3_asks 46 = .ok (.ifCond .le 31, 3) := by decide +kernel
theorem dX3_asks_49 : decode cX3_asks 49 = .ok (.aload_n 0, 1) := by decide +kernel
theorem dX3_asks_50 : decode cX3_asks 50 = .ok (.bipush 8, 2) := by decide +kernel
theorem dX3_asks_52 : decode cX3_asks 52 = .ok (.iaload, 1) := by decide +kernel
theorem dX3_asks_53 : decode cX3_asks 53 = .ok (.aload_n 0, 1) := by decide +kernel
theorem dX3_asks_54 : decode cX3_asks 54 = .ok (.bipush 7, 2) := by decide +kernel
theorem dX3_asks_56 : decode cX3_asks 56 = .ok (.iaload, 1) := by decide +kernel
theorem dX3_asks_57 : decode cX3_asks 57 = .ok (.if_icmp .lt 20, 3) := by decide +kernel
theorem dX3_asks_60 : decode cX3_asks 60 = .ok (.iload_n 2, 1) := by decide +kernel
theorem dX3_asks_61 : decode cX3_asks 61 = .ok (.iconst 1, 1) := by decide +kernel
theorem dX3_asks_62 : decode cX3_asks 62 = .ok (.if_icmp .eq 8, 3) := by decide +kernel
theorem dX3_asks_65 : decode cX3_asks 65 = .ok (.iload_n 2, 1) := by decide +kernel
theorem dX3_asks_66 : decode cX3_asks 66 = .ok (.iconst 2, 1) := by decide +kernel
theorem dX3_asks_67 : decode cX3_asks 67 = .ok (.if_icmp .ne 7, 3) := by decide +kernel
theorem dX3_asks_70 : decode cX3_asks 70 = .ok (.iload_n 2, 1) := by decide +kernel
theorem dX3_asks_71 : decode cX3_asks 71 = .ok (.goto 5, 3) := by decide +kernel
theorem dX3_asks_74 : decode cX3_asks 74 = .ok (.bipush 6, 2) := by decide +kernel
theorem dX3_asks_76 : decode cX3_asks 76 = .ok (.ireturn, 1) := by decide +kernel
theorem dX3_asks_77 : decode cX3_asks 77 = .ok (.iload_n 2, 1) := by decide +kernel
theorem dX3_asks_78 : decode cX3_asks 78 = .ok (.iconst 1, 1) := by decide +kernel
theorem dX3_asks_79 : decode cX3_asks 79 = .ok (.if_icmp .eq 8, 3) := by decide +kernel
theorem dX3_asks_82 : decode cX3_asks 82 = .ok (.iload_n 2, 1) := by decide +kernel
theorem dX3_asks_83 : decode cX3_asks 83 = .ok (.iconst 2, 1) := by decide +kernel
theorem dX3_asks_84 : decode cX3_asks 84 = .ok (.if_icmp .ne 24, 3) := by decide +kernel
theorem dX3_asks_87 : decode cX3_asks 87 = .ok (.aload_n 0, 1) := by decide +kernel
theorem dX3_asks_88 : decode cX3_asks 88 = .ok (.iload_n 2, 1) := by decide +kernel
theorem dX3_asks_89 : decode cX3_asks 89 = .ok (.aload_n 0, 1) := by decide +kernel
theorem dX3_asks_90 : decode cX3_asks 90 = .ok (.iload_n 2, 1) := by decide +kernel
theorem dX3_asks_91 : decode cX3_asks 91 = .ok (.iload_n 1, 1) := by decide +kernel
theorem dX3_asks_92 : decode cX3_asks 92 = .ok (.invokestatic 30, 3) := by decide +kernel
theorem dX3_asks_95 : decode cX3_asks 95 = .ok (.invokestatic 38, 3) := by decide +kernel
theorem dX3_asks_98 : decode cX3_asks 98 = .ok (.pop, 1) := by decide +kernel
theorem dX3_asks_99 : decode cX3_asks 99 = .ok (.aload_n 0, 1) := by decide +kernel
theorem dX3_asks_100 : decode cX3_asks 100 = .ok (.iconst 2, 1) := by decide +kernel
theorem dX3_asks_101 : decode cX3_asks 101 = .ok (.iload_n 1, 1) := by decide +kernel
theorem dX3_asks_102 : decode cX3_asks 102 = .ok (.invokestatic 41, 3) := by decide +kernel
theorem dX3_asks_105 : decode cX3_asks 105 = .ok (.goto 21, 3) := by decide +kernel
theorem dX3_asks_108 : decode cX3_asks 108 = .ok (.iload_n 2, 1) := by decide +kernel
theorem dX3_asks_109 : decode cX3_asks 109 = .ok (.ifCond .le 12, 3) := by decide +kernel
theorem dX3_asks_112 : decode cX3_asks 112 = .ok (.aload_n 0, 1) := by decide +kernel
theorem dX3_asks_113 : decode cX3_asks 113 = .ok (.iload_n 1, 1) := by decide +kernel
theorem dX3_asks_114 : decode cX3_asks 114 = .ok (.iload_n 2, 1) := by decide +kernel
theorem dX3_asks_115 : decode cX3_asks 115 = .ok (.invokestatic 66, 3) := by decide +kernel
theorem dX3_asks_118 : decode cX3_asks 118 = .ok (.goto 8, 3) := by decide +kernel
theorem dX3_asks_121 : decode cX3_asks 121 = .ok (.aload_n 0, 1) := by decide +kernel
theorem dX3_asks_122 : decode cX3_asks 122 = .ok (.iload_n 1, 1) := by decide +kernel
theorem dX3_asks_123 : decode cX3_asks 123 = .ok (.invokestatic 69, 3) := by decide +kernel
theorem dX3_asks_126 : decode cX3_asks 126 = .ok (.iload_n 2, 1) := by decide +kernel
theorem dX3_asks_127 : decode cX3_asks 127 = .ok (.ifCond .ne 7, 3) := by decide +kernel
theorem dX3_asks_130 : decode cX3_asks 130 = .ok (.iconst 5, 1) := by decide +kernel
theorem dX3_asks_131 : decode cX3_asks 131 = .ok (.goto 4, 3) := by decide +kernel
theorem dX3_asks_134 : decode cX3_asks 134 = .ok (.iload_n 2, 1) := by decide +kernel
theorem dX3_asks_135 : decode cX3_asks 135 = .ok (.ireturn, 1) := by decide +kernel
set_option maxRecDepth 20000 in
theorem ggX3_request_X3_isKey : GoodIn wsX3_request wsX3_isKey := goodIn_r _ [11] (by decide +kernel) (by decide +kernel)
set_option maxRecDepth 20000 in
theorem gX3_request_X3_isKey : GoodIn wsX3_request (va_wsS RX3 72 yX3_isKey wsX3_isKey) := goodIn_app (goodIn_of _ (by decide +kernel)) ggX3_request_X3_isKey
set_option maxRecDepth 20000 in
theorem ggX3_request_X3_asked : GoodIn wsX3_request wsX3_asked := goodIn_r _ [15, 16, 59, 60, 61, 62, 63, 64, 65, 66, 67, 68] (by decide +kernel) (by decide +kernel)
set_option maxRecDepth 20000 in
theorem gX3_request_X3_asked : GoodIn wsX3_request (wsV RX3 76 RX3 yX3_asked wsX3_asked) := goodIn_app (goodIn_of _ (by decide +kernel)) ggX3_request_X3_asked
set_option maxRecDepth 20000 in
theorem ggX3_request_X3_asks : GoodIn wsX3_request wsX3_asks := goodIn_r _ [19, 20, 21, 10, 22, 23, 24, 25, 26, 27, 28, 29, 30, 31, 32, 33, 34, 35, 36, 37, 38, 39, 40, 41, 42, 43, 44, 45, 46, 47, 48, 49, 50, 51, 52, 53, 54, 55, 56, 57, 58] (by decide +kernel) (by decide +kernel)
set_option maxRecDepth 20000 in
theorem gX3_request_X3_asks : GoodIn wsX3_request (va_wsS RX3 80 yX3_asks wsX3_asks) := goodIn_app (goodIn_of _ (by decide +kernel)) ggX3_request_X3_asks
theorem dX3_request_0 : decode cX3_request 0 = .ok (.aload_n 0, 1) := by decide +kernel
theorem dX3_request_1 : decode cX3_request 1 = .ok (.iload_n 1, 1) := by decide +kernel
theorem dX3_request_2 : decode cX3_request 2 = .ok (.invokestatic 72, 3) := by decide +kernel
theorem dX3_request_5 : decode cX3_request 5 = .ok (.invokevirtual 76, 3) := by decide +kernel
theorem dX3_request_8 : decode cX3_request 8 = .ok (.ifCond .ne 5, 3) := by decide +kernel
theorem dX3_request_11 : decode cX3_request 11 = .ok (.iconst 0, 1) := by decide +kernel
theorem dX3_request_12 : decode cX3_request 12 = .ok (.ireturn, 1) := by decide +kernel
theorem dX3_request_13 : decode cX3_request 13 = .ok (.aload_n 0, 1) := by decide +kernel
theorem dX3_request_14 : decode cX3_request 14 = .ok (.getfield 7, 3) := by decide +kernel
theorem dX3_request_17 : decode cX3_request 17 = .ok (.iload_n 1, 1) := by decide +kernel
theorem dX3_request_18 : decode cX3_request 18 = .ok (.invokestatic 80, 3) := by decide +kernel
theorem dX3_request_21 : decode cX3_request 21 = .ok (.istore_n 2, 1) := by decide +kernel
theorem dX3_request_22 : decode cX3_request 22 = .ok (.aload_n 0, 1) := by decide +kernel
theorem dX3_request_23 : decode cX3_request 23 = .ok (.dup, 1) := by decide +kernel
theorem dX3_request_24 : decode cX3_request 24 = .ok (.getfield 83, 3) := by decide +kernel
theorem dX3_request_27 : decode cX3_request 27 = .ok (.iconst 1, 1) := by decide +kernel
theorem dX3_request_28 : decode cX3_request 28 = .ok (.iadd, 1) := by decide +kernel
theorem dX3_request_29 : decode cX3_request 29 = .ok (.putfield 83, 3) := by decide +kernel
theorem dX3_request_32 : decode cX3_request 32 = .ok (.aload_n 0, 1) := by decide +kernel
theorem dX3_request_33 : decode cX3_request 33 = .ok (.dup, 1) := by decide +kernel
theorem dX3_request_34 : decode cX3_request 34 = .ok (.getfield 86, 3) := by decide +kernel
theorem dX3_request_37 : decode cX3_request 37 = .ok (.iload_n 2, 1) := by decide +kernel
theorem dX3_request_38 : decode cX3_request 38 = .ok (.iconst 3, 1) := by decide +kernel
theorem dX3_request_39 : decode cX3_request 39 = .ok (.if_icmp .ge 7, 3) := by decide +kernel
theorem dX3_request_42 : decode cX3_request 42 = .ok (.iconst 1, 1) := by decide +kernel
theorem dX3_request_43 : decode cX3_request 43 = .ok (.goto 4, 3) := by decide +kernel
theorem dX3_request_46 : decode cX3_request 46 = .ok (.iconst 0, 1) := by decide +kernel
theorem dX3_request_47 : decode cX3_request 47 = .ok (.iadd, 1) := by decide +kernel
theorem dX3_request_48 : decode cX3_request 48 = .ok (.putfield 86, 3) := by decide +kernel
theorem dX3_request_51 : decode cX3_request 51 = .ok (.aload_n 0, 1) := by decide +kernel
theorem dX3_request_52 : decode cX3_request 52 = .ok (.dup, 1) := by decide +kernel
theorem dX3_request_53 : decode cX3_request 53 = .ok (.getfield 89, 3) := by decide +kernel
theorem dX3_request_56 : decode cX3_request 56 = .ok (.iload_n 2, 1) := by decide +kernel
theorem dX3_request_57 : decode cX3_request 57 = .ok (.iconst 3, 1) := by decide +kernel
theorem dX3_request_58 : decode cX3_request 58 = .ok (.if_icmp .eq 8, 3) := by decide +kernel
theorem dX3_request_61 : decode cX3_request 61 = .ok (.iload_n 2, 1) := by decide +kernel
theorem dX3_request_62 : decode cX3_request 62 = .ok (.iconst 4, 1) := by decide +kernel
theorem dX3_request_63 : decode cX3_request 63 = .ok (.if_icmp .ne 7, 3) := by decide +kernel
theorem dX3_request_66 : decode cX3_request 66 = .ok (.iconst 1, 1) := by decide +kernel
theorem dX3_request_67 : decode cX3_request 67 = .ok (.goto 4, 3) := by decide +kernel
theorem dX3_request_70 : decode cX3_request 70 = .ok (.iconst 0, 1) := by decide +kernel
theorem dX3_request_71 : decode cX3_request 71 = .ok (.iadd, 1) := by decide +kernel
theorem dX3_request_72 : decode cX3_request 72 = .ok (.putfield 89, 3) := by decide +kernel
theorem dX3_request_75 : decode cX3_request 75 = .ok (.aload_n 0, 1) := by decide +kernel
theorem dX3_request_76 : decode cX3_request 76 = .ok (.dup, 1) := by decide +kernel
theorem dX3_request_77 : decode cX3_request 77 = .ok (.getfield 92, 3) := by decide +kernel
theorem dX3_request_80 : decode cX3_request 80 = .ok (.iload_n 2, 1) := by decide +kernel
theorem dX3_request_81 : decode cX3_request 81 = .ok (.bipush 6, 2) := by decide +kernel
theorem dX3_request_83 : decode cX3_request 83 = .ok (.if_icmp .ne 7, 3) := by decide +kernel
theorem dX3_request_86 : decode cX3_request 86 = .ok (.iconst 1, 1) := by decide +kernel
theorem dX3_request_87 : decode cX3_request 87 = .ok (.goto 4, 3) := by decide +kernel
theorem dX3_request_90 : decode cX3_request 90 = .ok (.iconst 0, 1) := by decide +kernel
theorem dX3_request_91 : decode cX3_request 91 = .ok (.iadd, 1) := by decide +kernel
theorem dX3_request_92 : decode cX3_request 92 = .ok (.putfield 92, 3) := by decide +kernel
theorem dX3_request_95 : decode cX3_request 95 = .ok (.aload_n 0, 1) := by decide +kernel
theorem dX3_request_96 : decode cX3_request 96 = .ok (.getfield 95, 3) := by decide +kernel
theorem dX3_request_99 : decode cX3_request 99 = .ok (.bipush 60, 2) := by decide +kernel
theorem dX3_request_101 : decode cX3_request 101 = .ok (.if_icmp .ne 41, 3) := by decide +kernel
theorem dX3_request_104 : decode cX3_request 104 = .ok (.iconst 1, 1) := by decide +kernel
theorem dX3_request_105 : decode cX3_request 105 = .ok (.istore_n 3, 1) := by decide +kernel
theorem dX3_request_106 : decode cX3_request 106 = .ok (.iload_n 3, 1) := by decide +kernel
theorem dX3_request_107 : decode cX3_request 107 = .ok (.bipush 60, 2) := by decide +kernel
theorem dX3_request_109 : decode cX3_request 109 = .ok (.if_icmp .ge 23, 3) := by decide +kernel
theorem dX3_request_112 : decode cX3_request 112 = .ok (.aload_n 0, 1) := by decide +kernel
theorem dX3_request_113 : decode cX3_request 113 = .ok (.getfield 16, 3) := by decide +kernel
theorem dX3_request_116 : decode cX3_request 116 = .ok (.iload_n 3, 1) := by decide +kernel
theorem dX3_request_117 : decode cX3_request 117 = .ok (.iconst 1, 1) := by decide +kernel
theorem dX3_request_118 : decode cX3_request 118 = .ok (.isub, 1) := by decide +kernel
theorem dX3_request_119 : decode cX3_request 119 = .ok (.aload_n 0, 1) := by decide +kernel
theorem dX3_request_120 : decode cX3_request 120 = .ok (.getfield 16, 3) := by decide +kernel
theorem dX3_request_123 : decode cX3_request 123 = .ok (.iload_n 3, 1) := by decide +kernel
theorem dX3_request_124 : decode cX3_request 124 = .ok (.iaload, 1) := by decide +kernel
theorem dX3_request_125 : decode cX3_request 125 = .ok (.iastore, 1) := by decide +kernel
theorem dX3_request_126 : decode cX3_request 126 = .ok (.iinc 3 1, 3) := by decide +kernel
theorem dX3_request_129 : decode cX3_request 129 = .ok (.goto (-23), 3) := by decide +kernel
theorem dX3_request_132 : decode cX3_request 132 = .ok (.aload_n 0, 1) := by decide +kernel
theorem dX3_request_133 : decode cX3_request 133 = .ok (.dup, 1) := by decide +kernel
theorem dX3_request_134 : decode cX3_request 134 = .ok (.getfield 95, 3) := by decide +kernel
theorem dX3_request_137 : decode cX3_request 137 = .ok (.iconst 1, 1) := by decide +kernel
theorem dX3_request_138 : decode cX3_request 138 = .ok (.isub, 1) := by decide +kernel
theorem dX3_request_139 : decode cX3_request 139 = .ok (.putfield 95, 3) := by decide +kernel
theorem dX3_request_142 : decode cX3_request 142 = .ok (.aload_n 0, 1) := by decide +kernel
theorem dX3_request_143 : decode cX3_request 143 = .ok (.getfield 16, 3) := by decide +kernel
theorem dX3_request_146 : decode cX3_request 146 = .ok (.aload_n 0, 1) := by decide +kernel
theorem dX3_request_147 : decode cX3_request 147 = .ok (.getfield 95, 3) := by decide +kernel
theorem dX3_request_150 : decode cX3_request 150 = .ok (.iload_n 1, 1) := by decide +kernel
theorem dX3_request_151 : decode cX3_request 151 = .ok (.iastore, 1) := by decide +kernel
theorem dX3_request_152 : decode cX3_request 152 = .ok (.aload_n 0, 1) := by decide +kernel
theorem dX3_request_153 : decode cX3_request 153 = .ok (.dup, 1) := by decide +kernel
theorem dX3_request_154 : decode cX3_request 154 = .ok (.getfield 95, 3) := by decide +kernel
theorem dX3_request_157 : decode cX3_request 157 = .ok (.iconst 1, 1) := by decide +kernel
theorem dX3_request_158 : decode cX3_request 158 = .ok (.iadd, 1) := by decide +kernel
theorem dX3_request_159 : decode cX3_request 159 = .ok (.putfield 95, 3) := by decide +kernel
theorem dX3_request_162 : decode cX3_request 162 = .ok (.iload_n 2, 1) := by decide +kernel
theorem dX3_request_163 : decode cX3_request 163 = .ok (.ireturn, 1) := by decide +kernel
set_option maxRecDepth 20000 in
theorem ggX3_remove_X3_isKey : GoodIn wsX3_remove wsX3_isKey := goodIn_r _ [5] (by decide +kernel) (by decide +kernel)
set_option maxRecDepth 20000 in
theorem gX3_remove_X3_isKey : GoodIn wsX3_remove (va_wsS RX3 72 yX3_isKey wsX3_isKey) := goodIn_app (goodIn_of _ (by decide +kernel)) ggX3_remove_X3_isKey
set_option maxRecDepth 20000 in
theorem ggX3_remove_X3_asked : GoodIn wsX3_remove wsX3_asked := goodIn_r _ [9, 10, 23, 24, 25, 26, 27, 28, 29, 30, 31, 32] (by decide +kernel) (by decide +kernel)
set_option maxRecDepth 20000 in
theorem gX3_remove_X3_asked : GoodIn wsX3_remove (wsV RX3 76 RX3 yX3_asked wsX3_asked) := goodIn_app (goodIn_of _ (by decide +kernel)) ggX3_remove_X3_asked
set_option maxRecDepth 20000 in
theorem ggX3_remove_X3_listOf : GoodIn wsX3_remove wsX3_listOf := goodIn_r _ [13, 14, 15, 4, 16, 17, 18, 19] (by decide +kernel) (by decide +kernel)
set_option maxRecDepth 20000 in
theorem gX3_remove_X3_listOf : GoodIn wsX3_remove (va_wsS RX3 63 yX3_listOf wsX3_listOf) := goodIn_app (goodIn_of _ (by decide +kernel)) ggX3_remove_X3_listOf
set_option maxRecDepth 20000 in
theorem ggX3_remove_X3_placeIn : GoodIn wsX3_remove wsX3_placeIn := goodIn_r _ [16, 17, 18, 4, 19] (by decide +kernel) (by decide +kernel)
set_option maxRecDepth 20000 in
theorem gX3_remove_X3_placeIn : GoodIn wsX3_remove (va_wsS RX3 30 yX3_placeIn wsX3_placeIn) := goodIn_app (goodIn_of _ (by decide +kernel)) ggX3_remove_X3_placeIn
set_option maxRecDepth 20000 in
theorem ggX3_remove_X3_leaves : GoodIn wsX3_remove wsX3_leaves := goodIn_r _ [22, 17, 18, 4, 19] (by decide +kernel) (by decide +kernel)
set_option maxRecDepth 20000 in
theorem gX3_remove_X3_leaves : GoodIn wsX3_remove (va_wsS RX3 38 yX3_leaves wsX3_leaves) := goodIn_app (goodIn_of _ (by decide +kernel)) ggX3_remove_X3_leaves
theorem dX3_remove_0 : decode cX3_remove 0 = .ok (.aload_n 0, 1) := by decide +kernel
theorem dX3_remove_1 : decode cX3_remove 1 = .ok (.iload_n 1, 1) := by decide +kernel
theorem dX3_remove_2 : decode cX3_remove 2 = .ok (.invokestatic 72, 3) := by decide +kernel
theorem dX3_remove_5 : decode cX3_remove 5 = .ok (.invokevirtual 76, 3) := by decide +kernel
theorem dX3_remove_8 : decode cX3_remove 8 = .ok (.ifCond .ne 5, 3) := by decide +kernel
theorem dX3_remove_11 : decode cX3_remove 11 = .ok (.iconst 0, 1) := by decide +kernel
theorem dX3_remove_12 : decode cX3_remove 12 = .ok (.ireturn, 1) := by decide +kernel
theorem dX3_remove_13 : decode cX3_remove 13 = .ok (.aload_n 0, 1) := by decide +kernel
theorem dX3_remove_14 : decode cX3_remove 14 = .ok (.getfield 7, 3) := by decide +kernel
theorem dX3_remove_17 : decode cX3_remove 17 = .ok (.iload_n 1, 1) := by decide +kernel
theorem dX3_remove_18 : decode cX3_remove 18 = .ok (.invokestatic 63, 3) := by decide +kernel
theorem dX3_remove_21 : decode cX3_remove 21 = .ok (.istore_n 2, 1) := by decide +kernel
theorem dX3_remove_22 : decode cX3_remove 22 = .ok (.iload_n 2, 1) := by decide +kernel
theorem dX3_remove_23 : decode cX3_remove 23 = .ok (.ifCond .le 21, 3) := by decide +kernel
theorem dX3_remove_26 : decode cX3_remove 26 = .ok (.aload_n 0, 1) := by decide +kernel
theorem dX3_remove_27 : decode cX3_remove 27 = .ok (.getfield 7, 3) := by decide +kernel
theorem dX3_remove_30 : decode cX3_remove 30 = .ok (.iload_n 2, 1) := by decide +kernel
theorem dX3_remove_31 : decode cX3_remove 31 = .ok (.aload_n 0, 1) := by decide +kernel
theorem dX3_remove_32 : decode cX3_remove 32 = .ok (.getfield 7, 3) := by decide +kernel
theorem dX3_remove_35 : decode cX3_remove 35 = .ok (.iload_n 2, 1) := by decide +kernel
theorem dX3_remove_36 : decode cX3_remove 36 = .ok (.iload_n 1, 1) := by decide +kernel
theorem dX3_remove_37 : decode cX3_remove 37 = .ok (.invokestatic 30, 3) := by decide +kernel
theorem dX3_remove_40 : decode cX3_remove 40 = .ok (.invokestatic 38, 3) := by decide +kernel
theorem dX3_remove_43 : decode cX3_remove 43 = .ok (.pop, 1) := by decide +kernel
theorem dX3_remove_44 : decode cX3_remove 44 = .ok (.iload_n 2, 1) := by decide +kernel
theorem dX3_remove_45 : decode cX3_remove 45 = .ok (.ireturn, 1) := by decide +kernel
theorem dX3_clear_0 : decode cX3_clear 0 = .ok (.aload_n 0, 1) := by decide +kernel
theorem dX3_clear_1 : decode cX3_clear 1 = .ok (.iconst 0, 1) := by decide +kernel
theorem dX3_clear_2 : decode cX3_clear 2 = .ok (.putfield 22, 3) := by decide +kernel
theorem dX3_clear_5 : decode cX3_clear 5 = .ok (.aload_n 0, 1) := by decide +kernel
theorem dX3_clear_6 : decode cX3_clear 6 = .ok (.getfield 7, 3) := by decide +kernel
theorem dX3_clear_9 : decode cX3_clear 9 = .ok (.iconst 1, 1) := by decide +kernel
theorem dX3_clear_10 : decode cX3_clear 10 = .ok (.iaload, 1) := by decide +kernel
theorem dX3_clear_11 : decode cX3_clear 11 = .ok (.aload_n 0, 1) := by decide +kernel
theorem dX3_clear_12 : decode cX3_clear 12 = .ok (.getfield 7, 3) := by decide +kernel
theorem dX3_clear_15 : decode cX3_clear 15 = .ok (.iconst 2, 1) := by decide +kernel
theorem dX3_clear_16 : decode cX3_clear 16 = .ok (.iaload, 1) := by decide +kernel
theorem dX3_clear_17 : decode cX3_clear 17 = .ok (.iadd, 1) := by decide +kernel
theorem dX3_clear_18 : decode cX3_clear 18 = .ok (.istore_n 1, 1) := by decide +kernel
theorem dX3_clear_19 : decode cX3_clear 19 = .ok (.iconst 1, 1) := by decide +kernel
theorem dX3_clear_20 : decode cX3_clear 20 = .ok (.istore_n 2, 1) := by decide +kernel
theorem dX3_clear_21 : decode cX3_clear 21 = .ok (.iload_n 2, 1) := by decide +kernel
theorem dX3_clear_22 : decode cX3_clear 22 = .ok (.iconst 5, 1) := by decide +kernel
theorem dX3_clear_23 : decode cX3_clear 23 = .ok (.if_icmp .gt 16, 3) := by decide +kernel
theorem dX3_clear_26 : decode cX3_clear 26 = .ok (.aload_n 0, 1) := by decide +kernel
theorem dX3_clear_27 : decode cX3_clear 27 = .ok (.getfield 7, 3) := by decide +kernel
theorem dX3_clear_30 : decode cX3_clear 30 = .ok (.iload_n 2, 1) := by decide +kernel
theorem dX3_clear_31 : decode cX3_clear 31 = .ok (.iconst 0, 1) := by decide +kernel
theorem dX3_clear_32 : decode cX3_clear 32 = .ok (.iastore, 1) := by decide +kernel
theorem dX3_clear_33 : decode cX3_clear 33 = .ok (.iinc 2 1, 3) := by decide +kernel
theorem dX3_clear_36 : decode cX3_clear 36 = .ok (.goto (-15), 3) := by decide +kernel
theorem dX3_clear_39 : decode cX3_clear 39 = .ok (.iload_n 1, 1) := by decide +kernel
theorem dX3_clear_40 : decode cX3_clear 40 = .ok (.ireturn, 1) := by decide +kernel
theorem dX3_isCapacity_0 : decode cX3_isCapacity 0 = .ok (.iload_n 0, 1) := by decide +kernel
theorem dX3_isCapacity_1 : decode cX3_isCapacity 1 = .ok (.iconst 1, 1) := by decide +kernel
theorem dX3_isCapacity_2 : decode cX3_isCapacity 2 = .ok (.if_icmp .lt 13, 3) := by decide +kernel
theorem dX3_isCapacity_5 : decode cX3_isCapacity 5 = .ok (.iload_n 0, 1) := by decide +kernel
theorem dX3_isCapacity_6 : decode cX3_isCapacity 6 = .ok (.bipush 32, 2) := by decide +kernel
theorem dX3_isCapacity_8 : decode cX3_isCapacity 8 = .ok (.if_icmp .gt 7, 3) := by decide +kernel
theorem dX3_isCapacity_11 : decode cX3_isCapacity 11 = .ok (.iconst 1, 1) := by decide +kernel
theorem dX3_isCapacity_12 : decode cX3_isCapacity 12 = .ok (.goto 4, 3) := by decide +kernel
theorem dX3_isCapacity_15 : decode cX3_isCapacity 15 = .ok (.iconst 0, 1) := by decide +kernel
theorem dX3_isCapacity_16 : decode cX3_isCapacity 16 = .ok (.ireturn, 1) := by decide +kernel
set_option maxRecDepth 20000 in
theorem ggX3_setCapacity_X3_isCapacity : GoodIn wsX3_setCapacity wsX3_isCapacity := goodIn_r _ [5] (by decide +kernel) (by decide +kernel)
set_option maxRecDepth 20000 in
theorem gX3_setCapacity_X3_isCapacity : GoodIn wsX3_setCapacity (va_wsS RX3 98 yX3_isCapacity wsX3_isCapacity) := goodIn_app (goodIn_of _ (by decide +kernel)) ggX3_setCapacity_X3_isCapacity
set_option maxRecDepth 20000 in
theorem ggX3_setCapacity_X3_asked : GoodIn wsX3_setCapacity wsX3_asked := goodIn_r _ [9, 10, 29, 30, 31, 32, 33, 34, 35, 36, 37, 38] (by decide +kernel) (by decide +kernel)
set_option maxRecDepth 20000 in
theorem gX3_setCapacity_X3_asked : GoodIn wsX3_setCapacity (wsV RX3 76 RX3 yX3_asked wsX3_asked) := goodIn_app (goodIn_of _ (by decide +kernel)) ggX3_setCapacity_X3_asked
set_option maxRecDepth 20000 in
theorem ggX3_setCapacity_X3_evicts : GoodIn wsX3_setCapacity wsX3_evicts := goodIn_r _ [13, 14, 15, 4, 16, 17, 18, 19, 20, 21, 22, 23, 24, 25] (by decide +kernel) (by decide +kernel)
set_option maxRecDepth 20000 in
theorem gX3_setCapacity_X3_evicts : GoodIn wsX3_setCapacity (va_wsS RX3 49 yX3_evicts wsX3_evicts) := goodIn_app (goodIn_of _ (by decide +kernel)) ggX3_setCapacity_X3_evicts
set_option maxRecDepth 20000 in
theorem ggX3_setCapacity_X3_leaves : GoodIn wsX3_setCapacity wsX3_leaves := goodIn_r _ [19, 20, 21, 4, 22] (by decide +kernel) (by decide +kernel)
set_option maxRecDepth 20000 in
theorem gX3_setCapacity_X3_leaves : GoodIn wsX3_setCapacity (va_wsS RX3 38 yX3_leaves wsX3_leaves) := goodIn_app (goodIn_of _ (by decide +kernel)) ggX3_setCapacity_X3_leaves
set_option maxRecDepth 20000 in
theorem ggX3_setCapacity_X3_allKeys : GoodIn wsX3_setCapacity wsX3_allKeys := goodIn_r _ [28] (by decide +kernel) (by decide +kernel)
set_option maxRecDepth 20000 in
theorem gX3_setCapacity_X3_allKeys : GoodIn wsX3_setCapacity (va_wsS RX3 59 yX3_allKeys wsX3_allKeys) := goodIn_app (goodIn_of _ (by decide +kernel)) ggX3_setCapacity_X3_allKeys
theorem dX3_setCapacity_0 : decode cX3_setCapacity 0 = .ok (.aload_n 0, 1) := by decide +kernel
theorem dX3_setCapacity_1 : decode cX3_setCapacity 1 = .ok (.iload_n 1, 1) := by decide +kernel
theorem dX3_setCapacity_2 : decode cX3_setCapacity 2 = .ok (.invokestatic 98, 3) := by decide +kernel
theorem dX3_setCapacity_5 : decode cX3_setCapacity 5 = .ok (.invokevirtual 76, 3) := by decide +kernel
theorem dX3_setCapacity_8 : decode cX3_setCapacity 8 = .ok (.ifCond .ne 5, 3) := by decide +kernel
theorem dX3_setCapacity_11 : decode cX3_setCapacity 11 = .ok (.iconst 0, 1) := by decide +kernel
theorem dX3_setCapacity_12 : decode cX3_setCapacity 12 = .ok (.ireturn, 1) := by decide +kernel
theorem dX3_setCapacity_13 : decode cX3_setCapacity 13 = .ok (.aload_n 0, 1) := by decide +kernel
theorem dX3_setCapacity_14 : decode cX3_setCapacity 14 = .ok (.getfield 7, 3) := by decide +kernel
theorem dX3_setCapacity_17 : decode cX3_setCapacity 17 = .ok (.bipush 10, 2) := by decide +kernel
theorem dX3_setCapacity_19 : decode cX3_setCapacity 19 = .ok (.iaload, 1) := by decide +kernel
theorem dX3_setCapacity_20 : decode cX3_setCapacity 20 = .ok (.istore_n 2, 1) := by decide +kernel
theorem dX3_setCapacity_21 : decode cX3_setCapacity 21 = .ok (.aload_n 0, 1) := by decide +kernel
theorem dX3_setCapacity_22 : decode cX3_setCapacity 22 = .ok (.getfield 7, 3) := by decide +kernel
theorem dX3_setCapacity_25 : decode cX3_setCapacity 25 = .ok (.bipush 6, 2) := by decide +kernel
theorem dX3_setCapacity_27 : decode cX3_setCapacity 27 = .ok (.iload_n 1, 1) := by decide +kernel
theorem dX3_setCapacity_28 : decode cX3_setCapacity 28 = .ok (.iastore, 1) := by decide +kernel
theorem dX3_setCapacity_29 : decode cX3_setCapacity 29 = .ok (.aload_n 0, 1) := by decide +kernel
theorem dX3_setCapacity_30 : decode cX3_setCapacity 30 = .ok (.getfield 7, 3) := by decide +kernel
theorem dX3_setCapacity_33 : decode cX3_setCapacity 33 = .ok (.iconst 5, 1) := by decide +kernel
theorem dX3_setCapacity_34 : decode cX3_setCapacity 34 = .ok (.aload_n 0, 1) := by decide +kernel
theorem dX3_setCapacity_35 : decode cX3_setCapacity 35 = .ok (.getfield 7, 3) := by decide +kernel
theorem dX3_setCapacity_38 : decode cX3_setCapacity 38 = .ok (.iconst 5, 1) := by decide +kernel
theorem dX3_setCapacity_39 : decode cX3_setCapacity 39 = .ok (.iaload, 1) := by decide +kernel
theorem dX3_setCapacity_40 : decode cX3_setCapacity 40 = .ok (.iload_n 1, 1) := by decide +kernel
theorem dX3_setCapacity_41 : decode cX3_setCapacity 41 = .ok (.if_icmp .le 7, 3) := by decide +kernel
theorem dX3_setCapacity_44 : decode cX3_setCapacity 44 = .ok (.iload_n 1, 1) := by decide +kernel
theorem dX3_setCapacity_45 : decode cX3_setCapacity 45 = .ok (.goto 9, 3) := by decide +kernel
theorem dX3_setCapacity_48 : decode cX3_setCapacity 48 = .ok (.aload_n 0, 1) := by decide +kernel
theorem dX3_setCapacity_49 : decode cX3_setCapacity 49 = .ok (.getfield 7, 3) := by decide +kernel
theorem dX3_setCapacity_52 : decode cX3_setCapacity 52 = .ok (.iconst 5, 1) := by decide +kernel
theorem dX3_setCapacity_53 : decode cX3_setCapacity 53 = .ok (.iaload, 1) := by decide +kernel
theorem dX3_setCapacity_54 : decode cX3_setCapacity 54 = .ok (.iastore, 1) := by decide +kernel
theorem dX3_setCapacity_55 : decode cX3_setCapacity 55 = .ok (.aload_n 0, 1) := by decide +kernel
theorem dX3_setCapacity_56 : decode cX3_setCapacity 56 = .ok (.getfield 7, 3) := by decide +kernel
theorem dX3_setCapacity_59 : decode cX3_setCapacity 59 = .ok (.iconst 1, 1) := by decide +kernel
theorem dX3_setCapacity_60 : decode cX3_setCapacity 60 = .ok (.iaload, 1) := by decide +kernel
theorem dX3_setCapacity_61 : decode cX3_setCapacity 61 = .ok (.aload_n 0, 1) := by decide +kernel
theorem dX3_setCapacity_62 : decode cX3_setCapacity 62 = .ok (.getfield 7, 3) := by decide +kernel
theorem dX3_setCapacity_65 : decode cX3_setCapacity 65 = .ok (.iconst 2, 1) := by decide +kernel
theorem dX3_setCapacity_66 : decode cX3_setCapacity 66 = .ok (.iaload, 1) := by decide +kernel
theorem dX3_setCapacity_67 : decode cX3_setCapacity 67 = .ok (.iadd, 1) := by decide +kernel
theorem dX3_setCapacity_68 : decode cX3_setCapacity 68 = .ok (.iload_n 1, 1) := by decide +kernel
theorem dX3_setCapacity_69 : decode cX3_setCapacity 69 = .ok (.if_icmp .le 14, 3) := by decide +kernel
theorem dX3_setCapacity_72 : decode cX3_setCapacity 72 = .ok (.aload_n 0, 1) := by decide +kernel
theorem dX3_setCapacity_73 : decode cX3_setCapacity 73 = .ok (.getfield 7, 3) := by decide +kernel
theorem dX3_setCapacity_76 : decode cX3_setCapacity 76 = .ok (.iconst 0, 1) := by decide +kernel
theorem dX3_setCapacity_77 : decode cX3_setCapacity 77 = .ok (.invokestatic 49, 3) := by decide +kernel
theorem dX3_setCapacity_80 : decode cX3_setCapacity 80 = .ok (.goto (-25), 3) := by decide +kernel
theorem dX3_setCapacity_83 : decode cX3_setCapacity 83 = .ok (.aload_n 0, 1) := by decide +kernel
theorem dX3_setCapacity_84 : decode cX3_setCapacity 84 = .ok (.getfield 7, 3) := by decide +kernel
theorem dX3_setCapacity_87 : decode cX3_setCapacity 87 = .ok (.iconst 1, 1) := by decide +kernel
theorem dX3_setCapacity_88 : decode cX3_setCapacity 88 = .ok (.iaload, 1) := by decide +kernel
theorem dX3_setCapacity_89 : decode cX3_setCapacity 89 = .ok (.aload_n 0, 1) := by decide +kernel
theorem dX3_setCapacity_90 : decode cX3_setCapacity 90 = .ok (.getfield 7, 3) := by decide +kernel
theorem dX3_setCapacity_93 : decode cX3_setCapacity 93 = .ok (.iconst 3, 1) := by decide +kernel
theorem dX3_setCapacity_94 : decode cX3_setCapacity 94 = .ok (.iaload, 1) := by decide +kernel
theorem dX3_setCapacity_95 : decode cX3_setCapacity 95 = .ok (.iadd, 1) := by decide +kernel
theorem dX3_setCapacity_96 : decode cX3_setCapacity 96 = .ok (.iload_n 1, 1) := by decide +kernel
theorem dX3_setCapacity_97 : decode cX3_setCapacity 97 = .ok (.if_icmp .le 16, 3) := by decide +kernel
theorem dX3_setCapacity_100 : decode cX3_setCapacity 100 = .ok (.aload_n 0, 1) := by decide +kernel
theorem dX3_setCapacity_101 : decode cX3_setCapacity 101 = .ok (.getfield 7, 3) := by decide +kernel
theorem dX3_setCapacity_104 : decode cX3_setCapacity 104 = .ok (.iconst 3, 1) := by decide +kernel
theorem dX3_setCapacity_105 : decode cX3_setCapacity 105 = .ok (.iconst 0, 1) := by decide +kernel
theorem dX3_setCapacity_106 : decode cX3_setCapacity 106 = .ok (.invokestatic 38, 3) := by decide +kernel
theorem dX3_setCapacity_109 : decode cX3_setCapacity 109 = .ok (.pop, 1) := by decide +kernel
theorem dX3_setCapacity_110 : decode cX3_setCapacity 110 = .ok (.goto (-27), 3) := by decide +kernel
theorem dX3_setCapacity_113 : decode cX3_setCapacity 113 = .ok (.aload_n 0, 1) := by decide +kernel
theorem dX3_setCapacity_114 : decode cX3_setCapacity 114 = .ok (.getfield 7, 3) := by decide +kernel
theorem dX3_setCapacity_117 : decode cX3_setCapacity 117 = .ok (.invokestatic 59, 3) := by decide +kernel
theorem dX3_setCapacity_120 : decode cX3_setCapacity 120 = .ok (.iconst 2, 1) := by decide +kernel
theorem dX3_setCapacity_121 : decode cX3_setCapacity 121 = .ok (.iload_n 1, 1) := by decide +kernel
theorem dX3_setCapacity_122 : decode cX3_setCapacity 122 = .ok (.imul, 1) := by decide +kernel
theorem dX3_setCapacity_123 : decode cX3_setCapacity 123 = .ok (.if_icmp .le 16, 3) := by decide +kernel
theorem dX3_setCapacity_126 : decode cX3_setCapacity 126 = .ok (.aload_n 0, 1) := by decide +kernel
theorem dX3_setCapacity_127 : decode cX3_setCapacity 127 = .ok (.getfield 7, 3) := by decide +kernel
theorem dX3_setCapacity_130 : decode cX3_setCapacity 130 = .ok (.iconst 4, 1) := by decide +kernel
theorem dX3_setCapacity_131 : decode cX3_setCapacity 131 = .ok (.iconst 0, 1) := by decide +kernel
theorem dX3_setCapacity_132 : decode cX3_setCapacity 132 = .ok (.invokestatic 38, 3) := by decide +kernel
theorem dX3_setCapacity_135 : decode cX3_setCapacity 135 = .ok (.pop, 1) := by decide +kernel
theorem dX3_setCapacity_136 : decode cX3_setCapacity 136 = .ok (.goto (-23), 3) := by decide +kernel
theorem dX3_setCapacity_139 : decode cX3_setCapacity 139 = .ok (.aload_n 0, 1) := by decide +kernel
theorem dX3_setCapacity_140 : decode cX3_setCapacity 140 = .ok (.getfield 7, 3) := by decide +kernel
theorem dX3_setCapacity_143 : decode cX3_setCapacity 143 = .ok (.bipush 10, 2) := by decide +kernel
theorem dX3_setCapacity_145 : decode cX3_setCapacity 145 = .ok (.iaload, 1) := by decide +kernel
theorem dX3_setCapacity_146 : decode cX3_setCapacity 146 = .ok (.iload_n 2, 1) := by decide +kernel
theorem dX3_setCapacity_147 : decode cX3_setCapacity 147 = .ok (.isub, 1) := by decide +kernel
theorem dX3_setCapacity_148 : decode cX3_setCapacity 148 = .ok (.ireturn, 1) := by decide +kernel
set_option maxRecDepth 20000 in
theorem ggX3_capacity_X3_told : GoodIn wsX3_capacity wsX3_told := goodIn_r _ [6, 7, 8, 9, 10, 11, 12, 13, 14, 15, 16, 17] (by decide +kernel) (by decide +kernel)
set_option maxRecDepth 20000 in
theorem gX3_capacity_X3_told : GoodIn wsX3_capacity (wsV RX3 101 RX3 yX3_told wsX3_told) := goodIn_app (goodIn_of _ (by decide +kernel)) ggX3_capacity_X3_told
theorem dX3_capacity_0 : decode cX3_capacity 0 = .ok (.aload_n 0, 1) := by decide +kernel
theorem dX3_capacity_1 : decode cX3_capacity 1 = .ok (.aload_n 0, 1) := by decide +kernel
theorem dX3_capacity_2 : decode cX3_capacity 2 = .ok (.getfield 7, 3) := by decide +kernel
theorem dX3_capacity_5 : decode cX3_capacity 5 = .ok (.bipush 6, 2) := by decide +kernel
theorem dX3_capacity_7 : decode cX3_capacity 7 = .ok (.iaload, 1) := by decide +kernel
theorem dX3_capacity_8 : decode cX3_capacity 8 = .ok (.invokevirtual 101, 3) := by decide +kernel
theorem dX3_capacity_11 : decode cX3_capacity 11 = .ok (.ireturn, 1) := by decide +kernel
set_option maxRecDepth 20000 in
theorem ggX3_setScanLength_X3_asked : GoodIn wsX3_setScanLength wsX3_asked := goodIn_r _ [6, 7, 8, 9, 10, 11, 12, 13, 14, 15, 16, 17] (by decide +kernel) (by decide +kernel)
set_option maxRecDepth 20000 in
theorem gX3_setScanLength_X3_asked : GoodIn wsX3_setScanLength (wsV RX3 76 RX3 yX3_asked wsX3_asked) := goodIn_app (goodIn_of _ (by decide +kernel)) ggX3_setScanLength_X3_asked
theorem dX3_setScanLength_0 : decode cX3_setScanLength 0 = .ok (.aload_n 0, 1) := by decide +kernel
theorem dX3_setScanLength_1 : decode cX3_setScanLength 1 = .ok (.iload_n 1, 1) := by decide +kernel
theorem dX3_setScanLength_2 : decode cX3_setScanLength 2 = .ok (.ifCond .eq 14, 3) := by decide +kernel
theorem dX3_setScanLength_5 : decode cX3_setScanLength 5 = .ok (.iload_n 1, 1) := by decide +kernel
theorem dX3_setScanLength_6 : decode cX3_setScanLength 6 = .ok (.iconst 2, 1) := by decide +kernel
theorem dX3_setScanLength_7 : decode cX3_setScanLength 7 = .ok (.if_icmp .lt 13, 3) := by decide +kernel
theorem dX3_setScanLength_10 : decode cX3_setScanLength 10 = .ok (.iload_n 1, 1) := by decide +kernel
theorem dX3_setScanLength_11 : decode cX3_setScanLength 11 = .ok (.bipush 20, 2) := by decide +kernel
theorem dX3_setScanLength_13 : decode cX3_setScanLength 13 = .ok (.if_icmp .gt 7, 3) := by decide +kernel
theorem dX3_setScanLength_16 : decode cX3_setScanLength 16 = .ok (.iconst 1, 1) := by decide +kernel
theorem dX3_setScanLength_17 : decode cX3_setScanLength 17 = .ok (.goto 4, 3) := by decide +kernel
theorem dX3_setScanLength_20 : decode cX3_setScanLength 20 = .ok (.iconst 0, 1) := by decide +kernel
theorem dX3_setScanLength_21 : decode cX3_setScanLength 21 = .ok (.invokevirtual 76, 3) := by decide +kernel
theorem dX3_setScanLength_24 : decode cX3_setScanLength 24 = .ok (.ifCond .ne 5, 3) := by decide +kernel
theorem dX3_setScanLength_27 : decode cX3_setScanLength 27 = .ok (.iconst 0, 1) := by decide +kernel
theorem dX3_setScanLength_28 : decode cX3_setScanLength 28 = .ok (.ireturn, 1) := by decide +kernel
theorem dX3_setScanLength_29 : decode cX3_setScanLength 29 = .ok (.aload_n 0, 1) := by decide +kernel
theorem dX3_setScanLength_30 : decode cX3_setScanLength 30 = .ok (.getfield 7, 3) := by decide +kernel
theorem dX3_setScanLength_33 : decode cX3_setScanLength 33 = .ok (.bipush 7, 2) := by decide +kernel
theorem dX3_setScanLength_35 : decode cX3_setScanLength 35 = .ok (.iaload, 1) := by decide +kernel
theorem dX3_setScanLength_36 : decode cX3_setScanLength 36 = .ok (.istore_n 2, 1) := by decide +kernel
theorem dX3_setScanLength_37 : decode cX3_setScanLength 37 = .ok (.aload_n 0, 1) := by decide +kernel
theorem dX3_setScanLength_38 : decode cX3_setScanLength 38 = .ok (.getfield 7, 3) := by decide +kernel
theorem dX3_setScanLength_41 : decode cX3_setScanLength 41 = .ok (.bipush 7, 2) := by decide +kernel
theorem dX3_setScanLength_43 : decode cX3_setScanLength 43 = .ok (.iload_n 1, 1) := by decide +kernel
theorem dX3_setScanLength_44 : decode cX3_setScanLength 44 = .ok (.iastore, 1) := by decide +kernel
theorem dX3_setScanLength_45 : decode cX3_setScanLength 45 = .ok (.iload_n 2, 1) := by decide +kernel
theorem dX3_setScanLength_46 : decode cX3_setScanLength 46 = .ok (.ireturn, 1) := by decide +kernel
set_option maxRecDepth 20000 in
theorem ggX3_run_X3_told : GoodIn wsX3_run wsX3_told := goodIn_r _ [6, 7, 8, 9, 10, 11, 12, 13, 14, 15, 16, 17] (by decide +kernel) (by decide +kernel)
set_option maxRecDepth 20000 in
theorem gX3_run_X3_told : GoodIn wsX3_run (wsV RX3 101 RX3 yX3_told wsX3_told) := goodIn_app (goodIn_of _ (by decide +kernel)) ggX3_run_X3_told
theorem dX3_run_0 : decode cX3_run 0 = .ok (.aload_n 0, 1) := by decide +kernel
theorem dX3_run_1 : decode cX3_run 1 = .ok (.aload_n 0, 1) := by decide +kernel
theorem dX3_run_2 : decode cX3_run 2 = .ok (.getfield 7, 3) := by decide +kernel
theorem dX3_run_5 : decode cX3_run 5 = .ok (.bipush 8, 2) := by decide +kernel
theorem dX3_run_7 : decode cX3_run 7 = .ok (.iaload, 1) := by decide +kernel
theorem dX3_run_8 : decode cX3_run 8 = .ok (.invokevirtual 101, 3) := by decide +kernel
theorem dX3_run_11 : decode cX3_run 11 = .ok (.ireturn, 1) := by decide +kernel
set_option maxRecDepth 20000 in
theorem ggX3_target_X3_told : GoodIn wsX3_target wsX3_told := goodIn_r _ [6, 7, 8, 9, 10, 11, 12, 13, 14, 15, 16, 17] (by decide +kernel) (by decide +kernel)
set_option maxRecDepth 20000 in
theorem gX3_target_X3_told : GoodIn wsX3_target (wsV RX3 101 RX3 yX3_told wsX3_told) := goodIn_app (goodIn_of _ (by decide +kernel)) ggX3_target_X3_told
theorem dX3_target_0 : decode cX3_target 0 = .ok (.aload_n 0, 1) := by decide +kernel
theorem dX3_target_1 : decode cX3_target 1 = .ok (.aload_n 0, 1) := by decide +kernel
theorem dX3_target_2 : decode cX3_target 2 = .ok (.getfield 7, 3) := by decide +kernel
theorem dX3_target_5 : decode cX3_target 5 = .ok (.iconst 5, 1) := by decide +kernel
theorem dX3_target_6 : decode cX3_target 6 = .ok (.iaload, 1) := by decide +kernel
theorem dX3_target_7 : decode cX3_target 7 = .ok (.invokevirtual 101, 3) := by decide +kernel
theorem dX3_target_10 : decode cX3_target 10 = .ok (.ireturn, 1) := by decide +kernel
set_option maxRecDepth 20000 in
theorem ggX3_size_X3_told : GoodIn wsX3_size wsX3_told := goodIn_r _ [6, 7, 8, 9, 10, 11, 12, 13, 14, 15, 16, 17] (by decide +kernel) (by decide +kernel)
set_option maxRecDepth 20000 in
theorem gX3_size_X3_told : GoodIn wsX3_size (wsV RX3 101 RX3 yX3_told wsX3_told) := goodIn_app (goodIn_of _ (by decide +kernel)) ggX3_size_X3_told
theorem dX3_size_0 : decode cX3_size 0 = .ok (.aload_n 0, 1) := by decide +kernel
theorem dX3_size_1 : decode cX3_size 1 = .ok (.aload_n 0, 1) := by decide +kernel
theorem dX3_size_2 : decode cX3_size 2 = .ok (.getfield 7, 3) := by decide +kernel
theorem dX3_size_5 : decode cX3_size 5 = .ok (.iconst 1, 1) := by decide +kernel
theorem dX3_size_6 : decode cX3_size 6 = .ok (.iaload, 1) := by decide +kernel
theorem dX3_size_7 : decode cX3_size 7 = .ok (.aload_n 0, 1) := by decide +kernel
theorem dX3_size_8 : decode cX3_size 8 = .ok (.getfield 7, 3) := by decide +kernel
theorem dX3_size_11 : decode cX3_size 11 = .ok (.iconst 2, 1) := by decide +kernel
theorem dX3_size_12 : decode cX3_size 12 = .ok (.iaload, 1) := by decide +kernel
theorem dX3_size_13 : decode cX3_size 13 = .ok (.iadd, 1) := by decide +kernel
theorem dX3_size_14 : decode cX3_size 14 = .ok (.invokevirtual 101, 3) := by decide +kernel
theorem dX3_size_17 : decode cX3_size 17 = .ok (.ireturn, 1) := by decide +kernel
set_option maxRecDepth 20000 in
theorem ggX3_whereIs_X3_isKey : GoodIn wsX3_whereIs wsX3_isKey := goodIn_r _ [5] (by decide +kernel) (by decide +kernel)
set_option maxRecDepth 20000 in
theorem gX3_whereIs_X3_isKey : GoodIn wsX3_whereIs (va_wsS RX3 72 yX3_isKey wsX3_isKey) := goodIn_app (goodIn_of _ (by decide +kernel)) ggX3_whereIs_X3_isKey
set_option maxRecDepth 20000 in
theorem ggX3_whereIs_X3_asked : GoodIn wsX3_whereIs wsX3_asked := goodIn_r _ [9, 10, 20, 21, 22, 23, 24, 25, 26, 27, 28, 29] (by decide +kernel) (by decide +kernel)
set_option maxRecDepth 20000 in
theorem gX3_whereIs_X3_asked : GoodIn wsX3_whereIs (wsV RX3 76 RX3 yX3_asked wsX3_asked) := goodIn_app (goodIn_of _ (by decide +kernel)) ggX3_whereIs_X3_asked
set_option maxRecDepth 20000 in
theorem ggX3_whereIs_X3_listOf : GoodIn wsX3_whereIs wsX3_listOf := goodIn_r _ [13, 14, 15, 4, 16, 17, 18, 19] (by decide +kernel) (by decide +kernel)
set_option maxRecDepth 20000 in
theorem gX3_whereIs_X3_listOf : GoodIn wsX3_whereIs (va_wsS RX3 63 yX3_listOf wsX3_listOf) := goodIn_app (goodIn_of _ (by decide +kernel)) ggX3_whereIs_X3_listOf
theorem dX3_whereIs_0 : decode cX3_whereIs 0 = .ok (.aload_n 0, 1) := by decide +kernel
theorem dX3_whereIs_1 : decode cX3_whereIs 1 = .ok (.iload_n 1, 1) := by decide +kernel
theorem dX3_whereIs_2 : decode cX3_whereIs 2 = .ok (.invokestatic 72, 3) := by decide +kernel
theorem dX3_whereIs_5 : decode cX3_whereIs 5 = .ok (.invokevirtual 76, 3) := by decide +kernel
theorem dX3_whereIs_8 : decode cX3_whereIs 8 = .ok (.ifCond .eq 14, 3) := by decide +kernel
theorem dX3_whereIs_11 : decode cX3_whereIs 11 = .ok (.aload_n 0, 1) := by decide +kernel
theorem dX3_whereIs_12 : decode cX3_whereIs 12 = .ok (.getfield 7, 3) := by decide +kernel
theorem dX3_whereIs_15 : decode cX3_whereIs 15 = .ok (.iload_n 1, 1) := by decide +kernel
theorem dX3_whereIs_16 : decode cX3_whereIs 16 = .ok (.invokestatic 63, 3) := by decide +kernel
theorem dX3_whereIs_19 : decode cX3_whereIs 19 = .ok (.goto 4, 3) := by decide +kernel
theorem dX3_whereIs_22 : decode cX3_whereIs 22 = .ok (.iconst 0, 1) := by decide +kernel
theorem dX3_whereIs_23 : decode cX3_whereIs 23 = .ok (.ireturn, 1) := by decide +kernel
set_option maxRecDepth 20000 in
theorem ggX3_victim_X3_isFull : GoodIn wsX3_victim wsX3_isFull := goodIn_r _ [6] (by decide +kernel) (by decide +kernel)
set_option maxRecDepth 20000 in
theorem gX3_victim_X3_isFull : GoodIn wsX3_victim (va_wsS RX3 45 yX3_isFull wsX3_isFull) := goodIn_app (goodIn_of _ (by decide +kernel)) ggX3_victim_X3_isFull
set_option maxRecDepth 20000 in
theorem ggX3_victim_X3_evictedFrom : GoodIn wsX3_victim wsX3_evictedFrom := goodIn_r _ [9] (by decide +kernel) (by decide +kernel)
set_option maxRecDepth 20000 in
theorem gX3_victim_X3_evictedFrom : GoodIn wsX3_victim (va_wsS RX3 34 yX3_evictedFrom wsX3_evictedFrom) := goodIn_app (goodIn_of _ (by decide +kernel)) ggX3_victim_X3_evictedFrom
set_option maxRecDepth 20000 in
theorem ggX3_victim_X3_at : GoodIn wsX3_victim wsX3_at := goodIn_r _ [12] (by decide +kernel) (by decide +kernel)
set_option maxRecDepth 20000 in
theorem gX3_victim_X3_at : GoodIn wsX3_victim (va_wsS RX3 26 yX3_at wsX3_at) := goodIn_app (goodIn_of _ (by decide +kernel)) ggX3_victim_X3_at
theorem dX3_victim_0 : decode cX3_victim 0 = .ok (.aload_n 0, 1) := by decide +kernel
theorem dX3_victim_1 : decode cX3_victim 1 = .ok (.iconst 0, 1) := by decide +kernel
theorem dX3_victim_2 : decode cX3_victim 2 = .ok (.putfield 22, 3) := by decide +kernel
theorem dX3_victim_5 : decode cX3_victim 5 = .ok (.aload_n 0, 1) := by decide +kernel
theorem dX3_victim_6 : decode cX3_victim 6 = .ok (.getfield 7, 3) := by decide +kernel
theorem dX3_victim_9 : decode cX3_victim 9 = .ok (.iconst 1, 1) := by decide +kernel
theorem dX3_victim_10 : decode cX3_victim 10 = .ok (.iaload, 1) := by decide +kernel
theorem dX3_victim_11 : decode cX3_victim 11 = .ok (.aload_n 0, 1) := by decide +kernel
theorem dX3_victim_12 : decode cX3_victim 12 = .ok (.getfield 7, 3) := by decide +kernel
theorem dX3_victim_15 : decode cX3_victim 15 = .ok (.iconst 3, 1) := by decide +kernel
theorem dX3_victim_16 : decode cX3_victim 16 = .ok (.iaload, 1) := by decide +kernel
theorem dX3_victim_17 : decode cX3_victim 17 = .ok (.iadd, 1) := by decide +kernel
theorem dX3_victim_18 : decode cX3_victim 18 = .ok (.aload_n 0, 1) := by decide +kernel
theorem dX3_victim_19 : decode cX3_victim 19 = .ok (.getfield 7, 3) := by decide +kernel
theorem dX3_victim_22 : decode cX3_victim 22 = .ok (.bipush 6, 2) := by decide +kernel
theorem dX3_victim_24 : decode cX3_victim 24 = .ok (.iaload, 1) := by decide +kernel
theorem dX3_victim_25 : decode cX3_victim 25 = .ok (.if_icmp .lt 16, 3) := by decide +kernel
theorem dX3_victim_28 : decode cX3_victim 28 = .ok (.aload_n 0, 1) := by decide +kernel
theorem dX3_victim_29 : decode cX3_victim 29 = .ok (.getfield 7, 3) := by decide +kernel
theorem dX3_victim_32 : decode cX3_victim 32 = .ok (.iconst 3, 1) := by decide +kernel
theorem dX3_victim_33 : decode cX3_victim 33 = .ok (.iaload, 1) := by decide +kernel
theorem dX3_victim_34 : decode cX3_victim 34 = .ok (.ifCond .ne 7, 3) := by decide +kernel
theorem dX3_victim_37 : decode cX3_victim 37 = .ok (.iconst 1, 1) := by decide +kernel
theorem dX3_victim_38 : decode cX3_victim 38 = .ok (.goto 4, 3) := by decide +kernel
theorem dX3_victim_41 : decode cX3_victim 41 = .ok (.iconst 0, 1) := by decide +kernel
theorem dX3_victim_42 : decode cX3_victim 42 = .ok (.istore_n 1, 1) := by decide +kernel
theorem dX3_victim_43 : decode cX3_victim 43 = .ok (.aload_n 0, 1) := by decide +kernel
theorem dX3_victim_44 : decode cX3_victim 44 = .ok (.getfield 7, 3) := by decide +kernel
theorem dX3_victim_47 : decode cX3_victim 47 = .ok (.invokestatic 45, 3) := by decide +kernel
theorem dX3_victim_50 : decode cX3_victim 50 = .ok (.ifCond .ne 5, 3) := by decide +kernel
theorem dX3_victim_53 : decode cX3_victim 53 = .ok (.iconst (-1), 1) := by decide +kernel
theorem dX3_victim_54 : decode cX3_victim 54 = .ok (.ireturn, 1) := by decide +kernel
theorem dX3_victim_55 : decode cX3_victim 55 = .ok (.aload_n 0, 1) := by decide +kernel
theorem dX3_victim_56 : decode cX3_victim 56 = .ok (.getfield 7, 3) := by decide +kernel
theorem dX3_victim_59 : decode cX3_victim 59 = .ok (.iload_n 1, 1) := by decide +kernel
theorem dX3_victim_60 : decode cX3_victim 60 = .ok (.ifCond .eq 7, 3) := by decide +kernel
theorem dX3_victim_63 : decode cX3_victim 63 = .ok (.iconst 1, 1) := by decide +kernel
theorem dX3_victim_64 : decode cX3_victim 64 = .ok (.goto 11, 3) := by decide +kernel
theorem dX3_victim_67 : decode cX3_victim 67 = .ok (.aload_n 0, 1) := by decide +kernel
theorem dX3_victim_68 : decode cX3_victim 68 = .ok (.getfield 7, 3) := by decide +kernel
theorem dX3_victim_71 : decode cX3_victim 71 = .ok (.iconst 0, 1) := by decide +kernel
theorem dX3_victim_72 : decode cX3_victim 72 = .ok (.invokestatic 34, 3) := by decide +kernel
theorem dX3_victim_75 : decode cX3_victim 75 = .ok (.iconst 0, 1) := by decide +kernel
theorem dX3_victim_76 : decode cX3_victim 76 = .ok (.invokestatic 26, 3) := by decide +kernel
theorem dX3_victim_79 : decode cX3_victim 79 = .ok (.iaload, 1) := by decide +kernel
theorem dX3_victim_80 : decode cX3_victim 80 = .ok (.ireturn, 1) := by decide +kernel
set_option maxRecDepth 20000 in
theorem ggX3_recentSize_X3_told : GoodIn wsX3_recentSize wsX3_told := goodIn_r _ [6, 7, 8, 9, 10, 11, 12, 13, 14, 15, 16, 17] (by decide +kernel) (by decide +kernel)
set_option maxRecDepth 20000 in
theorem gX3_recentSize_X3_told : GoodIn wsX3_recentSize (wsV RX3 101 RX3 yX3_told wsX3_told) := goodIn_app (goodIn_of _ (by decide +kernel)) ggX3_recentSize_X3_told
theorem dX3_recentSize_0 : decode cX3_recentSize 0 = .ok (.aload_n 0, 1) := by decide +kernel
theorem dX3_recentSize_1 : decode cX3_recentSize 1 = .ok (.aload_n 0, 1) := by decide +kernel
theorem dX3_recentSize_2 : decode cX3_recentSize 2 = .ok (.getfield 7, 3) := by decide +kernel
theorem dX3_recentSize_5 : decode cX3_recentSize 5 = .ok (.iconst 1, 1) := by decide +kernel
theorem dX3_recentSize_6 : decode cX3_recentSize 6 = .ok (.iaload, 1) := by decide +kernel
theorem dX3_recentSize_7 : decode cX3_recentSize 7 = .ok (.invokevirtual 101, 3) := by decide +kernel
theorem dX3_recentSize_10 : decode cX3_recentSize 10 = .ok (.ireturn, 1) := by decide +kernel
set_option maxRecDepth 20000 in
theorem ggX3_frequentSize_X3_told : GoodIn wsX3_frequentSize wsX3_told := goodIn_r _ [6, 7, 8, 9, 10, 11, 12, 13, 14, 15, 16, 17] (by decide +kernel) (by decide +kernel)
set_option maxRecDepth 20000 in
theorem gX3_frequentSize_X3_told : GoodIn wsX3_frequentSize (wsV RX3 101 RX3 yX3_told wsX3_told) := goodIn_app (goodIn_of _ (by decide +kernel)) ggX3_frequentSize_X3_told
theorem dX3_frequentSize_0 : decode cX3_frequentSize 0 = .ok (.aload_n 0, 1) := by decide +kernel
theorem dX3_frequentSize_1 : decode cX3_frequentSize 1 = .ok (.aload_n 0, 1) := by decide +kernel
theorem dX3_frequentSize_2 : decode cX3_frequentSize 2 = .ok (.getfield 7, 3) := by decide +kernel
theorem dX3_frequentSize_5 : decode cX3_frequentSize 5 = .ok (.iconst 2, 1) := by decide +kernel
theorem dX3_frequentSize_6 : decode cX3_frequentSize 6 = .ok (.iaload, 1) := by decide +kernel
theorem dX3_frequentSize_7 : decode cX3_frequentSize 7 = .ok (.invokevirtual 101, 3) := by decide +kernel
theorem dX3_frequentSize_10 : decode cX3_frequentSize 10 = .ok (.ireturn, 1) := by decide +kernel
set_option maxRecDepth 20000 in
theorem ggX3_recentGhosts_X3_told : GoodIn wsX3_recentGhosts wsX3_told := goodIn_r _ [6, 7, 8, 9, 10, 11, 12, 13, 14, 15, 16, 17] (by decide +kernel) (by decide +kernel)
set_option maxRecDepth 20000 in
theorem gX3_recentGhosts_X3_told : GoodIn wsX3_recentGhosts (wsV RX3 101 RX3 yX3_told wsX3_told) := goodIn_app (goodIn_of _ (by decide +kernel)) ggX3_recentGhosts_X3_told
theorem dX3_recentGhosts_0 : decode cX3_recentGhosts 0 = .ok (.aload_n 0, 1) := by decide +kernel
theorem dX3_recentGhosts_1 : decode cX3_recentGhosts 1 = .ok (.aload_n 0, 1) := by decide +kernel
theorem dX3_recentGhosts_2 : decode cX3_recentGhosts 2 = .ok (.getfield 7, 3) := by decide +kernel
theorem dX3_recentGhosts_5 : decode cX3_recentGhosts 5 = .ok (.iconst 3, 1) := by decide +kernel
theorem dX3_recentGhosts_6 : decode cX3_recentGhosts 6 = .ok (.iaload, 1) := by decide +kernel
theorem dX3_recentGhosts_7 : decode cX3_recentGhosts 7 = .ok (.invokevirtual 101, 3) := by decide +kernel
theorem dX3_recentGhosts_10 : decode cX3_recentGhosts 10 = .ok (.ireturn, 1) := by decide +kernel
set_option maxRecDepth 20000 in
theorem ggX3_frequentGhosts_X3_told : GoodIn wsX3_frequentGhosts wsX3_told := goodIn_r _ [6, 7, 8, 9, 10, 11, 12, 13, 14, 15, 16, 17] (by decide +kernel) (by decide +kernel)
set_option maxRecDepth 20000 in
theorem gX3_frequentGhosts_X3_told : GoodIn wsX3_frequentGhosts (wsV RX3 101 RX3 yX3_told wsX3_told) := goodIn_app (goodIn_of _ (by decide +kernel)) ggX3_frequentGhosts_X3_told
theorem dX3_frequentGhosts_0 : decode cX3_frequentGhosts 0 = .ok (.aload_n 0, 1) := by decide +kernel
theorem dX3_frequentGhosts_1 : decode cX3_frequentGhosts 1 = .ok (.aload_n 0, 1) := by decide +kernel
theorem dX3_frequentGhosts_2 : decode cX3_frequentGhosts 2 = .ok (.getfield 7, 3) := by decide +kernel
theorem dX3_frequentGhosts_5 : decode cX3_frequentGhosts 5 = .ok (.iconst 4, 1) := by decide +kernel
theorem dX3_frequentGhosts_6 : decode cX3_frequentGhosts 6 = .ok (.iaload, 1) := by decide +kernel
theorem dX3_frequentGhosts_7 : decode cX3_frequentGhosts 7 = .ok (.invokevirtual 101, 3) := by decide +kernel
theorem dX3_frequentGhosts_10 : decode cX3_frequentGhosts 10 = .ok (.ireturn, 1) := by decide +kernel
set_option maxRecDepth 20000 in
theorem ggX3_newest_X3_asked : GoodIn wsX3_newest wsX3_asked := goodIn_r _ [6, 7, 11, 12, 13, 14, 15, 16, 17, 18, 19, 20] (by decide +kernel) (by decide +kernel)
set_option maxRecDepth 20000 in
theorem gX3_newest_X3_asked : GoodIn wsX3_newest (wsV RX3 76 RX3 yX3_asked wsX3_asked) := goodIn_app (goodIn_of _ (by decide +kernel)) ggX3_newest_X3_asked
set_option maxRecDepth 20000 in
theorem ggX3_newest_X3_at : GoodIn wsX3_newest wsX3_at := goodIn_r _ [10] (by decide +kernel) (by decide +kernel)
set_option maxRecDepth 20000 in
theorem gX3_newest_X3_at : GoodIn wsX3_newest (va_wsS RX3 26 yX3_at wsX3_at) := goodIn_app (goodIn_of _ (by decide +kernel)) ggX3_newest_X3_at
theorem dX3_newest_0 : decode cX3_newest 0 = .ok (.aload_n 0, 1) := by decide +kernel
theorem dX3_newest_1 : decode cX3_newest 1 = .ok (.iload_n 2, 1) := by decide +kernel
theorem dX3_newest_2 : decode cX3_newest 2 = .ok (.ifCond .lt 17, 3) := by decide +kernel
theorem dX3_newest_5 : decode cX3_newest 5 = .ok (.iload_n 2, 1) := by decide +kernel
theorem dX3_newest_6 : decode cX3_newest 6 = .ok (.aload_n 0, 1) := by decide +kernel
theorem dX3_newest_7 : decode cX3_newest 7 = .ok (.getfield 7, 3) := by decide +kernel
theorem dX3_newest_10 : decode cX3_newest 10 = .ok (.iload_n 1, 1) := by decide +kernel
theorem dX3_newest_11 : decode cX3_newest 11 = .ok (.iaload, 1) := by decide +kernel
theorem dX3_newest_12 : decode cX3_newest 12 = .ok (.if_icmp .ge 7, 3) := by decide +kernel
theorem dX3_newest_15 : decode cX3_newest 15 = .ok (.iconst 1, 1) := by decide +kernel
theorem dX3_newest_16 : decode cX3_newest 16 = .ok (.goto 4, 3) := by decide +kernel
theorem dX3_newest_19 : decode cX3_newest 19 = .ok (.iconst 0, 1) := by decide +kernel
theorem dX3_newest_20 : decode cX3_newest 20 = .ok (.invokevirtual 76, 3) := by decide +kernel
theorem dX3_newest_23 : decode cX3_newest 23 = .ok (.ifCond .eq 25, 3) := by decide +kernel
theorem dX3_newest_26 : decode cX3_newest 26 = .ok (.aload_n 0, 1) := by decide +kernel
theorem dX3_newest_27 : decode cX3_newest 27 = .ok (.getfield 7, 3) := by decide +kernel
theorem dX3_newest_30 : decode cX3_newest 30 = .ok (.iload_n 1, 1) := by decide +kernel
theorem dX3_newest_31 : decode cX3_newest 31 = .ok (.aload_n 0, 1) := by decide +kernel
theorem dX3_newest_32 : decode cX3_newest 32 = .ok (.getfield 7, 3) := by decide +kernel
theorem dX3_newest_35 : decode cX3_newest 35 = .ok (.iload_n 1, 1) := by decide +kernel
theorem dX3_newest_36 : decode cX3_newest 36 = .ok (.iaload, 1) := by decide +kernel
theorem dX3_newest_37 : decode cX3_newest 37 = .ok (.iconst 1, 1) := by decide +kernel
theorem dX3_newest_38 : decode cX3_newest 38 = .ok (.isub, 1) := by decide +kernel
theorem dX3_newest_39 : decode cX3_newest 39 = .ok (.iload_n 2, 1) := by decide +kernel
theorem dX3_newest_40 : decode cX3_newest 40 = .ok (.isub, 1) := by decide +kernel
theorem dX3_newest_41 : decode cX3_newest 41 = .ok (.invokestatic 26, 3) := by decide +kernel
theorem dX3_newest_44 : decode cX3_newest 44 = .ok (.iaload, 1) := by decide +kernel
theorem dX3_newest_45 : decode cX3_newest 45 = .ok (.goto 4, 3) := by decide +kernel
theorem dX3_newest_48 : decode cX3_newest 48 = .ok (.iconst 0, 1) := by decide +kernel
theorem dX3_newest_49 : decode cX3_newest 49 = .ok (.ireturn, 1) := by decide +kernel
set_option maxRecDepth 20000 in
theorem ggX3_recentAt_X3_newest : GoodIn wsX3_recentAt wsX3_newest := goodIn_r _ [5, 6, 7, 8, 9, 4, 10, 11, 12, 13, 14, 15, 16, 17, 18, 19, 20, 21, 22, 23, 24] (by decide +kernel) (by decide +kernel)
set_option maxRecDepth 20000 in
theorem gX3_recentAt_X3_newest : GoodIn wsX3_recentAt (wsV RX3 105 RX3 yX3_newest wsX3_newest) := goodIn_app (goodIn_of _ (by decide +kernel)) ggX3_recentAt_X3_newest
theorem dX3_recentAt_0 : decode cX3_recentAt 0 = .ok (.aload_n 0, 1) := by decide +kernel
theorem dX3_recentAt_1 : decode cX3_recentAt 1 = .ok (.iconst 1, 1) := by decide +kernel
theorem dX3_recentAt_2 : decode cX3_recentAt 2 = .ok (.iload_n 1, 1) := by decide +kernel
theorem dX3_recentAt_3 : decode cX3_recentAt 3 = .ok (.invokevirtual 105, 3) := by decide +kernel
theorem dX3_recentAt_6 : decode cX3_recentAt 6 = .ok (.ireturn, 1) := by decide +kernel
set_option maxRecDepth 20000 in
theorem ggX3_frequentAt_X3_newest : GoodIn wsX3_frequentAt wsX3_newest := goodIn_r _ [5, 6, 7, 8, 9, 4, 10, 11, 12, 13, 14, 15, 16, 17, 18, 19, 20, 21, 22, 23, 24] (by decide +kernel) (by decide +kernel)
set_option maxRecDepth 20000 in
theorem gX3_frequentAt_X3_newest : GoodIn wsX3_frequentAt (wsV RX3 105 RX3 yX3_newest wsX3_newest) := goodIn_app (goodIn_of _ (by decide +kernel)) ggX3_frequentAt_X3_newest
theorem dX3_frequentAt_0 : decode cX3_frequentAt 0 = .ok (.aload_n 0, 1) := by decide +kernel
theorem dX3_frequentAt_1 : decode cX3_frequentAt 1 = .ok (.iconst 2, 1) := by decide +kernel
theorem dX3_frequentAt_2 : decode cX3_frequentAt 2 = .ok (.iload_n 1, 1) := by decide +kernel
theorem dX3_frequentAt_3 : decode cX3_frequentAt 3 = .ok (.invokevirtual 105, 3) := by decide +kernel
theorem dX3_frequentAt_6 : decode cX3_frequentAt 6 = .ok (.ireturn, 1) := by decide +kernel
set_option maxRecDepth 20000 in
theorem ggX3_recentGhostAt_X3_newest : GoodIn wsX3_recentGhostAt wsX3_newest := goodIn_r _ [5, 6, 7, 8, 9, 4, 10, 11, 12, 13, 14, 15, 16, 17, 18, 19, 20, 21, 22, 23, 24] (by decide +kernel) (by decide +kernel)
set_option maxRecDepth 20000 in
theorem gX3_recentGhostAt_X3_newest : GoodIn wsX3_recentGhostAt (wsV RX3 105 RX3 yX3_newest wsX3_newest) := goodIn_app (goodIn_of _ (by decide +kernel)) ggX3_recentGhostAt_X3_newest
theorem dX3_recentGhostAt_0 : decode cX3_recentGhostAt 0 = .ok (.aload_n 0, 1) := by decide +kernel
theorem dX3_recentGhostAt_1 : decode cX3_recentGhostAt 1 = .ok (.iconst 3, 1) := by decide +kernel
theorem dX3_recentGhostAt_2 : decode cX3_recentGhostAt 2 = .ok (.iload_n 1, 1) := by decide +kernel
theorem dX3_recentGhostAt_3 : decode cX3_recentGhostAt 3 = .ok (.invokevirtual 105, 3) := by decide +kernel
theorem dX3_recentGhostAt_6 : decode cX3_recentGhostAt 6 = .ok (.ireturn, 1) := by decide +kernel
set_option maxRecDepth 20000 in
theorem ggX3_frequentGhostAt_X3_newest : GoodIn wsX3_frequentGhostAt wsX3_newest := goodIn_r _ [5, 6, 7, 8, 9, 4, 10, 11, 12, 13, 14, 15, 16, 17, 18, 19, 20, 21, 22, 23, 24] (by decide +kernel) (by decide +kernel)
set_option maxRecDepth 20000 in
theorem gX3_frequentGhostAt_X3_newest : GoodIn wsX3_frequentGhostAt (wsV RX3 105 RX3 yX3_newest wsX3_newest) := goodIn_app (goodIn_of _ (by decide +kernel)) ggX3_frequentGhostAt_X3_newest
theorem dX3_frequentGhostAt_0 : decode cX3_frequentGhostAt 0 = .ok (.aload_n 0, 1) := by decide +kernel
theorem dX3_frequentGhostAt_1 : decode cX3_frequentGhostAt 1 = .ok (.iconst 4, 1) := by decide +kernel
theorem dX3_frequentGhostAt_2 : decode cX3_frequentGhostAt 2 = .ok (.iload_n 1, 1) := by decide +kernel
theorem dX3_frequentGhostAt_3 : decode cX3_frequentGhostAt 3 = .ok (.invokevirtual 105, 3) := by decide +kernel
theorem dX3_frequentGhostAt_6 : decode cX3_frequentGhostAt 6 = .ok (.ireturn, 1) := by decide +kernel
set_option maxRecDepth 20000 in
theorem ggX3_requests_X3_told : GoodIn wsX3_requests wsX3_told := goodIn_r _ [6, 7, 8, 9, 10, 11, 12, 13, 14, 15, 16, 17] (by decide +kernel) (by decide +kernel)
set_option maxRecDepth 20000 in
theorem gX3_requests_X3_told : GoodIn wsX3_requests (wsV RX3 101 RX3 yX3_told wsX3_told) := goodIn_app (goodIn_of _ (by decide +kernel)) ggX3_requests_X3_told
theorem dX3_requests_0 : decode cX3_requests 0 = .ok (.aload_n 0, 1) := by decide +kernel
theorem dX3_requests_1 : decode cX3_requests 1 = .ok (.aload_n 0, 1) := by decide +kernel
theorem dX3_requests_2 : decode cX3_requests 2 = .ok (.getfield 83, 3) := by decide +kernel
theorem dX3_requests_5 : decode cX3_requests 5 = .ok (.invokevirtual 101, 3) := by decide +kernel
theorem dX3_requests_8 : decode cX3_requests 8 = .ok (.ireturn, 1) := by decide +kernel
set_option maxRecDepth 20000 in
theorem ggX3_hits_X3_told : GoodIn wsX3_hits wsX3_told := goodIn_r _ [6, 7, 8, 9, 10, 11, 12, 13, 14, 15, 16, 17] (by decide +kernel) (by decide +kernel)
set_option maxRecDepth 20000 in
theorem gX3_hits_X3_told : GoodIn wsX3_hits (wsV RX3 101 RX3 yX3_told wsX3_told) := goodIn_app (goodIn_of _ (by decide +kernel)) ggX3_hits_X3_told
theorem dX3_hits_0 : decode cX3_hits 0 = .ok (.aload_n 0, 1) := by decide +kernel
theorem dX3_hits_1 : decode cX3_hits 1 = .ok (.aload_n 0, 1) := by decide +kernel
theorem dX3_hits_2 : decode cX3_hits 2 = .ok (.getfield 86, 3) := by decide +kernel
theorem dX3_hits_5 : decode cX3_hits 5 = .ok (.invokevirtual 101, 3) := by decide +kernel
theorem dX3_hits_8 : decode cX3_hits 8 = .ok (.ireturn, 1) := by decide +kernel
set_option maxRecDepth 20000 in
theorem ggX3_ghostHits_X3_told : GoodIn wsX3_ghostHits wsX3_told := goodIn_r _ [6, 7, 8, 9, 10, 11, 12, 13, 14, 15, 16, 17] (by decide +kernel) (by decide +kernel)
set_option maxRecDepth 20000 in
theorem gX3_ghostHits_X3_told : GoodIn wsX3_ghostHits (wsV RX3 101 RX3 yX3_told wsX3_told) := goodIn_app (goodIn_of _ (by decide +kernel)) ggX3_ghostHits_X3_told
theorem dX3_ghostHits_0 : decode cX3_ghostHits 0 = .ok (.aload_n 0, 1) := by decide +kernel
theorem dX3_ghostHits_1 : decode cX3_ghostHits 1 = .ok (.aload_n 0, 1) := by decide +kernel
theorem dX3_ghostHits_2 : decode cX3_ghostHits 2 = .ok (.getfield 89, 3) := by decide +kernel
theorem dX3_ghostHits_5 : decode cX3_ghostHits 5 = .ok (.invokevirtual 101, 3) := by decide +kernel
theorem dX3_ghostHits_8 : decode cX3_ghostHits 8 = .ok (.ireturn, 1) := by decide +kernel
set_option maxRecDepth 20000 in
theorem ggX3_bypassed_X3_told : GoodIn wsX3_bypassed wsX3_told := goodIn_r _ [6, 7, 8, 9, 10, 11, 12, 13, 14, 15, 16, 17] (by decide +kernel) (by decide +kernel)
set_option maxRecDepth 20000 in
theorem gX3_bypassed_X3_told : GoodIn wsX3_bypassed (wsV RX3 101 RX3 yX3_told wsX3_told) := goodIn_app (goodIn_of _ (by decide +kernel)) ggX3_bypassed_X3_told
theorem dX3_bypassed_0 : decode cX3_bypassed 0 = .ok (.aload_n 0, 1) := by decide +kernel
theorem dX3_bypassed_1 : decode cX3_bypassed 1 = .ok (.aload_n 0, 1) := by decide +kernel
theorem dX3_bypassed_2 : decode cX3_bypassed 2 = .ok (.getfield 92, 3) := by decide +kernel
theorem dX3_bypassed_5 : decode cX3_bypassed 5 = .ok (.invokevirtual 101, 3) := by decide +kernel
theorem dX3_bypassed_8 : decode cX3_bypassed 8 = .ok (.ireturn, 1) := by decide +kernel
set_option maxRecDepth 20000 in
theorem ggX3_evictions_X3_told : GoodIn wsX3_evictions wsX3_told := goodIn_r _ [6, 7, 8, 9, 10, 11, 12, 13, 14, 15, 16, 17] (by decide +kernel) (by decide +kernel)
set_option maxRecDepth 20000 in
theorem gX3_evictions_X3_told : GoodIn wsX3_evictions (wsV RX3 101 RX3 yX3_told wsX3_told) := goodIn_app (goodIn_of _ (by decide +kernel)) ggX3_evictions_X3_told
theorem dX3_evictions_0 : decode cX3_evictions 0 = .ok (.aload_n 0, 1) := by decide +kernel
theorem dX3_evictions_1 : decode cX3_evictions 1 = .ok (.aload_n 0, 1) := by decide +kernel
theorem dX3_evictions_2 : decode cX3_evictions 2 = .ok (.getfield 7, 3) := by decide +kernel
theorem dX3_evictions_5 : decode cX3_evictions 5 = .ok (.bipush 10, 2) := by decide +kernel
theorem dX3_evictions_7 : decode cX3_evictions 7 = .ok (.iaload, 1) := by decide +kernel
theorem dX3_evictions_8 : decode cX3_evictions 8 = .ok (.invokevirtual 101, 3) := by decide +kernel
theorem dX3_evictions_11 : decode cX3_evictions 11 = .ok (.ireturn, 1) := by decide +kernel
set_option maxRecDepth 20000 in
theorem ggX3_hitsIf_X3_isCapacity : GoodIn wsX3_hitsIf wsX3_isCapacity := goodIn_r _ [8] (by decide +kernel) (by decide +kernel)
set_option maxRecDepth 20000 in
theorem gX3_hitsIf_X3_isCapacity : GoodIn wsX3_hitsIf (va_wsS RX3 98 yX3_isCapacity wsX3_isCapacity) := goodIn_app (goodIn_of _ (by decide +kernel)) ggX3_hitsIf_X3_isCapacity
set_option maxRecDepth 20000 in
theorem ggX3_hitsIf_X3_asked : GoodIn wsX3_hitsIf wsX3_asked := goodIn_r _ [12, 13, 56, 57, 58, 59, 60, 61, 62, 63, 64, 65] (by decide +kernel) (by decide +kernel)
set_option maxRecDepth 20000 in
theorem gX3_hitsIf_X3_asked : GoodIn wsX3_hitsIf (wsV RX3 76 RX3 yX3_asked wsX3_asked) := goodIn_app (goodIn_of _ (by decide +kernel)) ggX3_hitsIf_X3_asked
set_option maxRecDepth 20000 in
theorem ggX3_hitsIf_X3_asks : GoodIn wsX3_hitsIf wsX3_asks := goodIn_r _ [16, 17, 18, 7, 19, 20, 21, 22, 23, 24, 25, 26, 27, 28, 29, 30, 31, 32, 33, 34, 35, 36, 37, 38, 39, 40, 41, 42, 43, 44, 45, 46, 47, 48, 49, 50, 51, 52, 53, 54, 55] (by decide +kernel) (by decide +kernel)
set_option maxRecDepth 20000 in
theorem gX3_hitsIf_X3_asks : GoodIn wsX3_hitsIf (va_wsS RX3 80 yX3_asks wsX3_asks) := goodIn_app (goodIn_of _ (by decide +kernel)) ggX3_hitsIf_X3_asks
theorem dX3_hitsIf_0 : decode cX3_hitsIf 0 = .ok (.aload_n 0, 1) := by decide +kernel
theorem dX3_hitsIf_1 : decode cX3_hitsIf 1 = .ok (.iload_n 1, 1) := by decide +kernel
theorem dX3_hitsIf_2 : decode cX3_hitsIf 2 = .ok (.invokestatic 98, 3) := by decide +kernel
theorem dX3_hitsIf_5 : decode cX3_hitsIf 5 = .ok (.invokevirtual 76, 3) := by decide +kernel
theorem dX3_hitsIf_8 : decode cX3_hitsIf 8 = .ok (.ifCond .ne 5, 3) := by decide +kernel
theorem dX3_hitsIf_11 : decode cX3_hitsIf 11 = .ok (.iconst 0, 1) := by decide +kernel
theorem dX3_hitsIf_12 : decode cX3_hitsIf 12 = .ok (.ireturn, 1) := by decide +kernel
theorem dX3_hitsIf_13 : decode cX3_hitsIf 13 = .ok (.iconst 0, 1) := by decide +kernel
theorem dX3_hitsIf_14 : decode cX3_hitsIf 14 = .ok (.istore_n 2, 1) := by decide +kernel
theorem dX3_hitsIf_15 : decode cX3_hitsIf 15 = .ok (.iload_n 2, 1) := by decide +kernel
theorem dX3_hitsIf_16 : decode cX3_hitsIf 16 = .ok (.bipush 16, 2) := by decide +kernel
theorem dX3_hitsIf_18 : decode cX3_hitsIf 18 = .ok (.if_icmp .ge 16, 3) := by decide +kernel
theorem dX3_hitsIf_21 : decode cX3_hitsIf 21 = .ok (.aload_n 0, 1) := by decide +kernel
theorem dX3_hitsIf_22 : decode cX3_hitsIf 22 = .ok (.getfield 13, 3) := by decide +kernel
theorem dX3_hitsIf_25 : decode cX3_hitsIf 25 = .ok (.iload_n 2, 1) := by decide +kernel
theorem dX3_hitsIf_26 : decode cX3_hitsIf 26 = .ok (.iconst 0, 1) := by decide +kernel
theorem dX3_hitsIf_27 : decode cX3_hitsIf 27 = .ok (.iastore, 1) := by decide +kernel
theorem dX3_hitsIf_28 : decode cX3_hitsIf 28 = .ok (.iinc 2 1, 3) := by decide +kernel
theorem dX3_hitsIf_31 : decode cX3_hitsIf 31 = .ok (.goto (-16), 3) := by decide +kernel
theorem dX3_hitsIf_34 : decode cX3_hitsIf 34 = .ok (.aload_n 0, 1) := by decide +kernel
theorem dX3_hitsIf_35 : decode cX3_hitsIf 35 = .ok (.getfield 13, 3) := by decide +kernel
theorem dX3_hitsIf_38 : decode cX3_hitsIf 38 = .ok (.bipush 6, 2) := by decide +kernel
theorem dX3_hitsIf_40 : decode cX3_hitsIf 40 = .ok (.iload_n 1, 1) := by decide +kernel
theorem dX3_hitsIf_41 : decode cX3_hitsIf 41 = .ok (.iastore, 1) := by decide +kernel
theorem dX3_hitsIf_42 : decode cX3_hitsIf 42 = .ok (.aload_n 0, 1) := by decide +kernel
theorem dX3_hitsIf_43 : decode cX3_hitsIf 43 = .ok (.getfield 13, 3) := by decide +kernel
theorem dX3_hitsIf_46 : decode cX3_hitsIf 46 = .ok (.bipush 7, 2) := by decide +kernel
theorem dX3_hitsIf_48 : decode cX3_hitsIf 48 = .ok (.aload_n 0, 1) := by decide +kernel
theorem dX3_hitsIf_49 : decode cX3_hitsIf 49 = .ok (.getfield 7, 3) := by decide +kernel
theorem dX3_hitsIf_52 : decode cX3_hitsIf 52 = .ok (.bipush 7, 2) := by decide +kernel
theorem dX3_hitsIf_54 : decode cX3_hitsIf 54 = .ok (.iaload, 1) := by decide +kernel
theorem dX3_hitsIf_55 : decode cX3_hitsIf 55 = .ok (.iastore, 1) := by decide +kernel
theorem dX3_hitsIf_56 : decode cX3_hitsIf 56 = .ok (.aload_n 0, 1) := by decide +kernel
theorem dX3_hitsIf_57 : decode cX3_hitsIf 57 = .ok (.getfield 13, 3) := by decide +kernel
theorem dX3_hitsIf_60 : decode cX3_hitsIf 60 = .ok (.bipush 9, 2) := by decide +kernel
theorem dX3_hitsIf_62 : decode cX3_hitsIf 62 = .ok (.iconst (-1), 1) := by decide +kernel
theorem dX3_hitsIf_63 : decode cX3_hitsIf 63 = .ok (.iastore, 1) := by decide +kernel
theorem dX3_hitsIf_64 : decode cX3_hitsIf 64 = .ok (.iconst 0, 1) := by decide +kernel
theorem dX3_hitsIf_65 : decode cX3_hitsIf 65 = .ok (.istore_n 2, 1) := by decide +kernel
theorem dX3_hitsIf_66 : decode cX3_hitsIf 66 = .ok (.iconst 0, 1) := by decide +kernel
theorem dX3_hitsIf_67 : decode cX3_hitsIf 67 = .ok (.istore_n 3, 1) := by decide +kernel
theorem dX3_hitsIf_68 : decode cX3_hitsIf 68 = .ok (.iload_n 3, 1) := by decide +kernel
theorem dX3_hitsIf_69 : decode cX3_hitsIf 69 = .ok (.aload_n 0, 1) := by decide +kernel
theorem dX3_hitsIf_70 : decode cX3_hitsIf 70 = .ok (.getfield 95, 3) := by decide +kernel
theorem dX3_hitsIf_73 : decode cX3_hitsIf 73 = .ok (.if_icmp .ge 34, 3) := by decide +kernel
theorem dX3_hitsIf_76 : decode cX3_hitsIf 76 = .ok (.iload_n 2, 1) := by decide +kernel
theorem dX3_hitsIf_77 : decode cX3_hitsIf 77 = .ok (.aload_n 0, 1) := by decide +kernel
theorem dX3_hitsIf_78 : decode cX3_hitsIf 78 = .ok (.getfield 13, 3) := by decide +kernel
theorem dX3_hitsIf_81 : decode cX3_hitsIf 81 = .ok (.aload_n 0, 1) := by decide +kernel
theorem dX3_hitsIf_82 : decode cX3_hitsIf 82 = .ok (.getfield 16, 3) := by decide +kernel
theorem dX3_hitsIf_85 : decode cX3_hitsIf 85 = .ok (.iload_n 3, 1) := by decide +kernel
theorem dX3_hitsIf_86 : decode cX3_hitsIf 86 = .ok (.iaload, 1) := by decide +kernel
theorem dX3_hitsIf_87 : decode cX3_hitsIf 87 = .ok (.invokestatic 80, 3) := by decide +kernel
theorem dX3_hitsIf_90 : decode cX3_hitsIf 90 = .ok (.iconst 3, 1) := by decide +kernel
theorem dX3_hitsIf_91 : decode cX3_hitsIf 91 = .ok (.if_icmp .ge 7, 3) := by decide +kernel
theorem dX3_hitsIf_94 : decode cX3_hitsIf 94 = .ok (.iconst 1, 1) := by decide +kernel
theorem dX3_hitsIf_95 : decode cX3_hitsIf 95 = .ok (.goto 4, 3) := by decide +kernel
theorem dX3_hitsIf_98 : decode cX3_hitsIf 98 = .ok (.iconst 0, 1) := by decide +kernel
theorem dX3_hitsIf_99 : decode cX3_hitsIf 99 = .ok (.iadd, 1) := by decide +kernel
theorem dX3_hitsIf_100 : decode cX3_hitsIf 100 = .ok (.istore_n 2, 1) := by decide +kernel
theorem dX3_hitsIf_101 : decode cX3_hitsIf 101 = .ok (.iinc 3 1, 3) := by decide +kernel
theorem dX3_hitsIf_104 : decode cX3_hitsIf 104 = .ok (.goto (-36), 3) := by decide +kernel
theorem dX3_hitsIf_107 : decode cX3_hitsIf 107 = .ok (.iload_n 2, 1) := by decide +kernel
theorem dX3_hitsIf_108 : decode cX3_hitsIf 108 = .ok (.ireturn, 1) := by decide +kernel
set_option maxRecDepth 20000 in
theorem ggX3_leastRecentHitsIf_X3_isCapacity : GoodIn wsX3_leastRecentHitsIf wsX3_isCapacity := goodIn_r _ [7] (by decide +kernel) (by decide +kernel)
set_option maxRecDepth 20000 in
theorem gX3_leastRecentHitsIf_X3_isCapacity : GoodIn wsX3_leastRecentHitsIf (va_wsS RX3 98 yX3_isCapacity wsX3_isCapacity) := goodIn_app (goodIn_of _ (by decide +kernel)) ggX3_leastRecentHitsIf_X3_isCapacity
set_option maxRecDepth 20000 in
theorem ggX3_leastRecentHitsIf_X3_asked : GoodIn wsX3_leastRecentHitsIf wsX3_asked := goodIn_r _ [11, 12, 13, 14, 15, 16, 17, 18, 19, 20, 21, 22] (by decide +kernel) (by decide +kernel)
set_option maxRecDepth 20000 in
theorem gX3_leastRecentHitsIf_X3_asked : GoodIn wsX3_leastRecentHitsIf (wsV RX3 76 RX3 yX3_asked wsX3_asked) := goodIn_app (goodIn_of _ (by decide +kernel)) ggX3_leastRecentHitsIf_X3_asked
theorem dX3_leastRecentHitsIf_0 : decode cX3_leastRecentHitsIf 0 = .ok (.aload_n 0, 1) := by decide +kernel
theorem dX3_leastRecentHitsIf_1 : decode cX3_leastRecentHitsIf 1 = .ok (.iload_n 1, 1) := by decide +kernel
theorem dX3_leastRecentHitsIf_2 : decode cX3_leastRecentHitsIf 2 = .ok (.invokestatic 98, 3) := by decide +kernel
theorem dX3_leastRecentHitsIf_5 : decode cX3_leastRecentHitsIf 5 = .ok (.invokevirtual 76, 3) := by decide +kernel
theorem dX3_leastRecentHitsIf_8 : decode cX3_leastRecentHitsIf 8 = .ok (.ifCond .ne 5, 3) := by decide +kernel
theorem dX3_leastRecentHitsIf_11 : decode cX3_leastRecentHitsIf 11 = .ok (.iconst 0, 1) := by decide +kernel
theorem dX3_leastRecentHitsIf_12 : decode cX3_leastRecentHitsIf 12 = .ok (.ireturn, 1) := by decide +kernel
theorem dX3_leastRecentHitsIf_13 : decode cX3_leastRecentHitsIf 13 = .ok (.iconst 0, 1) := by decide +kernel
theorem dX3_leastRecentHitsIf_14 : decode cX3_leastRecentHitsIf 14 = .ok (.istore_n 2, 1) := by decide +kernel
theorem dX3_leastRecentHitsIf_15 : decode cX3_leastRecentHitsIf 15 = .ok (.iconst 0, 1) := by decide +kernel
theorem dX3_leastRecentHitsIf_16 : decode cX3_leastRecentHitsIf 16 = .ok (.istore_n 3, 1) := by decide +kernel
theorem dX3_leastRecentHitsIf_17 : decode cX3_leastRecentHitsIf 17 = .ok (.iconst 0, 1) := by decide +kernel
theorem dX3_leastRecentHitsIf_18 : decode cX3_leastRecentHitsIf 18 = .ok (.istore 4, 2) := by decide +kernel
theorem dX3_leastRecentHitsIf_20 : decode cX3_leastRecentHitsIf 20 = .ok (.iload 4, 2) := by decide +kernel
theorem dX3_leastRecentHitsIf_22 : decode cX3_leastRecentHitsIf 22 = .ok (.aload_n 0, 1) := by decide +kernel
theorem dX3_leastRecentHitsIf_23 : decode cX3_leastRecentHitsIf 23 = .ok (.getfield 95, 3) := by decide +kernel
theorem dX3_leastRecentHitsIf_26 : decode cX3_leastRecentHitsIf 26 = .ok (.if_icmp .ge 153, 3) := by decide +kernel
theorem dX3_leastRecentHitsIf_29 : decode cX3_leastRecentHitsIf 29 = .ok (.iconst (-1), 1) := by decide +kernel
theorem dX3_leastRecentHitsIf_30 : decode cX3_leastRecentHitsIf 30 = .ok (.istore 5, 2) := by decide +kernel
theorem dX3_leastRecentHitsIf_32 : decode cX3_leastRecentHitsIf 32 = .ok (.iconst 0, 1) := by decide +kernel
theorem dX3_leastRecentHitsIf_33 : decode cX3_leastRecentHitsIf 33 = .ok (.istore 6, 2) := by decide +kernel
theorem dX3_leastRecentHitsIf_35 : decode cX3_leastRecentHitsIf 35 = .ok (.iload 6, 2) := by decide +kernel
theorem dX3_leastRecentHitsIf_37 : decode cX3_leastRecentHitsIf 37 = .ok (.iload_n 3, 1) := by decide +kernel
theorem dX3_leastRecentHitsIf_38 : decode cX3_leastRecentHitsIf 38 = .ok (.if_icmp .ge 35, 3) := by decide +kernel
theorem dX3_leastRecentHitsIf_41 : decode cX3_leastRecentHitsIf 41 = .ok (.aload_n 0, 1) := by decide +kernel
theorem dX3_leastRecentHitsIf_42 : decode cX3_leastRecentHitsIf 42 = .ok (.getfield 19, 3) := by decide +kernel
theorem dX3_leastRecentHitsIf_45 : decode cX3_leastRecentHitsIf 45 = .ok (.iload 6, 2) := by decide +kernel
theorem dX3_leastRecentHitsIf_47 : decode cX3_leastRecentHitsIf 47 = .ok (.iaload, 1) := by decide +kernel
theorem dX3_leastRecentHitsIf_48 : decode cX3_leastRecentHitsIf 48 = .ok (.aload_n 0, 1) := by decide +kernel
theorem dX3_leastRecentHitsIf_49 : decode cX3_leastRecentHitsIf 49 = .ok (.getfield 16, 3) := by decide +kernel
theorem dX3_leastRecentHitsIf_52 : decode cX3_leastRecentHitsIf 52 = .ok (.iload 4, 2) := by decide +kernel
theorem dX3_leastRecentHitsIf_54 : decode cX3_leastRecentHitsIf 54 = .ok (.iaload, 1) := by decide +kernel
theorem dX3_leastRecentHitsIf_55 : decode cX3_leastRecentHitsIf 55 = .ok (.if_icmp .ne 8, 3) := by decide +kernel
theorem dX3_leastRecentHitsIf_58 : decode cX3_leastRecentHitsIf 58 = .ok (.iload 6, 2) := by decide +kernel
theorem dX3_leastRecentHitsIf_60 : decode cX3_leastRecentHitsIf 60 = .ok (.goto 5, 3) := by decide +kernel
theorem dX3_leastRecentHitsIf_63 : decode cX3_leastRecentHitsIf 63 = .ok (.iload 5, 2) := by decide +kernel
theorem dX3_leastRecentHitsIf_65 : decode cX3_leastRecentHitsIf 65 = .ok (.istore 5, 2) := by decide +kernel
theorem dX3_leastRecentHitsIf_67 : decode cX3_leastRecentHitsIf 67 = .ok (.iinc 6 1, 3) := by decide +kernel
theorem dX3_leastRecentHitsIf_70 : decode cX3_leastRecentHitsIf 70 = .ok (.goto (-35), 3) := by decide +kernel
theorem dX3_leastRecentHitsIf_73 : decode cX3_leastRecentHitsIf 73 = .ok (.iload_n 2, 1) := by decide +kernel
theorem dX3_leastRecentHitsIf_74 : decode cX3_leastRecentHitsIf 74 = .ok (.iload 5, 2) := by decide +kernel
theorem dX3_leastRecentHitsIf_76 : decode cX3_leastRecentHitsIf 76 = .ok (.iconst (-1), 1) := by decide +kernel
theorem dX3_leastRecentHitsIf_77 : decode cX3_leastRecentHitsIf 77 = .ok (.if_icmp .ne 7, 3) := by decide +kernel
theorem dX3_leastRecentHitsIf_80 : decode cX3_leastRecentHitsIf 80 = .ok (.iconst 0, 1) := by decide +kernel
theorem dX3_leastRecentHitsIf_81 : decode cX3_leastRecentHitsIf 81 = .ok (.goto 4, 3) := by decide +kernel
theorem dX3_leastRecentHitsIf_84 : decode cX3_leastRecentHitsIf 84 = .ok (.iconst 1, 1) := by decide +kernel
theorem dX3_leastRecentHitsIf_85 : decode cX3_leastRecentHitsIf 85 = .ok (.iadd, 1) := by decide +kernel
theorem dX3_leastRecentHitsIf_86 : decode cX3_leastRecentHitsIf 86 = .ok (.istore_n 2, 1) := by decide +kernel
theorem dX3_leastRecentHitsIf_87 : decode cX3_leastRecentHitsIf 87 = .ok (.iload 5, 2) := by decide +kernel
theorem dX3_leastRecentHitsIf_89 : decode cX3_leastRecentHitsIf 89 = .ok (.iconst (-1), 1) := by decide +kernel
theorem dX3_leastRecentHitsIf_90 : decode cX3_leastRecentHitsIf 90 = .ok (.if_icmp .eq 8, 3) := by decide +kernel
theorem dX3_leastRecentHitsIf_93 : decode cX3_leastRecentHitsIf 93 = .ok (.iload 5, 2) := by decide +kernel
theorem dX3_leastRecentHitsIf_95 : decode cX3_leastRecentHitsIf 95 = .ok (.goto 13, 3) := by decide +kernel
theorem dX3_leastRecentHitsIf_98 : decode cX3_leastRecentHitsIf 98 = .ok (.iload_n 3, 1) := by decide +kernel
theorem dX3_leastRecentHitsIf_99 : decode cX3_leastRecentHitsIf 99 = .ok (.iload_n 1, 1) := by decide +kernel
theorem dX3_leastRecentHitsIf_100 : decode cX3_leastRecentHitsIf 100 = .ok (.if_icmp .ne 7, 3) := by decide +kernel
theorem dX3_leastRecentHitsIf_103 : decode cX3_leastRecentHitsIf 103 = .ok (.iconst 0, 1) := by decide +kernel
theorem dX3_leastRecentHitsIf_104 : decode cX3_leastRecentHitsIf 104 = .ok (.goto 4, 3) := by decide +kernel
theorem dX3_leastRecentHitsIf_107 : decode cX3_leastRecentHitsIf 107 = .ok (.iload_n 3, 1) := by decide +kernel
theorem dX3_leastRecentHitsIf_108 : decode cX3_leastRecentHitsIf 108 = .ok (.istore 6, 2) := by decide +kernel
theorem dX3_leastRecentHitsIf_110 : decode cX3_leastRecentHitsIf 110 = .ok (.iload 6, 2) := by decide +kernel
theorem dX3_leastRecentHitsIf_112 : decode cX3_leastRecentHitsIf 112 = .ok (.istore 7, 2) := by decide +kernel
theorem dX3_leastRecentHitsIf_114 : decode cX3_leastRecentHitsIf 114 = .ok (.iload 7, 2) := by decide +kernel
theorem dX3_leastRecentHitsIf_116 : decode cX3_leastRecentHitsIf 116 = .ok (.iload_n 3, 1) := by decide +kernel
theorem dX3_leastRecentHitsIf_117 : decode cX3_leastRecentHitsIf 117 = .ok (.iconst 1, 1) := by decide +kernel
theorem dX3_leastRecentHitsIf_118 : decode cX3_leastRecentHitsIf 118 = .ok (.isub, 1) := by decide +kernel
theorem dX3_leastRecentHitsIf_119 : decode cX3_leastRecentHitsIf 119 = .ok (.if_icmp .ge 25, 3) := by decide +kernel
theorem dX3_leastRecentHitsIf_122 : decode cX3_leastRecentHitsIf 122 = .ok (.aload_n 0, 1) := by decide +kernel
theorem dX3_leastRecentHitsIf_123 : decode cX3_leastRecentHitsIf 123 = .ok (.getfield 19, 3) := by decide +kernel
theorem dX3_leastRecentHitsIf_126 : decode cX3_leastRecentHitsIf 126 = .ok (.iload 7, 2) := by decide +kernel
theorem dX3_leastRecentHitsIf_128 : decode cX3_leastRecentHitsIf 128 = .ok (.aload_n 0, 1) := by decide +kernel
theorem dX3_leastRecentHitsIf_129 : decode cX3_leastRecentHitsIf 129 = .ok (.getfield 19, 3) := by decide +kernel
theorem dX3_leastRecentHitsIf_132 : decode cX3_leastRecentHitsIf 132 = .ok (.iload 7, 2) := by decide +kernel
theorem dX3_leastRecentHitsIf_134 : decode cX3_leastRecentHitsIf 134 = .ok (.iconst 1, 1) := by decide +kernel
theorem dX3_leastRecentHitsIf_135 : decode cX3_leastRecentHitsIf 135 = .ok (.iadd, 1) := by decide +kernel
theorem dX3_leastRecentHitsIf_136 : decode cX3_leastRecentHitsIf 136 = .ok (.iaload, 1) := by decide +kernel
theorem dX3_leastRecentHitsIf_137 : decode cX3_leastRecentHitsIf 137 = .ok (.iastore, 1) := by decide +kernel
theorem dX3_leastRecentHitsIf_138 : decode cX3_leastRecentHitsIf 138 = .ok (.iinc 7 1, 3) := by decide +kernel
theorem dX3_leastRecentHitsIf_141 : decode cX3_leastRecentHitsIf 141 = .ok (.goto (-27), 3) := by decide +kernel
theorem dX3_leastRecentHitsIf_144 : decode cX3_leastRecentHitsIf 144 = .ok (.iload 6, 2) := by decide +kernel
theorem dX3_leastRecentHitsIf_146 : decode cX3_leastRecentHitsIf 146 = .ok (.iload_n 3, 1) := by decide +kernel
theorem dX3_leastRecentHitsIf_147 : decode cX3_leastRecentHitsIf 147 = .ok (.if_icmp .ne 9, 3) := by decide +kernel
theorem dX3_leastRecentHitsIf_150 : decode cX3_leastRecentHitsIf 150 = .ok (.iload_n 3, 1) := by decide +kernel
theorem dX3_leastRecentHitsIf_151 : decode cX3_leastRecentHitsIf 151 = .ok (.iconst 1, 1) := by decide +kernel
theorem dX3_leastRecentHitsIf_152 : decode cX3_leastRecentHitsIf 152 = .ok (.iadd, 1) := by decide +kernel
theorem dX3_leastRecentHitsIf_153 : decode cX3_leastRecentHitsIf 153 = .ok (.goto 4, 3) := by decide +kernel
theorem dX3_leastRecentHitsIf_156 : decode cX3_leastRecentHitsIf 156 = .ok (.iload_n 3, 1) := by decide +kernel
theorem dX3_leastRecentHitsIf_157 : decode cX3_leastRecentHitsIf 157 = .ok (.istore_n 3, 1) := by decide +kernel
theorem dX3_leastRecentHitsIf_158 : decode cX3_leastRecentHitsIf 158 = .ok (.aload_n 0, 1) := by decide +kernel
theorem dX3_leastRecentHitsIf_159 : decode cX3_leastRecentHitsIf 159 = .ok (.getfield 19, 3) := by decide +kernel
theorem dX3_leastRecentHitsIf_162 : decode cX3_leastRecentHitsIf 162 = .ok (.iload_n 3, 1) := by decide +kernel
theorem dX3_leastRecentHitsIf_163 : decode cX3_leastRecentHitsIf 163 = .ok (.iconst 1, 1) := by decide +kernel
end
section
theorem dX3_leastRecentHitsIf_164 : decode cX3_leastRecentHitsIf 164 = .ok (.isub, 1) := by decide +kernel
theorem dX3_leastRecentHitsIf_165 : decode cX3_leastRecentHitsIf 165 = .ok (.aload_n 0, 1) := by decide +kernel
theorem dX3_leastRecentHitsIf_166 : decode cX3_leastRecentHitsIf 166 = .ok (.getfield 16, 3) := by decide +kernel
theorem dX3_leastRecentHitsIf_169 : decode cX3_leastRecentHitsIf 169 = .ok (.iload 4, 2) := by decide +kernel
theorem dX3_leastRecentHitsIf_171 : decode cX3_leastRecentHitsIf 171 = .ok (.iaload, 1) := by decide +kernel
theorem dX3_leastRecentHitsIf_172 : decode cX3_leastRecentHitsIf 172 = .ok (.iastore, 1) := by decide +kernel
theorem dX3_leastRecentHitsIf_173 : decode cX3_leastRecentHitsIf 173 = .ok (.iinc 4 1, 3) := by decide +kernel
theorem dX3_leastRecentHitsIf_176 : decode cX3_leastRecentHitsIf 176 = .ok (.goto (-156), 3) := by decide +kernel
theorem dX3_leastRecentHitsIf_179 : decode cX3_leastRecentHitsIf 179 = .ok (.iload_n 2, 1) := by decide +kernel
theorem dX3_leastRecentHitsIf_180 : decode cX3_leastRecentHitsIf 180 = .ok (.ireturn, 1) := by decide +kernel
theorem dJ9_max_7cf53_0 : decode cJ9_max_7cf53 0 = .ok (.iload_n 0, 1) := by decide +kernel
theorem dJ9_max_7cf53_1 : decode cJ9_max_7cf53 1 = .ok (.iload_n 1, 1) := by decide +kernel
theorem dJ9_max_7cf53_2 : decode cJ9_max_7cf53 2 = .ok (.if_icmp .lt 7, 3) := by decide +kernel
theorem dJ9_max_7cf53_5 : decode cJ9_max_7cf53 5 = .ok (.iload_n 0, 1) := by decide +kernel
theorem dJ9_max_7cf53_6 : decode cJ9_max_7cf53 6 = .ok (.goto 4, 3) := by decide +kernel
theorem dJ9_max_7cf53_9 : decode cJ9_max_7cf53 9 = .ok (.iload_n 1, 1) := by decide +kernel
theorem dJ9_max_7cf53_10 : decode cJ9_max_7cf53 10 = .ok (.ireturn, 1) := by decide +kernel
theorem dJ9_min_7cf53_0 : decode cJ9_min_7cf53 0 = .ok (.iload_n 0, 1) := by decide +kernel
theorem dJ9_min_7cf53_1 : decode cJ9_min_7cf53 1 = .ok (.iload_n 1, 1) := by decide +kernel
theorem dJ9_min_7cf53_2 : decode cJ9_min_7cf53 2 = .ok (.if_icmp .gt 7, 3) := by decide +kernel
theorem dJ9_min_7cf53_5 : decode cJ9_min_7cf53 5 = .ok (.iload_n 0, 1) := by decide +kernel
theorem dJ9_min_7cf53_6 : decode cJ9_min_7cf53 6 = .ok (.goto 4, 3) := by decide +kernel
theorem dJ9_min_7cf53_9 : decode cJ9_min_7cf53 9 = .ok (.iload_n 1, 1) := by decide +kernel
theorem dJ9_min_7cf53_10 : decode cJ9_min_7cf53 10 = .ok (.ireturn, 1) := by decide +kernel
set_option maxRecDepth 20000 in
theorem ggL_request_X2_request : GoodIn wsL_request wsX2_request := goodIn_ca (goodIn_r _ [6, 7, 8, 9, 5, 10, 11, 12, 13, 14, 15, 16, 17, 18, 19, 20, 21, 22, 23, 24, 25, 26, 27, 28, 29, 30, 31, 32, 33, 34, 35, 36, 37, 38, 39, 40, 41, 42, 43, 44, 45, 46, 47, 48, 49, 50, 51, 52, 53, 54, 55, 56, 57, 58, 59, 60, 61, 62, 63, 64, 65, 66, 67, 68, 69, 70, 71, 72, 73, 74, 75, 76, 77, 78, 79, 80, 81, 82, 83, 84, 85, 86, 87, 88, 89, 90, 91, 92, 93, 94, 95, 96, 97, 98, 99, 100, 101, 102, 103, 104, 105, 106, 107, 108, 109, 110, 111, 112, 113, 114, 115, 116, 117, 118, 119, 120, 121, 122, 123, 124, 125, 126, 127, 128, 129, 130, 131, 132, 133, 134, 135, 136, 137, 138, 139, 140, 141, 142, 143, 144, 145, 146, 147, 148, 149, 150, 151, 152, 153, 154, 155, 156, 157, 158, 159, 160, 161, 162, 163] (by decide +kernel) (by decide +kernel)) (goodIn_sub (fun _ h => List.mem_cons_of_mem _ (List.mem_append_right _ h)) (by decide +kernel))
set_option maxRecDepth 20000 in
theorem gL_request_X2_request : GoodIn wsL_request (wsV RL 7 RX2 yX2_request wsX2_request) := goodIn_app (goodIn_of _ (by decide +kernel)) ggL_request_X2_request
theorem dL_request_0 : decode cL_request 0 = .ok (.aload_n 2, 1) := by decide +kernel
theorem dL_request_1 : decode cL_request 1 = .ok (.iconst 0, 1) := by decide +kernel
theorem dL_request_2 : decode cL_request 2 = .ok (.aload_n 0, 1) := by decide +kernel
theorem dL_request_3 : decode cL_request 3 = .ok (.iload_n 1, 1) := by decide +kernel
theorem dL_request_4 : decode cL_request 4 = .ok (.invokevirtual 7, 3) := by decide +kernel
theorem dL_request_7 : decode cL_request 7 = .ok (.i2l, 1) := by decide +kernel
theorem dL_request_8 : decode cL_request 8 = .ok (.lastore, 1) := by decide +kernel
theorem dL_request_9 : decode cL_request 9 = .ok (.goto 6, 3) := by decide +kernel
theorem dL_request_12 : decode cL_request 12 = .ok (.astore_n 3, 1) := by decide +kernel
theorem dL_request_13 : decode cL_request 13 = .ok (.iconst 1, 1) := by decide +kernel
theorem dL_request_14 : decode cL_request 14 = .ok (.ireturn, 1) := by decide +kernel
theorem dL_request_15 : decode cL_request 15 = .ok (.iconst 0, 1) := by decide +kernel
theorem dL_request_16 : decode cL_request 16 = .ok (.ireturn, 1) := by decide +kernel
set_option maxRecDepth 20000 in
theorem ggL_remove_X2_remove : GoodIn wsL_remove wsX2_remove := goodIn_ca (goodIn_r _ [6, 7, 8, 9, 5, 10, 11, 12, 13, 14, 15, 16, 17, 18, 19, 20, 21, 22, 23, 24, 25, 26, 27, 28, 29, 30, 31, 32, 33, 34, 35, 36, 37, 38, 39, 40, 41, 42, 43, 44, 45, 46, 47, 48, 49, 50, 51, 52, 53, 54, 55, 56, 57, 58, 59, 60, 61, 62, 63, 64, 65, 66, 67, 68] (by decide +kernel) (by decide +kernel)) (goodIn_sub (fun _ h => List.mem_cons_of_mem _ (List.mem_append_right _ h)) (by decide +kernel))
set_option maxRecDepth 20000 in
theorem gL_remove_X2_remove : GoodIn wsL_remove (wsV RL 15 RX2 yX2_remove wsX2_remove) := goodIn_app (goodIn_of _ (by decide +kernel)) ggL_remove_X2_remove
theorem dL_remove_0 : decode cL_remove 0 = .ok (.aload_n 2, 1) := by decide +kernel
theorem dL_remove_1 : decode cL_remove 1 = .ok (.iconst 0, 1) := by decide +kernel
theorem dL_remove_2 : decode cL_remove 2 = .ok (.aload_n 0, 1) := by decide +kernel
theorem dL_remove_3 : decode cL_remove 3 = .ok (.iload_n 1, 1) := by decide +kernel
theorem dL_remove_4 : decode cL_remove 4 = .ok (.invokevirtual 15, 3) := by decide +kernel
theorem dL_remove_7 : decode cL_remove 7 = .ok (.i2l, 1) := by decide +kernel
theorem dL_remove_8 : decode cL_remove 8 = .ok (.lastore, 1) := by decide +kernel
theorem dL_remove_9 : decode cL_remove 9 = .ok (.goto 6, 3) := by decide +kernel
theorem dL_remove_12 : decode cL_remove 12 = .ok (.astore_n 3, 1) := by decide +kernel
theorem dL_remove_13 : decode cL_remove 13 = .ok (.iconst 1, 1) := by decide +kernel
theorem dL_remove_14 : decode cL_remove 14 = .ok (.ireturn, 1) := by decide +kernel
theorem dL_remove_15 : decode cL_remove 15 = .ok (.iconst 0, 1) := by decide +kernel
theorem dL_remove_16 : decode cL_remove 16 = .ok (.ireturn, 1) := by decide +kernel
set_option maxRecDepth 20000 in
theorem ggL_setCapacity_X2_setCapacity : GoodIn wsL_setCapacity wsX2_setCapacity := goodIn_ca (goodIn_r _ [6, 7, 8, 9, 5, 10, 11, 12, 13, 14, 15, 16, 17, 18, 19, 20, 21, 22, 23, 24, 25, 26, 27, 28, 29, 30, 31, 32, 33, 34, 35, 36, 37, 38, 39, 40, 41, 42, 43, 44, 45, 46, 47, 48, 49, 50, 51, 52, 53, 54, 55, 56, 57, 58, 59, 60, 61, 62, 63, 64, 65, 66, 67, 68, 69, 70, 71, 72, 73, 74, 75, 76, 77, 78, 79, 80, 81, 82, 83, 84, 85, 86, 87, 88, 89, 90, 91, 92, 93, 94] (by decide +kernel) (by decide +kernel)) (goodIn_sub (fun _ h => List.mem_cons_of_mem _ (List.mem_append_right _ h)) (by decide +kernel))
set_option maxRecDepth 20000 in
theorem gL_setCapacity_X2_setCapacity : GoodIn wsL_setCapacity (wsV RL 18 RX2 yX2_setCapacity wsX2_setCapacity) := goodIn_app (goodIn_of _ (by decide +kernel)) ggL_setCapacity_X2_setCapacity
theorem dL_setCapacity_0 : decode cL_setCapacity 0 = .ok (.aload_n 2, 1) := by decide +kernel
theorem dL_setCapacity_1 : decode cL_setCapacity 1 = .ok (.iconst 0, 1) := by decide +kernel
theorem dL_setCapacity_2 : decode cL_setCapacity 2 = .ok (.aload_n 0, 1) := by decide +kernel
theorem dL_setCapacity_3 : decode cL_setCapacity 3 = .ok (.iload_n 1, 1) := by decide +kernel
theorem dL_setCapacity_4 : decode cL_setCapacity 4 = .ok (.invokevirtual 18, 3) := by decide +kernel
theorem dL_setCapacity_7 : decode cL_setCapacity 7 = .ok (.i2l, 1) := by decide +kernel
theorem dL_setCapacity_8 : decode cL_setCapacity 8 = .ok (.lastore, 1) := by decide +kernel
theorem dL_setCapacity_9 : decode cL_setCapacity 9 = .ok (.goto 6, 3) := by decide +kernel
theorem dL_setCapacity_12 : decode cL_setCapacity 12 = .ok (.astore_n 3, 1) := by decide +kernel
theorem dL_setCapacity_13 : decode cL_setCapacity 13 = .ok (.iconst 1, 1) := by decide +kernel
theorem dL_setCapacity_14 : decode cL_setCapacity 14 = .ok (.ireturn, 1) := by decide +kernel
theorem dL_setCapacity_15 : decode cL_setCapacity 15 = .ok (.iconst 0, 1) := by decide +kernel
theorem dL_setCapacity_16 : decode cL_setCapacity 16 = .ok (.ireturn, 1) := by decide +kernel
set_option maxRecDepth 20000 in
theorem ggL_setScanLength_X2_setScanLength : GoodIn wsL_setScanLength wsX2_setScanLength := goodIn_ca (goodIn_r _ [6, 7, 8, 9, 10, 11, 12, 13, 14, 15, 16, 17, 18, 19, 20, 21, 22, 23, 24, 25, 26, 27] (by decide +kernel) (by decide +kernel)) (goodIn_sub (fun _ h => List.mem_cons_of_mem _ (List.mem_append_right _ h)) (by decide +kernel))
set_option maxRecDepth 20000 in
theorem gL_setScanLength_X2_setScanLength : GoodIn wsL_setScanLength (wsV RL 21 RX2 yX2_setScanLength wsX2_setScanLength) := goodIn_app (goodIn_of _ (by decide +kernel)) ggL_setScanLength_X2_setScanLength
theorem dL_setScanLength_0 : decode cL_setScanLength 0 = .ok (.aload_n 2, 1) := by decide +kernel
theorem dL_setScanLength_1 : decode cL_setScanLength 1 = .ok (.iconst 0, 1) := by decide +kernel
theorem dL_setScanLength_2 : decode cL_setScanLength 2 = .ok (.aload_n 0, 1) := by decide +kernel
theorem dL_setScanLength_3 : decode cL_setScanLength 3 = .ok (.iload_n 1, 1) := by decide +kernel
theorem dL_setScanLength_4 : decode cL_setScanLength 4 = .ok (.invokevirtual 21, 3) := by decide +kernel
theorem dL_setScanLength_7 : decode cL_setScanLength 7 = .ok (.i2l, 1) := by decide +kernel
theorem dL_setScanLength_8 : decode cL_setScanLength 8 = .ok (.lastore, 1) := by decide +kernel
theorem dL_setScanLength_9 : decode cL_setScanLength 9 = .ok (.goto 6, 3) := by decide +kernel
theorem dL_setScanLength_12 : decode cL_setScanLength 12 = .ok (.astore_n 3, 1) := by decide +kernel
theorem dL_setScanLength_13 : decode cL_setScanLength 13 = .ok (.iconst 1, 1) := by decide +kernel
theorem dL_setScanLength_14 : decode cL_setScanLength 14 = .ok (.ireturn, 1) := by decide +kernel
theorem dL_setScanLength_15 : decode cL_setScanLength 15 = .ok (.iconst 0, 1) := by decide +kernel
theorem dL_setScanLength_16 : decode cL_setScanLength 16 = .ok (.ireturn, 1) := by decide +kernel
set_option maxRecDepth 20000 in
theorem ggL_whereIs_X2_whereIs : GoodIn wsL_whereIs wsX2_whereIs := goodIn_ca (goodIn_r _ [6, 7, 8, 9, 5, 10, 11, 12, 13, 14, 15, 16, 17, 18, 19, 20, 21, 22, 23, 24, 25, 26, 27, 28, 29, 30, 31, 32, 33, 34, 35, 36, 37, 38, 39, 40, 41, 42, 43, 44, 45, 46, 47, 48, 49, 50, 51, 52] (by decide +kernel) (by decide +kernel)) (goodIn_sub (fun _ h => List.mem_cons_of_mem _ (List.mem_append_right _ h)) (by decide +kernel))
set_option maxRecDepth 20000 in
theorem gL_whereIs_X2_whereIs : GoodIn wsL_whereIs (wsV RL 24 RX2 yX2_whereIs wsX2_whereIs) := goodIn_app (goodIn_of _ (by decide +kernel)) ggL_whereIs_X2_whereIs
theorem dL_whereIs_0 : decode cL_whereIs 0 = .ok (.aload_n 2, 1) := by decide +kernel
theorem dL_whereIs_1 : decode cL_whereIs 1 = .ok (.iconst 0, 1) := by decide +kernel
theorem dL_whereIs_2 : decode cL_whereIs 2 = .ok (.aload_n 0, 1) := by decide +kernel
theorem dL_whereIs_3 : decode cL_whereIs 3 = .ok (.iload_n 1, 1) := by decide +kernel
theorem dL_whereIs_4 : decode cL_whereIs 4 = .ok (.invokevirtual 24, 3) := by decide +kernel
theorem dL_whereIs_7 : decode cL_whereIs 7 = .ok (.i2l, 1) := by decide +kernel
theorem dL_whereIs_8 : decode cL_whereIs 8 = .ok (.lastore, 1) := by decide +kernel
theorem dL_whereIs_9 : decode cL_whereIs 9 = .ok (.goto 6, 3) := by decide +kernel
theorem dL_whereIs_12 : decode cL_whereIs 12 = .ok (.astore_n 3, 1) := by decide +kernel
theorem dL_whereIs_13 : decode cL_whereIs 13 = .ok (.iconst 1, 1) := by decide +kernel
theorem dL_whereIs_14 : decode cL_whereIs 14 = .ok (.ireturn, 1) := by decide +kernel
theorem dL_whereIs_15 : decode cL_whereIs 15 = .ok (.iconst 0, 1) := by decide +kernel
theorem dL_whereIs_16 : decode cL_whereIs 16 = .ok (.ireturn, 1) := by decide +kernel
set_option maxRecDepth 20000 in
theorem ggL_recentAt_X2_recentAt : GoodIn wsL_recentAt wsX2_recentAt := goodIn_ca (goodIn_r _ [6, 7, 8, 9, 5, 10, 11, 12, 13, 14, 15, 16, 17, 18, 19, 20, 21, 22, 23, 24, 25, 26, 27, 28, 29, 30, 31, 32, 33, 34, 35, 36, 37, 38, 39, 40, 41, 42, 43, 44, 45, 46, 47] (by decide +kernel) (by decide +kernel)) (goodIn_sub (fun _ h => List.mem_cons_of_mem _ (List.mem_append_right _ h)) (by decide +kernel))
set_option maxRecDepth 20000 in
theorem gL_recentAt_X2_recentAt : GoodIn wsL_recentAt (wsV RL 27 RX2 yX2_recentAt wsX2_recentAt) := goodIn_app (goodIn_of _ (by decide +kernel)) ggL_recentAt_X2_recentAt
theorem dL_recentAt_0 : decode cL_recentAt 0 = .ok (.aload_n 2, 1) := by decide +kernel
theorem dL_recentAt_1 : decode cL_recentAt 1 = .ok (.iconst 0, 1) := by decide +kernel
theorem dL_recentAt_2 : decode cL_recentAt 2 = .ok (.aload_n 0, 1) := by decide +kernel
theorem dL_recentAt_3 : decode cL_recentAt 3 = .ok (.iload_n 1, 1) := by decide +kernel
theorem dL_recentAt_4 : decode cL_recentAt 4 = .ok (.invokevirtual 27, 3) := by decide +kernel
theorem dL_recentAt_7 : decode cL_recentAt 7 = .ok (.i2l, 1) := by decide +kernel
theorem dL_recentAt_8 : decode cL_recentAt 8 = .ok (.lastore, 1) := by decide +kernel
theorem dL_recentAt_9 : decode cL_recentAt 9 = .ok (.goto 6, 3) := by decide +kernel
theorem dL_recentAt_12 : decode cL_recentAt 12 = .ok (.astore_n 3, 1) := by decide +kernel
theorem dL_recentAt_13 : decode cL_recentAt 13 = .ok (.iconst 1, 1) := by decide +kernel
theorem dL_recentAt_14 : decode cL_recentAt 14 = .ok (.ireturn, 1) := by decide +kernel
theorem dL_recentAt_15 : decode cL_recentAt 15 = .ok (.iconst 0, 1) := by decide +kernel
theorem dL_recentAt_16 : decode cL_recentAt 16 = .ok (.ireturn, 1) := by decide +kernel
set_option maxRecDepth 20000 in
theorem ggL_frequentAt_X2_frequentAt : GoodIn wsL_frequentAt wsX2_frequentAt := goodIn_ca (goodIn_r _ [6, 7, 8, 9, 5, 10, 11, 12, 13, 14, 15, 16, 17, 18, 19, 20, 21, 22, 23, 24, 25, 26, 27, 28, 29, 30, 31, 32, 33, 34, 35, 36, 37, 38, 39, 40, 41, 42, 43, 44, 45, 46, 47] (by decide +kernel) (by decide +kernel)) (goodIn_sub (fun _ h => List.mem_cons_of_mem _ (List.mem_append_right _ h)) (by decide +kernel))
set_option maxRecDepth 20000 in
theorem gL_frequentAt_X2_frequentAt : GoodIn wsL_frequentAt (wsV RL 32 RX2 yX2_frequentAt wsX2_frequentAt) := goodIn_app (goodIn_of _ (by decide +kernel)) ggL_frequentAt_X2_frequentAt
theorem dL_frequentAt_0 : decode cL_frequentAt 0 = .ok (.aload_n 2, 1) := by decide +kernel
theorem dL_frequentAt_1 : decode cL_frequentAt 1 = .ok (.iconst 0, 1) := by decide +kernel
theorem dL_frequentAt_2 : decode cL_frequentAt 2 = .ok (.aload_n 0, 1) := by decide +kernel
theorem dL_frequentAt_3 : decode cL_frequentAt 3 = .ok (.iload_n 1, 1) := by decide +kernel
theorem dL_frequentAt_4 : decode cL_frequentAt 4 = .ok (.invokevirtual 32, 3) := by decide +kernel
theorem dL_frequentAt_7 : decode cL_frequentAt 7 = .ok (.i2l, 1) := by decide +kernel
theorem dL_frequentAt_8 : decode cL_frequentAt 8 = .ok (.lastore, 1) := by decide +kernel
theorem dL_frequentAt_9 : decode cL_frequentAt 9 = .ok (.goto 6, 3) := by decide +kernel
theorem dL_frequentAt_12 : decode cL_frequentAt 12 = .ok (.astore_n 3, 1) := by decide +kernel
theorem dL_frequentAt_13 : decode cL_frequentAt 13 = .ok (.iconst 1, 1) := by decide +kernel
theorem dL_frequentAt_14 : decode cL_frequentAt 14 = .ok (.ireturn, 1) := by decide +kernel
theorem dL_frequentAt_15 : decode cL_frequentAt 15 = .ok (.iconst 0, 1) := by decide +kernel
theorem dL_frequentAt_16 : decode cL_frequentAt 16 = .ok (.ireturn, 1) := by decide +kernel
set_option maxRecDepth 20000 in
theorem ggL_recentGhostAt_X2_recentGhostAt : GoodIn wsL_recentGhostAt wsX2_recentGhostAt := goodIn_ca (goodIn_r _ [6, 7, 8, 9, 5, 10, 11, 12, 13, 14, 15, 16, 17, 18, 19, 20, 21, 22, 23, 24, 25, 26, 27, 28, 29, 30, 31, 32, 33, 34, 35, 36, 37, 38, 39, 40, 41, 42, 43, 44, 45, 46, 47] (by decide +kernel) (by decide +kernel)) (goodIn_sub (fun _ h => List.mem_cons_of_mem _ (List.mem_append_right _ h)) (by decide +kernel))
set_option maxRecDepth 20000 in
theorem gL_recentGhostAt_X2_recentGhostAt : GoodIn wsL_recentGhostAt (wsV RL 35 RX2 yX2_recentGhostAt wsX2_recentGhostAt) := goodIn_app (goodIn_of _ (by decide +kernel)) ggL_recentGhostAt_X2_recentGhostAt
theorem dL_recentGhostAt_0 : decode cL_recentGhostAt 0 = .ok (.aload_n 2, 1) := by decide +kernel
theorem dL_recentGhostAt_1 : decode cL_recentGhostAt 1 = .ok (.iconst 0, 1) := by decide +kernel
theorem dL_recentGhostAt_2 : decode cL_recentGhostAt 2 = .ok (.aload_n 0, 1) := by decide +kernel
theorem dL_recentGhostAt_3 : decode cL_recentGhostAt 3 = .ok (.iload_n 1, 1) := by decide +kernel
theorem dL_recentGhostAt_4 : decode cL_recentGhostAt 4 = .ok (.invokevirtual 35, 3) := by decide +kernel
theorem dL_recentGhostAt_7 : decode cL_recentGhostAt 7 = .ok (.i2l, 1) := by decide +kernel
theorem dL_recentGhostAt_8 : decode cL_recentGhostAt 8 = .ok (.lastore, 1) := by decide +kernel
theorem dL_recentGhostAt_9 : decode cL_recentGhostAt 9 = .ok (.goto 6, 3) := by decide +kernel
theorem dL_recentGhostAt_12 : decode cL_recentGhostAt 12 = .ok (.astore_n 3, 1) := by decide +kernel
theorem dL_recentGhostAt_13 : decode cL_recentGhostAt 13 = .ok (.iconst 1, 1) := by decide +kernel
theorem dL_recentGhostAt_14 : decode cL_recentGhostAt 14 = .ok (.ireturn, 1) := by decide +kernel
theorem dL_recentGhostAt_15 : decode cL_recentGhostAt 15 = .ok (.iconst 0, 1) := by decide +kernel
theorem dL_recentGhostAt_16 : decode cL_recentGhostAt 16 = .ok (.ireturn, 1) := by decide +kernel
set_option maxRecDepth 20000 in
theorem ggL_frequentGhostAt_X2_frequentGhostAt : GoodIn wsL_frequentGhostAt wsX2_frequentGhostAt := goodIn_ca (goodIn_r _ [6, 7, 8, 9, 5, 10, 11, 12, 13, 14, 15, 16, 17, 18, 19, 20, 21, 22, 23, 24, 25, 26, 27, 28, 29, 30, 31, 32, 33, 34, 35, 36, 37, 38, 39, 40, 41, 42, 43, 44, 45, 46, 47] (by decide +kernel) (by decide +kernel)) (goodIn_sub (fun _ h => List.mem_cons_of_mem _ (List.mem_append_right _ h)) (by decide +kernel))
set_option maxRecDepth 20000 in
theorem gL_frequentGhostAt_X2_frequentGhostAt : GoodIn wsL_frequentGhostAt (wsV RL 38 RX2 yX2_frequentGhostAt wsX2_frequentGhostAt) := goodIn_app (goodIn_of _ (by decide +kernel)) ggL_frequentGhostAt_X2_frequentGhostAt
theorem dL_frequentGhostAt_0 : decode cL_frequentGhostAt 0 = .ok (.aload_n 2, 1) := by decide +kernel
theorem dL_frequentGhostAt_1 : decode cL_frequentGhostAt 1 = .ok (.iconst 0, 1) := by decide +kernel
theorem dL_frequentGhostAt_2 : decode cL_frequentGhostAt 2 = .ok (.aload_n 0, 1) := by decide +kernel
theorem dL_frequentGhostAt_3 : decode cL_frequentGhostAt 3 = .ok (.iload_n 1, 1) := by decide +kernel
theorem dL_frequentGhostAt_4 : decode cL_frequentGhostAt 4 = .ok (.invokevirtual 38, 3) := by decide +kernel
theorem dL_frequentGhostAt_7 : decode cL_frequentGhostAt 7 = .ok (.i2l, 1) := by decide +kernel
theorem dL_frequentGhostAt_8 : decode cL_frequentGhostAt 8 = .ok (.lastore, 1) := by decide +kernel
theorem dL_frequentGhostAt_9 : decode cL_frequentGhostAt 9 = .ok (.goto 6, 3) := by decide +kernel
theorem dL_frequentGhostAt_12 : decode cL_frequentGhostAt 12 = .ok (.astore_n 3, 1) := by decide +kernel
theorem dL_frequentGhostAt_13 : decode cL_frequentGhostAt 13 = .ok (.iconst 1, 1) := by decide +kernel
theorem dL_frequentGhostAt_14 : decode cL_frequentGhostAt 14 = .ok (.ireturn, 1) := by decide +kernel
theorem dL_frequentGhostAt_15 : decode cL_frequentGhostAt 15 = .ok (.iconst 0, 1) := by decide +kernel
theorem dL_frequentGhostAt_16 : decode cL_frequentGhostAt 16 = .ok (.ireturn, 1) := by decide +kernel
set_option maxRecDepth 20000 in
theorem ggL_hitsIf_X2_hitsIf : GoodIn wsL_hitsIf wsX2_hitsIf := goodIn_ca (goodIn_r _ [6, 7, 8, 9, 10, 11, 5, 12, 13, 14, 15, 16, 17, 18, 19, 20, 21, 22, 23, 24, 25, 26, 27, 28, 29, 30, 31, 32, 33, 34, 35, 36, 37, 38, 39, 40, 41, 42, 43, 44, 45, 46, 47, 48, 49, 50, 51, 52, 53, 54, 55, 56, 57, 58, 59, 60, 61, 62, 63, 64, 65, 66, 67, 68, 69, 70, 71, 72, 73, 74, 75, 76, 77, 78, 79, 80, 81, 82, 83, 84, 85, 86, 87, 88, 89, 90, 91, 92, 93, 94, 95, 96, 97, 98, 99, 100, 101, 102, 103, 104, 105, 106, 107, 108, 109, 110, 111, 112, 113, 114, 115, 116, 117, 118, 119, 120, 121, 122, 123, 124, 125, 126, 127, 128, 129, 130, 131, 132, 133, 134, 135, 136, 137, 138, 139, 140, 141, 142, 143, 144, 145, 146, 147, 148, 149, 150, 151, 152, 153, 154, 155, 156, 157, 158, 159, 160, 161, 162, 163] (by decide +kernel) (by decide +kernel)) (goodIn_sub (fun _ h => List.mem_cons_of_mem _ (List.mem_append_right _ h)) (by decide +kernel))
set_option maxRecDepth 20000 in
theorem gL_hitsIf_X2_hitsIf : GoodIn wsL_hitsIf (wsV RL 41 RX2 yX2_hitsIf wsX2_hitsIf) := goodIn_app (goodIn_of _ (by decide +kernel)) ggL_hitsIf_X2_hitsIf
theorem dL_hitsIf_0 : decode cL_hitsIf 0 = .ok (.aload_n 2, 1) := by decide +kernel
theorem dL_hitsIf_1 : decode cL_hitsIf 1 = .ok (.iconst 0, 1) := by decide +kernel
theorem dL_hitsIf_2 : decode cL_hitsIf 2 = .ok (.aload_n 0, 1) := by decide +kernel
theorem dL_hitsIf_3 : decode cL_hitsIf 3 = .ok (.iload_n 1, 1) := by decide +kernel
theorem dL_hitsIf_4 : decode cL_hitsIf 4 = .ok (.invokevirtual 41, 3) := by decide +kernel
theorem dL_hitsIf_7 : decode cL_hitsIf 7 = .ok (.i2l, 1) := by decide +kernel
theorem dL_hitsIf_8 : decode cL_hitsIf 8 = .ok (.lastore, 1) := by decide +kernel
theorem dL_hitsIf_9 : decode cL_hitsIf 9 = .ok (.goto 6, 3) := by decide +kernel
theorem dL_hitsIf_12 : decode cL_hitsIf 12 = .ok (.astore_n 3, 1) := by decide +kernel
theorem dL_hitsIf_13 : decode cL_hitsIf 13 = .ok (.iconst 1, 1) := by decide +kernel
theorem dL_hitsIf_14 : decode cL_hitsIf 14 = .ok (.ireturn, 1) := by decide +kernel
theorem dL_hitsIf_15 : decode cL_hitsIf 15 = .ok (.iconst 0, 1) := by decide +kernel
theorem dL_hitsIf_16 : decode cL_hitsIf 16 = .ok (.ireturn, 1) := by decide +kernel
set_option maxRecDepth 20000 in
theorem ggL_leastRecentHitsIf_X2_leastRecentHitsIf : GoodIn wsL_leastRecentHitsIf wsX2_leastRecentHitsIf := goodIn_ca (goodIn_r _ [6, 7, 8, 9, 10, 5, 11, 12, 13, 14, 15, 16, 17, 18, 19, 20, 21, 22, 23, 24, 25, 26, 27, 28, 29, 30, 31, 32, 33, 34, 35, 36, 37, 38, 39, 40, 41, 42, 43, 44, 45, 46, 47, 48, 49, 50, 51, 52, 53, 54, 55, 56, 57, 58, 59] (by decide +kernel) (by decide +kernel)) (goodIn_sub (fun _ h => List.mem_cons_of_mem _ (List.mem_append_right _ h)) (by decide +kernel))
set_option maxRecDepth 20000 in
theorem gL_leastRecentHitsIf_X2_leastRecentHitsIf : GoodIn wsL_leastRecentHitsIf (wsV RL 44 RX2 yX2_leastRecentHitsIf wsX2_leastRecentHitsIf) := goodIn_app (goodIn_of _ (by decide +kernel)) ggL_leastRecentHitsIf_X2_leastRecentHitsIf
theorem dL_leastRecentHitsIf_0 : decode cL_leastRecentHitsIf 0 = .ok (.aload_n 2, 1) := by decide +kernel
theorem dL_leastRecentHitsIf_1 : decode cL_leastRecentHitsIf 1 = .ok (.iconst 0, 1) := by decide +kernel
theorem dL_leastRecentHitsIf_2 : decode cL_leastRecentHitsIf 2 = .ok (.aload_n 0, 1) := by decide +kernel
theorem dL_leastRecentHitsIf_3 : decode cL_leastRecentHitsIf 3 = .ok (.iload_n 1, 1) := by decide +kernel
theorem dL_leastRecentHitsIf_4 : decode cL_leastRecentHitsIf 4 = .ok (.invokevirtual 44, 3) := by decide +kernel
theorem dL_leastRecentHitsIf_7 : decode cL_leastRecentHitsIf 7 = .ok (.i2l, 1) := by decide +kernel
theorem dL_leastRecentHitsIf_8 : decode cL_leastRecentHitsIf 8 = .ok (.lastore, 1) := by decide +kernel
theorem dL_leastRecentHitsIf_9 : decode cL_leastRecentHitsIf 9 = .ok (.goto 6, 3) := by decide +kernel
theorem dL_leastRecentHitsIf_12 : decode cL_leastRecentHitsIf 12 = .ok (.astore_n 3, 1) := by decide +kernel
theorem dL_leastRecentHitsIf_13 : decode cL_leastRecentHitsIf 13 = .ok (.iconst 1, 1) := by decide +kernel
theorem dL_leastRecentHitsIf_14 : decode cL_leastRecentHitsIf 14 = .ok (.ireturn, 1) := by decide +kernel
theorem dL_leastRecentHitsIf_15 : decode cL_leastRecentHitsIf 15 = .ok (.iconst 0, 1) := by decide +kernel
theorem dL_leastRecentHitsIf_16 : decode cL_leastRecentHitsIf 16 = .ok (.ireturn, 1) := by decide +kernel
set_option maxRecDepth 20000 in
theorem ggL_law_X2_init : GoodIn wsL_law wsX2_init := goodIn_r _ [9, 10, 11, 12, 13, 14, 15, 16, 17, 18, 19, 20, 21, 22, 23, 24, 25, 26, 27, 28, 29, 30, 31, 32, 33, 34, 35, 36, 37, 550, 551, 552, 553, 554, 555, 556, 557, 558, 559, 532, 533, 534, 535, 536, 537, 538, 539, 560, 561] (by decide +kernel) (by decide +kernel)
set_option maxRecDepth 20000 in
theorem gL_law_X2_init : GoodIn wsL_law (wsX2_init) := ggL_law_X2_init
set_option maxRecDepth 20000 in
theorem ggL_law_X3_init : GoodIn wsL_law wsX3_init := goodIn_r _ [40, 41, 11, 12, 36, 42, 43, 44, 45, 540, 541, 542, 543, 544, 545, 546, 547, 548, 549] (by decide +kernel) (by decide +kernel)
set_option maxRecDepth 20000 in
theorem gL_law_X3_init : GoodIn wsL_law (wsX3_init) := ggL_law_X3_init
set_option maxRecDepth 20000 in
theorem ggL_law_L_request : GoodIn wsL_law wsL_request := goodIn_ca (goodIn_r _ [49, 50, 51, 52, 53, 2, 54, 16, 55, 56, 57, 58, 59, 60, 61, 62, 63, 20, 64, 65, 66, 19, 67, 68, 69, 70, 71, 72, 73, 74, 75, 76, 37, 77, 78, 79, 80, 81, 82, 83, 84, 85, 86, 87, 15, 88, 89, 90, 28, 91, 92, 93, 94, 32, 95, 96, 97, 98, 27, 29, 30, 99, 100, 101, 102, 103, 104, 105, 106, 107, 108, 109, 110, 111, 112, 113, 31, 114, 115, 116, 117, 118, 119, 120, 121, 122, 123, 124, 125, 126, 127, 128, 129, 130, 131, 132, 133, 134, 135, 136, 137, 138, 139, 140, 141, 142, 143, 144, 145, 146, 147, 148, 149, 150, 151, 152, 153, 154, 155, 156, 157, 158, 159, 160, 161, 162, 163, 164, 165, 166, 167, 168, 169, 170, 171, 172, 173, 174, 175, 176, 177, 178, 179, 180, 532, 533, 534, 535, 536, 537, 538, 539, 560, 561, 550, 551, 552, 553, 554, 555, 556, 557, 558, 559] (by decide +kernel) (by decide +kernel)) (goodIn_sub (fun _ h => List.mem_append_left _ (List.mem_append_right _ h)) (by decide +kernel))
set_option maxRecDepth 20000 in
theorem gL_law_L_request : GoodIn wsL_law (va_wsS RL 51 yL_request wsL_request) := goodIn_app (goodIn_of _ (by decide +kernel)) ggL_law_L_request
set_option maxRecDepth 20000 in
theorem ggL_law_X3_request : GoodIn wsL_law wsX3_request := goodIn_r _ [184, 42, 185, 186, 187, 188, 189, 44, 190, 191, 5, 192, 193, 194, 195, 196, 197, 198, 199, 200, 201, 202, 203, 204, 205, 206, 207, 208, 209, 210, 211, 212, 213, 214, 215, 216, 217, 218, 219, 220, 221, 222, 223, 224, 225, 226, 227, 228, 229, 230, 231, 232, 233, 234, 235, 236, 237, 238, 239, 540, 541, 542, 543, 544, 545, 546, 547, 548, 549] (by decide +kernel) (by decide +kernel)
set_option maxRecDepth 20000 in
theorem gL_law_X3_request : GoodIn wsL_law (wsV RL 56 RX3 yX3_request wsX3_request) := goodIn_app (goodIn_of _ (by decide +kernel)) ggL_law_X3_request
set_option maxRecDepth 20000 in
theorem ggL_law_X3_thrown : GoodIn wsL_law wsX3_thrown := goodIn_r _ [243, 197, 540, 541, 542, 543, 544, 545, 546, 547, 548, 549] (by decide +kernel) (by decide +kernel)
set_option maxRecDepth 20000 in
theorem gL_law_X3_thrown : GoodIn wsL_law (wsV RL 57 RX3 yX3_thrown wsX3_thrown) := goodIn_app (goodIn_of _ (by decide +kernel)) ggL_law_X3_thrown
set_option maxRecDepth 20000 in
theorem ggL_law_L_remove : GoodIn wsL_law wsL_remove := goodIn_ca (goodIn_r _ [246, 50, 247, 248, 249, 2, 250, 16, 55, 56, 57, 58, 59, 251, 252, 253, 15, 254, 95, 96, 97, 98, 27, 28, 29, 30, 99, 100, 101, 19, 102, 103, 104, 105, 106, 68, 37, 164, 165, 166, 167, 168, 169, 170, 171, 77, 78, 79, 80, 532, 533, 534, 535, 536, 537, 538, 539, 550, 551, 552, 553, 554, 555, 556, 557, 558, 559, 560, 561] (by decide +kernel) (by decide +kernel)) (goodIn_sub (fun _ h => List.mem_append_left _ (List.mem_append_right _ h)) (by decide +kernel))
set_option maxRecDepth 20000 in
theorem gL_law_L_remove : GoodIn wsL_law (va_wsS RL 61 yL_remove wsL_remove) := goodIn_app (goodIn_of _ (by decide +kernel)) ggL_law_L_remove
set_option maxRecDepth 20000 in
theorem ggL_law_X3_remove : GoodIn wsL_law wsX3_remove := goodIn_r _ [258, 42, 190, 191, 5, 192, 193, 194, 195, 196, 197, 201, 202, 203, 204, 205, 206, 207, 208, 209, 210, 211, 212, 540, 541, 542, 543, 544, 545, 546, 547, 548, 549] (by decide +kernel) (by decide +kernel)
set_option maxRecDepth 20000 in
theorem gL_law_X3_remove : GoodIn wsL_law (wsV RL 63 RX3 yX3_remove wsX3_remove) := goodIn_app (goodIn_of _ (by decide +kernel)) ggL_law_X3_remove
set_option maxRecDepth 20000 in
theorem ggL_law_X2_clear : GoodIn wsL_law wsX2_clear := goodIn_r _ [262, 16, 263, 264, 265, 15, 266, 27, 28, 29, 30, 148, 128, 129, 130, 131, 122, 65, 66, 19, 67, 68, 267, 268, 269, 270, 532, 533, 534, 535, 536, 537, 538, 539, 550, 551, 552, 553, 554, 555, 556, 557, 558, 559, 560, 561] (by decide +kernel) (by decide +kernel)
set_option maxRecDepth 20000 in
theorem gL_law_X2_clear : GoodIn wsL_law (wsV RL 64 RX2 yX2_clear wsX2_clear) := goodIn_app (goodIn_of _ (by decide +kernel)) ggL_law_X2_clear
set_option maxRecDepth 20000 in
theorem ggL_law_X3_clear : GoodIn wsL_law wsX3_clear := goodIn_r _ [274, 197, 42, 540, 541, 542, 543, 544, 545, 546, 547, 548, 549] (by decide +kernel) (by decide +kernel)
set_option maxRecDepth 20000 in
theorem gL_law_X3_clear : GoodIn wsL_law (wsV RL 67 RX3 yX3_clear wsX3_clear) := goodIn_app (goodIn_of _ (by decide +kernel)) ggL_law_X3_clear
set_option maxRecDepth 20000 in
theorem ggL_law_L_setCapacity : GoodIn wsL_law wsL_setCapacity := goodIn_ca (goodIn_r _ [277, 50, 278, 279, 280, 2, 281, 16, 282, 283, 284, 58, 59, 285, 286, 287, 15, 288, 31, 148, 154, 155, 156, 157, 158, 159, 160, 29, 30, 128, 129, 130, 131, 27, 28, 122, 65, 66, 19, 67, 68, 140, 141, 142, 143, 113, 144, 145, 146, 147, 123, 70, 71, 72, 73, 74, 75, 76, 37, 77, 78, 79, 80, 149, 82, 83, 84, 118, 119, 120, 121, 124, 125, 126, 127, 532, 533, 534, 535, 536, 537, 538, 539, 550, 551, 552, 553, 554, 555, 556, 557, 558, 559, 560, 561] (by decide +kernel) (by decide +kernel)) (goodIn_sub (fun _ h => List.mem_append_left _ (List.mem_append_right _ h)) (by decide +kernel))
set_option maxRecDepth 20000 in
theorem gL_law_L_setCapacity : GoodIn wsL_law (va_wsS RL 68 yL_setCapacity wsL_setCapacity) := goodIn_app (goodIn_of _ (by decide +kernel)) ggL_law_L_setCapacity
set_option maxRecDepth 20000 in
theorem ggL_law_X3_setCapacity : GoodIn wsL_law wsX3_setCapacity := goodIn_r _ [292, 42, 293, 294, 5, 295, 193, 194, 195, 196, 197, 228, 229, 230, 231, 232, 233, 210, 211, 212, 207, 208, 209, 213, 214, 215, 237, 238, 239, 540, 541, 542, 543, 544, 545, 546, 547, 548, 549] (by decide +kernel) (by decide +kernel)
set_option maxRecDepth 20000 in
theorem gL_law_X3_setCapacity : GoodIn wsL_law (wsV RL 70 RX3 yX3_setCapacity wsX3_setCapacity) := goodIn_app (goodIn_of _ (by decide +kernel)) ggL_law_X3_setCapacity
set_option maxRecDepth 20000 in
theorem ggL_law_X2_capacity : GoodIn wsL_law wsX2_capacity := goodIn_r _ [299, 16, 532, 533, 534, 535, 536, 537, 538, 539, 550, 551, 552, 553, 554, 555, 556, 557, 558, 559] (by decide +kernel) (by decide +kernel)
set_option maxRecDepth 20000 in
theorem gL_law_X2_capacity : GoodIn wsL_law (wsV RL 71 RX2 yX2_capacity wsX2_capacity) := goodIn_app (goodIn_of _ (by decide +kernel)) ggL_law_X2_capacity
set_option maxRecDepth 20000 in
theorem ggL_law_X3_capacity : GoodIn wsL_law wsX3_capacity := goodIn_r _ [303, 42, 304, 305, 306, 5, 307, 197, 540, 541, 542, 543, 544, 545, 546, 547, 548, 549] (by decide +kernel) (by decide +kernel)
set_option maxRecDepth 20000 in
theorem gL_law_X3_capacity : GoodIn wsL_law (wsV RL 74 RX3 yX3_capacity wsX3_capacity) := goodIn_app (goodIn_of _ (by decide +kernel)) ggL_law_X3_capacity
set_option maxRecDepth 20000 in
theorem ggL_law_L_setScanLength : GoodIn wsL_law wsL_setScanLength := goodIn_ca (goodIn_r _ [310, 50, 311, 312, 313, 2, 314, 58, 59, 16, 532, 533, 534, 535, 536, 537, 538, 539, 550, 551, 552, 553, 554, 555, 556, 557, 558, 559] (by decide +kernel) (by decide +kernel)) (goodIn_sub (fun _ h => List.mem_append_left _ (List.mem_append_right _ h)) (by decide +kernel))
set_option maxRecDepth 20000 in
theorem gL_law_L_setScanLength : GoodIn wsL_law (va_wsS RL 75 yL_setScanLength wsL_setScanLength) := goodIn_app (goodIn_of _ (by decide +kernel)) ggL_law_L_setScanLength
set_option maxRecDepth 20000 in
theorem ggL_law_X3_setScanLength : GoodIn wsL_law wsX3_setScanLength := goodIn_r _ [318, 42, 193, 194, 195, 5, 196, 197, 540, 541, 542, 543, 544, 545, 546, 547, 548, 549] (by decide +kernel) (by decide +kernel)
set_option maxRecDepth 20000 in
theorem gL_law_X3_setScanLength : GoodIn wsL_law (wsV RL 77 RX3 yX3_setScanLength wsX3_setScanLength) := goodIn_app (goodIn_of _ (by decide +kernel)) ggL_law_X3_setScanLength
set_option maxRecDepth 20000 in
theorem ggL_law_X2_run : GoodIn wsL_law wsX2_run := goodIn_r _ [322, 16, 532, 533, 534, 535, 536, 537, 538, 539, 550, 551, 552, 553, 554, 555, 556, 557, 558, 559] (by decide +kernel) (by decide +kernel)
set_option maxRecDepth 20000 in
theorem gL_law_X2_run : GoodIn wsL_law (wsV RL 78 RX2 yX2_run wsX2_run) := goodIn_app (goodIn_of _ (by decide +kernel)) ggL_law_X2_run
set_option maxRecDepth 20000 in
theorem ggL_law_X3_run : GoodIn wsL_law wsX3_run := goodIn_r _ [326, 42, 304, 305, 306, 5, 307, 197, 540, 541, 542, 543, 544, 545, 546, 547, 548, 549] (by decide +kernel) (by decide +kernel)
set_option maxRecDepth 20000 in
theorem gL_law_X3_run : GoodIn wsL_law (wsV RL 81 RX3 yX3_run wsX3_run) := goodIn_app (goodIn_of _ (by decide +kernel)) ggL_law_X3_run
set_option maxRecDepth 20000 in
theorem ggL_law_X2_target : GoodIn wsL_law wsX2_target := goodIn_r _ [330, 16, 532, 533, 534, 535, 536, 537, 538, 539, 550, 551, 552, 553, 554, 555, 556, 557, 558, 559] (by decide +kernel) (by decide +kernel)
set_option maxRecDepth 20000 in
theorem gL_law_X2_target : GoodIn wsL_law (wsV RL 82 RX2 yX2_target wsX2_target) := goodIn_app (goodIn_of _ (by decide +kernel)) ggL_law_X2_target
set_option maxRecDepth 20000 in
theorem ggL_law_X3_target : GoodIn wsL_law wsX3_target := goodIn_r _ [334, 42, 304, 305, 306, 5, 307, 197, 540, 541, 542, 543, 544, 545, 546, 547, 548, 549] (by decide +kernel) (by decide +kernel)
set_option maxRecDepth 20000 in
theorem gL_law_X3_target : GoodIn wsL_law (wsV RL 85 RX3 yX3_target wsX3_target) := goodIn_app (goodIn_of _ (by decide +kernel)) ggL_law_X3_target
set_option maxRecDepth 20000 in
theorem ggL_law_X2_size : GoodIn wsL_law wsX2_size := goodIn_r _ [338, 16, 339, 129, 130, 15, 131, 27, 28, 122, 65, 66, 19, 67, 68, 532, 533, 534, 535, 536, 537, 538, 539, 550, 551, 552, 553, 554, 555, 556, 557, 558, 559, 560, 561] (by decide +kernel) (by decide +kernel)
set_option maxRecDepth 20000 in
theorem gL_law_X2_size : GoodIn wsL_law (wsV RL 86 RX2 yX2_size wsX2_size) := goodIn_app (goodIn_of _ (by decide +kernel)) ggL_law_X2_size
set_option maxRecDepth 20000 in
theorem ggL_law_X3_size : GoodIn wsL_law wsX3_size := goodIn_r _ [343, 42, 304, 305, 306, 5, 307, 197, 540, 541, 542, 543, 544, 545, 546, 547, 548, 549] (by decide +kernel) (by decide +kernel)
set_option maxRecDepth 20000 in
theorem gL_law_X3_size : GoodIn wsL_law (wsV RL 89 RX3 yX3_size wsX3_size) := goodIn_app (goodIn_of _ (by decide +kernel)) ggL_law_X3_size
set_option maxRecDepth 20000 in
theorem ggL_law_L_whereIs : GoodIn wsL_law wsL_whereIs := goodIn_ca (goodIn_r _ [346, 50, 347, 348, 349, 2, 350, 16, 55, 56, 57, 58, 59, 351, 96, 97, 15, 98, 27, 28, 29, 30, 99, 100, 101, 19, 102, 103, 104, 105, 106, 68, 37, 532, 533, 534, 535, 536, 537, 538, 539, 550, 551, 552, 553, 554, 555, 556, 557, 558, 559, 560, 561] (by decide +kernel) (by decide +kernel)) (goodIn_sub (fun _ h => List.mem_append_left _ (List.mem_append_right _ h)) (by decide +kernel))
set_option maxRecDepth 20000 in
theorem gL_law_L_whereIs : GoodIn wsL_law (va_wsS RL 90 yL_whereIs wsL_whereIs) := goodIn_app (goodIn_of _ (by decide +kernel)) ggL_law_L_whereIs
set_option maxRecDepth 20000 in
theorem ggL_law_X3_whereIs : GoodIn wsL_law wsX3_whereIs := goodIn_r _ [355, 42, 190, 191, 5, 192, 193, 194, 195, 196, 197, 201, 202, 203, 204, 205, 206, 207, 208, 209, 540, 541, 542, 543, 544, 545, 546, 547, 548, 549] (by decide +kernel) (by decide +kernel)
set_option maxRecDepth 20000 in
theorem gL_law_X3_whereIs : GoodIn wsL_law (wsV RL 92 RX3 yX3_whereIs wsX3_whereIs) := goodIn_app (goodIn_of _ (by decide +kernel)) ggL_law_X3_whereIs
set_option maxRecDepth 20000 in
theorem ggL_law_X2_victim : GoodIn wsL_law wsX2_victim := goodIn_r _ [359, 16, 360, 361, 362, 15, 363, 27, 28, 114, 115, 116, 117, 31, 29, 118, 119, 120, 121, 122, 65, 66, 19, 67, 68, 364, 365, 366, 367, 73, 74, 75, 76, 37, 136, 137, 138, 139, 128, 129, 130, 131, 144, 145, 146, 147, 148, 532, 533, 534, 535, 536, 537, 538, 539, 550, 551, 552, 553, 554, 555, 556, 557, 558, 559, 560, 561] (by decide +kernel) (by decide +kernel)
set_option maxRecDepth 20000 in
theorem gL_law_X2_victim : GoodIn wsL_law (wsV RL 93 RX2 yX2_victim wsX2_victim) := goodIn_app (goodIn_of _ (by decide +kernel)) ggL_law_X2_victim
set_option maxRecDepth 20000 in
theorem ggL_law_X3_victim : GoodIn wsL_law wsX3_victim := goodIn_r _ [371, 197, 42, 225, 226, 5, 227, 231, 232, 233, 207, 208, 209, 540, 541, 542, 543, 544, 545, 546, 547, 548, 549] (by decide +kernel) (by decide +kernel)
set_option maxRecDepth 20000 in
theorem gL_law_X3_victim : GoodIn wsL_law (wsV RL 96 RX3 yX3_victim wsX3_victim) := goodIn_app (goodIn_of _ (by decide +kernel)) ggL_law_X3_victim
set_option maxRecDepth 20000 in
theorem ggL_law_X2_recentSize : GoodIn wsL_law wsX2_recentSize := goodIn_r _ [375, 16, 64, 65, 66, 19, 67, 68, 532, 533, 534, 535, 536, 537, 538, 539, 550, 551, 552, 553, 554, 555, 556, 557, 558, 559, 560, 561] (by decide +kernel) (by decide +kernel)
set_option maxRecDepth 20000 in
theorem gL_law_X2_recentSize : GoodIn wsL_law (wsV RL 97 RX2 yX2_recentSize wsX2_recentSize) := goodIn_app (goodIn_of _ (by decide +kernel)) ggL_law_X2_recentSize
set_option maxRecDepth 20000 in
theorem ggL_law_X3_recentSize : GoodIn wsL_law wsX3_recentSize := goodIn_r _ [379, 42, 304, 305, 306, 5, 307, 197, 540, 541, 542, 543, 544, 545, 546, 547, 548, 549] (by decide +kernel) (by decide +kernel)
set_option maxRecDepth 20000 in
theorem gL_law_X3_recentSize : GoodIn wsL_law (wsV RL 100 RX3 yX3_recentSize wsX3_recentSize) := goodIn_app (goodIn_of _ (by decide +kernel)) ggL_law_X3_recentSize
set_option maxRecDepth 20000 in
theorem ggL_law_X2_frequentSize : GoodIn wsL_law wsX2_frequentSize := goodIn_r _ [383, 16, 64, 65, 66, 19, 67, 68, 532, 533, 534, 535, 536, 537, 538, 539, 550, 551, 552, 553, 554, 555, 556, 557, 558, 559, 560, 561] (by decide +kernel) (by decide +kernel)
set_option maxRecDepth 20000 in
theorem gL_law_X2_frequentSize : GoodIn wsL_law (wsV RL 101 RX2 yX2_frequentSize wsX2_frequentSize) := goodIn_app (goodIn_of _ (by decide +kernel)) ggL_law_X2_frequentSize
set_option maxRecDepth 20000 in
theorem ggL_law_X3_frequentSize : GoodIn wsL_law wsX3_frequentSize := goodIn_r _ [387, 42, 304, 305, 306, 5, 307, 197, 540, 541, 542, 543, 544, 545, 546, 547, 548, 549] (by decide +kernel) (by decide +kernel)
set_option maxRecDepth 20000 in
theorem gL_law_X3_frequentSize : GoodIn wsL_law (wsV RL 104 RX3 yX3_frequentSize wsX3_frequentSize) := goodIn_app (goodIn_of _ (by decide +kernel)) ggL_law_X3_frequentSize
set_option maxRecDepth 20000 in
theorem ggL_law_X2_recentGhosts : GoodIn wsL_law wsX2_recentGhosts := goodIn_r _ [391, 16, 64, 65, 66, 19, 67, 68, 532, 533, 534, 535, 536, 537, 538, 539, 550, 551, 552, 553, 554, 555, 556, 557, 558, 559, 560, 561] (by decide +kernel) (by decide +kernel)
set_option maxRecDepth 20000 in
theorem gL_law_X2_recentGhosts : GoodIn wsL_law (wsV RL 105 RX2 yX2_recentGhosts wsX2_recentGhosts) := goodIn_app (goodIn_of _ (by decide +kernel)) ggL_law_X2_recentGhosts
set_option maxRecDepth 20000 in
theorem ggL_law_X3_recentGhosts : GoodIn wsL_law wsX3_recentGhosts := goodIn_r _ [395, 42, 304, 305, 306, 5, 307, 197, 540, 541, 542, 543, 544, 545, 546, 547, 548, 549] (by decide +kernel) (by decide +kernel)
set_option maxRecDepth 20000 in
theorem gL_law_X3_recentGhosts : GoodIn wsL_law (wsV RL 108 RX3 yX3_recentGhosts wsX3_recentGhosts) := goodIn_app (goodIn_of _ (by decide +kernel)) ggL_law_X3_recentGhosts
set_option maxRecDepth 20000 in
theorem ggL_law_X2_frequentGhosts : GoodIn wsL_law wsX2_frequentGhosts := goodIn_r _ [399, 16, 64, 65, 66, 19, 67, 68, 532, 533, 534, 535, 536, 537, 538, 539, 550, 551, 552, 553, 554, 555, 556, 557, 558, 559, 560, 561] (by decide +kernel) (by decide +kernel)
set_option maxRecDepth 20000 in
theorem gL_law_X2_frequentGhosts : GoodIn wsL_law (wsV RL 109 RX2 yX2_frequentGhosts wsX2_frequentGhosts) := goodIn_app (goodIn_of _ (by decide +kernel)) ggL_law_X2_frequentGhosts
set_option maxRecDepth 20000 in
theorem ggL_law_X3_frequentGhosts : GoodIn wsL_law wsX3_frequentGhosts := goodIn_r _ [403, 42, 304, 305, 306, 5, 307, 197, 540, 541, 542, 543, 544, 545, 546, 547, 548, 549] (by decide +kernel) (by decide +kernel)
set_option maxRecDepth 20000 in
theorem gL_law_X3_frequentGhosts : GoodIn wsL_law (wsV RL 112 RX3 yX3_frequentGhosts wsX3_frequentGhosts) := goodIn_app (goodIn_of _ (by decide +kernel)) ggL_law_X3_frequentGhosts
set_option maxRecDepth 20000 in
theorem ggL_law_L_recentAt : GoodIn wsL_law wsL_recentAt := goodIn_ca (goodIn_r _ [406, 407, 408, 409, 410, 2, 411, 16, 412, 413, 414, 415, 416, 64, 65, 66, 19, 67, 68, 417, 418, 419, 420, 73, 74, 75, 76, 37, 532, 533, 534, 535, 536, 537, 538, 539, 550, 551, 552, 553, 554, 555, 556, 557, 558, 559, 560, 561] (by decide +kernel) (by decide +kernel)) (goodIn_sub (fun _ h => List.mem_append_right _ h) (by decide +kernel))
set_option maxRecDepth 20000 in
theorem gL_law_L_recentAt : GoodIn wsL_law (va_wsS RL 113 yL_recentAt wsL_recentAt) := goodIn_app (goodIn_of _ (by decide +kernel)) ggL_law_L_recentAt
set_option maxRecDepth 20000 in
theorem ggL_law_X3_recentAt : GoodIn wsL_law wsX3_recentAt := goodIn_r _ [424, 425, 426, 427, 5, 428, 42, 193, 194, 195, 196, 197, 207, 208, 209, 540, 541, 542, 543, 544, 545, 546, 547, 548, 549] (by decide +kernel) (by decide +kernel)
set_option maxRecDepth 20000 in
theorem gL_law_X3_recentAt : GoodIn wsL_law (wsV RL 115 RX3 yX3_recentAt wsX3_recentAt) := goodIn_app (goodIn_of _ (by decide +kernel)) ggL_law_X3_recentAt
set_option maxRecDepth 20000 in
theorem ggL_law_L_frequentAt : GoodIn wsL_law wsL_frequentAt := goodIn_ca (goodIn_r _ [431, 407, 432, 433, 434, 2, 435, 16, 412, 413, 414, 415, 416, 64, 65, 66, 19, 67, 68, 417, 418, 419, 420, 73, 74, 75, 76, 37, 532, 533, 534, 535, 536, 537, 538, 539, 550, 551, 552, 553, 554, 555, 556, 557, 558, 559, 560, 561] (by decide +kernel) (by decide +kernel)) (goodIn_sub (fun _ h => List.mem_append_right _ h) (by decide +kernel))
set_option maxRecDepth 20000 in
theorem gL_law_L_frequentAt : GoodIn wsL_law (va_wsS RL 116 yL_frequentAt wsL_frequentAt) := goodIn_app (goodIn_of _ (by decide +kernel)) ggL_law_L_frequentAt
set_option maxRecDepth 20000 in
theorem ggL_law_X3_frequentAt : GoodIn wsL_law wsX3_frequentAt := goodIn_r _ [439, 425, 426, 427, 5, 428, 42, 193, 194, 195, 196, 197, 207, 208, 209, 540, 541, 542, 543, 544, 545, 546, 547, 548, 549] (by decide +kernel) (by decide +kernel)
set_option maxRecDepth 20000 in
theorem gL_law_X3_frequentAt : GoodIn wsL_law (wsV RL 118 RX3 yX3_frequentAt wsX3_frequentAt) := goodIn_app (goodIn_of _ (by decide +kernel)) ggL_law_X3_frequentAt
set_option maxRecDepth 20000 in
theorem ggL_law_L_recentGhostAt : GoodIn wsL_law wsL_recentGhostAt := goodIn_ca (goodIn_r _ [442, 407, 443, 444, 445, 2, 446, 16, 412, 413, 414, 415, 416, 64, 65, 66, 19, 67, 68, 417, 418, 419, 420, 73, 74, 75, 76, 37, 532, 533, 534, 535, 536, 537, 538, 539, 550, 551, 552, 553, 554, 555, 556, 557, 558, 559, 560, 561] (by decide +kernel) (by decide +kernel)) (goodIn_sub (fun _ h => List.mem_append_right _ h) (by decide +kernel))
set_option maxRecDepth 20000 in
theorem gL_law_L_recentGhostAt : GoodIn wsL_law (va_wsS RL 119 yL_recentGhostAt wsL_recentGhostAt) := goodIn_app (goodIn_of _ (by decide +kernel)) ggL_law_L_recentGhostAt
set_option maxRecDepth 20000 in
theorem ggL_law_X3_recentGhostAt : GoodIn wsL_law wsX3_recentGhostAt := goodIn_r _ [450, 425, 426, 427, 5, 428, 42, 193, 194, 195, 196, 197, 207, 208, 209, 540, 541, 542, 543, 544, 545, 546, 547, 548, 549] (by decide +kernel) (by decide +kernel)
set_option maxRecDepth 20000 in
theorem gL_law_X3_recentGhostAt : GoodIn wsL_law (wsV RL 121 RX3 yX3_recentGhostAt wsX3_recentGhostAt) := goodIn_app (goodIn_of _ (by decide +kernel)) ggL_law_X3_recentGhostAt
set_option maxRecDepth 20000 in
theorem ggL_law_L_frequentGhostAt : GoodIn wsL_law wsL_frequentGhostAt := goodIn_ca (goodIn_r _ [453, 407, 454, 455, 456, 2, 457, 16, 412, 413, 414, 415, 416, 64, 65, 66, 19, 67, 68, 417, 418, 419, 420, 73, 74, 75, 76, 37, 532, 533, 534, 535, 536, 537, 538, 539, 550, 551, 552, 553, 554, 555, 556, 557, 558, 559, 560, 561] (by decide +kernel) (by decide +kernel)) (goodIn_sub (fun _ h => List.mem_append_right _ h) (by decide +kernel))
set_option maxRecDepth 20000 in
theorem gL_law_L_frequentGhostAt : GoodIn wsL_law (va_wsS RL 122 yL_frequentGhostAt wsL_frequentGhostAt) := goodIn_app (goodIn_of _ (by decide +kernel)) ggL_law_L_frequentGhostAt
set_option maxRecDepth 20000 in
theorem ggL_law_X3_frequentGhostAt : GoodIn wsL_law wsX3_frequentGhostAt := goodIn_r _ [461, 425, 426, 427, 5, 428, 42, 193, 194, 195, 196, 197, 207, 208, 209, 540, 541, 542, 543, 544, 545, 546, 547, 548, 549] (by decide +kernel) (by decide +kernel)
set_option maxRecDepth 20000 in
theorem gL_law_X3_frequentGhostAt : GoodIn wsL_law (wsV RL 124 RX3 yX3_frequentGhostAt wsX3_frequentGhostAt) := goodIn_app (goodIn_of _ (by decide +kernel)) ggL_law_X3_frequentGhostAt
set_option maxRecDepth 20000 in
theorem ggL_law_X2_requests : GoodIn wsL_law wsX2_requests := goodIn_r _ [465, 176, 532, 533, 534, 535, 536, 537, 538, 539] (by decide +kernel) (by decide +kernel)
set_option maxRecDepth 20000 in
theorem gL_law_X2_requests : GoodIn wsL_law (wsV RL 125 RX2 yX2_requests wsX2_requests) := goodIn_app (goodIn_of _ (by decide +kernel)) ggL_law_X2_requests
set_option maxRecDepth 20000 in
theorem ggL_law_X3_requests : GoodIn wsL_law wsX3_requests := goodIn_r _ [469, 185, 304, 305, 306, 5, 307, 197, 540, 541, 542, 543, 544, 545, 546, 547, 548, 549] (by decide +kernel) (by decide +kernel)
set_option maxRecDepth 20000 in
theorem gL_law_X3_requests : GoodIn wsL_law (wsV RL 128 RX3 yX3_requests wsX3_requests) := goodIn_app (goodIn_of _ (by decide +kernel)) ggL_law_X3_requests
set_option maxRecDepth 20000 in
theorem ggL_law_X2_hits : GoodIn wsL_law wsX2_hits := goodIn_r _ [473, 177, 532, 533, 534, 535, 536, 537, 538, 539] (by decide +kernel) (by decide +kernel)
set_option maxRecDepth 20000 in
theorem gL_law_X2_hits : GoodIn wsL_law (wsV RL 129 RX2 yX2_hits wsX2_hits) := goodIn_app (goodIn_of _ (by decide +kernel)) ggL_law_X2_hits
set_option maxRecDepth 20000 in
theorem ggL_law_X3_hits : GoodIn wsL_law wsX3_hits := goodIn_r _ [477, 186, 304, 305, 306, 5, 307, 197, 540, 541, 542, 543, 544, 545, 546, 547, 548, 549] (by decide +kernel) (by decide +kernel)
set_option maxRecDepth 20000 in
theorem gL_law_X3_hits : GoodIn wsL_law (wsV RL 132 RX3 yX3_hits wsX3_hits) := goodIn_app (goodIn_of _ (by decide +kernel)) ggL_law_X3_hits
set_option maxRecDepth 20000 in
theorem ggL_law_X2_ghostHits : GoodIn wsL_law wsX2_ghostHits := goodIn_r _ [481, 178, 532, 533, 534, 535, 536, 537, 538, 539] (by decide +kernel) (by decide +kernel)
set_option maxRecDepth 20000 in
theorem gL_law_X2_ghostHits : GoodIn wsL_law (wsV RL 133 RX2 yX2_ghostHits wsX2_ghostHits) := goodIn_app (goodIn_of _ (by decide +kernel)) ggL_law_X2_ghostHits
set_option maxRecDepth 20000 in
theorem ggL_law_X3_ghostHits : GoodIn wsL_law wsX3_ghostHits := goodIn_r _ [485, 187, 304, 305, 306, 5, 307, 197, 540, 541, 542, 543, 544, 545, 546, 547, 548, 549] (by decide +kernel) (by decide +kernel)
set_option maxRecDepth 20000 in
theorem gL_law_X3_ghostHits : GoodIn wsL_law (wsV RL 136 RX3 yX3_ghostHits wsX3_ghostHits) := goodIn_app (goodIn_of _ (by decide +kernel)) ggL_law_X3_ghostHits
set_option maxRecDepth 20000 in
theorem ggL_law_X2_bypassed : GoodIn wsL_law wsX2_bypassed := goodIn_r _ [489, 179, 532, 533, 534, 535, 536, 537, 538, 539] (by decide +kernel) (by decide +kernel)
set_option maxRecDepth 20000 in
theorem gL_law_X2_bypassed : GoodIn wsL_law (wsV RL 137 RX2 yX2_bypassed wsX2_bypassed) := goodIn_app (goodIn_of _ (by decide +kernel)) ggL_law_X2_bypassed
set_option maxRecDepth 20000 in
theorem ggL_law_X3_bypassed : GoodIn wsL_law wsX3_bypassed := goodIn_r _ [493, 188, 304, 305, 306, 5, 307, 197, 540, 541, 542, 543, 544, 545, 546, 547, 548, 549] (by decide +kernel) (by decide +kernel)
set_option maxRecDepth 20000 in
theorem gL_law_X3_bypassed : GoodIn wsL_law (wsV RL 140 RX3 yX3_bypassed wsX3_bypassed) := goodIn_app (goodIn_of _ (by decide +kernel)) ggL_law_X3_bypassed
set_option maxRecDepth 20000 in
theorem ggL_law_X2_evictions : GoodIn wsL_law wsX2_evictions := goodIn_r _ [497, 16, 532, 533, 534, 535, 536, 537, 538, 539, 550, 551, 552, 553, 554, 555, 556, 557, 558, 559] (by decide +kernel) (by decide +kernel)
set_option maxRecDepth 20000 in
theorem gL_law_X2_evictions : GoodIn wsL_law (wsV RL 141 RX2 yX2_evictions wsX2_evictions) := goodIn_app (goodIn_of _ (by decide +kernel)) ggL_law_X2_evictions
set_option maxRecDepth 20000 in
theorem ggL_law_X3_evictions : GoodIn wsL_law wsX3_evictions := goodIn_r _ [501, 42, 304, 305, 306, 5, 307, 197, 540, 541, 542, 543, 544, 545, 546, 547, 548, 549] (by decide +kernel) (by decide +kernel)
set_option maxRecDepth 20000 in
theorem gL_law_X3_evictions : GoodIn wsL_law (wsV RL 144 RX3 yX3_evictions wsX3_evictions) := goodIn_app (goodIn_of _ (by decide +kernel)) ggL_law_X3_evictions
set_option maxRecDepth 20000 in
theorem ggL_law_L_hitsIf : GoodIn wsL_law wsL_hitsIf := goodIn_ca (goodIn_r _ [504, 50, 505, 506, 507, 2, 508, 21, 16, 20, 282, 283, 284, 58, 59, 509, 510, 511, 15, 512, 31, 89, 90, 32, 113, 513, 264, 265, 266, 27, 28, 29, 30, 148, 128, 129, 130, 131, 122, 65, 66, 19, 67, 68, 267, 268, 269, 270, 64, 514, 74, 75, 76, 37, 85, 86, 87, 88, 91, 92, 93, 94, 95, 96, 97, 98, 99, 100, 101, 102, 103, 104, 105, 106, 107, 108, 109, 110, 111, 112, 114, 115, 116, 117, 118, 119, 120, 121, 123, 70, 71, 72, 73, 77, 78, 79, 80, 124, 125, 126, 127, 132, 133, 134, 135, 136, 137, 138, 139, 140, 141, 142, 143, 144, 145, 146, 147, 149, 82, 83, 84, 150, 151, 152, 153, 154, 155, 156, 157, 158, 159, 160, 161, 162, 163, 164, 165, 166, 167, 168, 169, 170, 171, 180, 532, 533, 534, 535, 536, 537, 538, 539, 550, 551, 552, 553, 554, 555, 556, 557, 558, 559, 560, 561] (by decide +kernel) (by decide +kernel)) (goodIn_sub (fun _ h => List.mem_append_left _ (List.mem_append_right _ h)) (by decide +kernel))
set_option maxRecDepth 20000 in
theorem gL_law_L_hitsIf : GoodIn wsL_law (va_wsS RL 145 yL_hitsIf wsL_hitsIf) := goodIn_app (goodIn_of _ (by decide +kernel)) ggL_law_L_hitsIf
set_option maxRecDepth 20000 in
theorem ggL_law_X3_hitsIf : GoodIn wsL_law wsX3_hitsIf := goodIn_r _ [518, 43, 42, 189, 44, 293, 294, 5, 295, 193, 194, 195, 196, 197, 198, 199, 200, 201, 202, 203, 204, 205, 206, 207, 208, 209, 210, 211, 212, 213, 214, 215, 216, 217, 218, 219, 220, 221, 222, 223, 224, 225, 226, 227, 228, 229, 230, 231, 232, 233, 234, 235, 236, 237, 238, 239, 540, 541, 542, 543, 544, 545, 546, 547, 548, 549] (by decide +kernel) (by decide +kernel)
set_option maxRecDepth 20000 in
theorem gL_law_X3_hitsIf : GoodIn wsL_law (wsV RL 147 RX3 yX3_hitsIf wsX3_hitsIf) := goodIn_app (goodIn_of _ (by decide +kernel)) ggL_law_X3_hitsIf
set_option maxRecDepth 20000 in
theorem ggL_law_L_leastRecentHitsIf : GoodIn wsL_law wsL_leastRecentHitsIf := goodIn_ca (goodIn_r _ [521, 50, 522, 523, 524, 2, 525, 22, 20, 282, 283, 284, 58, 59, 526, 268, 269, 19, 270, 68, 64, 65, 66, 67, 514, 74, 75, 76, 37, 527, 169, 170, 171, 103, 104, 105, 106, 77, 78, 79, 80, 69, 70, 71, 72, 73, 81, 82, 83, 84, 532, 533, 534, 535, 536, 537, 538, 539, 560, 561] (by decide +kernel) (by decide +kernel)) (goodIn_sub (fun _ h => List.mem_append_left _ (List.mem_append_right _ h)) (by decide +kernel))
set_option maxRecDepth 20000 in
theorem gL_law_L_leastRecentHitsIf : GoodIn wsL_law (va_wsS RL 148 yL_leastRecentHitsIf wsL_leastRecentHitsIf) := goodIn_app (goodIn_of _ (by decide +kernel)) ggL_law_L_leastRecentHitsIf
set_option maxRecDepth 20000 in
theorem ggL_law_X3_leastRecentHitsIf : GoodIn wsL_law wsX3_leastRecentHitsIf := goodIn_r _ [531, 189, 45, 44, 293, 294, 5, 295, 193, 194, 195, 196, 197, 540, 541, 542, 543, 544, 545, 546, 547, 548, 549] (by decide +kernel) (by decide +kernel)
set_option maxRecDepth 20000 in
theorem gL_law_X3_leastRecentHitsIf : GoodIn wsL_law (wsV RL 150 RX3 yX3_leastRecentHitsIf wsX3_leastRecentHitsIf) := goodIn_app (goodIn_of _ (by decide +kernel)) ggL_law_X3_leastRecentHitsIf
theorem dL_law_0 : decode cL_law 0 = .ok (.new 8, 3) := by decide +kernel
theorem dL_law_3 : decode cL_law 3 = .ok (.dup, 1) := by decide +kernel
theorem dL_law_4 : decode cL_law 4 = .ok (.invokespecial 47, 3) := by decide +kernel
theorem dL_law_7 : decode cL_law 7 = .ok (.astore_n 1, 1) := by decide +kernel
theorem dL_law_8 : decode cL_law 8 = .ok (.new 48, 3) := by decide +kernel
theorem dL_law_11 : decode cL_law 11 = .ok (.dup, 1) := by decide +kernel
theorem dL_law_12 : decode cL_law 12 = .ok (.invokespecial 50, 3) := by decide +kernel
theorem dL_law_15 : decode cL_law 15 = .ok (.astore_n 2, 1) := by decide +kernel
theorem dL_law_16 : decode cL_law 16 = .ok (.iconst 1, 1) := by decide +kernel
theorem dL_law_17 : decode cL_law 17 = .ok (.newarray .long, 2) := by decide +kernel
theorem dL_law_19 : decode cL_law 19 = .ok (.astore_n 3, 1) := by decide +kernel
theorem dL_law_20 : decode cL_law 20 = .ok (.iconst 0, 1) := by decide +kernel
theorem dL_law_21 : decode cL_law 21 = .ok (.istore 4, 2) := by decide +kernel
theorem dL_law_23 : decode cL_law 23 = .ok (.iload 4, 2) := by decide +kernel
theorem dL_law_25 : decode cL_law 25 = .ok (.aload_n 0, 1) := by decide +kernel
theorem dL_law_26 : decode cL_law 26 = .ok (.arraylength, 1) := by decide +kernel
theorem dL_law_27 : decode cL_law 27 = .ok (.iconst 2, 1) := by decide +kernel
theorem dL_law_28 : decode cL_law 28 = .ok (.isub, 1) := by decide +kernel
theorem dL_law_29 : decode cL_law 29 = .ok (.if_icmp .gt 944, 3) := by decide +kernel
theorem dL_law_32 : decode cL_law 32 = .ok (.aload_n 0, 1) := by decide +kernel
theorem dL_law_33 : decode cL_law 33 = .ok (.iload 4, 2) := by decide +kernel
theorem dL_law_35 : decode cL_law 35 = .ok (.iaload, 1) := by decide +kernel
theorem dL_law_36 : decode cL_law 36 = .ok (.bipush 31, 2) := by decide +kernel
theorem dL_law_38 : decode cL_law 38 = .ok (.iand, 1) := by decide +kernel
theorem dL_law_39 : decode cL_law 39 = .ok (.tableswitch 928 0 25 #[117, 173, 229, 242, 298, 311, 367, 380, 393, 406, 462, 475, 488, 501, 514, 527, 583, 639, 695, 751, 764, 777, 790, 803, 816, 872], 117) := by decide +kernel
theorem dL_law_156 : decode cL_law 156 = .ok (.aload_n 1, 1) := by decide +kernel
theorem dL_law_157 : decode cL_law 157 = .ok (.aload_n 0, 1) := by decide +kernel
theorem dL_law_158 : decode cL_law 158 = .ok (.iload 4, 2) := by decide +kernel
theorem dL_law_160 : decode cL_law 160 = .ok (.iconst 1, 1) := by decide +kernel
theorem dL_law_161 : decode cL_law 161 = .ok (.iadd, 1) := by decide +kernel
theorem dL_law_162 : decode cL_law 162 = .ok (.iaload, 1) := by decide +kernel
theorem dL_law_163 : decode cL_law 163 = .ok (.aload_n 3, 1) := by decide +kernel
theorem dL_law_164 : decode cL_law 164 = .ok (.invokestatic 51, 3) := by decide +kernel
theorem dL_law_167 : decode cL_law 167 = .ok (.istore 5, 2) := by decide +kernel
theorem dL_law_169 : decode cL_law 169 = .ok (.aload_n 2, 1) := by decide +kernel
theorem dL_law_170 : decode cL_law 170 = .ok (.aload_n 0, 1) := by decide +kernel
theorem dL_law_171 : decode cL_law 171 = .ok (.iload 4, 2) := by decide +kernel
theorem dL_law_173 : decode cL_law 173 = .ok (.iconst 1, 1) := by decide +kernel
theorem dL_law_174 : decode cL_law 174 = .ok (.iadd, 1) := by decide +kernel
theorem dL_law_175 : decode cL_law 175 = .ok (.iaload, 1) := by decide +kernel
theorem dL_law_176 : decode cL_law 176 = .ok (.invokevirtual 56, 3) := by decide +kernel
theorem dL_law_179 : decode cL_law 179 = .ok (.istore 6, 2) := by decide +kernel
theorem dL_law_181 : decode cL_law 181 = .ok (.aload_n 2, 1) := by decide +kernel
theorem dL_law_182 : decode cL_law 182 = .ok (.invokevirtual 57, 3) := by decide +kernel
theorem dL_law_185 : decode cL_law 185 = .ok (.iload 5, 2) := by decide +kernel
theorem dL_law_187 : decode cL_law 187 = .ok (.if_icmp .eq 5, 3) := by decide +kernel
theorem dL_law_190 : decode cL_law 190 = .ok (.iconst 0, 1) := by decide +kernel
theorem dL_law_191 : decode cL_law 191 = .ok (.ireturn, 1) := by decide +kernel
theorem dL_law_192 : decode cL_law 192 = .ok (.iload 5, 2) := by decide +kernel
theorem dL_law_194 : decode cL_law 194 = .ok (.ifCond .ne 15, 3) := by decide +kernel
theorem dL_law_197 : decode cL_law 197 = .ok (.aload_n 3, 1) := by decide +kernel
theorem dL_law_198 : decode cL_law 198 = .ok (.iconst 0, 1) := by decide +kernel
theorem dL_law_199 : decode cL_law 199 = .ok (.laload, 1) := by decide +kernel
theorem dL_law_200 : decode cL_law 200 = .ok (.iload 6, 2) := by decide +kernel
theorem dL_law_202 : decode cL_law 202 = .ok (.i2l, 1) := by decide +kernel
theorem dL_law_203 : decode cL_law 203 = .ok (.lcmp, 1) := by decide +kernel
theorem dL_law_204 : decode cL_law 204 = .ok (.ifCond .eq 5, 3) := by decide +kernel
theorem dL_law_207 : decode cL_law 207 = .ok (.iconst 0, 1) := by decide +kernel
theorem dL_law_208 : decode cL_law 208 = .ok (.ireturn, 1) := by decide +kernel
theorem dL_law_209 : decode cL_law 209 = .ok (.goto 758, 3) := by decide +kernel
theorem dL_law_212 : decode cL_law 212 = .ok (.aload_n 1, 1) := by decide +kernel
theorem dL_law_213 : decode cL_law 213 = .ok (.aload_n 0, 1) := by decide +kernel
theorem dL_law_214 : decode cL_law 214 = .ok (.iload 4, 2) := by decide +kernel
theorem dL_law_216 : decode cL_law 216 = .ok (.iconst 1, 1) := by decide +kernel
theorem dL_law_217 : decode cL_law 217 = .ok (.iadd, 1) := by decide +kernel
theorem dL_law_218 : decode cL_law 218 = .ok (.iaload, 1) := by decide +kernel
theorem dL_law_219 : decode cL_law 219 = .ok (.aload_n 3, 1) := by decide +kernel
theorem dL_law_220 : decode cL_law 220 = .ok (.invokestatic 61, 3) := by decide +kernel
theorem dL_law_223 : decode cL_law 223 = .ok (.istore 5, 2) := by decide +kernel
theorem dL_law_225 : decode cL_law 225 = .ok (.aload_n 2, 1) := by decide +kernel
theorem dL_law_226 : decode cL_law 226 = .ok (.aload_n 0, 1) := by decide +kernel
theorem dL_law_227 : decode cL_law 227 = .ok (.iload 4, 2) := by decide +kernel
theorem dL_law_229 : decode cL_law 229 = .ok (.iconst 1, 1) := by decide +kernel
theorem dL_law_230 : decode cL_law 230 = .ok (.iadd, 1) := by decide +kernel
theorem dL_law_231 : decode cL_law 231 = .ok (.iaload, 1) := by decide +kernel
theorem dL_law_232 : decode cL_law 232 = .ok (.invokevirtual 63, 3) := by decide +kernel
theorem dL_law_235 : decode cL_law 235 = .ok (.istore 6, 2) := by decide +kernel
theorem dL_law_237 : decode cL_law 237 = .ok (.aload_n 2, 1) := by decide +kernel
theorem dL_law_238 : decode cL_law 238 = .ok (.invokevirtual 57, 3) := by decide +kernel
theorem dL_law_241 : decode cL_law 241 = .ok (.iload 5, 2) := by decide +kernel
theorem dL_law_243 : decode cL_law 243 = .ok (.if_icmp .eq 5, 3) := by decide +kernel
theorem dL_law_246 : decode cL_law 246 = .ok (.iconst 0, 1) := by decide +kernel
theorem dL_law_247 : decode cL_law 247 = .ok (.ireturn, 1) := by decide +kernel
theorem dL_law_248 : decode cL_law 248 = .ok (.iload 5, 2) := by decide +kernel
theorem dL_law_250 : decode cL_law 250 = .ok (.ifCond .ne 15, 3) := by decide +kernel
theorem dL_law_253 : decode cL_law 253 = .ok (.aload_n 3, 1) := by decide +kernel
theorem dL_law_254 : decode cL_law 254 = .ok (.iconst 0, 1) := by decide +kernel
theorem dL_law_255 : decode cL_law 255 = .ok (.laload, 1) := by decide +kernel
theorem dL_law_256 : decode cL_law 256 = .ok (.iload 6, 2) := by decide +kernel
theorem dL_law_258 : decode cL_law 258 = .ok (.i2l, 1) := by decide +kernel
theorem dL_law_259 : decode cL_law 259 = .ok (.lcmp, 1) := by decide +kernel
theorem dL_law_260 : decode cL_law 260 = .ok (.ifCond .eq 5, 3) := by decide +kernel
theorem dL_law_263 : decode cL_law 263 = .ok (.iconst 0, 1) := by decide +kernel
theorem dL_law_264 : decode cL_law 264 = .ok (.ireturn, 1) := by decide +kernel
theorem dL_law_265 : decode cL_law 265 = .ok (.goto 702, 3) := by decide +kernel
theorem dL_law_268 : decode cL_law 268 = .ok (.aload_n 1, 1) := by decide +kernel
theorem dL_law_269 : decode cL_law 269 = .ok (.invokevirtual 64, 3) := by decide +kernel
theorem dL_law_272 : decode cL_law 272 = .ok (.aload_n 2, 1) := by decide +kernel
theorem dL_law_273 : decode cL_law 273 = .ok (.invokevirtual 67, 3) := by decide +kernel
theorem dL_law_276 : decode cL_law 276 = .ok (.if_icmp .eq 691, 3) := by decide +kernel
theorem dL_law_279 : decode cL_law 279 = .ok (.iconst 0, 1) := by decide +kernel
theorem dL_law_280 : decode cL_law 280 = .ok (.ireturn, 1) := by decide +kernel
theorem dL_law_281 : decode cL_law 281 = .ok (.aload_n 1, 1) := by decide +kernel
theorem dL_law_282 : decode cL_law 282 = .ok (.aload_n 0, 1) := by decide +kernel
theorem dL_law_283 : decode cL_law 283 = .ok (.iload 4, 2) := by decide +kernel
theorem dL_law_285 : decode cL_law 285 = .ok (.iconst 1, 1) := by decide +kernel
theorem dL_law_286 : decode cL_law 286 = .ok (.iadd, 1) := by decide +kernel
theorem dL_law_287 : decode cL_law 287 = .ok (.iaload, 1) := by decide +kernel
theorem dL_law_288 : decode cL_law 288 = .ok (.aload_n 3, 1) := by decide +kernel
theorem dL_law_289 : decode cL_law 289 = .ok (.invokestatic 68, 3) := by decide +kernel
theorem dL_law_292 : decode cL_law 292 = .ok (.istore 5, 2) := by decide +kernel
theorem dL_law_294 : decode cL_law 294 = .ok (.aload_n 2, 1) := by decide +kernel
theorem dL_law_295 : decode cL_law 295 = .ok (.aload_n 0, 1) := by decide +kernel
theorem dL_law_296 : decode cL_law 296 = .ok (.iload 4, 2) := by decide +kernel
theorem dL_law_298 : decode cL_law 298 = .ok (.iconst 1, 1) := by decide +kernel
theorem dL_law_299 : decode cL_law 299 = .ok (.iadd, 1) := by decide +kernel
theorem dL_law_300 : decode cL_law 300 = .ok (.iaload, 1) := by decide +kernel
theorem dL_law_301 : decode cL_law 301 = .ok (.invokevirtual 70, 3) := by decide +kernel
theorem dL_law_304 : decode cL_law 304 = .ok (.istore 6, 2) := by decide +kernel
theorem dL_law_306 : decode cL_law 306 = .ok (.aload_n 2, 1) := by decide +kernel
theorem dL_law_307 : decode cL_law 307 = .ok (.invokevirtual 57, 3) := by decide +kernel
theorem dL_law_310 : decode cL_law 310 = .ok (.iload 5, 2) := by decide +kernel
theorem dL_law_312 : decode cL_law 312 = .ok (.if_icmp .eq 5, 3) := by decide +kernel
theorem dL_law_315 : decode cL_law 315 = .ok (.iconst 0, 1) := by decide +kernel
theorem dL_law_316 : decode cL_law 316 = .ok (.ireturn, 1) := by decide +kernel
theorem dL_law_317 : decode cL_law 317 = .ok (.iload 5, 2) := by decide +kernel
theorem dL_law_319 : decode cL_law 319 = .ok (.ifCond .ne 15, 3) := by decide +kernel
theorem dL_law_322 : decode cL_law 322 = .ok (.aload_n 3, 1) := by decide +kernel
theorem dL_law_323 : decode cL_law 323 = .ok (.iconst 0, 1) := by decide +kernel
theorem dL_law_324 : decode cL_law 324 = .ok (.laload, 1) := by decide +kernel
theorem dL_law_325 : decode cL_law 325 = .ok (.iload 6, 2) := by decide +kernel
theorem dL_law_327 : decode cL_law 327 = .ok (.i2l, 1) := by decide +kernel
theorem dL_law_328 : decode cL_law 328 = .ok (.lcmp, 1) := by decide +kernel
theorem dL_law_329 : decode cL_law 329 = .ok (.ifCond .eq 5, 3) := by decide +kernel
theorem dL_law_332 : decode cL_law 332 = .ok (.iconst 0, 1) := by decide +kernel
theorem dL_law_333 : decode cL_law 333 = .ok (.ireturn, 1) := by decide +kernel
theorem dL_law_334 : decode cL_law 334 = .ok (.goto 633, 3) := by decide +kernel
theorem dL_law_337 : decode cL_law 337 = .ok (.aload_n 1, 1) := by decide +kernel
theorem dL_law_338 : decode cL_law 338 = .ok (.invokevirtual 71, 3) := by decide +kernel
theorem dL_law_341 : decode cL_law 341 = .ok (.aload_n 2, 1) := by decide +kernel
theorem dL_law_342 : decode cL_law 342 = .ok (.invokevirtual 74, 3) := by decide +kernel
theorem dL_law_345 : decode cL_law 345 = .ok (.if_icmp .eq 622, 3) := by decide +kernel
theorem dL_law_348 : decode cL_law 348 = .ok (.iconst 0, 1) := by decide +kernel
theorem dL_law_349 : decode cL_law 349 = .ok (.ireturn, 1) := by decide +kernel
theorem dL_law_350 : decode cL_law 350 = .ok (.aload_n 1, 1) := by decide +kernel
theorem dL_law_351 : decode cL_law 351 = .ok (.aload_n 0, 1) := by decide +kernel
theorem dL_law_352 : decode cL_law 352 = .ok (.iload 4, 2) := by decide +kernel
theorem dL_law_354 : decode cL_law 354 = .ok (.iconst 1, 1) := by decide +kernel
theorem dL_law_355 : decode cL_law 355 = .ok (.iadd, 1) := by decide +kernel
theorem dL_law_356 : decode cL_law 356 = .ok (.iaload, 1) := by decide +kernel
theorem dL_law_357 : decode cL_law 357 = .ok (.aload_n 3, 1) := by decide +kernel
theorem dL_law_358 : decode cL_law 358 = .ok (.invokestatic 75, 3) := by decide +kernel
theorem dL_law_361 : decode cL_law 361 = .ok (.istore 5, 2) := by decide +kernel
theorem dL_law_363 : decode cL_law 363 = .ok (.aload_n 2, 1) := by decide +kernel
theorem dL_law_364 : decode cL_law 364 = .ok (.aload_n 0, 1) := by decide +kernel
theorem dL_law_365 : decode cL_law 365 = .ok (.iload 4, 2) := by decide +kernel
theorem dL_law_367 : decode cL_law 367 = .ok (.iconst 1, 1) := by decide +kernel
theorem dL_law_368 : decode cL_law 368 = .ok (.iadd, 1) := by decide +kernel
theorem dL_law_369 : decode cL_law 369 = .ok (.iaload, 1) := by decide +kernel
theorem dL_law_370 : decode cL_law 370 = .ok (.invokevirtual 77, 3) := by decide +kernel
theorem dL_law_373 : decode cL_law 373 = .ok (.istore 6, 2) := by decide +kernel
theorem dL_law_375 : decode cL_law 375 = .ok (.aload_n 2, 1) := by decide +kernel
theorem dL_law_376 : decode cL_law 376 = .ok (.invokevirtual 57, 3) := by decide +kernel
theorem dL_law_379 : decode cL_law 379 = .ok (.iload 5, 2) := by decide +kernel
theorem dL_law_381 : decode cL_law 381 = .ok (.if_icmp .eq 5, 3) := by decide +kernel
theorem dL_law_384 : decode cL_law 384 = .ok (.iconst 0, 1) := by decide +kernel
theorem dL_law_385 : decode cL_law 385 = .ok (.ireturn, 1) := by decide +kernel
theorem dL_law_386 : decode cL_law 386 = .ok (.iload 5, 2) := by decide +kernel
theorem dL_law_388 : decode cL_law 388 = .ok (.ifCond .ne 15, 3) := by decide +kernel
theorem dL_law_391 : decode cL_law 391 = .ok (.aload_n 3, 1) := by decide +kernel
theorem dL_law_392 : decode cL_law 392 = .ok (.iconst 0, 1) := by decide +kernel
theorem dL_law_393 : decode cL_law 393 = .ok (.laload, 1) := by decide +kernel
theorem dL_law_394 : decode cL_law 394 = .ok (.iload 6, 2) := by decide +kernel
theorem dL_law_396 : decode cL_law 396 = .ok (.i2l, 1) := by decide +kernel
theorem dL_law_397 : decode cL_law 397 = .ok (.lcmp, 1) := by decide +kernel
theorem dL_law_398 : decode cL_law 398 = .ok (.ifCond .eq 5, 3) := by decide +kernel
theorem dL_law_401 : decode cL_law 401 = .ok (.iconst 0, 1) := by decide +kernel
theorem dL_law_402 : decode cL_law 402 = .ok (.ireturn, 1) := by decide +kernel
theorem dL_law_403 : decode cL_law 403 = .ok (.goto 564, 3) := by decide +kernel
theorem dL_law_406 : decode cL_law 406 = .ok (.aload_n 1, 1) := by decide +kernel
theorem dL_law_407 : decode cL_law 407 = .ok (.invokevirtual 78, 3) := by decide +kernel
theorem dL_law_410 : decode cL_law 410 = .ok (.aload_n 2, 1) := by decide +kernel
theorem dL_law_411 : decode cL_law 411 = .ok (.invokevirtual 81, 3) := by decide +kernel
theorem dL_law_414 : decode cL_law 414 = .ok (.if_icmp .eq 553, 3) := by decide +kernel
theorem dL_law_417 : decode cL_law 417 = .ok (.iconst 0, 1) := by decide +kernel
theorem dL_law_418 : decode cL_law 418 = .ok (.ireturn, 1) := by decide +kernel
theorem dL_law_419 : decode cL_law 419 = .ok (.aload_n 1, 1) := by decide +kernel
theorem dL_law_420 : decode cL_law 420 = .ok (.invokevirtual 82, 3) := by decide +kernel
theorem dL_law_423 : decode cL_law 423 = .ok (.aload_n 2, 1) := by decide +kernel
theorem dL_law_424 : decode cL_law 424 = .ok (.invokevirtual 85, 3) := by decide +kernel
theorem dL_law_427 : decode cL_law 427 = .ok (.if_icmp .eq 540, 3) := by decide +kernel
theorem dL_law_430 : decode cL_law 430 = .ok (.iconst 0, 1) := by decide +kernel
theorem dL_law_431 : decode cL_law 431 = .ok (.ireturn, 1) := by decide +kernel
theorem dL_law_432 : decode cL_law 432 = .ok (.aload_n 1, 1) := by decide +kernel
theorem dL_law_433 : decode cL_law 433 = .ok (.invokevirtual 86, 3) := by decide +kernel
theorem dL_law_436 : decode cL_law 436 = .ok (.aload_n 2, 1) := by decide +kernel
theorem dL_law_437 : decode cL_law 437 = .ok (.invokevirtual 89, 3) := by decide +kernel
theorem dL_law_440 : decode cL_law 440 = .ok (.if_icmp .eq 527, 3) := by decide +kernel
theorem dL_law_443 : decode cL_law 443 = .ok (.iconst 0, 1) := by decide +kernel
theorem dL_law_444 : decode cL_law 444 = .ok (.ireturn, 1) := by decide +kernel
theorem dL_law_445 : decode cL_law 445 = .ok (.aload_n 1, 1) := by decide +kernel
theorem dL_law_446 : decode cL_law 446 = .ok (.aload_n 0, 1) := by decide +kernel
theorem dL_law_447 : decode cL_law 447 = .ok (.iload 4, 2) := by decide +kernel
theorem dL_law_449 : decode cL_law 449 = .ok (.iconst 1, 1) := by decide +kernel
theorem dL_law_450 : decode cL_law 450 = .ok (.iadd, 1) := by decide +kernel
theorem dL_law_451 : decode cL_law 451 = .ok (.iaload, 1) := by decide +kernel
theorem dL_law_452 : decode cL_law 452 = .ok (.aload_n 3, 1) := by decide +kernel
theorem dL_law_453 : decode cL_law 453 = .ok (.invokestatic 90, 3) := by decide +kernel
theorem dL_law_456 : decode cL_law 456 = .ok (.istore 5, 2) := by decide +kernel
theorem dL_law_458 : decode cL_law 458 = .ok (.aload_n 2, 1) := by decide +kernel
theorem dL_law_459 : decode cL_law 459 = .ok (.aload_n 0, 1) := by decide +kernel
theorem dL_law_460 : decode cL_law 460 = .ok (.iload 4, 2) := by decide +kernel
theorem dL_law_462 : decode cL_law 462 = .ok (.iconst 1, 1) := by decide +kernel
theorem dL_law_463 : decode cL_law 463 = .ok (.iadd, 1) := by decide +kernel
theorem dL_law_464 : decode cL_law 464 = .ok (.iaload, 1) := by decide +kernel
theorem dL_law_465 : decode cL_law 465 = .ok (.invokevirtual 92, 3) := by decide +kernel
theorem dL_law_468 : decode cL_law 468 = .ok (.istore 6, 2) := by decide +kernel
theorem dL_law_470 : decode cL_law 470 = .ok (.aload_n 2, 1) := by decide +kernel
theorem dL_law_471 : decode cL_law 471 = .ok (.invokevirtual 57, 3) := by decide +kernel
theorem dL_law_474 : decode cL_law 474 = .ok (.iload 5, 2) := by decide +kernel
theorem dL_law_476 : decode cL_law 476 = .ok (.if_icmp .eq 5, 3) := by decide +kernel
theorem dL_law_479 : decode cL_law 479 = .ok (.iconst 0, 1) := by decide +kernel
theorem dL_law_480 : decode cL_law 480 = .ok (.ireturn, 1) := by decide +kernel
theorem dL_law_481 : decode cL_law 481 = .ok (.iload 5, 2) := by decide +kernel
theorem dL_law_483 : decode cL_law 483 = .ok (.ifCond .ne 15, 3) := by decide +kernel
theorem dL_law_486 : decode cL_law 486 = .ok (.aload_n 3, 1) := by decide +kernel
theorem dL_law_487 : decode cL_law 487 = .ok (.iconst 0, 1) := by decide +kernel
theorem dL_law_488 : decode cL_law 488 = .ok (.laload, 1) := by decide +kernel
theorem dL_law_489 : decode cL_law 489 = .ok (.iload 6, 2) := by decide +kernel
theorem dL_law_491 : decode cL_law 491 = .ok (.i2l, 1) := by decide +kernel
theorem dL_law_492 : decode cL_law 492 = .ok (.lcmp, 1) := by decide +kernel
theorem dL_law_493 : decode cL_law 493 = .ok (.ifCond .eq 5, 3) := by decide +kernel
theorem dL_law_496 : decode cL_law 496 = .ok (.iconst 0, 1) := by decide +kernel
theorem dL_law_497 : decode cL_law 497 = .ok (.ireturn, 1) := by decide +kernel
theorem dL_law_498 : decode cL_law 498 = .ok (.goto 469, 3) := by decide +kernel
theorem dL_law_501 : decode cL_law 501 = .ok (.aload_n 1, 1) := by decide +kernel
theorem dL_law_502 : decode cL_law 502 = .ok (.invokevirtual 93, 3) := by decide +kernel
theorem dL_law_505 : decode cL_law 505 = .ok (.aload_n 2, 1) := by decide +kernel
theorem dL_law_506 : decode cL_law 506 = .ok (.invokevirtual 96, 3) := by decide +kernel
theorem dL_law_509 : decode cL_law 509 = .ok (.if_icmp .eq 458, 3) := by decide +kernel
theorem dL_law_512 : decode cL_law 512 = .ok (.iconst 0, 1) := by decide +kernel
theorem dL_law_513 : decode cL_law 513 = .ok (.ireturn, 1) := by decide +kernel
theorem dL_law_514 : decode cL_law 514 = .ok (.aload_n 1, 1) := by decide +kernel
theorem dL_law_515 : decode cL_law 515 = .ok (.invokevirtual 97, 3) := by decide +kernel
theorem dL_law_518 : decode cL_law 518 = .ok (.aload_n 2, 1) := by decide +kernel
theorem dL_law_519 : decode cL_law 519 = .ok (.invokevirtual 100, 3) := by decide +kernel
theorem dL_law_522 : decode cL_law 522 = .ok (.if_icmp .eq 445, 3) := by decide +kernel
theorem dL_law_525 : decode cL_law 525 = .ok (.iconst 0, 1) := by decide +kernel
theorem dL_law_526 : decode cL_law 526 = .ok (.ireturn, 1) := by decide +kernel
theorem dL_law_527 : decode cL_law 527 = .ok (.aload_n 1, 1) := by decide +kernel
theorem dL_law_528 : decode cL_law 528 = .ok (.invokevirtual 101, 3) := by decide +kernel
theorem dL_law_531 : decode cL_law 531 = .ok (.aload_n 2, 1) := by decide +kernel
theorem dL_law_532 : decode cL_law 532 = .ok (.invokevirtual 104, 3) := by decide +kernel
theorem dL_law_535 : decode cL_law 535 = .ok (.if_icmp .eq 432, 3) := by decide +kernel
theorem dL_law_538 : decode cL_law 538 = .ok (.iconst 0, 1) := by decide +kernel
theorem dL_law_539 : decode cL_law 539 = .ok (.ireturn, 1) := by decide +kernel
theorem dL_law_540 : decode cL_law 540 = .ok (.aload_n 1, 1) := by decide +kernel
theorem dL_law_541 : decode cL_law 541 = .ok (.invokevirtual 105, 3) := by decide +kernel
theorem dL_law_544 : decode cL_law 544 = .ok (.aload_n 2, 1) := by decide +kernel
theorem dL_law_545 : decode cL_law 545 = .ok (.invokevirtual 108, 3) := by decide +kernel
theorem dL_law_548 : decode cL_law 548 = .ok (.if_icmp .eq 419, 3) := by decide +kernel
theorem dL_law_551 : decode cL_law 551 = .ok (.iconst 0, 1) := by decide +kernel
theorem dL_law_552 : decode cL_law 552 = .ok (.ireturn, 1) := by decide +kernel
theorem dL_law_553 : decode cL_law 553 = .ok (.aload_n 1, 1) := by decide +kernel
theorem dL_law_554 : decode cL_law 554 = .ok (.invokevirtual 109, 3) := by decide +kernel
theorem dL_law_557 : decode cL_law 557 = .ok (.aload_n 2, 1) := by decide +kernel
theorem dL_law_558 : decode cL_law 558 = .ok (.invokevirtual 112, 3) := by decide +kernel
theorem dL_law_561 : decode cL_law 561 = .ok (.if_icmp .eq 406, 3) := by decide +kernel
theorem dL_law_564 : decode cL_law 564 = .ok (.iconst 0, 1) := by decide +kernel
theorem dL_law_565 : decode cL_law 565 = .ok (.ireturn, 1) := by decide +kernel
theorem dL_law_566 : decode cL_law 566 = .ok (.aload_n 1, 1) := by decide +kernel
theorem dL_law_567 : decode cL_law 567 = .ok (.aload_n 0, 1) := by decide +kernel
theorem dL_law_568 : decode cL_law 568 = .ok (.iload 4, 2) := by decide +kernel
theorem dL_law_570 : decode cL_law 570 = .ok (.iconst 1, 1) := by decide +kernel
theorem dL_law_571 : decode cL_law 571 = .ok (.iadd, 1) := by decide +kernel
theorem dL_law_572 : decode cL_law 572 = .ok (.iaload, 1) := by decide +kernel
theorem dL_law_573 : decode cL_law 573 = .ok (.aload_n 3, 1) := by decide +kernel
theorem dL_law_574 : decode cL_law 574 = .ok (.invokestatic 113, 3) := by decide +kernel
theorem dL_law_577 : decode cL_law 577 = .ok (.istore 5, 2) := by decide +kernel
theorem dL_law_579 : decode cL_law 579 = .ok (.aload_n 2, 1) := by decide +kernel
theorem dL_law_580 : decode cL_law 580 = .ok (.aload_n 0, 1) := by decide +kernel
theorem dL_law_581 : decode cL_law 581 = .ok (.iload 4, 2) := by decide +kernel
theorem dL_law_583 : decode cL_law 583 = .ok (.iconst 1, 1) := by decide +kernel
theorem dL_law_584 : decode cL_law 584 = .ok (.iadd, 1) := by decide +kernel
theorem dL_law_585 : decode cL_law 585 = .ok (.iaload, 1) := by decide +kernel
theorem dL_law_586 : decode cL_law 586 = .ok (.invokevirtual 115, 3) := by decide +kernel
theorem dL_law_589 : decode cL_law 589 = .ok (.istore 6, 2) := by decide +kernel
theorem dL_law_591 : decode cL_law 591 = .ok (.aload_n 2, 1) := by decide +kernel
theorem dL_law_592 : decode cL_law 592 = .ok (.invokevirtual 57, 3) := by decide +kernel
theorem dL_law_595 : decode cL_law 595 = .ok (.iload 5, 2) := by decide +kernel
theorem dL_law_597 : decode cL_law 597 = .ok (.if_icmp .eq 5, 3) := by decide +kernel
theorem dL_law_600 : decode cL_law 600 = .ok (.iconst 0, 1) := by decide +kernel
theorem dL_law_601 : decode cL_law 601 = .ok (.ireturn, 1) := by decide +kernel
theorem dL_law_602 : decode cL_law 602 = .ok (.iload 5, 2) := by decide +kernel
theorem dL_law_604 : decode cL_law 604 = .ok (.ifCond .ne 15, 3) := by decide +kernel
theorem dL_law_607 : decode cL_law 607 = .ok (.aload_n 3, 1) := by decide +kernel
theorem dL_law_608 : decode cL_law 608 = .ok (.iconst 0, 1) := by decide +kernel
theorem dL_law_609 : decode cL_law 609 = .ok (.laload, 1) := by decide +kernel
theorem dL_law_610 : decode cL_law 610 = .ok (.iload 6, 2) := by decide +kernel
theorem dL_law_612 : decode cL_law 612 = .ok (.i2l, 1) := by decide +kernel
theorem dL_law_613 : decode cL_law 613 = .ok (.lcmp, 1) := by decide +kernel
theorem dL_law_614 : decode cL_law 614 = .ok (.ifCond .eq 5, 3) := by decide +kernel
theorem dL_law_617 : decode cL_law 617 = .ok (.iconst 0, 1) := by decide +kernel
theorem dL_law_618 : decode cL_law 618 = .ok (.ireturn, 1) := by decide +kernel
theorem dL_law_619 : decode cL_law 619 = .ok (.goto 348, 3) := by decide +kernel
theorem dL_law_622 : decode cL_law 622 = .ok (.aload_n 1, 1) := by decide +kernel
theorem dL_law_623 : decode cL_law 623 = .ok (.aload_n 0, 1) := by decide +kernel
theorem dL_law_624 : decode cL_law 624 = .ok (.iload 4, 2) := by decide +kernel
theorem dL_law_626 : decode cL_law 626 = .ok (.iconst 1, 1) := by decide +kernel
theorem dL_law_627 : decode cL_law 627 = .ok (.iadd, 1) := by decide +kernel
theorem dL_law_628 : decode cL_law 628 = .ok (.iaload, 1) := by decide +kernel
theorem dL_law_629 : decode cL_law 629 = .ok (.aload_n 3, 1) := by decide +kernel
theorem dL_law_630 : decode cL_law 630 = .ok (.invokestatic 116, 3) := by decide +kernel
theorem dL_law_633 : decode cL_law 633 = .ok (.istore 5, 2) := by decide +kernel
theorem dL_law_635 : decode cL_law 635 = .ok (.aload_n 2, 1) := by decide +kernel
theorem dL_law_636 : decode cL_law 636 = .ok (.aload_n 0, 1) := by decide +kernel
theorem dL_law_637 : decode cL_law 637 = .ok (.iload 4, 2) := by decide +kernel
theorem dL_law_639 : decode cL_law 639 = .ok (.iconst 1, 1) := by decide +kernel
theorem dL_law_640 : decode cL_law 640 = .ok (.iadd, 1) := by decide +kernel
theorem dL_law_641 : decode cL_law 641 = .ok (.iaload, 1) := by decide +kernel
theorem dL_law_642 : decode cL_law 642 = .ok (.invokevirtual 118, 3) := by decide +kernel
theorem dL_law_645 : decode cL_law 645 = .ok (.istore 6, 2) := by decide +kernel
theorem dL_law_647 : decode cL_law 647 = .ok (.aload_n 2, 1) := by decide +kernel
theorem dL_law_648 : decode cL_law 648 = .ok (.invokevirtual 57, 3) := by decide +kernel
theorem dL_law_651 : decode cL_law 651 = .ok (.iload 5, 2) := by decide +kernel
theorem dL_law_653 : decode cL_law 653 = .ok (.if_icmp .eq 5, 3) := by decide +kernel
theorem dL_law_656 : decode cL_law 656 = .ok (.iconst 0, 1) := by decide +kernel
theorem dL_law_657 : decode cL_law 657 = .ok (.ireturn, 1) := by decide +kernel
theorem dL_law_658 : decode cL_law 658 = .ok (.iload 5, 2) := by decide +kernel
theorem dL_law_660 : decode cL_law 660 = .ok (.ifCond .ne 15, 3) := by decide +kernel
theorem dL_law_663 : decode cL_law 663 = .ok (.aload_n 3, 1) := by decide +kernel
theorem dL_law_664 : decode cL_law 664 = .ok (.iconst 0, 1) := by decide +kernel
theorem dL_law_665 : decode cL_law 665 = .ok (.laload, 1) := by decide +kernel
theorem dL_law_666 : decode cL_law 666 = .ok (.iload 6, 2) := by decide +kernel
theorem dL_law_668 : decode cL_law 668 = .ok (.i2l, 1) := by decide +kernel
theorem dL_law_669 : decode cL_law 669 = .ok (.lcmp, 1) := by decide +kernel
theorem dL_law_670 : decode cL_law 670 = .ok (.ifCond .eq 5, 3) := by decide +kernel
theorem dL_law_673 : decode cL_law 673 = .ok (.iconst 0, 1) := by decide +kernel
theorem dL_law_674 : decode cL_law 674 = .ok (.ireturn, 1) := by decide +kernel
theorem dL_law_675 : decode cL_law 675 = .ok (.goto 292, 3) := by decide +kernel
theorem dL_law_678 : decode cL_law 678 = .ok (.aload_n 1, 1) := by decide +kernel
theorem dL_law_679 : decode cL_law 679 = .ok (.aload_n 0, 1) := by decide +kernel
theorem dL_law_680 : decode cL_law 680 = .ok (.iload 4, 2) := by decide +kernel
theorem dL_law_682 : decode cL_law 682 = .ok (.iconst 1, 1) := by decide +kernel
theorem dL_law_683 : decode cL_law 683 = .ok (.iadd, 1) := by decide +kernel
theorem dL_law_684 : decode cL_law 684 = .ok (.iaload, 1) := by decide +kernel
theorem dL_law_685 : decode cL_law 685 = .ok (.aload_n 3, 1) := by decide +kernel
theorem dL_law_686 : decode cL_law 686 = .ok (.invokestatic 119, 3) := by decide +kernel
theorem dL_law_689 : decode cL_law 689 = .ok (.istore 5, 2) := by decide +kernel
theorem dL_law_691 : decode cL_law 691 = .ok (.aload_n 2, 1) := by decide +kernel
theorem dL_law_692 : decode cL_law 692 = .ok (.aload_n 0, 1) := by decide +kernel
theorem dL_law_693 : decode cL_law 693 = .ok (.iload 4, 2) := by decide +kernel
theorem dL_law_695 : decode cL_law 695 = .ok (.iconst 1, 1) := by decide +kernel
theorem dL_law_696 : decode cL_law 696 = .ok (.iadd, 1) := by decide +kernel
theorem dL_law_697 : decode cL_law 697 = .ok (.iaload, 1) := by decide +kernel
theorem dL_law_698 : decode cL_law 698 = .ok (.invokevirtual 121, 3) := by decide +kernel
theorem dL_law_701 : decode cL_law 701 = .ok (.istore 6, 2) := by decide +kernel
theorem dL_law_703 : decode cL_law 703 = .ok (.aload_n 2, 1) := by decide +kernel
theorem dL_law_704 : decode cL_law 704 = .ok (.invokevirtual 57, 3) := by decide +kernel
theorem dL_law_707 : decode cL_law 707 = .ok (.iload 5, 2) := by decide +kernel
theorem dL_law_709 : decode cL_law 709 = .ok (.if_icmp .eq 5, 3) := by decide +kernel
theorem dL_law_712 : decode cL_law 712 = .ok (.iconst 0, 1) := by decide +kernel
theorem dL_law_713 : decode cL_law 713 = .ok (.ireturn, 1) := by decide +kernel
theorem dL_law_714 : decode cL_law 714 = .ok (.iload 5, 2) := by decide +kernel
theorem dL_law_716 : decode cL_law 716 = .ok (.ifCond .ne 15, 3) := by decide +kernel
theorem dL_law_719 : decode cL_law 719 = .ok (.aload_n 3, 1) := by decide +kernel
theorem dL_law_720 : decode cL_law 720 = .ok (.iconst 0, 1) := by decide +kernel
theorem dL_law_721 : decode cL_law 721 = .ok (.laload, 1) := by decide +kernel
theorem dL_law_722 : decode cL_law 722 = .ok (.iload 6, 2) := by decide +kernel
theorem dL_law_724 : decode cL_law 724 = .ok (.i2l, 1) := by decide +kernel
theorem dL_law_725 : decode cL_law 725 = .ok (.lcmp, 1) := by decide +kernel
theorem dL_law_726 : decode cL_law 726 = .ok (.ifCond .eq 5, 3) := by decide +kernel
theorem dL_law_729 : decode cL_law 729 = .ok (.iconst 0, 1) := by decide +kernel
theorem dL_law_730 : decode cL_law 730 = .ok (.ireturn, 1) := by decide +kernel
theorem dL_law_731 : decode cL_law 731 = .ok (.goto 236, 3) := by decide +kernel
theorem dL_law_734 : decode cL_law 734 = .ok (.aload_n 1, 1) := by decide +kernel
theorem dL_law_735 : decode cL_law 735 = .ok (.aload_n 0, 1) := by decide +kernel
theorem dL_law_736 : decode cL_law 736 = .ok (.iload 4, 2) := by decide +kernel
theorem dL_law_738 : decode cL_law 738 = .ok (.iconst 1, 1) := by decide +kernel
theorem dL_law_739 : decode cL_law 739 = .ok (.iadd, 1) := by decide +kernel
theorem dL_law_740 : decode cL_law 740 = .ok (.iaload, 1) := by decide +kernel
theorem dL_law_741 : decode cL_law 741 = .ok (.aload_n 3, 1) := by decide +kernel
theorem dL_law_742 : decode cL_law 742 = .ok (.invokestatic 122, 3) := by decide +kernel
theorem dL_law_745 : decode cL_law 745 = .ok (.istore 5, 2) := by decide +kernel
theorem dL_law_747 : decode cL_law 747 = .ok (.aload_n 2, 1) := by decide +kernel
theorem dL_law_748 : decode cL_law 748 = .ok (.aload_n 0, 1) := by decide +kernel
theorem dL_law_749 : decode cL_law 749 = .ok (.iload 4, 2) := by decide +kernel
theorem dL_law_751 : decode cL_law 751 = .ok (.iconst 1, 1) := by decide +kernel
theorem dL_law_752 : decode cL_law 752 = .ok (.iadd, 1) := by decide +kernel
theorem dL_law_753 : decode cL_law 753 = .ok (.iaload, 1) := by decide +kernel
theorem dL_law_754 : decode cL_law 754 = .ok (.invokevirtual 124, 3) := by decide +kernel
theorem dL_law_757 : decode cL_law 757 = .ok (.istore 6, 2) := by decide +kernel
theorem dL_law_759 : decode cL_law 759 = .ok (.aload_n 2, 1) := by decide +kernel
theorem dL_law_760 : decode cL_law 760 = .ok (.invokevirtual 57, 3) := by decide +kernel
theorem dL_law_763 : decode cL_law 763 = .ok (.iload 5, 2) := by decide +kernel
theorem dL_law_765 : decode cL_law 765 = .ok (.if_icmp .eq 5, 3) := by decide +kernel
theorem dL_law_768 : decode cL_law 768 = .ok (.iconst 0, 1) := by decide +kernel
theorem dL_law_769 : decode cL_law 769 = .ok (.ireturn, 1) := by decide +kernel
theorem dL_law_770 : decode cL_law 770 = .ok (.iload 5, 2) := by decide +kernel
theorem dL_law_772 : decode cL_law 772 = .ok (.ifCond .ne 15, 3) := by decide +kernel
theorem dL_law_775 : decode cL_law 775 = .ok (.aload_n 3, 1) := by decide +kernel
theorem dL_law_776 : decode cL_law 776 = .ok (.iconst 0, 1) := by decide +kernel
theorem dL_law_777 : decode cL_law 777 = .ok (.laload, 1) := by decide +kernel
theorem dL_law_778 : decode cL_law 778 = .ok (.iload 6, 2) := by decide +kernel
theorem dL_law_780 : decode cL_law 780 = .ok (.i2l, 1) := by decide +kernel
theorem dL_law_781 : decode cL_law 781 = .ok (.lcmp, 1) := by decide +kernel
theorem dL_law_782 : decode cL_law 782 = .ok (.ifCond .eq 5, 3) := by decide +kernel
theorem dL_law_785 : decode cL_law 785 = .ok (.iconst 0, 1) := by decide +kernel
theorem dL_law_786 : decode cL_law 786 = .ok (.ireturn, 1) := by decide +kernel
theorem dL_law_787 : decode cL_law 787 = .ok (.goto 180, 3) := by decide +kernel
theorem dL_law_790 : decode cL_law 790 = .ok (.aload_n 1, 1) := by decide +kernel
theorem dL_law_791 : decode cL_law 791 = .ok (.invokevirtual 125, 3) := by decide +kernel
theorem dL_law_794 : decode cL_law 794 = .ok (.aload_n 2, 1) := by decide +kernel
theorem dL_law_795 : decode cL_law 795 = .ok (.invokevirtual 128, 3) := by decide +kernel
theorem dL_law_798 : decode cL_law 798 = .ok (.if_icmp .eq 169, 3) := by decide +kernel
theorem dL_law_801 : decode cL_law 801 = .ok (.iconst 0, 1) := by decide +kernel
theorem dL_law_802 : decode cL_law 802 = .ok (.ireturn, 1) := by decide +kernel
theorem dL_law_803 : decode cL_law 803 = .ok (.aload_n 1, 1) := by decide +kernel
theorem dL_law_804 : decode cL_law 804 = .ok (.invokevirtual 129, 3) := by decide +kernel
theorem dL_law_807 : decode cL_law 807 = .ok (.aload_n 2, 1) := by decide +kernel
theorem dL_law_808 : decode cL_law 808 = .ok (.invokevirtual 132, 3) := by decide +kernel
theorem dL_law_811 : decode cL_law 811 = .ok (.if_icmp .eq 156, 3) := by decide +kernel
theorem dL_law_814 : decode cL_law 814 = .ok (.iconst 0, 1) := by decide +kernel
theorem dL_law_815 : decode cL_law 815 = .ok (.ireturn, 1) := by decide +kernel
theorem dL_law_816 : decode cL_law 816 = .ok (.aload_n 1, 1) := by decide +kernel
theorem dL_law_817 : decode cL_law 817 = .ok (.invokevirtual 133, 3) := by decide +kernel
theorem dL_law_820 : decode cL_law 820 = .ok (.aload_n 2, 1) := by decide +kernel
theorem dL_law_821 : decode cL_law 821 = .ok (.invokevirtual 136, 3) := by decide +kernel
theorem dL_law_824 : decode cL_law 824 = .ok (.if_icmp .eq 143, 3) := by decide +kernel
theorem dL_law_827 : decode cL_law 827 = .ok (.iconst 0, 1) := by decide +kernel
theorem dL_law_828 : decode cL_law 828 = .ok (.ireturn, 1) := by decide +kernel
theorem dL_law_829 : decode cL_law 829 = .ok (.aload_n 1, 1) := by decide +kernel
theorem dL_law_830 : decode cL_law 830 = .ok (.invokevirtual 137, 3) := by decide +kernel
theorem dL_law_833 : decode cL_law 833 = .ok (.aload_n 2, 1) := by decide +kernel
theorem dL_law_834 : decode cL_law 834 = .ok (.invokevirtual 140, 3) := by decide +kernel
theorem dL_law_837 : decode cL_law 837 = .ok (.if_icmp .eq 130, 3) := by decide +kernel
theorem dL_law_840 : decode cL_law 840 = .ok (.iconst 0, 1) := by decide +kernel
theorem dL_law_841 : decode cL_law 841 = .ok (.ireturn, 1) := by decide +kernel
theorem dL_law_842 : decode cL_law 842 = .ok (.aload_n 1, 1) := by decide +kernel
theorem dL_law_843 : decode cL_law 843 = .ok (.invokevirtual 141, 3) := by decide +kernel
theorem dL_law_846 : decode cL_law 846 = .ok (.aload_n 2, 1) := by decide +kernel
theorem dL_law_847 : decode cL_law 847 = .ok (.invokevirtual 144, 3) := by decide +kernel
theorem dL_law_850 : decode cL_law 850 = .ok (.if_icmp .eq 117, 3) := by decide +kernel
theorem dL_law_853 : decode cL_law 853 = .ok (.iconst 0, 1) := by decide +kernel
theorem dL_law_854 : decode cL_law 854 = .ok (.ireturn, 1) := by decide +kernel
theorem dL_law_855 : decode cL_law 855 = .ok (.aload_n 1, 1) := by decide +kernel
theorem dL_law_856 : decode cL_law 856 = .ok (.aload_n 0, 1) := by decide +kernel
theorem dL_law_857 : decode cL_law 857 = .ok (.iload 4, 2) := by decide +kernel
theorem dL_law_859 : decode cL_law 859 = .ok (.iconst 1, 1) := by decide +kernel
theorem dL_law_860 : decode cL_law 860 = .ok (.iadd, 1) := by decide +kernel
theorem dL_law_861 : decode cL_law 861 = .ok (.iaload, 1) := by decide +kernel
theorem dL_law_862 : decode cL_law 862 = .ok (.aload_n 3, 1) := by decide +kernel
theorem dL_law_863 : decode cL_law 863 = .ok (.invokestatic 145, 3) := by decide +kernel
theorem dL_law_866 : decode cL_law 866 = .ok (.istore 5, 2) := by decide +kernel
theorem dL_law_868 : decode cL_law 868 = .ok (.aload_n 2, 1) := by decide +kernel
theorem dL_law_869 : decode cL_law 869 = .ok (.aload_n 0, 1) := by decide +kernel
theorem dL_law_870 : decode cL_law 870 = .ok (.iload 4, 2) := by decide +kernel
theorem dL_law_872 : decode cL_law 872 = .ok (.iconst 1, 1) := by decide +kernel
theorem dL_law_873 : decode cL_law 873 = .ok (.iadd, 1) := by decide +kernel
theorem dL_law_874 : decode cL_law 874 = .ok (.iaload, 1) := by decide +kernel
theorem dL_law_875 : decode cL_law 875 = .ok (.invokevirtual 147, 3) := by decide +kernel
theorem dL_law_878 : decode cL_law 878 = .ok (.istore 6, 2) := by decide +kernel
theorem dL_law_880 : decode cL_law 880 = .ok (.aload_n 2, 1) := by decide +kernel
theorem dL_law_881 : decode cL_law 881 = .ok (.invokevirtual 57, 3) := by decide +kernel
theorem dL_law_884 : decode cL_law 884 = .ok (.iload 5, 2) := by decide +kernel
theorem dL_law_886 : decode cL_law 886 = .ok (.if_icmp .eq 5, 3) := by decide +kernel
theorem dL_law_889 : decode cL_law 889 = .ok (.iconst 0, 1) := by decide +kernel
theorem dL_law_890 : decode cL_law 890 = .ok (.ireturn, 1) := by decide +kernel
theorem dL_law_891 : decode cL_law 891 = .ok (.iload 5, 2) := by decide +kernel
theorem dL_law_893 : decode cL_law 893 = .ok (.ifCond .ne 15, 3) := by decide +kernel
theorem dL_law_896 : decode cL_law 896 = .ok (.aload_n 3, 1) := by decide +kernel
theorem dL_law_897 : decode cL_law 897 = .ok (.iconst 0, 1) := by decide +kernel
theorem dL_law_898 : decode cL_law 898 = .ok (.laload, 1) := by decide +kernel
theorem dL_law_899 : decode cL_law 899 = .ok (.iload 6, 2) := by decide +kernel
theorem dL_law_901 : decode cL_law 901 = .ok (.i2l, 1) := by decide +kernel
theorem dL_law_902 : decode cL_law 902 = .ok (.lcmp, 1) := by decide +kernel
theorem dL_law_903 : decode cL_law 903 = .ok (.ifCond .eq 5, 3) := by decide +kernel
theorem dL_law_906 : decode cL_law 906 = .ok (.iconst 0, 1) := by decide +kernel
theorem dL_law_907 : decode cL_law 907 = .ok (.ireturn, 1) := by decide +kernel
theorem dL_law_908 : decode cL_law 908 = .ok (.goto 59, 3) := by decide +kernel
theorem dL_law_911 : decode cL_law 911 = .ok (.aload_n 1, 1) := by decide +kernel
theorem dL_law_912 : decode cL_law 912 = .ok (.aload_n 0, 1) := by decide +kernel
theorem dL_law_913 : decode cL_law 913 = .ok (.iload 4, 2) := by decide +kernel
theorem dL_law_915 : decode cL_law 915 = .ok (.iconst 1, 1) := by decide +kernel
theorem dL_law_916 : decode cL_law 916 = .ok (.iadd, 1) := by decide +kernel
theorem dL_law_917 : decode cL_law 917 = .ok (.iaload, 1) := by decide +kernel
theorem dL_law_918 : decode cL_law 918 = .ok (.aload_n 3, 1) := by decide +kernel
theorem dL_law_919 : decode cL_law 919 = .ok (.invokestatic 148, 3) := by decide +kernel
theorem dL_law_922 : decode cL_law 922 = .ok (.istore 5, 2) := by decide +kernel
theorem dL_law_924 : decode cL_law 924 = .ok (.aload_n 2, 1) := by decide +kernel
theorem dL_law_925 : decode cL_law 925 = .ok (.aload_n 0, 1) := by decide +kernel
theorem dL_law_926 : decode cL_law 926 = .ok (.iload 4, 2) := by decide +kernel
theorem dL_law_928 : decode cL_law 928 = .ok (.iconst 1, 1) := by decide +kernel
theorem dL_law_929 : decode cL_law 929 = .ok (.iadd, 1) := by decide +kernel
theorem dL_law_930 : decode cL_law 930 = .ok (.iaload, 1) := by decide +kernel
theorem dL_law_931 : decode cL_law 931 = .ok (.invokevirtual 150, 3) := by decide +kernel
theorem dL_law_934 : decode cL_law 934 = .ok (.istore 6, 2) := by decide +kernel
theorem dL_law_936 : decode cL_law 936 = .ok (.aload_n 2, 1) := by decide +kernel
theorem dL_law_937 : decode cL_law 937 = .ok (.invokevirtual 57, 3) := by decide +kernel
theorem dL_law_940 : decode cL_law 940 = .ok (.iload 5, 2) := by decide +kernel
theorem dL_law_942 : decode cL_law 942 = .ok (.if_icmp .eq 5, 3) := by decide +kernel
theorem dL_law_945 : decode cL_law 945 = .ok (.iconst 0, 1) := by decide +kernel
theorem dL_law_946 : decode cL_law 946 = .ok (.ireturn, 1) := by decide +kernel
theorem dL_law_947 : decode cL_law 947 = .ok (.iload 5, 2) := by decide +kernel
theorem dL_law_949 : decode cL_law 949 = .ok (.ifCond .ne 15, 3) := by decide +kernel
theorem dL_law_952 : decode cL_law 952 = .ok (.aload_n 3, 1) := by decide +kernel
theorem dL_law_953 : decode cL_law 953 = .ok (.iconst 0, 1) := by decide +kernel
theorem dL_law_954 : decode cL_law 954 = .ok (.laload, 1) := by decide +kernel
theorem dL_law_955 : decode cL_law 955 = .ok (.iload 6, 2) := by decide +kernel
theorem dL_law_957 : decode cL_law 957 = .ok (.i2l, 1) := by decide +kernel
theorem dL_law_958 : decode cL_law 958 = .ok (.lcmp, 1) := by decide +kernel
theorem dL_law_959 : decode cL_law 959 = .ok (.ifCond .eq 5, 3) := by decide +kernel
theorem dL_law_962 : decode cL_law 962 = .ok (.iconst 0, 1) := by decide +kernel
theorem dL_law_963 : decode cL_law 963 = .ok (.ireturn, 1) := by decide +kernel
theorem dL_law_964 : decode cL_law 964 = .ok (.goto 3, 3) := by decide +kernel
theorem dL_law_967 : decode cL_law 967 = .ok (.iinc 4 2, 3) := by decide +kernel
theorem dL_law_970 : decode cL_law 970 = .ok (.goto (-947), 3) := by decide +kernel
theorem dL_law_973 : decode cL_law 973 = .ok (.iconst 1, 1) := by decide +kernel
theorem dL_law_974 : decode cL_law 974 = .ok (.ireturn, 1) := by decide +kernel
abbrev vwCl : List vw_C := [(RX0, TX0, 10), (RX1, TX1, 2), (RX2, TX2, 8), (RX3, TX3, 10)]
end
section
/-! ===== BASE: one form of contract; calls by one row ===== -/
/-- the constructors of the exceptions' own superclasses -/
def ki_decl (U : State) : Prop := va_Nw (.declares (Bundle.initS "java/lang/RuntimeException")) U ∧ va_Nw (.declares (Bundle.initS "java/lang/Exception")) U ∧ va_Nw (.declares (Bundle.initS Bundle.tN)) U
/-- links between nest mates, and the texts of the exceptions: what the tables say beside the good words -/
def ki_env (U : State) : Prop :=
  (va_Nw (.fieldLinkNest RX2 56 RX0 "capacity" "I" RX2) U ∧ va_Nw (.fieldLinkNest RX2 67 RX0 "scanLength" "I" RX2) U ∧ va_Nw (.fieldLinkNest RX2 70 RX0 "run" "I" RX2) U ∧ va_Nw (.fieldLinkNest RX2 73 RX0 "target" "I" RX2) U ∧ va_Nw (.fieldLinkNest RX2 116 RX0 "evictions" "I" RX2) U)
  ∧ (va_Nw (.fieldLinkNest RX2 85 RX0 "recent" "LAdaptiveReplacementCache$KeyList;" RX2) U ∧ va_Nw (.fieldLinkNest RX2 91 RX0 "frequent" "LAdaptiveReplacementCache$KeyList;" RX2) U ∧ va_Nw (.fieldLinkNest RX2 94 RX0 "recentGhosts" "LAdaptiveReplacementCache$KeyList;" RX2) U ∧ va_Nw (.fieldLinkNest RX2 97 RX0 "frequentGhosts" "LAdaptiveReplacementCache$KeyList;" RX2) U)
  ∧ (va_Nw (.methodLinkNest RX2 11 yX0_init RX2) U ∧ va_Nw (.methodLinkNest RX2 18 yX1_init RX2) U ∧ va_Nw (.methodLinkNest RX0 11 yX1_init RX2) U ∧ va_Nw (.methodLinkNest RX0 97 yX2_isPage RX2) U)
  ∧ ((∃ a, vk_R RX2 142 "a key is 0 to 9999" a U) ∧ (∃ a, vk_R RX2 144 "the capacity is 1 to 32" a U) ∧ (∃ a, vk_R RX2 62 "the scan length is 0, or 2 to 20" a U) ∧ (∃ a, vk_R RX2 148 "there is no such place" a U))
  ∧ ((va_Nw (.castable "java/lang/IllegalArgumentException" "java/lang/IllegalArgumentException") U ∧ va_Nw (.castable "java/lang/IndexOutOfBoundsException" "java/lang/IndexOutOfBoundsException") U)
    ∧ ki_decl U)
theorem ki_env.warm {s U : State} (hW : s.WarmedH U.vm) (h : ki_env s) : ki_env U := by
  obtain ⟨⟨a1, a2, a3, a4, a5⟩, ⟨b1, b2, b3, b4⟩, ⟨c1, c2, c3, c4⟩, ⟨⟨d1, e1⟩, ⟨d2, e2⟩, ⟨d3, e3⟩, ⟨d4, e4⟩⟩, ⟨f1, f2⟩, ⟨g1, g2, g3⟩⟩ := h
  exact ⟨⟨a1.warmF hW, a2.warmF hW, a3.warmF hW, a4.warmF hW, a5.warmF hW⟩, ⟨b1.warmF hW, b2.warmF hW, b3.warmF hW, b4.warmF hW⟩, ⟨c1.warmM hW, c2.warmM hW, c3.warmM hW, c4.warmM hW⟩, ⟨⟨d1, e1.warm hW⟩, ⟨d2, e2.warm hW⟩, ⟨d3, e3.warm hW⟩, ⟨d4, e4.warm hW⟩⟩, ⟨f1.warmC hW, f2.warmC hW⟩, ⟨g1.warmD hW, g2.warmD hW, g3.warmD hW⟩⟩
theorem ki_env.calling {U : State} {g : JFrame} {mk : MethodId} {a : Array Value} (h : ki_env U) : ki_env (U.calling g mk a) := ki_env.warm (s := U) (State.WarmedH.refl U) h
def ki_In (D : va_G) (tys : List (ClassId × FieldType)) (av : List Value) (w0 : va_W) (sz : Nat) : Array Value → State → Prop := va_Pc av (fun U => U.heap.size = sz ∧ va_P D vwCl w0 U.heap ∧ va_K D vwCl tys U ∧ va_D (fun _ => True) w0 ∧ ki_env U)
def ki_B (D : va_G) (tys : List (ClassId × FieldType)) (A : Nat → Prop) {S : Type} (w1 : S → va_W) : S → State → Prop := fun u t => va_P D vwCl (w1 u) t.heap ∧ va_K D vwCl tys t ∧ va_D A (w1 u)
/-- answers an int, changes its world -/
def ki_I (l : Launch) (y : MethodName) (Ws : List Cond) (rm : Room) (mc ms : Nat) (D : va_G) (tys : List (ClassId × FieldType)) (av : List Value) (w0 : va_W) {S : Type} (post : Int32 → S → Prop) (w1 : S → va_W) : Prop :=
  ∀ sz : Nat, Met l y Ws rm (ki_In D tys av w0 sz) (va_Qi post (ki_B D tys (va_A w0 sz) w1) (va_A w0 sz)) mc ms (va_A w0 sz)
/-- answers nothing, changes its world -/
def ki_V (l : Launch) (y : MethodName) (Ws : List Cond) (rm : Room) (mc ms : Nat) (D : va_G) (tys : List (ClassId × FieldType)) (av : List Value) (w0 : va_W) {S : Type} (post : S → Prop) (w1 : S → va_W) : Prop :=
  ∀ sz : Nat, Met l y Ws rm (ki_In D tys av w0 sz) (va_Qv post (ki_B D tys (va_A w0 sz) w1) (va_A w0 sz)) mc ms (va_A w0 sz)
/-- answers v, changes nothing -/
def ki_R (l : Launch) (y : MethodName) (Ws : List Cond) (rm : Room) (D : va_G) (tys : List (ClassId × FieldType)) (av : List Value) (w0 : va_W) (v : Int32) : Prop :=
  Met l y Ws rm (va_Pc av (fun U => va_P D vwCl w0 U.heap ∧ va_K D vwCl tys U ∧ ki_env U)) (QcRead v) 0 0 (fun _ => False)
theorem ki_blind {D : va_G} {tys : List (ClassId × FieldType)} {av : List Value} {w0 : va_W} {sz : Nat} : FrameBlind (ki_In D tys av w0 sz) := fun a U g mk q => by
  obtain ⟨q0, q1, qP, qK, qD, qE⟩ := q
  exact ⟨q0, q1, qP, va_K.moved (u := U) (U := U.calling g mk a) (Vm.Alike.refl U.vm) qK, qD, qE.calling⟩
theorem ki_blindR {D : va_G} {tys : List (ClassId × FieldType)} {av : List Value} {w0 : va_W} : FrameBlind (va_Pc av (fun U => va_P D vwCl w0 U.heap ∧ va_K D vwCl tys U ∧ ki_env U)) := fun a U g mk q => by
  obtain ⟨q0, qP, qK, qE⟩ := q
  exact ⟨q0, qP, va_K.moved (u := U) (U := U.calling g mk a) (Vm.Alike.refl U.vm) qK, qE.calling⟩
section BASE
variable {p : Program} {l : Launch} {e : Env} {R : Room} {s : State} {m : MethodId} {args : Array Value} {below : List Frame} {meth : Method} {c : Code} {H : Heap} {locs : List Loc} {cells slots : Nat} {Q : State → Prop}
variable {D : va_G} {tys tysC : List (ClassId × FieldType)} {A : Nat → Prop} {H0 : Heap} {ws wc wr : va_W}
theorem ki_at {is : List Nat} {w : va_W} (hs : is.map (fun i => ws[i]?) = w.map some) : ∀ (k : Nat) (q : Nat × va_E), w[k]? = some q → ∃ i, is[k]? = some i ∧ ws[i]? = some q := by
  intro k q hq
  have h1 : (is.map (fun i => ws[i]?))[k]? = some (some q) := by rw [hs, List.getElem?_map, hq]; rfl
  rw [List.getElem?_map] at h1
  cases hi : is[k]? with
  | none => rw [hi] at h1; cases h1
  | some i => rw [hi] at h1; exact ⟨i, rfl, Option.some.inj h1⟩
/-- part of a world, by places -/
theorem ki_P {w : va_W} (hP : va_P D vwCl ws H) (is : List Nat) (hs : is.map (fun i => ws[i]?) = w.map some) : va_P D vwCl w H := by
  intro k q hk
  obtain ⟨i, -, hi⟩ := ki_at hs k q hk
  exact hP i q hi
variable {y : MethodName} {bytes cc : ByteArray} {maxL nL mc ms n index : Nat} {ret : Option FieldType} {Wy Ts : List Cond} {rm : Room} {own C : String} {b : Addr} {As rest : List Value} {ls : Array Slot} {pc : Nat} {st0 : List Value}
theorem ki_preV {sz : Nat} (hP : va_P D vwCl ws H) (hK : va_K D vwCl tys s) (hE : ki_env s) (hD : va_D A ws) (isC : List Nat) (hC : isC.map (fun i => ws[i]?) = wc.map some) (hn : va_nd isC = true) (ts : List Nat) (ht : ts.filterMap (fun i => tys[i]?) = tysC) (hz : H.size = sz) {av : List Value} :
    ∀ U : State, U.heap = H → s.WarmedH U.vm → ki_In D tysC av wc sz av.toArray U := fun U hU hW =>
  ⟨rfl, by rw [hU]; exact hz, by rw [hU]; exact ki_P hP isC hC, va_K.moved hW.alike (hK.sub ts ht), (hD.sub isC hn hC).weaken (fun _ _ _ _ => trivial), hE.warm hW⟩
theorem ki_recv (hK : va_K D vwCl tys s) (hP : va_P D vwCl ws H) {ci q0 : Nat} {fs : List Value} {q : vw_C} (hc : vwCl[ci]? = some q) (hq : q.1 = C) (he : ws[q0]? = some (b, .inr (ci, fs))) : ∃ cell : Cell, H[b]? = some cell ∧ cell.vm.isStatics = false ∧ s.vm.findClass C = some cell.cls := by
  rw [← hq]; exact va_recv hK hP hc he
/-- behind a call -/
theorem ki_back {S : Type} {w1 w2 : S → va_W} {u : S} {t : State} {H1 : Heap} (hP : va_P D vwCl ws H) (hD : va_D A ws) (isC isR : List Nat) (hC : isC.map (fun i => ws[i]?) = wc.map some) (hR : isR.map (fun i => ws[i]?) = wr.map some) (hnR : va_nd isR = true) (hdis : ∀ i ∈ isR, i ∉ isC)
    (hF : ∀ q, va_A wc H.size q → A q) (perm : List Nat) (hperm : perm.map (fun i => (wr ++ w1 u)[i]?) = (w2 u).map some) (hpn : va_nd perm = true)
    (ht : t.heap = H1) (hB : ki_B D tysC (va_A wc H.size) w1 u t) (hk : ∀ q : Nat, q < H.size → ¬ va_A wc H.size q → H1[q]? = H[q]?) : va_P D vwCl (w2 u) H1 ∧ va_D A (w2 u) := by
  obtain ⟨hP1, -, hD1⟩ := hB
  rw [ht] at hP1
  obtain ⟨hP2, hD2⟩ := va_join hP hD isC isR hC hR hnR hdis hk hF hP1 hD1
  exact ⟨ki_P hP2 perm hperm, hD2.sub perm hpn hperm⟩
theorem ki_goI {S : Type} {post : Int32 → S → Prop} {w1 : S → va_W} {a : Array Value} (hr : va_Run p l e R s m args below meth c H locs cells slots mc ms (F0 m pc ls st0) rest (va_Qi post (ki_B D tysC (va_A wc H.size) w1) (va_A wc H.size) a) (va_A wc H.size))
    (hP : va_P D vwCl ws H) (hD : va_D A ws) (hS : va_S A H0 H locs) (hA : ∀ q, H0.size ≤ q → A q) (isC isR : List Nat) (hC : isC.map (fun i => ws[i]?) = wc.map some) (hR : isR.map (fun i => ws[i]?) = wr.map some) (hnR : va_nd isR = true) (hdis : ∀ i ∈ isR, i ∉ isC)
    (perm : List Nat) (w2 : S → va_W) (hperm : ∀ u, perm.map (fun i => (wr ++ w1 u)[i]?) = (w2 u).map some) (hpn : va_nd perm = true)
    (kk : ∀ (r : Int32) (u : S) (H1 : Heap) (locs1 : List Loc), post r u → va_P D vwCl (w2 u) H1 → va_D A (w2 u) → va_S A H0 H1 locs1 → W p l e R s m args below meth c H1 locs1 (cells + mc) (slots + ms) Q (F0 m (pc + 3) ls (.int r :: rest))) : W p l e R s m args below meth c H locs cells slots Q (F0 m pc ls st0) := by
  have hF := va_free (wc := wc) hD hS hA isC hC
  refine va_calli hr hS (fun q _ h => hF q h) hF (fun r u t H1 locs1 ht hvm hw hB hz1 hk1 hS1 => ?_)
  obtain ⟨hP2, hD2⟩ := ki_back hP hD isC isR hC hR hnR hdis hF perm (hperm u) hpn ht hB hk1
  exact kk r u H1 locs1 hw hP2 hD2 hS1
theorem ki_goV {S : Type} {post : S → Prop} {w1 : S → va_W} {a : Array Value} (hr : va_Run p l e R s m args below meth c H locs cells slots mc ms (F0 m pc ls st0) rest (va_Qv post (ki_B D tysC (va_A wc H.size) w1) (va_A wc H.size) a) (va_A wc H.size))
    (hP : va_P D vwCl ws H) (hD : va_D A ws) (hS : va_S A H0 H locs) (hA : ∀ q, H0.size ≤ q → A q) (isC isR : List Nat) (hC : isC.map (fun i => ws[i]?) = wc.map some) (hR : isR.map (fun i => ws[i]?) = wr.map some) (hnR : va_nd isR = true) (hdis : ∀ i ∈ isR, i ∉ isC)
    (perm : List Nat) (w2 : S → va_W) (hperm : ∀ u, perm.map (fun i => (wr ++ w1 u)[i]?) = (w2 u).map some) (hpn : va_nd perm = true)
    (kk : ∀ (u : S) (H1 : Heap) (locs1 : List Loc), post u → va_P D vwCl (w2 u) H1 → va_D A (w2 u) → va_S A H0 H1 locs1 → W p l e R s m args below meth c H1 locs1 (cells + mc) (slots + ms) Q (F0 m (pc + 3) ls rest)) : W p l e R s m args below meth c H locs cells slots Q (F0 m pc ls st0) := by
  have hF := va_free (wc := wc) hD hS hA isC hC
  refine va_callv hr hS (fun q _ h => hF q h) hF (fun u t H1 locs1 ht hvm hw hB hz1 hk1 hS1 => ?_)
  obtain ⟨hP2, hD2⟩ := ki_back hP hD isC isR hC hR hnR hdis hF perm (hperm u) hpn ht hB hk1
  exact kk u H1 locs1 hw hP2 hD2 hS1
theorem ki_goR {v : Int32} {a : Array Value} (hr : va_Run p l e R s m args below meth c H locs cells slots 0 0 (F0 m pc ls st0) rest (QcRead v a) (fun _ => False))
    (kk : W p l e R s m args below meth c H locs cells slots Q (F0 m (pc + 3) ls (.int v :: rest))) : W p l e R s m args below meth c H locs cells slots Q (F0 m pc ls st0) := by
  intro T hT X
  obtain ⟨v', st₀, t, T', L, h0, X', hL, e1, e2, ⟨hv, hh⟩, st⟩ := hr T hT X
  cases hv
  obtain ⟨t2, a1, b1⟩ := kk T' (by rw [e1, hh, h0]) (Stand.forget X' (fun q h => (hL q h).elim))
  exact ⟨t2, st t2 a1, b1⟩
/-- a virtual call that answers an int and changes cells -/
theorem ki_cVI {S : Type} {post : Int32 → S → Prop} {w1 : S → va_W} (Sx : CallFix p m c cc nL s args Ts own) (hM : ki_I l y Wy rm mc ms D tysC (.ref b :: As) wc post w1) (cw : CallW R s args own C index y bytes maxL ret Wy rm mc ms n)
    (hK : va_K D vwCl tys s) (hE : ki_env s) (hP : va_P D vwCl ws H) (hD : va_D A ws) (hS : va_S A H0 H locs) (hA : ∀ q, H0.size ≤ q → A q) (ts : List Nat) (ht : ts.filterMap (fun i => tys[i]?) = tysC)
    (isC isR : List Nat) (hC : isC.map (fun i => ws[i]?) = wc.map some) (hnC : va_nd isC = true) (hR : isR.map (fun i => ws[i]?) = wr.map some) (hnR : va_nd isR = true) (hdis : ∀ i ∈ isR, i ∉ isC)
    (ci q0 : Nat) {fs : List Value} {q : vw_C} (hc : vwCl[ci]? = some q) (hq : q.1 = C) (he : ws[q0]? = some (b, .inr (ci, fs)))
    (hn : As.length = n) (hsize : ls.size = nL) (hst : st0 = As.reverse ++ .ref b :: rest) (hroom : (rest.map fun v => v.category).sum ≤ 8) (hdg : decode cc pc = .ok (.invokevirtual index, 3)) (hf : cells + mc ≤ R.cells ∧ slots + ms ≤ R.slots)
    (perm : List Nat) (w2 : S → va_W) (hperm : ∀ u, perm.map (fun i => (wr ++ w1 u)[i]?) = (w2 u).map some) (hpn : va_nd perm = true)
    (kk : ∀ (r : Int32) (u : S) (H1 : Heap) (locs1 : List Loc), post r u → va_P D vwCl (w2 u) H1 → va_D A (w2 u) → va_S A H0 H1 locs1 → W p l e R s m args below meth c H1 locs1 (cells + mc) (slots + ms) Q (F0 m (pc + 3) ls (.int r :: rest))) : W p l e R s m args below meth c H locs cells slots Q (F0 m pc ls st0) :=
  ki_goI (va_runV Sx (hM H.size) cw ⟨ki_blind, ki_recv hK hP hc hq he, ki_preV hP hK hE hD isC hC hnC ts ht rfl⟩ rfl hn hsize hst (lv_room hroom) hdg hf) hP hD hS hA isC isR hC hR hnR hdis perm w2 hperm hpn kk
theorem ki_cVV {S : Type} {post : S → Prop} {w1 : S → va_W} (Sx : CallFix p m c cc nL s args Ts own) (hM : ki_V l y Wy rm mc ms D tysC (.ref b :: As) wc post w1) (cw : CallW R s args own C index y bytes maxL ret Wy rm mc ms n)
    (hK : va_K D vwCl tys s) (hE : ki_env s) (hP : va_P D vwCl ws H) (hD : va_D A ws) (hS : va_S A H0 H locs) (hA : ∀ q, H0.size ≤ q → A q) (ts : List Nat) (ht : ts.filterMap (fun i => tys[i]?) = tysC)
    (isC isR : List Nat) (hC : isC.map (fun i => ws[i]?) = wc.map some) (hnC : va_nd isC = true) (hR : isR.map (fun i => ws[i]?) = wr.map some) (hnR : va_nd isR = true) (hdis : ∀ i ∈ isR, i ∉ isC)
    (ci q0 : Nat) {fs : List Value} {q : vw_C} (hc : vwCl[ci]? = some q) (hq : q.1 = C) (he : ws[q0]? = some (b, .inr (ci, fs)))
    (hn : As.length = n) (hsize : ls.size = nL) (hst : st0 = As.reverse ++ .ref b :: rest) (hroom : (rest.map fun v => v.category).sum ≤ 8) (hdg : decode cc pc = .ok (.invokevirtual index, 3)) (hf : cells + mc ≤ R.cells ∧ slots + ms ≤ R.slots)
    (perm : List Nat) (w2 : S → va_W) (hperm : ∀ u, perm.map (fun i => (wr ++ w1 u)[i]?) = (w2 u).map some) (hpn : va_nd perm = true)
    (kk : ∀ (u : S) (H1 : Heap) (locs1 : List Loc), post u → va_P D vwCl (w2 u) H1 → va_D A (w2 u) → va_S A H0 H1 locs1 → W p l e R s m args below meth c H1 locs1 (cells + mc) (slots + ms) Q (F0 m (pc + 3) ls rest)) : W p l e R s m args below meth c H locs cells slots Q (F0 m pc ls st0) :=
  ki_goV (va_runV Sx (hM H.size) cw ⟨ki_blind, ki_recv hK hP hc hq he, ki_preV hP hK hE hD isC hC hnC ts ht rfl⟩ rfl hn hsize hst (lv_room hroom) hdg hf) hP hD hS hA isC isR hC hR hnR hdis perm w2 hperm hpn kk
/-- a static call that answers an int and changes cells -/
theorem ki_cSI {S : Type} {post : Int32 → S → Prop} {w1 : S → va_W} (Sx : CallFix p m c cc nL s args Ts own) (hM : ki_I l y Wy rm mc ms D tysC As wc post w1) (cw : CallB R s args own index y bytes maxL ret Wy rm mc ms n ∧ (Cond.static y).before args s = true)
    (hK : va_K D vwCl tys s) (hE : ki_env s) (hP : va_P D vwCl ws H) (hD : va_D A ws) (hS : va_S A H0 H locs) (hA : ∀ q, H0.size ≤ q → A q) (ts : List Nat) (ht : ts.filterMap (fun i => tys[i]?) = tysC)
    (isC isR : List Nat) (hC : isC.map (fun i => ws[i]?) = wc.map some) (hnC : va_nd isC = true) (hR : isR.map (fun i => ws[i]?) = wr.map some) (hnR : va_nd isR = true) (hdis : ∀ i ∈ isR, i ∉ isC)
    (hn : As.length = n) (hsize : ls.size = nL) (hst : st0 = As.reverse ++ rest) (hroom : (rest.map fun v => v.category).sum ≤ 8) (hdg : decode cc pc = .ok (.invokestatic index, 3)) (hf : cells + mc ≤ R.cells ∧ slots + ms ≤ R.slots)
    (perm : List Nat) (w2 : S → va_W) (hperm : ∀ u, perm.map (fun i => (wr ++ w1 u)[i]?) = (w2 u).map some) (hpn : va_nd perm = true)
    (kk : ∀ (r : Int32) (u : S) (H1 : Heap) (locs1 : List Loc), post r u → va_P D vwCl (w2 u) H1 → va_D A (w2 u) → va_S A H0 H1 locs1 → W p l e R s m args below meth c H1 locs1 (cells + mc) (slots + ms) Q (F0 m (pc + 3) ls (.int r :: rest))) : W p l e R s m args below meth c H locs cells slots Q (F0 m pc ls st0) :=
  ki_goI (va_runS Sx (hM H.size) cw ⟨ki_blind, ki_preV hP hK hE hD isC hC hnC ts ht rfl⟩ rfl hn hsize hst (lv_room hroom) hdg hf) hP hD hS hA isC isR hC hR hnR hdis perm w2 hperm hpn kk
theorem ki_cSV {S : Type} {post : S → Prop} {w1 : S → va_W} (Sx : CallFix p m c cc nL s args Ts own) (hM : ki_V l y Wy rm mc ms D tysC As wc post w1) (cw : CallB R s args own index y bytes maxL ret Wy rm mc ms n ∧ (Cond.static y).before args s = true)
    (hK : va_K D vwCl tys s) (hE : ki_env s) (hP : va_P D vwCl ws H) (hD : va_D A ws) (hS : va_S A H0 H locs) (hA : ∀ q, H0.size ≤ q → A q) (ts : List Nat) (ht : ts.filterMap (fun i => tys[i]?) = tysC)
    (isC isR : List Nat) (hC : isC.map (fun i => ws[i]?) = wc.map some) (hnC : va_nd isC = true) (hR : isR.map (fun i => ws[i]?) = wr.map some) (hnR : va_nd isR = true) (hdis : ∀ i ∈ isR, i ∉ isC)
    (hn : As.length = n) (hsize : ls.size = nL) (hst : st0 = As.reverse ++ rest) (hroom : (rest.map fun v => v.category).sum ≤ 8) (hdg : decode cc pc = .ok (.invokestatic index, 3)) (hf : cells + mc ≤ R.cells ∧ slots + ms ≤ R.slots)
    (perm : List Nat) (w2 : S → va_W) (hperm : ∀ u, perm.map (fun i => (wr ++ w1 u)[i]?) = (w2 u).map some) (hpn : va_nd perm = true)
    (kk : ∀ (u : S) (H1 : Heap) (locs1 : List Loc), post u → va_P D vwCl (w2 u) H1 → va_D A (w2 u) → va_S A H0 H1 locs1 → W p l e R s m args below meth c H1 locs1 (cells + mc) (slots + ms) Q (F0 m (pc + 3) ls rest)) : W p l e R s m args below meth c H locs cells slots Q (F0 m pc ls st0) :=
  ki_goV (va_runS Sx (hM H.size) cw ⟨ki_blind, ki_preV hP hK hE hD isC hC hnC ts ht rfl⟩ rfl hn hsize hst (lv_room hroom) hdg hf) hP hD hS hA isC isR hC hR hnR hdis perm w2 hperm hpn kk
/-- reads -/
theorem ki_cVR {v : Int32} (Sx : CallFix p m c cc nL s args Ts own) (hM : ki_R l y Wy rm D tysC (.ref b :: As) wc v) (cw : CallW R s args own C index y bytes maxL ret Wy rm 0 0 n)
    (hK : va_K D vwCl tys s) (hE : ki_env s) (hP : va_P D vwCl ws H) (ts : List Nat) (ht : ts.filterMap (fun i => tys[i]?) = tysC)
    (isC : List Nat) (hC : isC.map (fun i => ws[i]?) = wc.map some)
    (ci q0 : Nat) {fs : List Value} {q : vw_C} (hc : vwCl[ci]? = some q) (hq : q.1 = C) (he : ws[q0]? = some (b, .inr (ci, fs)))
    (hn : As.length = n) (hsize : ls.size = nL) (hst : st0 = As.reverse ++ .ref b :: rest) (hroom : (rest.map fun v => v.category).sum ≤ 8) (hdg : decode cc pc = .ok (.invokevirtual index, 3)) (hf : cells ≤ R.cells ∧ slots ≤ R.slots)
    (kk : W p l e R s m args below meth c H locs cells slots Q (F0 m (pc + 3) ls (.int v :: rest))) : W p l e R s m args below meth c H locs cells slots Q (F0 m pc ls st0) :=
  ki_goR (va_runV Sx hM cw ⟨ki_blindR, ki_recv hK hP hc hq he, fun U hU hW => ⟨rfl, by rw [hU]; exact ki_P hP isC hC, va_K.moved hW.alike (hK.sub ts ht), hE.warm hW⟩⟩ rfl hn hsize hst (lv_room hroom) hdg hf) kk
theorem ki_cSR {v : Int32} (Sx : CallFix p m c cc nL s args Ts own) (hM : ki_R l y Wy rm D tysC As wc v) (cw : CallB R s args own index y bytes maxL ret Wy rm 0 0 n ∧ (Cond.static y).before args s = true)
    (hK : va_K D vwCl tys s) (hE : ki_env s) (hP : va_P D vwCl ws H) (ts : List Nat) (ht : ts.filterMap (fun i => tys[i]?) = tysC)
    (isC : List Nat) (hC : isC.map (fun i => ws[i]?) = wc.map some)
    (hn : As.length = n) (hsize : ls.size = nL) (hst : st0 = As.reverse ++ rest) (hroom : (rest.map fun v => v.category).sum ≤ 8) (hdg : decode cc pc = .ok (.invokestatic index, 3)) (hf : cells ≤ R.cells ∧ slots ≤ R.slots)
    (kk : W p l e R s m args below meth c H locs cells slots Q (F0 m (pc + 3) ls (.int v :: rest))) : W p l e R s m args below meth c H locs cells slots Q (F0 m pc ls st0) :=
  ki_goR (va_runS Sx hM cw ⟨ki_blindR, fun U hU hW => ⟨rfl, by rw [hU]; exact ki_P hP isC hC, va_K.moved hW.alike (hK.sub ts ht), hE.warm hW⟩⟩ rfl hn hsize hst (lv_room hroom) hdg hf) kk
/-- a static method of a nest mate, read -/
theorem ki_cNR {v : Int32} {host : String} (Sx : CallFix p m c cc nL s args Ts own) (hM : ki_R l y Wy rm D tysC As wc v) (cw : va_CN R s args own index y host bytes maxL ret Wy rm 0 0 n ∧ (Cond.static y).before args s = true ∧ True)
    (hK : va_K D vwCl tys s) (hE : ki_env s) (hP : va_P D vwCl ws H) (ts : List Nat) (ht : ts.filterMap (fun i => tys[i]?) = tysC)
    (isC : List Nat) (hC : isC.map (fun i => ws[i]?) = wc.map some)
    (hn : As.length = n) (hsize : ls.size = nL) (hst : st0 = As.reverse ++ rest) (hroom : (rest.map fun v => v.category).sum ≤ 8) (hdg : decode cc pc = .ok (.invokestatic index, 3)) (hf : cells ≤ R.cells ∧ slots ≤ R.slots)
    (kk : W p l e R s m args below meth c H locs cells slots Q (F0 m (pc + 3) ls (.int v :: rest))) : W p l e R s m args below meth c H locs cells slots Q (F0 m pc ls st0) :=
  ki_goR (va_runSN Sx hM cw ⟨ki_blindR, fun U hU hW => ⟨rfl, by rw [hU]; exact ki_P hP isC hC, va_K.moved hW.alike (hK.sub ts ht), hE.warm hW⟩⟩ rfl hn hsize hst (lv_room hroom) hdg hf) kk
/-- a private constructor of a nest mate -/
theorem ki_cNC {S : Type} {post : S → Prop} {w1 : S → va_W} {host : String} (Sx : CallFix p m c cc nL s args Ts own) (hM : ki_V l y Wy rm mc ms D tysC (.ref b :: As) wc post w1) (cw : va_CN R s args own index y host bytes maxL none Wy rm mc ms n ∧ y.name = "<init>" ∧ (Cond.instanceMethod y).before args s = true)
    (hK : va_K D vwCl tys s) (hE : ki_env s) (hP : va_P D vwCl ws H) (hD : va_D A ws) (hS : va_S A H0 H locs) (hA : ∀ q, H0.size ≤ q → A q) (ts : List Nat) (ht : ts.filterMap (fun i => tys[i]?) = tysC)
    (isC isR : List Nat) (hC : isC.map (fun i => ws[i]?) = wc.map some) (hnC : va_nd isC = true) (hR : isR.map (fun i => ws[i]?) = wr.map some) (hnR : va_nd isR = true) (hdis : ∀ i ∈ isR, i ∉ isC)
    (hn : As.length = n) (hsize : ls.size = nL) (hst : st0 = As.reverse ++ .ref b :: rest) (hroom : (rest.map fun v => v.category).sum ≤ 8) (hdg : decode cc pc = .ok (.invokespecial index, 3)) (hf : cells + mc ≤ R.cells ∧ slots + ms ≤ R.slots)
    (perm : List Nat) (w2 : S → va_W) (hperm : ∀ u, perm.map (fun i => (wr ++ w1 u)[i]?) = (w2 u).map some) (hpn : va_nd perm = true)
    (kk : ∀ (u : S) (H1 : Heap) (locs1 : List Loc), post u → va_P D vwCl (w2 u) H1 → va_D A (w2 u) → va_S A H0 H1 locs1 → W p l e R s m args below meth c H1 locs1 (cells + mc) (slots + ms) Q (F0 m (pc + 3) ls rest)) : W p l e R s m args below meth c H locs cells slots Q (F0 m pc ls st0) :=
  ki_goV (va_runIN Sx (hM H.size) cw ⟨ki_blind, ki_preV hP hK hE hD isC hC hnC ts ht rfl⟩ rfl hn hsize hst (lv_room hroom) hdg hf) hP hD hS hA isC isR hC hR hnR hdis perm w2 hperm hpn kk
/-- a public constructor -/
theorem ki_cIC {S : Type} {post : S → Prop} {w1 : S → va_W} (Sx : CallFix p m c cc nL s args Ts own) (hM : ki_V l y Wy rm mc ms D tysC (.ref b :: As) wc post w1) (cw : CallB R s args own index y bytes maxL none Wy rm mc ms n ∧ y.name = "<init>" ∧ (Cond.instanceMethod y).before args s = true)
    (hK : va_K D vwCl tys s) (hE : ki_env s) (hP : va_P D vwCl ws H) (hD : va_D A ws) (hS : va_S A H0 H locs) (hA : ∀ q, H0.size ≤ q → A q) (ts : List Nat) (ht : ts.filterMap (fun i => tys[i]?) = tysC)
    (isC isR : List Nat) (hC : isC.map (fun i => ws[i]?) = wc.map some) (hnC : va_nd isC = true) (hR : isR.map (fun i => ws[i]?) = wr.map some) (hnR : va_nd isR = true) (hdis : ∀ i ∈ isR, i ∉ isC)
    (hn : As.length = n) (hsize : ls.size = nL) (hst : st0 = As.reverse ++ .ref b :: rest) (hroom : (rest.map fun v => v.category).sum ≤ 8) (hdg : decode cc pc = .ok (.invokespecial index, 3)) (hf : cells + mc ≤ R.cells ∧ slots + ms ≤ R.slots)
    (perm : List Nat) (w2 : S → va_W) (hperm : ∀ u, perm.map (fun i => (wr ++ w1 u)[i]?) = (w2 u).map some) (hpn : va_nd perm = true)
    (kk : ∀ (u : S) (H1 : Heap) (locs1 : List Loc), post u → va_P D vwCl (w2 u) H1 → va_D A (w2 u) → va_S A H0 H1 locs1 → W p l e R s m args below meth c H1 locs1 (cells + mc) (slots + ms) Q (F0 m (pc + 3) ls rest)) : W p l e R s m args below meth c H locs cells slots Q (F0 m pc ls st0) :=
  ki_goV (va_runI Sx (hM H.size) cw ⟨ki_blind, ki_preV hP hK hE hD isC hC hnC ts ht rfl⟩ rfl hn hsize hst (lv_room hroom) hdg hf) hP hD hS hA isC isR hC hR hnR hdis perm w2 hperm hpn kk
/-- ends -/
theorem ki_iret {S : Type} {post : Int32 → S → Prop} {w1 : S → va_W} {v : Int32} (hx : p.tables.exec = Jvm.exec) (hb : c.code = cc) (hr : meth.sig.returnType = some .int) (hlk : meth.locks = false) (hK : va_K D vwCl tys s) (hS : va_S A s.heap H locs) (u : S) (hp : post v u) (hP : va_P D vwCl (w1 u) H) (hD : va_D A (w1 u)) (hdg : decode cc pc = .ok (.ireturn, 1)) :
    W p l e R s m args below meth c H locs cells slots (MQ below (va_Qi post (ki_B D tys A w1) A) args s cells slots A) (F0 m pc ls [.int v]) :=
  W.iret hx hb hr (fun t ht hW => ⟨⟨v, u, rfl, hp, by rw [ht]; exact hP, va_K.moved hW.alike hK, hD⟩, hS.F ht⟩) hS.2.2 hdg hlk
theorem ki_zret {S : Type} {post : Int32 → S → Prop} {w1 : S → va_W} {v : Int32} (hx : p.tables.exec = Jvm.exec) (hb : c.code = cc) (hr : meth.sig.returnType = some .boolean) (hn : narrow .boolean (.int v) = .int v) (hlk : meth.locks = false) (hK : va_K D vwCl tys s) (hS : va_S A s.heap H locs) (u : S) (hp : post v u) (hP : va_P D vwCl (w1 u) H) (hD : va_D A (w1 u)) (hdg : decode cc pc = .ok (.ireturn, 1)) :
    W p l e R s m args below meth c H locs cells slots (MQ below (va_Qi post (ki_B D tys A w1) A) args s cells slots A) (F0 m pc ls [.int v]) :=
  W.zret hx hb hr hn (fun t ht hW => ⟨⟨v, u, rfl, hp, by rw [ht]; exact hP, va_K.moved hW.alike hK, hD⟩, hS.F ht⟩) hS.2.2 hdg hlk
theorem ki_vret {S : Type} {post : S → Prop} {w1 : S → va_W} (hx : p.tables.exec = Jvm.exec) (hb : c.code = cc) (hr : meth.sig.returnType = none) (hlk : meth.locks = false) (hK : va_K D vwCl tys s) (hS : va_S A s.heap H locs) (u : S) (hp : post u) (hP : va_P D vwCl (w1 u) H) (hD : va_D A (w1 u)) (hdg : decode cc pc = .ok (.return_, 1)) :
    W p l e R s m args below meth c H locs cells slots (MQ below (va_Qv post (ki_B D tys A w1) A) args s cells slots A) (F0 m pc ls []) :=
  W.vret hx hb hr (fun t ht hW => ⟨⟨u, rfl, hp, by rw [ht]; exact hP, va_K.moved hW.alike hK, hD⟩, hS.F ht⟩) hS.2.2 hdg hlk
theorem ki_rret {v v0 : Int32} (hx : p.tables.exec = Jvm.exec) (hb : c.code = cc) (hr : meth.sig.returnType = some .int) (hlk : meth.locks = false) (hv : v = v0) (hdg : decode cc pc = .ok (.ireturn, 1)) :
    W p l e R s m args below meth c s.heap [] 0 0 (MQ below (QcRead v0) args s 0 0 (fun _ => False)) (F0 m pc ls [.int v]) := by
  subst hv
  exact W.iret hx hb hr (fun t ht hW => ⟨rfl, ht⟩) (fun q hq => nomatch hq) hdg hlk
theorem ki_rzret {v v0 : Int32} (hx : p.tables.exec = Jvm.exec) (hb : c.code = cc) (hr : meth.sig.returnType = some .boolean) (hn : narrow .boolean (.int v) = .int v) (hlk : meth.locks = false) (hv : v = v0) (hdg : decode cc pc = .ok (.ireturn, 1)) :
    W p l e R s m args below meth c s.heap [] 0 0 (MQ below (QcRead v0) args s 0 0 (fun _ => False)) (F0 m pc ls [.int v]) := by
  subst hv
  exact W.zret hx hb hr hn (fun t ht hW => ⟨rfl, ht⟩) (fun q hq => nomatch hq) hdg hlk
/-- a new int array: the array class is the one that the world knows -/
theorem ki_newa {cy : ClassId} (hx : p.tables.exec = Jvm.exec) (hb : c.code = cc) (harr : (Cond.arrayClass .int).before args s = true) (hK : va_K D vwCl [(cy, .int)] s) (hP : va_P D vwCl ws H) (hD : va_D A ws) (hS : va_S A H0 H locs) (hA : ∀ q, H0.size ≤ q → A q)
    {N : Nat} {v : Int32} (hn : ¬ v < 0) (hN : v.toNatClampNeg = N) (hbytes : N * componentBytes .int ≤ 536870912) (hcells : cells + 1 ≤ R.cells) (hslots : slots + N ≤ R.slots) (hdg : decode cc pc = .ok (.newarray .int, 2))
    (kk : ∀ (q : Nat) (H1 : Heap), va_P D vwCl (ws ++ [(q, .inl (cy, N, .inl (fun _ => 0)))]) H1 → va_D A (ws ++ [(q, .inl (cy, N, .inl (fun _ => 0)))]) → va_S A H0 H1 locs →
      W p l e R s m args below meth c H1 locs (cells + 1) (slots + N) Q (F0 m (pc + 2) ls (.ref q :: rest))) : W p l e R s m args below meth c H locs cells slots Q (F0 m pc ls (.int v :: rest)) := by
  refine va_newa (atype := .int) (ty := .int) (a0 := (N, .inl (fun _ => 0))) hx hb harr rfl hK hP hD hS hA (fun cA => rfl) hn hN hbytes hcells hslots hdg (fun q cA H1 hK1 hP1 hD1 hS1 => ?_)
  have h1 : s.vm.findClass ("[" ++ (FieldType.int).toString) = some cy := (hK1.2 0 (cy, .int) rfl).2
  have h2 : s.vm.findClass ("[" ++ (FieldType.int).toString) = some cA := (hK1.2 1 (cA, .int) rfl).2
  have e9 : cA = cy := Option.some.inj (h2.symm.trans h1)
  subst e9
  exact kk q H1 hP1 hD1 hS1
end BASE
/-- bodies -/
theorem ki_ofI {l : Launch} {y : MethodName} {Ws ws' : List Cond} {rm : Room} {mc ms : Nat} {D : va_G} {tys : List (ClassId × FieldType)} {av : List Value} {w0 : va_W} {S : Type} {post : Int32 → S → Prop} {w1 : S → va_W} {cc : ByteArray} {maxL : Nat} {ret : Option FieldType}
    (hy : plainName y.cls = true) (hw : Ws = Cond.code y cc maxL ret :: ws') (hn : (lg_sl av).length ≤ maxL)
    (body : ∀ (p : Program) (e : Env) (s : State) (m : MethodId) (args : Array Value) (below : List Frame) (meth : Method) (c : Code) (A : Nat → Prop) (ls : Array Slot), p.tables.exec = Jvm.exec → c.code = cc → meth.sig.returnType = ret → (∀ w ∈ Ws, w.before args s = true) → s.vm.findClass y.cls = some m.cls → meth.locks = false → c.maxLocals = maxL → va_K D vwCl tys s → ki_env s → va_P D vwCl w0 s.heap → va_D A w0 → (∀ q : Nat, s.heap.size ≤ q → A q) → va_S A s.heap s.heap [] → lv_has ls maxL (lv_args 0 av) →
      W p l e rm s m args below meth c s.heap [] 0 0 (MQ below (va_Qi post (ki_B D tys A w1) A) args s mc ms A) (F0 m 0 ls [])) : ki_I l y Ws rm mc ms D tys av w0 post w1 := by
  intro sz
  refine Met.ofW (cc := cc) (maxL := maxL) (ret := ret) hy hw ?_
  intro p e s m args below meth c s₁ B hml hv
  obtain ⟨rfl, hsz, hP, hK, hD0, hE⟩ := hv
  subst hsz
  have hts := atoms_spec (ws := Ws) B.pre
  have hown : s.vm.findClass y.cls = some m.cls := findClass_of_methodNamed B.named
  have hl := lv_entry av (n := maxL) hn
  rw [lg_entry_eq]
  generalize (lg_sl av ++ List.replicate (maxL - (lg_sl av).length) Slot.unset).toArray = ls at hl ⊢
  exact body p e s m _ below meth c (va_A w0 s.heap.size) ls B.exec B.bytes B.returns hts hown B.notSynchronized hml hK hE hP hD0.self (fun q h => Or.inr h) va_S.rf hl
theorem ki_ofV {l : Launch} {y : MethodName} {Ws ws' : List Cond} {rm : Room} {mc ms : Nat} {D : va_G} {tys : List (ClassId × FieldType)} {av : List Value} {w0 : va_W} {S : Type} {post : S → Prop} {w1 : S → va_W} {cc : ByteArray} {maxL : Nat} {ret : Option FieldType}
    (hy : plainName y.cls = true) (hw : Ws = Cond.code y cc maxL ret :: ws') (hn : (lg_sl av).length ≤ maxL)
    (body : ∀ (p : Program) (e : Env) (s : State) (m : MethodId) (args : Array Value) (below : List Frame) (meth : Method) (c : Code) (A : Nat → Prop) (ls : Array Slot), meth.name = y.name → p.tables.exec = Jvm.exec → c.code = cc → meth.sig.returnType = ret → (∀ w ∈ Ws, w.before args s = true) → s.vm.findClass y.cls = some m.cls → meth.locks = false → c.maxLocals = maxL → va_K D vwCl tys s → ki_env s → va_P D vwCl w0 s.heap → va_D A w0 → (∀ q : Nat, s.heap.size ≤ q → A q) → va_S A s.heap s.heap [] → lv_has ls maxL (lv_args 0 av) →
      W p l e rm s m args below meth c s.heap [] 0 0 (MQ below (va_Qv post (ki_B D tys A w1) A) args s mc ms A) (F0 m 0 ls [])) : ki_V l y Ws rm mc ms D tys av w0 post w1 := by
  intro sz
  refine Met.ofW (cc := cc) (maxL := maxL) (ret := ret) hy hw ?_
  intro p e s m args below meth c s₁ B hml hv
  obtain ⟨rfl, hsz, hP, hK, hD0, hE⟩ := hv
  subst hsz
  have hts := atoms_spec (ws := Ws) B.pre
  have hown : s.vm.findClass y.cls = some m.cls := findClass_of_methodNamed B.named
  have hl := lv_entry av (n := maxL) hn
  rw [lg_entry_eq]
  generalize (lg_sl av ++ List.replicate (maxL - (lg_sl av).length) Slot.unset).toArray = ls at hl ⊢
  exact body p e s m _ below meth c (va_A w0 s.heap.size) ls (name_of_methodNamed B.named B.method).1 B.exec B.bytes B.returns hts hown B.notSynchronized hml hK hE hP hD0.self (fun q h => Or.inr h) va_S.rf hl
theorem ki_ofR {l : Launch} {y : MethodName} {Ws ws' : List Cond} {rm : Room} {D : va_G} {tys : List (ClassId × FieldType)} {av : List Value} {w0 : va_W} {v : Int32} {cc : ByteArray} {maxL : Nat} {ret : Option FieldType}
    (hy : plainName y.cls = true) (hw : Ws = Cond.code y cc maxL ret :: ws') (hn : (lg_sl av).length ≤ maxL)
    (body : ∀ (p : Program) (e : Env) (s : State) (m : MethodId) (args : Array Value) (below : List Frame) (meth : Method) (c : Code) (ls : Array Slot), p.tables.exec = Jvm.exec → c.code = cc → meth.sig.returnType = ret → (∀ w ∈ Ws, w.before args s = true) → s.vm.findClass y.cls = some m.cls → meth.locks = false → c.maxLocals = maxL → va_K D vwCl tys s → ki_env s → va_P D vwCl w0 s.heap → lv_has ls maxL (lv_args 0 av) →
      W p l e rm s m args below meth c s.heap [] 0 0 (MQ below (QcRead v) args s 0 0 (fun _ => False)) (F0 m 0 ls [])) : ki_R l y Ws rm D tys av w0 v := by
  refine Met.ofW (cc := cc) (maxL := maxL) (ret := ret) hy hw ?_
  intro p e s m args below meth c s₁ B hml hv
  obtain ⟨rfl, hP, hK, hE⟩ := hv
  have hts := atoms_spec (ws := Ws) B.pre
  have hown : s.vm.findClass y.cls = some m.cls := findClass_of_methodNamed B.named
  have hl := lv_entry av (n := maxL) hn
  rw [lg_entry_eq]
  generalize (lg_sl av ++ List.replicate (maxL - (lg_sl av).length) Slot.unset).toArray = ls at hl ⊢
  exact body p e s m _ below meth c ls B.exec B.bytes B.returns hts hown B.notSynchronized hml hK hE hP hl
end
section
/-! ===== the lists, as numbers ===== -/
theorem ki_b0 {P : Prop} [d : Decidable P] : (if P then (1 : Int32) else 0) = 0 ↔ ¬ P := by
  by_cases h : P <;> simp [h]
theorem ki_b1 {P : Prop} [d : Decidable P] : ¬ (if P then (1 : Int32) else 0) = 0 ↔ P := by
  by_cases h : P <;> simp [h]
/-- the cells that a list's array holds ahead of its length -/
def ki_rep (f : Nat → Int32) (L : List Int32) : Prop := L.length ≤ 64 ∧ ∀ j : Nat, j < L.length → L[j]? = some (f j)
def k_at (L : List Int32) (i : Int32) : Int32 := if i < 0 then -1 else if nI L.length ≤ i then -1 else L.getD i.toNatClampNeg (-1)
def k_join (L : List Int32) (key : Int32) : List Int32 := if key = -1 then L else if nI 64 ≤ nI L.length then L else L ++ [key]
def k_idx (L : List Int32) (key : Int32) : Int32 := if key ∈ L then nI (L.idxOf key) else -1
def k_gap (L : List Int32) (g : Int32) : List Int32 := if g < 0 then L else if g < nI L.length then L.eraseIdx g.toNatClampNeg else L
theorem ki_ix {i : Int32} {n : Nat} (h0 : ¬ i < 0) (h1 : ¬ nI n ≤ i) : ∃ j, j < n ∧ j < 2 ^ 31 ∧ i = nI j := by
  obtain ⟨j, hj, rfl⟩ := nI_of h0
  refine ⟨j, ?_, hj, rfl⟩
  rcases Nat.lt_or_ge j n with h | h
  · exact h
  · exact absurd (nI_le h hj) h1
theorem k_at_lt {f : Nat → Int32} {L : List Int32} {i : Int32} (hr : ki_rep f L) (h0 : ¬ i < 0) (h1 : ¬ nI L.length ≤ i) : ¬ nI 64 ≤ i := by
  obtain ⟨j, hj, hj2, rfl⟩ := ki_ix h0 h1
  have := hr.1
  exact nI_ge (by omega) (by decide)
theorem k_at_in {f : Nat → Int32} {L : List Int32} {i : Int32} (hr : ki_rep f L) (h0 : ¬ i < 0) (h1 : ¬ nI L.length ≤ i) : vp_in i 64 := by
  obtain ⟨j, hj, hj2, rfl⟩ := ki_ix h0 h1
  have := hr.1
  exact vp_in_nI (by omega) (by decide)
theorem k_at_v {f : Nat → Int32} {L : List Int32} {i : Int32} (hr : ki_rep f L) (h0 : ¬ i < 0) (h1 : ¬ nI L.length ≤ i) : f i.toNatClampNeg = k_at L i := by
  unfold k_at
  rw [if_neg h0, if_neg h1]
  obtain ⟨j, hj, hj2, rfl⟩ := ki_ix h0 h1
  rw [nI_clamp hj2, List.getD_eq_getElem?_getD, hr.2 j hj]
  rfl
theorem k_join_y {f : Nat → Int32} {L : List Int32} {key : Int32} (h0 : ¬ key = -1) (h1 : ¬ nI 64 ≤ nI L.length) : k_join L key = L ++ [key] := by
  unfold k_join; rw [if_neg h0, if_neg h1]
theorem k_len64 {L : List Int32} {f : Nat → Int32} (hr : ki_rep f L) (h1 : ¬ nI 64 ≤ nI L.length) : L.length < 64 := by
  have := hr.1
  rcases Nat.lt_or_ge L.length 64 with h | h
  · exact h
  · exact absurd (nI_le h (by omega)) h1
theorem k_join_n {L : List Int32} {key : Int32} (h0 : ¬ key = -1) (h1 : ¬ nI 64 ≤ nI L.length) : nI L.length + 1 = nI (k_join L key).length := by
  unfold k_join; rw [if_neg h0, if_neg h1, nI_1, List.length_append]; rfl
theorem k_join_rep {f : Nat → Int32} {L : List Int32} {key : Int32} (hr : ki_rep f L) (h0 : ¬ key = -1) (h1 : ¬ nI 64 ≤ nI L.length) : ki_rep (upd f (nI L.length).toNatClampNeg key) (k_join L key) := by
  have hl := k_len64 hr h1
  unfold k_join; rw [if_neg h0, if_neg h1, nI_clamp (by omega)]
  refine ⟨by simp; omega, fun j hj => ?_⟩
  rw [List.length_append] at hj
  unfold upd
  by_cases e : j = L.length
  · subst e
    simp
  · rw [if_neg e, List.getElem?_append_left (by simp at hj; omega)]
    exact hr.2 j (by simp at hj; omega)
theorem k_idx_lt {L : List Int32} {key : Int32} (hl : L.length ≤ 64) : k_idx L key < 0 ↔ key ∉ L := by
  unfold k_idx
  by_cases h : key ∈ L
  · rw [if_pos h]
    have := List.idxOf_lt_length_iff.mpr h
    exact ⟨fun q => absurd q (nI_pos (by omega)), fun q => absurd h q⟩
  · rw [if_neg h]
    exact ⟨fun _ => h, fun _ => by decide⟩
theorem k_erase {L : List Int32} {key : Int32} (hl : L.length ≤ 64) : k_gap L (k_idx L key) = L.erase key := by
  unfold k_gap
  by_cases h : key ∈ L
  · have h2 := List.idxOf_lt_length_iff.mpr h
    rw [if_neg (fun q => (k_idx_lt hl).mp q h)]
    unfold k_idx
    rw [if_pos h, if_pos (nI_lt h2 (by omega)), nI_clamp (by omega), List.erase_eq_eraseIdx_of_idxOf rfl]
  · rw [if_pos ((k_idx_lt hl).mpr h), List.erase_of_not_mem h]
theorem k_tail {L : List Int32} (hl : L.length ≤ 64) : k_gap L 0 = L.tail := by
  unfold k_gap
  rw [if_neg (by decide)]
  cases L with
  | nil => rw [if_neg (by decide)]; rfl
  | cons a t => rw [if_pos (by show nI 0 < _; exact nI_lt (by simp) (by omega))]; rfl
theorem k_head (L : List Int32) (hl : L.length ≤ 64) : k_at L 0 = L.headD (-1) := by
  unfold k_at
  rw [if_neg (by decide)]
  cases L with
  | nil => rw [if_pos (by decide)]; rfl
  | cons a t => rw [if_neg (by show ¬ _ ≤ nI 0; exact nI_ge (by simp) (by omega))]; rfl
theorem ki_rep0 : ki_rep (fun _ => 0) [] := ⟨Nat.zero_le _, fun j hj => absurd hj (Nat.not_lt_zero j)⟩
theorem k_idx_none {f : Nat → Int32} {L : List Int32} {key : Int32} {i : Nat} (hr : ki_rep f L) (hi : L.length ≤ i) (hb : ∀ j, j < i → ¬ f j = key) : k_idx L key = -1 := by
  unfold k_idx
  refine if_neg fun h => ?_
  obtain ⟨j, hj⟩ := List.getElem?_of_mem h
  have hl : j < L.length := (List.getElem?_eq_some_iff.mp hj).1
  have h2 := hr.2 j hl
  rw [hj] at h2
  exact hb j (by omega) (Option.some.inj h2).symm
theorem ki_before : ∀ (L : List Int32) (key : Int32) (i : Nat), i < L.idxOf key → ∀ hi : i < L.length, L[i] = key → False
  | [], _, i, _, hi, _ => absurd hi (Nat.not_lt_zero i)
  | a :: t, key, 0, h, _, e => by
    have e2 : a = key := e
    rw [List.idxOf_cons, e2] at h
    simp at h
  | a :: t, key, i + 1, h, hi, e => by
    rw [List.idxOf_cons] at h
    by_cases q : (a == key) = true
    · rw [q] at h; simp at h
    · have q2 : (a == key) = false := by simpa using q
      rw [q2] at h
      exact ki_before t key i (by simpa using h) (by simpa using hi) (by simpa using e)
theorem k_idx_some {f : Nat → Int32} {L : List Int32} {key : Int32} {i : Nat} (hr : ki_rep f L) (hi : i < L.length) (hb : ∀ j, j < i → ¬ f j = key) (he : f i = key) : k_idx L key = nI i := by
  have h1 := hr.2 i hi
  rw [he] at h1
  have hm : key ∈ L := List.mem_of_getElem? h1
  unfold k_idx
  rw [if_pos hm]
  congr 1
  have h3 := List.idxOf_lt_length_iff.mpr hm
  have h4 : L[L.idxOf key]? = some key := by rw [List.getElem?_eq_getElem h3, List.getElem_idxOf h3]
  have h5 := hr.2 _ h3
  rw [h4] at h5
  rcases Nat.lt_trichotomy (L.idxOf key) i with q | q | q
  · exact absurd (Option.some.inj h5).symm (hb _ q)
  · exact q
  · exfalso
    have h6 : L[i] = key := by
      have := List.getElem?_eq_getElem hi
      rw [h1] at this
      exact (Option.some.inj this).symm
    exact ki_before L key i q hi h6
theorem k_gap_rep {f f1 : Nat → Int32} {L : List Int32} {g : Int32} {g0 i : Nat} (hr : ki_rep f L) (hg : g = nI g0) (h0 : g0 < L.length) (he : i + 1 = L.length) (hgi : g0 ≤ i) (hf : ∀ j, f1 j = if g0 ≤ j ∧ j < i then f (j + 1) else f j) : ki_rep f1 (k_gap L g) := by
  have hl := hr.1
  subst hg
  unfold k_gap
  rw [if_neg (nI_pos (by omega)), if_pos (nI_lt h0 (by omega)), nI_clamp (by omega)]
  have hln : (L.eraseIdx g0).length = L.length - 1 := List.length_eraseIdx_of_lt h0
  refine ⟨by omega, fun j hj => ?_⟩
  rw [hln] at hj
  rw [List.getElem?_eraseIdx, hf]
  by_cases q : j < g0
  · rw [if_pos q, if_neg (by omega)]
    exact hr.2 j (by omega)
  · rw [if_neg q, if_pos (by omega)]
    exact hr.2 (j + 1) (by omega)
theorem k_gap_n {L : List Int32} {g : Int32} {g0 : Nat} (hg : g = nI g0) (h0 : g0 < L.length) (hl : L.length ≤ 64) : nI L.length - 1 = nI (k_gap L g).length := by
  subst hg
  unfold k_gap
  rw [if_neg (nI_pos (by omega)), if_pos (nI_lt h0 (by omega)), nI_clamp (by omega), List.length_eraseIdx_of_lt h0]
  exact pk_sub (b := 1) (by omega)
end
section
/-! ===== a cache as a value: its lists by number, its numbers by number ===== -/
abbrev ki_St : Type := (Nat → List Int32) × (Nat → Int32)
def ki_reps (F : Nat → Nat → Int32) (L : Nat → List Int32) : Prop := ki_rep (F 1) (L 1) ∧ ki_rep (F 2) (L 2) ∧ ki_rep (F 3) (L 3) ∧ ki_rep (F 4) (L 4)
def c_pages (st : ki_St) : Int32 := nI (st.1 1).length + nI (st.1 2).length
def c_rg (st : ki_St) : Int32 := nI (st.1 1).length + nI (st.1 3).length
def c_all (st : ki_St) : Int32 := c_pages st + nI (st.1 3).length + nI (st.1 4).length
abbrev c_full (st : ki_St) : Prop := c_pages st = st.2 6
abbrev c_drops (st : ki_St) : Prop := c_rg st = st.2 6 ∧ nI (st.1 3).length = 0
abbrev c_evR (st : ki_St) (b : Int32) : Prop := st.2 5 < nI (st.1 1).length ∨ (¬ b = 0 ∧ nI (st.1 1).length = st.2 5 ∧ ¬ nI (st.1 1).length ≤ 0)
def c_list (st : ki_St) (key : Int32) : Int32 := if key ∈ st.1 1 then 1 else if key ∈ st.1 2 then 2 else if key ∈ st.1 3 then 3 else if key ∈ st.1 4 then 4 else 0
def c_evict (st : ki_St) (b : Int32) : ki_St :=
  if c_evR st b then (va_up (va_up st.1 1 (k_gap (st.1 1) 0)) 3 (k_join (st.1 3) (k_at (st.1 1) 0)), va_up st.2 10 (st.2 10 + 1))
  else (va_up (va_up st.1 2 (k_gap (st.1 2) 0)) 4 (k_join (st.1 4) (k_at (st.1 2) 0)), va_up st.2 10 (st.2 10 + 1))
def c_room (st : ki_St) (b : Int32) : ki_St := if c_full st then c_evict st b else st
def c_adm1 (st : ki_St) : ki_St :=
  if c_drops st then (va_up st.1 1 (k_gap (st.1 1) 0), va_up st.2 10 (st.2 10 + 1))
  else if c_rg st = st.2 6 then (va_up st.1 3 (k_gap (st.1 3) 0), st.2)
  else if c_all st = 2 * st.2 6 then (va_up st.1 4 (k_gap (st.1 4) 0), st.2) else st
def c_admit (st : ki_St) (key : Int32) : ki_St := (va_up (c_room (c_adm1 st) 0).1 1 (k_join ((c_room (c_adm1 st) 0).1 1) key), (c_room (c_adm1 st) 0).2)
def c_step (o w : Int32) : Int32 := if 1 ≤ w then (if 1 < o / w then o / w else 1) else 1
def c_adapt (st : ki_St) (w : Int32) : ki_St :=
  if w = 3 then (st.1, va_up st.2 5 (if st.2 5 + c_step (nI (st.1 4).length) (nI (st.1 3).length) < st.2 6 then st.2 5 + c_step (nI (st.1 4).length) (nI (st.1 3).length) else st.2 6))
  else (st.1, va_up st.2 5 (if 0 < st.2 5 - c_step (nI (st.1 3).length) (nI (st.1 4).length) then st.2 5 - c_step (nI (st.1 3).length) (nI (st.1 4).length) else 0))
def c_run (st : ki_St) (key : Int32) : ki_St := (st.1, va_up (va_up st.2 8 (if ¬ st.2 9 = -1 ∧ key = st.2 9 + 1 then st.2 8 + 1 else 1)) 9 key)
def c_from (st : ki_St) (w key : Int32) : ki_St :=
  if w = 1 then (va_up st.1 1 (k_gap (st.1 1) (k_idx (st.1 1) key)), st.2) else if w = 2 then (va_up st.1 2 (k_gap (st.1 2) (k_idx (st.1 2) key)), st.2)
  else if w = 3 then (va_up st.1 3 (k_gap (st.1 3) (k_idx (st.1 3) key)), st.2) else if w = 4 then (va_up st.1 4 (k_gap (st.1 4) (k_idx (st.1 4) key)), st.2) else st
def c_forget (st : ki_St) (key : Int32) : ki_St := c_from st (c_list st key) key
def c_clear (st : ki_St) : ki_St := (va_up (va_up (va_up (va_up st.1 1 []) 2 []) 3 []) 4 [], va_up st.2 5 0)
def c_anew (k z : Int32) : ki_St := (fun _ => [], va_up (va_up (va_up (fun _ => 0) 6 k) 7 z) 9 (-1))
def c_join2 (st : ki_St) (key : Int32) : ki_St := (va_up st.1 2 (k_join (st.1 2) key), st.2)
def c_serve (st : ki_St) (key : Int32) : ki_St × Int32 :=
  if ¬ (c_run st key).2 7 = 0 ∧ ¬ (c_run st key).2 8 < (c_run st key).2 7 then
    (c_run st key, if c_list (c_run st key) key = 1 ∨ c_list (c_run st key) key = 2 then c_list (c_run st key) key else 6)
  else if c_list (c_run st key) key = 0 then (c_admit (c_run st key) key, 5)
  else if c_list (c_run st key) key = 1 ∨ c_list (c_run st key) key = 2 then (c_join2 (c_from (c_run st key) (c_list (c_run st key) key) key) key, c_list (c_run st key) key)
  else (c_join2 (c_from (c_room (c_adapt (c_run st key) (c_list (c_run st key) key)) (if c_list (c_run st key) key = 4 then 1 else 0)) (c_list (c_run st key) key) key) key, c_list (c_run st key) key)
def c_victim (st : ki_St) : Int32 := if c_drops st then k_at (st.1 1) 0 else if c_full st then (if c_evR st 0 then k_at (st.1 1) 0 else k_at (st.1 2) 0) else -1
def c_evN : Nat → ki_St → ki_St
  | 0, s => s
  | n + 1, s => c_evict (c_evN n s) 0
def k_dropN : Nat → List Int32 → List Int32
  | 0, L => L
  | n + 1, L => k_gap (k_dropN n L) 0
def c_capN (st : ki_St) (k : Int32) : Int32 := if 0 < c_pages st - k then c_pages st - k else 0
def c_cap1 (st : ki_St) (k : Int32) : ki_St := (st.1, va_up (va_up st.2 5 (if k < st.2 5 then k else st.2 5)) 6 k)
def c_cap2 (st : ki_St) (k : Int32) : ki_St := c_evN (c_capN st k).toNatClampNeg (c_cap1 st k)
def c_cap3 (st : ki_St) (k : Int32) : ki_St := (va_up (c_cap2 st k).1 3 (k_dropN (c_rg (c_cap2 st k) - (c_cap2 st k).2 6).toNatClampNeg ((c_cap2 st k).1 3)), (c_cap2 st k).2)
def c_cap (st : ki_St) (k : Int32) : ki_St := (va_up (c_cap3 st k).1 4 (k_dropN (c_all (c_cap3 st k) - 2 * (c_cap3 st k).2 6).toNatClampNeg ((c_cap3 st k).1 4)), (c_cap3 st k).2)
theorem ki_cl31 (d : Int32) : d.toNatClampNeg < 2 ^ 31 := by
  have := d.toInt_lt
  show d.toInt.toNat < 2 ^ 31
  omega
theorem ki_cnt_t {d : Int32} {i : Nat} (hi : i < 2 ^ 31) (h : d ≤ nI i) : d.toNatClampNeg ≤ i := by
  have h1 := Int32.le_iff_toInt_le.mp h
  rw [nI_toInt hi] at h1
  show d.toInt.toNat ≤ i
  omega
theorem ki_cnt_f {d : Int32} {i : Nat} (hi : i < 2 ^ 31) (h : ¬ d ≤ nI i) : i < d.toNatClampNeg := by
  have h1 : ¬ d.toInt ≤ (nI i).toInt := fun q => h (Int32.le_iff_toInt_le.mpr q)
  rw [nI_toInt hi] at h1
  show i < d.toInt.toNat
  omega
theorem c_where (w : Int32) : w = 1 ∨ w = 2 ∨ w = 3 ∨ w = 4 ∨ (w.toInt < 1 ∨ 4 < w.toInt) := by
  by_cases h : w.toInt < 1 ∨ 4 < w.toInt
  · exact Or.inr (Or.inr (Or.inr (Or.inr h)))
  · have e : ∀ v : Int32, w.toInt = v.toInt → w = v := fun v q => Int32.toInt_inj.mp q
    have h1 : w.toInt = 1 ∨ w.toInt = 2 ∨ w.toInt = 3 ∨ w.toInt = 4 := by omega
    rcases h1 with q | q | q | q
    · exact Or.inl (e 1 q)
    · exact Or.inr (Or.inl (e 2 q))
    · exact Or.inr (Or.inr (Or.inl (e 3 q)))
    · exact Or.inr (Or.inr (Or.inr (Or.inl (e 4 q))))
theorem c_from_out {st : ki_St} {w key : Int32} (h : w.toInt < 1 ∨ 4 < w.toInt) : c_from st w key = st := by
  unfold c_from
  have e : ∀ v : Int32, 1 ≤ v.toInt → v.toInt ≤ 4 → ¬ w = v := fun v a b q => by rw [q] at h; omega
  rw [if_neg (e 1 (by decide) (by decide)), if_neg (e 2 (by decide) (by decide)), if_neg (e 3 (by decide) (by decide)), if_neg (e 4 (by decide) (by decide))]
end
section
/-! ===== methods that may throw ===== -/
/-- what a made exception takes from Throwable's statics -/
def ki_Z (A : Nat → Prop) (U : State) (H : Heap) : Prop := vx_Zq Bundle.tN "UNASSIGNED_STACK" Bundle.steD A U H ∧ vx_Zq Bundle.tN "SUPPRESSED_SENTINEL" Bundle.listD A U H
theorem ki_Z.moved {A : Nat → Prop} {u U : State} {H : Heap} (hvm : u.vm.Alike U.vm) (h : ki_Z A u H) : ki_Z A U H := ⟨vx_Zq.moved hvm h.1, vx_Zq.moved hvm h.2⟩
theorem ki_Z.kept {A : Nat → Prop} {U : State} {H H1 : Heap} (h : ki_Z A U H) (hq : ∀ a : Nat, a < H.size → ¬ A a → H1[a]? = H[a]?) : ki_Z A U H1 := ⟨h.1.kept hq, h.2.kept hq⟩
theorem ki_Z.narrow {A B : Nat → Prop} {U : State} {H : Heap} (h : ki_Z A U H) (hAB : ∀ q, B q → A q) : ki_Z B U H := ⟨h.1.narrow hAB, h.2.narrow hAB⟩
def ki_InX (D : va_G) (tys : List (ClassId × FieldType)) (av : List Value) (w0 : va_W) (sz : Nat) : Array Value → State → Prop := va_Pc av (fun U => U.heap.size = sz ∧ va_P D vwCl w0 U.heap ∧ va_K D vwCl tys U ∧ va_D (fun _ => True) w0 ∧ ki_env U ∧ ki_Z (va_A w0 sz) U U.heap)
def ki_BX (D : va_G) (tys : List (ClassId × FieldType)) (A : Nat → Prop) (w0 : va_W) (E0 : String) : String → Unit → State → Prop := fun E _ t => E = E0 ∧ va_P D vwCl w0 t.heap ∧ va_K D vwCl tys t ∧ va_D A w0
def ki_XI (l : Launch) (y : MethodName) (Ws : List Cond) (rm : Room) (mc ms : Nat) (D : va_G) (tys : List (ClassId × FieldType)) (av : List Value) (w0 : va_W) {S : Type} (post : Int32 → S → Prop) (w1 : S → va_W) (E0 : String) (bad : Prop) : Prop :=
  l.stackTraces = false → ∀ sz : Nat, vx_Met l y Ws rm (ki_InX D tys av w0 sz) (va_Qi post (ki_B D tys (va_A w0 sz) w1) (va_A w0 sz)) (vx_X (fun _ : Unit => bad) (ki_BX D tys (va_A w0 sz) w0 E0) (va_A w0 sz)) mc ms (va_A w0 sz)
def ki_XV (l : Launch) (y : MethodName) (Ws : List Cond) (rm : Room) (mc ms : Nat) (D : va_G) (tys : List (ClassId × FieldType)) (av : List Value) (w0 : va_W) {S : Type} (post : S → Prop) (w1 : S → va_W) (E0 : String) (bad : Prop) : Prop :=
  l.stackTraces = false → ∀ sz : Nat, vx_Met l y Ws rm (ki_InX D tys av w0 sz) (va_Qv post (ki_B D tys (va_A w0 sz) w1) (va_A w0 sz)) (vx_X (fun _ : Unit => bad) (ki_BX D tys (va_A w0 sz) w0 E0) (va_A w0 sz)) mc ms (va_A w0 sz)
theorem ki_blindX {D : va_G} {tys : List (ClassId × FieldType)} {av : List Value} {w0 : va_W} {sz : Nat} : FrameBlind (ki_InX D tys av w0 sz) := fun a U g mk q => by
  obtain ⟨q0, q1, qP, qK, qD, qE, qZ⟩ := q
  exact ⟨q0, q1, qP, va_K.moved (u := U) (U := U.calling g mk a) (Vm.Alike.refl U.vm) qK, qD, qE.calling, ki_Z.moved (u := U) (U := U.calling g mk a) (Vm.Alike.refl U.vm) qZ⟩
theorem ki_ofXI {l : Launch} {y : MethodName} {Ws ws' : List Cond} {rm : Room} {mc ms : Nat} {D : va_G} {tys : List (ClassId × FieldType)} {av : List Value} {w0 : va_W} {S : Type} {post : Int32 → S → Prop} {w1 : S → va_W} {E0 : String} {bad : Prop} {cc : ByteArray} {maxL : Nat} {ret : Option FieldType}
    (hy : plainName y.cls = true) (hw : Ws = Cond.code y cc maxL ret :: ws') (hn : (lg_sl av).length ≤ maxL)
    (body : ∀ (p : Program) (e : Env) (s : State) (m : MethodId) (args : Array Value) (below : List Frame) (meth : Method) (c : Code) (A : Nat → Prop) (ls : Array Slot), l.stackTraces = false → (∀ x ∈ c.exceptionTable.toList, False) → ki_Z A s s.heap → p.tables.exec = Jvm.exec → c.code = cc → meth.sig.returnType = ret → (∀ w ∈ Ws, w.before args s = true) → s.vm.findClass y.cls = some m.cls → meth.locks = false → c.maxLocals = maxL → va_K D vwCl tys s → ki_env s → va_P D vwCl w0 s.heap → va_D A w0 → (∀ q : Nat, s.heap.size ≤ q → A q) → va_S A s.heap s.heap [] → lv_has ls maxL (lv_args 0 av) →
      W p l e rm s m args below meth c s.heap [] 0 0 (vx_MQ below (va_Qi post (ki_B D tys A w1) A) (vx_X (fun _ : Unit => bad) (ki_BX D tys A w0 E0) A) args s mc ms A) (F0 m 0 ls [])) : ki_XI l y Ws rm mc ms D tys av w0 post w1 E0 bad := by
  intro hl9 sz
  refine vx_ofW (cc := cc) (maxL := maxL) (ret := ret) hy hw ?_
  intro p e s m args below meth c s₁ B hml hout hv
  obtain ⟨rfl, hsz, hP, hK, hD0, hE, hZ⟩ := hv
  subst hsz
  have hts := atoms_spec (ws := Ws) B.pre
  have hown : s.vm.findClass y.cls = some m.cls := findClass_of_methodNamed B.named
  have hl := lv_entry av (n := maxL) hn
  rw [lg_entry_eq]
  generalize (lg_sl av ++ List.replicate (maxL - (lg_sl av).length) Slot.unset).toArray = ls at hl ⊢
  exact body p e s m _ below meth c (va_A w0 s.heap.size) ls hl9 hout hZ B.exec B.bytes B.returns hts hown B.notSynchronized hml hK hE hP hD0.self (fun q h => Or.inr h) va_S.rf hl
theorem ki_ofXV {l : Launch} {y : MethodName} {Ws ws' : List Cond} {rm : Room} {mc ms : Nat} {D : va_G} {tys : List (ClassId × FieldType)} {av : List Value} {w0 : va_W} {S : Type} {post : S → Prop} {w1 : S → va_W} {E0 : String} {bad : Prop} {cc : ByteArray} {maxL : Nat} {ret : Option FieldType}
    (hy : plainName y.cls = true) (hw : Ws = Cond.code y cc maxL ret :: ws') (hn : (lg_sl av).length ≤ maxL)
    (body : ∀ (p : Program) (e : Env) (s : State) (m : MethodId) (args : Array Value) (below : List Frame) (meth : Method) (c : Code) (A : Nat → Prop) (ls : Array Slot), l.stackTraces = false → (∀ x ∈ c.exceptionTable.toList, False) → ki_Z A s s.heap → p.tables.exec = Jvm.exec → c.code = cc → meth.sig.returnType = ret → (∀ w ∈ Ws, w.before args s = true) → s.vm.findClass y.cls = some m.cls → meth.locks = false → c.maxLocals = maxL → va_K D vwCl tys s → ki_env s → va_P D vwCl w0 s.heap → va_D A w0 → (∀ q : Nat, s.heap.size ≤ q → A q) → va_S A s.heap s.heap [] → lv_has ls maxL (lv_args 0 av) →
      W p l e rm s m args below meth c s.heap [] 0 0 (vx_MQ below (va_Qv post (ki_B D tys A w1) A) (vx_X (fun _ : Unit => bad) (ki_BX D tys A w0 E0) A) args s mc ms A) (F0 m 0 ls [])) : ki_XV l y Ws rm mc ms D tys av w0 post w1 E0 bad := by
  intro hl9 sz
  refine vx_ofW (cc := cc) (maxL := maxL) (ret := ret) hy hw ?_
  intro p e s m args below meth c s₁ B hml hout hv
  obtain ⟨rfl, hsz, hP, hK, hD0, hE, hZ⟩ := hv
  subst hsz
  have hts := atoms_spec (ws := Ws) B.pre
  have hown : s.vm.findClass y.cls = some m.cls := findClass_of_methodNamed B.named
  have hl := lv_entry av (n := maxL) hn
  rw [lg_entry_eq]
  generalize (lg_sl av ++ List.replicate (maxL - (lg_sl av).length) Slot.unset).toArray = ls at hl ⊢
  exact body p e s m _ below meth c (va_A w0 s.heap.size) ls hl9 hout hZ B.exec B.bytes B.returns hts hown B.notSynchronized hml hK hE hP hD0.self (fun q h => Or.inr h) va_S.rf hl
section THROW
variable {p : Program} {l : Launch} {e : Env} {R : Room} {s : State} {m : MethodId} {args : Array Value} {below : List Frame} {meth : Method} {c : Code} {H : Heap} {locs : List Loc} {cells slots : Nat} {Q : State → Prop}
variable {D : va_G} {tys tysC : List (ClassId × FieldType)} {A : Nat → Prop} {H0 : Heap} {ws wc wr : va_W}
variable {y : MethodName} {bytes cc : ByteArray} {maxL nL mc ms n index : Nat} {ret : Option FieldType} {Wy Ts : List Cond} {rm : Room} {own C : String} {b : Addr} {As rest : List Value} {ls : Array Slot} {pc : Nat} {st0 : List Value}
theorem ki_preX {sz : Nat} (hP : va_P D vwCl ws H) (hK : va_K D vwCl tys s) (hE : ki_env s) (hZ : ki_Z A s s.heap) (hD : va_D A ws) (hS : va_S A s.heap H locs) (hA : ∀ q, s.heap.size ≤ q → A q) (isC : List Nat) (hC : isC.map (fun i => ws[i]?) = wc.map some) (hn : va_nd isC = true) (ts : List Nat) (ht : ts.filterMap (fun i => tys[i]?) = tysC) (hz : H.size = sz) {av : List Value} :
    ∀ U : State, U.heap = H → s.WarmedH U.vm → ki_InX D tysC av wc sz av.toArray U := fun U hU hW => by
  have hF := va_free (wc := wc) hD hS hA isC hC
  subst hz
  exact ⟨rfl, by rw [hU], by rw [hU]; exact ki_P hP isC hC, va_K.moved hW.alike (hK.sub ts ht), (hD.sub isC hn hC).weaken (fun _ _ _ _ => trivial), hE.warm hW, by rw [hU]; exact ki_Z.moved hW.alike ((hZ.kept hS.2.1).narrow hF)⟩
/-- throw new E0("text") -/
theorem ki_thr {Qc : Array Value → State → Outcome → State → Prop} {text E0 : String} {ik is ic MC MS : Nat} {bad : Prop} (hx : p.tables.exec = Jvm.exec) (hb : c.code = cc) (hl9 : l.stackTraces = false) (hown : s.vm.findClass own = some m.cls) (hcls : Bundle.fit E0 = true)
    (hk : (Cond.classLink own ik E0).before args s = true) (hini : (Cond.initialized E0).before args s = true) (hstr : ∃ a, vk_R own is text a s) (hat : ∀ w ∈ (vx_atS own ic E0 ["java/lang/RuntimeException", "java/lang/Exception"]).filter goodWord, w.before args s = true)
    (hB : ∀ w ∈ (vx_atS own ic E0 ["java/lang/RuntimeException", "java/lang/Exception"]).filter (fun w => !goodWord w), w ∈ [Cond.castable E0 E0, .declares (Bundle.initS "java/lang/RuntimeException"), .declares (Bundle.initS "java/lang/Exception"), .declares (Bundle.initS Bundle.tN)]) (hcast : va_Nw (.castable E0 E0) s) (hdecl : ki_decl s)
    (hgood : ∀ w ∈ Cond.classLink own ik E0 :: Cond.initialized E0 :: vx_atS own ic E0 ["java/lang/RuntimeException", "java/lang/Exception"], vx_ot w = true)
    (hZ : ki_Z A s s.heap) (hS : va_S A s.heap H locs) (hsize : ls.size = c.maxLocals)
    (d0 : decode cc pc = .ok (.new ik, 3)) (d3 : decode cc (pc + 3) = .ok (.dup, 1)) (d4 : decode cc (pc + 4) = .ok (.ldc is, 2)) (d6 : decode cc (pc + 6) = .ok (.invokespecial ic, 3)) (d9 : decode cc (pc + 9) = .ok (.athrow, 1))
    (hout : ∀ x ∈ c.exceptionTable.toList, False) (hRf : 5 < R.frames) (hRl : (rest.map fun v => v.category).sum + 82 ≤ R.locals) (hRc : cells + 1 ≤ R.cells) (hRs : slots + 6 ≤ R.slots) (hlk : meth.locks = false) (hbad : bad)
    (hK : va_K D vwCl tys s) (hP : va_P D vwCl ws H) (hD : va_D A ws) (hc : cells + 1 ≤ MC) (hs : slots + 6 ≤ MS) :
    W p l e R s m args below meth c H locs cells slots (vx_MQ below Qc (vx_X (fun _ : Unit => bad) (ki_BX D tys A ws E0) A) args s MC MS A) (F0 m pc ls rest) := by
  obtain ⟨a, hstr⟩ := hstr
  exact vx_throwS (names := ["java/lang/RuntimeException", "java/lang/Exception"]) (text := text) (sa := a) (A := A) hx hb hl9 hown hcls (by decide +kernel) hk hini hstr (vx_hat hat hB (vx_c (va_Nw.use rfl hcast) (vx_c (va_Nw.use rfl hdecl.1) (vx_c (va_Nw.use rfl hdecl.2.1) (vx_c (va_Nw.use rfl hdecl.2.2) vx_n))))) hgood hZ.1 hZ.2 hS hsize d0 d3 d4 d6 d9 (fun x hx9 => (hout x hx9).elim) hRf hRl hRc hRs hlk
    (fun t hvm hz hq => ⟨(), hbad, ⟨rfl, hP.kept (fun k x hk => hq x.1 (hP k x hk).lt), va_K.moved hvm hK, hD⟩, ⟨Nat.le_trans hS.1 hz, fun q h1 h2 => (hq q (Nat.lt_of_lt_of_le h1 hS.1)).trans (hS.2.1 q h1 h2)⟩⟩) hS.2.2 hc hs
/-- behind a call that may throw, no handler here -/
theorem ki_kx {Qc : Array Value → State → Outcome → State → Prop} {E0 : String} {MC MS : Nat} {bad badC : Prop} {px : List Nat} (hP : va_P D vwCl ws H) (hD : va_D A ws) (hK : va_K D vwCl tys s) (isC isR : List Nat) (hC : isC.map (fun i => ws[i]?) = wc.map some) (hR : isR.map (fun i => ws[i]?) = wr.map some) (hnR : va_nd isR = true) (hdis : ∀ i ∈ isR, i ∉ isC)
    (hF : ∀ q, va_A wc H.size q → A q) (hpx : px.map (fun i => (wr ++ wc)[i]?) = ws.map some) (hpxn : va_nd px = true) (hout : ∀ x ∈ c.exceptionTable.toList, False) (hlk : meth.locks = false) (hbad : badC → bad) (hc : cells ≤ MC) (hs : slots ≤ MS)
    (E : String) (ce : Cell) (q9 : Addr) (u : Unit) (t : State) (H1 : Heap) (locs1 : List Loc) (ht : t.heap = H1) (hu : badC) (hB : ki_BX D tysC (va_A wc H.size) wc E0 E u t) (hk1 : ∀ q : Nat, q < H.size → ¬ va_A wc H.size q → H1[q]? = H[q]?) (hS1 : va_S A s.heap H1 locs1) (hce : H1[q9]? = some ce) (hv : ce.vm = .none) (hcl : s.vm.findClass E = some ce.cls) :
    vx_W p l e R s m args below meth c H1 locs1 cells slots (vx_MQ below Qc (vx_X (fun _ : Unit => bad) (ki_BX D tys A ws E0) A) args s MC MS A) (F0 m pc ls rest) q9 := by
  obtain ⟨hE0, hP1, hK1, hD1⟩ := hB
  obtain ⟨hP2, hD2⟩ := ki_back (w1 := fun _ : Unit => wc) (w2 := fun _ : Unit => ws) (u := ()) hP hD isC isR hC hR hnR hdis hF px hpx hpxn ht ⟨hP1, hK1, hD1⟩ hk1
  exact vx_out (E := E) (ce := ce) (fun x hx => (hout x hx).elim) hlk hce hv hcl (fun t' ht' hvm => ⟨(), hbad hu, ⟨hE0, by rw [ht']; exact hP2, va_K.moved hvm hK, hD2⟩, hS1.F ht'⟩) hS1.2.2 hc hs
theorem ki_cSXV {Qc : Array Value → State → Outcome → State → Prop} {S : Type} {post : S → Prop} {w1 : S → va_W} {E0 : String} {bad badC : Prop} {MC MS : Nat} (Sx : CallFix p m c cc nL s args Ts own) (hl9 : l.stackTraces = false) (hM : ki_XV l y Wy rm mc ms D tysC As wc post w1 E0 badC) (cw : CallB R s args own index y bytes maxL ret Wy rm mc ms n ∧ (Cond.static y).before args s = true)
    (hK : va_K D vwCl tys s) (hE : ki_env s) (hZ : ki_Z A s s.heap) (hP : va_P D vwCl ws H) (hD : va_D A ws) (hS : va_S A s.heap H locs) (hA : ∀ q, s.heap.size ≤ q → A q) (ts : List Nat) (ht : ts.filterMap (fun i => tys[i]?) = tysC)
    (isC isR : List Nat) (hC : isC.map (fun i => ws[i]?) = wc.map some) (hnC : va_nd isC = true) (hR : isR.map (fun i => ws[i]?) = wr.map some) (hnR : va_nd isR = true) (hdis : ∀ i ∈ isR, i ∉ isC)
    (hn : As.length = n) (hsize : ls.size = nL) (hst : st0 = As.reverse ++ rest) (hroom : (rest.map fun v => v.category).sum ≤ 8) (hdg : decode cc pc = .ok (.invokestatic index, 3)) (hf : cells + mc ≤ R.cells ∧ slots + ms ≤ R.slots)
    (hout : ∀ x ∈ c.exceptionTable.toList, False) (hlk : meth.locks = false) (hbad : badC → bad) (hc : cells + mc ≤ MC) (hs : slots + ms ≤ MS) (px : List Nat) (hpx : px.map (fun i => (wr ++ wc)[i]?) = ws.map some) (hpxn : va_nd px = true)
    (perm : List Nat) (w2 : S → va_W) (hperm : ∀ u, perm.map (fun i => (wr ++ w1 u)[i]?) = (w2 u).map some) (hpn : va_nd perm = true)
    (kk : ∀ (u : S) (H1 : Heap) (locs1 : List Loc), post u → va_P D vwCl (w2 u) H1 → va_D A (w2 u) → va_S A s.heap H1 locs1 → W p l e R s m args below meth c H1 locs1 (cells + mc) (slots + ms) (vx_MQ below Qc (vx_X (fun _ : Unit => bad) (ki_BX D tys A ws E0) A) args s MC MS A) (F0 m (pc + 3) ls rest)) :
    W p l e R s m args below meth c H locs cells slots (vx_MQ below Qc (vx_X (fun _ : Unit => bad) (ki_BX D tys A ws E0) A) args s MC MS A) (F0 m pc ls st0) := by
  have hF := va_free (wc := wc) hD hS hA isC hC
  refine vx_callv (vx_runS Sx (hM hl9 H.size) cw ⟨ki_blindX, ki_preX hP hK hE hZ hD hS hA isC hC hnC ts ht rfl⟩ rfl hn hsize hst (lv_room hroom) hdg hf) hS (fun q _ h => hF q h) hF (fun q _ h => hF q h) ?_ ?_
  · intro E ce q9 u t H1 locs1 ht9 hvm hu hB hz1 hk1 hS1 hce hv hcl
    exact ki_kx hP hD hK isC isR hC hR hnR hdis hF hpx hpxn hout hlk hbad hc hs E ce q9 u t H1 locs1 ht9 hu hB hk1 hS1 hce hv hcl
  · intro u t H1 locs1 ht9 hvm hw hB hz1 hk1 hS1
    obtain ⟨hP2, hD2⟩ := ki_back hP hD isC isR hC hR hnR hdis hF perm (hperm u) hpn ht9 hB hk1
    exact kk u H1 locs1 hw hP2 hD2 hS1
theorem ki_cSXI {Qc : Array Value → State → Outcome → State → Prop} {S : Type} {post : Int32 → S → Prop} {w1 : S → va_W} {E0 : String} {bad badC : Prop} {MC MS : Nat} (Sx : CallFix p m c cc nL s args Ts own) (hl9 : l.stackTraces = false) (hM : ki_XI l y Wy rm mc ms D tysC As wc post w1 E0 badC) (cw : CallB R s args own index y bytes maxL ret Wy rm mc ms n ∧ (Cond.static y).before args s = true)
    (hK : va_K D vwCl tys s) (hE : ki_env s) (hZ : ki_Z A s s.heap) (hP : va_P D vwCl ws H) (hD : va_D A ws) (hS : va_S A s.heap H locs) (hA : ∀ q, s.heap.size ≤ q → A q) (ts : List Nat) (ht : ts.filterMap (fun i => tys[i]?) = tysC)
    (isC isR : List Nat) (hC : isC.map (fun i => ws[i]?) = wc.map some) (hnC : va_nd isC = true) (hR : isR.map (fun i => ws[i]?) = wr.map some) (hnR : va_nd isR = true) (hdis : ∀ i ∈ isR, i ∉ isC)
    (hn : As.length = n) (hsize : ls.size = nL) (hst : st0 = As.reverse ++ rest) (hroom : (rest.map fun v => v.category).sum ≤ 8) (hdg : decode cc pc = .ok (.invokestatic index, 3)) (hf : cells + mc ≤ R.cells ∧ slots + ms ≤ R.slots)
    (hout : ∀ x ∈ c.exceptionTable.toList, False) (hlk : meth.locks = false) (hbad : badC → bad) (hc : cells + mc ≤ MC) (hs : slots + ms ≤ MS) (px : List Nat) (hpx : px.map (fun i => (wr ++ wc)[i]?) = ws.map some) (hpxn : va_nd px = true)
    (perm : List Nat) (w2 : S → va_W) (hperm : ∀ u, perm.map (fun i => (wr ++ w1 u)[i]?) = (w2 u).map some) (hpn : va_nd perm = true)
    (kk : ∀ (r : Int32) (u : S) (H1 : Heap) (locs1 : List Loc), post r u → va_P D vwCl (w2 u) H1 → va_D A (w2 u) → va_S A s.heap H1 locs1 → W p l e R s m args below meth c H1 locs1 (cells + mc) (slots + ms) (vx_MQ below Qc (vx_X (fun _ : Unit => bad) (ki_BX D tys A ws E0) A) args s MC MS A) (F0 m (pc + 3) ls (.int r :: rest))) :
    W p l e R s m args below meth c H locs cells slots (vx_MQ below Qc (vx_X (fun _ : Unit => bad) (ki_BX D tys A ws E0) A) args s MC MS A) (F0 m pc ls st0) := by
  have hF := va_free (wc := wc) hD hS hA isC hC
  refine vx_calli (vx_runS Sx (hM hl9 H.size) cw ⟨ki_blindX, ki_preX hP hK hE hZ hD hS hA isC hC hnC ts ht rfl⟩ rfl hn hsize hst (lv_room hroom) hdg hf) hS (fun q _ h => hF q h) hF (fun q _ h => hF q h) ?_ ?_
  · intro E ce q9 u t H1 locs1 ht9 hvm hu hB hz1 hk1 hS1 hce hv hcl
    exact ki_kx hP hD hK isC isR hC hR hnR hdis hF hpx hpxn hout hlk hbad hc hs E ce q9 u t H1 locs1 ht9 hu hB hk1 hS1 hce hv hcl
  · intro r u t H1 locs1 ht9 hvm hw hB hz1 hk1 hS1
    obtain ⟨hP2, hD2⟩ := ki_back hP hD isC isR hC hR hnR hdis hF perm (hperm u) hpn ht9 hB hk1
    exact kk r u H1 locs1 hw hP2 hD2 hS1
end THROW
end
section
/-! ===== the cache with its log and counters, as values ===== -/
abbrev a_badKey (key : Int32) : Prop := key < 0 ∨ ¬ key ≤ 9999
abbrev a_badCap (k : Int32) : Prop := k < 1 ∨ ¬ k ≤ 32
abbrev a_badScan (z : Int32) : Prop := ¬ z = 0 ∧ (z < 2 ∨ ¬ z ≤ 20)
abbrev a_badPlace (L : List Int32) (i : Int32) : Prop := i < 0 ∨ ¬ i < nI L.length
def a_log (lg : List Int32) (key : Int32) : List Int32 := if nI lg.length < 60 then k_join lg key else k_join (k_gap lg 0) key
def a_count (kk : Nat → Int32) (w : Int32) : Nat → Int32 :=
  if w = 1 ∨ w = 2 then va_up (va_up kk 0 (kk 0 + 1)) 1 (kk 1 + 1)
  else if w = 3 ∨ w = 4 then va_up (va_up kk 0 (kk 0 + 1)) 2 (kk 2 + 1)
  else if w = 6 then va_up (va_up kk 0 (kk 0 + 1)) 3 (kk 3 + 1) else va_up kk 0 (kk 0 + 1)
def h_st (k z : Int32) (lg : List Int32) : Nat → ki_St
  | 0 => c_anew k z
  | n + 1 => (c_serve (h_st k z lg n) (k_at lg (nI n))).1
def h_n (k z : Int32) (lg : List Int32) : Nat → Int32
  | 0 => 0
  | n + 1 => if (c_serve (h_st k z lg n) (k_at lg (nI n))).2 = 1 ∨ (c_serve (h_st k z lg n) (k_at lg (nI n))).2 = 2 then h_n k z lg n + 1 else h_n k z lg n
def r_step (k : Int32) (P : List Int32) (key : Int32) : List Int32 :=
  if key ∈ P then k_join (k_gap P (k_idx P key)) key
  else if nI (k_gap P (k_idx P key)).length < k then k_join (k_gap P (k_idx P key)) key
  else k_join (k_gap (k_gap P (k_idx P key)) 0) key
def r_pg (k : Int32) (lg : List Int32) : Nat → List Int32
  | 0 => []
  | n + 1 => r_step k (r_pg k lg n) (k_at lg (nI n))
def r_n (k : Int32) (lg : List Int32) : Nat → Int32
  | 0 => 0
  | n + 1 => if k_at lg (nI n) ∈ r_pg k lg n then r_n k lg n + 1 else r_n k lg n
end
section
/-! ===== what holds of every cache that the calls make ===== -/
def p_cnt (st : ki_St) (x : Int32) : Nat := (st.1 1).count x + (st.1 2).count x + (st.1 3).count x + (st.1 4).count x
/-- each key once at most, none of them NONE, 64 at most -/
def p_W (st : ki_St) : Prop := (∀ x, p_cnt st x ≤ 1) ∧ p_cnt st (-1) = 0 ∧ (st.1 1).length + (st.1 2).length + (st.1 3).length + (st.1 4).length ≤ 64
/-- the invariant, n requests long -/
def p_Inv (n : Nat) (st : ki_St) : Prop := p_W st ∧ ∃ k g r z : Nat, (st.2 6 = nI k ∧ 1 ≤ k ∧ k ≤ 32) ∧ (st.2 5 = nI g ∧ g ≤ k) ∧ (st.2 8 = nI r ∧ r ≤ n) ∧ (st.2 7 = nI z ∧ z ≤ 20) ∧ (st.2 9 = -1 ↔ r = 0) ∧
  (st.1 1).length + (st.1 2).length ≤ k ∧ (st.1 1).length + (st.1 3).length ≤ k ∧ (st.1 1).length + (st.1 2).length + (st.1 3).length + (st.1 4).length ≤ 2 * k
theorem k_gap0 {L : List Int32} (hl : L.length ≤ 64) : k_gap L 0 = L.tail := k_tail hl
theorem k_at0 {a : Int32} {T : List Int32} (hl : (a :: T).length ≤ 64) : k_at (a :: T) 0 = a := k_head _ hl
theorem k_join_ok {L : List Int32} {key : Int32} (h0 : ¬ key = -1) (h1 : L.length < 64) : k_join L key = L ++ [key] := by
  unfold k_join
  rw [if_neg h0, if_neg (nI_ge h1 (by decide))]
theorem p_pages {st : ki_St} : c_pages st = nI ((st.1 1).length + (st.1 2).length) := nI_add _ _
theorem p_rg {st : ki_St} : c_rg st = nI ((st.1 1).length + (st.1 3).length) := nI_add _ _
theorem p_all {st : ki_St} : c_all st = nI ((st.1 1).length + (st.1 2).length + (st.1 3).length + (st.1 4).length) := by
  unfold c_all
  rw [p_pages, nI_add, nI_add]
theorem p_full {st : ki_St} {k : Nat} (hk : st.2 6 = nI k) (hk2 : k ≤ 64) (hw : p_W st) : c_full st ↔ (st.1 1).length + (st.1 2).length = k := by
  have := hw.2.2
  unfold c_full
  rw [p_pages, hk, nI_eq (by omega) (by omega)]
theorem p_evR {st : ki_St} {b : Int32} {g : Nat} (hg : st.2 5 = nI g) (hg2 : g ≤ 64) (hw : p_W st) : c_evR st b ↔ (g < (st.1 1).length ∨ (¬ b = 0 ∧ (st.1 1).length = g ∧ 0 < (st.1 1).length)) := by
  have := hw.2.2
  unfold c_evR
  rw [hg, nI_ltI (by omega) (by omega), nI_eq (by omega) (by omega)]
  have h3 : (¬ nI (st.1 1).length ≤ 0) ↔ 0 < (st.1 1).length := by
    show (¬ nI (st.1 1).length ≤ nI 0) ↔ _
    rw [nI_leI (by omega) (by omega)]
    omega
  rw [h3]
theorem p_drops {st : ki_St} {k : Nat} (hk : st.2 6 = nI k) (hk2 : k ≤ 64) (hw : p_W st) : c_drops st ↔ ((st.1 1).length + (st.1 3).length = k ∧ (st.1 3).length = 0) := by
  have := hw.2.2
  unfold c_drops
  rw [p_rg, hk, nI_eq (by omega) (by omega)]
  have h3 : nI (st.1 3).length = 0 ↔ (st.1 3).length = 0 := by
    show nI (st.1 3).length = nI 0 ↔ _
    rw [nI_eq (by omega) (by omega)]
  rw [h3]
theorem p_rgk {st : ki_St} {k : Nat} (hk : st.2 6 = nI k) (hk2 : k ≤ 64) (hw : p_W st) : c_rg st = st.2 6 ↔ (st.1 1).length + (st.1 3).length = k := by
  have := hw.2.2
  rw [p_rg, hk, nI_eq (by omega) (by omega)]
theorem p_allk {st : ki_St} {k : Nat} (hk : st.2 6 = nI k) (hk2 : k ≤ 64) (hw : p_W st) : c_all st = 2 * st.2 6 ↔ (st.1 1).length + (st.1 2).length + (st.1 3).length + (st.1 4).length = 2 * k := by
  have := hw.2.2
  rw [p_all, hk, show (2 : Int32) * nI k = nI (2 * k) from pk_mul 2 k, nI_eq (by omega) (by omega)]
theorem p_mem {L : List Int32} {x : Int32} : x ∈ L ↔ 0 < L.count x := List.count_pos_iff.symm
theorem p_ne1 {st : ki_St} (hw : p_W st) {i : Nat} (h1 : 1 ≤ i) (h4 : i ≤ 4) {x : Int32} (hx : x ∈ st.1 i) : ¬ x = -1 := by
  intro e
  subst e
  have h := hw.2.1
  unfold p_cnt at h
  have h2 := p_mem.mp hx
  rcases (show i = 1 ∨ i = 2 ∨ i = 3 ∨ i = 4 by omega) with rfl | rfl | rfl | rfl <;> omega
theorem p_nodup {st : ki_St} (hw : p_W st) {i : Nat} (h1 : 1 ≤ i) (h4 : i ≤ 4) : (st.1 i).Nodup := by
  refine List.nodup_iff_count.mpr fun x => ?_
  have h := hw.1 x
  unfold p_cnt at h
  rcases (show i = 1 ∨ i = 2 ∨ i = 3 ∨ i = 4 by omega) with rfl | rfl | rfl | rfl <;> omega
theorem p_apart {st : ki_St} (hw : p_W st) {i j : Nat} (h1 : 1 ≤ i) (h4 : i ≤ 4) (g1 : 1 ≤ j) (g4 : j ≤ 4) {x : Int32} (hi : x ∈ st.1 i) (hj : x ∈ st.1 j) : i = j := by
  have h := hw.1 x
  unfold p_cnt at h
  have a := p_mem.mp hi
  have b := p_mem.mp hj
  rcases (show i = 1 ∨ i = 2 ∨ i = 3 ∨ i = 4 by omega) with rfl | rfl | rfl | rfl <;> rcases (show j = 1 ∨ j = 2 ∨ j = 3 ∨ j = 4 by omega) with rfl | rfl | rfl | rfl <;> first | rfl | omega
/-- an eviction, its four lists told -/
theorem p_evict1 {st : ki_St} {b : Int32} (hw : p_W st) (h : c_evR st b) {a : Int32} {T : List Int32} (hL : st.1 1 = a :: T) : c_evict st b = (va_up (va_up st.1 1 T) 3 (st.1 3 ++ [a]), va_up st.2 10 (st.2 10 + 1)) := by
  have hl := hw.2.2
  have ha : ¬ a = -1 := p_ne1 hw (i := 1) (by decide) (by decide) (by rw [hL]; exact List.mem_cons_self)
  rw [hL] at hl
  simp only [List.length_cons] at hl
  unfold c_evict
  rw [if_pos h, hL, k_gap0 (by simp; omega), k_at0 (by simp; omega), k_join_ok ha (by omega)]
  rfl
theorem p_evict2 {st : ki_St} {b : Int32} (hw : p_W st) (h : ¬ c_evR st b) {a : Int32} {T : List Int32} (hL : st.1 2 = a :: T) : c_evict st b = (va_up (va_up st.1 2 T) 4 (st.1 4 ++ [a]), va_up st.2 10 (st.2 10 + 1)) := by
  have hl := hw.2.2
  have ha : ¬ a = -1 := p_ne1 hw (i := 2) (by decide) (by decide) (by rw [hL]; exact List.mem_cons_self)
  rw [hL] at hl
  simp only [List.length_cons] at hl
  unfold c_evict
  rw [if_neg h, hL, k_gap0 (by simp; omega), k_at0 (by simp; omega), k_join_ok ha (by omega)]
  rfl
/-- what an eviction keeps -/
theorem p_evict {st : ki_St} {b : Int32} {g : Nat} (hw : p_W st) (hg : st.2 5 = nI g) (hg2 : g ≤ 64) (h2 : ¬ c_evR st b → ¬ st.1 2 = []) :
    p_W (c_evict st b) ∧ (∀ i, i ≠ 10 → (c_evict st b).2 i = st.2 i) ∧ (c_evict st b).2 10 = st.2 10 + 1 ∧
    ((c_evict st b).1 1).length + ((c_evict st b).1 2).length + 1 = (st.1 1).length + (st.1 2).length ∧
    ((c_evict st b).1 1).length + ((c_evict st b).1 3).length = (st.1 1).length + (st.1 3).length ∧
    ((c_evict st b).1 2).length + ((c_evict st b).1 4).length = (st.1 2).length + (st.1 4).length ∧ (∀ x, p_cnt (c_evict st b) x = p_cnt st x) ∧
    (∀ x, x ∈ st.1 3 → x ∈ (c_evict st b).1 3) ∧ (∀ x, x ∈ st.1 4 → x ∈ (c_evict st b).1 4) := by
  have hl := hw.2.2
  by_cases h : c_evR st b
  · have h1 : 0 < (st.1 1).length := by
      rcases (p_evR hg hg2 hw).mp h with q | q <;> omega
    obtain ⟨a, T, hL⟩ := List.exists_cons_of_length_pos h1
    have e := p_evict1 hw h hL
    have ec : ∀ x, p_cnt (c_evict st b) x = p_cnt st x := fun x => by
      rw [e]
      show T.count x + (st.1 2).count x + (st.1 3 ++ [a]).count x + (st.1 4).count x = (st.1 1).count x + (st.1 2).count x + (st.1 3).count x + (st.1 4).count x
      simp only [hL, List.count_append, List.count_cons, List.count_nil]
      omega
    refine ⟨⟨fun x => by rw [ec]; exact hw.1 x, by rw [ec]; exact hw.2.1, ?_⟩, ?_, ?_, ?_, ?_, ?_, ec, ?_, ?_⟩ <;> rw [e]
    · show T.length + (st.1 2).length + (st.1 3 ++ [a]).length + (st.1 4).length ≤ 64
      rw [hL] at hl
      simp at hl ⊢
      omega
    · intro i hi
      exact va_up_ne _ _ hi
    · rfl
    · show T.length + (st.1 2).length + 1 = (st.1 1).length + (st.1 2).length
      rw [hL]; simp; omega
    · show T.length + (st.1 3 ++ [a]).length = (st.1 1).length + (st.1 3).length
      rw [hL]; simp; omega
    · rfl
    · intro x hx
      exact List.mem_append_left _ hx
    · intro x hx
      exact hx
  · obtain ⟨a, T, hL⟩ := List.exists_cons_of_ne_nil (h2 h)
    have e := p_evict2 hw h hL
    have ec : ∀ x, p_cnt (c_evict st b) x = p_cnt st x := fun x => by
      rw [e]
      show (st.1 1).count x + T.count x + (st.1 3).count x + (st.1 4 ++ [a]).count x = (st.1 1).count x + (st.1 2).count x + (st.1 3).count x + (st.1 4).count x
      simp only [hL, List.count_append, List.count_cons, List.count_nil]
      omega
    refine ⟨⟨fun x => by rw [ec]; exact hw.1 x, by rw [ec]; exact hw.2.1, ?_⟩, ?_, ?_, ?_, ?_, ?_, ec, ?_, ?_⟩ <;> rw [e]
    · show (st.1 1).length + T.length + (st.1 3).length + (st.1 4 ++ [a]).length ≤ 64
      rw [hL] at hl
      simp at hl ⊢
      omega
    · intro i hi
      exact va_up_ne _ _ hi
    · rfl
    · show (st.1 1).length + T.length + 1 = (st.1 1).length + (st.1 2).length
      rw [hL]; simp; omega
    · rfl
    · show T.length + (st.1 4 ++ [a]).length = (st.1 2).length + (st.1 4).length
      rw [hL]; simp; omega
    · intro x hx
      exact hx
    · intro x hx
      exact List.mem_append_left _ hx
end
section
/-! ===== the invariant, call by call ===== -/
theorem p_W_sub {st s' : ki_St} (h1 : (s'.1 1).Sublist (st.1 1)) (h2 : (s'.1 2).Sublist (st.1 2)) (h3 : (s'.1 3).Sublist (st.1 3)) (h4 : (s'.1 4).Sublist (st.1 4)) (hw : p_W st) : p_W s' := by
  have c1 := fun x => h1.count_le x
  have c2 := fun x => h2.count_le x
  have c3 := fun x => h3.count_le x
  have c4 := fun x => h4.count_le x
  have l1 := h1.length_le
  have l2 := h2.length_le
  have l3 := h3.length_le
  have l4 := h4.length_le
  obtain ⟨w1, w2, w3⟩ := hw
  refine ⟨fun x => ?_, ?_, by omega⟩
  · have := w1 x; have := c1 x; have := c2 x; have := c3 x; have := c4 x
    unfold p_cnt at *
    omega
  · have := c1 (-1); have := c2 (-1); have := c3 (-1); have := c4 (-1)
    unfold p_cnt at *
    omega
theorem k_gap_sub (L : List Int32) (g : Int32) : (k_gap L g).Sublist L := by
  unfold k_gap
  split
  · exact List.Sublist.refl _
  · split
    · exact List.eraseIdx_sublist _ _
    · exact List.Sublist.refl _
theorem p_room {st : ki_St} {b : Int32} {k g : Nat} (hw : p_W st) (hk : st.2 6 = nI k) (hk1 : 1 ≤ k) (hk2 : k ≤ 32) (hg : st.2 5 = nI g) (hg2 : g ≤ 64) (hp : (st.1 1).length + (st.1 2).length ≤ k) (h2 : (st.1 1).length + (st.1 2).length = k → ¬ c_evR st b → ¬ st.1 2 = []) :
    p_W (c_room st b) ∧ (∀ i, i ≠ 10 → (c_room st b).2 i = st.2 i) ∧ ((c_room st b).1 1).length + ((c_room st b).1 2).length < k ∧
    ((c_room st b).1 1).length + ((c_room st b).1 3).length = (st.1 1).length + (st.1 3).length ∧ ((c_room st b).1 2).length + ((c_room st b).1 4).length = (st.1 2).length + (st.1 4).length ∧
    (∀ x, p_cnt (c_room st b) x = p_cnt st x) ∧ (∀ x, x ∈ st.1 3 → x ∈ (c_room st b).1 3) ∧ (∀ x, x ∈ st.1 4 → x ∈ (c_room st b).1 4) := by
  unfold c_room
  by_cases h : c_full st
  · rw [if_pos h]
    have hf := (p_full hk (by omega) hw).mp h
    obtain ⟨a1, a2, a3, a4, a5, a6, a7, a8, a9⟩ := p_evict hw hg hg2 (h2 hf)
    exact ⟨a1, a2, by omega, a5, a6, a7, a8, a9⟩
  · rw [if_neg h]
    have hf : ¬ _ := fun q => h ((p_full hk (by omega) hw).mpr q)
    exact ⟨hw, fun _ _ => rfl, by omega, rfl, rfl, fun _ => rfl, fun _ q => q, fun _ q => q⟩
theorem p_join1 {st : ki_St} {key : Int32} (hw : p_W st) (h0 : ¬ key = -1) (hc : p_cnt st key = 0) (hl : (st.1 1).length + (st.1 2).length + (st.1 3).length + (st.1 4).length < 64) :
    p_W (va_up st.1 1 (k_join (st.1 1) key), st.2) ∧ (k_join (st.1 1) key).length = (st.1 1).length + 1 := by
  rw [k_join_ok h0 (by omega)]
  obtain ⟨w1, w2, w3⟩ := hw
  have ec : ∀ x, p_cnt (va_up st.1 1 (st.1 1 ++ [key]), st.2) x = p_cnt st x + (if (key == x) = true then 1 else 0) := fun x => by
    show (st.1 1 ++ [key]).count x + (st.1 2).count x + (st.1 3).count x + (st.1 4).count x = _
    unfold p_cnt
    simp only [List.count_append, List.count_cons, List.count_nil]
    omega
  refine ⟨⟨fun x => ?_, ?_, ?_⟩, by simp⟩
  · rw [ec]
    by_cases q : (key == x) = true
    · have e : key = x := by simpa using q
      subst e
      rw [hc, if_pos q]
      omega
    · rw [if_neg q]
      exact w1 x
  · rw [ec, w2, if_neg (by simpa using h0)]
  · show (st.1 1 ++ [key]).length + (st.1 2).length + (st.1 3).length + (st.1 4).length ≤ 64
    simp
    omega
theorem p_join2 {st : ki_St} {key : Int32} (hw : p_W st) (h0 : ¬ key = -1) (hc : p_cnt st key = 0) (hl : (st.1 1).length + (st.1 2).length + (st.1 3).length + (st.1 4).length < 64) :
    p_W (c_join2 st key) ∧ (k_join (st.1 2) key).length = (st.1 2).length + 1 := by
  unfold c_join2
  rw [k_join_ok h0 (by omega)]
  obtain ⟨w1, w2, w3⟩ := hw
  have ec : ∀ x, p_cnt (va_up st.1 2 (st.1 2 ++ [key]), st.2) x = p_cnt st x + (if (key == x) = true then 1 else 0) := fun x => by
    show (st.1 1).count x + (st.1 2 ++ [key]).count x + (st.1 3).count x + (st.1 4).count x = _
    unfold p_cnt
    simp only [List.count_append, List.count_cons, List.count_nil]
    omega
  refine ⟨⟨fun x => ?_, ?_, ?_⟩, by simp⟩
  · rw [ec]
    by_cases q : (key == x) = true
    · have e : key = x := by simpa using q
      subst e
      rw [hc, if_pos q]
      omega
    · rw [if_neg q]
      exact w1 x
  · rw [ec, w2, if_neg (by simpa using h0)]
  · show (st.1 1).length + (st.1 2 ++ [key]).length + (st.1 3).length + (st.1 4).length ≤ 64
    simp
    omega
/-- a key leaves the list in which it is -/
theorem p_from {st : ki_St} {w key : Int32} {i : Nat} (hw : p_W st) (h1 : 1 ≤ i) (h4 : i ≤ 4) (hi : w = nI i) (hm : key ∈ st.1 i) :
    c_from st w key = (va_up st.1 i (k_gap (st.1 i) (k_idx (st.1 i) key)), st.2) ∧ p_W (c_from st w key) ∧ p_cnt (c_from st w key) key = 0 ∧ ((c_from st w key).1 i).length + 1 = (st.1 i).length ∧ ∀ j, j ≠ i → (c_from st w key).1 j = st.1 j := by
  subst hi
  have e : c_from st (nI i) key = (va_up st.1 i (k_gap (st.1 i) (k_idx (st.1 i) key)), st.2) := by
    rcases (show i = 1 ∨ i = 2 ∨ i = 3 ∨ i = 4 by omega) with rfl | rfl | rfl | rfl <;> rfl
  have hl : (st.1 i).length ≤ 64 := by
    have := hw.2.2
    rcases (show i = 1 ∨ i = 2 ∨ i = 3 ∨ i = 4 by omega) with rfl | rfl | rfl | rfl <;> omega
  have hge := k_erase (L := st.1 i) (key := key) hl
  have hln := List.length_erase_of_mem hm
  have hpos := List.length_pos_of_mem hm
  have hsub : ∀ j, ((va_up st.1 i (k_gap (st.1 i) (k_idx (st.1 i) key))) j).Sublist (st.1 j) := fun j => by
    by_cases q : j = i
    · subst q; rw [va_up_self]; exact k_gap_sub _ _
    · rw [va_up_ne _ _ q]; exact List.Sublist.refl _
  have hcz : p_cnt (va_up st.1 i (k_gap (st.1 i) (k_idx (st.1 i) key)), st.2) key = 0 := by
    have h := hw.1 key
    have hm2 := p_mem.mp hm
    have hce : ((st.1 i).erase key).count key = (st.1 i).count key - 1 := List.count_erase_self
    rw [hge]
    unfold p_cnt at *
    rcases (show i = 1 ∨ i = 2 ∨ i = 3 ∨ i = 4 by omega) with rfl | rfl | rfl | rfl
    · show ((st.1 1).erase key).count key + (st.1 2).count key + (st.1 3).count key + (st.1 4).count key = 0
      omega
    · show (st.1 1).count key + ((st.1 2).erase key).count key + (st.1 3).count key + (st.1 4).count key = 0
      omega
    · show (st.1 1).count key + (st.1 2).count key + ((st.1 3).erase key).count key + (st.1 4).count key = 0
      omega
    · show (st.1 1).count key + (st.1 2).count key + (st.1 3).count key + ((st.1 4).erase key).count key = 0
      omega
  refine ⟨e, ?_⟩
  rw [e]
  refine ⟨p_W_sub (hsub 1) (hsub 2) (hsub 3) (hsub 4) hw, hcz, ?_, fun j hj => va_up_ne _ _ hj⟩
  show (va_up st.1 i (k_gap (st.1 i) (k_idx (st.1 i) key)) i).length + 1 = _
  rw [va_up_self, hge]
  omega
theorem p_step {o w : Nat} (ho : o ≤ 64) (h1 : 1 ≤ w) (hw : w ≤ 64) : ∃ s : Nat, c_step (nI o) (nI w) = nI s ∧ 1 ≤ s ∧ s ≤ 64 := by
  unfold c_step
  rw [if_pos (by show nI 1 ≤ nI w; rw [nI_leI (by omega) (by omega)]; exact h1), pk_div (by omega) (by omega) (by omega)]
  have hd : o / w ≤ 64 := Nat.le_trans (Nat.div_le_self _ _) ho
  by_cases h : (1 : Int32) < nI (o / w)
  · rw [if_pos h]
    have h2 : 1 < o / w := (nI_ltI (a := 1) (by omega) (by omega)).mp h
    exact ⟨o / w, rfl, by omega, hd⟩
  · rw [if_neg h]
    exact ⟨1, rfl, by omega, by omega⟩
/-- the target moves -/
theorem p_adapt {st : ki_St} {k g i : Nat} (hw : p_W st) (hk : st.2 6 = nI k) (hk2 : k ≤ 32) (hg : st.2 5 = nI g) (hg2 : g ≤ k) (hi : i = 3 ∨ i = 4) (hm : 0 < (st.1 i).length) :
    ∃ g' : Nat, c_adapt st (nI i) = (st.1, va_up st.2 5 (nI g')) ∧ g' ≤ k := by
  have hl := hw.2.2
  unfold c_adapt
  rcases hi with rfl | rfl
  · rw [if_pos (show nI 3 = 3 from rfl)]
    obtain ⟨s, hs, h1, h2⟩ := p_step (o := (st.1 4).length) (w := (st.1 3).length) (by omega) (by omega) (by omega)
    rw [hs, hg, hk, nI_add]
    by_cases h : nI (g + s) < nI k
    · rw [if_pos h]
      have := (nI_ltI (by omega) (by omega)).mp h
      exact ⟨g + s, rfl, by omega⟩
    · rw [if_neg h]
      exact ⟨k, rfl, Nat.le_refl _⟩
  · rw [if_neg (by decide)]
    obtain ⟨s, hs, h1, h2⟩ := p_step (o := (st.1 3).length) (w := (st.1 4).length) (by omega) (by omega) (by omega)
    rw [hs, hg]
    by_cases h : (0 : Int32) < nI g - nI s
    · rw [if_pos h]
      have hsg : s ≤ g := by
        rcases Nat.lt_or_ge g s with q | q
        · have := pk_sneg (a := g) (b := s) (by omega) q
          have h3 := Int32.lt_iff_toInt_lt.mp h
          have h4 := Int32.lt_iff_toInt_lt.mp this
          omega
        · exact q
      rw [pk_sub hsg]
      exact ⟨g - s, rfl, by omega⟩
    · rw [if_neg h]
      exact ⟨0, rfl, Nat.zero_le _⟩
end
section
theorem p_run {st : ki_St} {n : Nat} {key : Int32} (hi : p_Inv n st) (hk : ¬ key = -1) : p_Inv (n + 1) (c_run st key) := by
  obtain ⟨hw, k, g, r, z, h1, h2, h3, h4, h5, h6, h7, h8⟩ := hi
  unfold c_run
  by_cases h : ¬ st.2 9 = -1 ∧ key = st.2 9 + 1
  · rw [if_pos h]
    refine ⟨hw, k, g, r + 1, z, h1, h2, ⟨?_, by omega⟩, h4, ⟨fun q => absurd q hk, fun q => by omega⟩, h6, h7, h8⟩
    show st.2 8 + 1 = _
    rw [h3.1, nI_1]
  · rw [if_neg h]
    exact ⟨hw, k, g, 1, z, h1, h2, ⟨rfl, by omega⟩, h4, ⟨fun q => absurd q hk, fun q => by omega⟩, h6, h7, h8⟩
theorem p_list {st : ki_St} (key : Int32) : (c_list st key = 0 ∧ p_cnt st key = 0) ∨ ∃ i : Nat, 1 ≤ i ∧ i ≤ 4 ∧ c_list st key = nI i ∧ key ∈ st.1 i := by
  unfold c_list
  by_cases h1 : key ∈ st.1 1
  · exact Or.inr ⟨1, by decide, by decide, by rw [if_pos h1]; rfl, h1⟩
  · rw [if_neg h1]
    by_cases h2 : key ∈ st.1 2
    · exact Or.inr ⟨2, by decide, by decide, by rw [if_pos h2]; rfl, h2⟩
    · rw [if_neg h2]
      by_cases h3 : key ∈ st.1 3
      · exact Or.inr ⟨3, by decide, by decide, by rw [if_pos h3]; rfl, h3⟩
      · rw [if_neg h3]
        by_cases h4 : key ∈ st.1 4
        · exact Or.inr ⟨4, by decide, by decide, by rw [if_pos h4]; rfl, h4⟩
        · rw [if_neg h4]
          refine Or.inl ⟨rfl, ?_⟩
          unfold p_cnt
          rw [List.count_eq_zero_of_not_mem h1, List.count_eq_zero_of_not_mem h2, List.count_eq_zero_of_not_mem h3, List.count_eq_zero_of_not_mem h4]
theorem k_gap0_len {L : List Int32} (hl : L.length ≤ 64) : (k_gap L 0).length = L.length - 1 := by
  rw [k_gap0 hl, List.length_tail]
theorem p_cnt_sub {st s' : ki_St} {x : Int32} (h1 : (s'.1 1).Sublist (st.1 1)) (h2 : (s'.1 2).Sublist (st.1 2)) (h3 : (s'.1 3).Sublist (st.1 3)) (h4 : (s'.1 4).Sublist (st.1 4)) (hc : p_cnt st x = 0) : p_cnt s' x = 0 := by
  have := h1.count_le x
  have := h2.count_le x
  have := h3.count_le x
  have := h4.count_le x
  unfold p_cnt at *
  omega
/-- room for a new key -/
theorem p_adm1 {st : ki_St} {k : Nat} (hw : p_W st) (hk : st.2 6 = nI k) (hk1 : 1 ≤ k) (hk2 : k ≤ 32) (h6 : (st.1 1).length + (st.1 2).length ≤ k) (h7 : (st.1 1).length + (st.1 3).length ≤ k) (h8 : (st.1 1).length + (st.1 2).length + (st.1 3).length + (st.1 4).length ≤ 2 * k) :
    p_W (c_adm1 st) ∧ (∀ i, i ≠ 10 → (c_adm1 st).2 i = st.2 i) ∧ ((c_adm1 st).1 1).length + ((c_adm1 st).1 2).length ≤ k ∧ ((c_adm1 st).1 1).length + ((c_adm1 st).1 3).length < k ∧
    ((c_adm1 st).1 1).length + ((c_adm1 st).1 2).length + ((c_adm1 st).1 3).length + ((c_adm1 st).1 4).length < 2 * k ∧ (∀ x, p_cnt st x = 0 → p_cnt (c_adm1 st) x = 0) := by
  have hl := hw.2.2
  have e1 := k_gap0_len (L := st.1 1) (by omega)
  have e3 := k_gap0_len (L := st.1 3) (by omega)
  have e4 := k_gap0_len (L := st.1 4) (by omega)
  unfold c_adm1
  by_cases hd : c_drops st
  · rw [if_pos hd]
    have h := (p_drops hk (by omega) hw).mp hd
    refine ⟨p_W_sub (st := st) (k_gap_sub (st.1 1) 0) (List.Sublist.refl _) (List.Sublist.refl _) (List.Sublist.refl _) hw, fun i hi => va_up_ne _ _ hi, ?_, ?_, ?_, fun x hx => p_cnt_sub (st := st) (k_gap_sub (st.1 1) 0) (List.Sublist.refl _) (List.Sublist.refl _) (List.Sublist.refl _) hx⟩
    · show (k_gap (st.1 1) 0).length + (st.1 2).length ≤ k
      omega
    · show (k_gap (st.1 1) 0).length + (st.1 3).length < k
      omega
    · show (k_gap (st.1 1) 0).length + (st.1 2).length + (st.1 3).length + (st.1 4).length < 2 * k
      omega
  · rw [if_neg hd]
    by_cases hr : c_rg st = st.2 6
    · rw [if_pos hr]
      have h := (p_rgk hk (by omega) hw).mp hr
      have h3 : 0 < (st.1 3).length := by
        rcases Nat.eq_zero_or_pos (st.1 3).length with q | q
        · exact absurd ((p_drops hk (by omega) hw).mpr ⟨h, q⟩) hd
        · exact q
      refine ⟨p_W_sub (st := st) (List.Sublist.refl _) (List.Sublist.refl _) (k_gap_sub (st.1 3) 0) (List.Sublist.refl _) hw, fun i hi => rfl, h6, ?_, ?_, fun x hx => p_cnt_sub (st := st) (List.Sublist.refl _) (List.Sublist.refl _) (k_gap_sub (st.1 3) 0) (List.Sublist.refl _) hx⟩
      · show (st.1 1).length + (k_gap (st.1 3) 0).length < k
        omega
      · show (st.1 1).length + (st.1 2).length + (k_gap (st.1 3) 0).length + (st.1 4).length < 2 * k
        omega
    · rw [if_neg hr]
      have h : ¬ _ := fun q => hr ((p_rgk hk (by omega) hw).mpr q)
      by_cases ha : c_all st = 2 * st.2 6
      · rw [if_pos ha]
        have h9 := (p_allk hk (by omega) hw).mp ha
        refine ⟨p_W_sub (st := st) (List.Sublist.refl _) (List.Sublist.refl _) (List.Sublist.refl _) (k_gap_sub (st.1 4) 0) hw, fun i hi => rfl, h6, ?_, ?_, fun x hx => p_cnt_sub (st := st) (List.Sublist.refl _) (List.Sublist.refl _) (List.Sublist.refl _) (k_gap_sub (st.1 4) 0) hx⟩
        · show (st.1 1).length + (st.1 3).length < k
          omega
        · show (st.1 1).length + (st.1 2).length + (st.1 3).length + (k_gap (st.1 4) 0).length < 2 * k
          omega
      · rw [if_neg ha]
        have h9 : ¬ _ := fun q => ha ((p_allk hk (by omega) hw).mpr q)
        exact ⟨hw, fun _ _ => rfl, h6, by omega, by omega, fun _ hx => hx⟩
theorem p_admit {st : ki_St} {n : Nat} {key : Int32} (hi : p_Inv n st) (hk0 : ¬ key = -1) (hc : p_cnt st key = 0) : p_Inv n (c_admit st key) := by
  obtain ⟨hw, k, g, r, z, ⟨h1, h1a, h1b⟩, ⟨h2, h2a⟩, h3, h4, h5, h6, h7, h8⟩ := hi
  obtain ⟨a1, a2, a3, a4, a5, a6⟩ := p_adm1 hw h1 h1a h1b h6 h7 h8
  obtain ⟨b1, b2, b3, b4, b5, b6, -, -⟩ := p_room (b := 0) a1 ((a2 6 (by decide)).trans h1) h1a h1b ((a2 5 (by decide)).trans h2) (by omega) a3 (fun q _ e => by rw [e] at q; simp only [List.length_nil] at q; omega)
  obtain ⟨d1, d2⟩ := p_join1 (key := key) b1 hk0 (by rw [b6]; exact a6 key hc) (by omega)
  refine ⟨d1, k, g, r, z, ⟨?_, h1a, h1b⟩, ⟨?_, h2a⟩, ⟨?_, h3.2⟩, ⟨?_, h4.2⟩, ?_, ?_, ?_, ?_⟩
  · exact (b2 6 (by decide)).trans ((a2 6 (by decide)).trans h1)
  · exact (b2 5 (by decide)).trans ((a2 5 (by decide)).trans h2)
  · exact (b2 8 (by decide)).trans ((a2 8 (by decide)).trans h3.1)
  · exact (b2 7 (by decide)).trans ((a2 7 (by decide)).trans h4.1)
  · show (c_room (c_adm1 st) 0).2 9 = -1 ↔ _
    rw [b2 9 (by decide), a2 9 (by decide)]
    exact h5
  · show (k_join ((c_room (c_adm1 st) 0).1 1) key).length + ((c_room (c_adm1 st) 0).1 2).length ≤ k
    omega
  · show (k_join ((c_room (c_adm1 st) 0).1 1) key).length + ((c_room (c_adm1 st) 0).1 3).length ≤ k
    omega
  · show (k_join ((c_room (c_adm1 st) 0).1 1) key).length + ((c_room (c_adm1 st) 0).1 2).length + ((c_room (c_adm1 st) 0).1 3).length + ((c_room (c_adm1 st) 0).1 4).length ≤ 2 * k
    omega
theorem p_hit {st : ki_St} {n i : Nat} {key : Int32} (hi : p_Inv n st) (h : i = 1 ∨ i = 2) (hm : key ∈ st.1 i) : p_Inv n (c_join2 (c_from st (nI i) key) key) := by
  obtain ⟨hw, k, g, r, z, ⟨h1, h1a, h1b⟩, ⟨h2, h2a⟩, h3, h4, h5, h6, h7, h8⟩ := hi
  obtain ⟨a0, a1, a2, a3, a4⟩ := p_from (w := nI i) hw (by omega) (by omega) rfl hm
  have hk0 : ¬ key = -1 := p_ne1 hw (by omega) (by omega) hm
  have hz : (c_from st (nI i) key).2 = st.2 := by rw [a0]
  clear a0
  generalize c_from st (nI i) key = s at a1 a2 a3 a4 hz ⊢
  rcases h with rfl | rfl
  · have e2 := a4 2 (by decide); have e3 := a4 3 (by decide); have e4 := a4 4 (by decide)
    obtain ⟨d1, d2⟩ := p_join2 (key := key) a1 hk0 a2 (by rw [e2, e3, e4]; omega)
    rw [e2] at d2
    refine ⟨d1, k, g, r, z, ?_⟩
    unfold c_join2
    rw [hz]
    refine ⟨⟨h1, h1a, h1b⟩, ⟨h2, h2a⟩, h3, h4, h5, ?_, ?_, ?_⟩
    · show (s.1 1).length + (k_join (s.1 2) key).length ≤ k
      rw [e2]; omega
    · show (s.1 1).length + (s.1 3).length ≤ k
      rw [e3]; omega
    · show (s.1 1).length + (k_join (s.1 2) key).length + (s.1 3).length + (s.1 4).length ≤ 2 * k
      rw [e2, e3, e4]; omega
  · have e1 := a4 1 (by decide); have e3 := a4 3 (by decide); have e4 := a4 4 (by decide)
    obtain ⟨d1, d2⟩ := p_join2 (key := key) a1 hk0 a2 (by rw [e1, e3, e4]; omega)
    refine ⟨d1, k, g, r, z, ?_⟩
    unfold c_join2
    rw [hz]
    refine ⟨⟨h1, h1a, h1b⟩, ⟨h2, h2a⟩, h3, h4, h5, ?_, ?_, ?_⟩
    · show (s.1 1).length + (k_join (s.1 2) key).length ≤ k
      rw [e1]; omega
    · show (s.1 1).length + (s.1 3).length ≤ k
      rw [e1, e3]; omega
    · show (s.1 1).length + (k_join (s.1 2) key).length + (s.1 3).length + (s.1 4).length ≤ 2 * k
      rw [e1, e3, e4]; omega
/-- a ghost's way to the frequent list: up to the leaving of its list -/
theorem p_ghost0 {st : ki_St} {k g i : Nat} {b key : Int32} (hw : p_W st) (hk : st.2 6 = nI k) (hk1 : 1 ≤ k) (hk2 : k ≤ 32) (hg : st.2 5 = nI g) (hg2 : g ≤ k) (h6 : (st.1 1).length + (st.1 2).length ≤ k) (h7 : (st.1 1).length + (st.1 3).length ≤ k)
    (hi : (i = 3 ∧ b = 0) ∨ (i = 4 ∧ ¬ b = 0)) (hm : key ∈ st.1 i) :
    ∃ g' : Nat, c_adapt st (nI i) = (st.1, va_up st.2 5 (nI g')) ∧ g' ≤ k ∧ p_W (st.1, va_up st.2 5 (nI g')) ∧ ((st.1 1).length + (st.1 2).length = k → ¬ c_evR (st.1, va_up st.2 5 (nI g')) b → ¬ st.1 2 = []) := by
  have hpos := List.length_pos_of_mem hm
  obtain ⟨g', e, h⟩ := p_adapt (i := i) hw hk hk2 hg hg2 (by omega) hpos
  refine ⟨g', e, h, hw, fun hf hn e2 => ?_⟩
  have hw' : p_W (st.1, va_up st.2 5 (nI g')) := hw
  have hev : c_evR (st.1, va_up st.2 5 (nI g')) b ↔ (g' < (st.1 1).length ∨ (¬ b = 0 ∧ (st.1 1).length = g' ∧ 0 < (st.1 1).length)) := p_evR (g := g') rfl (by omega) hw'
  rw [e2] at hf
  simp only [List.length_nil] at hf
  rcases hi with ⟨rfl, hb⟩ | ⟨rfl, hb⟩
  · omega
  · have h1 : (st.1 1).length = k := by omega
    have h2 : ¬ g' < (st.1 1).length := fun q => hn (hev.mpr (Or.inl q))
    have h3 : ¬ ((st.1 1).length = g' ∧ 0 < (st.1 1).length) := fun q => hn (hev.mpr (Or.inr ⟨hb, q⟩))
    omega
theorem p_ghost {st : ki_St} {n i : Nat} {b key : Int32} (hin : p_Inv n st) (hi : (i = 3 ∧ b = 0) ∨ (i = 4 ∧ ¬ b = 0)) (hm : key ∈ st.1 i) : p_Inv n (c_join2 (c_from (c_room (c_adapt st (nI i)) b) (nI i) key) key) := by
  obtain ⟨hw, k, g, r, z, ⟨h1, h1a, h1b⟩, ⟨h2, h2a⟩, h3, h4, h5, h6, h7, h8⟩ := hin
  have hk0 : ¬ key = -1 := p_ne1 hw (by omega) (by omega) hm
  obtain ⟨g', e, hg', hw', hne⟩ := p_ghost0 hw h1 h1a h1b h2 h2a h6 h7 hi hm
  rw [e]
  obtain ⟨b1, b2, b3, b4, b5, b6, b7, b8⟩ := p_room (st := (st.1, va_up st.2 5 (nI g'))) (b := b) (k := k) (g := g') hw' h1 h1a h1b rfl (by omega) h6 hne
  generalize hs : c_room (st.1, va_up st.2 5 (nI g')) b = s at b1 b2 b3 b4 b5 b6 b7 b8
  have hm' : key ∈ s.1 i := by
    rcases hi with ⟨rfl, -⟩ | ⟨rfl, -⟩
    · exact b7 key hm
    · exact b8 key hm
  obtain ⟨a0, a1, a2, a3, a4⟩ := p_from (w := nI i) b1 (by omega) (by omega) rfl hm'
  have hz : (c_from s (nI i) key).2 = s.2 := by rw [a0]
  clear a0
  generalize c_from s (nI i) key = u at a1 a2 a3 a4 hz ⊢
  dsimp only at b4 b5
  have e1 := a4 1 (by omega); have e2 := a4 2 (by omega)
  rcases hi with ⟨rfl, -⟩ | ⟨rfl, -⟩
  · have e4 := a4 4 (by omega)
    obtain ⟨d1, d2⟩ := p_join2 (key := key) a1 hk0 a2 (by rw [e1, e2, e4]; omega)
    rw [e2] at d2
    refine ⟨d1, k, g', r, z, ?_⟩
    unfold c_join2
    rw [hz]
    refine ⟨⟨(b2 6 (by decide)).trans h1, h1a, h1b⟩, ⟨(b2 5 (by decide)).trans rfl, hg'⟩, ⟨(b2 8 (by decide)).trans h3.1, h3.2⟩, ⟨(b2 7 (by decide)).trans h4.1, h4.2⟩, ?_, ?_, ?_, ?_⟩
    · rw [show s.2 9 = st.2 9 from b2 9 (by decide)]; exact h5
    · show (u.1 1).length + (k_join (u.1 2) key).length ≤ k
      rw [e1, e2]; omega
    · show (u.1 1).length + (u.1 3).length ≤ k
      rw [e1]; omega
    · show (u.1 1).length + (k_join (u.1 2) key).length + (u.1 3).length + (u.1 4).length ≤ 2 * k
      rw [e1, e2, e4]; omega
  · have e3 := a4 3 (by omega)
    obtain ⟨d1, d2⟩ := p_join2 (key := key) a1 hk0 a2 (by rw [e1, e2, e3]; omega)
    rw [e2] at d2
    refine ⟨d1, k, g', r, z, ?_⟩
    unfold c_join2
    rw [hz]
    refine ⟨⟨(b2 6 (by decide)).trans h1, h1a, h1b⟩, ⟨(b2 5 (by decide)).trans rfl, hg'⟩, ⟨(b2 8 (by decide)).trans h3.1, h3.2⟩, ⟨(b2 7 (by decide)).trans h4.1, h4.2⟩, ?_, ?_, ?_, ?_⟩
    · rw [show s.2 9 = st.2 9 from b2 9 (by decide)]; exact h5
    · show (u.1 1).length + (k_join (u.1 2) key).length ≤ k
      rw [e1, e2]; omega
    · show (u.1 1).length + (u.1 3).length ≤ k
      rw [e1, e3]; omega
    · show (u.1 1).length + (k_join (u.1 2) key).length + (u.1 3).length + (u.1 4).length ≤ 2 * k
      rw [e1, e2, e3]; omega
theorem p_serve {st : ki_St} {n : Nat} {key : Int32} (hi : p_Inv n st) (hk : ¬ key = -1) : p_Inv (n + 1) (c_serve st key).1 := by
  have hr := p_run hi hk
  unfold c_serve
  generalize c_run st key = s at hr
  by_cases hs : ¬ s.2 7 = 0 ∧ ¬ s.2 8 < s.2 7
  · rw [if_pos hs]
    exact hr
  · rw [if_neg hs]
    rcases p_list (st := s) key with ⟨h0, hc⟩ | ⟨i, h1, h4, hl, hm⟩
    · rw [if_pos h0]
      exact p_admit hr hk hc
    · rw [hl]
      rw [if_neg (show ¬ nI i = 0 from nI_ne0 (by omega) (by omega))]
      by_cases h2 : i = 1 ∨ i = 2
      · rw [if_pos (by rcases h2 with rfl | rfl; exact Or.inl rfl; exact Or.inr rfl)]
        exact p_hit hr h2 hm
      · have h3 : i = 3 ∨ i = 4 := by omega
        rw [if_neg (by rcases h3 with rfl | rfl <;> decide)]
        rcases h3 with rfl | rfl
        · rw [if_neg (by decide)]
          exact p_ghost hr (Or.inl ⟨rfl, rfl⟩) hm
        · rw [if_pos (by decide)]
          exact p_ghost hr (Or.inr ⟨rfl, by decide⟩) hm
/-- the outcomes -/
theorem p_outcome {st : ki_St} (key : Int32) : (c_serve st key).2 = 1 ∨ (c_serve st key).2 = 2 ∨ (c_serve st key).2 = 3 ∨ (c_serve st key).2 = 4 ∨ (c_serve st key).2 = 5 ∨ (c_serve st key).2 = 6 := by
  unfold c_serve
  generalize c_run st key = s
  have hl : c_list s key = 0 ∨ c_list s key = 1 ∨ c_list s key = 2 ∨ c_list s key = 3 ∨ c_list s key = 4 := by
    rcases p_list (st := s) key with ⟨h0, hc⟩ | ⟨i, h1, h4, hl, hm⟩
    · exact Or.inl h0
    · rw [hl]
      rcases (show i = 1 ∨ i = 2 ∨ i = 3 ∨ i = 4 by omega) with rfl | rfl | rfl | rfl <;> decide
  split
  · dsimp only
    split
    · rename_i h; rcases h with h | h <;> rw [h] <;> decide
    · exact Or.inr (Or.inr (Or.inr (Or.inr (Or.inr rfl))))
  · split
    · exact Or.inr (Or.inr (Or.inr (Or.inr (Or.inl rfl))))
    · rename_i h0
      split
      · rename_i h; dsimp only; rcases h with h | h <;> rw [h] <;> decide
      · dsimp only; rcases hl with h | h | h | h | h <;> first | exact absurd h h0 | (rw [h]; decide)
theorem p_anew {k z : Nat} (h1 : 1 ≤ k) (h2 : k ≤ 32) (hz : z ≤ 20) : p_Inv 0 (c_anew (nI k) (nI z)) :=
  ⟨⟨fun x => Nat.zero_le _, rfl, Nat.zero_le _⟩, k, 0, 0, z, ⟨rfl, h1, h2⟩, ⟨rfl, Nat.zero_le _⟩, ⟨rfl, Nat.le_refl _⟩, ⟨rfl, hz⟩, ⟨fun _ => rfl, fun _ => rfl⟩, Nat.zero_le _, Nat.zero_le _, Nat.zero_le _⟩
end
section
theorem p_evN {S : ki_St} {k g P : Nat} (hw : p_W S) (hk2 : k ≤ 32) (hg : S.2 5 = nI g) (hg2 : g ≤ k) (hP : (S.1 1).length + (S.1 2).length = P) : ∀ i : Nat, i ≤ P - k →
    p_W (c_evN i S) ∧ (∀ j, j ≠ 10 → (c_evN i S).2 j = S.2 j) ∧ (c_evN i S).2 10 = S.2 10 + nI i ∧ ((c_evN i S).1 1).length + ((c_evN i S).1 2).length + i = P ∧
    ((c_evN i S).1 1).length + ((c_evN i S).1 3).length = (S.1 1).length + (S.1 3).length ∧ ((c_evN i S).1 2).length + ((c_evN i S).1 4).length = (S.1 2).length + (S.1 4).length ∧
    (i < P - k → ¬ c_evR (c_evN i S) 0 → ¬ (c_evN i S).1 2 = []) := by
  have hne : ∀ (i : Nat) (X : ki_St), i < P - k → p_W X → X.2 5 = nI g → (X.1 1).length + (X.1 2).length + i = P → ¬ c_evR X 0 → ¬ X.1 2 = [] := by
    intro i X hi hX hz hl h e
    rw [e] at hl
    simp only [List.length_nil] at hl
    exact h ((p_evR hz (by omega) hX).mpr (Or.inl (by omega)))
  intro i
  induction i with
  | zero =>
    intro hi
    exact ⟨hw, fun _ _ => rfl, by show S.2 10 = S.2 10 + nI 0; exact (Int32.add_zero _).symm, hP, rfl, rfl, fun h => hne 0 S h hw hg hP⟩
  | succ i ih =>
    intro hi
    obtain ⟨a1, a2, a3, a4, a5, a6, a7⟩ := ih (by omega)
    have a2' : (c_evN i S).2 5 = nI g := (a2 5 (by decide)).trans hg
    obtain ⟨b1, b2, b3, b4, b5, b6, b7, b8, b9⟩ := p_evict (b := 0) a1 a2' (by omega) (a7 (by omega))
    have e : c_evN (i + 1) S = c_evict (c_evN i S) 0 := rfl
    rw [e]
    refine ⟨b1, fun j hj => (b2 j hj).trans (a2 j hj), ?_, by omega, by omega, by omega, fun h => hne (i + 1) _ h b1 ((b2 5 (by decide)).trans a2') (by omega)⟩
    rw [b3, a3, Int32.add_assoc, nI_1]
theorem k_dropN_eq {L : List Int32} (hl : L.length ≤ 64) : ∀ n : Nat, k_dropN n L = L.drop n := by
  intro n
  induction n with
  | zero => rfl
  | succ n ih =>
    show k_gap (k_dropN n L) 0 = _
    rw [ih, k_gap0 (by simp; omega), List.tail_drop]
theorem k_dropN_sub {L : List Int32} : ∀ n : Nat, (k_dropN n L).Sublist L := by
  intro n
  induction n with
  | zero => exact List.Sublist.refl _
  | succ n ih => exact (k_gap_sub _ _).trans ih
theorem k_dropN_len {L : List Int32} (hl : L.length ≤ 64) (n : Nat) : (k_dropN n L).length = L.length - n := by
  rw [k_dropN_eq hl, List.length_drop]
theorem p_clamp {a b : Nat} (ha : a ≤ 1000) (hb : b ≤ 1000) : (nI a - nI b).toNatClampNeg = a - b := by
  rcases Nat.lt_or_ge a b with h | h
  · have := pk_sub_toInt (a := a) (b := b) (by omega) (by omega)
    show (nI a - nI b).toInt.toNat = _
    omega
  · rw [pk_sub h, nI_clamp (by omega)]
theorem p_capN {st : ki_St} {k : Nat} (hk2 : k ≤ 32) (hw : p_W st) : c_capN st (nI k) = nI ((st.1 1).length + (st.1 2).length - k) := by
  have := hw.2.2
  unfold c_capN
  rw [p_pages]
  generalize (st.1 1).length + (st.1 2).length = P at *
  have hP : P ≤ 64 := by omega
  rcases Nat.lt_or_ge k P with h | h
  · rw [pk_sub (by omega), if_pos (by show nI 0 < _; exact nI_lt (by omega) (by omega))]
  · have e : P - k = 0 := by omega
    rw [e]
    rw [if_neg]
    · rfl
    · rcases Nat.eq_or_lt_of_le h with q | q
      · subst q; rw [pk_sub (Nat.le_refl _), Nat.sub_self]; decide
      · have h1 := pk_sneg (a := P) (b := k) (by omega) q
        intro h2
        have h3 := Int32.lt_iff_toInt_lt.mp h1
        have h4 := Int32.lt_iff_toInt_lt.mp h2
        omega
/-- the capacity's change, its three numbers told -/
theorem p_cap0 {st : ki_St} {n k : Nat} (hi : p_Inv n st) (hk1 : 1 ≤ k) (hk2 : k ≤ 32) :
    ∃ g : Nat, g ≤ k ∧ (c_cap1 st (nI k)).2 5 = nI g ∧ (c_cap1 st (nI k)).2 6 = nI k ∧ p_W (c_cap1 st (nI k)) ∧ c_capN st (nI k) = nI ((st.1 1).length + (st.1 2).length - k) := by
  obtain ⟨hw, k0, g, r, z, ⟨h1, h1a, h1b⟩, ⟨h2, h2a⟩, h3, h4, h5, h6, h7, h8⟩ := hi
  have hc := p_capN hk2 hw
  unfold c_cap1
  by_cases h : nI k < st.2 5
  · refine ⟨k, Nat.le_refl _, ?_, rfl, hw, hc⟩
    show (if nI k < st.2 5 then nI k else st.2 5) = _
    rw [if_pos h]
  · refine ⟨g, ?_, ?_, rfl, hw, hc⟩
    · rw [h2] at h
      rcases Nat.lt_or_ge k g with q | q
      · exact absurd (nI_lt q (by omega)) h
      · exact q
    · show (if nI k < st.2 5 then nI k else st.2 5) = _
      rw [if_neg h, h2]
theorem p_drop2 {S : ki_St} {k : Nat} (hw : p_W S) (hk2 : k ≤ 32) (h6 : S.2 6 = nI k) : (c_rg S - S.2 6).toNatClampNeg = (S.1 1).length + (S.1 3).length - k := by
  have := hw.2.2
  rw [p_rg, h6, p_clamp (by omega) (by omega)]
theorem p_drop3 {S : ki_St} {k : Nat} (hw : p_W S) (hk2 : k ≤ 32) (h6 : S.2 6 = nI k) : (c_all S - 2 * S.2 6).toNatClampNeg = (S.1 1).length + (S.1 2).length + (S.1 3).length + (S.1 4).length - 2 * k := by
  have := hw.2.2
  rw [p_all, h6, show (2 : Int32) * nI k = nI (2 * k) from pk_mul 2 k, p_clamp (by omega) (by omega)]
theorem p_cap {st : ki_St} {n k : Nat} (hi : p_Inv n st) (hk1 : 1 ≤ k) (hk2 : k ≤ 32) : p_Inv n (c_cap st (nI k)) := by
  obtain ⟨g, hg, hg5, hg6, hw1, hcN⟩ := p_cap0 hi hk1 hk2
  obtain ⟨hw, k0, g0, r, z, ⟨h1, h1a, h1b⟩, ⟨h2, h2a⟩, h3, h4, h5, h6, h7, h8⟩ := hi
  have hl := hw.2.2
  have hz : ∀ j, j ≠ 5 → j ≠ 6 → (c_cap1 st (nI k)).2 j = st.2 j := fun j q5 q6 => by
    show va_up (va_up st.2 5 _) 6 _ j = _
    rw [va_up_ne _ _ q6, va_up_ne _ _ q5]
  obtain ⟨a1, a2, a3, a4, a5, a6, -⟩ := p_evN (k := k) (P := (st.1 1).length + (st.1 2).length) hw1 hk2 hg5 hg rfl ((st.1 1).length + (st.1 2).length - k) (Nat.le_refl _)
  have e2 : c_cap2 st (nI k) = c_evN ((st.1 1).length + (st.1 2).length - k) (c_cap1 st (nI k)) := by
    unfold c_cap2
    rw [hcN, nI_clamp (by omega)]
  rw [← e2] at a1 a2 a3 a4 a5 a6
  change _ = (st.1 1).length + (st.1 3).length at a5
  change _ = (st.1 2).length + (st.1 4).length at a6
  have c6 : (c_cap2 st (nI k)).2 6 = nI k := (a2 6 (by decide)).trans hg6
  have c5 : (c_cap2 st (nI k)).2 5 = nI g := (a2 5 (by decide)).trans hg5
  have c7 : (c_cap2 st (nI k)).2 7 = nI z := (a2 7 (by decide)).trans ((hz 7 (by decide) (by decide)).trans h4.1)
  have c8 : (c_cap2 st (nI k)).2 8 = nI r := (a2 8 (by decide)).trans ((hz 8 (by decide) (by decide)).trans h3.1)
  have c9 : (c_cap2 st (nI k)).2 9 = st.2 9 := (a2 9 (by decide)).trans (hz 9 (by decide) (by decide))
  unfold c_cap c_cap3
  generalize c_cap2 st (nI k) = S at a1 a2 a3 a4 a5 a6 c5 c6 c7 c8 c9 ⊢
  have hS := a1.2.2
  rw [p_drop2 a1 hk2 c6]
  have hw3 : p_W (va_up S.1 3 (k_dropN ((S.1 1).length + (S.1 3).length - k) (S.1 3)), S.2) := p_W_sub (st := S) (List.Sublist.refl _) (List.Sublist.refl _) (k_dropN_sub (L := S.1 3) _) (List.Sublist.refl _) a1
  have l3 := k_dropN_len (L := S.1 3) (by omega) ((S.1 1).length + (S.1 3).length - k)
  rw [p_drop3 hw3 hk2 c6]
  generalize hD : k_dropN ((S.1 1).length + (S.1 3).length - k) (S.1 3) = D3 at hw3 l3 ⊢
  show p_Inv n (va_up (va_up S.1 3 D3) 4 (k_dropN ((S.1 1).length + (S.1 2).length + D3.length + (S.1 4).length - 2 * k) (S.1 4)), S.2)
  have l4 := k_dropN_len (L := S.1 4) (by omega) ((S.1 1).length + (S.1 2).length + D3.length + (S.1 4).length - 2 * k)
  have hw4 : p_W (va_up (va_up S.1 3 D3) 4 (k_dropN ((S.1 1).length + (S.1 2).length + D3.length + (S.1 4).length - 2 * k) (S.1 4)), S.2) := p_W_sub (st := (va_up S.1 3 D3, S.2)) (List.Sublist.refl _) (List.Sublist.refl _) (List.Sublist.refl _) (k_dropN_sub (L := S.1 4) _) hw3
  generalize k_dropN ((S.1 1).length + (S.1 2).length + D3.length + (S.1 4).length - 2 * k) (S.1 4) = D4 at hw4 l4 ⊢
  refine ⟨hw4, k, g, r, z, ⟨c6, hk1, hk2⟩, ⟨c5, hg⟩, ⟨c8, h3.2⟩, ⟨c7, h4.2⟩, ?_, ?_, ?_, ?_⟩
  · show S.2 9 = -1 ↔ _
    rw [c9]; exact h5
  · show (S.1 1).length + (S.1 2).length ≤ k
    omega
  · show (S.1 1).length + D3.length ≤ k
    omega
  · show (S.1 1).length + (S.1 2).length + D3.length + D4.length ≤ 2 * k
    omega
theorem p_clear {st : ki_St} {n : Nat} (hi : p_Inv n st) : p_Inv n (c_clear st) := by
  obtain ⟨hw, k, g, r, z, h1, h2, h3, h4, h5, h6, h7, h8⟩ := hi
  exact ⟨⟨fun x => Nat.zero_le _, rfl, Nat.zero_le _⟩, k, 0, r, z, h1, ⟨rfl, Nat.zero_le _⟩, h3, h4, h5, Nat.zero_le _, Nat.zero_le _, Nat.zero_le _⟩
theorem p_scan {st : ki_St} {n z : Nat} (hi : p_Inv n st) (hz : z ≤ 20) : p_Inv n (st.1, va_up st.2 7 (nI z)) := by
  obtain ⟨hw, k, g, r, z0, h1, h2, h3, h4, h5, h6, h7, h8⟩ := hi
  exact ⟨hw, k, g, r, z, h1, h2, h3, ⟨rfl, hz⟩, h5, h6, h7, h8⟩
theorem p_forget {st : ki_St} {n : Nat} {key : Int32} (hi : p_Inv n st) : p_Inv n (c_forget st key) := by
  unfold c_forget
  rcases p_list (st := st) key with ⟨h0, hc⟩ | ⟨i, h1, h4, hl, hm⟩
  · rw [h0]; exact hi
  · rw [hl]
    obtain ⟨hw, k, g, r, z, q1, q2, q3, q4, q5, q6, q7, q8⟩ := hi
    obtain ⟨a0, a1, a2, a3, a4⟩ := p_from (w := nI i) hw h1 h4 rfl hm
    have hz : (c_from st (nI i) key).2 = st.2 := by rw [a0]
    clear a0
    generalize c_from st (nI i) key = s at a1 a2 a3 a4 hz ⊢
    have hle : ∀ j, (s.1 j).length ≤ (st.1 j).length := fun j => by
      by_cases q : j = i
      · subst q; omega
      · rw [a4 j q]; exact Nat.le_refl _
    have := hle 1; have := hle 2; have := hle 3; have := hle 4
    refine ⟨a1, k, g, r, z, ?_⟩
    rw [hz]
    exact ⟨q1, q2, q3, q4, q5, by omega, by omega, by omega⟩
theorem p_mono {st : ki_St} {n m : Nat} (hi : p_Inv n st) (h : n ≤ m) : p_Inv m st := by
  obtain ⟨hw, k, g, r, z, h1, h2, h3, h4⟩ := hi
  exact ⟨hw, k, g, r, z, h1, h2, ⟨h3.1, by omega⟩, h4⟩
end
section
/-! ===== the reference's row of numbers, as a cache's value ===== -/
def m_rep (t : Nat → Int32) (st : ki_St) : Prop := (∀ i : Nat, 1 ≤ i → i ≤ 4 → (st.1 i).length ≤ 64 ∧ t i = nI (st.1 i).length ∧ ∀ j : Nat, j < (st.1 i).length → (st.1 i)[j]? = some (t (16 + 70 * i + j))) ∧ ∀ i : Nat, 5 ≤ i → i ≤ 10 → t i = st.2 i
theorem m_at (i j : Nat) : (16 : Int32) + 70 * nI i + nI j = nI (16 + 70 * i + j) := by
  show nI 16 + nI 70 * nI i + nI j = _
  rw [pk_mul, nI_add, nI_add]
theorem m_l {t : Nat → Int32} {st : ki_St} (h : m_rep t st) {i : Nat} (h1 : 1 ≤ i) (h4 : i ≤ 4) : t i = nI (st.1 i).length := (h.1 i h1 h4).2.1
theorem m_64 {t : Nat → Int32} {st : ki_St} (h : m_rep t st) {i : Nat} (h1 : 1 ≤ i) (h4 : i ≤ 4) : (st.1 i).length ≤ 64 := (h.1 i h1 h4).1
theorem m_j {t : Nat → Int32} {st : ki_St} (h : m_rep t st) {i j : Nat} (h1 : 1 ≤ i) (h4 : i ≤ 4) (hj : j < (st.1 i).length) : (st.1 i)[j]? = some (t (16 + 70 * i + j)) := (h.1 i h1 h4).2.2 j hj
theorem m_z {t : Nat → Int32} {st : ki_St} {i : Nat} {v : Int32} (h : m_rep t st) (h5 : 5 ≤ i) (h10 : i ≤ 10) : m_rep (upd t i v) (st.1, va_up st.2 i v) := by
  refine ⟨fun a h1 h4 => ⟨(h.1 a h1 h4).1, ?_, fun j hj => ?_⟩, fun a ha hb => ?_⟩
  · show (if a = i then v else t a) = _
    rw [if_neg (by omega)]
    exact m_l h h1 h4
  · show _ = some (if 16 + 70 * a + j = i then v else t (16 + 70 * a + j))
    rw [if_neg (by omega)]
    exact m_j h h1 h4 hj
  · show (if a = i then v else t a) = if a = i then v else st.2 a
    by_cases q : a = i
    · rw [if_pos q, if_pos q]
    · rw [if_neg q, if_neg q]
      exact h.2 a ha hb
theorem m_join {t t1 : Nat → Int32} {st : ki_St} {i : Nat} {key : Int32} (h : m_rep t st) (h1 : 1 ≤ i) (h4 : i ≤ 4) (hk : ¬ key = -1) (hl : (st.1 i).length < 64) (ht : ∀ x, t1 x = if x = i then nI ((st.1 i).length + 1) else if x = 16 + 70 * i + (st.1 i).length then key else t x) : m_rep t1 (va_up st.1 i (k_join (st.1 i) key), st.2) := by
  rw [k_join_ok hk hl]
  refine ⟨fun a ha hb => ?_, fun a ha hb => ?_⟩
  · by_cases q : a = i
    · subst q
      show (va_up st.1 a (st.1 a ++ [key]) a).length ≤ 64 ∧ t1 a = nI (va_up st.1 a (st.1 a ++ [key]) a).length ∧ ∀ j, j < (va_up st.1 a (st.1 a ++ [key]) a).length → (va_up st.1 a (st.1 a ++ [key]) a)[j]? = some (t1 (16 + 70 * a + j))
      rw [va_up_self]
      simp only [List.length_append, List.length_cons, List.length_nil]
      refine ⟨by omega, ?_, fun j hj => ?_⟩
      · rw [ht, if_pos rfl]
      · rw [ht, if_neg (by omega)]
        by_cases e : j = (st.1 a).length
        · subst e
          rw [if_pos rfl]
          simp
        · rw [if_neg (by omega), List.getElem?_append_left (by omega)]
          exact m_j h ha hb (by omega)
    · show (va_up st.1 i (st.1 i ++ [key]) a).length ≤ 64 ∧ t1 a = nI (va_up st.1 i (st.1 i ++ [key]) a).length ∧ ∀ j, j < (va_up st.1 i (st.1 i ++ [key]) a).length → (va_up st.1 i (st.1 i ++ [key]) a)[j]? = some (t1 (16 + 70 * a + j))
      rw [va_up_ne _ _ q]
      refine ⟨m_64 h ha hb, ?_, fun j hj => ?_⟩
      · rw [ht, if_neg q, if_neg (by omega)]
        exact m_l h ha hb
      · have := m_64 h ha hb
        rw [ht, if_neg (by omega), if_neg (by omega)]
        exact m_j h ha hb hj
  · rw [ht, if_neg (by omega), if_neg (by omega)]
    exact h.2 a ha hb
theorem k_gap_nI {L : List Int32} {p : Nat} (hp : p < L.length) (hl : L.length ≤ 64) : k_gap L (nI p) = L.eraseIdx p := by
  unfold k_gap
  rw [if_neg (nI_pos (by omega)), if_pos (nI_lt hp (by omega)), nI_clamp (by omega)]
theorem k_at_nI {L : List Int32} {p : Nat} {v : Int32} (hl : L.length ≤ 64) (hv : L[p]? = some v) : k_at L (nI p) = v := by
  have hp : p < L.length := (List.getElem?_eq_some_iff.mp hv).1
  unfold k_at
  rw [if_neg (nI_pos (by omega)), if_neg (nI_ge hp (by omega)), nI_clamp (by omega), List.getD_eq_getElem?_getD, hv]
  rfl
theorem m_leave {t t1 : Nat → Int32} {st : ki_St} {i p : Nat} (h : m_rep t st) (h1 : 1 ≤ i) (h4 : i ≤ 4) (hp : p < (st.1 i).length) (ht : ∀ x, t1 x = if x = i then nI ((st.1 i).length - 1) else if 16 + 70 * i + p ≤ x ∧ x < 16 + 70 * i + ((st.1 i).length - 1) then t (x + 1) else t x) : m_rep t1 (va_up st.1 i (k_gap (st.1 i) (nI p)), st.2) := by
  have hl := m_64 h h1 h4
  rw [k_gap_nI hp hl]
  refine ⟨fun a ha hb => ?_, fun a ha hb => ?_⟩
  · by_cases q : a = i
    · subst q
      show (va_up st.1 a ((st.1 a).eraseIdx p) a).length ≤ 64 ∧ t1 a = nI (va_up st.1 a ((st.1 a).eraseIdx p) a).length ∧ ∀ j, j < (va_up st.1 a ((st.1 a).eraseIdx p) a).length → (va_up st.1 a ((st.1 a).eraseIdx p) a)[j]? = some (t1 (16 + 70 * a + j))
      rw [va_up_self, List.length_eraseIdx_of_lt hp]
      refine ⟨by omega, ?_, fun j hj => ?_⟩
      · rw [ht, if_pos rfl]
      · rw [List.getElem?_eraseIdx, ht, if_neg (show ¬ 16 + 70 * a + j = a by omega)]
        by_cases e : j < p
        · rw [if_pos e, if_neg (by omega)]
          exact m_j h ha hb (by omega)
        · rw [if_neg e, if_pos (by omega)]
          exact m_j h ha hb (by omega)
    · show (va_up st.1 i ((st.1 i).eraseIdx p) a).length ≤ 64 ∧ t1 a = nI (va_up st.1 i ((st.1 i).eraseIdx p) a).length ∧ ∀ j, j < (va_up st.1 i ((st.1 i).eraseIdx p) a).length → (va_up st.1 i ((st.1 i).eraseIdx p) a)[j]? = some (t1 (16 + 70 * a + j))
      rw [va_up_ne _ _ q]
      refine ⟨m_64 h ha hb, ?_, fun j hj => ?_⟩
      · rw [ht, if_neg q, if_neg (by omega)]
        exact m_l h ha hb
      · have := m_64 h ha hb
        rw [ht, if_neg (by omega), if_neg (by omega)]
        exact m_j h ha hb hj
  · rw [ht, if_neg (by omega), if_neg (by omega)]
    exact h.2 a ha hb
/-- where the last of the first k places stands that holds the key -/
def m_pl (L : List Int32) (key : Int32) (k : Nat) (v : Int32) : Prop := (v = -1 ∧ ∀ j, j < k → ¬ L[j]? = some key) ∨ ∃ j, j < k ∧ v = nI j ∧ L[j]? = some key
theorem m_pl_t {L : List Int32} {key v : Int32} {k : Nat} (h : L[k]? = some key) : m_pl L key (k + 1) (nI k) := Or.inr ⟨k, by omega, rfl, h⟩
theorem m_pl_f {L : List Int32} {key v : Int32} {k : Nat} (h : m_pl L key k v) (hn : ¬ L[k]? = some key) : m_pl L key (k + 1) v := by
  rcases h with ⟨h1, h2⟩ | ⟨j, h1, h2, h3⟩
  · refine Or.inl ⟨h1, fun j hj => ?_⟩
    rcases Nat.lt_or_ge j k with q | q
    · exact h2 j q
    · rw [show j = k by omega]; exact hn
  · exact Or.inr ⟨j, by omega, h2, h3⟩
theorem m_pl_end {L : List Int32} {key v : Int32} {k : Nat} (h : m_pl L key k v) (hk : L.length ≤ k) (hn : L.Nodup) : v = k_idx L key := by
  rcases h with ⟨h1, h2⟩ | ⟨j, h1, h2, h3⟩
  · unfold k_idx
    rw [if_neg, h1]
    intro hm
    obtain ⟨j, hj⟩ := List.getElem?_of_mem hm
    exact h2 j (by have := (List.getElem?_eq_some_iff.mp hj).1; omega) hj
  · have hm : key ∈ L := List.mem_of_getElem? h3
    unfold k_idx
    rw [if_pos hm, h2]
    congr 1
    have hj : j < L.length := (List.getElem?_eq_some_iff.mp h3).1
    have h5 : L[j] = key := (List.getElem?_eq_some_iff.mp h3).2
    have h6 := List.Nodup.idxOf_getElem hn j hj
    rw [h5] at h6
    exact h6.symm
theorem m_idx {L : List Int32} {key : Int32} (hl : L.length ≤ 64) : k_idx L key = -1 ↔ key ∉ L := by
  constructor
  · intro h
    exact (k_idx_lt hl).mp (by rw [h]; decide)
  · intro h
    unfold k_idx
    rw [if_neg h]
theorem m_idx_p {L : List Int32} {key : Int32} (h : key ∈ L) : ∃ p : Nat, p < L.length ∧ k_idx L key = nI p ∧ L[p]? = some key := by
  refine ⟨L.idxOf key, List.idxOf_lt_length_iff.mpr h, by unfold k_idx; rw [if_pos h], ?_⟩
  have h3 := List.idxOf_lt_length_iff.mpr h
  rw [List.getElem?_eq_getElem h3, List.getElem_idxOf h3]
end
section
/-! ===== the reference: its row ===== -/
theorem m_key {key : Int32} : 10000 ≤ key ↔ ¬ key ≤ 9999 := by
  rw [Int32.le_iff_toInt_le, Int32.le_iff_toInt_le, show (10000 : Int32).toInt = 10000 from by decide, show (9999 : Int32).toInt = 9999 from by decide]
  omega
set_option maxHeartbeats 4000000 in
set_option maxRecDepth 100000 in
theorem c_X3_at (l : Launch) (D : va_G) (l0 p0 : Int32) : ki_R l yX3_at wsX3_at ({ frames := 0, cells := 0, slots := 0, locals := 0 }) D [] [.int l0, .int p0] [] (16 + 70 * l0 + p0) := by
  refine ki_ofR (cc := cX3_at) (maxL := 2) (ret := (some .int)) (by decide +kernel) rfl (Nat.le_of_ble_eq_true rfl) ?_
  intro p e s m args below meth c ls hx hb hr hts hown hlk hml hK hE hP hl
  have hown : s.vm.findClass RX3 = some m.cls := hown
  have hl : lv_has ls 2 [(0, .int l0), (1, .int p0)] := hl
  refine lv_bipush (v := 16) hx hb dX3_at_0 (by decide) ?_
  refine lv_bipush (v := 70) hx hb dX3_at_2 (by decide) ?_
  refine lv_iload_n hx hb dX3_at_4 rfl (lv_at hl 0 rfl) ?_
  refine lv_imul hx hb dX3_at_5 ?_
  refine lv_iadd hx hb dX3_at_6 ?_
  refine lv_iload_n hx hb dX3_at_7 rfl (lv_at hl 1 rfl) ?_
  refine lv_iadd hx hb dX3_at_8 ?_
  exact ki_rret hx hb hr hlk (by rfl) dX3_at_9
set_option maxHeartbeats 4000000 in
set_option maxRecDepth 100000 in
theorem c_X3_isKey (l : Launch) (D : va_G) (key : Int32) : ki_R l yX3_isKey wsX3_isKey ({ frames := 0, cells := 0, slots := 0, locals := 0 }) D [] [.int key] [] (if ¬ a_badKey key then 1 else 0) := by
  refine ki_ofR (cc := cX3_isKey) (maxL := 1) (ret := (some .boolean)) (by decide +kernel) rfl (Nat.le_of_ble_eq_true rfl) ?_
  intro p e s m args below meth c ls hx hb hr hts hown hlk hml hK hE hP hl
  have hown : s.vm.findClass RX3 = some m.cls := hown
  have hl : lv_has ls 1 [(0, .int key)] := hl
  refine lv_iload_n hx hb dX3_isKey_0 rfl (lv_at hl 0 rfl) ?_
  refine lv_if_lt (tgt := 15) hx hb dX3_isKey_1 (by decide) (fun c_1 => ?_) (fun c_1 => ?_)
  · skip
    refine lv_iconst (v := 0) hx hb dX3_isKey_15 (by decide) ?_
    exact ki_rzret hx hb hr rfl hlk (by exact (if_neg (fun q9 => q9 (Or.inl c_1))).symm) dX3_isKey_16
  · skip
    refine lv_iload_n hx hb dX3_isKey_4 rfl (lv_at hl 0 rfl) ?_
    refine lv_sipush (v := 10000) hx hb dX3_isKey_5 (by decide) ?_
    refine lv_icmp_ge (tgt := 15) hx hb dX3_isKey_8 (by decide) (fun c_2 => ?_) (fun c_2 => ?_)
    · skip
      refine lv_iconst (v := 0) hx hb dX3_isKey_15 (by decide) ?_
      exact ki_rzret hx hb hr rfl hlk (by exact (if_neg (fun q9 => q9 (Or.inr (m_key.mp c_2)))).symm) dX3_isKey_16
    · skip
      refine lv_iconst (v := 1) hx hb dX3_isKey_11 (by decide) ?_
      refine lv_goto (tgt := 16) hx hb dX3_isKey_12 (by decide) ?_
      exact ki_rzret hx hb hr rfl hlk (by exact (if_pos (fun q9 => q9.elim c_1 (fun z9 => c_2 (m_key.mpr z9)))).symm) dX3_isKey_16
set_option maxHeartbeats 4000000 in
set_option maxRecDepth 100000 in
theorem c_X3_isCapacity (l : Launch) (D : va_G) (k : Int32) : ki_R l yX3_isCapacity wsX3_isCapacity ({ frames := 0, cells := 0, slots := 0, locals := 0 }) D [] [.int k] [] (if ¬ a_badCap k then 1 else 0) := by
  refine ki_ofR (cc := cX3_isCapacity) (maxL := 1) (ret := (some .boolean)) (by decide +kernel) rfl (Nat.le_of_ble_eq_true rfl) ?_
  intro p e s m args below meth c ls hx hb hr hts hown hlk hml hK hE hP hl
  have hown : s.vm.findClass RX3 = some m.cls := hown
  have hl : lv_has ls 1 [(0, .int k)] := hl
  refine lv_iload_n hx hb dX3_isCapacity_0 rfl (lv_at hl 0 rfl) ?_
  refine lv_iconst (v := 1) hx hb dX3_isCapacity_1 (by decide) ?_
  refine lv_icmp_lt (tgt := 15) hx hb dX3_isCapacity_2 (by decide) (fun c_1 => ?_) (fun c_1 => ?_)
  · skip
    refine lv_iconst (v := 0) hx hb dX3_isCapacity_15 (by decide) ?_
    exact ki_rzret hx hb hr rfl hlk (by exact (if_neg (fun q9 => q9 (Or.inl c_1))).symm) dX3_isCapacity_16
  · skip
    refine lv_iload_n hx hb dX3_isCapacity_5 rfl (lv_at hl 0 rfl) ?_
    refine lv_bipush (v := 32) hx hb dX3_isCapacity_6 (by decide) ?_
    refine lv_icmp_gt (tgt := 15) hx hb dX3_isCapacity_8 (by decide) (fun c_2 => ?_) (fun c_2 => ?_)
    · skip
      refine lv_iconst (v := 0) hx hb dX3_isCapacity_15 (by decide) ?_
      exact ki_rzret hx hb hr rfl hlk (by exact (if_neg (fun q9 => q9 (Or.inr (Int32.not_le.mpr c_2)))).symm) dX3_isCapacity_16
    · skip
      refine lv_iconst (v := 1) hx hb dX3_isCapacity_11 (by decide) ?_
      refine lv_goto (tgt := 16) hx hb dX3_isCapacity_12 (by decide) ?_
      exact ki_rzret hx hb hr rfl hlk (by exact (if_pos (fun q9 => q9.elim c_1 (fun z9 => c_2 (Int32.not_le.mp z9)))).symm) dX3_isCapacity_16
set_option maxHeartbeats 4000000 in
set_option maxRecDepth 100000 in
theorem c_X3_step (l : Launch) (D : va_G) (o w : Nat) (hw1 : 1 ≤ w) (hw2 : w ≤ 64) : ki_R l yX3_step wsX3_step ({ frames := 0, cells := 0, slots := 0, locals := 0 }) D [] [.int (nI o), .int (nI w)] [] (c_step (nI o) (nI w)) := by
  refine ki_ofR (cc := cX3_step) (maxL := 3) (ret := (some .int)) (by decide +kernel) rfl (Nat.le_of_ble_eq_true rfl) ?_
  intro p e s m args below meth c ls hx hb hr hts hown hlk hml hK hE hP hl
  have hown : s.vm.findClass RX3 = some m.cls := hown
  have hl : lv_has ls 3 [(0, .int (nI o)), (1, .int (nI w))] := hl
  refine lv_iload_n hx hb dX3_step_0 rfl (lv_at hl 0 rfl) ?_
  refine lv_iload_n hx hb dX3_step_1 rfl (lv_at hl 1 rfl) ?_
  refine lv_idiv hx hb dX3_step_2 (nI_ne0 (by omega) (by omega)) ?_
  refine lv_istore_n (lv' := [(2, .int ((nI o) / (nI w))), (0, .int (nI o)), (1, .int (nI w))]) hx hb dX3_step_3 rfl hl (by decide) rfl (fun ls hl => ?_)
  refine lv_iload_n hx hb dX3_step_4 rfl (lv_at hl 0 rfl) ?_
  refine lv_iconst (v := 1) hx hb dX3_step_5 (by decide) ?_
  refine lv_icmp_le (tgt := 13) hx hb dX3_step_6 (by decide) (fun c_1 => ?_) (fun c_1 => ?_)
  · skip
    refine lv_iconst (v := 1) hx hb dX3_step_13 (by decide) ?_
    exact ki_rret hx hb hr hlk (by unfold c_step; rw [if_pos (show (1 : Int32) ≤ nI w by show nI 1 ≤ nI w; rw [nI_leI (by omega) (by omega)]; exact hw1), if_neg (Int32.not_lt.mpr c_1)]) dX3_step_14
  · skip
    refine lv_iload_n hx hb dX3_step_9 rfl (lv_at hl 0 rfl) ?_
    refine lv_goto (tgt := 14) hx hb dX3_step_10 (by decide) ?_
    exact ki_rret hx hb hr hlk (by unfold c_step; rw [if_pos (show (1 : Int32) ≤ nI w by show nI 1 ≤ nI w; rw [nI_leI (by omega) (by omega)]; exact hw1), if_pos (Int32.not_le.mp c_1)]) dX3_step_14
set_option maxHeartbeats 4000000 in
set_option maxRecDepth 100000 in
theorem c_X3_isFull (l : Launch) (D : va_G) (cy : ClassId) (a : Nat) (t : Nat → Int32) (st : ki_St) (hm : m_rep t st) : ki_R l yX3_isFull wsX3_isFull ({ frames := 0, cells := 0, slots := 0, locals := 0 }) D [(cy, .int)] [.ref a] [(a, .inl (cy, 366, .inl t))] (if ¬ c_pages st < st.2 6 then 1 else 0) := by
  refine ki_ofR (cc := cX3_isFull) (maxL := 1) (ret := (some .boolean)) (by decide +kernel) rfl (Nat.le_of_ble_eq_true rfl) ?_
  intro p e s m args below meth c ls hx hb hr hts hown hlk hml hK hE hP hl
  have hown : s.vm.findClass RX3 = some m.cls := hown
  have hl : lv_has ls 1 [(0, .ref a)] := hl
  refine lv_aload_n hx hb dX3_isFull_0 rfl (lv_at hl 0 rfl) ?_
  refine lv_iconst (v := 1) hx hb dX3_isFull_1 (by decide) ?_
  refine va_iald hx hb hK hP 0 0 rfl rfl (vp_in_nI (n := 1) (by decide) (by decide)) dX3_isFull_2 ?_
  rw [show (t (Int32.toNatClampNeg 1) : Int32) = nI (st.1 1).length from m_l hm (i := 1) (by decide) (by decide)]
  refine lv_aload_n hx hb dX3_isFull_3 rfl (lv_at hl 0 rfl) ?_
  refine lv_iconst (v := 2) hx hb dX3_isFull_4 (by decide) ?_
  refine va_iald hx hb hK hP 0 0 rfl rfl (vp_in_nI (n := 2) (by decide) (by decide)) dX3_isFull_5 ?_
  rw [show (t (Int32.toNatClampNeg 2) : Int32) = nI (st.1 2).length from m_l hm (i := 2) (by decide) (by decide)]
  refine lv_iadd hx hb dX3_isFull_6 ?_
  refine lv_aload_n hx hb dX3_isFull_7 rfl (lv_at hl 0 rfl) ?_
  refine lv_bipush (v := 6) hx hb dX3_isFull_8 (by decide) ?_
  refine va_iald hx hb hK hP 0 0 rfl rfl (vp_in_nI (n := 6) (by decide) (by decide)) dX3_isFull_10 ?_
  rw [show (t (Int32.toNatClampNeg 6) : Int32) = st.2 6 from hm.2 6 (by decide) (by decide)]
  refine lv_icmp_lt (tgt := 18) hx hb dX3_isFull_11 (by decide) (fun c_1 => ?_) (fun c_1 => ?_)
  · skip
    refine lv_iconst (v := 0) hx hb dX3_isFull_18 (by decide) ?_
    exact ki_rzret hx hb hr rfl hlk (by exact (if_neg (fun q9 => q9 c_1)).symm) dX3_isFull_19
  · skip
    refine lv_iconst (v := 1) hx hb dX3_isFull_14 (by decide) ?_
    refine lv_goto (tgt := 19) hx hb dX3_isFull_15 (by decide) ?_
    exact ki_rzret hx hb hr rfl hlk (by exact (if_pos c_1).symm) dX3_isFull_19
set_option maxHeartbeats 4000000 in
set_option maxRecDepth 100000 in
theorem c_X3_allKeys (l : Launch) (D : va_G) (cy : ClassId) (a : Nat) (t : Nat → Int32) (st : ki_St) (hm : m_rep t st) : ki_R l yX3_allKeys wsX3_allKeys ({ frames := 0, cells := 0, slots := 0, locals := 0 }) D [(cy, .int)] [.ref a] [(a, .inl (cy, 366, .inl t))] (c_all st) := by
  refine ki_ofR (cc := cX3_allKeys) (maxL := 1) (ret := (some .int)) (by decide +kernel) rfl (Nat.le_of_ble_eq_true rfl) ?_
  intro p e s m args below meth c ls hx hb hr hts hown hlk hml hK hE hP hl
  have hown : s.vm.findClass RX3 = some m.cls := hown
  have hl : lv_has ls 1 [(0, .ref a)] := hl
  refine lv_aload_n hx hb dX3_allKeys_0 rfl (lv_at hl 0 rfl) ?_
  refine lv_iconst (v := 1) hx hb dX3_allKeys_1 (by decide) ?_
  refine va_iald hx hb hK hP 0 0 rfl rfl (vp_in_nI (n := 1) (by decide) (by decide)) dX3_allKeys_2 ?_
  rw [show (t (Int32.toNatClampNeg 1) : Int32) = nI (st.1 1).length from m_l hm (i := 1) (by decide) (by decide)]
  refine lv_aload_n hx hb dX3_allKeys_3 rfl (lv_at hl 0 rfl) ?_
  refine lv_iconst (v := 2) hx hb dX3_allKeys_4 (by decide) ?_
  refine va_iald hx hb hK hP 0 0 rfl rfl (vp_in_nI (n := 2) (by decide) (by decide)) dX3_allKeys_5 ?_
  rw [show (t (Int32.toNatClampNeg 2) : Int32) = nI (st.1 2).length from m_l hm (i := 2) (by decide) (by decide)]
  refine lv_iadd hx hb dX3_allKeys_6 ?_
  refine lv_aload_n hx hb dX3_allKeys_7 rfl (lv_at hl 0 rfl) ?_
  refine lv_iconst (v := 3) hx hb dX3_allKeys_8 (by decide) ?_
  refine va_iald hx hb hK hP 0 0 rfl rfl (vp_in_nI (n := 3) (by decide) (by decide)) dX3_allKeys_9 ?_
  rw [show (t (Int32.toNatClampNeg 3) : Int32) = nI (st.1 3).length from m_l hm (i := 3) (by decide) (by decide)]
  refine lv_iadd hx hb dX3_allKeys_10 ?_
  refine lv_aload_n hx hb dX3_allKeys_11 rfl (lv_at hl 0 rfl) ?_
  refine lv_iconst (v := 4) hx hb dX3_allKeys_12 (by decide) ?_
  refine va_iald hx hb hK hP 0 0 rfl rfl (vp_in_nI (n := 4) (by decide) (by decide)) dX3_allKeys_13 ?_
  rw [show (t (Int32.toNatClampNeg 4) : Int32) = nI (st.1 4).length from m_l hm (i := 4) (by decide) (by decide)]
  refine lv_iadd hx hb dX3_allKeys_14 ?_
  exact ki_rret hx hb hr hlk (by rfl) dX3_allKeys_15
set_option maxHeartbeats 4000000 in
set_option maxRecDepth 100000 in
theorem c_X3_evictedFrom (l : Launch) (D : va_G) (cy : ClassId) (a : Nat) (t : Nat → Int32) (st : ki_St) (hm : m_rep t st) (asked : Int32) : ki_R l yX3_evictedFrom wsX3_evictedFrom ({ frames := 0, cells := 0, slots := 0, locals := 0 }) D [(cy, .int)] [.ref a, .int asked] [(a, .inl (cy, 366, .inl t))] (if c_evR st (if asked = 4 then 1 else 0) then 1 else 2) := by
  refine ki_ofR (cc := cX3_evictedFrom) (maxL := 3) (ret := (some .int)) (by decide +kernel) rfl (Nat.le_of_ble_eq_true rfl) ?_
  intro p e s m args below meth c ls hx hb hr hts hown hlk hml hK hE hP hl
  have hown : s.vm.findClass RX3 = some m.cls := hown
  have hl : lv_has ls 3 [(0, .ref a), (1, .int asked)] := hl
  refine lv_aload_n hx hb dX3_evictedFrom_0 rfl (lv_at hl 0 rfl) ?_
  refine lv_iconst (v := 1) hx hb dX3_evictedFrom_1 (by decide) ?_
  refine va_iald hx hb hK hP 0 0 rfl rfl (vp_in_nI (n := 1) (by decide) (by decide)) dX3_evictedFrom_2 ?_
  rw [show (t (Int32.toNatClampNeg 1) : Int32) = nI (st.1 1).length from m_l hm (i := 1) (by decide) (by decide)]
  refine lv_aload_n hx hb dX3_evictedFrom_3 rfl (lv_at hl 0 rfl) ?_
  refine lv_iconst (v := 5) hx hb dX3_evictedFrom_4 (by decide) ?_
  refine va_iald hx hb hK hP 0 0 rfl rfl (vp_in_nI (n := 5) (by decide) (by decide)) dX3_evictedFrom_5 ?_
  rw [show (t (Int32.toNatClampNeg 5) : Int32) = st.2 5 from hm.2 5 (by decide) (by decide)]
  refine lv_icmp_gt (tgt := 29) hx hb dX3_evictedFrom_6 (by decide) (fun c_1 => ?_) (fun c_1 => ?_)
  · skip
    refine lv_iconst (v := 1) hx hb dX3_evictedFrom_29 (by decide) ?_
    refine lv_goto (tgt := 34) hx hb dX3_evictedFrom_30 (by decide) ?_
    refine lv_istore_n (lv' := [(2, .int 1), (0, .ref a), (1, .int asked)]) hx hb dX3_evictedFrom_34 rfl hl (by decide) rfl (fun ls hl => ?_)
    refine lv_iload_n hx hb dX3_evictedFrom_35 rfl (lv_at hl 0 rfl) ?_
    refine lv_if_eq (tgt := 43) hx hb dX3_evictedFrom_36 (by decide) (fun c_2 => ?_) (fun c_2 => ?_)
    · exact absurd c_2 (by decide)
    · skip
      refine lv_iconst (v := 1) hx hb dX3_evictedFrom_39 (by decide) ?_
      refine lv_goto (tgt := 44) hx hb dX3_evictedFrom_40 (by decide) ?_
      exact ki_rret hx hb hr hlk (by exact (if_pos (Or.inl c_1)).symm) dX3_evictedFrom_44
  · skip
    refine lv_aload_n hx hb dX3_evictedFrom_9 rfl (lv_at hl 0 rfl) ?_
    refine lv_iconst (v := 1) hx hb dX3_evictedFrom_10 (by decide) ?_
    refine va_iald hx hb hK hP 0 0 rfl rfl (vp_in_nI (n := 1) (by decide) (by decide)) dX3_evictedFrom_11 ?_
    rw [show (t (Int32.toNatClampNeg 1) : Int32) = nI (st.1 1).length from m_l hm (i := 1) (by decide) (by decide)]
    refine lv_aload_n hx hb dX3_evictedFrom_12 rfl (lv_at hl 0 rfl) ?_
    refine lv_iconst (v := 5) hx hb dX3_evictedFrom_13 (by decide) ?_
    refine va_iald hx hb hK hP 0 0 rfl rfl (vp_in_nI (n := 5) (by decide) (by decide)) dX3_evictedFrom_14 ?_
    rw [show (t (Int32.toNatClampNeg 5) : Int32) = st.2 5 from hm.2 5 (by decide) (by decide)]
    refine lv_icmp_ne (tgt := 33) hx hb dX3_evictedFrom_15 (by decide) (fun c_3 => ?_) (fun c_3 => ?_)
    · skip
      refine lv_iconst (v := 0) hx hb dX3_evictedFrom_33 (by decide) ?_
      refine lv_istore_n (lv' := [(2, .int 0), (0, .ref a), (1, .int asked)]) hx hb dX3_evictedFrom_34 rfl hl (by decide) rfl (fun ls hl => ?_)
      refine lv_iload_n hx hb dX3_evictedFrom_35 rfl (lv_at hl 0 rfl) ?_
      refine lv_if_eq (tgt := 43) hx hb dX3_evictedFrom_36 (by decide) (fun c_4 => ?_) (fun c_4 => ?_)
      rotate_left
      · exact absurd (by decide) c_4
      · skip
        refine lv_iconst (v := 2) hx hb dX3_evictedFrom_43 (by decide) ?_
        exact ki_rret hx hb hr hlk (by exact (if_neg (fun q9 => q9.elim c_1 (fun z9 => c_3 z9.2.1))).symm) dX3_evictedFrom_44
    · skip
      refine lv_aload_n hx hb dX3_evictedFrom_18 rfl (lv_at hl 0 rfl) ?_
      refine lv_iconst (v := 1) hx hb dX3_evictedFrom_19 (by decide) ?_
      refine va_iald hx hb hK hP 0 0 rfl rfl (vp_in_nI (n := 1) (by decide) (by decide)) dX3_evictedFrom_20 ?_
      rw [show (t (Int32.toNatClampNeg 1) : Int32) = nI (st.1 1).length from m_l hm (i := 1) (by decide) (by decide)]
      refine lv_if_le (tgt := 33) hx hb dX3_evictedFrom_21 (by decide) (fun c_5 => ?_) (fun c_5 => ?_)
      · skip
        refine lv_iconst (v := 0) hx hb dX3_evictedFrom_33 (by decide) ?_
        refine lv_istore_n (lv' := [(2, .int 0), (0, .ref a), (1, .int asked)]) hx hb dX3_evictedFrom_34 rfl hl (by decide) rfl (fun ls hl => ?_)
        refine lv_iload_n hx hb dX3_evictedFrom_35 rfl (lv_at hl 0 rfl) ?_
        refine lv_if_eq (tgt := 43) hx hb dX3_evictedFrom_36 (by decide) (fun c_6 => ?_) (fun c_6 => ?_)
        rotate_left
        · exact absurd (by decide) c_6
        · skip
          refine lv_iconst (v := 2) hx hb dX3_evictedFrom_43 (by decide) ?_
          exact ki_rret hx hb hr hlk (by exact (if_neg (fun q9 => q9.elim c_1 (fun z9 => z9.2.2 c_5))).symm) dX3_evictedFrom_44
      · skip
        refine lv_iload_n hx hb dX3_evictedFrom_24 rfl (lv_at hl 1 rfl) ?_
        refine lv_iconst (v := 4) hx hb dX3_evictedFrom_25 (by decide) ?_
        refine lv_icmp_ne (tgt := 33) hx hb dX3_evictedFrom_26 (by decide) (fun c_7 => ?_) (fun c_7 => ?_)
        · skip
          refine lv_iconst (v := 0) hx hb dX3_evictedFrom_33 (by decide) ?_
          refine lv_istore_n (lv' := [(2, .int 0), (0, .ref a), (1, .int asked)]) hx hb dX3_evictedFrom_34 rfl hl (by decide) rfl (fun ls hl => ?_)
          refine lv_iload_n hx hb dX3_evictedFrom_35 rfl (lv_at hl 0 rfl) ?_
          refine lv_if_eq (tgt := 43) hx hb dX3_evictedFrom_36 (by decide) (fun c_8 => ?_) (fun c_8 => ?_)
          rotate_left
          · exact absurd (by decide) c_8
          · skip
            refine lv_iconst (v := 2) hx hb dX3_evictedFrom_43 (by decide) ?_
            exact ki_rret hx hb hr hlk (by exact (if_neg (fun q9 => q9.elim c_1 (fun z9 => c_7 (ki_b1.mp z9.1)))).symm) dX3_evictedFrom_44
        · skip
          refine lv_iconst (v := 1) hx hb dX3_evictedFrom_29 (by decide) ?_
          refine lv_goto (tgt := 34) hx hb dX3_evictedFrom_30 (by decide) ?_
          refine lv_istore_n (lv' := [(2, .int 1), (0, .ref a), (1, .int asked)]) hx hb dX3_evictedFrom_34 rfl hl (by decide) rfl (fun ls hl => ?_)
          refine lv_iload_n hx hb dX3_evictedFrom_35 rfl (lv_at hl 0 rfl) ?_
          refine lv_if_eq (tgt := 43) hx hb dX3_evictedFrom_36 (by decide) (fun c_9 => ?_) (fun c_9 => ?_)
          · exact absurd c_9 (by decide)
          · skip
            refine lv_iconst (v := 1) hx hb dX3_evictedFrom_39 (by decide) ?_
            refine lv_goto (tgt := 44) hx hb dX3_evictedFrom_40 (by decide) ?_
            exact ki_rret hx hb hr hlk (by exact (if_pos (Or.inr ⟨ki_b1.mpr c_7, c_3, c_5⟩)).symm) dX3_evictedFrom_44
set_option maxHeartbeats 4000000 in
set_option maxRecDepth 100000 in
theorem c_X3_placeIn (l : Launch) (D : va_G) (cy : ClassId) (a : Nat) (t : Nat → Int32) (st : ki_St) (hm : m_rep t st) (i : Nat) (h1 : 1 ≤ i) (h4 : i ≤ 4) (hn : (st.1 i).Nodup) (key : Int32) : ki_R l yX3_placeIn wsX3_placeIn ({ frames := 1, cells := 0, slots := 0, locals := 21 }) D [(cy, .int)] [.ref a, .int (nI i), .int key] [(a, .inl (cy, 366, .inl t))] (k_idx (st.1 i) key) := by
  refine ki_ofR (cc := cX3_placeIn) (maxL := 5) (ret := (some .int)) (by decide +kernel) rfl (Nat.le_of_ble_eq_true rfl) ?_
  intro p e s m args below meth c ls hx hb hr hts hown hlk hml hK hE hP hl
  have hown : s.vm.findClass RX3 = some m.cls := hown
  have hl : lv_has ls 5 [(0, .ref a), (1, .int (nI i)), (2, .int key)] := hl
  refine lv_iconst (v := (-1)) hx hb dX3_placeIn_0 (by decide) ?_
  refine lv_istore_n (lv' := [(3, .int (-1)), (0, .ref a), (1, .int (nI i)), (2, .int key)]) hx hb dX3_placeIn_1 rfl hl (by decide) rfl (fun ls hl => ?_)
  refine lv_iconst (v := 0) hx hb dX3_placeIn_2 (by decide) ?_
  refine lv_istore (lv' := [(4, .int 0), (3, .int (-1)), (0, .ref a), (1, .int (nI i)), (2, .int key)]) hx hb dX3_placeIn_3 hl (by decide) rfl (fun ls hl => ?_)
  have hLb := m_64 hm h1 h4
  have lp : ∀ (n k : Nat) (v : Int32) (ls : Array Slot), (st.1 i).length - k < n → k ≤ (st.1 i).length → m_pl (st.1 i) key k v → lv_has ls 5 [(4, .int (nI k)), (3, .int v), (0, .ref a), (1, .int (nI i)), (2, .int key)] → W p l e ({ frames := 1, cells := 0, slots := 0, locals := 21 }) s m args below meth c s.heap [] 0 0 (MQ below (QcRead (k_idx (st.1 i) key)) args s 0 0 (fun _ => False)) (F0 m 5 ls []) := by
    intro n
    induction n with
    | zero => intro k v ls h; omega
    | succ n ih =>
      intro k v ls hm9 hk hpl hl
      refine lv_iload hx hb dX3_placeIn_5 (lv_at hl 0 rfl) ?_
      refine lv_aload_n hx hb dX3_placeIn_7 rfl (lv_at hl 2 rfl) ?_
      refine lv_iload_n hx hb dX3_placeIn_8 rfl (lv_at hl 3 rfl) ?_
      refine va_iald hx hb hK hP 0 0 rfl rfl (vp_in_nI (by omega) (by decide)) dX3_placeIn_9 ?_
      rw [show (t (Int32.toNatClampNeg (nI i)) : Int32) = nI (st.1 i).length from by rw [nI_clamp (by omega)]; exact m_l hm h1 h4]
      refine lv_icmp_ge (tgt := 38) hx hb dX3_placeIn_10 (by decide) (fun c_1 => ?_) (fun c_1 => ?_)
      · skip
        refine lv_iload_n hx hb dX3_placeIn_38 rfl (lv_at hl 1 rfl) ?_
        exact ki_rret hx hb hr hlk (by exact m_pl_end hpl (by rcases Nat.lt_or_ge k (st.1 i).length with q9 | q9; exact absurd c_1 (nI_ge q9 (by omega)); exact q9) hn) dX3_placeIn_39
      · skip
        have hkl : k < (st.1 i).length := by rcases Nat.lt_or_ge k (st.1 i).length with q9 | q9; exact q9; exact absurd (nI_le q9 (by omega)) c_1
        refine lv_aload_n hx hb dX3_placeIn_13 rfl (lv_at hl 2 rfl) ?_
        refine lv_iload_n hx hb dX3_placeIn_14 rfl (lv_at hl 3 rfl) ?_
        refine lv_iload hx hb dX3_placeIn_15 (lv_at hl 0 rfl) ?_
        refine ki_cSR (As := [.int (nI i), .int (nI k)]) (rest := [.ref a]) ⟨hx, hb, hml, hown, hts⟩ (c_X3_at l D (nI i) (nI k)) (va_cwS 2 hts gX3_placeIn_X3_at rfl rfl rfl (by decide +kernel) ⟨Nat.le_of_ble_eq_true rfl, Nat.le_of_ble_eq_true rfl⟩) hK hE hP [] rfl [] rfl rfl hl.1 rfl (Nat.le_of_ble_eq_true rfl) dX3_placeIn_17 ⟨Nat.le_of_ble_eq_true rfl, Nat.le_of_ble_eq_true rfl⟩ ?_
        rw [show (16 + 70 * (nI i) + (nI k) : Int32) = nI (16 + 70 * i + k) from m_at i k]
        refine va_iald hx hb hK hP 0 0 rfl rfl (vp_in_nI (by omega) (by decide)) dX3_placeIn_20 ?_
        rw [show (t (Int32.toNatClampNeg (nI (16 + 70 * i + k))) : Int32) = t (16 + 70 * i + k) from by rw [nI_clamp (by omega)]]
        refine lv_iload_n hx hb dX3_placeIn_21 rfl (lv_at hl 4 rfl) ?_
        refine lv_icmp_ne (tgt := 30) hx hb dX3_placeIn_22 (by decide) (fun c_2 => ?_) (fun c_2 => ?_)
        · skip
          refine lv_iload_n hx hb dX3_placeIn_30 rfl (lv_at hl 1 rfl) ?_
          refine lv_istore_n (lv' := [(3, .int v), (4, .int (nI k)), (0, .ref a), (1, .int (nI i)), (2, .int key)]) hx hb dX3_placeIn_31 rfl hl (by decide) rfl (fun ls hl => ?_)
          refine lv_iinc (v := nI (k + 1)) (lv' := [(4, .int (nI (k + 1))), (3, .int v), (0, .ref a), (1, .int (nI i)), (2, .int key)]) hx hb dX3_placeIn_32 hl (k := 1) rfl (nI_1 k) (by decide) rfl (fun ls hl => ?_)
          refine lv_goto (tgt := 5) hx hb dX3_placeIn_35 (by decide) ?_
          exact ih (k + 1) v ls (by omega) (by omega) (m_pl_f hpl (by rw [m_j hm h1 h4 hkl]; intro q9; exact c_2 (Option.some.inj q9))) (lv_sub hl [0, 1, 2, 3, 4] rfl)
        · skip
          refine lv_iload hx hb dX3_placeIn_25 (lv_at hl 0 rfl) ?_
          refine lv_goto (tgt := 31) hx hb dX3_placeIn_27 (by decide) ?_
          refine lv_istore_n (lv' := [(3, .int (nI k)), (4, .int (nI k)), (0, .ref a), (1, .int (nI i)), (2, .int key)]) hx hb dX3_placeIn_31 rfl hl (by decide) rfl (fun ls hl => ?_)
          refine lv_iinc (v := nI (k + 1)) (lv' := [(4, .int (nI (k + 1))), (3, .int (nI k)), (0, .ref a), (1, .int (nI i)), (2, .int key)]) hx hb dX3_placeIn_32 hl (k := 1) rfl (nI_1 k) (by decide) rfl (fun ls hl => ?_)
          refine lv_goto (tgt := 5) hx hb dX3_placeIn_35 (by decide) ?_
          exact ih (k + 1) (nI k) ls (by omega) (by omega) (m_pl_t (v := 0) (by rw [m_j hm h1 h4 hkl, c_2])) (lv_sub hl [0, 1, 2, 3, 4] rfl)
  exact lp ((st.1 i).length + 1) 0 (-1) ls (by omega) (Nat.zero_le _) (Or.inl ⟨rfl, fun j hj => absurd hj (Nat.not_lt_zero j)⟩) (lv_sub hl [0, 1, 2, 3, 4] rfl)
set_option maxHeartbeats 4000000 in
set_option maxRecDepth 100000 in
theorem c_X3_listOf (l : Launch) (D : va_G) (cy : ClassId) (a : Nat) (t : Nat → Int32) (st : ki_St) (hm : m_rep t st) (hw : p_W st) (key : Int32) : ki_R l yX3_listOf wsX3_listOf ({ frames := 2, cells := 0, slots := 0, locals := 45 }) D [(cy, .int)] [.ref a, .int key] [(a, .inl (cy, 366, .inl t))] (c_list st key) := by
  refine ki_ofR (cc := cX3_listOf) (maxL := 4) (ret := (some .int)) (by decide +kernel) rfl (Nat.le_of_ble_eq_true rfl) ?_
  intro p e s m args below meth c ls hx hb hr hts hown hlk hml hK hE hP hl
  have hown : s.vm.findClass RX3 = some m.cls := hown
  have hl : lv_has ls 4 [(0, .ref a), (1, .int key)] := hl
  refine lv_iconst (v := 0) hx hb dX3_listOf_0 (by decide) ?_
  refine lv_istore_n (lv' := [(2, .int 0), (0, .ref a), (1, .int key)]) hx hb dX3_listOf_1 rfl hl (by decide) rfl (fun ls hl => ?_)
  refine lv_iconst (v := 1) hx hb dX3_listOf_2 (by decide) ?_
  refine lv_istore_n (lv' := [(3, .int 1), (2, .int 0), (0, .ref a), (1, .int key)]) hx hb dX3_listOf_3 rfl hl (by decide) rfl (fun ls hl => ?_)
  refine lv_iload_n hx hb dX3_listOf_4 rfl (lv_at hl 0 rfl) ?_
  refine lv_iconst (v := 4) hx hb dX3_listOf_5 (by decide) ?_
  refine lv_icmp_gt (tgt := 31) hx hb dX3_listOf_6 (by decide) (fun c_1 => ?_) (fun c_1 => ?_)
  · exact absurd c_1 (by decide)
  · skip
    refine lv_aload_n hx hb dX3_listOf_9 rfl (lv_at hl 2 rfl) ?_
    refine lv_iload_n hx hb dX3_listOf_10 rfl (lv_at hl 0 rfl) ?_
    refine lv_iload_n hx hb dX3_listOf_11 rfl (lv_at hl 3 rfl) ?_
    refine ki_cSR (As := [.ref a, .int 1, .int key]) (rest := []) ⟨hx, hb, hml, hown, hts⟩ (c_X3_placeIn l D cy a t st hm 1 (by omega) (by omega) (p_nodup hw (by omega) (by omega)) key) (va_cwS 3 hts gX3_listOf_X3_placeIn rfl rfl rfl (by decide +kernel) ⟨Nat.le_of_ble_eq_true rfl, Nat.le_of_ble_eq_true rfl⟩) hK hE hP [0] rfl [0] rfl rfl hl.1 rfl (Nat.le_of_ble_eq_true rfl) dX3_listOf_12 ⟨Nat.le_of_ble_eq_true rfl, Nat.le_of_ble_eq_true rfl⟩ ?_
    refine lv_iconst (v := (-1)) hx hb dX3_listOf_15 (by decide) ?_
    refine lv_icmp_ne (tgt := 23) hx hb dX3_listOf_16 (by decide) (fun c_2 => ?_) (fun c_2 => ?_)
    · skip
      have hi1 : key ∈ st.1 1 := by rcases Decidable.em (key ∈ st.1 1) with q9 | q9; exact q9; exact absurd ((m_idx (m_64 hm (i := 1) (by decide) (by decide))).mpr q9) c_2
      refine lv_iload_n hx hb dX3_listOf_23 rfl (lv_at hl 0 rfl) ?_
      refine lv_istore_n (lv' := [(2, .int 1), (3, .int 1), (0, .ref a), (1, .int key)]) hx hb dX3_listOf_24 rfl hl (by decide) rfl (fun ls hl => ?_)
      refine lv_iinc (v := 2) (lv' := [(3, .int 2), (2, .int 1), (0, .ref a), (1, .int key)]) hx hb dX3_listOf_25 hl (k := 1) rfl (by decide) (by decide) rfl (fun ls hl => ?_)
      refine lv_goto (tgt := 4) hx hb dX3_listOf_28 (by decide) ?_
      refine lv_iload_n hx hb dX3_listOf_4 rfl (lv_at hl 0 rfl) ?_
      refine lv_iconst (v := 4) hx hb dX3_listOf_5 (by decide) ?_
      refine lv_icmp_gt (tgt := 31) hx hb dX3_listOf_6 (by decide) (fun c_3 => ?_) (fun c_3 => ?_)
      · exact absurd c_3 (by decide)
      · skip
        refine lv_aload_n hx hb dX3_listOf_9 rfl (lv_at hl 2 rfl) ?_
        refine lv_iload_n hx hb dX3_listOf_10 rfl (lv_at hl 0 rfl) ?_
        refine lv_iload_n hx hb dX3_listOf_11 rfl (lv_at hl 3 rfl) ?_
        refine ki_cSR (As := [.ref a, .int 2, .int key]) (rest := []) ⟨hx, hb, hml, hown, hts⟩ (c_X3_placeIn l D cy a t st hm 2 (by omega) (by omega) (p_nodup hw (by omega) (by omega)) key) (va_cwS 3 hts gX3_listOf_X3_placeIn rfl rfl rfl (by decide +kernel) ⟨Nat.le_of_ble_eq_true rfl, Nat.le_of_ble_eq_true rfl⟩) hK hE hP [0] rfl [0] rfl rfl hl.1 rfl (Nat.le_of_ble_eq_true rfl) dX3_listOf_12 ⟨Nat.le_of_ble_eq_true rfl, Nat.le_of_ble_eq_true rfl⟩ ?_
        refine lv_iconst (v := (-1)) hx hb dX3_listOf_15 (by decide) ?_
        refine lv_icmp_ne (tgt := 23) hx hb dX3_listOf_16 (by decide) (fun c_4 => ?_) (fun c_4 => ?_)
        · skip
          have hi2 : key ∈ st.1 2 := by rcases Decidable.em (key ∈ st.1 2) with q9 | q9; exact q9; exact absurd ((m_idx (m_64 hm (i := 2) (by decide) (by decide))).mpr q9) c_4
          refine lv_iload_n hx hb dX3_listOf_23 rfl (lv_at hl 0 rfl) ?_
          refine lv_istore_n (lv' := [(2, .int 2), (3, .int 2), (0, .ref a), (1, .int key)]) hx hb dX3_listOf_24 rfl hl (by decide) rfl (fun ls hl => ?_)
          refine lv_iinc (v := 3) (lv' := [(3, .int 3), (2, .int 2), (0, .ref a), (1, .int key)]) hx hb dX3_listOf_25 hl (k := 1) rfl (by decide) (by decide) rfl (fun ls hl => ?_)
          refine lv_goto (tgt := 4) hx hb dX3_listOf_28 (by decide) ?_
          refine lv_iload_n hx hb dX3_listOf_4 rfl (lv_at hl 0 rfl) ?_
          refine lv_iconst (v := 4) hx hb dX3_listOf_5 (by decide) ?_
          refine lv_icmp_gt (tgt := 31) hx hb dX3_listOf_6 (by decide) (fun c_5 => ?_) (fun c_5 => ?_)
          · exact absurd c_5 (by decide)
          · skip
            refine lv_aload_n hx hb dX3_listOf_9 rfl (lv_at hl 2 rfl) ?_
            refine lv_iload_n hx hb dX3_listOf_10 rfl (lv_at hl 0 rfl) ?_
            refine lv_iload_n hx hb dX3_listOf_11 rfl (lv_at hl 3 rfl) ?_
            refine ki_cSR (As := [.ref a, .int 3, .int key]) (rest := []) ⟨hx, hb, hml, hown, hts⟩ (c_X3_placeIn l D cy a t st hm 3 (by omega) (by omega) (p_nodup hw (by omega) (by omega)) key) (va_cwS 3 hts gX3_listOf_X3_placeIn rfl rfl rfl (by decide +kernel) ⟨Nat.le_of_ble_eq_true rfl, Nat.le_of_ble_eq_true rfl⟩) hK hE hP [0] rfl [0] rfl rfl hl.1 rfl (Nat.le_of_ble_eq_true rfl) dX3_listOf_12 ⟨Nat.le_of_ble_eq_true rfl, Nat.le_of_ble_eq_true rfl⟩ ?_
            refine lv_iconst (v := (-1)) hx hb dX3_listOf_15 (by decide) ?_
            refine lv_icmp_ne (tgt := 23) hx hb dX3_listOf_16 (by decide) (fun c_6 => ?_) (fun c_6 => ?_)
            · skip
              have hi3 : key ∈ st.1 3 := by rcases Decidable.em (key ∈ st.1 3) with q9 | q9; exact q9; exact absurd ((m_idx (m_64 hm (i := 3) (by decide) (by decide))).mpr q9) c_6
              refine lv_iload_n hx hb dX3_listOf_23 rfl (lv_at hl 0 rfl) ?_
              refine lv_istore_n (lv' := [(2, .int 3), (3, .int 3), (0, .ref a), (1, .int key)]) hx hb dX3_listOf_24 rfl hl (by decide) rfl (fun ls hl => ?_)
              refine lv_iinc (v := 4) (lv' := [(3, .int 4), (2, .int 3), (0, .ref a), (1, .int key)]) hx hb dX3_listOf_25 hl (k := 1) rfl (by decide) (by decide) rfl (fun ls hl => ?_)
              refine lv_goto (tgt := 4) hx hb dX3_listOf_28 (by decide) ?_
              refine lv_iload_n hx hb dX3_listOf_4 rfl (lv_at hl 0 rfl) ?_
              refine lv_iconst (v := 4) hx hb dX3_listOf_5 (by decide) ?_
              refine lv_icmp_gt (tgt := 31) hx hb dX3_listOf_6 (by decide) (fun c_7 => ?_) (fun c_7 => ?_)
              · exact absurd c_7 (by decide)
              · skip
                refine lv_aload_n hx hb dX3_listOf_9 rfl (lv_at hl 2 rfl) ?_
                refine lv_iload_n hx hb dX3_listOf_10 rfl (lv_at hl 0 rfl) ?_
                refine lv_iload_n hx hb dX3_listOf_11 rfl (lv_at hl 3 rfl) ?_
                refine ki_cSR (As := [.ref a, .int 4, .int key]) (rest := []) ⟨hx, hb, hml, hown, hts⟩ (c_X3_placeIn l D cy a t st hm 4 (by omega) (by omega) (p_nodup hw (by omega) (by omega)) key) (va_cwS 3 hts gX3_listOf_X3_placeIn rfl rfl rfl (by decide +kernel) ⟨Nat.le_of_ble_eq_true rfl, Nat.le_of_ble_eq_true rfl⟩) hK hE hP [0] rfl [0] rfl rfl hl.1 rfl (Nat.le_of_ble_eq_true rfl) dX3_listOf_12 ⟨Nat.le_of_ble_eq_true rfl, Nat.le_of_ble_eq_true rfl⟩ ?_
                refine lv_iconst (v := (-1)) hx hb dX3_listOf_15 (by decide) ?_
                refine lv_icmp_ne (tgt := 23) hx hb dX3_listOf_16 (by decide) (fun c_8 => ?_) (fun c_8 => ?_)
                · skip
                  have hi4 : key ∈ st.1 4 := by rcases Decidable.em (key ∈ st.1 4) with q9 | q9; exact q9; exact absurd ((m_idx (m_64 hm (i := 4) (by decide) (by decide))).mpr q9) c_8
                  refine lv_iload_n hx hb dX3_listOf_23 rfl (lv_at hl 0 rfl) ?_
                  refine lv_istore_n (lv' := [(2, .int 4), (3, .int 4), (0, .ref a), (1, .int key)]) hx hb dX3_listOf_24 rfl hl (by decide) rfl (fun ls hl => ?_)
                  refine lv_iinc (v := 5) (lv' := [(3, .int 5), (2, .int 4), (0, .ref a), (1, .int key)]) hx hb dX3_listOf_25 hl (k := 1) rfl (by decide) (by decide) rfl (fun ls hl => ?_)
                  refine lv_goto (tgt := 4) hx hb dX3_listOf_28 (by decide) ?_
                  refine lv_iload_n hx hb dX3_listOf_4 rfl (lv_at hl 0 rfl) ?_
                  refine lv_iconst (v := 4) hx hb dX3_listOf_5 (by decide) ?_
                  refine lv_icmp_gt (tgt := 31) hx hb dX3_listOf_6 (by decide) (fun c_9 => ?_) (fun c_9 => ?_)
                  rotate_left
                  · exact absurd (by decide) c_9
                  · skip
                    refine lv_iload_n hx hb dX3_listOf_31 rfl (lv_at hl 1 rfl) ?_
                    exact ki_rret hx hb hr hlk (by exact absurd (p_apart hw (i := 1) (j := 2) (by decide) (by decide) (by decide) (by decide) hi1 hi2) (by decide)) dX3_listOf_32
                · skip
                  have hi4 : ¬ key ∈ st.1 4 := (m_idx (m_64 hm (i := 4) (by decide) (by decide))).mp c_8
                  refine lv_iload_n hx hb dX3_listOf_19 rfl (lv_at hl 1 rfl) ?_
                  refine lv_goto (tgt := 24) hx hb dX3_listOf_20 (by decide) ?_
                  refine lv_istore_n (lv' := [(2, .int 3), (3, .int 4), (0, .ref a), (1, .int key)]) hx hb dX3_listOf_24 rfl hl (by decide) rfl (fun ls hl => ?_)
                  refine lv_iinc (v := 5) (lv' := [(3, .int 5), (2, .int 3), (0, .ref a), (1, .int key)]) hx hb dX3_listOf_25 hl (k := 1) rfl (by decide) (by decide) rfl (fun ls hl => ?_)
                  refine lv_goto (tgt := 4) hx hb dX3_listOf_28 (by decide) ?_
                  refine lv_iload_n hx hb dX3_listOf_4 rfl (lv_at hl 0 rfl) ?_
                  refine lv_iconst (v := 4) hx hb dX3_listOf_5 (by decide) ?_
                  refine lv_icmp_gt (tgt := 31) hx hb dX3_listOf_6 (by decide) (fun c_10 => ?_) (fun c_10 => ?_)
                  rotate_left
                  · exact absurd (by decide) c_10
                  · skip
                    refine lv_iload_n hx hb dX3_listOf_31 rfl (lv_at hl 1 rfl) ?_
                    exact ki_rret hx hb hr hlk (by exact absurd (p_apart hw (i := 1) (j := 2) (by decide) (by decide) (by decide) (by decide) hi1 hi2) (by decide)) dX3_listOf_32
            · skip
              have hi3 : ¬ key ∈ st.1 3 := (m_idx (m_64 hm (i := 3) (by decide) (by decide))).mp c_6
              refine lv_iload_n hx hb dX3_listOf_19 rfl (lv_at hl 1 rfl) ?_
              refine lv_goto (tgt := 24) hx hb dX3_listOf_20 (by decide) ?_
              refine lv_istore_n (lv' := [(2, .int 2), (3, .int 3), (0, .ref a), (1, .int key)]) hx hb dX3_listOf_24 rfl hl (by decide) rfl (fun ls hl => ?_)
              refine lv_iinc (v := 4) (lv' := [(3, .int 4), (2, .int 2), (0, .ref a), (1, .int key)]) hx hb dX3_listOf_25 hl (k := 1) rfl (by decide) (by decide) rfl (fun ls hl => ?_)
              refine lv_goto (tgt := 4) hx hb dX3_listOf_28 (by decide) ?_
              refine lv_iload_n hx hb dX3_listOf_4 rfl (lv_at hl 0 rfl) ?_
              refine lv_iconst (v := 4) hx hb dX3_listOf_5 (by decide) ?_
              refine lv_icmp_gt (tgt := 31) hx hb dX3_listOf_6 (by decide) (fun c_11 => ?_) (fun c_11 => ?_)
              · exact absurd c_11 (by decide)
              · skip
                refine lv_aload_n hx hb dX3_listOf_9 rfl (lv_at hl 2 rfl) ?_
                refine lv_iload_n hx hb dX3_listOf_10 rfl (lv_at hl 0 rfl) ?_
                refine lv_iload_n hx hb dX3_listOf_11 rfl (lv_at hl 3 rfl) ?_
                refine ki_cSR (As := [.ref a, .int 4, .int key]) (rest := []) ⟨hx, hb, hml, hown, hts⟩ (c_X3_placeIn l D cy a t st hm 4 (by omega) (by omega) (p_nodup hw (by omega) (by omega)) key) (va_cwS 3 hts gX3_listOf_X3_placeIn rfl rfl rfl (by decide +kernel) ⟨Nat.le_of_ble_eq_true rfl, Nat.le_of_ble_eq_true rfl⟩) hK hE hP [0] rfl [0] rfl rfl hl.1 rfl (Nat.le_of_ble_eq_true rfl) dX3_listOf_12 ⟨Nat.le_of_ble_eq_true rfl, Nat.le_of_ble_eq_true rfl⟩ ?_
                refine lv_iconst (v := (-1)) hx hb dX3_listOf_15 (by decide) ?_
                refine lv_icmp_ne (tgt := 23) hx hb dX3_listOf_16 (by decide) (fun c_12 => ?_) (fun c_12 => ?_)
                · skip
                  have hi4 : key ∈ st.1 4 := by rcases Decidable.em (key ∈ st.1 4) with q9 | q9; exact q9; exact absurd ((m_idx (m_64 hm (i := 4) (by decide) (by decide))).mpr q9) c_12
                  refine lv_iload_n hx hb dX3_listOf_23 rfl (lv_at hl 0 rfl) ?_
                  refine lv_istore_n (lv' := [(2, .int 4), (3, .int 4), (0, .ref a), (1, .int key)]) hx hb dX3_listOf_24 rfl hl (by decide) rfl (fun ls hl => ?_)
                  refine lv_iinc (v := 5) (lv' := [(3, .int 5), (2, .int 4), (0, .ref a), (1, .int key)]) hx hb dX3_listOf_25 hl (k := 1) rfl (by decide) (by decide) rfl (fun ls hl => ?_)
                  refine lv_goto (tgt := 4) hx hb dX3_listOf_28 (by decide) ?_
                  refine lv_iload_n hx hb dX3_listOf_4 rfl (lv_at hl 0 rfl) ?_
                  refine lv_iconst (v := 4) hx hb dX3_listOf_5 (by decide) ?_
                  refine lv_icmp_gt (tgt := 31) hx hb dX3_listOf_6 (by decide) (fun c_13 => ?_) (fun c_13 => ?_)
                  rotate_left
                  · exact absurd (by decide) c_13
                  · skip
                    refine lv_iload_n hx hb dX3_listOf_31 rfl (lv_at hl 1 rfl) ?_
                    exact ki_rret hx hb hr hlk (by exact absurd (p_apart hw (i := 1) (j := 2) (by decide) (by decide) (by decide) (by decide) hi1 hi2) (by decide)) dX3_listOf_32
                · skip
                  have hi4 : ¬ key ∈ st.1 4 := (m_idx (m_64 hm (i := 4) (by decide) (by decide))).mp c_12
                  refine lv_iload_n hx hb dX3_listOf_19 rfl (lv_at hl 1 rfl) ?_
                  refine lv_goto (tgt := 24) hx hb dX3_listOf_20 (by decide) ?_
                  refine lv_istore_n (lv' := [(2, .int 2), (3, .int 4), (0, .ref a), (1, .int key)]) hx hb dX3_listOf_24 rfl hl (by decide) rfl (fun ls hl => ?_)
                  refine lv_iinc (v := 5) (lv' := [(3, .int 5), (2, .int 2), (0, .ref a), (1, .int key)]) hx hb dX3_listOf_25 hl (k := 1) rfl (by decide) (by decide) rfl (fun ls hl => ?_)
                  refine lv_goto (tgt := 4) hx hb dX3_listOf_28 (by decide) ?_
                  refine lv_iload_n hx hb dX3_listOf_4 rfl (lv_at hl 0 rfl) ?_
                  refine lv_iconst (v := 4) hx hb dX3_listOf_5 (by decide) ?_
                  refine lv_icmp_gt (tgt := 31) hx hb dX3_listOf_6 (by decide) (fun c_14 => ?_) (fun c_14 => ?_)
                  rotate_left
                  · exact absurd (by decide) c_14
                  · skip
                    refine lv_iload_n hx hb dX3_listOf_31 rfl (lv_at hl 1 rfl) ?_
                    exact ki_rret hx hb hr hlk (by exact absurd (p_apart hw (i := 1) (j := 2) (by decide) (by decide) (by decide) (by decide) hi1 hi2) (by decide)) dX3_listOf_32
        · skip
          have hi2 : ¬ key ∈ st.1 2 := (m_idx (m_64 hm (i := 2) (by decide) (by decide))).mp c_4
          refine lv_iload_n hx hb dX3_listOf_19 rfl (lv_at hl 1 rfl) ?_
          refine lv_goto (tgt := 24) hx hb dX3_listOf_20 (by decide) ?_
          refine lv_istore_n (lv' := [(2, .int 1), (3, .int 2), (0, .ref a), (1, .int key)]) hx hb dX3_listOf_24 rfl hl (by decide) rfl (fun ls hl => ?_)
          refine lv_iinc (v := 3) (lv' := [(3, .int 3), (2, .int 1), (0, .ref a), (1, .int key)]) hx hb dX3_listOf_25 hl (k := 1) rfl (by decide) (by decide) rfl (fun ls hl => ?_)
          refine lv_goto (tgt := 4) hx hb dX3_listOf_28 (by decide) ?_
          refine lv_iload_n hx hb dX3_listOf_4 rfl (lv_at hl 0 rfl) ?_
          refine lv_iconst (v := 4) hx hb dX3_listOf_5 (by decide) ?_
          refine lv_icmp_gt (tgt := 31) hx hb dX3_listOf_6 (by decide) (fun c_15 => ?_) (fun c_15 => ?_)
          · exact absurd c_15 (by decide)
          · skip
            refine lv_aload_n hx hb dX3_listOf_9 rfl (lv_at hl 2 rfl) ?_
            refine lv_iload_n hx hb dX3_listOf_10 rfl (lv_at hl 0 rfl) ?_
            refine lv_iload_n hx hb dX3_listOf_11 rfl (lv_at hl 3 rfl) ?_
            refine ki_cSR (As := [.ref a, .int 3, .int key]) (rest := []) ⟨hx, hb, hml, hown, hts⟩ (c_X3_placeIn l D cy a t st hm 3 (by omega) (by omega) (p_nodup hw (by omega) (by omega)) key) (va_cwS 3 hts gX3_listOf_X3_placeIn rfl rfl rfl (by decide +kernel) ⟨Nat.le_of_ble_eq_true rfl, Nat.le_of_ble_eq_true rfl⟩) hK hE hP [0] rfl [0] rfl rfl hl.1 rfl (Nat.le_of_ble_eq_true rfl) dX3_listOf_12 ⟨Nat.le_of_ble_eq_true rfl, Nat.le_of_ble_eq_true rfl⟩ ?_
            refine lv_iconst (v := (-1)) hx hb dX3_listOf_15 (by decide) ?_
            refine lv_icmp_ne (tgt := 23) hx hb dX3_listOf_16 (by decide) (fun c_16 => ?_) (fun c_16 => ?_)
            · skip
              have hi3 : key ∈ st.1 3 := by rcases Decidable.em (key ∈ st.1 3) with q9 | q9; exact q9; exact absurd ((m_idx (m_64 hm (i := 3) (by decide) (by decide))).mpr q9) c_16
              refine lv_iload_n hx hb dX3_listOf_23 rfl (lv_at hl 0 rfl) ?_
              refine lv_istore_n (lv' := [(2, .int 3), (3, .int 3), (0, .ref a), (1, .int key)]) hx hb dX3_listOf_24 rfl hl (by decide) rfl (fun ls hl => ?_)
              refine lv_iinc (v := 4) (lv' := [(3, .int 4), (2, .int 3), (0, .ref a), (1, .int key)]) hx hb dX3_listOf_25 hl (k := 1) rfl (by decide) (by decide) rfl (fun ls hl => ?_)
              refine lv_goto (tgt := 4) hx hb dX3_listOf_28 (by decide) ?_
              refine lv_iload_n hx hb dX3_listOf_4 rfl (lv_at hl 0 rfl) ?_
              refine lv_iconst (v := 4) hx hb dX3_listOf_5 (by decide) ?_
              refine lv_icmp_gt (tgt := 31) hx hb dX3_listOf_6 (by decide) (fun c_17 => ?_) (fun c_17 => ?_)
              · exact absurd c_17 (by decide)
              · skip
                refine lv_aload_n hx hb dX3_listOf_9 rfl (lv_at hl 2 rfl) ?_
                refine lv_iload_n hx hb dX3_listOf_10 rfl (lv_at hl 0 rfl) ?_
                refine lv_iload_n hx hb dX3_listOf_11 rfl (lv_at hl 3 rfl) ?_
                refine ki_cSR (As := [.ref a, .int 4, .int key]) (rest := []) ⟨hx, hb, hml, hown, hts⟩ (c_X3_placeIn l D cy a t st hm 4 (by omega) (by omega) (p_nodup hw (by omega) (by omega)) key) (va_cwS 3 hts gX3_listOf_X3_placeIn rfl rfl rfl (by decide +kernel) ⟨Nat.le_of_ble_eq_true rfl, Nat.le_of_ble_eq_true rfl⟩) hK hE hP [0] rfl [0] rfl rfl hl.1 rfl (Nat.le_of_ble_eq_true rfl) dX3_listOf_12 ⟨Nat.le_of_ble_eq_true rfl, Nat.le_of_ble_eq_true rfl⟩ ?_
                refine lv_iconst (v := (-1)) hx hb dX3_listOf_15 (by decide) ?_
                refine lv_icmp_ne (tgt := 23) hx hb dX3_listOf_16 (by decide) (fun c_18 => ?_) (fun c_18 => ?_)
                · skip
                  have hi4 : key ∈ st.1 4 := by rcases Decidable.em (key ∈ st.1 4) with q9 | q9; exact q9; exact absurd ((m_idx (m_64 hm (i := 4) (by decide) (by decide))).mpr q9) c_18
                  refine lv_iload_n hx hb dX3_listOf_23 rfl (lv_at hl 0 rfl) ?_
                  refine lv_istore_n (lv' := [(2, .int 4), (3, .int 4), (0, .ref a), (1, .int key)]) hx hb dX3_listOf_24 rfl hl (by decide) rfl (fun ls hl => ?_)
                  refine lv_iinc (v := 5) (lv' := [(3, .int 5), (2, .int 4), (0, .ref a), (1, .int key)]) hx hb dX3_listOf_25 hl (k := 1) rfl (by decide) (by decide) rfl (fun ls hl => ?_)
                  refine lv_goto (tgt := 4) hx hb dX3_listOf_28 (by decide) ?_
                  refine lv_iload_n hx hb dX3_listOf_4 rfl (lv_at hl 0 rfl) ?_
                  refine lv_iconst (v := 4) hx hb dX3_listOf_5 (by decide) ?_
                  refine lv_icmp_gt (tgt := 31) hx hb dX3_listOf_6 (by decide) (fun c_19 => ?_) (fun c_19 => ?_)
                  rotate_left
                  · exact absurd (by decide) c_19
                  · skip
                    refine lv_iload_n hx hb dX3_listOf_31 rfl (lv_at hl 1 rfl) ?_
                    exact ki_rret hx hb hr hlk (by exact absurd (p_apart hw (i := 1) (j := 3) (by decide) (by decide) (by decide) (by decide) hi1 hi3) (by decide)) dX3_listOf_32
                · skip
                  have hi4 : ¬ key ∈ st.1 4 := (m_idx (m_64 hm (i := 4) (by decide) (by decide))).mp c_18
                  refine lv_iload_n hx hb dX3_listOf_19 rfl (lv_at hl 1 rfl) ?_
                  refine lv_goto (tgt := 24) hx hb dX3_listOf_20 (by decide) ?_
                  refine lv_istore_n (lv' := [(2, .int 3), (3, .int 4), (0, .ref a), (1, .int key)]) hx hb dX3_listOf_24 rfl hl (by decide) rfl (fun ls hl => ?_)
                  refine lv_iinc (v := 5) (lv' := [(3, .int 5), (2, .int 3), (0, .ref a), (1, .int key)]) hx hb dX3_listOf_25 hl (k := 1) rfl (by decide) (by decide) rfl (fun ls hl => ?_)
                  refine lv_goto (tgt := 4) hx hb dX3_listOf_28 (by decide) ?_
                  refine lv_iload_n hx hb dX3_listOf_4 rfl (lv_at hl 0 rfl) ?_
                  refine lv_iconst (v := 4) hx hb dX3_listOf_5 (by decide) ?_
                  refine lv_icmp_gt (tgt := 31) hx hb dX3_listOf_6 (by decide) (fun c_20 => ?_) (fun c_20 => ?_)
                  rotate_left
                  · exact absurd (by decide) c_20
                  · skip
                    refine lv_iload_n hx hb dX3_listOf_31 rfl (lv_at hl 1 rfl) ?_
                    exact ki_rret hx hb hr hlk (by exact absurd (p_apart hw (i := 1) (j := 3) (by decide) (by decide) (by decide) (by decide) hi1 hi3) (by decide)) dX3_listOf_32
            · skip
              have hi3 : ¬ key ∈ st.1 3 := (m_idx (m_64 hm (i := 3) (by decide) (by decide))).mp c_16
              refine lv_iload_n hx hb dX3_listOf_19 rfl (lv_at hl 1 rfl) ?_
              refine lv_goto (tgt := 24) hx hb dX3_listOf_20 (by decide) ?_
              refine lv_istore_n (lv' := [(2, .int 1), (3, .int 3), (0, .ref a), (1, .int key)]) hx hb dX3_listOf_24 rfl hl (by decide) rfl (fun ls hl => ?_)
              refine lv_iinc (v := 4) (lv' := [(3, .int 4), (2, .int 1), (0, .ref a), (1, .int key)]) hx hb dX3_listOf_25 hl (k := 1) rfl (by decide) (by decide) rfl (fun ls hl => ?_)
              refine lv_goto (tgt := 4) hx hb dX3_listOf_28 (by decide) ?_
              refine lv_iload_n hx hb dX3_listOf_4 rfl (lv_at hl 0 rfl) ?_
              refine lv_iconst (v := 4) hx hb dX3_listOf_5 (by decide) ?_
              refine lv_icmp_gt (tgt := 31) hx hb dX3_listOf_6 (by decide) (fun c_21 => ?_) (fun c_21 => ?_)
              · exact absurd c_21 (by decide)
              · skip
                refine lv_aload_n hx hb dX3_listOf_9 rfl (lv_at hl 2 rfl) ?_
                refine lv_iload_n hx hb dX3_listOf_10 rfl (lv_at hl 0 rfl) ?_
                refine lv_iload_n hx hb dX3_listOf_11 rfl (lv_at hl 3 rfl) ?_
                refine ki_cSR (As := [.ref a, .int 4, .int key]) (rest := []) ⟨hx, hb, hml, hown, hts⟩ (c_X3_placeIn l D cy a t st hm 4 (by omega) (by omega) (p_nodup hw (by omega) (by omega)) key) (va_cwS 3 hts gX3_listOf_X3_placeIn rfl rfl rfl (by decide +kernel) ⟨Nat.le_of_ble_eq_true rfl, Nat.le_of_ble_eq_true rfl⟩) hK hE hP [0] rfl [0] rfl rfl hl.1 rfl (Nat.le_of_ble_eq_true rfl) dX3_listOf_12 ⟨Nat.le_of_ble_eq_true rfl, Nat.le_of_ble_eq_true rfl⟩ ?_
                refine lv_iconst (v := (-1)) hx hb dX3_listOf_15 (by decide) ?_
                refine lv_icmp_ne (tgt := 23) hx hb dX3_listOf_16 (by decide) (fun c_22 => ?_) (fun c_22 => ?_)
                · skip
                  have hi4 : key ∈ st.1 4 := by rcases Decidable.em (key ∈ st.1 4) with q9 | q9; exact q9; exact absurd ((m_idx (m_64 hm (i := 4) (by decide) (by decide))).mpr q9) c_22
                  refine lv_iload_n hx hb dX3_listOf_23 rfl (lv_at hl 0 rfl) ?_
                  refine lv_istore_n (lv' := [(2, .int 4), (3, .int 4), (0, .ref a), (1, .int key)]) hx hb dX3_listOf_24 rfl hl (by decide) rfl (fun ls hl => ?_)
                  refine lv_iinc (v := 5) (lv' := [(3, .int 5), (2, .int 4), (0, .ref a), (1, .int key)]) hx hb dX3_listOf_25 hl (k := 1) rfl (by decide) (by decide) rfl (fun ls hl => ?_)
                  refine lv_goto (tgt := 4) hx hb dX3_listOf_28 (by decide) ?_
                  refine lv_iload_n hx hb dX3_listOf_4 rfl (lv_at hl 0 rfl) ?_
                  refine lv_iconst (v := 4) hx hb dX3_listOf_5 (by decide) ?_
                  refine lv_icmp_gt (tgt := 31) hx hb dX3_listOf_6 (by decide) (fun c_23 => ?_) (fun c_23 => ?_)
                  rotate_left
                  · exact absurd (by decide) c_23
                  · skip
                    refine lv_iload_n hx hb dX3_listOf_31 rfl (lv_at hl 1 rfl) ?_
                    exact ki_rret hx hb hr hlk (by exact absurd (p_apart hw (i := 1) (j := 4) (by decide) (by decide) (by decide) (by decide) hi1 hi4) (by decide)) dX3_listOf_32
                · skip
                  have hi4 : ¬ key ∈ st.1 4 := (m_idx (m_64 hm (i := 4) (by decide) (by decide))).mp c_22
                  refine lv_iload_n hx hb dX3_listOf_19 rfl (lv_at hl 1 rfl) ?_
                  refine lv_goto (tgt := 24) hx hb dX3_listOf_20 (by decide) ?_
                  refine lv_istore_n (lv' := [(2, .int 1), (3, .int 4), (0, .ref a), (1, .int key)]) hx hb dX3_listOf_24 rfl hl (by decide) rfl (fun ls hl => ?_)
                  refine lv_iinc (v := 5) (lv' := [(3, .int 5), (2, .int 1), (0, .ref a), (1, .int key)]) hx hb dX3_listOf_25 hl (k := 1) rfl (by decide) (by decide) rfl (fun ls hl => ?_)
                  refine lv_goto (tgt := 4) hx hb dX3_listOf_28 (by decide) ?_
                  refine lv_iload_n hx hb dX3_listOf_4 rfl (lv_at hl 0 rfl) ?_
                  refine lv_iconst (v := 4) hx hb dX3_listOf_5 (by decide) ?_
                  refine lv_icmp_gt (tgt := 31) hx hb dX3_listOf_6 (by decide) (fun c_24 => ?_) (fun c_24 => ?_)
                  rotate_left
                  · exact absurd (by decide) c_24
                  · skip
                    refine lv_iload_n hx hb dX3_listOf_31 rfl (lv_at hl 1 rfl) ?_
                    exact ki_rret hx hb hr hlk (by unfold c_list; rw [if_pos hi1]) dX3_listOf_32
    · skip
      have hi1 : ¬ key ∈ st.1 1 := (m_idx (m_64 hm (i := 1) (by decide) (by decide))).mp c_2
      refine lv_iload_n hx hb dX3_listOf_19 rfl (lv_at hl 1 rfl) ?_
      refine lv_goto (tgt := 24) hx hb dX3_listOf_20 (by decide) ?_
      refine lv_istore_n (lv' := [(2, .int 0), (3, .int 1), (0, .ref a), (1, .int key)]) hx hb dX3_listOf_24 rfl hl (by decide) rfl (fun ls hl => ?_)
      refine lv_iinc (v := 2) (lv' := [(3, .int 2), (2, .int 0), (0, .ref a), (1, .int key)]) hx hb dX3_listOf_25 hl (k := 1) rfl (by decide) (by decide) rfl (fun ls hl => ?_)
      refine lv_goto (tgt := 4) hx hb dX3_listOf_28 (by decide) ?_
      refine lv_iload_n hx hb dX3_listOf_4 rfl (lv_at hl 0 rfl) ?_
      refine lv_iconst (v := 4) hx hb dX3_listOf_5 (by decide) ?_
      refine lv_icmp_gt (tgt := 31) hx hb dX3_listOf_6 (by decide) (fun c_25 => ?_) (fun c_25 => ?_)
      · exact absurd c_25 (by decide)
      · skip
        refine lv_aload_n hx hb dX3_listOf_9 rfl (lv_at hl 2 rfl) ?_
        refine lv_iload_n hx hb dX3_listOf_10 rfl (lv_at hl 0 rfl) ?_
        refine lv_iload_n hx hb dX3_listOf_11 rfl (lv_at hl 3 rfl) ?_
        refine ki_cSR (As := [.ref a, .int 2, .int key]) (rest := []) ⟨hx, hb, hml, hown, hts⟩ (c_X3_placeIn l D cy a t st hm 2 (by omega) (by omega) (p_nodup hw (by omega) (by omega)) key) (va_cwS 3 hts gX3_listOf_X3_placeIn rfl rfl rfl (by decide +kernel) ⟨Nat.le_of_ble_eq_true rfl, Nat.le_of_ble_eq_true rfl⟩) hK hE hP [0] rfl [0] rfl rfl hl.1 rfl (Nat.le_of_ble_eq_true rfl) dX3_listOf_12 ⟨Nat.le_of_ble_eq_true rfl, Nat.le_of_ble_eq_true rfl⟩ ?_
        refine lv_iconst (v := (-1)) hx hb dX3_listOf_15 (by decide) ?_
        refine lv_icmp_ne (tgt := 23) hx hb dX3_listOf_16 (by decide) (fun c_26 => ?_) (fun c_26 => ?_)
        · skip
          have hi2 : key ∈ st.1 2 := by rcases Decidable.em (key ∈ st.1 2) with q9 | q9; exact q9; exact absurd ((m_idx (m_64 hm (i := 2) (by decide) (by decide))).mpr q9) c_26
          refine lv_iload_n hx hb dX3_listOf_23 rfl (lv_at hl 0 rfl) ?_
          refine lv_istore_n (lv' := [(2, .int 2), (3, .int 2), (0, .ref a), (1, .int key)]) hx hb dX3_listOf_24 rfl hl (by decide) rfl (fun ls hl => ?_)
          refine lv_iinc (v := 3) (lv' := [(3, .int 3), (2, .int 2), (0, .ref a), (1, .int key)]) hx hb dX3_listOf_25 hl (k := 1) rfl (by decide) (by decide) rfl (fun ls hl => ?_)
          refine lv_goto (tgt := 4) hx hb dX3_listOf_28 (by decide) ?_
          refine lv_iload_n hx hb dX3_listOf_4 rfl (lv_at hl 0 rfl) ?_
          refine lv_iconst (v := 4) hx hb dX3_listOf_5 (by decide) ?_
          refine lv_icmp_gt (tgt := 31) hx hb dX3_listOf_6 (by decide) (fun c_27 => ?_) (fun c_27 => ?_)
          · exact absurd c_27 (by decide)
          · skip
            refine lv_aload_n hx hb dX3_listOf_9 rfl (lv_at hl 2 rfl) ?_
            refine lv_iload_n hx hb dX3_listOf_10 rfl (lv_at hl 0 rfl) ?_
            refine lv_iload_n hx hb dX3_listOf_11 rfl (lv_at hl 3 rfl) ?_
            refine ki_cSR (As := [.ref a, .int 3, .int key]) (rest := []) ⟨hx, hb, hml, hown, hts⟩ (c_X3_placeIn l D cy a t st hm 3 (by omega) (by omega) (p_nodup hw (by omega) (by omega)) key) (va_cwS 3 hts gX3_listOf_X3_placeIn rfl rfl rfl (by decide +kernel) ⟨Nat.le_of_ble_eq_true rfl, Nat.le_of_ble_eq_true rfl⟩) hK hE hP [0] rfl [0] rfl rfl hl.1 rfl (Nat.le_of_ble_eq_true rfl) dX3_listOf_12 ⟨Nat.le_of_ble_eq_true rfl, Nat.le_of_ble_eq_true rfl⟩ ?_
            refine lv_iconst (v := (-1)) hx hb dX3_listOf_15 (by decide) ?_
            refine lv_icmp_ne (tgt := 23) hx hb dX3_listOf_16 (by decide) (fun c_28 => ?_) (fun c_28 => ?_)
            · skip
              have hi3 : key ∈ st.1 3 := by rcases Decidable.em (key ∈ st.1 3) with q9 | q9; exact q9; exact absurd ((m_idx (m_64 hm (i := 3) (by decide) (by decide))).mpr q9) c_28
              refine lv_iload_n hx hb dX3_listOf_23 rfl (lv_at hl 0 rfl) ?_
              refine lv_istore_n (lv' := [(2, .int 3), (3, .int 3), (0, .ref a), (1, .int key)]) hx hb dX3_listOf_24 rfl hl (by decide) rfl (fun ls hl => ?_)
              refine lv_iinc (v := 4) (lv' := [(3, .int 4), (2, .int 3), (0, .ref a), (1, .int key)]) hx hb dX3_listOf_25 hl (k := 1) rfl (by decide) (by decide) rfl (fun ls hl => ?_)
              refine lv_goto (tgt := 4) hx hb dX3_listOf_28 (by decide) ?_
              refine lv_iload_n hx hb dX3_listOf_4 rfl (lv_at hl 0 rfl) ?_
              refine lv_iconst (v := 4) hx hb dX3_listOf_5 (by decide) ?_
              refine lv_icmp_gt (tgt := 31) hx hb dX3_listOf_6 (by decide) (fun c_29 => ?_) (fun c_29 => ?_)
              · exact absurd c_29 (by decide)
              · skip
                refine lv_aload_n hx hb dX3_listOf_9 rfl (lv_at hl 2 rfl) ?_
                refine lv_iload_n hx hb dX3_listOf_10 rfl (lv_at hl 0 rfl) ?_
                refine lv_iload_n hx hb dX3_listOf_11 rfl (lv_at hl 3 rfl) ?_
                refine ki_cSR (As := [.ref a, .int 4, .int key]) (rest := []) ⟨hx, hb, hml, hown, hts⟩ (c_X3_placeIn l D cy a t st hm 4 (by omega) (by omega) (p_nodup hw (by omega) (by omega)) key) (va_cwS 3 hts gX3_listOf_X3_placeIn rfl rfl rfl (by decide +kernel) ⟨Nat.le_of_ble_eq_true rfl, Nat.le_of_ble_eq_true rfl⟩) hK hE hP [0] rfl [0] rfl rfl hl.1 rfl (Nat.le_of_ble_eq_true rfl) dX3_listOf_12 ⟨Nat.le_of_ble_eq_true rfl, Nat.le_of_ble_eq_true rfl⟩ ?_
                refine lv_iconst (v := (-1)) hx hb dX3_listOf_15 (by decide) ?_
                refine lv_icmp_ne (tgt := 23) hx hb dX3_listOf_16 (by decide) (fun c_30 => ?_) (fun c_30 => ?_)
                · skip
                  have hi4 : key ∈ st.1 4 := by rcases Decidable.em (key ∈ st.1 4) with q9 | q9; exact q9; exact absurd ((m_idx (m_64 hm (i := 4) (by decide) (by decide))).mpr q9) c_30
                  refine lv_iload_n hx hb dX3_listOf_23 rfl (lv_at hl 0 rfl) ?_
                  refine lv_istore_n (lv' := [(2, .int 4), (3, .int 4), (0, .ref a), (1, .int key)]) hx hb dX3_listOf_24 rfl hl (by decide) rfl (fun ls hl => ?_)
                  refine lv_iinc (v := 5) (lv' := [(3, .int 5), (2, .int 4), (0, .ref a), (1, .int key)]) hx hb dX3_listOf_25 hl (k := 1) rfl (by decide) (by decide) rfl (fun ls hl => ?_)
                  refine lv_goto (tgt := 4) hx hb dX3_listOf_28 (by decide) ?_
                  refine lv_iload_n hx hb dX3_listOf_4 rfl (lv_at hl 0 rfl) ?_
                  refine lv_iconst (v := 4) hx hb dX3_listOf_5 (by decide) ?_
                  refine lv_icmp_gt (tgt := 31) hx hb dX3_listOf_6 (by decide) (fun c_31 => ?_) (fun c_31 => ?_)
                  rotate_left
                  · exact absurd (by decide) c_31
                  · skip
                    refine lv_iload_n hx hb dX3_listOf_31 rfl (lv_at hl 1 rfl) ?_
                    exact ki_rret hx hb hr hlk (by exact absurd (p_apart hw (i := 2) (j := 3) (by decide) (by decide) (by decide) (by decide) hi2 hi3) (by decide)) dX3_listOf_32
                · skip
                  have hi4 : ¬ key ∈ st.1 4 := (m_idx (m_64 hm (i := 4) (by decide) (by decide))).mp c_30
                  refine lv_iload_n hx hb dX3_listOf_19 rfl (lv_at hl 1 rfl) ?_
                  refine lv_goto (tgt := 24) hx hb dX3_listOf_20 (by decide) ?_
                  refine lv_istore_n (lv' := [(2, .int 3), (3, .int 4), (0, .ref a), (1, .int key)]) hx hb dX3_listOf_24 rfl hl (by decide) rfl (fun ls hl => ?_)
                  refine lv_iinc (v := 5) (lv' := [(3, .int 5), (2, .int 3), (0, .ref a), (1, .int key)]) hx hb dX3_listOf_25 hl (k := 1) rfl (by decide) (by decide) rfl (fun ls hl => ?_)
                  refine lv_goto (tgt := 4) hx hb dX3_listOf_28 (by decide) ?_
                  refine lv_iload_n hx hb dX3_listOf_4 rfl (lv_at hl 0 rfl) ?_
                  refine lv_iconst (v := 4) hx hb dX3_listOf_5 (by decide) ?_
                  refine lv_icmp_gt (tgt := 31) hx hb dX3_listOf_6 (by decide) (fun c_32 => ?_) (fun c_32 => ?_)
                  rotate_left
                  · exact absurd (by decide) c_32
                  · skip
                    refine lv_iload_n hx hb dX3_listOf_31 rfl (lv_at hl 1 rfl) ?_
                    exact ki_rret hx hb hr hlk (by exact absurd (p_apart hw (i := 2) (j := 3) (by decide) (by decide) (by decide) (by decide) hi2 hi3) (by decide)) dX3_listOf_32
            · skip
              have hi3 : ¬ key ∈ st.1 3 := (m_idx (m_64 hm (i := 3) (by decide) (by decide))).mp c_28
              refine lv_iload_n hx hb dX3_listOf_19 rfl (lv_at hl 1 rfl) ?_
              refine lv_goto (tgt := 24) hx hb dX3_listOf_20 (by decide) ?_
              refine lv_istore_n (lv' := [(2, .int 2), (3, .int 3), (0, .ref a), (1, .int key)]) hx hb dX3_listOf_24 rfl hl (by decide) rfl (fun ls hl => ?_)
              refine lv_iinc (v := 4) (lv' := [(3, .int 4), (2, .int 2), (0, .ref a), (1, .int key)]) hx hb dX3_listOf_25 hl (k := 1) rfl (by decide) (by decide) rfl (fun ls hl => ?_)
              refine lv_goto (tgt := 4) hx hb dX3_listOf_28 (by decide) ?_
              refine lv_iload_n hx hb dX3_listOf_4 rfl (lv_at hl 0 rfl) ?_
              refine lv_iconst (v := 4) hx hb dX3_listOf_5 (by decide) ?_
              refine lv_icmp_gt (tgt := 31) hx hb dX3_listOf_6 (by decide) (fun c_33 => ?_) (fun c_33 => ?_)
              · exact absurd c_33 (by decide)
              · skip
                refine lv_aload_n hx hb dX3_listOf_9 rfl (lv_at hl 2 rfl) ?_
                refine lv_iload_n hx hb dX3_listOf_10 rfl (lv_at hl 0 rfl) ?_
                refine lv_iload_n hx hb dX3_listOf_11 rfl (lv_at hl 3 rfl) ?_
                refine ki_cSR (As := [.ref a, .int 4, .int key]) (rest := []) ⟨hx, hb, hml, hown, hts⟩ (c_X3_placeIn l D cy a t st hm 4 (by omega) (by omega) (p_nodup hw (by omega) (by omega)) key) (va_cwS 3 hts gX3_listOf_X3_placeIn rfl rfl rfl (by decide +kernel) ⟨Nat.le_of_ble_eq_true rfl, Nat.le_of_ble_eq_true rfl⟩) hK hE hP [0] rfl [0] rfl rfl hl.1 rfl (Nat.le_of_ble_eq_true rfl) dX3_listOf_12 ⟨Nat.le_of_ble_eq_true rfl, Nat.le_of_ble_eq_true rfl⟩ ?_
                refine lv_iconst (v := (-1)) hx hb dX3_listOf_15 (by decide) ?_
                refine lv_icmp_ne (tgt := 23) hx hb dX3_listOf_16 (by decide) (fun c_34 => ?_) (fun c_34 => ?_)
                · skip
                  have hi4 : key ∈ st.1 4 := by rcases Decidable.em (key ∈ st.1 4) with q9 | q9; exact q9; exact absurd ((m_idx (m_64 hm (i := 4) (by decide) (by decide))).mpr q9) c_34
                  refine lv_iload_n hx hb dX3_listOf_23 rfl (lv_at hl 0 rfl) ?_
                  refine lv_istore_n (lv' := [(2, .int 4), (3, .int 4), (0, .ref a), (1, .int key)]) hx hb dX3_listOf_24 rfl hl (by decide) rfl (fun ls hl => ?_)
                  refine lv_iinc (v := 5) (lv' := [(3, .int 5), (2, .int 4), (0, .ref a), (1, .int key)]) hx hb dX3_listOf_25 hl (k := 1) rfl (by decide) (by decide) rfl (fun ls hl => ?_)
                  refine lv_goto (tgt := 4) hx hb dX3_listOf_28 (by decide) ?_
                  refine lv_iload_n hx hb dX3_listOf_4 rfl (lv_at hl 0 rfl) ?_
                  refine lv_iconst (v := 4) hx hb dX3_listOf_5 (by decide) ?_
                  refine lv_icmp_gt (tgt := 31) hx hb dX3_listOf_6 (by decide) (fun c_35 => ?_) (fun c_35 => ?_)
                  rotate_left
                  · exact absurd (by decide) c_35
                  · skip
                    refine lv_iload_n hx hb dX3_listOf_31 rfl (lv_at hl 1 rfl) ?_
                    exact ki_rret hx hb hr hlk (by exact absurd (p_apart hw (i := 2) (j := 4) (by decide) (by decide) (by decide) (by decide) hi2 hi4) (by decide)) dX3_listOf_32
                · skip
                  have hi4 : ¬ key ∈ st.1 4 := (m_idx (m_64 hm (i := 4) (by decide) (by decide))).mp c_34
                  refine lv_iload_n hx hb dX3_listOf_19 rfl (lv_at hl 1 rfl) ?_
                  refine lv_goto (tgt := 24) hx hb dX3_listOf_20 (by decide) ?_
                  refine lv_istore_n (lv' := [(2, .int 2), (3, .int 4), (0, .ref a), (1, .int key)]) hx hb dX3_listOf_24 rfl hl (by decide) rfl (fun ls hl => ?_)
                  refine lv_iinc (v := 5) (lv' := [(3, .int 5), (2, .int 2), (0, .ref a), (1, .int key)]) hx hb dX3_listOf_25 hl (k := 1) rfl (by decide) (by decide) rfl (fun ls hl => ?_)
                  refine lv_goto (tgt := 4) hx hb dX3_listOf_28 (by decide) ?_
                  refine lv_iload_n hx hb dX3_listOf_4 rfl (lv_at hl 0 rfl) ?_
                  refine lv_iconst (v := 4) hx hb dX3_listOf_5 (by decide) ?_
                  refine lv_icmp_gt (tgt := 31) hx hb dX3_listOf_6 (by decide) (fun c_36 => ?_) (fun c_36 => ?_)
                  rotate_left
                  · exact absurd (by decide) c_36
                  · skip
                    refine lv_iload_n hx hb dX3_listOf_31 rfl (lv_at hl 1 rfl) ?_
                    exact ki_rret hx hb hr hlk (by unfold c_list; rw [if_neg hi1, if_pos hi2]) dX3_listOf_32
        · skip
          have hi2 : ¬ key ∈ st.1 2 := (m_idx (m_64 hm (i := 2) (by decide) (by decide))).mp c_26
          refine lv_iload_n hx hb dX3_listOf_19 rfl (lv_at hl 1 rfl) ?_
          refine lv_goto (tgt := 24) hx hb dX3_listOf_20 (by decide) ?_
          refine lv_istore_n (lv' := [(2, .int 0), (3, .int 2), (0, .ref a), (1, .int key)]) hx hb dX3_listOf_24 rfl hl (by decide) rfl (fun ls hl => ?_)
          refine lv_iinc (v := 3) (lv' := [(3, .int 3), (2, .int 0), (0, .ref a), (1, .int key)]) hx hb dX3_listOf_25 hl (k := 1) rfl (by decide) (by decide) rfl (fun ls hl => ?_)
          refine lv_goto (tgt := 4) hx hb dX3_listOf_28 (by decide) ?_
          refine lv_iload_n hx hb dX3_listOf_4 rfl (lv_at hl 0 rfl) ?_
          refine lv_iconst (v := 4) hx hb dX3_listOf_5 (by decide) ?_
          refine lv_icmp_gt (tgt := 31) hx hb dX3_listOf_6 (by decide) (fun c_37 => ?_) (fun c_37 => ?_)
          · exact absurd c_37 (by decide)
          · skip
            refine lv_aload_n hx hb dX3_listOf_9 rfl (lv_at hl 2 rfl) ?_
            refine lv_iload_n hx hb dX3_listOf_10 rfl (lv_at hl 0 rfl) ?_
            refine lv_iload_n hx hb dX3_listOf_11 rfl (lv_at hl 3 rfl) ?_
            refine ki_cSR (As := [.ref a, .int 3, .int key]) (rest := []) ⟨hx, hb, hml, hown, hts⟩ (c_X3_placeIn l D cy a t st hm 3 (by omega) (by omega) (p_nodup hw (by omega) (by omega)) key) (va_cwS 3 hts gX3_listOf_X3_placeIn rfl rfl rfl (by decide +kernel) ⟨Nat.le_of_ble_eq_true rfl, Nat.le_of_ble_eq_true rfl⟩) hK hE hP [0] rfl [0] rfl rfl hl.1 rfl (Nat.le_of_ble_eq_true rfl) dX3_listOf_12 ⟨Nat.le_of_ble_eq_true rfl, Nat.le_of_ble_eq_true rfl⟩ ?_
            refine lv_iconst (v := (-1)) hx hb dX3_listOf_15 (by decide) ?_
            refine lv_icmp_ne (tgt := 23) hx hb dX3_listOf_16 (by decide) (fun c_38 => ?_) (fun c_38 => ?_)
            · skip
              have hi3 : key ∈ st.1 3 := by rcases Decidable.em (key ∈ st.1 3) with q9 | q9; exact q9; exact absurd ((m_idx (m_64 hm (i := 3) (by decide) (by decide))).mpr q9) c_38
              refine lv_iload_n hx hb dX3_listOf_23 rfl (lv_at hl 0 rfl) ?_
              refine lv_istore_n (lv' := [(2, .int 3), (3, .int 3), (0, .ref a), (1, .int key)]) hx hb dX3_listOf_24 rfl hl (by decide) rfl (fun ls hl => ?_)
              refine lv_iinc (v := 4) (lv' := [(3, .int 4), (2, .int 3), (0, .ref a), (1, .int key)]) hx hb dX3_listOf_25 hl (k := 1) rfl (by decide) (by decide) rfl (fun ls hl => ?_)
              refine lv_goto (tgt := 4) hx hb dX3_listOf_28 (by decide) ?_
              refine lv_iload_n hx hb dX3_listOf_4 rfl (lv_at hl 0 rfl) ?_
              refine lv_iconst (v := 4) hx hb dX3_listOf_5 (by decide) ?_
              refine lv_icmp_gt (tgt := 31) hx hb dX3_listOf_6 (by decide) (fun c_39 => ?_) (fun c_39 => ?_)
              · exact absurd c_39 (by decide)
              · skip
                refine lv_aload_n hx hb dX3_listOf_9 rfl (lv_at hl 2 rfl) ?_
                refine lv_iload_n hx hb dX3_listOf_10 rfl (lv_at hl 0 rfl) ?_
                refine lv_iload_n hx hb dX3_listOf_11 rfl (lv_at hl 3 rfl) ?_
                refine ki_cSR (As := [.ref a, .int 4, .int key]) (rest := []) ⟨hx, hb, hml, hown, hts⟩ (c_X3_placeIn l D cy a t st hm 4 (by omega) (by omega) (p_nodup hw (by omega) (by omega)) key) (va_cwS 3 hts gX3_listOf_X3_placeIn rfl rfl rfl (by decide +kernel) ⟨Nat.le_of_ble_eq_true rfl, Nat.le_of_ble_eq_true rfl⟩) hK hE hP [0] rfl [0] rfl rfl hl.1 rfl (Nat.le_of_ble_eq_true rfl) dX3_listOf_12 ⟨Nat.le_of_ble_eq_true rfl, Nat.le_of_ble_eq_true rfl⟩ ?_
                refine lv_iconst (v := (-1)) hx hb dX3_listOf_15 (by decide) ?_
                refine lv_icmp_ne (tgt := 23) hx hb dX3_listOf_16 (by decide) (fun c_40 => ?_) (fun c_40 => ?_)
                · skip
                  have hi4 : key ∈ st.1 4 := by rcases Decidable.em (key ∈ st.1 4) with q9 | q9; exact q9; exact absurd ((m_idx (m_64 hm (i := 4) (by decide) (by decide))).mpr q9) c_40
                  refine lv_iload_n hx hb dX3_listOf_23 rfl (lv_at hl 0 rfl) ?_
                  refine lv_istore_n (lv' := [(2, .int 4), (3, .int 4), (0, .ref a), (1, .int key)]) hx hb dX3_listOf_24 rfl hl (by decide) rfl (fun ls hl => ?_)
                  refine lv_iinc (v := 5) (lv' := [(3, .int 5), (2, .int 4), (0, .ref a), (1, .int key)]) hx hb dX3_listOf_25 hl (k := 1) rfl (by decide) (by decide) rfl (fun ls hl => ?_)
                  refine lv_goto (tgt := 4) hx hb dX3_listOf_28 (by decide) ?_
                  refine lv_iload_n hx hb dX3_listOf_4 rfl (lv_at hl 0 rfl) ?_
                  refine lv_iconst (v := 4) hx hb dX3_listOf_5 (by decide) ?_
                  refine lv_icmp_gt (tgt := 31) hx hb dX3_listOf_6 (by decide) (fun c_41 => ?_) (fun c_41 => ?_)
                  rotate_left
                  · exact absurd (by decide) c_41
                  · skip
                    refine lv_iload_n hx hb dX3_listOf_31 rfl (lv_at hl 1 rfl) ?_
                    exact ki_rret hx hb hr hlk (by exact absurd (p_apart hw (i := 3) (j := 4) (by decide) (by decide) (by decide) (by decide) hi3 hi4) (by decide)) dX3_listOf_32
                · skip
                  have hi4 : ¬ key ∈ st.1 4 := (m_idx (m_64 hm (i := 4) (by decide) (by decide))).mp c_40
                  refine lv_iload_n hx hb dX3_listOf_19 rfl (lv_at hl 1 rfl) ?_
                  refine lv_goto (tgt := 24) hx hb dX3_listOf_20 (by decide) ?_
                  refine lv_istore_n (lv' := [(2, .int 3), (3, .int 4), (0, .ref a), (1, .int key)]) hx hb dX3_listOf_24 rfl hl (by decide) rfl (fun ls hl => ?_)
                  refine lv_iinc (v := 5) (lv' := [(3, .int 5), (2, .int 3), (0, .ref a), (1, .int key)]) hx hb dX3_listOf_25 hl (k := 1) rfl (by decide) (by decide) rfl (fun ls hl => ?_)
                  refine lv_goto (tgt := 4) hx hb dX3_listOf_28 (by decide) ?_
                  refine lv_iload_n hx hb dX3_listOf_4 rfl (lv_at hl 0 rfl) ?_
                  refine lv_iconst (v := 4) hx hb dX3_listOf_5 (by decide) ?_
                  refine lv_icmp_gt (tgt := 31) hx hb dX3_listOf_6 (by decide) (fun c_42 => ?_) (fun c_42 => ?_)
                  rotate_left
                  · exact absurd (by decide) c_42
                  · skip
                    refine lv_iload_n hx hb dX3_listOf_31 rfl (lv_at hl 1 rfl) ?_
                    exact ki_rret hx hb hr hlk (by unfold c_list; rw [if_neg hi1, if_neg hi2, if_pos hi3]) dX3_listOf_32
            · skip
              have hi3 : ¬ key ∈ st.1 3 := (m_idx (m_64 hm (i := 3) (by decide) (by decide))).mp c_38
              refine lv_iload_n hx hb dX3_listOf_19 rfl (lv_at hl 1 rfl) ?_
              refine lv_goto (tgt := 24) hx hb dX3_listOf_20 (by decide) ?_
              refine lv_istore_n (lv' := [(2, .int 0), (3, .int 3), (0, .ref a), (1, .int key)]) hx hb dX3_listOf_24 rfl hl (by decide) rfl (fun ls hl => ?_)
              refine lv_iinc (v := 4) (lv' := [(3, .int 4), (2, .int 0), (0, .ref a), (1, .int key)]) hx hb dX3_listOf_25 hl (k := 1) rfl (by decide) (by decide) rfl (fun ls hl => ?_)
              refine lv_goto (tgt := 4) hx hb dX3_listOf_28 (by decide) ?_
              refine lv_iload_n hx hb dX3_listOf_4 rfl (lv_at hl 0 rfl) ?_
              refine lv_iconst (v := 4) hx hb dX3_listOf_5 (by decide) ?_
              refine lv_icmp_gt (tgt := 31) hx hb dX3_listOf_6 (by decide) (fun c_43 => ?_) (fun c_43 => ?_)
              · exact absurd c_43 (by decide)
              · skip
                refine lv_aload_n hx hb dX3_listOf_9 rfl (lv_at hl 2 rfl) ?_
                refine lv_iload_n hx hb dX3_listOf_10 rfl (lv_at hl 0 rfl) ?_
                refine lv_iload_n hx hb dX3_listOf_11 rfl (lv_at hl 3 rfl) ?_
                refine ki_cSR (As := [.ref a, .int 4, .int key]) (rest := []) ⟨hx, hb, hml, hown, hts⟩ (c_X3_placeIn l D cy a t st hm 4 (by omega) (by omega) (p_nodup hw (by omega) (by omega)) key) (va_cwS 3 hts gX3_listOf_X3_placeIn rfl rfl rfl (by decide +kernel) ⟨Nat.le_of_ble_eq_true rfl, Nat.le_of_ble_eq_true rfl⟩) hK hE hP [0] rfl [0] rfl rfl hl.1 rfl (Nat.le_of_ble_eq_true rfl) dX3_listOf_12 ⟨Nat.le_of_ble_eq_true rfl, Nat.le_of_ble_eq_true rfl⟩ ?_
                refine lv_iconst (v := (-1)) hx hb dX3_listOf_15 (by decide) ?_
                refine lv_icmp_ne (tgt := 23) hx hb dX3_listOf_16 (by decide) (fun c_44 => ?_) (fun c_44 => ?_)
                · skip
                  have hi4 : key ∈ st.1 4 := by rcases Decidable.em (key ∈ st.1 4) with q9 | q9; exact q9; exact absurd ((m_idx (m_64 hm (i := 4) (by decide) (by decide))).mpr q9) c_44
                  refine lv_iload_n hx hb dX3_listOf_23 rfl (lv_at hl 0 rfl) ?_
                  refine lv_istore_n (lv' := [(2, .int 4), (3, .int 4), (0, .ref a), (1, .int key)]) hx hb dX3_listOf_24 rfl hl (by decide) rfl (fun ls hl => ?_)
                  refine lv_iinc (v := 5) (lv' := [(3, .int 5), (2, .int 4), (0, .ref a), (1, .int key)]) hx hb dX3_listOf_25 hl (k := 1) rfl (by decide) (by decide) rfl (fun ls hl => ?_)
                  refine lv_goto (tgt := 4) hx hb dX3_listOf_28 (by decide) ?_
                  refine lv_iload_n hx hb dX3_listOf_4 rfl (lv_at hl 0 rfl) ?_
                  refine lv_iconst (v := 4) hx hb dX3_listOf_5 (by decide) ?_
                  refine lv_icmp_gt (tgt := 31) hx hb dX3_listOf_6 (by decide) (fun c_45 => ?_) (fun c_45 => ?_)
                  rotate_left
                  · exact absurd (by decide) c_45
                  · skip
                    refine lv_iload_n hx hb dX3_listOf_31 rfl (lv_at hl 1 rfl) ?_
                    exact ki_rret hx hb hr hlk (by unfold c_list; rw [if_neg hi1, if_neg hi2, if_neg hi3, if_pos hi4]) dX3_listOf_32
                · skip
                  have hi4 : ¬ key ∈ st.1 4 := (m_idx (m_64 hm (i := 4) (by decide) (by decide))).mp c_44
                  refine lv_iload_n hx hb dX3_listOf_19 rfl (lv_at hl 1 rfl) ?_
                  refine lv_goto (tgt := 24) hx hb dX3_listOf_20 (by decide) ?_
                  refine lv_istore_n (lv' := [(2, .int 0), (3, .int 4), (0, .ref a), (1, .int key)]) hx hb dX3_listOf_24 rfl hl (by decide) rfl (fun ls hl => ?_)
                  refine lv_iinc (v := 5) (lv' := [(3, .int 5), (2, .int 0), (0, .ref a), (1, .int key)]) hx hb dX3_listOf_25 hl (k := 1) rfl (by decide) (by decide) rfl (fun ls hl => ?_)
                  refine lv_goto (tgt := 4) hx hb dX3_listOf_28 (by decide) ?_
                  refine lv_iload_n hx hb dX3_listOf_4 rfl (lv_at hl 0 rfl) ?_
                  refine lv_iconst (v := 4) hx hb dX3_listOf_5 (by decide) ?_
                  refine lv_icmp_gt (tgt := 31) hx hb dX3_listOf_6 (by decide) (fun c_46 => ?_) (fun c_46 => ?_)
                  rotate_left
                  · exact absurd (by decide) c_46
                  · skip
                    refine lv_iload_n hx hb dX3_listOf_31 rfl (lv_at hl 1 rfl) ?_
                    exact ki_rret hx hb hr hlk (by unfold c_list; rw [if_neg hi1, if_neg hi2, if_neg hi3, if_neg hi4]) dX3_listOf_32
set_option maxHeartbeats 4000000 in
set_option maxRecDepth 100000 in
theorem c_X3_joins (l : Launch) (D : va_G) (cy : ClassId) (a : Nat) (t : Nat → Int32) (st : ki_St) (hm : m_rep t st) (i : Nat) (h1 : 1 ≤ i) (h4 : i ≤ 4) (key : Int32) (hk : ¬ key = -1) (hl9 : (st.1 i).length < 64) : ki_V l yX3_joins wsX3_joins ({ frames := 1, cells := 0, slots := 0, locals := 21 }) 0 0 D [(cy, .int)] [.ref a, .int (nI i), .int key] [(a, .inl (cy, 366, .inl t))] (S := Nat → Int32) (fun t1 => m_rep t1 (va_up st.1 i (k_join (st.1 i) key), st.2)) (fun t1 => [(a, .inl (cy, 366, .inl t1))]) := by
  refine ki_ofV (cc := cX3_joins) (maxL := 3) (ret := none) (by decide +kernel) rfl (Nat.le_of_ble_eq_true rfl) ?_
  intro p e s m args below meth c A ls hin hx hb hr hts hown hlk hml hK hE hP hD hA hS hl
  have hown : s.vm.findClass RX3 = some m.cls := hown
  have hl : lv_has ls 3 [(0, .ref a), (1, .int (nI i)), (2, .int key)] := hl
  refine lv_aload_n hx hb dX3_joins_0 rfl (lv_at hl 0 rfl) ?_
  refine lv_iload_n hx hb dX3_joins_1 rfl (lv_at hl 1 rfl) ?_
  refine lv_aload_n hx hb dX3_joins_2 rfl (lv_at hl 0 rfl) ?_
  refine lv_iload_n hx hb dX3_joins_3 rfl (lv_at hl 1 rfl) ?_
  refine va_iald hx hb hK hP 0 0 rfl rfl (vp_in_nI (by omega) (by decide)) dX3_joins_4 ?_
  rw [show (t (Int32.toNatClampNeg (nI i)) : Int32) = nI (st.1 i).length from by rw [nI_clamp (by omega)]; exact m_l hm h1 h4]
  refine ki_cSR (As := [.int (nI i), .int (nI (st.1 i).length)]) (rest := [.ref a]) ⟨hx, hb, hml, hown, hts⟩ (c_X3_at l D (nI i) (nI (st.1 i).length)) (va_cwS 2 hts gX3_joins_X3_at rfl rfl rfl (by decide +kernel) ⟨Nat.le_of_ble_eq_true rfl, Nat.le_of_ble_eq_true rfl⟩) hK hE hP [] rfl [] rfl rfl hl.1 rfl (Nat.le_of_ble_eq_true rfl) dX3_joins_5 ⟨Nat.le_of_ble_eq_true rfl, Nat.le_of_ble_eq_true rfl⟩ ?_
  rw [show (16 + 70 * (nI i) + (nI (st.1 i).length) : Int32) = nI (16 + 70 * i + ((st.1 i).length)) from m_at i ((st.1 i).length)]
  refine lv_iload_n hx hb dX3_joins_8 rfl (lv_at hl 2 rfl) ?_
  refine va_iast hx hb hK hP hD hS 0 0 rfl rfl (vp_in_nI (by omega) (by decide)) dX3_joins_9 (fun H locs hP hD hS => ?_)
  have hP : va_P D vwCl [(a, .inl (cy, 366, .inl (upd t (Int32.toNatClampNeg (nI (16 + 70 * i + ((st.1 i).length)))) key)))] H := hP
  have hD : va_D A [(a, .inl (cy, 366, .inl (upd t (Int32.toNatClampNeg (nI (16 + 70 * i + ((st.1 i).length)))) key)))] := hD
  refine lv_aload_n hx hb dX3_joins_10 rfl (lv_at hl 0 rfl) ?_
  refine lv_iload_n hx hb dX3_joins_11 rfl (lv_at hl 1 rfl) ?_
  refine lv_dup2_11 hx hb dX3_joins_12 rfl rfl ?_
  refine va_iald hx hb hK hP 0 0 rfl rfl (vp_in_nI (by omega) (by decide)) dX3_joins_13 ?_
  rw [show ((upd t (Int32.toNatClampNeg (nI (16 + 70 * i + ((st.1 i).length)))) key) (Int32.toNatClampNeg (nI i)) : Int32) = nI (st.1 i).length from by unfold upd; rw [nI_clamp (by omega), nI_clamp (by omega), if_neg (by omega)]; exact m_l hm h1 h4]
  refine lv_iconst (v := 1) hx hb dX3_joins_14 (by decide) ?_
  refine lv_iadd hx hb dX3_joins_15 ?_
  rw [show ((nI (st.1 i).length) + 1 : Int32) = nI ((st.1 i).length + 1) from nI_1 _]
  refine va_iast hx hb hK hP hD hS 0 0 rfl rfl (vp_in_nI (by omega) (by decide)) dX3_joins_16 (fun H locs hP hD hS => ?_)
  have hP : va_P D vwCl [(a, .inl (cy, 366, .inl (upd (upd t (Int32.toNatClampNeg (nI (16 + 70 * i + ((st.1 i).length)))) key) (Int32.toNatClampNeg (nI i)) (nI ((st.1 i).length + 1)))))] H := hP
  have hD : va_D A [(a, .inl (cy, 366, .inl (upd (upd t (Int32.toNatClampNeg (nI (16 + 70 * i + ((st.1 i).length)))) key) (Int32.toNatClampNeg (nI i)) (nI ((st.1 i).length + 1)))))] := hD
  have hT : ∀ x, (upd (upd t (Int32.toNatClampNeg (nI (16 + 70 * i + ((st.1 i).length)))) key) (Int32.toNatClampNeg (nI i)) (nI ((st.1 i).length + 1))) x = if x = i then nI ((st.1 i).length + 1) else if x = 16 + 70 * i + (st.1 i).length then key else t x := fun x => by unfold upd; rw [nI_clamp (by omega), nI_clamp (by omega)]
  exact ki_vret hx hb hr hlk hK hS (upd (upd t (Int32.toNatClampNeg (nI (16 + 70 * i + ((st.1 i).length)))) key) (Int32.toNatClampNeg (nI i)) (nI ((st.1 i).length + 1))) (m_join hm h1 h4 hk hl9 hT) hP hD dX3_joins_17
set_option maxHeartbeats 4000000 in
set_option maxRecDepth 100000 in
theorem c_X3_leaves (l : Launch) (D : va_G) (cy : ClassId) (a : Nat) (t : Nat → Int32) (st : ki_St) (hm : m_rep t st) (i : Nat) (h1 : 1 ≤ i) (h4 : i ≤ 4) (p0 : Nat) (hp0 : p0 < (st.1 i).length) : ki_I l yX3_leaves wsX3_leaves ({ frames := 1, cells := 0, slots := 0, locals := 21 }) 0 0 D [(cy, .int)] [.ref a, .int (nI i), .int (nI p0)] [(a, .inl (cy, 366, .inl t))] (S := Nat → Int32) (fun r t1 => r = k_at (st.1 i) (nI p0) ∧ m_rep t1 (va_up st.1 i (k_gap (st.1 i) (nI p0)), st.2)) (fun t1 => [(a, .inl (cy, 366, .inl t1))]) := by
  refine ki_ofI (cc := cX3_leaves) (maxL := 5) (ret := (some .int)) (by decide +kernel) rfl (Nat.le_of_ble_eq_true rfl) ?_
  intro p e s m args below meth c A ls hx hb hr hts hown hlk hml hK hE hP hD hA hS hl
  have hown : s.vm.findClass RX3 = some m.cls := hown
  have hl : lv_has ls 5 [(0, .ref a), (1, .int (nI i)), (2, .int (nI p0))] := hl
  have hLb := m_64 hm h1 h4
  refine lv_aload_n hx hb dX3_leaves_0 rfl (lv_at hl 0 rfl) ?_
  refine lv_iload_n hx hb dX3_leaves_1 rfl (lv_at hl 1 rfl) ?_
  refine lv_iload_n hx hb dX3_leaves_2 rfl (lv_at hl 2 rfl) ?_
  refine ki_cSR (As := [.int (nI i), .int (nI p0)]) (rest := [.ref a]) ⟨hx, hb, hml, hown, hts⟩ (c_X3_at l D (nI i) (nI p0)) (va_cwS 2 hts gX3_leaves_X3_at rfl rfl rfl (by decide +kernel) ⟨Nat.le_of_ble_eq_true rfl, Nat.le_of_ble_eq_true rfl⟩) hK hE hP [] rfl [] rfl rfl hl.1 rfl (Nat.le_of_ble_eq_true rfl) dX3_leaves_3 ⟨Nat.le_of_ble_eq_true rfl, Nat.le_of_ble_eq_true rfl⟩ ?_
  rw [show (16 + 70 * (nI i) + (nI p0) : Int32) = nI (16 + 70 * i + p0) from m_at i p0]
  refine va_iald hx hb hK hP 0 0 rfl rfl (vp_in_nI (by omega) (by decide)) dX3_leaves_6 ?_
  rw [show (t (Int32.toNatClampNeg (nI (16 + 70 * i + p0))) : Int32) = k_at (st.1 i) (nI p0) from by rw [nI_clamp (by omega)]; exact (k_at_nI hLb (m_j hm h1 h4 hp0)).symm]
  refine lv_istore_n (lv' := [(3, .int (k_at (st.1 i) (nI p0))), (0, .ref a), (1, .int (nI i)), (2, .int (nI p0))]) hx hb dX3_leaves_7 rfl hl (by decide) rfl (fun ls hl => ?_)
  refine lv_aload_n hx hb dX3_leaves_8 rfl (lv_at hl 1 rfl) ?_
  refine lv_iload_n hx hb dX3_leaves_9 rfl (lv_at hl 2 rfl) ?_
  refine lv_dup2_11 hx hb dX3_leaves_10 rfl rfl ?_
  refine va_iald hx hb hK hP 0 0 rfl rfl (vp_in_nI (by omega) (by decide)) dX3_leaves_11 ?_
  rw [show (t (Int32.toNatClampNeg (nI i)) : Int32) = nI (st.1 i).length from by rw [nI_clamp (by omega)]; exact m_l hm h1 h4]
  refine lv_iconst (v := 1) hx hb dX3_leaves_12 (by decide) ?_
  refine lv_isub hx hb dX3_leaves_13 ?_
  rw [show ((nI (st.1 i).length) - 1 : Int32) = nI ((st.1 i).length - 1) from pk_sub (b := 1) (by omega)]
  refine va_iast hx hb hK hP hD hS 0 0 rfl rfl (vp_in_nI (by omega) (by decide)) dX3_leaves_14 (fun H locs hP hD hS => ?_)
  have hP : va_P D vwCl [(a, .inl (cy, 366, .inl (upd t (Int32.toNatClampNeg (nI i)) (nI ((st.1 i).length - 1)))))] H := hP
  have hD : va_D A [(a, .inl (cy, 366, .inl (upd t (Int32.toNatClampNeg (nI i)) (nI ((st.1 i).length - 1)))))] := hD
  refine lv_iload_n hx hb dX3_leaves_15 rfl (lv_at hl 3 rfl) ?_
  refine lv_istore (lv' := [(4, .int (nI p0)), (3, .int (k_at (st.1 i) (nI p0))), (0, .ref a), (1, .int (nI i)), (2, .int (nI p0))]) hx hb dX3_leaves_16 hl (by decide) rfl (fun ls hl => ?_)
  have lp : ∀ (n k : Nat) (t2 : Nat → Int32) (H : Heap) (locs : List Loc) (ls : Array Slot), (st.1 i).length - k < n → p0 ≤ k → k < (st.1 i).length → (∀ x, t2 x = if x = i then nI ((st.1 i).length - 1) else if 16 + 70 * i + p0 ≤ x ∧ x < 16 + 70 * i + k then t (x + 1) else t x) → va_P D vwCl [(a, .inl (cy, 366, .inl t2))] H → va_D A [(a, .inl (cy, 366, .inl t2))] → va_S A s.heap H locs → lv_has ls 5 [(4, .int (nI k)), (3, .int (k_at (st.1 i) (nI p0))), (0, .ref a), (1, .int (nI i)), (2, .int (nI p0))] → W p l e ({ frames := 1, cells := 0, slots := 0, locals := 21 }) s m args below meth c H locs 0 0 (MQ below (va_Qi (fun r t1 => r = k_at (st.1 i) (nI p0) ∧ m_rep t1 (va_up st.1 i (k_gap (st.1 i) (nI p0)), st.2)) (ki_B D [(cy, .int)] A (fun t1 => [(a, .inl (cy, 366, .inl t1))])) A) args s 0 0 A) (F0 m 18 ls []) := by
    intro n
    induction n with
    | zero => intro k t2 H locs ls h; omega
    | succ n ih =>
      intro k t2 H locs ls hm9 hpk hkl ht2 hP hD hS hl
      refine lv_iload hx hb dX3_leaves_18 (lv_at hl 0 rfl) ?_
      refine lv_aload_n hx hb dX3_leaves_20 rfl (lv_at hl 2 rfl) ?_
      refine lv_iload_n hx hb dX3_leaves_21 rfl (lv_at hl 3 rfl) ?_
      refine va_iald hx hb hK hP 0 0 rfl rfl (vp_in_nI (by omega) (by decide)) dX3_leaves_22 ?_
      rw [show (t2 (Int32.toNatClampNeg (nI i)) : Int32) = nI ((st.1 i).length - 1) from by rw [nI_clamp (by omega), ht2, if_pos rfl]]
      refine lv_icmp_ge (tgt := 50) hx hb dX3_leaves_23 (by decide) (fun c_1 => ?_) (fun c_1 => ?_)
      · skip
        refine lv_iload_n hx hb dX3_leaves_50 rfl (lv_at hl 1 rfl) ?_
        have hke : k = (st.1 i).length - 1 := by rcases Nat.lt_or_ge k ((st.1 i).length - 1) with q9 | q9; exact absurd c_1 (nI_ge q9 (by omega)); omega
        exact ki_iret hx hb hr hlk hK hS t2 ⟨rfl, m_leave hm h1 h4 hp0 (by rw [← hke]; rw [← hke] at ht2; exact ht2)⟩ hP hD dX3_leaves_51
      · skip
        have hkl2 : k < (st.1 i).length - 1 := by rcases Nat.lt_or_ge k ((st.1 i).length - 1) with q9 | q9; exact q9; exact absurd (nI_le q9 (by omega)) c_1
        refine lv_aload_n hx hb dX3_leaves_26 rfl (lv_at hl 2 rfl) ?_
        refine lv_iload_n hx hb dX3_leaves_27 rfl (lv_at hl 3 rfl) ?_
        refine lv_iload hx hb dX3_leaves_28 (lv_at hl 0 rfl) ?_
        refine ki_cSR (As := [.int (nI i), .int (nI k)]) (rest := [.ref a]) ⟨hx, hb, hml, hown, hts⟩ (c_X3_at l D (nI i) (nI k)) (va_cwS 2 hts gX3_leaves_X3_at rfl rfl rfl (by decide +kernel) ⟨Nat.le_of_ble_eq_true rfl, Nat.le_of_ble_eq_true rfl⟩) hK hE hP [] rfl [] rfl rfl hl.1 rfl (Nat.le_of_ble_eq_true rfl) dX3_leaves_30 ⟨Nat.le_of_ble_eq_true rfl, Nat.le_of_ble_eq_true rfl⟩ ?_
        rw [show (16 + 70 * (nI i) + (nI k) : Int32) = nI (16 + 70 * i + k) from m_at i k]
        refine lv_aload_n hx hb dX3_leaves_33 rfl (lv_at hl 2 rfl) ?_
        refine lv_iload_n hx hb dX3_leaves_34 rfl (lv_at hl 3 rfl) ?_
        refine lv_iload hx hb dX3_leaves_35 (lv_at hl 0 rfl) ?_
        refine lv_iconst (v := 1) hx hb dX3_leaves_37 (by decide) ?_
        refine lv_iadd hx hb dX3_leaves_38 ?_
        rw [show ((nI k) + 1 : Int32) = nI (k + 1) from nI_1 k]
        refine ki_cSR (As := [.int (nI i), .int (nI (k + 1))]) (rest := [.ref a, .int (nI (16 + 70 * i + k)), .ref a]) ⟨hx, hb, hml, hown, hts⟩ (c_X3_at l D (nI i) (nI (k + 1))) (va_cwS 2 hts gX3_leaves_X3_at rfl rfl rfl (by decide +kernel) ⟨Nat.le_of_ble_eq_true rfl, Nat.le_of_ble_eq_true rfl⟩) hK hE hP [] rfl [] rfl rfl hl.1 rfl (Nat.le_of_ble_eq_true rfl) dX3_leaves_39 ⟨Nat.le_of_ble_eq_true rfl, Nat.le_of_ble_eq_true rfl⟩ ?_
        rw [show (16 + 70 * (nI i) + (nI (k + 1)) : Int32) = nI (16 + 70 * i + (k + 1)) from m_at i (k + 1)]
        refine va_iald hx hb hK hP 0 0 rfl rfl (vp_in_nI (by omega) (by decide)) dX3_leaves_42 ?_
        rw [show (t2 (Int32.toNatClampNeg (nI (16 + 70 * i + (k + 1)))) : Int32) = t (16 + 70 * i + (k + 1)) from by rw [nI_clamp (by omega), ht2, if_neg (by omega), if_neg (by omega)]]
        refine va_iast hx hb hK hP hD hS 0 0 rfl rfl (vp_in_nI (by omega) (by decide)) dX3_leaves_43 (fun H locs hP hD hS => ?_)
        obtain ⟨t3, et3⟩ : ∃ z : Nat → Int32, z = upd t2 (Int32.toNatClampNeg (nI (16 + 70 * i + k))) (t (16 + 70 * i + (k + 1))) := ⟨_, rfl⟩
        rw [← et3] at hP hD
        have ht3 : ∀ x, t3 x = if x = i then nI ((st.1 i).length - 1) else if 16 + 70 * i + p0 ≤ x ∧ x < 16 + 70 * i + (k + 1) then t (x + 1) else t x := fun x => by
          rw [et3]; unfold upd; rw [nI_clamp (by omega)]
          by_cases q9 : x = 16 + 70 * i + k
          · rw [if_pos q9, if_neg (by omega), if_pos (by omega), q9]; rfl
          · rw [if_neg q9, ht2]
            by_cases q8 : x = i
            · rw [if_pos q8, if_pos q8]
            · rw [if_neg q8, if_neg q8]
              by_cases q7 : 16 + 70 * i + p0 ≤ x ∧ x < 16 + 70 * i + k
              · rw [if_pos q7, if_pos (by omega)]
              · rw [if_neg q7, if_neg (by omega)]
        have hP : va_P D vwCl [(a, .inl (cy, 366, .inl t3))] H := hP
        have hD : va_D A [(a, .inl (cy, 366, .inl t3))] := hD
        refine lv_iinc (v := nI (k + 1)) (lv' := [(4, .int (nI (k + 1))), (3, .int (k_at (st.1 i) (nI p0))), (0, .ref a), (1, .int (nI i)), (2, .int (nI p0))]) hx hb dX3_leaves_44 hl (k := 0) rfl (nI_1 k) (by decide) rfl (fun ls hl => ?_)
        refine lv_goto (tgt := 18) hx hb dX3_leaves_47 (by decide) ?_
        exact ih (k + 1) t3 H locs ls (by omega) (by omega) (by omega) ht3 hP hD hS (lv_sub hl [0, 1, 2, 3, 4] rfl)
  exact lp ((st.1 i).length + 1) p0 _ H locs ls (by omega) (Nat.le_refl _) hp0 (fun x => by unfold upd; rw [nI_clamp (by omega)]; by_cases q9 : x = i; rw [if_pos q9, if_pos q9]; rw [if_neg q9, if_neg q9, if_neg (by omega)]) hP hD hS (lv_sub hl [0, 1, 2, 3, 4] rfl)
end
