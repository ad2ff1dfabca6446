/-! ===== drawn ===== -/
def lo_dr (L : Nat) (xs : Nat → Int32) (k : Nat) : Int32 := (if k < L then xs k else nI (11003 * k + 1201)) &&& 2147483647
theorem lo_drN (L : Nat) (xs : Nat → Int32) (k : Nat) : ∃ n : Nat, n < 2 ^ 31 ∧ lo_dr L xs k = nI n := pk_andE _ 31 (by decide)
abbrev lo_Pdr (b L k : Nat) (xs : Nat → Int32) : Array Value → State → Prop := va_Pc [.ref b, .int (nI k)] (fun U => va_X b L xs U U.heap ∧ b < U.heap.size)
set_option maxHeartbeats 4000000 in
set_option maxRecDepth 100000 in
theorem c_L_drawn (l : Launch) (b L : Nat) (xs : Nat → Int32) (hL : L ≤ 260) (k : Nat) (hk : k < 62) : Met l yL_drawn wsL_drawn ({ frames := 0, cells := 0, slots := 0, locals := 0 }) (lo_Pdr b L k xs) (QcRead (lo_dr L xs k)) 0 0 (fun _ => False) := by
  refine Met.ofW (cc := cL_drawn) (maxL := 3) (ret := some .int) (by decide +kernel) rfl ?_
  intro p e s m args below meth c s₁ B hml hv
  obtain ⟨rfl, hX, hbl⟩ := hv
  have hts := atoms_spec (ws := wsL_drawn) B.pre
  have hown : s.vm.findClass RL = some m.cls := findClass_of_methodNamed B.named
  have hl := lv_entry [Value.ref b, .int (nI k)] (n := 3) (Nat.le_of_ble_eq_true rfl)
  rw [lg_entry_eq]
  generalize (lg_sl [Value.ref b, .int (nI k)] ++ List.replicate (3 - (lg_sl [Value.ref b, .int (nI k)]).length) Slot.unset).toArray = ls at hl ⊢
  have hx := B.exec
  have hb := B.bytes
  have hr := B.returns
  have hlk := B.notSynchronized
  change W p l e { frames := 0, cells := 0, slots := 0, locals := 0 } s m _ below meth c s.heap [] 0 0 _ (F0 m 0 ls [])
  have hl : lv_has ls 3 [(0, .ref b), (1, .int (nI k))] := hl
  have hS : va_S (fun _ : Nat => False) s.heap s.heap [] := va_S.rf
  have hbA : ¬ (fun _ : Nat => False) b := fun q => q
  refine lv_iload_n hx hb dL_drawn_0 rfl (lv_at hl 1 rfl) ?_
  refine lv_aload_n hx hb dL_drawn_1 rfl (lv_at hl 0 rfl) ?_
  refine va_slen hx hb hX hbl hbA hS dL_drawn_2 ?_
  have tail : ∀ (v : Int32), v = (if k < L then xs k else nI (11003 * k + 1201)) → W p l e { frames := 0, cells := 0, slots := 0, locals := 0 } s m #[Value.ref b, Value.int (nI k)] below meth c s.heap [] 0 0 (MQ below (QcRead (lo_dr L xs k)) #[Value.ref b, Value.int (nI k)] s 0 0 (fun _ => False)) (F0 m 21 ls [.int v]) := by
    intro v hv
    refine lv_istore_n (lv' := [(2, .int v), (0, .ref b), (1, .int (nI k))]) hx hb dL_drawn_21 rfl hl (by decide) rfl (fun ls hl => ?_)
    refine lv_iload_n hx hb dL_drawn_22 rfl (lv_at hl 0 rfl) ?_
    refine lv_ldc (own := RL) (index := 7) (v := 2147483647) hx hb hown (hts (.constant RL 7 (2147483647)) (by decide +kernel)) dL_drawn_23 ?_
    refine lv_iand hx hb dL_drawn_25 ?_
    exact ki_rret hx hb hr hlk (by rw [hv]; rfl) dL_drawn_26
  refine lv_icmp_ge (tgt := 12) hx hb dL_drawn_3 (by decide) (fun c9 => ?_) (fun c9 => ?_)
  · have hkL : ¬ k < L := fun q => absurd c9 (nI_ge q (by omega))
    refine lv_sipush (v := 11003) hx hb dL_drawn_12 (by decide) ?_
    refine lv_iload_n hx hb dL_drawn_15 rfl (lv_at hl 1 rfl) ?_
    refine lv_imul hx hb dL_drawn_16 ?_
    refine lv_sipush (v := 1201) hx hb dL_drawn_17 (by decide) ?_
    refine lv_iadd hx hb dL_drawn_20 ?_
    refine tail _ ?_
    rw [if_neg hkL]
    show nI 11003 * nI k + nI 1201 = _
    rw [pk_mul, nI_add]
  · have hkL : k < L := by
      rcases Nat.lt_or_ge k L with q | q
      · exact q
      · exact absurd (nI_le q (by omega)) c9
    refine lv_aload_n hx hb dL_drawn_6 rfl (lv_at hl 0 rfl) ?_
    refine lv_iload_n hx hb dL_drawn_7 rfl (lv_at hl 1 rfl) ?_
    refine va_sld hx hb hX hbl hbA hS (vp_in_nI hkL (by omega)) dL_drawn_8 ?_
    refine lv_goto (tgt := 21) hx hb dL_drawn_9 (by decide) ?_
    refine tail _ ?_
    rw [if_pos hkL, nI_clamp (by omega)]
theorem kl_dr {p : Program} {l : Launch} {e : Env} {R : Room} {s : State} {m : MethodId} {args : Array Value} {below : List Frame} {meth : Method} {c : Code} {H : Heap} {locs : List Loc} {cells slots : Nat} {Q : State → Prop} {A : Nat → Prop} {cc : ByteArray} {nL index : Nat} {bytes : ByteArray} {maxL : Nat} {ret : Option FieldType} {Ts : List Cond} {rm : Room} {own : String} {rest : List Value} {ls : Array Slot} {pc b L k : Nat} {xs : Nat → Int32} {v : Int32}
    (Sx : CallFix p m c cc nL s args Ts own) (hM : Met l yL_drawn wsL_drawn rm (lo_Pdr b L k xs) (QcRead v) 0 0 (fun _ => False)) (cw : CallB R s args own index yL_drawn bytes maxL ret wsL_drawn rm 0 0 2 ∧ (Cond.static yL_drawn).before args s = true)
    (hX : va_X b L xs s s.heap) (hbl : b < s.heap.size) (hbA : ¬ A b) (hS : va_S A s.heap H locs) (hsize : ls.size = nL) (hroom : (rest.map fun v => v.category).sum ≤ 8) (hdg : decode cc pc = .ok (.invokestatic index, 3)) (hf : cells ≤ R.cells ∧ slots ≤ R.slots)
    (kk : W p l e R s m args below meth c H locs cells slots Q (F0 m (pc + 3) ls (.int v :: rest))) : W p l e R s m args below meth c H locs cells slots Q (F0 m pc ls (.int (nI k) :: .ref b :: rest)) :=
  ki_goR (va_runS (As := [.ref b, .int (nI k)]) Sx hM cw ⟨fun a U g mk q => ⟨q.1, va_X.moved (u := U) (U := U.calling g mk a) (Vm.Alike.refl U.vm) q.2.1, q.2.2⟩, fun U hU hW => ⟨rfl, by rw [hU]; exact (va_X.moved hW.alike hX).kept (hS.2.1 b hbl hbA), by rw [hU]; exact Nat.lt_of_lt_of_le hbl hS.1⟩⟩ rfl rfl hsize rfl (lv_room hroom) hdg hf) kk
theorem lo_cap {n : Nat} (h : n ≤ 31) : ¬ a_badCap (nI (1 + n)) := fun q => by
  rcases q with q | q
  · exact absurd q (show ¬ nI (1 + n) < nI 1 from nI_nlt (by omega) (by omega))
  · exact q (show nI (1 + n) ≤ nI 32 from nI_le (by omega) (by decide))
theorem lo_scan {n : Nat} (h : n < 5) : ¬ a_badScan (nI (2 + n)) := fun q => by
  rcases q.2 with q | q
  · exact absurd q (show ¬ nI (2 + n) < nI 2 from nI_nlt (by omega) (by omega))
  · exact q (show nI (2 + n) ≤ nI 20 from nI_le (by omega) (by decide))
theorem lo_scan0 : ¬ a_badScan 0 := fun q => q.1 rfl
/-- a step of both caches -/
theorem lo_R.step {m : Int32} {ua1 ub1 : lo_U} {va vb : v_T} (h1 : lo_ok ua1) (e1 : lo_v ua1 = va) (h2 : lo_ok ub1) (e2 : lo_v ub1 = vb) (hv : v_ok va) (e : vb = v_sh m va) : lo_R m ua1 ub1 := ⟨h1, h2, by rw [e1]; exact hv, by rw [e1, e2]; exact e⟩
theorem lo_hit {m : Int32} (hm : s_n m) {ua ub : lo_U} (h : lo_R m ua ub) (k : Int32) : h_n k (ub.1.1.2 7) ub.2.1.2.1 ub.2.1.2.1.length = h_n k (ua.1.1.2 7) ua.2.1.2.1 ua.2.1.2.1.length := by
  have e := vs_hit hm h.2.2.1 (lo_lg h.1) k
  rw [← h.2.2.2] at e
  exact e
theorem lo_lru {m : Int32} (hm : s_n m) {ua ub : lo_U} (h : lo_R m ua ub) (k : Int32) : r_n k ub.2.1.2.1 ub.2.1.2.1.length = r_n k ua.2.1.2.1 ua.2.1.2.1.length := by
  have e := vs_lru hm h.2.2.1 (lo_lg h.1) k
  rw [← h.2.2.2] at e
  exact e
