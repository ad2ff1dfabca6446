/-! ===== the reference: its row ===== -/
theorem m_key {key : Int32} : 10000 ≤ key ↔ ¬ key ≤ 9999 := by
  rw [Int32.le_iff_toInt_le, Int32.le_iff_toInt_le, show (10000 : Int32).toInt = 10000 from by decide, show (9999 : Int32).toInt = 9999 from by decide]
  omega
set_option maxHeartbeats 4000000 in
set_option maxRecDepth 100000 in
theorem c_X3_at (l : Launch) (D : va_G) (l0 p0 : Int32) : ki_R l yX3_at wsX3_at ({ frames := 0, cells := 0, slots := 0, locals := 0 }) D [] [.int l0, .int p0] [] (16 + 70 * l0 + p0) := by
  refine ki_ofR (cc := cX3_at) (maxL := 2) (ret := (some .int)) (by decide +kernel) rfl (Nat.le_of_ble_eq_true rfl) ?_
  intro p e s m args below meth c ls hx hb hr hts hown hlk hml hK hE hP hl
  have hown : s.vm.findClass RX3 = some m.cls := hown
  have hl : lv_has ls 2 [(0, .int l0), (1, .int p0)] := hl
  refine lv_bipush (v := 16) hx hb dX3_at_0 (by decide) ?_
  refine lv_bipush (v := 70) hx hb dX3_at_2 (by decide) ?_
  refine lv_iload_n hx hb dX3_at_4 rfl (lv_at hl 0 rfl) ?_
  refine lv_imul hx hb dX3_at_5 ?_
  refine lv_iadd hx hb dX3_at_6 ?_
  refine lv_iload_n hx hb dX3_at_7 rfl (lv_at hl 1 rfl) ?_
  refine lv_iadd hx hb dX3_at_8 ?_
  exact ki_rret hx hb hr hlk (by rfl) dX3_at_9
set_option maxHeartbeats 4000000 in
set_option maxRecDepth 100000 in
theorem c_X3_isKey (l : Launch) (D : va_G) (key : Int32) : ki_R l yX3_isKey wsX3_isKey ({ frames := 0, cells := 0, slots := 0, locals := 0 }) D [] [.int key] [] (if ¬ a_badKey key then 1 else 0) := by
  refine ki_ofR (cc := cX3_isKey) (maxL := 1) (ret := (some .boolean)) (by decide +kernel) rfl (Nat.le_of_ble_eq_true rfl) ?_
  intro p e s m args below meth c ls hx hb hr hts hown hlk hml hK hE hP hl
  have hown : s.vm.findClass RX3 = some m.cls := hown
  have hl : lv_has ls 1 [(0, .int key)] := hl
  refine lv_iload_n hx hb dX3_isKey_0 rfl (lv_at hl 0 rfl) ?_
  refine lv_if_lt (tgt := 15) hx hb dX3_isKey_1 (by decide) (fun c_1 => ?_) (fun c_1 => ?_)
  · skip
    refine lv_iconst (v := 0) hx hb dX3_isKey_15 (by decide) ?_
    exact ki_rzret hx hb hr rfl hlk (by exact (if_neg (fun q9 => q9 (Or.inl c_1))).symm) dX3_isKey_16
  · skip
    refine lv_iload_n hx hb dX3_isKey_4 rfl (lv_at hl 0 rfl) ?_
    refine lv_sipush (v := 10000) hx hb dX3_isKey_5 (by decide) ?_
    refine lv_icmp_ge (tgt := 15) hx hb dX3_isKey_8 (by decide) (fun c_2 => ?_) (fun c_2 => ?_)
    · skip
      refine lv_iconst (v := 0) hx hb dX3_isKey_15 (by decide) ?_
      exact ki_rzret hx hb hr rfl hlk (by exact (if_neg (fun q9 => q9 (Or.inr (m_key.mp c_2)))).symm) dX3_isKey_16
    · skip
      refine lv_iconst (v := 1) hx hb dX3_isKey_11 (by decide) ?_
      refine lv_goto (tgt := 16) hx hb dX3_isKey_12 (by decide) ?_
      exact ki_rzret hx hb hr rfl hlk (by exact (if_pos (fun q9 => q9.elim c_1 (fun z9 => c_2 (m_key.mpr z9)))).symm) dX3_isKey_16
set_option maxHeartbeats 4000000 in
set_option maxRecDepth 100000 in
theorem c_X3_isCapacity (l : Launch) (D : va_G) (k : Int32) : ki_R l yX3_isCapacity wsX3_isCapacity ({ frames := 0, cells := 0, slots := 0, locals := 0 }) D [] [.int k] [] (if ¬ a_badCap k then 1 else 0) := by
  refine ki_ofR (cc := cX3_isCapacity) (maxL := 1) (ret := (some .boolean)) (by decide +kernel) rfl (Nat.le_of_ble_eq_true rfl) ?_
  intro p e s m args below meth c ls hx hb hr hts hown hlk hml hK hE hP hl
  have hown : s.vm.findClass RX3 = some m.cls := hown
  have hl : lv_has ls 1 [(0, .int k)] := hl
  refine lv_iload_n hx hb dX3_isCapacity_0 rfl (lv_at hl 0 rfl) ?_
  refine lv_iconst (v := 1) hx hb dX3_isCapacity_1 (by decide) ?_
  refine lv_icmp_lt (tgt := 15) hx hb dX3_isCapacity_2 (by decide) (fun c_1 => ?_) (fun c_1 => ?_)
  · skip
    refine lv_iconst (v := 0) hx hb dX3_isCapacity_15 (by decide) ?_
    exact ki_rzret hx hb hr rfl hlk (by exact (if_neg (fun q9 => q9 (Or.inl c_1))).symm) dX3_isCapacity_16
  · skip
    refine lv_iload_n hx hb dX3_isCapacity_5 rfl (lv_at hl 0 rfl) ?_
    refine lv_bipush (v := 32) hx hb dX3_isCapacity_6 (by decide) ?_
    refine lv_icmp_gt (tgt := 15) hx hb dX3_isCapacity_8 (by decide) (fun c_2 => ?_) (fun c_2 => ?_)
    · skip
      refine lv_iconst (v := 0) hx hb dX3_isCapacity_15 (by decide) ?_
      exact ki_rzret hx hb hr rfl hlk (by exact (if_neg (fun q9 => q9 (Or.inr (Int32.not_le.mpr c_2)))).symm) dX3_isCapacity_16
    · skip
      refine lv_iconst (v := 1) hx hb dX3_isCapacity_11 (by decide) ?_
      refine lv_goto (tgt := 16) hx hb dX3_isCapacity_12 (by decide) ?_
      exact ki_rzret hx hb hr rfl hlk (by exact (if_pos (fun q9 => q9.elim c_1 (fun z9 => c_2 (Int32.not_le.mp z9)))).symm) dX3_isCapacity_16
set_option maxHeartbeats 4000000 in
set_option maxRecDepth 100000 in
theorem c_X3_step (l : Launch) (D : va_G) (o w : Nat) (hw1 : 1 ≤ w) (hw2 : w ≤ 64) : ki_R l yX3_step wsX3_step ({ frames := 0, cells := 0, slots := 0, locals := 0 }) D [] [.int (nI o), .int (nI w)] [] (c_step (nI o) (nI w)) := by
  refine ki_ofR (cc := cX3_step) (maxL := 3) (ret := (some .int)) (by decide +kernel) rfl (Nat.le_of_ble_eq_true rfl) ?_
  intro p e s m args below meth c ls hx hb hr hts hown hlk hml hK hE hP hl
  have hown : s.vm.findClass RX3 = some m.cls := hown
  have hl : lv_has ls 3 [(0, .int (nI o)), (1, .int (nI w))] := hl
  refine lv_iload_n hx hb dX3_step_0 rfl (lv_at hl 0 rfl) ?_
  refine lv_iload_n hx hb dX3_step_1 rfl (lv_at hl 1 rfl) ?_
  refine lv_idiv hx hb dX3_step_2 (nI_ne0 (by omega) (by omega)) ?_
  refine lv_istore_n (lv' := [(2, .int ((nI o) / (nI w))), (0, .int (nI o)), (1, .int (nI w))]) hx hb dX3_step_3 rfl hl (by decide) rfl (fun ls hl => ?_)
  refine lv_iload_n hx hb dX3_step_4 rfl (lv_at hl 0 rfl) ?_
  refine lv_iconst (v := 1) hx hb dX3_step_5 (by decide) ?_
  refine lv_icmp_le (tgt := 13) hx hb dX3_step_6 (by decide) (fun c_1 => ?_) (fun c_1 => ?_)
  · skip
    refine lv_iconst (v := 1) hx hb dX3_step_13 (by decide) ?_
    exact ki_rret hx hb hr hlk (by unfold c_step; rw [if_pos (show (1 : Int32) ≤ nI w by show nI 1 ≤ nI w; rw [nI_leI (by omega) (by omega)]; exact hw1), if_neg (Int32.not_lt.mpr c_1)]) dX3_step_14
  · skip
    refine lv_iload_n hx hb dX3_step_9 rfl (lv_at hl 0 rfl) ?_
    refine lv_goto (tgt := 14) hx hb dX3_step_10 (by decide) ?_
    exact ki_rret hx hb hr hlk (by unfold c_step; rw [if_pos (show (1 : Int32) ≤ nI w by show nI 1 ≤ nI w; rw [nI_leI (by omega) (by omega)]; exact hw1), if_pos (Int32.not_le.mp c_1)]) dX3_step_14
set_option maxHeartbeats 4000000 in
set_option maxRecDepth 100000 in
theorem c_X3_isFull (l : Launch) (D : va_G) (cy : ClassId) (a : Nat) (t : Nat → Int32) (st : ki_St) (hm : m_rep t st) : ki_R l yX3_isFull wsX3_isFull ({ frames := 0, cells := 0, slots := 0, locals := 0 }) D [(cy, .int)] [.ref a] [(a, .inl (cy, 366, .inl t))] (if ¬ c_pages st < st.2 6 then 1 else 0) := by
  refine ki_ofR (cc := cX3_isFull) (maxL := 1) (ret := (some .boolean)) (by decide +kernel) rfl (Nat.le_of_ble_eq_true rfl) ?_
  intro p e s m args below meth c ls hx hb hr hts hown hlk hml hK hE hP hl
  have hown : s.vm.findClass RX3 = some m.cls := hown
  have hl : lv_has ls 1 [(0, .ref a)] := hl
  refine lv_aload_n hx hb dX3_isFull_0 rfl (lv_at hl 0 rfl) ?_
  refine lv_iconst (v := 1) hx hb dX3_isFull_1 (by decide) ?_
  refine va_iald hx hb hK hP 0 0 rfl rfl (vp_in_nI (n := 1) (by decide) (by decide)) dX3_isFull_2 ?_
  rw [show (t (Int32.toNatClampNeg 1) : Int32) = nI (st.1 1).length from m_l hm (i := 1) (by decide) (by decide)]
  refine lv_aload_n hx hb dX3_isFull_3 rfl (lv_at hl 0 rfl) ?_
  refine lv_iconst (v := 2) hx hb dX3_isFull_4 (by decide) ?_
  refine va_iald hx hb hK hP 0 0 rfl rfl (vp_in_nI (n := 2) (by decide) (by decide)) dX3_isFull_5 ?_
  rw [show (t (Int32.toNatClampNeg 2) : Int32) = nI (st.1 2).length from m_l hm (i := 2) (by decide) (by decide)]
  refine lv_iadd hx hb dX3_isFull_6 ?_
  refine lv_aload_n hx hb dX3_isFull_7 rfl (lv_at hl 0 rfl) ?_
  refine lv_bipush (v := 6) hx hb dX3_isFull_8 (by decide) ?_
  refine va_iald hx hb hK hP 0 0 rfl rfl (vp_in_nI (n := 6) (by decide) (by decide)) dX3_isFull_10 ?_
  rw [show (t (Int32.toNatClampNeg 6) : Int32) = st.2 6 from hm.2 6 (by decide) (by decide)]
  refine lv_icmp_lt (tgt := 18) hx hb dX3_isFull_11 (by decide) (fun c_1 => ?_) (fun c_1 => ?_)
  · skip
    refine lv_iconst (v := 0) hx hb dX3_isFull_18 (by decide) ?_
    exact ki_rzret hx hb hr rfl hlk (by exact (if_neg (fun q9 => q9 c_1)).symm) dX3_isFull_19
  · skip
    refine lv_iconst (v := 1) hx hb dX3_isFull_14 (by decide) ?_
    refine lv_goto (tgt := 19) hx hb dX3_isFull_15 (by decide) ?_
    exact ki_rzret hx hb hr rfl hlk (by exact (if_pos c_1).symm) dX3_isFull_19
set_option maxHeartbeats 4000000 in
set_option maxRecDepth 100000 in
theorem c_X3_allKeys (l : Launch) (D : va_G) (cy : ClassId) (a : Nat) (t : Nat → Int32) (st : ki_St) (hm : m_rep t st) : ki_R l yX3_allKeys wsX3_allKeys ({ frames := 0, cells := 0, slots := 0, locals := 0 }) D [(cy, .int)] [.ref a] [(a, .inl (cy, 366, .inl t))] (c_all st) := by
  refine ki_ofR (cc := cX3_allKeys) (maxL := 1) (ret := (some .int)) (by decide +kernel) rfl (Nat.le_of_ble_eq_true rfl) ?_
  intro p e s m args below meth c ls hx hb hr hts hown hlk hml hK hE hP hl
  have hown : s.vm.findClass RX3 = some m.cls := hown
  have hl : lv_has ls 1 [(0, .ref a)] := hl
  refine lv_aload_n hx hb dX3_allKeys_0 rfl (lv_at hl 0 rfl) ?_
  refine lv_iconst (v := 1) hx hb dX3_allKeys_1 (by decide) ?_
  refine va_iald hx hb hK hP 0 0 rfl rfl (vp_in_nI (n := 1) (by decide) (by decide)) dX3_allKeys_2 ?_
  rw [show (t (Int32.toNatClampNeg 1) : Int32) = nI (st.1 1).length from m_l hm (i := 1) (by decide) (by decide)]
  refine lv_aload_n hx hb dX3_allKeys_3 rfl (lv_at hl 0 rfl) ?_
  refine lv_iconst (v := 2) hx hb dX3_allKeys_4 (by decide) ?_
  refine va_iald hx hb hK hP 0 0 rfl rfl (vp_in_nI (n := 2) (by decide) (by decide)) dX3_allKeys_5 ?_
  rw [show (t (Int32.toNatClampNeg 2) : Int32) = nI (st.1 2).length from m_l hm (i := 2) (by decide) (by decide)]
  refine lv_iadd hx hb dX3_allKeys_6 ?_
  refine lv_aload_n hx hb dX3_allKeys_7 rfl (lv_at hl 0 rfl) ?_
  refine lv_iconst (v := 3) hx hb dX3_allKeys_8 (by decide) ?_
  refine va_iald hx hb hK hP 0 0 rfl rfl (vp_in_nI (n := 3) (by decide) (by decide)) dX3_allKeys_9 ?_
  rw [show (t (Int32.toNatClampNeg 3) : Int32) = nI (st.1 3).length from m_l hm (i := 3) (by decide) (by decide)]
  refine lv_iadd hx hb dX3_allKeys_10 ?_
  refine lv_aload_n hx hb dX3_allKeys_11 rfl (lv_at hl 0 rfl) ?_
  refine lv_iconst (v := 4) hx hb dX3_allKeys_12 (by decide) ?_
  refine va_iald hx hb hK hP 0 0 rfl rfl (vp_in_nI (n := 4) (by decide) (by decide)) dX3_allKeys_13 ?_
  rw [show (t (Int32.toNatClampNeg 4) : Int32) = nI (st.1 4).length from m_l hm (i := 4) (by decide) (by decide)]
  refine lv_iadd hx hb dX3_allKeys_14 ?_
  exact ki_rret hx hb hr hlk (by rfl) dX3_allKeys_15
set_option maxHeartbeats 4000000 in
set_option maxRecDepth 100000 in
theorem c_X3_evictedFrom (l : Launch) (D : va_G) (cy : ClassId) (a : Nat) (t : Nat → Int32) (st : ki_St) (hm : m_rep t st) (asked : Int32) : ki_R l yX3_evictedFrom wsX3_evictedFrom ({ frames := 0, cells := 0, slots := 0, locals := 0 }) D [(cy, .int)] [.ref a, .int asked] [(a, .inl (cy, 366, .inl t))] (if c_evR st (if asked = 4 then 1 else 0) then 1 else 2) := by
  refine ki_ofR (cc := cX3_evictedFrom) (maxL := 3) (ret := (some .int)) (by decide +kernel) rfl (Nat.le_of_ble_eq_true rfl) ?_
  intro p e s m args below meth c ls hx hb hr hts hown hlk hml hK hE hP hl
  have hown : s.vm.findClass RX3 = some m.cls := hown
  have hl : lv_has ls 3 [(0, .ref a), (1, .int asked)] := hl
  refine lv_aload_n hx hb dX3_evictedFrom_0 rfl (lv_at hl 0 rfl) ?_
  refine lv_iconst (v := 1) hx hb dX3_evictedFrom_1 (by decide) ?_
  refine va_iald hx hb hK hP 0 0 rfl rfl (vp_in_nI (n := 1) (by decide) (by decide)) dX3_evictedFrom_2 ?_
  rw [show (t (Int32.toNatClampNeg 1) : Int32) = nI (st.1 1).length from m_l hm (i := 1) (by decide) (by decide)]
  refine lv_aload_n hx hb dX3_evictedFrom_3 rfl (lv_at hl 0 rfl) ?_
  refine lv_iconst (v := 5) hx hb dX3_evictedFrom_4 (by decide) ?_
  refine va_iald hx hb hK hP 0 0 rfl rfl (vp_in_nI (n := 5) (by decide) (by decide)) dX3_evictedFrom_5 ?_
  rw [show (t (Int32.toNatClampNeg 5) : Int32) = st.2 5 from hm.2 5 (by decide) (by decide)]
  refine lv_icmp_gt (tgt := 29) hx hb dX3_evictedFrom_6 (by decide) (fun c_1 => ?_) (fun c_1 => ?_)
  · skip
    refine lv_iconst (v := 1) hx hb dX3_evictedFrom_29 (by decide) ?_
    refine lv_goto (tgt := 34) hx hb dX3_evictedFrom_30 (by decide) ?_
    refine lv_istore_n (lv' := [(2, .int 1), (0, .ref a), (1, .int asked)]) hx hb dX3_evictedFrom_34 rfl hl (by decide) rfl (fun ls hl => ?_)
    refine lv_iload_n hx hb dX3_evictedFrom_35 rfl (lv_at hl 0 rfl) ?_
    refine lv_if_eq (tgt := 43) hx hb dX3_evictedFrom_36 (by decide) (fun c_2 => ?_) (fun c_2 => ?_)
    · exact absurd c_2 (by decide)
    · skip
      refine lv_iconst (v := 1) hx hb dX3_evictedFrom_39 (by decide) ?_
      refine lv_goto (tgt := 44) hx hb dX3_evictedFrom_40 (by decide) ?_
      exact ki_rret hx hb hr hlk (by exact (if_pos (Or.inl c_1)).symm) dX3_evictedFrom_44
  · skip
    refine lv_aload_n hx hb dX3_evictedFrom_9 rfl (lv_at hl 0 rfl) ?_
    refine lv_iconst (v := 1) hx hb dX3_evictedFrom_10 (by decide) ?_
    refine va_iald hx hb hK hP 0 0 rfl rfl (vp_in_nI (n := 1) (by decide) (by decide)) dX3_evictedFrom_11 ?_
    rw [show (t (Int32.toNatClampNeg 1) : Int32) = nI (st.1 1).length from m_l hm (i := 1) (by decide) (by decide)]
    refine lv_aload_n hx hb dX3_evictedFrom_12 rfl (lv_at hl 0 rfl) ?_
    refine lv_iconst (v := 5) hx hb dX3_evictedFrom_13 (by decide) ?_
    refine va_iald hx hb hK hP 0 0 rfl rfl (vp_in_nI (n := 5) (by decide) (by decide)) dX3_evictedFrom_14 ?_
    rw [show (t (Int32.toNatClampNeg 5) : Int32) = st.2 5 from hm.2 5 (by decide) (by decide)]
    refine lv_icmp_ne (tgt := 33) hx hb dX3_evictedFrom_15 (by decide) (fun c_3 => ?_) (fun c_3 => ?_)
    · skip
      refine lv_iconst (v := 0) hx hb dX3_evictedFrom_33 (by decide) ?_
      refine lv_istore_n (lv' := [(2, .int 0), (0, .ref a), (1, .int asked)]) hx hb dX3_evictedFrom_34 rfl hl (by decide) rfl (fun ls hl => ?_)
      refine lv_iload_n hx hb dX3_evictedFrom_35 rfl (lv_at hl 0 rfl) ?_
      refine lv_if_eq (tgt := 43) hx hb dX3_evictedFrom_36 (by decide) (fun c_4 => ?_) (fun c_4 => ?_)
      rotate_left
      · exact absurd (by decide) c_4
      · skip
        refine lv_iconst (v := 2) hx hb dX3_evictedFrom_43 (by decide) ?_
        exact ki_rret hx hb hr hlk (by exact (if_neg (fun q9 => q9.elim c_1 (fun z9 => c_3 z9.2.1))).symm) dX3_evictedFrom_44
    · skip
      refine lv_aload_n hx hb dX3_evictedFrom_18 rfl (lv_at hl 0 rfl) ?_
      refine lv_iconst (v := 1) hx hb dX3_evictedFrom_19 (by decide) ?_
      refine va_iald hx hb hK hP 0 0 rfl rfl (vp_in_nI (n := 1) (by decide) (by decide)) dX3_evictedFrom_20 ?_
      rw [show (t (Int32.toNatClampNeg 1) : Int32) = nI (st.1 1).length from m_l hm (i := 1) (by decide) (by decide)]
      refine lv_if_le (tgt := 33) hx hb dX3_evictedFrom_21 (by decide) (fun c_5 => ?_) (fun c_5 => ?_)
      · skip
        refine lv_iconst (v := 0) hx hb dX3_evictedFrom_33 (by decide) ?_
        refine lv_istore_n (lv' := [(2, .int 0), (0, .ref a), (1, .int asked)]) hx hb dX3_evictedFrom_34 rfl hl (by decide) rfl (fun ls hl => ?_)
        refine lv_iload_n hx hb dX3_evictedFrom_35 rfl (lv_at hl 0 rfl) ?_
        refine lv_if_eq (tgt := 43) hx hb dX3_evictedFrom_36 (by decide) (fun c_6 => ?_) (fun c_6 => ?_)
        rotate_left
        · exact absurd (by decide) c_6
        · skip
          refine lv_iconst (v := 2) hx hb dX3_evictedFrom_43 (by decide) ?_
          exact ki_rret hx hb hr hlk (by exact (if_neg (fun q9 => q9.elim c_1 (fun z9 => z9.2.2 c_5))).symm) dX3_evictedFrom_44
      · skip
        refine lv_iload_n hx hb dX3_evictedFrom_24 rfl (lv_at hl 1 rfl) ?_
        refine lv_iconst (v := 4) hx hb dX3_evictedFrom_25 (by decide) ?_
        refine lv_icmp_ne (tgt := 33) hx hb dX3_evictedFrom_26 (by decide) (fun c_7 => ?_) (fun c_7 => ?_)
        · skip
          refine lv_iconst (v := 0) hx hb dX3_evictedFrom_33 (by decide) ?_
          refine lv_istore_n (lv' := [(2, .int 0), (0, .ref a), (1, .int asked)]) hx hb dX3_evictedFrom_34 rfl hl (by decide) rfl (fun ls hl => ?_)
          refine lv_iload_n hx hb dX3_evictedFrom_35 rfl (lv_at hl 0 rfl) ?_
          refine lv_if_eq (tgt := 43) hx hb dX3_evictedFrom_36 (by decide) (fun c_8 => ?_) (fun c_8 => ?_)
          rotate_left
          · exact absurd (by decide) c_8
          · skip
            refine lv_iconst (v := 2) hx hb dX3_evictedFrom_43 (by decide) ?_
            exact ki_rret hx hb hr hlk (by exact (if_neg (fun q9 => q9.elim c_1 (fun z9 => c_7 (ki_b1.mp z9.1)))).symm) dX3_evictedFrom_44
        · skip
          refine lv_iconst (v := 1) hx hb dX3_evictedFrom_29 (by decide) ?_
          refine lv_goto (tgt := 34) hx hb dX3_evictedFrom_30 (by decide) ?_
          refine lv_istore_n (lv' := [(2, .int 1), (0, .ref a), (1, .int asked)]) hx hb dX3_evictedFrom_34 rfl hl (by decide) rfl (fun ls hl => ?_)
          refine lv_iload_n hx hb dX3_evictedFrom_35 rfl (lv_at hl 0 rfl) ?_
          refine lv_if_eq (tgt := 43) hx hb dX3_evictedFrom_36 (by decide) (fun c_9 => ?_) (fun c_9 => ?_)
          · exact absurd c_9 (by decide)
          · skip
            refine lv_iconst (v := 1) hx hb dX3_evictedFrom_39 (by decide) ?_
            refine lv_goto (tgt := 44) hx hb dX3_evictedFrom_40 (by decide) ?_
            exact ki_rret hx hb hr hlk (by exact (if_pos (Or.inr ⟨ki_b1.mpr c_7, c_3, c_5⟩)).symm) dX3_evictedFrom_44
set_option maxHeartbeats 4000000 in
set_option maxRecDepth 100000 in
theorem c_X3_placeIn (l : Launch) (D : va_G) (cy : ClassId) (a : Nat) (t : Nat → Int32) (st : ki_St) (hm : m_rep t st) (i : Nat) (h1 : 1 ≤ i) (h4 : i ≤ 4) (hn : (st.1 i).Nodup) (key : Int32) : ki_R l yX3_placeIn wsX3_placeIn ({ frames := 1, cells := 0, slots := 0, locals := 21 }) D [(cy, .int)] [.ref a, .int (nI i), .int key] [(a, .inl (cy, 366, .inl t))] (k_idx (st.1 i) key) := by
  refine ki_ofR (cc := cX3_placeIn) (maxL := 5) (ret := (some .int)) (by decide +kernel) rfl (Nat.le_of_ble_eq_true rfl) ?_
  intro p e s m args below meth c ls hx hb hr hts hown hlk hml hK hE hP hl
  have hown : s.vm.findClass RX3 = some m.cls := hown
  have hl : lv_has ls 5 [(0, .ref a), (1, .int (nI i)), (2, .int key)] := hl
  refine lv_iconst (v := (-1)) hx hb dX3_placeIn_0 (by decide) ?_
  refine lv_istore_n (lv' := [(3, .int (-1)), (0, .ref a), (1, .int (nI i)), (2, .int key)]) hx hb dX3_placeIn_1 rfl hl (by decide) rfl (fun ls hl => ?_)
  refine lv_iconst (v := 0) hx hb dX3_placeIn_2 (by decide) ?_
  refine lv_istore (lv' := [(4, .int 0), (3, .int (-1)), (0, .ref a), (1, .int (nI i)), (2, .int key)]) hx hb dX3_placeIn_3 hl (by decide) rfl (fun ls hl => ?_)
  have hLb := m_64 hm h1 h4
  have lp : ∀ (n k : Nat) (v : Int32) (ls : Array Slot), (st.1 i).length - k < n → k ≤ (st.1 i).length → m_pl (st.1 i) key k v → lv_has ls 5 [(4, .int (nI k)), (3, .int v), (0, .ref a), (1, .int (nI i)), (2, .int key)] → W p l e ({ frames := 1, cells := 0, slots := 0, locals := 21 }) s m args below meth c s.heap [] 0 0 (MQ below (QcRead (k_idx (st.1 i) key)) args s 0 0 (fun _ => False)) (F0 m 5 ls []) := by
    intro n
    induction n with
    | zero => intro k v ls h; omega
    | succ n ih =>
      intro k v ls hm9 hk hpl hl
      refine lv_iload hx hb dX3_placeIn_5 (lv_at hl 0 rfl) ?_
      refine lv_aload_n hx hb dX3_placeIn_7 rfl (lv_at hl 2 rfl) ?_
      refine lv_iload_n hx hb dX3_placeIn_8 rfl (lv_at hl 3 rfl) ?_
      refine va_iald hx hb hK hP 0 0 rfl rfl (vp_in_nI (by omega) (by decide)) dX3_placeIn_9 ?_
      rw [show (t (Int32.toNatClampNeg (nI i)) : Int32) = nI (st.1 i).length from by rw [nI_clamp (by omega)]; exact m_l hm h1 h4]
      refine lv_icmp_ge (tgt := 38) hx hb dX3_placeIn_10 (by decide) (fun c_1 => ?_) (fun c_1 => ?_)
      · skip
        refine lv_iload_n hx hb dX3_placeIn_38 rfl (lv_at hl 1 rfl) ?_
        exact ki_rret hx hb hr hlk (by exact m_pl_end hpl (by rcases Nat.lt_or_ge k (st.1 i).length with q9 | q9; exact absurd c_1 (nI_ge q9 (by omega)); exact q9) hn) dX3_placeIn_39
      · skip
        have hkl : k < (st.1 i).length := by rcases Nat.lt_or_ge k (st.1 i).length with q9 | q9; exact q9; exact absurd (nI_le q9 (by omega)) c_1
        refine lv_aload_n hx hb dX3_placeIn_13 rfl (lv_at hl 2 rfl) ?_
        refine lv_iload_n hx hb dX3_placeIn_14 rfl (lv_at hl 3 rfl) ?_
        refine lv_iload hx hb dX3_placeIn_15 (lv_at hl 0 rfl) ?_
        refine ki_cSR (As := [.int (nI i), .int (nI k)]) (rest := [.ref a]) ⟨hx, hb, hml, hown, hts⟩ (c_X3_at l D (nI i) (nI k)) (va_cwS 2 hts gX3_placeIn_X3_at rfl rfl rfl (by decide +kernel) ⟨Nat.le_of_ble_eq_true rfl, Nat.le_of_ble_eq_true rfl⟩) hK hE hP [] rfl [] rfl rfl hl.1 rfl (Nat.le_of_ble_eq_true rfl) dX3_placeIn_17 ⟨Nat.le_of_ble_eq_true rfl, Nat.le_of_ble_eq_true rfl⟩ ?_
        rw [show (16 + 70 * (nI i) + (nI k) : Int32) = nI (16 + 70 * i + k) from m_at i k]
        refine va_iald hx hb hK hP 0 0 rfl rfl (vp_in_nI (by omega) (by decide)) dX3_placeIn_20 ?_
        rw [show (t (Int32.toNatClampNeg (nI (16 + 70 * i + k))) : Int32) = t (16 + 70 * i + k) from by rw [nI_clamp (by omega)]]
        refine lv_iload_n hx hb dX3_placeIn_21 rfl (lv_at hl 4 rfl) ?_
        refine lv_icmp_ne (tgt := 30) hx hb dX3_placeIn_22 (by decide) (fun c_2 => ?_) (fun c_2 => ?_)
        · skip
          refine lv_iload_n hx hb dX3_placeIn_30 rfl (lv_at hl 1 rfl) ?_
          refine lv_istore_n (lv' := [(3, .int v), (4, .int (nI k)), (0, .ref a), (1, .int (nI i)), (2, .int key)]) hx hb dX3_placeIn_31 rfl hl (by decide) rfl (fun ls hl => ?_)
          refine lv_iinc (v := nI (k + 1)) (lv' := [(4, .int (nI (k + 1))), (3, .int v), (0, .ref a), (1, .int (nI i)), (2, .int key)]) hx hb dX3_placeIn_32 hl (k := 1) rfl (nI_1 k) (by decide) rfl (fun ls hl => ?_)
          refine lv_goto (tgt := 5) hx hb dX3_placeIn_35 (by decide) ?_
          exact ih (k + 1) v ls (by omega) (by omega) (m_pl_f hpl (by rw [m_j hm h1 h4 hkl]; intro q9; exact c_2 (Option.some.inj q9))) (lv_sub hl [0, 1, 2, 3, 4] rfl)
        · skip
          refine lv_iload hx hb dX3_placeIn_25 (lv_at hl 0 rfl) ?_
          refine lv_goto (tgt := 31) hx hb dX3_placeIn_27 (by decide) ?_
          refine lv_istore_n (lv' := [(3, .int (nI k)), (4, .int (nI k)), (0, .ref a), (1, .int (nI i)), (2, .int key)]) hx hb dX3_placeIn_31 rfl hl (by decide) rfl (fun ls hl => ?_)
          refine lv_iinc (v := nI (k + 1)) (lv' := [(4, .int (nI (k + 1))), (3, .int (nI k)), (0, .ref a), (1, .int (nI i)), (2, .int key)]) hx hb dX3_placeIn_32 hl (k := 1) rfl (nI_1 k) (by decide) rfl (fun ls hl => ?_)
          refine lv_goto (tgt := 5) hx hb dX3_placeIn_35 (by decide) ?_
          exact ih (k + 1) (nI k) ls (by omega) (by omega) (m_pl_t (v := 0) (by rw [m_j hm h1 h4 hkl, c_2])) (lv_sub hl [0, 1, 2, 3, 4] rfl)
  exact lp ((st.1 i).length + 1) 0 (-1) ls (by omega) (Nat.zero_le _) (Or.inl ⟨rfl, fun j hj => absurd hj (Nat.not_lt_zero j)⟩) (lv_sub hl [0, 1, 2, 3, 4] rfl)
set_option maxHeartbeats 4000000 in
set_option maxRecDepth 100000 in
theorem c_X3_listOf (l : Launch) (D : va_G) (cy : ClassId) (a : Nat) (t : Nat → Int32) (st : ki_St) (hm : m_rep t st) (hpw : p_W st) (key : Int32) : ki_R l yX3_listOf wsX3_listOf ({ frames := 2, cells := 0, slots := 0, locals := 45 }) D [(cy, .int)] [.ref a, .int key] [(a, .inl (cy, 366, .inl t))] (c_list st key) := by
  refine ki_ofR (cc := cX3_listOf) (maxL := 4) (ret := (some .int)) (by decide +kernel) rfl (Nat.le_of_ble_eq_true rfl) ?_
  intro p e s m args below meth c ls hx hb hr hts hown hlk hml hK hE hP hl
  have hown : s.vm.findClass RX3 = some m.cls := hown
  have hl : lv_has ls 4 [(0, .ref a), (1, .int key)] := hl
  refine lv_iconst (v := 0) hx hb dX3_listOf_0 (by decide) ?_
  refine lv_istore_n (lv' := [(2, .int 0), (0, .ref a), (1, .int key)]) hx hb dX3_listOf_1 rfl hl (by decide) rfl (fun ls hl => ?_)
  refine lv_iconst (v := 1) hx hb dX3_listOf_2 (by decide) ?_
  refine lv_istore_n (lv' := [(3, .int 1), (2, .int 0), (0, .ref a), (1, .int key)]) hx hb dX3_listOf_3 rfl hl (by decide) rfl (fun ls hl => ?_)
  refine lv_iload_n hx hb dX3_listOf_4 rfl (lv_at hl 0 rfl) ?_
  refine lv_iconst (v := 4) hx hb dX3_listOf_5 (by decide) ?_
  refine lv_icmp_gt (tgt := 31) hx hb dX3_listOf_6 (by decide) (fun c_1 => ?_) (fun c_1 => ?_)
  · exact absurd c_1 (by decide)
  · skip
    refine lv_aload_n hx hb dX3_listOf_9 rfl (lv_at hl 2 rfl) ?_
    refine lv_iload_n hx hb dX3_listOf_10 rfl (lv_at hl 0 rfl) ?_
    refine lv_iload_n hx hb dX3_listOf_11 rfl (lv_at hl 3 rfl) ?_
    refine ki_cSR (As := [.ref a, .int 1, .int key]) (rest := []) ⟨hx, hb, hml, hown, hts⟩ (c_X3_placeIn l D cy a t st hm 1 (by omega) (by omega) (p_nodup hpw (by omega) (by omega)) key) (va_cwS 3 hts gX3_listOf_X3_placeIn rfl rfl rfl (by decide +kernel) ⟨Nat.le_of_ble_eq_true rfl, Nat.le_of_ble_eq_true rfl⟩) hK hE hP [0] rfl [0] rfl rfl hl.1 rfl (Nat.le_of_ble_eq_true rfl) dX3_listOf_12 ⟨Nat.le_of_ble_eq_true rfl, Nat.le_of_ble_eq_true rfl⟩ ?_
    refine lv_iconst (v := (-1)) hx hb dX3_listOf_15 (by decide) ?_
    refine lv_icmp_ne (tgt := 23) hx hb dX3_listOf_16 (by decide) (fun c_2 => ?_) (fun c_2 => ?_)
    · skip
      have hi1 : key ∈ st.1 1 := by rcases Decidable.em (key ∈ st.1 1) with q9 | q9; exact q9; exact absurd ((m_idx (m_64 hm (i := 1) (by decide) (by decide))).mpr q9) c_2
      refine lv_iload_n hx hb dX3_listOf_23 rfl (lv_at hl 0 rfl) ?_
      refine lv_istore_n (lv' := [(2, .int 1), (3, .int 1), (0, .ref a), (1, .int key)]) hx hb dX3_listOf_24 rfl hl (by decide) rfl (fun ls hl => ?_)
      refine lv_iinc (v := 2) (lv' := [(3, .int 2), (2, .int 1), (0, .ref a), (1, .int key)]) hx hb dX3_listOf_25 hl (k := 1) rfl (by decide) (by decide) rfl (fun ls hl => ?_)
      refine lv_goto (tgt := 4) hx hb dX3_listOf_28 (by decide) ?_
      refine lv_iload_n hx hb dX3_listOf_4 rfl (lv_at hl 0 rfl) ?_
      refine lv_iconst (v := 4) hx hb dX3_listOf_5 (by decide) ?_
      refine lv_icmp_gt (tgt := 31) hx hb dX3_listOf_6 (by decide) (fun c_3 => ?_) (fun c_3 => ?_)
      · exact absurd c_3 (by decide)
      · skip
        refine lv_aload_n hx hb dX3_listOf_9 rfl (lv_at hl 2 rfl) ?_
        refine lv_iload_n hx hb dX3_listOf_10 rfl (lv_at hl 0 rfl) ?_
        refine lv_iload_n hx hb dX3_listOf_11 rfl (lv_at hl 3 rfl) ?_
        refine ki_cSR (As := [.ref a, .int 2, .int key]) (rest := []) ⟨hx, hb, hml, hown, hts⟩ (c_X3_placeIn l D cy a t st hm 2 (by omega) (by omega) (p_nodup hpw (by omega) (by omega)) key) (va_cwS 3 hts gX3_listOf_X3_placeIn rfl rfl rfl (by decide +kernel) ⟨Nat.le_of_ble_eq_true rfl, Nat.le_of_ble_eq_true rfl⟩) hK hE hP [0] rfl [0] rfl rfl hl.1 rfl (Nat.le_of_ble_eq_true rfl) dX3_listOf_12 ⟨Nat.le_of_ble_eq_true rfl, Nat.le_of_ble_eq_true rfl⟩ ?_
        refine lv_iconst (v := (-1)) hx hb dX3_listOf_15 (by decide) ?_
        refine lv_icmp_ne (tgt := 23) hx hb dX3_listOf_16 (by decide) (fun c_4 => ?_) (fun c_4 => ?_)
        · skip
          have hi2 : key ∈ st.1 2 := by rcases Decidable.em (key ∈ st.1 2) with q9 | q9; exact q9; exact absurd ((m_idx (m_64 hm (i := 2) (by decide) (by decide))).mpr q9) c_4
          refine lv_iload_n hx hb dX3_listOf_23 rfl (lv_at hl 0 rfl) ?_
          refine lv_istore_n (lv' := [(2, .int 2), (3, .int 2), (0, .ref a), (1, .int key)]) hx hb dX3_listOf_24 rfl hl (by decide) rfl (fun ls hl => ?_)
          refine lv_iinc (v := 3) (lv' := [(3, .int 3), (2, .int 2), (0, .ref a), (1, .int key)]) hx hb dX3_listOf_25 hl (k := 1) rfl (by decide) (by decide) rfl (fun ls hl => ?_)
          refine lv_goto (tgt := 4) hx hb dX3_listOf_28 (by decide) ?_
          refine lv_iload_n hx hb dX3_listOf_4 rfl (lv_at hl 0 rfl) ?_
          refine lv_iconst (v := 4) hx hb dX3_listOf_5 (by decide) ?_
          refine lv_icmp_gt (tgt := 31) hx hb dX3_listOf_6 (by decide) (fun c_5 => ?_) (fun c_5 => ?_)
          · exact absurd c_5 (by decide)
          · skip
            refine lv_aload_n hx hb dX3_listOf_9 rfl (lv_at hl 2 rfl) ?_
            refine lv_iload_n hx hb dX3_listOf_10 rfl (lv_at hl 0 rfl) ?_
            refine lv_iload_n hx hb dX3_listOf_11 rfl (lv_at hl 3 rfl) ?_
            refine ki_cSR (As := [.ref a, .int 3, .int key]) (rest := []) ⟨hx, hb, hml, hown, hts⟩ (c_X3_placeIn l D cy a t st hm 3 (by omega) (by omega) (p_nodup hpw (by omega) (by omega)) key) (va_cwS 3 hts gX3_listOf_X3_placeIn rfl rfl rfl (by decide +kernel) ⟨Nat.le_of_ble_eq_true rfl, Nat.le_of_ble_eq_true rfl⟩) hK hE hP [0] rfl [0] rfl rfl hl.1 rfl (Nat.le_of_ble_eq_true rfl) dX3_listOf_12 ⟨Nat.le_of_ble_eq_true rfl, Nat.le_of_ble_eq_true rfl⟩ ?_
            refine lv_iconst (v := (-1)) hx hb dX3_listOf_15 (by decide) ?_
            refine lv_icmp_ne (tgt := 23) hx hb dX3_listOf_16 (by decide) (fun c_6 => ?_) (fun c_6 => ?_)
            · skip
              have hi3 : key ∈ st.1 3 := by rcases Decidable.em (key ∈ st.1 3) with q9 | q9; exact q9; exact absurd ((m_idx (m_64 hm (i := 3) (by decide) (by decide))).mpr q9) c_6
              refine lv_iload_n hx hb dX3_listOf_23 rfl (lv_at hl 0 rfl) ?_
              refine lv_istore_n (lv' := [(2, .int 3), (3, .int 3), (0, .ref a), (1, .int key)]) hx hb dX3_listOf_24 rfl hl (by decide) rfl (fun ls hl => ?_)
              refine lv_iinc (v := 4) (lv' := [(3, .int 4), (2, .int 3), (0, .ref a), (1, .int key)]) hx hb dX3_listOf_25 hl (k := 1) rfl (by decide) (by decide) rfl (fun ls hl => ?_)
              refine lv_goto (tgt := 4) hx hb dX3_listOf_28 (by decide) ?_
              refine lv_iload_n hx hb dX3_listOf_4 rfl (lv_at hl 0 rfl) ?_
              refine lv_iconst (v := 4) hx hb dX3_listOf_5 (by decide) ?_
              refine lv_icmp_gt (tgt := 31) hx hb dX3_listOf_6 (by decide) (fun c_7 => ?_) (fun c_7 => ?_)
              · exact absurd c_7 (by decide)
              · skip
                refine lv_aload_n hx hb dX3_listOf_9 rfl (lv_at hl 2 rfl) ?_
                refine lv_iload_n hx hb dX3_listOf_10 rfl (lv_at hl 0 rfl) ?_
                refine lv_iload_n hx hb dX3_listOf_11 rfl (lv_at hl 3 rfl) ?_
                refine ki_cSR (As := [.ref a, .int 4, .int key]) (rest := []) ⟨hx, hb, hml, hown, hts⟩ (c_X3_placeIn l D cy a t st hm 4 (by omega) (by omega) (p_nodup hpw (by omega) (by omega)) key) (va_cwS 3 hts gX3_listOf_X3_placeIn rfl rfl rfl (by decide +kernel) ⟨Nat.le_of_ble_eq_true rfl, Nat.le_of_ble_eq_true rfl⟩) hK hE hP [0] rfl [0] rfl rfl hl.1 rfl (Nat.le_of_ble_eq_true rfl) dX3_listOf_12 ⟨Nat.le_of_ble_eq_true rfl, Nat.le_of_ble_eq_true rfl⟩ ?_
                refine lv_iconst (v := (-1)) hx hb dX3_listOf_15 (by decide) ?_
                refine lv_icmp_ne (tgt := 23) hx hb dX3_listOf_16 (by decide) (fun c_8 => ?_) (fun c_8 => ?_)
                · skip
                  have hi4 : key ∈ st.1 4 := by rcases Decidable.em (key ∈ st.1 4) with q9 | q9; exact q9; exact absurd ((m_idx (m_64 hm (i := 4) (by decide) (by decide))).mpr q9) c_8
                  refine lv_iload_n hx hb dX3_listOf_23 rfl (lv_at hl 0 rfl) ?_
                  refine lv_istore_n (lv' := [(2, .int 4), (3, .int 4), (0, .ref a), (1, .int key)]) hx hb dX3_listOf_24 rfl hl (by decide) rfl (fun ls hl => ?_)
                  refine lv_iinc (v := 5) (lv' := [(3, .int 5), (2, .int 4), (0, .ref a), (1, .int key)]) hx hb dX3_listOf_25 hl (k := 1) rfl (by decide) (by decide) rfl (fun ls hl => ?_)
                  refine lv_goto (tgt := 4) hx hb dX3_listOf_28 (by decide) ?_
                  refine lv_iload_n hx hb dX3_listOf_4 rfl (lv_at hl 0 rfl) ?_
                  refine lv_iconst (v := 4) hx hb dX3_listOf_5 (by decide) ?_
                  refine lv_icmp_gt (tgt := 31) hx hb dX3_listOf_6 (by decide) (fun c_9 => ?_) (fun c_9 => ?_)
                  rotate_left
                  · exact absurd (by decide) c_9
                  · skip
                    refine lv_iload_n hx hb dX3_listOf_31 rfl (lv_at hl 1 rfl) ?_
                    exact ki_rret hx hb hr hlk (by exact absurd (p_apart hpw (i := 1) (j := 2) (by decide) (by decide) (by decide) (by decide) hi1 hi2) (by decide)) dX3_listOf_32
                · skip
                  have hi4 : ¬ key ∈ st.1 4 := (m_idx (m_64 hm (i := 4) (by decide) (by decide))).mp c_8
                  refine lv_iload_n hx hb dX3_listOf_19 rfl (lv_at hl 1 rfl) ?_
                  refine lv_goto (tgt := 24) hx hb dX3_listOf_20 (by decide) ?_
                  refine lv_istore_n (lv' := [(2, .int 3), (3, .int 4), (0, .ref a), (1, .int key)]) hx hb dX3_listOf_24 rfl hl (by decide) rfl (fun ls hl => ?_)
                  refine lv_iinc (v := 5) (lv' := [(3, .int 5), (2, .int 3), (0, .ref a), (1, .int key)]) hx hb dX3_listOf_25 hl (k := 1) rfl (by decide) (by decide) rfl (fun ls hl => ?_)
                  refine lv_goto (tgt := 4) hx hb dX3_listOf_28 (by decide) ?_
                  refine lv_iload_n hx hb dX3_listOf_4 rfl (lv_at hl 0 rfl) ?_
                  refine lv_iconst (v := 4) hx hb dX3_listOf_5 (by decide) ?_
                  refine lv_icmp_gt (tgt := 31) hx hb dX3_listOf_6 (by decide) (fun c_10 => ?_) (fun c_10 => ?_)
                  rotate_left
                  · exact absurd (by decide) c_10
                  · skip
                    refine lv_iload_n hx hb dX3_listOf_31 rfl (lv_at hl 1 rfl) ?_
                    exact ki_rret hx hb hr hlk (by exact absurd (p_apart hpw (i := 1) (j := 2) (by decide) (by decide) (by decide) (by decide) hi1 hi2) (by decide)) dX3_listOf_32
            · skip
              have hi3 : ¬ key ∈ st.1 3 := (m_idx (m_64 hm (i := 3) (by decide) (by decide))).mp c_6
              refine lv_iload_n hx hb dX3_listOf_19 rfl (lv_at hl 1 rfl) ?_
              refine lv_goto (tgt := 24) hx hb dX3_listOf_20 (by decide) ?_
              refine lv_istore_n (lv' := [(2, .int 2), (3, .int 3), (0, .ref a), (1, .int key)]) hx hb dX3_listOf_24 rfl hl (by decide) rfl (fun ls hl => ?_)
              refine lv_iinc (v := 4) (lv' := [(3, .int 4), (2, .int 2), (0, .ref a), (1, .int key)]) hx hb dX3_listOf_25 hl (k := 1) rfl (by decide) (by decide) rfl (fun ls hl => ?_)
              refine lv_goto (tgt := 4) hx hb dX3_listOf_28 (by decide) ?_
              refine lv_iload_n hx hb dX3_listOf_4 rfl (lv_at hl 0 rfl) ?_
              refine lv_iconst (v := 4) hx hb dX3_listOf_5 (by decide) ?_
              refine lv_icmp_gt (tgt := 31) hx hb dX3_listOf_6 (by decide) (fun c_11 => ?_) (fun c_11 => ?_)
              · exact absurd c_11 (by decide)
              · skip
                refine lv_aload_n hx hb dX3_listOf_9 rfl (lv_at hl 2 rfl) ?_
                refine lv_iload_n hx hb dX3_listOf_10 rfl (lv_at hl 0 rfl) ?_
                refine lv_iload_n hx hb dX3_listOf_11 rfl (lv_at hl 3 rfl) ?_
                refine ki_cSR (As := [.ref a, .int 4, .int key]) (rest := []) ⟨hx, hb, hml, hown, hts⟩ (c_X3_placeIn l D cy a t st hm 4 (by omega) (by omega) (p_nodup hpw (by omega) (by omega)) key) (va_cwS 3 hts gX3_listOf_X3_placeIn rfl rfl rfl (by decide +kernel) ⟨Nat.le_of_ble_eq_true rfl, Nat.le_of_ble_eq_true rfl⟩) hK hE hP [0] rfl [0] rfl rfl hl.1 rfl (Nat.le_of_ble_eq_true rfl) dX3_listOf_12 ⟨Nat.le_of_ble_eq_true rfl, Nat.le_of_ble_eq_true rfl⟩ ?_
                refine lv_iconst (v := (-1)) hx hb dX3_listOf_15 (by decide) ?_
                refine lv_icmp_ne (tgt := 23) hx hb dX3_listOf_16 (by decide) (fun c_12 => ?_) (fun c_12 => ?_)
                · skip
                  have hi4 : key ∈ st.1 4 := by rcases Decidable.em (key ∈ st.1 4) with q9 | q9; exact q9; exact absurd ((m_idx (m_64 hm (i := 4) (by decide) (by decide))).mpr q9) c_12
                  refine lv_iload_n hx hb dX3_listOf_23 rfl (lv_at hl 0 rfl) ?_
                  refine lv_istore_n (lv' := [(2, .int 4), (3, .int 4), (0, .ref a), (1, .int key)]) hx hb dX3_listOf_24 rfl hl (by decide) rfl (fun ls hl => ?_)
                  refine lv_iinc (v := 5) (lv' := [(3, .int 5), (2, .int 4), (0, .ref a), (1, .int key)]) hx hb dX3_listOf_25 hl (k := 1) rfl (by decide) (by decide) rfl (fun ls hl => ?_)
                  refine lv_goto (tgt := 4) hx hb dX3_listOf_28 (by decide) ?_
                  refine lv_iload_n hx hb dX3_listOf_4 rfl (lv_at hl 0 rfl) ?_
                  refine lv_iconst (v := 4) hx hb dX3_listOf_5 (by decide) ?_
                  refine lv_icmp_gt (tgt := 31) hx hb dX3_listOf_6 (by decide) (fun c_13 => ?_) (fun c_13 => ?_)
                  rotate_left
                  · exact absurd (by decide) c_13
                  · skip
                    refine lv_iload_n hx hb dX3_listOf_31 rfl (lv_at hl 1 rfl) ?_
                    exact ki_rret hx hb hr hlk (by exact absurd (p_apart hpw (i := 1) (j := 2) (by decide) (by decide) (by decide) (by decide) hi1 hi2) (by decide)) dX3_listOf_32
                · skip
                  have hi4 : ¬ key ∈ st.1 4 := (m_idx (m_64 hm (i := 4) (by decide) (by decide))).mp c_12
                  refine lv_iload_n hx hb dX3_listOf_19 rfl (lv_at hl 1 rfl) ?_
                  refine lv_goto (tgt := 24) hx hb dX3_listOf_20 (by decide) ?_
                  refine lv_istore_n (lv' := [(2, .int 2), (3, .int 4), (0, .ref a), (1, .int key)]) hx hb dX3_listOf_24 rfl hl (by decide) rfl (fun ls hl => ?_)
                  refine lv_iinc (v := 5) (lv' := [(3, .int 5), (2, .int 2), (0, .ref a), (1, .int key)]) hx hb dX3_listOf_25 hl (k := 1) rfl (by decide) (by decide) rfl (fun ls hl => ?_)
                  refine lv_goto (tgt := 4) hx hb dX3_listOf_28 (by decide) ?_
                  refine lv_iload_n hx hb dX3_listOf_4 rfl (lv_at hl 0 rfl) ?_
                  refine lv_iconst (v := 4) hx hb dX3_listOf_5 (by decide) ?_
                  refine lv_icmp_gt (tgt := 31) hx hb dX3_listOf_6 (by decide) (fun c_14 => ?_) (fun c_14 => ?_)
                  rotate_left
                  · exact absurd (by decide) c_14
                  · skip
                    refine lv_iload_n hx hb dX3_listOf_31 rfl (lv_at hl 1 rfl) ?_
                    exact ki_rret hx hb hr hlk (by exact absurd (p_apart hpw (i := 1) (j := 2) (by decide) (by decide) (by decide) (by decide) hi1 hi2) (by decide)) dX3_listOf_32
        · skip
          have hi2 : ¬ key ∈ st.1 2 := (m_idx (m_64 hm (i := 2) (by decide) (by decide))).mp c_4
          refine lv_iload_n hx hb dX3_listOf_19 rfl (lv_at hl 1 rfl) ?_
          refine lv_goto (tgt := 24) hx hb dX3_listOf_20 (by decide) ?_
          refine lv_istore_n (lv' := [(2, .int 1), (3, .int 2), (0, .ref a), (1, .int key)]) hx hb dX3_listOf_24 rfl hl (by decide) rfl (fun ls hl => ?_)
          refine lv_iinc (v := 3) (lv' := [(3, .int 3), (2, .int 1), (0, .ref a), (1, .int key)]) hx hb dX3_listOf_25 hl (k := 1) rfl (by decide) (by decide) rfl (fun ls hl => ?_)
          refine lv_goto (tgt := 4) hx hb dX3_listOf_28 (by decide) ?_
          refine lv_iload_n hx hb dX3_listOf_4 rfl (lv_at hl 0 rfl) ?_
          refine lv_iconst (v := 4) hx hb dX3_listOf_5 (by decide) ?_
          refine lv_icmp_gt (tgt := 31) hx hb dX3_listOf_6 (by decide) (fun c_15 => ?_) (fun c_15 => ?_)
          · exact absurd c_15 (by decide)
          · skip
            refine lv_aload_n hx hb dX3_listOf_9 rfl (lv_at hl 2 rfl) ?_
            refine lv_iload_n hx hb dX3_listOf_10 rfl (lv_at hl 0 rfl) ?_
            refine lv_iload_n hx hb dX3_listOf_11 rfl (lv_at hl 3 rfl) ?_
            refine ki_cSR (As := [.ref a, .int 3, .int key]) (rest := []) ⟨hx, hb, hml, hown, hts⟩ (c_X3_placeIn l D cy a t st hm 3 (by omega) (by omega) (p_nodup hpw (by omega) (by omega)) key) (va_cwS 3 hts gX3_listOf_X3_placeIn rfl rfl rfl (by decide +kernel) ⟨Nat.le_of_ble_eq_true rfl, Nat.le_of_ble_eq_true rfl⟩) hK hE hP [0] rfl [0] rfl rfl hl.1 rfl (Nat.le_of_ble_eq_true rfl) dX3_listOf_12 ⟨Nat.le_of_ble_eq_true rfl, Nat.le_of_ble_eq_true rfl⟩ ?_
            refine lv_iconst (v := (-1)) hx hb dX3_listOf_15 (by decide) ?_
            refine lv_icmp_ne (tgt := 23) hx hb dX3_listOf_16 (by decide) (fun c_16 => ?_) (fun c_16 => ?_)
            · skip
              have hi3 : key ∈ st.1 3 := by rcases Decidable.em (key ∈ st.1 3) with q9 | q9; exact q9; exact absurd ((m_idx (m_64 hm (i := 3) (by decide) (by decide))).mpr q9) c_16
              refine lv_iload_n hx hb dX3_listOf_23 rfl (lv_at hl 0 rfl) ?_
              refine lv_istore_n (lv' := [(2, .int 3), (3, .int 3), (0, .ref a), (1, .int key)]) hx hb dX3_listOf_24 rfl hl (by decide) rfl (fun ls hl => ?_)
              refine lv_iinc (v := 4) (lv' := [(3, .int 4), (2, .int 3), (0, .ref a), (1, .int key)]) hx hb dX3_listOf_25 hl (k := 1) rfl (by decide) (by decide) rfl (fun ls hl => ?_)
              refine lv_goto (tgt := 4) hx hb dX3_listOf_28 (by decide) ?_
              refine lv_iload_n hx hb dX3_listOf_4 rfl (lv_at hl 0 rfl) ?_
              refine lv_iconst (v := 4) hx hb dX3_listOf_5 (by decide) ?_
              refine lv_icmp_gt (tgt := 31) hx hb dX3_listOf_6 (by decide) (fun c_17 => ?_) (fun c_17 => ?_)
              · exact absurd c_17 (by decide)
              · skip
                refine lv_aload_n hx hb dX3_listOf_9 rfl (lv_at hl 2 rfl) ?_
                refine lv_iload_n hx hb dX3_listOf_10 rfl (lv_at hl 0 rfl) ?_
                refine lv_iload_n hx hb dX3_listOf_11 rfl (lv_at hl 3 rfl) ?_
                refine ki_cSR (As := [.ref a, .int 4, .int key]) (rest := []) ⟨hx, hb, hml, hown, hts⟩ (c_X3_placeIn l D cy a t st hm 4 (by omega) (by omega) (p_nodup hpw (by omega) (by omega)) key) (va_cwS 3 hts gX3_listOf_X3_placeIn rfl rfl rfl (by decide +kernel) ⟨Nat.le_of_ble_eq_true rfl, Nat.le_of_ble_eq_true rfl⟩) hK hE hP [0] rfl [0] rfl rfl hl.1 rfl (Nat.le_of_ble_eq_true rfl) dX3_listOf_12 ⟨Nat.le_of_ble_eq_true rfl, Nat.le_of_ble_eq_true rfl⟩ ?_
                refine lv_iconst (v := (-1)) hx hb dX3_listOf_15 (by decide) ?_
                refine lv_icmp_ne (tgt := 23) hx hb dX3_listOf_16 (by decide) (fun c_18 => ?_) (fun c_18 => ?_)
                · skip
                  have hi4 : key ∈ st.1 4 := by rcases Decidable.em (key ∈ st.1 4) with q9 | q9; exact q9; exact absurd ((m_idx (m_64 hm (i := 4) (by decide) (by decide))).mpr q9) c_18
                  refine lv_iload_n hx hb dX3_listOf_23 rfl (lv_at hl 0 rfl) ?_
                  refine lv_istore_n (lv' := [(2, .int 4), (3, .int 4), (0, .ref a), (1, .int key)]) hx hb dX3_listOf_24 rfl hl (by decide) rfl (fun ls hl => ?_)
                  refine lv_iinc (v := 5) (lv' := [(3, .int 5), (2, .int 4), (0, .ref a), (1, .int key)]) hx hb dX3_listOf_25 hl (k := 1) rfl (by decide) (by decide) rfl (fun ls hl => ?_)
                  refine lv_goto (tgt := 4) hx hb dX3_listOf_28 (by decide) ?_
                  refine lv_iload_n hx hb dX3_listOf_4 rfl (lv_at hl 0 rfl) ?_
                  refine lv_iconst (v := 4) hx hb dX3_listOf_5 (by decide) ?_
                  refine lv_icmp_gt (tgt := 31) hx hb dX3_listOf_6 (by decide) (fun c_19 => ?_) (fun c_19 => ?_)
                  rotate_left
                  · exact absurd (by decide) c_19
                  · skip
                    refine lv_iload_n hx hb dX3_listOf_31 rfl (lv_at hl 1 rfl) ?_
                    exact ki_rret hx hb hr hlk (by exact absurd (p_apart hpw (i := 1) (j := 3) (by decide) (by decide) (by decide) (by decide) hi1 hi3) (by decide)) dX3_listOf_32
                · skip
                  have hi4 : ¬ key ∈ st.1 4 := (m_idx (m_64 hm (i := 4) (by decide) (by decide))).mp c_18
                  refine lv_iload_n hx hb dX3_listOf_19 rfl (lv_at hl 1 rfl) ?_
                  refine lv_goto (tgt := 24) hx hb dX3_listOf_20 (by decide) ?_
                  refine lv_istore_n (lv' := [(2, .int 3), (3, .int 4), (0, .ref a), (1, .int key)]) hx hb dX3_listOf_24 rfl hl (by decide) rfl (fun ls hl => ?_)
                  refine lv_iinc (v := 5) (lv' := [(3, .int 5), (2, .int 3), (0, .ref a), (1, .int key)]) hx hb dX3_listOf_25 hl (k := 1) rfl (by decide) (by decide) rfl (fun ls hl => ?_)
                  refine lv_goto (tgt := 4) hx hb dX3_listOf_28 (by decide) ?_
                  refine lv_iload_n hx hb dX3_listOf_4 rfl (lv_at hl 0 rfl) ?_
                  refine lv_iconst (v := 4) hx hb dX3_listOf_5 (by decide) ?_
                  refine lv_icmp_gt (tgt := 31) hx hb dX3_listOf_6 (by decide) (fun c_20 => ?_) (fun c_20 => ?_)
                  rotate_left
                  · exact absurd (by decide) c_20
                  · skip
                    refine lv_iload_n hx hb dX3_listOf_31 rfl (lv_at hl 1 rfl) ?_
                    exact ki_rret hx hb hr hlk (by exact absurd (p_apart hpw (i := 1) (j := 3) (by decide) (by decide) (by decide) (by decide) hi1 hi3) (by decide)) dX3_listOf_32
            · skip
              have hi3 : ¬ key ∈ st.1 3 := (m_idx (m_64 hm (i := 3) (by decide) (by decide))).mp c_16
              refine lv_iload_n hx hb dX3_listOf_19 rfl (lv_at hl 1 rfl) ?_
              refine lv_goto (tgt := 24) hx hb dX3_listOf_20 (by decide) ?_
              refine lv_istore_n (lv' := [(2, .int 1), (3, .int 3), (0, .ref a), (1, .int key)]) hx hb dX3_listOf_24 rfl hl (by decide) rfl (fun ls hl => ?_)
              refine lv_iinc (v := 4) (lv' := [(3, .int 4), (2, .int 1), (0, .ref a), (1, .int key)]) hx hb dX3_listOf_25 hl (k := 1) rfl (by decide) (by decide) rfl (fun ls hl => ?_)
              refine lv_goto (tgt := 4) hx hb dX3_listOf_28 (by decide) ?_
              refine lv_iload_n hx hb dX3_listOf_4 rfl (lv_at hl 0 rfl) ?_
              refine lv_iconst (v := 4) hx hb dX3_listOf_5 (by decide) ?_
              refine lv_icmp_gt (tgt := 31) hx hb dX3_listOf_6 (by decide) (fun c_21 => ?_) (fun c_21 => ?_)
              · exact absurd c_21 (by decide)
              · skip
                refine lv_aload_n hx hb dX3_listOf_9 rfl (lv_at hl 2 rfl) ?_
                refine lv_iload_n hx hb dX3_listOf_10 rfl (lv_at hl 0 rfl) ?_
                refine lv_iload_n hx hb dX3_listOf_11 rfl (lv_at hl 3 rfl) ?_
                refine ki_cSR (As := [.ref a, .int 4, .int key]) (rest := []) ⟨hx, hb, hml, hown, hts⟩ (c_X3_placeIn l D cy a t st hm 4 (by omega) (by omega) (p_nodup hpw (by omega) (by omega)) key) (va_cwS 3 hts gX3_listOf_X3_placeIn rfl rfl rfl (by decide +kernel) ⟨Nat.le_of_ble_eq_true rfl, Nat.le_of_ble_eq_true rfl⟩) hK hE hP [0] rfl [0] rfl rfl hl.1 rfl (Nat.le_of_ble_eq_true rfl) dX3_listOf_12 ⟨Nat.le_of_ble_eq_true rfl, Nat.le_of_ble_eq_true rfl⟩ ?_
                refine lv_iconst (v := (-1)) hx hb dX3_listOf_15 (by decide) ?_
                refine lv_icmp_ne (tgt := 23) hx hb dX3_listOf_16 (by decide) (fun c_22 => ?_) (fun c_22 => ?_)
                · skip
                  have hi4 : key ∈ st.1 4 := by rcases Decidable.em (key ∈ st.1 4) with q9 | q9; exact q9; exact absurd ((m_idx (m_64 hm (i := 4) (by decide) (by decide))).mpr q9) c_22
                  refine lv_iload_n hx hb dX3_listOf_23 rfl (lv_at hl 0 rfl) ?_
                  refine lv_istore_n (lv' := [(2, .int 4), (3, .int 4), (0, .ref a), (1, .int key)]) hx hb dX3_listOf_24 rfl hl (by decide) rfl (fun ls hl => ?_)
                  refine lv_iinc (v := 5) (lv' := [(3, .int 5), (2, .int 4), (0, .ref a), (1, .int key)]) hx hb dX3_listOf_25 hl (k := 1) rfl (by decide) (by decide) rfl (fun ls hl => ?_)
                  refine lv_goto (tgt := 4) hx hb dX3_listOf_28 (by decide) ?_
                  refine lv_iload_n hx hb dX3_listOf_4 rfl (lv_at hl 0 rfl) ?_
                  refine lv_iconst (v := 4) hx hb dX3_listOf_5 (by decide) ?_
                  refine lv_icmp_gt (tgt := 31) hx hb dX3_listOf_6 (by decide) (fun c_23 => ?_) (fun c_23 => ?_)
                  rotate_left
                  · exact absurd (by decide) c_23
                  · skip
                    refine lv_iload_n hx hb dX3_listOf_31 rfl (lv_at hl 1 rfl) ?_
                    exact ki_rret hx hb hr hlk (by exact absurd (p_apart hpw (i := 1) (j := 4) (by decide) (by decide) (by decide) (by decide) hi1 hi4) (by decide)) dX3_listOf_32
                · skip
                  have hi4 : ¬ key ∈ st.1 4 := (m_idx (m_64 hm (i := 4) (by decide) (by decide))).mp c_22
                  refine lv_iload_n hx hb dX3_listOf_19 rfl (lv_at hl 1 rfl) ?_
                  refine lv_goto (tgt := 24) hx hb dX3_listOf_20 (by decide) ?_
                  refine lv_istore_n (lv' := [(2, .int 1), (3, .int 4), (0, .ref a), (1, .int key)]) hx hb dX3_listOf_24 rfl hl (by decide) rfl (fun ls hl => ?_)
                  refine lv_iinc (v := 5) (lv' := [(3, .int 5), (2, .int 1), (0, .ref a), (1, .int key)]) hx hb dX3_listOf_25 hl (k := 1) rfl (by decide) (by decide) rfl (fun ls hl => ?_)
                  refine lv_goto (tgt := 4) hx hb dX3_listOf_28 (by decide) ?_
                  refine lv_iload_n hx hb dX3_listOf_4 rfl (lv_at hl 0 rfl) ?_
                  refine lv_iconst (v := 4) hx hb dX3_listOf_5 (by decide) ?_
                  refine lv_icmp_gt (tgt := 31) hx hb dX3_listOf_6 (by decide) (fun c_24 => ?_) (fun c_24 => ?_)
                  rotate_left
                  · exact absurd (by decide) c_24
                  · skip
                    refine lv_iload_n hx hb dX3_listOf_31 rfl (lv_at hl 1 rfl) ?_
                    exact ki_rret hx hb hr hlk (by unfold c_list; rw [if_pos hi1]) dX3_listOf_32
    · skip
      have hi1 : ¬ key ∈ st.1 1 := (m_idx (m_64 hm (i := 1) (by decide) (by decide))).mp c_2
      refine lv_iload_n hx hb dX3_listOf_19 rfl (lv_at hl 1 rfl) ?_
      refine lv_goto (tgt := 24) hx hb dX3_listOf_20 (by decide) ?_
      refine lv_istore_n (lv' := [(2, .int 0), (3, .int 1), (0, .ref a), (1, .int key)]) hx hb dX3_listOf_24 rfl hl (by decide) rfl (fun ls hl => ?_)
      refine lv_iinc (v := 2) (lv' := [(3, .int 2), (2, .int 0), (0, .ref a), (1, .int key)]) hx hb dX3_listOf_25 hl (k := 1) rfl (by decide) (by decide) rfl (fun ls hl => ?_)
      refine lv_goto (tgt := 4) hx hb dX3_listOf_28 (by decide) ?_
      refine lv_iload_n hx hb dX3_listOf_4 rfl (lv_at hl 0 rfl) ?_
      refine lv_iconst (v := 4) hx hb dX3_listOf_5 (by decide) ?_
      refine lv_icmp_gt (tgt := 31) hx hb dX3_listOf_6 (by decide) (fun c_25 => ?_) (fun c_25 => ?_)
      · exact absurd c_25 (by decide)
      · skip
        refine lv_aload_n hx hb dX3_listOf_9 rfl (lv_at hl 2 rfl) ?_
        refine lv_iload_n hx hb dX3_listOf_10 rfl (lv_at hl 0 rfl) ?_
        refine lv_iload_n hx hb dX3_listOf_11 rfl (lv_at hl 3 rfl) ?_
        refine ki_cSR (As := [.ref a, .int 2, .int key]) (rest := []) ⟨hx, hb, hml, hown, hts⟩ (c_X3_placeIn l D cy a t st hm 2 (by omega) (by omega) (p_nodup hpw (by omega) (by omega)) key) (va_cwS 3 hts gX3_listOf_X3_placeIn rfl rfl rfl (by decide +kernel) ⟨Nat.le_of_ble_eq_true rfl, Nat.le_of_ble_eq_true rfl⟩) hK hE hP [0] rfl [0] rfl rfl hl.1 rfl (Nat.le_of_ble_eq_true rfl) dX3_listOf_12 ⟨Nat.le_of_ble_eq_true rfl, Nat.le_of_ble_eq_true rfl⟩ ?_
        refine lv_iconst (v := (-1)) hx hb dX3_listOf_15 (by decide) ?_
        refine lv_icmp_ne (tgt := 23) hx hb dX3_listOf_16 (by decide) (fun c_26 => ?_) (fun c_26 => ?_)
        · skip
          have hi2 : key ∈ st.1 2 := by rcases Decidable.em (key ∈ st.1 2) with q9 | q9; exact q9; exact absurd ((m_idx (m_64 hm (i := 2) (by decide) (by decide))).mpr q9) c_26
          refine lv_iload_n hx hb dX3_listOf_23 rfl (lv_at hl 0 rfl) ?_
          refine lv_istore_n (lv' := [(2, .int 2), (3, .int 2), (0, .ref a), (1, .int key)]) hx hb dX3_listOf_24 rfl hl (by decide) rfl (fun ls hl => ?_)
          refine lv_iinc (v := 3) (lv' := [(3, .int 3), (2, .int 2), (0, .ref a), (1, .int key)]) hx hb dX3_listOf_25 hl (k := 1) rfl (by decide) (by decide) rfl (fun ls hl => ?_)
          refine lv_goto (tgt := 4) hx hb dX3_listOf_28 (by decide) ?_
          refine lv_iload_n hx hb dX3_listOf_4 rfl (lv_at hl 0 rfl) ?_
          refine lv_iconst (v := 4) hx hb dX3_listOf_5 (by decide) ?_
          refine lv_icmp_gt (tgt := 31) hx hb dX3_listOf_6 (by decide) (fun c_27 => ?_) (fun c_27 => ?_)
          · exact absurd c_27 (by decide)
          · skip
            refine lv_aload_n hx hb dX3_listOf_9 rfl (lv_at hl 2 rfl) ?_
            refine lv_iload_n hx hb dX3_listOf_10 rfl (lv_at hl 0 rfl) ?_
            refine lv_iload_n hx hb dX3_listOf_11 rfl (lv_at hl 3 rfl) ?_
            refine ki_cSR (As := [.ref a, .int 3, .int key]) (rest := []) ⟨hx, hb, hml, hown, hts⟩ (c_X3_placeIn l D cy a t st hm 3 (by omega) (by omega) (p_nodup hpw (by omega) (by omega)) key) (va_cwS 3 hts gX3_listOf_X3_placeIn rfl rfl rfl (by decide +kernel) ⟨Nat.le_of_ble_eq_true rfl, Nat.le_of_ble_eq_true rfl⟩) hK hE hP [0] rfl [0] rfl rfl hl.1 rfl (Nat.le_of_ble_eq_true rfl) dX3_listOf_12 ⟨Nat.le_of_ble_eq_true rfl, Nat.le_of_ble_eq_true rfl⟩ ?_
            refine lv_iconst (v := (-1)) hx hb dX3_listOf_15 (by decide) ?_
            refine lv_icmp_ne (tgt := 23) hx hb dX3_listOf_16 (by decide) (fun c_28 => ?_) (fun c_28 => ?_)
            · skip
              have hi3 : key ∈ st.1 3 := by rcases Decidable.em (key ∈ st.1 3) with q9 | q9; exact q9; exact absurd ((m_idx (m_64 hm (i := 3) (by decide) (by decide))).mpr q9) c_28
              refine lv_iload_n hx hb dX3_listOf_23 rfl (lv_at hl 0 rfl) ?_
              refine lv_istore_n (lv' := [(2, .int 3), (3, .int 3), (0, .ref a), (1, .int key)]) hx hb dX3_listOf_24 rfl hl (by decide) rfl (fun ls hl => ?_)
              refine lv_iinc (v := 4) (lv' := [(3, .int 4), (2, .int 3), (0, .ref a), (1, .int key)]) hx hb dX3_listOf_25 hl (k := 1) rfl (by decide) (by decide) rfl (fun ls hl => ?_)
              refine lv_goto (tgt := 4) hx hb dX3_listOf_28 (by decide) ?_
              refine lv_iload_n hx hb dX3_listOf_4 rfl (lv_at hl 0 rfl) ?_
              refine lv_iconst (v := 4) hx hb dX3_listOf_5 (by decide) ?_
              refine lv_icmp_gt (tgt := 31) hx hb dX3_listOf_6 (by decide) (fun c_29 => ?_) (fun c_29 => ?_)
              · exact absurd c_29 (by decide)
              · skip
                refine lv_aload_n hx hb dX3_listOf_9 rfl (lv_at hl 2 rfl) ?_
                refine lv_iload_n hx hb dX3_listOf_10 rfl (lv_at hl 0 rfl) ?_
                refine lv_iload_n hx hb dX3_listOf_11 rfl (lv_at hl 3 rfl) ?_
                refine ki_cSR (As := [.ref a, .int 4, .int key]) (rest := []) ⟨hx, hb, hml, hown, hts⟩ (c_X3_placeIn l D cy a t st hm 4 (by omega) (by omega) (p_nodup hpw (by omega) (by omega)) key) (va_cwS 3 hts gX3_listOf_X3_placeIn rfl rfl rfl (by decide +kernel) ⟨Nat.le_of_ble_eq_true rfl, Nat.le_of_ble_eq_true rfl⟩) hK hE hP [0] rfl [0] rfl rfl hl.1 rfl (Nat.le_of_ble_eq_true rfl) dX3_listOf_12 ⟨Nat.le_of_ble_eq_true rfl, Nat.le_of_ble_eq_true rfl⟩ ?_
                refine lv_iconst (v := (-1)) hx hb dX3_listOf_15 (by decide) ?_
                refine lv_icmp_ne (tgt := 23) hx hb dX3_listOf_16 (by decide) (fun c_30 => ?_) (fun c_30 => ?_)
                · skip
                  have hi4 : key ∈ st.1 4 := by rcases Decidable.em (key ∈ st.1 4) with q9 | q9; exact q9; exact absurd ((m_idx (m_64 hm (i := 4) (by decide) (by decide))).mpr q9) c_30
                  refine lv_iload_n hx hb dX3_listOf_23 rfl (lv_at hl 0 rfl) ?_
                  refine lv_istore_n (lv' := [(2, .int 4), (3, .int 4), (0, .ref a), (1, .int key)]) hx hb dX3_listOf_24 rfl hl (by decide) rfl (fun ls hl => ?_)
                  refine lv_iinc (v := 5) (lv' := [(3, .int 5), (2, .int 4), (0, .ref a), (1, .int key)]) hx hb dX3_listOf_25 hl (k := 1) rfl (by decide) (by decide) rfl (fun ls hl => ?_)
                  refine lv_goto (tgt := 4) hx hb dX3_listOf_28 (by decide) ?_
                  refine lv_iload_n hx hb dX3_listOf_4 rfl (lv_at hl 0 rfl) ?_
                  refine lv_iconst (v := 4) hx hb dX3_listOf_5 (by decide) ?_
                  refine lv_icmp_gt (tgt := 31) hx hb dX3_listOf_6 (by decide) (fun c_31 => ?_) (fun c_31 => ?_)
                  rotate_left
                  · exact absurd (by decide) c_31
                  · skip
                    refine lv_iload_n hx hb dX3_listOf_31 rfl (lv_at hl 1 rfl) ?_
                    exact ki_rret hx hb hr hlk (by exact absurd (p_apart hpw (i := 2) (j := 3) (by decide) (by decide) (by decide) (by decide) hi2 hi3) (by decide)) dX3_listOf_32
                · skip
                  have hi4 : ¬ key ∈ st.1 4 := (m_idx (m_64 hm (i := 4) (by decide) (by decide))).mp c_30
                  refine lv_iload_n hx hb dX3_listOf_19 rfl (lv_at hl 1 rfl) ?_
                  refine lv_goto (tgt := 24) hx hb dX3_listOf_20 (by decide) ?_
                  refine lv_istore_n (lv' := [(2, .int 3), (3, .int 4), (0, .ref a), (1, .int key)]) hx hb dX3_listOf_24 rfl hl (by decide) rfl (fun ls hl => ?_)
                  refine lv_iinc (v := 5) (lv' := [(3, .int 5), (2, .int 3), (0, .ref a), (1, .int key)]) hx hb dX3_listOf_25 hl (k := 1) rfl (by decide) (by decide) rfl (fun ls hl => ?_)
                  refine lv_goto (tgt := 4) hx hb dX3_listOf_28 (by decide) ?_
                  refine lv_iload_n hx hb dX3_listOf_4 rfl (lv_at hl 0 rfl) ?_
                  refine lv_iconst (v := 4) hx hb dX3_listOf_5 (by decide) ?_
                  refine lv_icmp_gt (tgt := 31) hx hb dX3_listOf_6 (by decide) (fun c_32 => ?_) (fun c_32 => ?_)
                  rotate_left
                  · exact absurd (by decide) c_32
                  · skip
                    refine lv_iload_n hx hb dX3_listOf_31 rfl (lv_at hl 1 rfl) ?_
                    exact ki_rret hx hb hr hlk (by exact absurd (p_apart hpw (i := 2) (j := 3) (by decide) (by decide) (by decide) (by decide) hi2 hi3) (by decide)) dX3_listOf_32
            · skip
              have hi3 : ¬ key ∈ st.1 3 := (m_idx (m_64 hm (i := 3) (by decide) (by decide))).mp c_28
              refine lv_iload_n hx hb dX3_listOf_19 rfl (lv_at hl 1 rfl) ?_
              refine lv_goto (tgt := 24) hx hb dX3_listOf_20 (by decide) ?_
              refine lv_istore_n (lv' := [(2, .int 2), (3, .int 3), (0, .ref a), (1, .int key)]) hx hb dX3_listOf_24 rfl hl (by decide) rfl (fun ls hl => ?_)
              refine lv_iinc (v := 4) (lv' := [(3, .int 4), (2, .int 2), (0, .ref a), (1, .int key)]) hx hb dX3_listOf_25 hl (k := 1) rfl (by decide) (by decide) rfl (fun ls hl => ?_)
              refine lv_goto (tgt := 4) hx hb dX3_listOf_28 (by decide) ?_
              refine lv_iload_n hx hb dX3_listOf_4 rfl (lv_at hl 0 rfl) ?_
              refine lv_iconst (v := 4) hx hb dX3_listOf_5 (by decide) ?_
              refine lv_icmp_gt (tgt := 31) hx hb dX3_listOf_6 (by decide) (fun c_33 => ?_) (fun c_33 => ?_)
              · exact absurd c_33 (by decide)
              · skip
                refine lv_aload_n hx hb dX3_listOf_9 rfl (lv_at hl 2 rfl) ?_
                refine lv_iload_n hx hb dX3_listOf_10 rfl (lv_at hl 0 rfl) ?_
                refine lv_iload_n hx hb dX3_listOf_11 rfl (lv_at hl 3 rfl) ?_
                refine ki_cSR (As := [.ref a, .int 4, .int key]) (rest := []) ⟨hx, hb, hml, hown, hts⟩ (c_X3_placeIn l D cy a t st hm 4 (by omega) (by omega) (p_nodup hpw (by omega) (by omega)) key) (va_cwS 3 hts gX3_listOf_X3_placeIn rfl rfl rfl (by decide +kernel) ⟨Nat.le_of_ble_eq_true rfl, Nat.le_of_ble_eq_true rfl⟩) hK hE hP [0] rfl [0] rfl rfl hl.1 rfl (Nat.le_of_ble_eq_true rfl) dX3_listOf_12 ⟨Nat.le_of_ble_eq_true rfl, Nat.le_of_ble_eq_true rfl⟩ ?_
                refine lv_iconst (v := (-1)) hx hb dX3_listOf_15 (by decide) ?_
                refine lv_icmp_ne (tgt := 23) hx hb dX3_listOf_16 (by decide) (fun c_34 => ?_) (fun c_34 => ?_)
                · skip
                  have hi4 : key ∈ st.1 4 := by rcases Decidable.em (key ∈ st.1 4) with q9 | q9; exact q9; exact absurd ((m_idx (m_64 hm (i := 4) (by decide) (by decide))).mpr q9) c_34
                  refine lv_iload_n hx hb dX3_listOf_23 rfl (lv_at hl 0 rfl) ?_
                  refine lv_istore_n (lv' := [(2, .int 4), (3, .int 4), (0, .ref a), (1, .int key)]) hx hb dX3_listOf_24 rfl hl (by decide) rfl (fun ls hl => ?_)
                  refine lv_iinc (v := 5) (lv' := [(3, .int 5), (2, .int 4), (0, .ref a), (1, .int key)]) hx hb dX3_listOf_25 hl (k := 1) rfl (by decide) (by decide) rfl (fun ls hl => ?_)
                  refine lv_goto (tgt := 4) hx hb dX3_listOf_28 (by decide) ?_
                  refine lv_iload_n hx hb dX3_listOf_4 rfl (lv_at hl 0 rfl) ?_
                  refine lv_iconst (v := 4) hx hb dX3_listOf_5 (by decide) ?_
                  refine lv_icmp_gt (tgt := 31) hx hb dX3_listOf_6 (by decide) (fun c_35 => ?_) (fun c_35 => ?_)
                  rotate_left
                  · exact absurd (by decide) c_35
                  · skip
                    refine lv_iload_n hx hb dX3_listOf_31 rfl (lv_at hl 1 rfl) ?_
                    exact ki_rret hx hb hr hlk (by exact absurd (p_apart hpw (i := 2) (j := 4) (by decide) (by decide) (by decide) (by decide) hi2 hi4) (by decide)) dX3_listOf_32
                · skip
                  have hi4 : ¬ key ∈ st.1 4 := (m_idx (m_64 hm (i := 4) (by decide) (by decide))).mp c_34
                  refine lv_iload_n hx hb dX3_listOf_19 rfl (lv_at hl 1 rfl) ?_
                  refine lv_goto (tgt := 24) hx hb dX3_listOf_20 (by decide) ?_
                  refine lv_istore_n (lv' := [(2, .int 2), (3, .int 4), (0, .ref a), (1, .int key)]) hx hb dX3_listOf_24 rfl hl (by decide) rfl (fun ls hl => ?_)
                  refine lv_iinc (v := 5) (lv' := [(3, .int 5), (2, .int 2), (0, .ref a), (1, .int key)]) hx hb dX3_listOf_25 hl (k := 1) rfl (by decide) (by decide) rfl (fun ls hl => ?_)
                  refine lv_goto (tgt := 4) hx hb dX3_listOf_28 (by decide) ?_
                  refine lv_iload_n hx hb dX3_listOf_4 rfl (lv_at hl 0 rfl) ?_
                  refine lv_iconst (v := 4) hx hb dX3_listOf_5 (by decide) ?_
                  refine lv_icmp_gt (tgt := 31) hx hb dX3_listOf_6 (by decide) (fun c_36 => ?_) (fun c_36 => ?_)
                  rotate_left
                  · exact absurd (by decide) c_36
                  · skip
                    refine lv_iload_n hx hb dX3_listOf_31 rfl (lv_at hl 1 rfl) ?_
                    exact ki_rret hx hb hr hlk (by unfold c_list; rw [if_neg hi1, if_pos hi2]) dX3_listOf_32
        · skip
          have hi2 : ¬ key ∈ st.1 2 := (m_idx (m_64 hm (i := 2) (by decide) (by decide))).mp c_26
          refine lv_iload_n hx hb dX3_listOf_19 rfl (lv_at hl 1 rfl) ?_
          refine lv_goto (tgt := 24) hx hb dX3_listOf_20 (by decide) ?_
          refine lv_istore_n (lv' := [(2, .int 0), (3, .int 2), (0, .ref a), (1, .int key)]) hx hb dX3_listOf_24 rfl hl (by decide) rfl (fun ls hl => ?_)
          refine lv_iinc (v := 3) (lv' := [(3, .int 3), (2, .int 0), (0, .ref a), (1, .int key)]) hx hb dX3_listOf_25 hl (k := 1) rfl (by decide) (by decide) rfl (fun ls hl => ?_)
          refine lv_goto (tgt := 4) hx hb dX3_listOf_28 (by decide) ?_
          refine lv_iload_n hx hb dX3_listOf_4 rfl (lv_at hl 0 rfl) ?_
          refine lv_iconst (v := 4) hx hb dX3_listOf_5 (by decide) ?_
          refine lv_icmp_gt (tgt := 31) hx hb dX3_listOf_6 (by decide) (fun c_37 => ?_) (fun c_37 => ?_)
          · exact absurd c_37 (by decide)
          · skip
            refine lv_aload_n hx hb dX3_listOf_9 rfl (lv_at hl 2 rfl) ?_
            refine lv_iload_n hx hb dX3_listOf_10 rfl (lv_at hl 0 rfl) ?_
            refine lv_iload_n hx hb dX3_listOf_11 rfl (lv_at hl 3 rfl) ?_
            refine ki_cSR (As := [.ref a, .int 3, .int key]) (rest := []) ⟨hx, hb, hml, hown, hts⟩ (c_X3_placeIn l D cy a t st hm 3 (by omega) (by omega) (p_nodup hpw (by omega) (by omega)) key) (va_cwS 3 hts gX3_listOf_X3_placeIn rfl rfl rfl (by decide +kernel) ⟨Nat.le_of_ble_eq_true rfl, Nat.le_of_ble_eq_true rfl⟩) hK hE hP [0] rfl [0] rfl rfl hl.1 rfl (Nat.le_of_ble_eq_true rfl) dX3_listOf_12 ⟨Nat.le_of_ble_eq_true rfl, Nat.le_of_ble_eq_true rfl⟩ ?_
            refine lv_iconst (v := (-1)) hx hb dX3_listOf_15 (by decide) ?_
            refine lv_icmp_ne (tgt := 23) hx hb dX3_listOf_16 (by decide) (fun c_38 => ?_) (fun c_38 => ?_)
            · skip
              have hi3 : key ∈ st.1 3 := by rcases Decidable.em (key ∈ st.1 3) with q9 | q9; exact q9; exact absurd ((m_idx (m_64 hm (i := 3) (by decide) (by decide))).mpr q9) c_38
              refine lv_iload_n hx hb dX3_listOf_23 rfl (lv_at hl 0 rfl) ?_
              refine lv_istore_n (lv' := [(2, .int 3), (3, .int 3), (0, .ref a), (1, .int key)]) hx hb dX3_listOf_24 rfl hl (by decide) rfl (fun ls hl => ?_)
              refine lv_iinc (v := 4) (lv' := [(3, .int 4), (2, .int 3), (0, .ref a), (1, .int key)]) hx hb dX3_listOf_25 hl (k := 1) rfl (by decide) (by decide) rfl (fun ls hl => ?_)
              refine lv_goto (tgt := 4) hx hb dX3_listOf_28 (by decide) ?_
              refine lv_iload_n hx hb dX3_listOf_4 rfl (lv_at hl 0 rfl) ?_
              refine lv_iconst (v := 4) hx hb dX3_listOf_5 (by decide) ?_
              refine lv_icmp_gt (tgt := 31) hx hb dX3_listOf_6 (by decide) (fun c_39 => ?_) (fun c_39 => ?_)
              · exact absurd c_39 (by decide)
              · skip
                refine lv_aload_n hx hb dX3_listOf_9 rfl (lv_at hl 2 rfl) ?_
                refine lv_iload_n hx hb dX3_listOf_10 rfl (lv_at hl 0 rfl) ?_
                refine lv_iload_n hx hb dX3_listOf_11 rfl (lv_at hl 3 rfl) ?_
                refine ki_cSR (As := [.ref a, .int 4, .int key]) (rest := []) ⟨hx, hb, hml, hown, hts⟩ (c_X3_placeIn l D cy a t st hm 4 (by omega) (by omega) (p_nodup hpw (by omega) (by omega)) key) (va_cwS 3 hts gX3_listOf_X3_placeIn rfl rfl rfl (by decide +kernel) ⟨Nat.le_of_ble_eq_true rfl, Nat.le_of_ble_eq_true rfl⟩) hK hE hP [0] rfl [0] rfl rfl hl.1 rfl (Nat.le_of_ble_eq_true rfl) dX3_listOf_12 ⟨Nat.le_of_ble_eq_true rfl, Nat.le_of_ble_eq_true rfl⟩ ?_
                refine lv_iconst (v := (-1)) hx hb dX3_listOf_15 (by decide) ?_
                refine lv_icmp_ne (tgt := 23) hx hb dX3_listOf_16 (by decide) (fun c_40 => ?_) (fun c_40 => ?_)
                · skip
                  have hi4 : key ∈ st.1 4 := by rcases Decidable.em (key ∈ st.1 4) with q9 | q9; exact q9; exact absurd ((m_idx (m_64 hm (i := 4) (by decide) (by decide))).mpr q9) c_40
                  refine lv_iload_n hx hb dX3_listOf_23 rfl (lv_at hl 0 rfl) ?_
                  refine lv_istore_n (lv' := [(2, .int 4), (3, .int 4), (0, .ref a), (1, .int key)]) hx hb dX3_listOf_24 rfl hl (by decide) rfl (fun ls hl => ?_)
                  refine lv_iinc (v := 5) (lv' := [(3, .int 5), (2, .int 4), (0, .ref a), (1, .int key)]) hx hb dX3_listOf_25 hl (k := 1) rfl (by decide) (by decide) rfl (fun ls hl => ?_)
                  refine lv_goto (tgt := 4) hx hb dX3_listOf_28 (by decide) ?_
                  refine lv_iload_n hx hb dX3_listOf_4 rfl (lv_at hl 0 rfl) ?_
                  refine lv_iconst (v := 4) hx hb dX3_listOf_5 (by decide) ?_
                  refine lv_icmp_gt (tgt := 31) hx hb dX3_listOf_6 (by decide) (fun c_41 => ?_) (fun c_41 => ?_)
                  rotate_left
                  · exact absurd (by decide) c_41
                  · skip
                    refine lv_iload_n hx hb dX3_listOf_31 rfl (lv_at hl 1 rfl) ?_
                    exact ki_rret hx hb hr hlk (by exact absurd (p_apart hpw (i := 3) (j := 4) (by decide) (by decide) (by decide) (by decide) hi3 hi4) (by decide)) dX3_listOf_32
                · skip
                  have hi4 : ¬ key ∈ st.1 4 := (m_idx (m_64 hm (i := 4) (by decide) (by decide))).mp c_40
                  refine lv_iload_n hx hb dX3_listOf_19 rfl (lv_at hl 1 rfl) ?_
                  refine lv_goto (tgt := 24) hx hb dX3_listOf_20 (by decide) ?_
                  refine lv_istore_n (lv' := [(2, .int 3), (3, .int 4), (0, .ref a), (1, .int key)]) hx hb dX3_listOf_24 rfl hl (by decide) rfl (fun ls hl => ?_)
                  refine lv_iinc (v := 5) (lv' := [(3, .int 5), (2, .int 3), (0, .ref a), (1, .int key)]) hx hb dX3_listOf_25 hl (k := 1) rfl (by decide) (by decide) rfl (fun ls hl => ?_)
                  refine lv_goto (tgt := 4) hx hb dX3_listOf_28 (by decide) ?_
                  refine lv_iload_n hx hb dX3_listOf_4 rfl (lv_at hl 0 rfl) ?_
                  refine lv_iconst (v := 4) hx hb dX3_listOf_5 (by decide) ?_
                  refine lv_icmp_gt (tgt := 31) hx hb dX3_listOf_6 (by decide) (fun c_42 => ?_) (fun c_42 => ?_)
                  rotate_left
                  · exact absurd (by decide) c_42
                  · skip
                    refine lv_iload_n hx hb dX3_listOf_31 rfl (lv_at hl 1 rfl) ?_
                    exact ki_rret hx hb hr hlk (by unfold c_list; rw [if_neg hi1, if_neg hi2, if_pos hi3]) dX3_listOf_32
            · skip
              have hi3 : ¬ key ∈ st.1 3 := (m_idx (m_64 hm (i := 3) (by decide) (by decide))).mp c_38
              refine lv_iload_n hx hb dX3_listOf_19 rfl (lv_at hl 1 rfl) ?_
              refine lv_goto (tgt := 24) hx hb dX3_listOf_20 (by decide) ?_
              refine lv_istore_n (lv' := [(2, .int 0), (3, .int 3), (0, .ref a), (1, .int key)]) hx hb dX3_listOf_24 rfl hl (by decide) rfl (fun ls hl => ?_)
              refine lv_iinc (v := 4) (lv' := [(3, .int 4), (2, .int 0), (0, .ref a), (1, .int key)]) hx hb dX3_listOf_25 hl (k := 1) rfl (by decide) (by decide) rfl (fun ls hl => ?_)
              refine lv_goto (tgt := 4) hx hb dX3_listOf_28 (by decide) ?_
              refine lv_iload_n hx hb dX3_listOf_4 rfl (lv_at hl 0 rfl) ?_
              refine lv_iconst (v := 4) hx hb dX3_listOf_5 (by decide) ?_
              refine lv_icmp_gt (tgt := 31) hx hb dX3_listOf_6 (by decide) (fun c_43 => ?_) (fun c_43 => ?_)
              · exact absurd c_43 (by decide)
              · skip
                refine lv_aload_n hx hb dX3_listOf_9 rfl (lv_at hl 2 rfl) ?_
                refine lv_iload_n hx hb dX3_listOf_10 rfl (lv_at hl 0 rfl) ?_
                refine lv_iload_n hx hb dX3_listOf_11 rfl (lv_at hl 3 rfl) ?_
                refine ki_cSR (As := [.ref a, .int 4, .int key]) (rest := []) ⟨hx, hb, hml, hown, hts⟩ (c_X3_placeIn l D cy a t st hm 4 (by omega) (by omega) (p_nodup hpw (by omega) (by omega)) key) (va_cwS 3 hts gX3_listOf_X3_placeIn rfl rfl rfl (by decide +kernel) ⟨Nat.le_of_ble_eq_true rfl, Nat.le_of_ble_eq_true rfl⟩) hK hE hP [0] rfl [0] rfl rfl hl.1 rfl (Nat.le_of_ble_eq_true rfl) dX3_listOf_12 ⟨Nat.le_of_ble_eq_true rfl, Nat.le_of_ble_eq_true rfl⟩ ?_
                refine lv_iconst (v := (-1)) hx hb dX3_listOf_15 (by decide) ?_
                refine lv_icmp_ne (tgt := 23) hx hb dX3_listOf_16 (by decide) (fun c_44 => ?_) (fun c_44 => ?_)
                · skip
                  have hi4 : key ∈ st.1 4 := by rcases Decidable.em (key ∈ st.1 4) with q9 | q9; exact q9; exact absurd ((m_idx (m_64 hm (i := 4) (by decide) (by decide))).mpr q9) c_44
                  refine lv_iload_n hx hb dX3_listOf_23 rfl (lv_at hl 0 rfl) ?_
                  refine lv_istore_n (lv' := [(2, .int 4), (3, .int 4), (0, .ref a), (1, .int key)]) hx hb dX3_listOf_24 rfl hl (by decide) rfl (fun ls hl => ?_)
                  refine lv_iinc (v := 5) (lv' := [(3, .int 5), (2, .int 4), (0, .ref a), (1, .int key)]) hx hb dX3_listOf_25 hl (k := 1) rfl (by decide) (by decide) rfl (fun ls hl => ?_)
                  refine lv_goto (tgt := 4) hx hb dX3_listOf_28 (by decide) ?_
                  refine lv_iload_n hx hb dX3_listOf_4 rfl (lv_at hl 0 rfl) ?_
                  refine lv_iconst (v := 4) hx hb dX3_listOf_5 (by decide) ?_
                  refine lv_icmp_gt (tgt := 31) hx hb dX3_listOf_6 (by decide) (fun c_45 => ?_) (fun c_45 => ?_)
                  rotate_left
                  · exact absurd (by decide) c_45
                  · skip
                    refine lv_iload_n hx hb dX3_listOf_31 rfl (lv_at hl 1 rfl) ?_
                    exact ki_rret hx hb hr hlk (by unfold c_list; rw [if_neg hi1, if_neg hi2, if_neg hi3, if_pos hi4]) dX3_listOf_32
                · skip
                  have hi4 : ¬ key ∈ st.1 4 := (m_idx (m_64 hm (i := 4) (by decide) (by decide))).mp c_44
                  refine lv_iload_n hx hb dX3_listOf_19 rfl (lv_at hl 1 rfl) ?_
                  refine lv_goto (tgt := 24) hx hb dX3_listOf_20 (by decide) ?_
                  refine lv_istore_n (lv' := [(2, .int 0), (3, .int 4), (0, .ref a), (1, .int key)]) hx hb dX3_listOf_24 rfl hl (by decide) rfl (fun ls hl => ?_)
                  refine lv_iinc (v := 5) (lv' := [(3, .int 5), (2, .int 0), (0, .ref a), (1, .int key)]) hx hb dX3_listOf_25 hl (k := 1) rfl (by decide) (by decide) rfl (fun ls hl => ?_)
                  refine lv_goto (tgt := 4) hx hb dX3_listOf_28 (by decide) ?_
                  refine lv_iload_n hx hb dX3_listOf_4 rfl (lv_at hl 0 rfl) ?_
                  refine lv_iconst (v := 4) hx hb dX3_listOf_5 (by decide) ?_
                  refine lv_icmp_gt (tgt := 31) hx hb dX3_listOf_6 (by decide) (fun c_46 => ?_) (fun c_46 => ?_)
                  rotate_left
                  · exact absurd (by decide) c_46
                  · skip
                    refine lv_iload_n hx hb dX3_listOf_31 rfl (lv_at hl 1 rfl) ?_
                    exact ki_rret hx hb hr hlk (by unfold c_list; rw [if_neg hi1, if_neg hi2, if_neg hi3, if_neg hi4]) dX3_listOf_32
set_option maxHeartbeats 4000000 in
set_option maxRecDepth 100000 in
theorem c_X3_joins (l : Launch) (D : va_G) (cy : ClassId) (a : Nat) (t : Nat → Int32) (st : ki_St) (hm : m_rep t st) (i : Nat) (h1 : 1 ≤ i) (h4 : i ≤ 4) (key : Int32) (hk : ¬ key = -1) (hl9 : (st.1 i).length < 64) : ki_V l yX3_joins wsX3_joins ({ frames := 1, cells := 0, slots := 0, locals := 21 }) 0 0 D [(cy, .int)] [.ref a, .int (nI i), .int key] [(a, .inl (cy, 366, .inl t))] (S := Nat → Int32) (fun t1 => m_rep t1 (va_up st.1 i (k_join (st.1 i) key), st.2)) (fun t1 => [(a, .inl (cy, 366, .inl t1))]) := by
  refine ki_ofV (cc := cX3_joins) (maxL := 3) (ret := none) (by decide +kernel) rfl (Nat.le_of_ble_eq_true rfl) ?_
  intro p e s m args below meth c A ls hin hx hb hr hts hown hlk hml hK hE hP hD hA hS hl
  have hown : s.vm.findClass RX3 = some m.cls := hown
  have hl : lv_has ls 3 [(0, .ref a), (1, .int (nI i)), (2, .int key)] := hl
  refine lv_aload_n hx hb dX3_joins_0 rfl (lv_at hl 0 rfl) ?_
  refine lv_iload_n hx hb dX3_joins_1 rfl (lv_at hl 1 rfl) ?_
  refine lv_aload_n hx hb dX3_joins_2 rfl (lv_at hl 0 rfl) ?_
  refine lv_iload_n hx hb dX3_joins_3 rfl (lv_at hl 1 rfl) ?_
  refine va_iald hx hb hK hP 0 0 rfl rfl (vp_in_nI (by omega) (by decide)) dX3_joins_4 ?_
  rw [show (t (Int32.toNatClampNeg (nI i)) : Int32) = nI (st.1 i).length from by rw [nI_clamp (by omega)]; exact m_l hm h1 h4]
  refine ki_cSR (As := [.int (nI i), .int (nI (st.1 i).length)]) (rest := [.ref a]) ⟨hx, hb, hml, hown, hts⟩ (c_X3_at l D (nI i) (nI (st.1 i).length)) (va_cwS 2 hts gX3_joins_X3_at rfl rfl rfl (by decide +kernel) ⟨Nat.le_of_ble_eq_true rfl, Nat.le_of_ble_eq_true rfl⟩) hK hE hP [] rfl [] rfl rfl hl.1 rfl (Nat.le_of_ble_eq_true rfl) dX3_joins_5 ⟨Nat.le_of_ble_eq_true rfl, Nat.le_of_ble_eq_true rfl⟩ ?_
  rw [show (16 + 70 * (nI i) + (nI (st.1 i).length) : Int32) = nI (16 + 70 * i + ((st.1 i).length)) from m_at i ((st.1 i).length)]
  refine lv_iload_n hx hb dX3_joins_8 rfl (lv_at hl 2 rfl) ?_
  refine va_iast hx hb hK hP hD hS 0 0 rfl rfl (vp_in_nI (by omega) (by decide)) dX3_joins_9 (fun H locs hP hD hS => ?_)
  have hP : va_P D vwCl [(a, .inl (cy, 366, .inl (upd t (Int32.toNatClampNeg (nI (16 + 70 * i + ((st.1 i).length)))) key)))] H := hP
  have hD : va_D A [(a, .inl (cy, 366, .inl (upd t (Int32.toNatClampNeg (nI (16 + 70 * i + ((st.1 i).length)))) key)))] := hD
  refine lv_aload_n hx hb dX3_joins_10 rfl (lv_at hl 0 rfl) ?_
  refine lv_iload_n hx hb dX3_joins_11 rfl (lv_at hl 1 rfl) ?_
  refine lv_dup2_11 hx hb dX3_joins_12 rfl rfl ?_
  refine va_iald hx hb hK hP 0 0 rfl rfl (vp_in_nI (by omega) (by decide)) dX3_joins_13 ?_
  rw [show ((upd t (Int32.toNatClampNeg (nI (16 + 70 * i + ((st.1 i).length)))) key) (Int32.toNatClampNeg (nI i)) : Int32) = nI (st.1 i).length from by unfold upd; rw [nI_clamp (by omega), nI_clamp (by omega), if_neg (by omega)]; exact m_l hm h1 h4]
  refine lv_iconst (v := 1) hx hb dX3_joins_14 (by decide) ?_
  refine lv_iadd hx hb dX3_joins_15 ?_
  rw [show ((nI (st.1 i).length) + 1 : Int32) = nI ((st.1 i).length + 1) from nI_1 _]
  refine va_iast hx hb hK hP hD hS 0 0 rfl rfl (vp_in_nI (by omega) (by decide)) dX3_joins_16 (fun H locs hP hD hS => ?_)
  have hP : va_P D vwCl [(a, .inl (cy, 366, .inl (upd (upd t (Int32.toNatClampNeg (nI (16 + 70 * i + ((st.1 i).length)))) key) (Int32.toNatClampNeg (nI i)) (nI ((st.1 i).length + 1)))))] H := hP
  have hD : va_D A [(a, .inl (cy, 366, .inl (upd (upd t (Int32.toNatClampNeg (nI (16 + 70 * i + ((st.1 i).length)))) key) (Int32.toNatClampNeg (nI i)) (nI ((st.1 i).length + 1)))))] := hD
  have hT : ∀ x, (upd (upd t (Int32.toNatClampNeg (nI (16 + 70 * i + ((st.1 i).length)))) key) (Int32.toNatClampNeg (nI i)) (nI ((st.1 i).length + 1))) x = if x = i then nI ((st.1 i).length + 1) else if x = 16 + 70 * i + (st.1 i).length then key else t x := fun x => by unfold upd; rw [nI_clamp (by omega), nI_clamp (by omega)]
  exact ki_vret hx hb hr hlk hK hS (upd (upd t (Int32.toNatClampNeg (nI (16 + 70 * i + ((st.1 i).length)))) key) (Int32.toNatClampNeg (nI i)) (nI ((st.1 i).length + 1))) (m_join hm h1 h4 hk hl9 hT) hP hD dX3_joins_17
set_option maxHeartbeats 4000000 in
set_option maxRecDepth 100000 in
theorem c_X3_leaves (l : Launch) (D : va_G) (cy : ClassId) (a : Nat) (t : Nat → Int32) (st : ki_St) (hm : m_rep t st) (i : Nat) (h1 : 1 ≤ i) (h4 : i ≤ 4) (p0 : Nat) (hp0 : p0 < (st.1 i).length) : ki_I l yX3_leaves wsX3_leaves ({ frames := 1, cells := 0, slots := 0, locals := 21 }) 0 0 D [(cy, .int)] [.ref a, .int (nI i), .int (nI p0)] [(a, .inl (cy, 366, .inl t))] (S := Nat → Int32) (fun r t1 => r = k_at (st.1 i) (nI p0) ∧ m_rep t1 (va_up st.1 i (k_gap (st.1 i) (nI p0)), st.2)) (fun t1 => [(a, .inl (cy, 366, .inl t1))]) := by
  refine ki_ofI (cc := cX3_leaves) (maxL := 5) (ret := (some .int)) (by decide +kernel) rfl (Nat.le_of_ble_eq_true rfl) ?_
  intro p e s m args below meth c A ls hx hb hr hts hown hlk hml hK hE hP hD hA hS hl
  have hown : s.vm.findClass RX3 = some m.cls := hown
  have hl : lv_has ls 5 [(0, .ref a), (1, .int (nI i)), (2, .int (nI p0))] := hl
  have hLb := m_64 hm h1 h4
  refine lv_aload_n hx hb dX3_leaves_0 rfl (lv_at hl 0 rfl) ?_
  refine lv_iload_n hx hb dX3_leaves_1 rfl (lv_at hl 1 rfl) ?_
  refine lv_iload_n hx hb dX3_leaves_2 rfl (lv_at hl 2 rfl) ?_
  refine ki_cSR (As := [.int (nI i), .int (nI p0)]) (rest := [.ref a]) ⟨hx, hb, hml, hown, hts⟩ (c_X3_at l D (nI i) (nI p0)) (va_cwS 2 hts gX3_leaves_X3_at rfl rfl rfl (by decide +kernel) ⟨Nat.le_of_ble_eq_true rfl, Nat.le_of_ble_eq_true rfl⟩) hK hE hP [] rfl [] rfl rfl hl.1 rfl (Nat.le_of_ble_eq_true rfl) dX3_leaves_3 ⟨Nat.le_of_ble_eq_true rfl, Nat.le_of_ble_eq_true rfl⟩ ?_
  rw [show (16 + 70 * (nI i) + (nI p0) : Int32) = nI (16 + 70 * i + p0) from m_at i p0]
  refine va_iald hx hb hK hP 0 0 rfl rfl (vp_in_nI (by omega) (by decide)) dX3_leaves_6 ?_
  rw [show (t (Int32.toNatClampNeg (nI (16 + 70 * i + p0))) : Int32) = k_at (st.1 i) (nI p0) from by rw [nI_clamp (by omega)]; exact (k_at_nI hLb (m_j hm h1 h4 hp0)).symm]
  refine lv_istore_n (lv' := [(3, .int (k_at (st.1 i) (nI p0))), (0, .ref a), (1, .int (nI i)), (2, .int (nI p0))]) hx hb dX3_leaves_7 rfl hl (by decide) rfl (fun ls hl => ?_)
  refine lv_aload_n hx hb dX3_leaves_8 rfl (lv_at hl 1 rfl) ?_
  refine lv_iload_n hx hb dX3_leaves_9 rfl (lv_at hl 2 rfl) ?_
  refine lv_dup2_11 hx hb dX3_leaves_10 rfl rfl ?_
  refine va_iald hx hb hK hP 0 0 rfl rfl (vp_in_nI (by omega) (by decide)) dX3_leaves_11 ?_
  rw [show (t (Int32.toNatClampNeg (nI i)) : Int32) = nI (st.1 i).length from by rw [nI_clamp (by omega)]; exact m_l hm h1 h4]
  refine lv_iconst (v := 1) hx hb dX3_leaves_12 (by decide) ?_
  refine lv_isub hx hb dX3_leaves_13 ?_
  rw [show ((nI (st.1 i).length) - 1 : Int32) = nI ((st.1 i).length - 1) from pk_sub (b := 1) (by omega)]
  refine va_iast hx hb hK hP hD hS 0 0 rfl rfl (vp_in_nI (by omega) (by decide)) dX3_leaves_14 (fun H locs hP hD hS => ?_)
  have hP : va_P D vwCl [(a, .inl (cy, 366, .inl (upd t (Int32.toNatClampNeg (nI i)) (nI ((st.1 i).length - 1)))))] H := hP
  have hD : va_D A [(a, .inl (cy, 366, .inl (upd t (Int32.toNatClampNeg (nI i)) (nI ((st.1 i).length - 1)))))] := hD
  refine lv_iload_n hx hb dX3_leaves_15 rfl (lv_at hl 3 rfl) ?_
  refine lv_istore (lv' := [(4, .int (nI p0)), (3, .int (k_at (st.1 i) (nI p0))), (0, .ref a), (1, .int (nI i)), (2, .int (nI p0))]) hx hb dX3_leaves_16 hl (by decide) rfl (fun ls hl => ?_)
  have lp : ∀ (n k : Nat) (t2 : Nat → Int32) (H : Heap) (locs : List Loc) (ls : Array Slot), (st.1 i).length - k < n → p0 ≤ k → k < (st.1 i).length → (∀ x, t2 x = if x = i then nI ((st.1 i).length - 1) else if 16 + 70 * i + p0 ≤ x ∧ x < 16 + 70 * i + k then t (x + 1) else t x) → va_P D vwCl [(a, .inl (cy, 366, .inl t2))] H → va_D A [(a, .inl (cy, 366, .inl t2))] → va_S A s.heap H locs → lv_has ls 5 [(4, .int (nI k)), (3, .int (k_at (st.1 i) (nI p0))), (0, .ref a), (1, .int (nI i)), (2, .int (nI p0))] → W p l e ({ frames := 1, cells := 0, slots := 0, locals := 21 }) s m args below meth c H locs 0 0 (MQ below (va_Qi (fun r t1 => r = k_at (st.1 i) (nI p0) ∧ m_rep t1 (va_up st.1 i (k_gap (st.1 i) (nI p0)), st.2)) (ki_B D [(cy, .int)] A (fun t1 => [(a, .inl (cy, 366, .inl t1))])) A) args s 0 0 A) (F0 m 18 ls []) := by
    intro n
    induction n with
    | zero => intro k t2 H locs ls h; omega
    | succ n ih =>
      intro k t2 H locs ls hm9 hpk hkl ht2 hP hD hS hl
      refine lv_iload hx hb dX3_leaves_18 (lv_at hl 0 rfl) ?_
      refine lv_aload_n hx hb dX3_leaves_20 rfl (lv_at hl 2 rfl) ?_
      refine lv_iload_n hx hb dX3_leaves_21 rfl (lv_at hl 3 rfl) ?_
      refine va_iald hx hb hK hP 0 0 rfl rfl (vp_in_nI (by omega) (by decide)) dX3_leaves_22 ?_
      rw [show (t2 (Int32.toNatClampNeg (nI i)) : Int32) = nI ((st.1 i).length - 1) from by rw [nI_clamp (by omega), ht2, if_pos rfl]]
      refine lv_icmp_ge (tgt := 50) hx hb dX3_leaves_23 (by decide) (fun c_1 => ?_) (fun c_1 => ?_)
      · skip
        refine lv_iload_n hx hb dX3_leaves_50 rfl (lv_at hl 1 rfl) ?_
        have hke : k = (st.1 i).length - 1 := by rcases Nat.lt_or_ge k ((st.1 i).length - 1) with q9 | q9; exact absurd c_1 (nI_ge q9 (by omega)); omega
        exact ki_iret hx hb hr hlk hK hS t2 ⟨rfl, m_leave hm h1 h4 hp0 (by rw [← hke]; rw [← hke] at ht2; exact ht2)⟩ hP hD dX3_leaves_51
      · skip
        have hkl2 : k < (st.1 i).length - 1 := by rcases Nat.lt_or_ge k ((st.1 i).length - 1) with q9 | q9; exact q9; exact absurd (nI_le q9 (by omega)) c_1
        refine lv_aload_n hx hb dX3_leaves_26 rfl (lv_at hl 2 rfl) ?_
        refine lv_iload_n hx hb dX3_leaves_27 rfl (lv_at hl 3 rfl) ?_
        refine lv_iload hx hb dX3_leaves_28 (lv_at hl 0 rfl) ?_
        refine ki_cSR (As := [.int (nI i), .int (nI k)]) (rest := [.ref a]) ⟨hx, hb, hml, hown, hts⟩ (c_X3_at l D (nI i) (nI k)) (va_cwS 2 hts gX3_leaves_X3_at rfl rfl rfl (by decide +kernel) ⟨Nat.le_of_ble_eq_true rfl, Nat.le_of_ble_eq_true rfl⟩) hK hE hP [] rfl [] rfl rfl hl.1 rfl (Nat.le_of_ble_eq_true rfl) dX3_leaves_30 ⟨Nat.le_of_ble_eq_true rfl, Nat.le_of_ble_eq_true rfl⟩ ?_
        rw [show (16 + 70 * (nI i) + (nI k) : Int32) = nI (16 + 70 * i + k) from m_at i k]
        refine lv_aload_n hx hb dX3_leaves_33 rfl (lv_at hl 2 rfl) ?_
        refine lv_iload_n hx hb dX3_leaves_34 rfl (lv_at hl 3 rfl) ?_
        refine lv_iload hx hb dX3_leaves_35 (lv_at hl 0 rfl) ?_
        refine lv_iconst (v := 1) hx hb dX3_leaves_37 (by decide) ?_
        refine lv_iadd hx hb dX3_leaves_38 ?_
        rw [show ((nI k) + 1 : Int32) = nI (k + 1) from nI_1 k]
        refine ki_cSR (As := [.int (nI i), .int (nI (k + 1))]) (rest := [.ref a, .int (nI (16 + 70 * i + k)), .ref a]) ⟨hx, hb, hml, hown, hts⟩ (c_X3_at l D (nI i) (nI (k + 1))) (va_cwS 2 hts gX3_leaves_X3_at rfl rfl rfl (by decide +kernel) ⟨Nat.le_of_ble_eq_true rfl, Nat.le_of_ble_eq_true rfl⟩) hK hE hP [] rfl [] rfl rfl hl.1 rfl (Nat.le_of_ble_eq_true rfl) dX3_leaves_39 ⟨Nat.le_of_ble_eq_true rfl, Nat.le_of_ble_eq_true rfl⟩ ?_
        rw [show (16 + 70 * (nI i) + (nI (k + 1)) : Int32) = nI (16 + 70 * i + (k + 1)) from m_at i (k + 1)]
        refine va_iald hx hb hK hP 0 0 rfl rfl (vp_in_nI (by omega) (by decide)) dX3_leaves_42 ?_
        rw [show (t2 (Int32.toNatClampNeg (nI (16 + 70 * i + (k + 1)))) : Int32) = t (16 + 70 * i + (k + 1)) from by rw [nI_clamp (by omega), ht2, if_neg (by omega), if_neg (by omega)]]
        refine va_iast hx hb hK hP hD hS 0 0 rfl rfl (vp_in_nI (by omega) (by decide)) dX3_leaves_43 (fun H locs hP hD hS => ?_)
        obtain ⟨t3, et3⟩ : ∃ z : Nat → Int32, z = upd t2 (Int32.toNatClampNeg (nI (16 + 70 * i + k))) (t (16 + 70 * i + (k + 1))) := ⟨_, rfl⟩
        rw [← et3] at hP hD
        have ht3 : ∀ x, t3 x = if x = i then nI ((st.1 i).length - 1) else if 16 + 70 * i + p0 ≤ x ∧ x < 16 + 70 * i + (k + 1) then t (x + 1) else t x := fun x => by
          rw [et3]; unfold upd; rw [nI_clamp (by omega)]
          by_cases q9 : x = 16 + 70 * i + k
          · rw [if_pos q9, if_neg (by omega), if_pos (by omega), q9]; rfl
          · rw [if_neg q9, ht2]
            by_cases q8 : x = i
            · rw [if_pos q8, if_pos q8]
            · rw [if_neg q8, if_neg q8]
              by_cases q7 : 16 + 70 * i + p0 ≤ x ∧ x < 16 + 70 * i + k
              · rw [if_pos q7, if_pos (by omega)]
              · rw [if_neg q7, if_neg (by omega)]
        have hP : va_P D vwCl [(a, .inl (cy, 366, .inl t3))] H := hP
        have hD : va_D A [(a, .inl (cy, 366, .inl t3))] := hD
        refine lv_iinc (v := nI (k + 1)) (lv' := [(4, .int (nI (k + 1))), (3, .int (k_at (st.1 i) (nI p0))), (0, .ref a), (1, .int (nI i)), (2, .int (nI p0))]) hx hb dX3_leaves_44 hl (k := 0) rfl (nI_1 k) (by decide) rfl (fun ls hl => ?_)
        refine lv_goto (tgt := 18) hx hb dX3_leaves_47 (by decide) ?_
        exact ih (k + 1) t3 H locs ls (by omega) (by omega) (by omega) ht3 hP hD hS (lv_sub hl [0, 1, 2, 3, 4] rfl)
  exact lp ((st.1 i).length + 1) p0 _ H locs ls (by omega) (Nat.le_refl _) hp0 (fun x => by unfold upd; rw [nI_clamp (by omega)]; by_cases q9 : x = i; rw [if_pos q9, if_pos q9]; rw [if_neg q9, if_neg q9, if_neg (by omega)]) hP hD hS (lv_sub hl [0, 1, 2, 3, 4] rfl)
