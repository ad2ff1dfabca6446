/-! ===== KeyList ===== -/
set_option maxHeartbeats 4000000 in
set_option maxRecDepth 100000 in
theorem c_X1_length (l : Launch) (D : va_G) (h k : Nat) (n : Int32) : ki_R l yX1_length wsX1_length ({ frames := 0, cells := 0, slots := 0, locals := 0 }) D [] [.ref h] [(h, .inr (1, [.ref k, .int n]))] n := by
  refine ki_ofR (cc := cX1_length) (maxL := 1) (ret := (some .int)) (by decide +kernel) rfl (Nat.le_of_ble_eq_true rfl) ?_
  intro p e s m args below meth c ls hx hb hr hts hown hlk hml hK hE hP hl
  have hown : s.vm.findClass RX1 = some m.cls := hown
  have hl : lv_has ls 1 [(0, .ref h)] := hl
  have hiX1 : ∀ w ∈ u_ws RX1 TX1 2, w ∈ wsX1_length := by decide +kernel
  refine lv_aload_n hx hb dX1_length_0 rfl (lv_at hl 0 rfl) ?_
  refine va_get (D := D) (ci := 1) (v := .int n) (C := RX1) (T := TX1) (N := 2) hx hb hts hiX1 hown hK hP 0 rfl rfl 1 (by decide) (hts (.fieldLink RX1 15 "AdaptiveReplacementCache$KeyList" "length" "I") (by decide +kernel)) (fun _ h9 => h9) rfl dX1_length_1 ?_
  exact ki_rret hx hb hr hlk (by rfl) dX1_length_4
set_option maxHeartbeats 4000000 in
set_option maxRecDepth 100000 in
theorem c_X1_empty (l : Launch) (D : va_G) (cy : ClassId) (h k : Nat) (L : List Int32) (f : Nat → Int32) (hr0 : ki_rep f L) : ki_V l yX1_empty wsX1_empty ({ frames := 0, cells := 0, slots := 0, locals := 0 }) 0 0 D [(cy, .int)] [.ref h] [(h, .inr (1, [.ref k, .int (nI L.length)])), (k, .inl (cy, 64, .inl f))] (S := Nat → Int32) (fun f1 => ki_rep f1 []) (fun f1 => [(h, .inr (1, [.ref k, .int (nI ([] : List Int32).length)])), (k, .inl (cy, 64, .inl f1))]) := by
  refine ki_ofV (cc := cX1_empty) (maxL := 1) (ret := none) (by decide +kernel) rfl (Nat.le_of_ble_eq_true rfl) ?_
  intro p e s m args below meth c A ls hin hx hb hr hts hown hlk hml hK hE hP hD hA hS hl
  have hown : s.vm.findClass RX1 = some m.cls := hown
  have hl : lv_has ls 1 [(0, .ref h)] := hl
  have hiX1 : ∀ w ∈ u_ws RX1 TX1 2, w ∈ wsX1_empty := by decide +kernel
  refine lv_aload_n hx hb dX1_empty_0 rfl (lv_at hl 0 rfl) ?_
  refine lv_iconst (v := 0) hx hb dX1_empty_1 (by decide) ?_
  refine va_put (D := D) (ci := 1) (v := .int 0) (ty := .int) (C := RX1) (T := TX1) (N := 2) hx hb hts hiX1 tyX1 tyX1_ok nmX1 hown hK hP hD hS 0 rfl rfl 1 (by decide) (hts (.fieldLink RX1 15 "AdaptiveReplacementCache$KeyList" "length" "I") (by decide +kernel)) (fun _ h9 => h9) rfl (by decide +kernel) rfl rfl (Nat.le_of_ble_eq_true rfl) dX1_empty_2 (fun H locs hP hD hS => ?_)
  have hP : va_P D vwCl [(h, .inr (1, [.ref k, .int 0])), (k, .inl (cy, 64, .inl f))] H := hP
  have hD : va_D A [(h, .inr (1, [.ref k, .int 0])), (k, .inl (cy, 64, .inl f))] := hD
  exact ki_vret hx hb hr hlk hK hS f ⟨Nat.zero_le _, fun j hj => absurd hj (Nat.not_lt_zero j)⟩ hP hD dX1_empty_5
set_option maxHeartbeats 4000000 in
set_option maxRecDepth 100000 in
theorem c_X1_join (l : Launch) (D : va_G) (cy : ClassId) (h k : Nat) (L : List Int32) (f : Nat → Int32) (hr0 : ki_rep f L) (key : Int32) : ki_V l yX1_join wsX1_join ({ frames := 0, cells := 0, slots := 0, locals := 0 }) 0 0 D [(cy, .int)] [.ref h, .int key] [(h, .inr (1, [.ref k, .int (nI L.length)])), (k, .inl (cy, 64, .inl f))] (S := Nat → Int32) (fun f1 => ki_rep f1 (k_join L key)) (fun f1 => [(h, .inr (1, [.ref k, .int (nI (k_join L key).length)])), (k, .inl (cy, 64, .inl f1))]) := by
  refine ki_ofV (cc := cX1_join) (maxL := 2) (ret := none) (by decide +kernel) rfl (Nat.le_of_ble_eq_true rfl) ?_
  intro p e s m args below meth c A ls hin hx hb hr hts hown hlk hml hK hE hP hD hA hS hl
  have hown : s.vm.findClass RX1 = some m.cls := hown
  have hl : lv_has ls 2 [(0, .ref h), (1, .int key)] := hl
  have hiX1 : ∀ w ∈ u_ws RX1 TX1 2, w ∈ wsX1_join := by decide +kernel
  refine lv_iload_n hx hb dX1_join_0 rfl (lv_at hl 1 rfl) ?_
  refine lv_iconst (v := (-1)) hx hb dX1_join_1 (by decide) ?_
  refine lv_icmp_eq (tgt := 37) hx hb dX1_join_2 (by decide) (fun c_1 => ?_) (fun c_1 => ?_)
  · skip
    have e9 : k_join L key = L := by simp only [k_join, c_1, ↓reduceIte]
    exact ki_vret hx hb hr hlk hK hS f (by rw [e9]; exact hr0) (by rw [e9]; exact hP) (by rw [e9]; exact hD) dX1_join_37
  · skip
    refine lv_aload_n hx hb dX1_join_5 rfl (lv_at hl 0 rfl) ?_
    refine va_get (D := D) (ci := 1) (v := .int (nI L.length)) (C := RX1) (T := TX1) (N := 2) hx hb hts hiX1 hown hK hP 0 rfl rfl 1 (by decide) (hts (.fieldLink RX1 15 "AdaptiveReplacementCache$KeyList" "length" "I") (by decide +kernel)) (fun _ h9 => h9) rfl dX1_join_6 ?_
    refine lv_aload_n hx hb dX1_join_9 rfl (lv_at hl 0 rfl) ?_
    refine va_get (D := D) (ci := 1) (v := .ref k) (C := RX1) (T := TX1) (N := 2) hx hb hts hiX1 hown hK hP 0 rfl rfl 0 (by decide) (hts (.fieldLink RX1 9 "AdaptiveReplacementCache$KeyList" "keys" "[I") (by decide +kernel)) (fun _ h9 => h9) rfl dX1_join_10 ?_
    refine va_alen hx hb hK hP 1 0 rfl rfl (v := nI 64) rfl dX1_join_13 ?_
    refine lv_icmp_ge (tgt := 37) hx hb dX1_join_14 (by decide) (fun c_2 => ?_) (fun c_2 => ?_)
    · skip
      have e9 : k_join L key = L := by simp only [k_join, c_1, c_2, ↓reduceIte]
      exact ki_vret hx hb hr hlk hK hS f (by rw [e9]; exact hr0) (by rw [e9]; exact hP) (by rw [e9]; exact hD) dX1_join_37
    · skip
      refine lv_aload_n hx hb dX1_join_17 rfl (lv_at hl 0 rfl) ?_
      refine va_get (D := D) (ci := 1) (v := .ref k) (C := RX1) (T := TX1) (N := 2) hx hb hts hiX1 hown hK hP 0 rfl rfl 0 (by decide) (hts (.fieldLink RX1 9 "AdaptiveReplacementCache$KeyList" "keys" "[I") (by decide +kernel)) (fun _ h9 => h9) rfl dX1_join_18 ?_
      refine lv_aload_n hx hb dX1_join_21 rfl (lv_at hl 0 rfl) ?_
      refine va_get (D := D) (ci := 1) (v := .int (nI L.length)) (C := RX1) (T := TX1) (N := 2) hx hb hts hiX1 hown hK hP 0 rfl rfl 1 (by decide) (hts (.fieldLink RX1 15 "AdaptiveReplacementCache$KeyList" "length" "I") (by decide +kernel)) (fun _ h9 => h9) rfl dX1_join_22 ?_
      refine lv_iload_n hx hb dX1_join_25 rfl (lv_at hl 1 rfl) ?_
      refine va_iast hx hb hK hP hD hS 1 0 rfl rfl (vp_in_nI (k_len64 hr0 c_2) (by decide)) dX1_join_26 (fun H locs hP hD hS => ?_)
      have hP : va_P D vwCl [(h, .inr (1, [.ref k, .int (nI L.length)])), (k, .inl (cy, 64, .inl (upd f (Int32.toNatClampNeg (nI L.length)) key)))] H := hP
      have hD : va_D A [(h, .inr (1, [.ref k, .int (nI L.length)])), (k, .inl (cy, 64, .inl (upd f (Int32.toNatClampNeg (nI L.length)) key)))] := hD
      refine lv_aload_n hx hb dX1_join_27 rfl (lv_at hl 0 rfl) ?_
      refine lv_dup hx hb dX1_join_28 rfl ?_
      refine va_get (D := D) (ci := 1) (v := .int (nI L.length)) (C := RX1) (T := TX1) (N := 2) hx hb hts hiX1 hown hK hP 0 rfl rfl 1 (by decide) (hts (.fieldLink RX1 15 "AdaptiveReplacementCache$KeyList" "length" "I") (by decide +kernel)) (fun _ h9 => h9) rfl dX1_join_29 ?_
      refine lv_iconst (v := 1) hx hb dX1_join_32 (by decide) ?_
      refine lv_iadd hx hb dX1_join_33 ?_
      rw [show ((nI L.length) + 1 : Int32) = nI (k_join L key).length from k_join_n c_1 c_2]
      refine va_put (D := D) (ci := 1) (v := .int (nI (k_join L key).length)) (ty := .int) (C := RX1) (T := TX1) (N := 2) hx hb hts hiX1 tyX1 tyX1_ok nmX1 hown hK hP hD hS 0 rfl rfl 1 (by decide) (hts (.fieldLink RX1 15 "AdaptiveReplacementCache$KeyList" "length" "I") (by decide +kernel)) (fun _ h9 => h9) rfl (by decide +kernel) rfl rfl (Nat.le_of_ble_eq_true rfl) dX1_join_34 (fun H locs hP hD hS => ?_)
      have hP : va_P D vwCl [(h, .inr (1, [.ref k, .int (nI (k_join L key).length)])), (k, .inl (cy, 64, .inl (upd f (Int32.toNatClampNeg (nI L.length)) key)))] H := hP
      have hD : va_D A [(h, .inr (1, [.ref k, .int (nI (k_join L key).length)])), (k, .inl (cy, 64, .inl (upd f (Int32.toNatClampNeg (nI L.length)) key)))] := hD
      exact ki_vret hx hb hr hlk hK hS (upd f (Int32.toNatClampNeg (nI L.length)) key) (k_join_rep hr0 c_1 c_2) hP hD dX1_join_37
set_option maxHeartbeats 4000000 in
set_option maxRecDepth 100000 in
theorem c_X1_fromOldest (l : Launch) (D : va_G) (cy : ClassId) (h k : Nat) (L : List Int32) (f : Nat → Int32) (hr0 : ki_rep f L) (i : Int32) : ki_R l yX1_fromOldest wsX1_fromOldest ({ frames := 0, cells := 0, slots := 0, locals := 0 }) D [(cy, .int)] [.ref h, .int i] [(h, .inr (1, [.ref k, .int (nI L.length)])), (k, .inl (cy, 64, .inl f))] (k_at L i) := by
  refine ki_ofR (cc := cX1_fromOldest) (maxL := 2) (ret := (some .int)) (by decide +kernel) rfl (Nat.le_of_ble_eq_true rfl) ?_
  intro p e s m args below meth c ls hx hb hr hts hown hlk hml hK hE hP hl
  have hown : s.vm.findClass RX1 = some m.cls := hown
  have hl : lv_has ls 2 [(0, .ref h), (1, .int i)] := hl
  have hiX1 : ∀ w ∈ u_ws RX1 TX1 2, w ∈ wsX1_fromOldest := by decide +kernel
  refine lv_iload_n hx hb dX1_fromOldest_0 rfl (lv_at hl 1 rfl) ?_
  refine lv_if_lt (tgt := 30) hx hb dX1_fromOldest_1 (by decide) (fun c_1 => ?_) (fun c_1 => ?_)
  · skip
    refine lv_iconst (v := (-1)) hx hb dX1_fromOldest_30 (by decide) ?_
    exact ki_rret hx hb hr hlk (by first | rfl | (simp only [k_at, c_1, ↓reduceIte]; done)) dX1_fromOldest_31
  · skip
    refine lv_iload_n hx hb dX1_fromOldest_4 rfl (lv_at hl 1 rfl) ?_
    refine lv_aload_n hx hb dX1_fromOldest_5 rfl (lv_at hl 0 rfl) ?_
    refine va_get (D := D) (ci := 1) (v := .int (nI L.length)) (C := RX1) (T := TX1) (N := 2) hx hb hts hiX1 hown hK hP 0 rfl rfl 1 (by decide) (hts (.fieldLink RX1 15 "AdaptiveReplacementCache$KeyList" "length" "I") (by decide +kernel)) (fun _ h9 => h9) rfl dX1_fromOldest_6 ?_
    refine lv_icmp_ge (tgt := 30) hx hb dX1_fromOldest_9 (by decide) (fun c_2 => ?_) (fun c_2 => ?_)
    · skip
      refine lv_iconst (v := (-1)) hx hb dX1_fromOldest_30 (by decide) ?_
      exact ki_rret hx hb hr hlk (by first | rfl | (simp only [k_at, c_1, c_2, ↓reduceIte]; done)) dX1_fromOldest_31
    · skip
      refine lv_iload_n hx hb dX1_fromOldest_12 rfl (lv_at hl 1 rfl) ?_
      refine lv_aload_n hx hb dX1_fromOldest_13 rfl (lv_at hl 0 rfl) ?_
      refine va_get (D := D) (ci := 1) (v := .ref k) (C := RX1) (T := TX1) (N := 2) hx hb hts hiX1 hown hK hP 0 rfl rfl 0 (by decide) (hts (.fieldLink RX1 9 "AdaptiveReplacementCache$KeyList" "keys" "[I") (by decide +kernel)) (fun _ h9 => h9) rfl dX1_fromOldest_14 ?_
      refine va_alen hx hb hK hP 1 0 rfl rfl (v := nI 64) rfl dX1_fromOldest_17 ?_
      refine lv_icmp_ge (tgt := 30) hx hb dX1_fromOldest_18 (by decide) (fun c_3 => ?_) (fun c_3 => ?_)
      · skip
        exact absurd c_3 (k_at_lt hr0 c_1 c_2)
      · skip
        refine lv_aload_n hx hb dX1_fromOldest_21 rfl (lv_at hl 0 rfl) ?_
        refine va_get (D := D) (ci := 1) (v := .ref k) (C := RX1) (T := TX1) (N := 2) hx hb hts hiX1 hown hK hP 0 rfl rfl 0 (by decide) (hts (.fieldLink RX1 9 "AdaptiveReplacementCache$KeyList" "keys" "[I") (by decide +kernel)) (fun _ h9 => h9) rfl dX1_fromOldest_22 ?_
        refine lv_iload_n hx hb dX1_fromOldest_25 rfl (lv_at hl 1 rfl) ?_
        refine va_iald hx hb hK hP 1 0 rfl rfl (k_at_in hr0 c_1 c_2) dX1_fromOldest_26 ?_
        rw [show (f (Int32.toNatClampNeg i) : Int32) = k_at L i from k_at_v hr0 c_1 c_2]
        refine lv_goto (tgt := 31) hx hb dX1_fromOldest_27 (by decide) ?_
        exact ki_rret hx hb hr hlk (by first | rfl | (simp only [k_at, c_1, c_2, c_3, ↓reduceIte]; done)) dX1_fromOldest_31
set_option maxHeartbeats 4000000 in
set_option maxRecDepth 100000 in
theorem c_X1_oldest (l : Launch) (D : va_G) (cy : ClassId) (h k : Nat) (L : List Int32) (f : Nat → Int32) (hr0 : ki_rep f L) : ki_R l yX1_oldest wsX1_oldest ({ frames := 1, cells := 0, slots := 0, locals := 21 }) D [(cy, .int)] [.ref h] [(h, .inr (1, [.ref k, .int (nI L.length)])), (k, .inl (cy, 64, .inl f))] (k_at L 0) := by
  refine ki_ofR (cc := cX1_oldest) (maxL := 1) (ret := (some .int)) (by decide +kernel) rfl (Nat.le_of_ble_eq_true rfl) ?_
  intro p e s m args below meth c ls hx hb hr hts hown hlk hml hK hE hP hl
  have hown : s.vm.findClass RX1 = some m.cls := hown
  have hl : lv_has ls 1 [(0, .ref h)] := hl
  refine lv_aload_n hx hb dX1_oldest_0 rfl (lv_at hl 0 rfl) ?_
  refine lv_iconst (v := 0) hx hb dX1_oldest_1 (by decide) ?_
  refine ki_cVR (As := [.int 0]) (rest := []) ⟨hx, hb, hml, hown, hts⟩ (c_X1_fromOldest l D cy h k L f hr0 0) (cwV 1 hts gX1_oldest_X1_fromOldest rfl rfl rfl (by decide +kernel) ⟨Nat.le_of_ble_eq_true rfl, Nat.le_of_ble_eq_true rfl⟩) hK hE hP [0] rfl [0, 1] rfl 1 0 rfl rfl rfl rfl hl.1 rfl (Nat.le_of_ble_eq_true rfl) dX1_oldest_2 ⟨Nat.le_of_ble_eq_true rfl, Nat.le_of_ble_eq_true rfl⟩ ?_
  exact ki_rret hx hb hr hlk (by rfl) dX1_oldest_5
set_option maxHeartbeats 4000000 in
set_option maxRecDepth 100000 in
theorem c_X1_fromNewest (l : Launch) (D : va_G) (cy : ClassId) (h k : Nat) (L : List Int32) (f : Nat → Int32) (hr0 : ki_rep f L) (i : Int32) : ki_R l yX1_fromNewest wsX1_fromNewest ({ frames := 1, cells := 0, slots := 0, locals := 21 }) D [(cy, .int)] [.ref h, .int i] [(h, .inr (1, [.ref k, .int (nI L.length)])), (k, .inl (cy, 64, .inl f))] (k_at L (nI L.length - 1 - i)) := by
  refine ki_ofR (cc := cX1_fromNewest) (maxL := 2) (ret := (some .int)) (by decide +kernel) rfl (Nat.le_of_ble_eq_true rfl) ?_
  intro p e s m args below meth c ls hx hb hr hts hown hlk hml hK hE hP hl
  have hown : s.vm.findClass RX1 = some m.cls := hown
  have hl : lv_has ls 2 [(0, .ref h), (1, .int i)] := hl
  have hiX1 : ∀ w ∈ u_ws RX1 TX1 2, w ∈ wsX1_fromNewest := by decide +kernel
  refine lv_aload_n hx hb dX1_fromNewest_0 rfl (lv_at hl 0 rfl) ?_
  refine lv_aload_n hx hb dX1_fromNewest_1 rfl (lv_at hl 0 rfl) ?_
  refine va_get (D := D) (ci := 1) (v := .int (nI L.length)) (C := RX1) (T := TX1) (N := 2) hx hb hts hiX1 hown hK hP 0 rfl rfl 1 (by decide) (hts (.fieldLink RX1 15 "AdaptiveReplacementCache$KeyList" "length" "I") (by decide +kernel)) (fun _ h9 => h9) rfl dX1_fromNewest_2 ?_
  refine lv_iconst (v := 1) hx hb dX1_fromNewest_5 (by decide) ?_
  refine lv_isub hx hb dX1_fromNewest_6 ?_
  refine lv_iload_n hx hb dX1_fromNewest_7 rfl (lv_at hl 1 rfl) ?_
  refine lv_isub hx hb dX1_fromNewest_8 ?_
  refine ki_cVR (As := [.int (((nI L.length) - 1) - i)]) (rest := []) ⟨hx, hb, hml, hown, hts⟩ (c_X1_fromOldest l D cy h k L f hr0 (((nI L.length) - 1) - i)) (cwV 1 hts gX1_fromNewest_X1_fromOldest rfl rfl rfl (by decide +kernel) ⟨Nat.le_of_ble_eq_true rfl, Nat.le_of_ble_eq_true rfl⟩) hK hE hP [0] rfl [0, 1] rfl 1 0 rfl rfl rfl rfl hl.1 rfl (Nat.le_of_ble_eq_true rfl) dX1_fromNewest_9 ⟨Nat.le_of_ble_eq_true rfl, Nat.le_of_ble_eq_true rfl⟩ ?_
  exact ki_rret hx hb hr hlk (by rfl) dX1_fromNewest_12
set_option maxHeartbeats 4000000 in
set_option maxRecDepth 100000 in
theorem c_X1_indexOf (l : Launch) (D : va_G) (cy : ClassId) (h k : Nat) (L : List Int32) (f : Nat → Int32) (hr0 : ki_rep f L) (key : Int32) : ki_R l yX1_indexOf wsX1_indexOf ({ frames := 0, cells := 0, slots := 0, locals := 0 }) D [(cy, .int)] [.ref h, .int key] [(h, .inr (1, [.ref k, .int (nI L.length)])), (k, .inl (cy, 64, .inl f))] (k_idx L key) := by
  refine ki_ofR (cc := cX1_indexOf) (maxL := 3) (ret := (some .int)) (by decide +kernel) rfl (Nat.le_of_ble_eq_true rfl) ?_
  intro p e s m args below meth c ls hx hb hr hts hown hlk hml hK hE hP hl
  have hown : s.vm.findClass RX1 = some m.cls := hown
  have hl : lv_has ls 3 [(0, .ref h), (1, .int key)] := hl
  have hiX1 : ∀ w ∈ u_ws RX1 TX1 2, w ∈ wsX1_indexOf := by decide +kernel
  refine lv_iconst (v := 0) hx hb dX1_indexOf_0 (by decide) ?_
  refine lv_istore_n (lv' := [(2, .int 0), (0, .ref h), (1, .int key)]) hx hb dX1_indexOf_1 rfl hl (by decide) rfl (fun ls hl => ?_)
  have lp : ∀ (n i : Nat) (ls : Array Slot), L.length - i < n → i ≤ L.length → (∀ j, j < i → ¬ f j = key) → lv_has ls 3 [(2, .int (nI i)), (0, .ref h), (1, .int key)] → W p l e ({ frames := 0, cells := 0, slots := 0, locals := 0 }) s m args below meth c s.heap [] 0 0 (MQ below (QcRead (k_idx L key)) args s 0 0 (fun _ => False)) (F0 m 2 ls []) := by
    intro n
    induction n with
    | zero => intro i ls h; omega
    | succ n ih =>
      intro i ls hm hi hbef hl
      have hLb := hr0.1
      refine lv_iload_n hx hb dX1_indexOf_2 rfl (lv_at hl 0 rfl) ?_
      refine lv_aload_n hx hb dX1_indexOf_3 rfl (lv_at hl 1 rfl) ?_
      refine va_get (D := D) (ci := 1) (v := .int (nI L.length)) (C := RX1) (T := TX1) (N := 2) hx hb hts hiX1 hown hK hP 0 rfl rfl 1 (by decide) (hts (.fieldLink RX1 15 "AdaptiveReplacementCache$KeyList" "length" "I") (by decide +kernel)) (fun _ h9 => h9) rfl dX1_indexOf_4 ?_
      refine lv_icmp_ge (tgt := 37) hx hb dX1_indexOf_7 (by decide) (fun c_1 => ?_) (fun c_1 => ?_)
      · skip
        refine lv_iconst (v := (-1)) hx hb dX1_indexOf_37 (by decide) ?_
        exact ki_rret hx hb hr hlk (by exact (k_idx_none hr0 (by rcases Nat.lt_or_ge i L.length with q | q; exact absurd c_1 (nI_ge q (by omega)); omega) hbef).symm) dX1_indexOf_38
      · skip
        have hil : i < L.length := by rcases Nat.lt_or_ge i L.length with q | q; exact q; exact absurd (nI_le q (by omega)) c_1
        refine lv_iload_n hx hb dX1_indexOf_10 rfl (lv_at hl 0 rfl) ?_
        refine lv_aload_n hx hb dX1_indexOf_11 rfl (lv_at hl 1 rfl) ?_
        refine va_get (D := D) (ci := 1) (v := .ref k) (C := RX1) (T := TX1) (N := 2) hx hb hts hiX1 hown hK hP 0 rfl rfl 0 (by decide) (hts (.fieldLink RX1 9 "AdaptiveReplacementCache$KeyList" "keys" "[I") (by decide +kernel)) (fun _ h9 => h9) rfl dX1_indexOf_12 ?_
        refine va_alen hx hb hK hP 1 0 rfl rfl (v := nI 64) rfl dX1_indexOf_15 ?_
        refine lv_icmp_ge (tgt := 37) hx hb dX1_indexOf_16 (by decide) (fun c_2 => ?_) (fun c_2 => ?_)
        · skip
          exact absurd c_2 (nI_ge (by omega) (by decide))
        · skip
          refine lv_aload_n hx hb dX1_indexOf_19 rfl (lv_at hl 1 rfl) ?_
          refine va_get (D := D) (ci := 1) (v := .ref k) (C := RX1) (T := TX1) (N := 2) hx hb hts hiX1 hown hK hP 0 rfl rfl 0 (by decide) (hts (.fieldLink RX1 9 "AdaptiveReplacementCache$KeyList" "keys" "[I") (by decide +kernel)) (fun _ h9 => h9) rfl dX1_indexOf_20 ?_
          refine lv_iload_n hx hb dX1_indexOf_23 rfl (lv_at hl 0 rfl) ?_
          refine va_iald hx hb hK hP 1 0 rfl rfl (vp_in_nI (by omega) (by decide)) dX1_indexOf_24 ?_
          rw [show (f (Int32.toNatClampNeg (nI i)) : Int32) = f i from by rw [nI_clamp (by omega)]]
          refine lv_iload_n hx hb dX1_indexOf_25 rfl (lv_at hl 2 rfl) ?_
          refine lv_icmp_ne (tgt := 31) hx hb dX1_indexOf_26 (by decide) (fun c_3 => ?_) (fun c_3 => ?_)
          · skip
            refine lv_iinc (v := nI (i + 1)) (lv' := [(2, .int (nI (i + 1))), (0, .ref h), (1, .int key)]) hx hb dX1_indexOf_31 hl (k := 0) rfl (nI_1 i) (by decide) rfl (fun ls hl => ?_)
            refine lv_goto (tgt := 2) hx hb dX1_indexOf_34 (by decide) ?_
            exact ih (i + 1) ls (by omega) (by omega) (fun j hj => by rcases Nat.lt_or_ge j i with q | q; exact hbef j q; rw [show j = i by omega]; exact c_3) (lv_sub hl [0, 1, 2] rfl)
          · skip
            refine lv_iload_n hx hb dX1_indexOf_29 rfl (lv_at hl 0 rfl) ?_
            exact ki_rret hx hb hr hlk (by exact (k_idx_some hr0 hil hbef c_3).symm) dX1_indexOf_30
  exact lp (L.length + 1) 0 ls (by omega) (Nat.zero_le _) (fun j hj => absurd hj (Nat.not_lt_zero j)) (lv_sub hl [0, 1, 2] rfl)
set_option maxHeartbeats 4000000 in
set_option maxRecDepth 100000 in
theorem c_X1_holds (l : Launch) (D : va_G) (cy : ClassId) (h k : Nat) (L : List Int32) (f : Nat → Int32) (hr0 : ki_rep f L) (key : Int32) : ki_R l yX1_holds wsX1_holds ({ frames := 1, cells := 0, slots := 0, locals := 22 }) D [(cy, .int)] [.ref h, .int key] [(h, .inr (1, [.ref k, .int (nI L.length)])), (k, .inl (cy, 64, .inl f))] (if key ∈ L then 1 else 0) := by
  refine ki_ofR (cc := cX1_holds) (maxL := 2) (ret := (some .boolean)) (by decide +kernel) rfl (Nat.le_of_ble_eq_true rfl) ?_
  intro p e s m args below meth c ls hx hb hr hts hown hlk hml hK hE hP hl
  have hown : s.vm.findClass RX1 = some m.cls := hown
  have hl : lv_has ls 2 [(0, .ref h), (1, .int key)] := hl
  refine lv_aload_n hx hb dX1_holds_0 rfl (lv_at hl 0 rfl) ?_
  refine lv_iload_n hx hb dX1_holds_1 rfl (lv_at hl 1 rfl) ?_
  refine ki_cVR (As := [.int key]) (rest := []) ⟨hx, hb, hml, hown, hts⟩ (c_X1_indexOf l D cy h k L f hr0 key) (cwV 1 hts gX1_holds_X1_indexOf rfl rfl rfl (by decide +kernel) ⟨Nat.le_of_ble_eq_true rfl, Nat.le_of_ble_eq_true rfl⟩) hK hE hP [0] rfl [0, 1] rfl 1 0 rfl rfl rfl rfl hl.1 rfl (Nat.le_of_ble_eq_true rfl) dX1_holds_2 ⟨Nat.le_of_ble_eq_true rfl, Nat.le_of_ble_eq_true rfl⟩ ?_
  refine lv_if_lt (tgt := 12) hx hb dX1_holds_5 (by decide) (fun c_1 => ?_) (fun c_1 => ?_)
  · skip
    refine lv_iconst (v := 0) hx hb dX1_holds_12 (by decide) ?_
    exact ki_rzret hx hb hr rfl hlk (by rw [k_idx_lt hr0.1] at c_1; first | (rw [if_neg c_1]; done) | (rw [if_pos (Decidable.not_not.mp c_1)]; done)) dX1_holds_13
  · skip
    refine lv_iconst (v := 1) hx hb dX1_holds_8 (by decide) ?_
    refine lv_goto (tgt := 13) hx hb dX1_holds_9 (by decide) ?_
    exact ki_rzret hx hb hr rfl hlk (by rw [k_idx_lt hr0.1] at c_1; first | (rw [if_neg c_1]; done) | (rw [if_pos (Decidable.not_not.mp c_1)]; done)) dX1_holds_13
set_option maxHeartbeats 4000000 in
set_option maxRecDepth 100000 in
theorem c_X1_closeGap (l : Launch) (D : va_G) (cy : ClassId) (h k : Nat) (L : List Int32) (f : Nat → Int32) (hr0 : ki_rep f L) (g : Int32) : ki_V l yX1_closeGap wsX1_closeGap ({ frames := 0, cells := 0, slots := 0, locals := 0 }) 0 0 D [(cy, .int)] [.ref h, .int g] [(h, .inr (1, [.ref k, .int (nI L.length)])), (k, .inl (cy, 64, .inl f))] (S := Nat → Int32) (fun f1 => ki_rep f1 (k_gap L g)) (fun f1 => [(h, .inr (1, [.ref k, .int (nI (k_gap L g).length)])), (k, .inl (cy, 64, .inl f1))]) := by
  refine ki_ofV (cc := cX1_closeGap) (maxL := 3) (ret := none) (by decide +kernel) rfl (Nat.le_of_ble_eq_true rfl) ?_
  intro p e s m args below meth c A ls hin hx hb hr hts hown hlk hml hK hE hP hD hA hS hl
  have hown : s.vm.findClass RX1 = some m.cls := hown
  have hl : lv_has ls 3 [(0, .ref h), (1, .int g)] := hl
  have hiX1 : ∀ w ∈ u_ws RX1 TX1 2, w ∈ wsX1_closeGap := by decide +kernel
  refine lv_iload_n hx hb dX1_closeGap_0 rfl (lv_at hl 1 rfl) ?_
  refine lv_if_lt (tgt := 12) hx hb dX1_closeGap_1 (by decide) (fun c_1 => ?_) (fun c_1 => ?_)
  · skip
    have e9 : k_gap L g = L := by simp only [k_gap, c_1, ↓reduceIte]
    exact ki_vret hx hb hr hlk hK hS f (by rw [e9]; exact hr0) (by rw [e9]; exact hP) (by rw [e9]; exact hD) dX1_closeGap_12
  · skip
    refine lv_iload_n hx hb dX1_closeGap_4 rfl (lv_at hl 1 rfl) ?_
    refine lv_aload_n hx hb dX1_closeGap_5 rfl (lv_at hl 0 rfl) ?_
    refine va_get (D := D) (ci := 1) (v := .int (nI L.length)) (C := RX1) (T := TX1) (N := 2) hx hb hts hiX1 hown hK hP 0 rfl rfl 1 (by decide) (hts (.fieldLink RX1 15 "AdaptiveReplacementCache$KeyList" "length" "I") (by decide +kernel)) (fun _ h9 => h9) rfl dX1_closeGap_6 ?_
    refine lv_icmp_lt (tgt := 13) hx hb dX1_closeGap_9 (by decide) (fun c_2 => ?_) (fun c_2 => ?_)
    · skip
      refine lv_iload_n hx hb dX1_closeGap_13 rfl (lv_at hl 1 rfl) ?_
      refine lv_istore_n (lv' := [(2, .int g), (0, .ref h), (1, .int g)]) hx hb dX1_closeGap_14 rfl hl (by decide) rfl (fun ls hl => ?_)
      obtain ⟨g0, hg0, hg31, hgE⟩ := ki_ix c_1 (by intro q; exact absurd c_2 (Int32.not_lt.mpr q))
      have hLb := hr0.1
      have lp : ∀ (n i : Nat) (f1 : Nat → Int32) (H : Heap) (locs : List Loc) (ls : Array Slot), L.length - i < n → g0 ≤ i → i < L.length → (∀ j, f1 j = if g0 ≤ j ∧ j < i then f (j + 1) else f j) → va_P D vwCl [(h, .inr (1, [.ref k, .int (nI L.length)])), (k, .inl (cy, 64, .inl f1))] H → va_D A [(h, .inr (1, [.ref k, .int (nI L.length)])), (k, .inl (cy, 64, .inl f1))] → va_S A s.heap H locs → lv_has ls 3 [(2, .int (nI i)), (0, .ref h), (1, .int g)] → W p l e ({ frames := 0, cells := 0, slots := 0, locals := 0 }) s m args below meth c H locs 0 0 (MQ below (va_Qv (fun f1 => ki_rep f1 (k_gap L g)) (ki_B D [(cy, .int)] A (fun f1 => [(h, .inr (1, [.ref k, .int (nI (k_gap L g).length)])), (k, .inl (cy, 64, .inl f1))])) A) args s 0 0 A) (F0 m 15 ls []) := by
        intro n
        induction n with
        | zero => intro i f1 H locs ls h; omega
        | succ n ih =>
          intro i f1 H locs ls hm hgi hil hf1 hP hD hS hl
          refine lv_iload_n hx hb dX1_closeGap_15 rfl (lv_at hl 0 rfl) ?_
          refine lv_iconst (v := 1) hx hb dX1_closeGap_16 (by decide) ?_
          refine lv_iadd hx hb dX1_closeGap_17 ?_
          rw [show ((nI i) + 1 : Int32) = nI (i + 1) from nI_1 i]
          refine lv_aload_n hx hb dX1_closeGap_18 rfl (lv_at hl 1 rfl) ?_
          refine va_get (D := D) (ci := 1) (v := .int (nI L.length)) (C := RX1) (T := TX1) (N := 2) hx hb hts hiX1 hown hK hP 0 rfl rfl 1 (by decide) (hts (.fieldLink RX1 15 "AdaptiveReplacementCache$KeyList" "length" "I") (by decide +kernel)) (fun _ h9 => h9) rfl dX1_closeGap_19 ?_
          refine lv_icmp_ge (tgt := 56) hx hb dX1_closeGap_22 (by decide) (fun c_3 => ?_) (fun c_3 => ?_)
          · skip
            refine lv_aload_n hx hb dX1_closeGap_56 rfl (lv_at hl 1 rfl) ?_
            refine lv_dup hx hb dX1_closeGap_57 rfl ?_
            refine va_get (D := D) (ci := 1) (v := .int (nI L.length)) (C := RX1) (T := TX1) (N := 2) hx hb hts hiX1 hown hK hP 0 rfl rfl 1 (by decide) (hts (.fieldLink RX1 15 "AdaptiveReplacementCache$KeyList" "length" "I") (by decide +kernel)) (fun _ h9 => h9) rfl dX1_closeGap_58 ?_
            refine lv_iconst (v := 1) hx hb dX1_closeGap_61 (by decide) ?_
            refine lv_isub hx hb dX1_closeGap_62 ?_
            rw [show ((nI L.length) - 1 : Int32) = nI (k_gap L g).length from k_gap_n hgE hg0 (by omega)]
            refine va_put (D := D) (ci := 1) (v := .int (nI (k_gap L g).length)) (ty := .int) (C := RX1) (T := TX1) (N := 2) hx hb hts hiX1 tyX1 tyX1_ok nmX1 hown hK hP hD hS 0 rfl rfl 1 (by decide) (hts (.fieldLink RX1 15 "AdaptiveReplacementCache$KeyList" "length" "I") (by decide +kernel)) (fun _ h9 => h9) rfl (by decide +kernel) rfl rfl (Nat.le_of_ble_eq_true rfl) dX1_closeGap_63 (fun H locs hP hD hS => ?_)
            have hP : va_P D vwCl [(h, .inr (1, [.ref k, .int (nI (k_gap L g).length)])), (k, .inl (cy, 64, .inl f1))] H := hP
            have hD : va_D A [(h, .inr (1, [.ref k, .int (nI (k_gap L g).length)])), (k, .inl (cy, 64, .inl f1))] := hD
            have hex : i + 1 = L.length := by rcases Nat.lt_or_ge (i + 1) L.length with q | q; exact absurd c_3 (nI_ge q (by omega)); omega
            exact ki_vret hx hb hr hlk hK hS f1 (k_gap_rep hr0 hgE hg0 hex hgi hf1) hP hD dX1_closeGap_66
          · skip
            have hil2 : i + 1 < L.length := by rcases Nat.lt_or_ge (i + 1) L.length with q | q; exact q; exact absurd (nI_le q (by omega)) c_3
            refine lv_iload_n hx hb dX1_closeGap_25 rfl (lv_at hl 0 rfl) ?_
            refine lv_iconst (v := 1) hx hb dX1_closeGap_26 (by decide) ?_
            refine lv_iadd hx hb dX1_closeGap_27 ?_
            rw [show ((nI i) + 1 : Int32) = nI (i + 1) from nI_1 i]
            refine lv_aload_n hx hb dX1_closeGap_28 rfl (lv_at hl 1 rfl) ?_
            refine va_get (D := D) (ci := 1) (v := .ref k) (C := RX1) (T := TX1) (N := 2) hx hb hts hiX1 hown hK hP 0 rfl rfl 0 (by decide) (hts (.fieldLink RX1 9 "AdaptiveReplacementCache$KeyList" "keys" "[I") (by decide +kernel)) (fun _ h9 => h9) rfl dX1_closeGap_29 ?_
            refine va_alen hx hb hK hP 1 0 rfl rfl (v := nI 64) rfl dX1_closeGap_32 ?_
            refine lv_icmp_ge (tgt := 56) hx hb dX1_closeGap_33 (by decide) (fun c_4 => ?_) (fun c_4 => ?_)
            · skip
              exact absurd c_4 (nI_ge (by omega) (by decide))
            · skip
              refine lv_aload_n hx hb dX1_closeGap_36 rfl (lv_at hl 1 rfl) ?_
              refine va_get (D := D) (ci := 1) (v := .ref k) (C := RX1) (T := TX1) (N := 2) hx hb hts hiX1 hown hK hP 0 rfl rfl 0 (by decide) (hts (.fieldLink RX1 9 "AdaptiveReplacementCache$KeyList" "keys" "[I") (by decide +kernel)) (fun _ h9 => h9) rfl dX1_closeGap_37 ?_
              refine lv_iload_n hx hb dX1_closeGap_40 rfl (lv_at hl 0 rfl) ?_
              refine lv_aload_n hx hb dX1_closeGap_41 rfl (lv_at hl 1 rfl) ?_
              refine va_get (D := D) (ci := 1) (v := .ref k) (C := RX1) (T := TX1) (N := 2) hx hb hts hiX1 hown hK hP 0 rfl rfl 0 (by decide) (hts (.fieldLink RX1 9 "AdaptiveReplacementCache$KeyList" "keys" "[I") (by decide +kernel)) (fun _ h9 => h9) rfl dX1_closeGap_42 ?_
              refine lv_iload_n hx hb dX1_closeGap_45 rfl (lv_at hl 0 rfl) ?_
              refine lv_iconst (v := 1) hx hb dX1_closeGap_46 (by decide) ?_
              refine lv_iadd hx hb dX1_closeGap_47 ?_
              rw [show ((nI i) + 1 : Int32) = nI (i + 1) from nI_1 i]
              refine va_iald hx hb hK hP 1 0 rfl rfl (vp_in_nI (by omega) (by decide)) dX1_closeGap_48 ?_
              rw [show (f1 (Int32.toNatClampNeg (nI (i + 1))) : Int32) = f (i + 1) from by rw [nI_clamp (by omega), hf1, if_neg (by omega)]]
              refine va_iast hx hb hK hP hD hS 1 0 rfl rfl (vp_in_nI (by omega) (by decide)) dX1_closeGap_49 (fun H locs hP hD hS => ?_)
              obtain ⟨f2, ef2⟩ : ∃ z : Nat → Int32, z = upd f1 (Int32.toNatClampNeg (nI i)) (f (i + 1)) := ⟨_, rfl⟩
              rw [← ef2] at hP hD
              have hf2 : ∀ j, f2 j = if g0 ≤ j ∧ j < i + 1 then f (j + 1) else f j := fun j => by
                rw [ef2]; unfold upd; rw [nI_clamp (by omega)]
                by_cases q : j = i
                · subst q; rw [if_pos rfl, if_pos (by omega)]
                · rw [if_neg q, hf1]
                  by_cases q2 : g0 ≤ j ∧ j < i
                  · rw [if_pos q2, if_pos (by omega)]
                  · rw [if_neg q2, if_neg (by omega)]
              have hP : va_P D vwCl [(h, .inr (1, [.ref k, .int (nI L.length)])), (k, .inl (cy, 64, .inl f2))] H := hP
              have hD : va_D A [(h, .inr (1, [.ref k, .int (nI L.length)])), (k, .inl (cy, 64, .inl f2))] := hD
              refine lv_iinc (v := nI (i + 1)) (lv' := [(2, .int (nI (i + 1))), (0, .ref h), (1, .int g)]) hx hb dX1_closeGap_50 hl (k := 0) rfl (nI_1 i) (by decide) rfl (fun ls hl => ?_)
              refine lv_goto (tgt := 15) hx hb dX1_closeGap_53 (by decide) ?_
              exact ih (i + 1) f2 H locs ls (by omega) (by omega) (by omega) hf2 hP hD hS (lv_sub hl [0, 1, 2] rfl)
      exact lp (L.length + 1) g0 f s.heap [] ls (by omega) (Nat.le_refl _) hg0 (fun j => by rw [if_neg (by omega)]) hP hD hS (by rw [← hgE]; exact lv_sub hl [0, 1, 2] rfl)
    · skip
      have e9 : k_gap L g = L := by simp only [k_gap, c_1, c_2, ↓reduceIte]
      exact ki_vret hx hb hr hlk hK hS f (by rw [e9]; exact hr0) (by rw [e9]; exact hP) (by rw [e9]; exact hD) dX1_closeGap_12
set_option maxHeartbeats 4000000 in
set_option maxRecDepth 100000 in
theorem c_X1_takeOldest (l : Launch) (D : va_G) (cy : ClassId) (h k : Nat) (L : List Int32) (f : Nat → Int32) (hr0 : ki_rep f L) : ki_I l yX1_takeOldest wsX1_takeOldest ({ frames := 1, cells := 0, slots := 0, locals := 22 }) 0 0 D [(cy, .int)] [.ref h] [(h, .inr (1, [.ref k, .int (nI L.length)])), (k, .inl (cy, 64, .inl f))] (S := Nat → Int32) (fun r f1 => r = k_at L 0 ∧ ki_rep f1 (k_gap L 0)) (fun f1 => [(h, .inr (1, [.ref k, .int (nI (k_gap L 0).length)])), (k, .inl (cy, 64, .inl f1))]) := by
  refine ki_ofI (cc := cX1_takeOldest) (maxL := 2) (ret := (some .int)) (by decide +kernel) rfl (Nat.le_of_ble_eq_true rfl) ?_
  intro p e s m args below meth c A ls hx hb hr hts hown hlk hml hK hE hP hD hA hS hl
  have hown : s.vm.findClass RX1 = some m.cls := hown
  have hl : lv_has ls 2 [(0, .ref h)] := hl
  refine lv_aload_n hx hb dX1_takeOldest_0 rfl (lv_at hl 0 rfl) ?_
  refine lv_iconst (v := 0) hx hb dX1_takeOldest_1 (by decide) ?_
  refine ki_cVR (As := [.int 0]) (rest := []) ⟨hx, hb, hml, hown, hts⟩ (c_X1_fromOldest l D cy h k L f hr0 0) (cwV 1 hts gX1_takeOldest_X1_fromOldest rfl rfl rfl (by decide +kernel) ⟨Nat.le_of_ble_eq_true rfl, Nat.le_of_ble_eq_true rfl⟩) hK hE hP [0] rfl [0, 1] rfl 1 0 rfl rfl rfl rfl hl.1 rfl (Nat.le_of_ble_eq_true rfl) dX1_takeOldest_2 ⟨Nat.le_of_ble_eq_true rfl, Nat.le_of_ble_eq_true rfl⟩ ?_
  refine lv_istore_n (lv' := [(1, .int (k_at L 0)), (0, .ref h)]) hx hb dX1_takeOldest_5 rfl hl (by decide) rfl (fun ls hl => ?_)
  refine lv_aload_n hx hb dX1_takeOldest_6 rfl (lv_at hl 1 rfl) ?_
  refine lv_iconst (v := 0) hx hb dX1_takeOldest_7 (by decide) ?_
  refine ki_cVV (As := [.int 0]) (rest := []) (wr := []) ⟨hx, hb, hml, hown, hts⟩ (c_X1_closeGap l D cy h k L f hr0 0) (cwV 1 hts gX1_takeOldest_X1_closeGap rfl rfl rfl (by decide +kernel) ⟨Nat.le_of_ble_eq_true rfl, Nat.le_of_ble_eq_true rfl⟩) hK hE hP hD hS hA [0] rfl [0, 1] [] rfl rfl rfl rfl (by decide) 1 0 rfl rfl rfl rfl hl.1 rfl (Nat.le_of_ble_eq_true rfl) dX1_takeOldest_8 ⟨Nat.le_of_ble_eq_true rfl, Nat.le_of_ble_eq_true rfl⟩ [0, 1] (fun f_1 => [(h, .inr (1, [.ref k, .int (nI (k_gap L 0).length)])), (k, .inl (cy, 64, .inl f_1))]) (fun _ => rfl) rfl (fun f_1 H locs hw hP hD hS => ?_)
  have hr_2 := hw
  have hP : va_P D vwCl [(h, .inr (1, [.ref k, .int (nI (k_gap L 0).length)])), (k, .inl (cy, 64, .inl f_1))] H := hP
  have hD : va_D A [(h, .inr (1, [.ref k, .int (nI (k_gap L 0).length)])), (k, .inl (cy, 64, .inl f_1))] := hD
  refine lv_iload_n hx hb dX1_takeOldest_11 rfl (lv_at hl 0 rfl) ?_
  exact ki_iret hx hb hr hlk hK hS f_1 ⟨rfl, hr_2⟩ hP hD dX1_takeOldest_12
set_option maxHeartbeats 4000000 in
set_option maxRecDepth 100000 in
theorem c_X1_takeOut (l : Launch) (D : va_G) (cy : ClassId) (h k : Nat) (L : List Int32) (f : Nat → Int32) (hr0 : ki_rep f L) (key : Int32) : ki_I l yX1_takeOut wsX1_takeOut ({ frames := 1, cells := 0, slots := 0, locals := 22 }) 0 0 D [(cy, .int)] [.ref h, .int key] [(h, .inr (1, [.ref k, .int (nI L.length)])), (k, .inl (cy, 64, .inl f))] (S := Nat → Int32) (fun r f1 => r = (if key ∈ L then 1 else 0) ∧ ki_rep f1 (k_gap L (k_idx L key))) (fun f1 => [(h, .inr (1, [.ref k, .int (nI (k_gap L (k_idx L key)).length)])), (k, .inl (cy, 64, .inl f1))]) := by
  refine ki_ofI (cc := cX1_takeOut) (maxL := 3) (ret := (some .boolean)) (by decide +kernel) rfl (Nat.le_of_ble_eq_true rfl) ?_
  intro p e s m args below meth c A ls hx hb hr hts hown hlk hml hK hE hP hD hA hS hl
  have hown : s.vm.findClass RX1 = some m.cls := hown
  have hl : lv_has ls 3 [(0, .ref h), (1, .int key)] := hl
  refine lv_aload_n hx hb dX1_takeOut_0 rfl (lv_at hl 0 rfl) ?_
  refine lv_iload_n hx hb dX1_takeOut_1 rfl (lv_at hl 1 rfl) ?_
  refine ki_cVR (As := [.int key]) (rest := []) ⟨hx, hb, hml, hown, hts⟩ (c_X1_indexOf l D cy h k L f hr0 key) (cwV 1 hts gX1_takeOut_X1_indexOf rfl rfl rfl (by decide +kernel) ⟨Nat.le_of_ble_eq_true rfl, Nat.le_of_ble_eq_true rfl⟩) hK hE hP [0] rfl [0, 1] rfl 1 0 rfl rfl rfl rfl hl.1 rfl (Nat.le_of_ble_eq_true rfl) dX1_takeOut_2 ⟨Nat.le_of_ble_eq_true rfl, Nat.le_of_ble_eq_true rfl⟩ ?_
  refine lv_istore_n (lv' := [(2, .int (k_idx L key)), (0, .ref h), (1, .int key)]) hx hb dX1_takeOut_5 rfl hl (by decide) rfl (fun ls hl => ?_)
  refine lv_aload_n hx hb dX1_takeOut_6 rfl (lv_at hl 1 rfl) ?_
  refine lv_iload_n hx hb dX1_takeOut_7 rfl (lv_at hl 0 rfl) ?_
  refine ki_cVV (As := [.int (k_idx L key)]) (rest := []) (wr := []) ⟨hx, hb, hml, hown, hts⟩ (c_X1_closeGap l D cy h k L f hr0 (k_idx L key)) (cwV 1 hts gX1_takeOut_X1_closeGap rfl rfl rfl (by decide +kernel) ⟨Nat.le_of_ble_eq_true rfl, Nat.le_of_ble_eq_true rfl⟩) hK hE hP hD hS hA [0] rfl [0, 1] [] rfl rfl rfl rfl (by decide) 1 0 rfl rfl rfl rfl hl.1 rfl (Nat.le_of_ble_eq_true rfl) dX1_takeOut_8 ⟨Nat.le_of_ble_eq_true rfl, Nat.le_of_ble_eq_true rfl⟩ [0, 1] (fun f_1 => [(h, .inr (1, [.ref k, .int (nI (k_gap L (k_idx L key)).length)])), (k, .inl (cy, 64, .inl f_1))]) (fun _ => rfl) rfl (fun f_1 H locs hw hP hD hS => ?_)
  have hr_2 := hw
  have hP : va_P D vwCl [(h, .inr (1, [.ref k, .int (nI (k_gap L (k_idx L key)).length)])), (k, .inl (cy, 64, .inl f_1))] H := hP
  have hD : va_D A [(h, .inr (1, [.ref k, .int (nI (k_gap L (k_idx L key)).length)])), (k, .inl (cy, 64, .inl f_1))] := hD
  refine lv_iload_n hx hb dX1_takeOut_11 rfl (lv_at hl 0 rfl) ?_
  refine lv_if_lt (tgt := 19) hx hb dX1_takeOut_12 (by decide) (fun c_4 => ?_) (fun c_4 => ?_)
  · skip
    refine lv_iconst (v := 0) hx hb dX1_takeOut_19 (by decide) ?_
    rw [k_idx_lt hr0.1] at c_4
    exact ki_zret hx hb hr rfl hlk hK hS f_1 ⟨by first | (rw [if_neg c_4]; done) | (rw [if_pos (Decidable.not_not.mp c_4)]; done), hr_2⟩ hP hD dX1_takeOut_20
  · skip
    refine lv_iconst (v := 1) hx hb dX1_takeOut_15 (by decide) ?_
    refine lv_goto (tgt := 20) hx hb dX1_takeOut_16 (by decide) ?_
    rw [k_idx_lt hr0.1] at c_4
    exact ki_zret hx hb hr rfl hlk hK hS f_1 ⟨by first | (rw [if_neg c_4]; done) | (rw [if_pos (Decidable.not_not.mp c_4)]; done), hr_2⟩ hP hD dX1_takeOut_20
set_option maxHeartbeats 4000000 in
set_option maxRecDepth 100000 in
theorem c_X1_init (l : Launch) (D : va_G) (cy : ClassId) (h : Nat) : ki_V l yX1_init wsX1_init ({ frames := 1, cells := 1, slots := 64, locals := 12 }) 1 64 D [(cy, .int)] [.ref h] [(h, .inr (1, [.null, .int 0]))] (S := Nat) (fun _ => True) (fun k => [(h, .inr (1, [.ref k, .int (nI ([] : List Int32).length)])), (k, .inl (cy, 64, .inl (fun _ => 0)))]) := by
  refine ki_ofV (cc := cX1_init) (maxL := 1) (ret := none) (by decide +kernel) rfl (Nat.le_of_ble_eq_true rfl) ?_
  intro p e s m args below meth c A ls hin hx hb hr hts hown hlk hml hK hE hP hD hA hS hl
  have hown : s.vm.findClass RX1 = some m.cls := hown
  have hl : lv_has ls 1 [(0, .ref h)] := hl
  have hiX1 : ∀ w ∈ u_ws RX1 TX1 2, w ∈ wsX1_init := by decide +kernel
  refine lv_aload_n hx hb dX1_init_0 rfl (lv_at hl 0 rfl) ?_
  refine W.objInit hx hb hown (hts (.methodLink RX1 3 objectInit) (by decide +kernel)) (hts (.instanceMethod objectInit) (by decide +kernel)) (hts (.code objectInit ⟨#[0xb1]⟩ 1 none) (by decide +kernel)) rfl (by rw [hml]; exact hl.1) rfl dX1_init_1 (Nat.le_of_ble_eq_true rfl) (Nat.le_of_ble_eq_true rfl) ?_
  refine W.eq (g2 := F0 m 4 ls []) rfl ?_
  refine lv_aload_n hx hb dX1_init_4 rfl (lv_at hl 0 rfl) ?_
  refine lv_bipush (v := 64) hx hb dX1_init_5 (by decide) ?_
  refine ki_newa hx hb (hts (.arrayClass .int) (by decide +kernel)) hK hP hD hS hA (N := 64) (v := 64) (by decide) (by decide) (Nat.le_of_ble_eq_true rfl) (Nat.le_of_ble_eq_true rfl) (Nat.le_of_ble_eq_true rfl) dX1_init_7 (fun q_1 H hP hD hS => ?_)
  have hP : va_P D vwCl [(h, .inr (1, [.null, .int 0])), (q_1, .inl (cy, 64, .inl (fun _ => 0)))] H := hP
  have hD : va_D A [(h, .inr (1, [.null, .int 0])), (q_1, .inl (cy, 64, .inl (fun _ => 0)))] := hD
  refine W.widen (k := 1) (n := 64) (Nat.le_of_ble_eq_true rfl) (Nat.le_of_ble_eq_true rfl) ?_
  refine va_putF (D := D) (ci := 1) (v := .ref q_1) (ty := .array .int) (C := RX1) (T := TX1) (N := 2) hx hb hts hiX1 tyX1 tyX1_ok nmX1 hown hK hP hD hS 0 rfl rfl 0 (by decide) (hts (.fieldLink RX1 9 "AdaptiveReplacementCache$KeyList" "keys" "[I") (by decide +kernel)) (fun _ h9 => h9) rfl hin rfl (by decide +kernel) rfl rfl (Nat.le_of_ble_eq_true rfl) dX1_init_9 (fun H locs hP hD hS => ?_)
  have hP : va_P D vwCl [(h, .inr (1, [.ref q_1, .int 0])), (q_1, .inl (cy, 64, .inl (fun _ => 0)))] H := hP
  have hD : va_D A [(h, .inr (1, [.ref q_1, .int 0])), (q_1, .inl (cy, 64, .inl (fun _ => 0)))] := hD
  exact ki_vret hx hb hr hlk hK hS q_1 trivial hP hD dX1_init_12
