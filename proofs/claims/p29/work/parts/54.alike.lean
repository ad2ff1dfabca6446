/-! ===== areAlike ===== -/
set_option maxHeartbeats 4000000 in
set_option maxRecDepth 100000 in
theorem c_L_areAlike (l : Launch) (hl9 : l.stackTraces = false) (D : va_G) (cy : ClassId) (x1 lh1 lk1 ph1 pk1 : Nat) (q1 qt1 : Nat → Nat) (x2 lh2 lk2 ph2 pk2 : Nat) (q2 qt2 : Nat → Nat) (mo : Int32) (uA uB : lo_U) (hR : lo_R mo uA uB) : kw_I l yL_areAlike wsL_areAlike ({ frames := 9, cells := 8, slots := 48, locals := 147 } : Room) 8 48 D [(cy, .int)] [.ref x1, .ref x2, .int mo] (lo_w cy x1 lh1 lk1 ph1 pk1 q1 qt1 uA ++ lo_w cy x2 lh2 lk2 ph2 pk2 q2 qt2 uB) (S := lo_U × lo_U) (fun r u => r = 1 ∧ lo_R mo u.1 u.2 ∧ lo_v u.1 = lo_v uA) (fun u : lo_U × lo_U => (lo_w cy x1 lh1 lk1 ph1 pk1 q1 qt1 u.1 ++ lo_w cy x2 lh2 lk2 ph2 pk2 q2 qt2 u.2)) := by
  refine kw_ofN (cc := cL_areAlike) (maxL := 6) (ret := some .boolean) (by decide +kernel) rfl (Nat.le_of_ble_eq_true rfl) ?_
  intro p e s m args below meth c A ls hout hZ hx hb hr hts hown hlk hml hK hE hP hD hA hS hl
  have hown : s.vm.findClass RL = some m.cls := hown
  have hl : lv_has ls 6 [(0, .ref x1), (1, .ref x2), (2, .int mo)] := hl
  have lp : ∀ (n i : Nat) (ua ub : lo_U) (H : Heap) (locs : List Loc) (ls : Array Slot), 5 - i < n → 1 ≤ i → i ≤ 5 → lo_R mo ua ub → lo_v ua = lo_v uA → va_P D vwCl (lo_w cy x1 lh1 lk1 ph1 pk1 q1 qt1 ua ++ lo_w cy x2 lh2 lk2 ph2 pk2 q2 qt2 ub) H → va_D A (lo_w cy x1 lh1 lk1 ph1 pk1 q1 qt1 ua ++ lo_w cy x2 lh2 lk2 ph2 pk2 q2 qt2 ub) → va_S A s.heap H locs → lv_has ls 6 [(4, .int (nI i)), (3, .int 1), (0, .ref x1), (1, .ref x2), (2, .int mo)] → W p l e ({ frames := 9, cells := 8, slots := 48, locals := 147 } : Room) s m args below meth c H locs (2 * (i - 1)) (12 * (i - 1)) (vx_MQ below (va_Qi (S := lo_U × lo_U) (fun r u => r = 1 ∧ lo_R mo u.1 u.2 ∧ lo_v u.1 = lo_v uA) (ki_B D [(cy, .int)] A (fun u : lo_U × lo_U => (lo_w cy x1 lh1 lk1 ph1 pk1 q1 qt1 u.1 ++ lo_w cy x2 lh2 lk2 ph2 pk2 q2 qt2 u.2))) A) (vx_X (fun _ : Unit => False) (ki_BX D [(cy, .int)] A (lo_w cy x1 lh1 lk1 ph1 pk1 q1 qt1 uA ++ lo_w cy x2 lh2 lk2 ph2 pk2 q2 qt2 uB) "") A) args s 8 48 A) (F0 m 139 ls []) := by
    intro n
    induction n with
    | zero => intro i ua ub H locs ls h; omega
    | succ n ih =>
      intro i ua ub H locs ls hm9 h1 h5 hR hv hP hD hS hl
      refine lv_iload hx hb dL_areAlike_139 (lv_at hl 0 rfl) ?_
      refine lv_iconst (v := 5) hx hb dL_areAlike_141 (by decide) ?_
      refine lv_icmp_ge (tgt := 229) hx hb dL_areAlike_142 (by decide) (fun c9 => ?_) (fun c9 => ?_)
      · have hi : i = 5 := by
          rcases Nat.lt_or_ge i 5 with q9 | q9
          · exact absurd c9 (nI_ge (b := 5) q9 (by decide))
          · omega
        subst hi
        refine lv_iload_n hx hb dL_areAlike_229 rfl (lv_at hl 1 rfl) ?_
        refine vx_ret ?_
        exact ki_zret hx hb hr rfl hlk hK hS (ua, ub) ⟨rfl, hR, hv⟩ hP hD dL_areAlike_230
      have h4 : i ≤ 4 := by
        rcases Nat.lt_or_ge i 5 with q9 | q9
        · omega
        · exact absurd (nI_le (a := 5) q9 (by omega)) c9
      clear c9
      refine lv_iload_n hx hb dL_areAlike_145 rfl (lv_at hl 1 rfl) ?_
      refine lv_if_eq (tgt := 229) hx hb dL_areAlike_146 (by decide) (fun c9 => absurd c9 (by decide)) (fun _ => ?_)
      refine lv_iconst (v := 0) hx hb dL_areAlike_149 (by decide) ?_
      refine lv_istore (lv' := [(5, .int 0), (4, .int (nI i)), (3, .int 1), (0, .ref x1), (1, .ref x2), (2, .int mo)]) hx hb dL_areAlike_150 hl (by decide) rfl (fun ls hl => ?_)
      have ihA := ih
      have lq : ∀ (n k : Nat) (ua ub : lo_U) (H : Heap) (locs : List Loc) (ls : Array Slot), (uA.1.1.1 i).length - k < n → k ≤ (uA.1.1.1 i).length → lo_R mo ua ub → lo_v ua = lo_v uA → va_P D vwCl (lo_w cy x1 lh1 lk1 ph1 pk1 q1 qt1 ua ++ lo_w cy x2 lh2 lk2 ph2 pk2 q2 qt2 ub) H → va_D A (lo_w cy x1 lh1 lk1 ph1 pk1 q1 qt1 ua ++ lo_w cy x2 lh2 lk2 ph2 pk2 q2 qt2 ub) → va_S A s.heap H locs → lv_has ls 6 [(5, .int (nI k)), (4, .int (nI i)), (3, .int 1), (0, .ref x1), (1, .ref x2), (2, .int mo)] → W p l e ({ frames := 9, cells := 8, slots := 48, locals := 147 } : Room) s m args below meth c H locs (2 * (i - 1)) (12 * (i - 1)) (vx_MQ below (va_Qi (S := lo_U × lo_U) (fun r u => r = 1 ∧ lo_R mo u.1 u.2 ∧ lo_v u.1 = lo_v uA) (ki_B D [(cy, .int)] A (fun u : lo_U × lo_U => (lo_w cy x1 lh1 lk1 ph1 pk1 q1 qt1 u.1 ++ lo_w cy x2 lh2 lk2 ph2 pk2 q2 qt2 u.2))) A) (vx_X (fun _ : Unit => False) (ki_BX D [(cy, .int)] A (lo_w cy x1 lh1 lk1 ph1 pk1 q1 qt1 uA ++ lo_w cy x2 lh2 lk2 ph2 pk2 q2 qt2 uB) "") A) args s 8 48 A) (F0 m 152 ls []) := by
        clear ih hl hP hD hS hR hv
        intro n
        induction n with
        | zero => intro k ua ub H locs ls h; omega
        | succ n ih =>
          intro k ua ub H locs ls hm9 hk hR hv hP hD hS hl
          have hst0 : ua.1.1 = uA.1.1 := congrArg (fun v : v_T => v.1) hv
          have hlen : (ua.1.1.1 i).length = (uA.1.1.1 i).length := by rw [hst0]
          have h64 := lo_len hR.1 h1 h4
          refine lv_iload_n hx hb dL_areAlike_152 rfl (lv_at hl 2 rfl) ?_
          refine lv_if_eq (tgt := 200) hx hb dL_areAlike_153 (by decide) (fun c9 => absurd c9 (by decide)) (fun _ => ?_)
          refine lv_aload_n hx hb dL_areAlike_156 rfl (lv_at hl 3 rfl) ?_
          refine lv_iload hx hb dL_areAlike_157 (lv_at hl 1 rfl) ?_
          refine lv_iload hx hb dL_areAlike_159 (lv_at hl 0 rfl) ?_
          rcases Nat.lt_or_ge k (ua.1.1.1 i).length with hkl | hkl
          · skip
            have hin := lo_in hR h1 h4 hkl
            have hkey := lo_key hR h1 h4 hkl
            obtain ⟨kv, ekv⟩ : ∃ z9 : Int32, z9 = (k_at (ua.1.1.1 i) (nI (ua.1.1.1 i).length - 1 - nI k)) := ⟨_, rfl⟩
            have hkv : s_k kv := by rw [ekv]; exact hkey.1
            have hka : ∀ u9 : lo_U, lo_v u9 = lo_v ua → (k_at (u9.1.1.1 i) (nI (u9.1.1.1 i).length - 1 - nI k)) = kv := fun u9 h9 => by rw [show u9.1.1 = ua.1.1 from congrArg (fun v : v_T => v.1) h9]; exact ekv.symm
            have hkb : (k_at (ub.1.1.1 i) (nI (ub.1.1.1 i).length - 1 - nI k)) = kv + mo := by rw [ekv]; exact hkey.2
            refine kl_SA (As := [.ref x1, .int (nI i), .int (nI k)]) (rest := []) ⟨hx, hb, hml, hown, hts⟩ (c_L_at_ok l D cy x1 lh1 lk1 ph1 pk1 q1 qt1 ua hR.1 i h1 h4 (nI k) hin.1) (vx_cwSW 3 hts gL_areAlike_L_at rfl rfl rfl (by decide +kernel) ⟨Nat.le_of_ble_eq_true rfl, Nat.le_of_ble_eq_true rfl⟩) hK hE hZ hP hD hS hA rfl hl.1 rfl (Nat.le_of_ble_eq_true rfl) dL_areAlike_161 ⟨(by show 2 * (i - 1) + 0 ≤ 8; omega), (by show 12 * (i - 1) + 0 ≤ 48; omega)⟩ (fun ua1 H locs hu9 hv9 hP hD hS => ?_)
            rw [hka ua rfl]
            have hR1 := hR.same (ua1 := ua1) (ub1 := ub) hu9 hv9 hR.2.1 rfl
            have hv1 := hv9.trans hv
            have hin1 := lo_in hR1 h1 h4 (k := k) (by rw [show ua1.1.1 = ua.1.1 from congrArg (fun v : v_T => v.1) hv9]; exact hkl)
            refine lv_if_lt (tgt := 200) hx hb dL_areAlike_164 (by decide) (fun c9 => absurd c9 (s_pos hkv)) (fun _ => ?_)
            refine lv_aload_n hx hb dL_areAlike_167 rfl (lv_at hl 4 rfl) ?_
            refine lv_iload hx hb dL_areAlike_168 (lv_at hl 1 rfl) ?_
            refine lv_iload hx hb dL_areAlike_170 (lv_at hl 0 rfl) ?_
            refine kl_SB (As := [.ref x2, .int (nI i), .int (nI k)]) (rest := []) ⟨hx, hb, hml, hown, hts⟩ (c_L_at_ok l D cy x2 lh2 lk2 ph2 pk2 q2 qt2 ub hR1.2.1 i h1 h4 (nI k) hin1.2) (vx_cwSW 3 hts gL_areAlike_L_at rfl rfl rfl (by decide +kernel) ⟨Nat.le_of_ble_eq_true rfl, Nat.le_of_ble_eq_true rfl⟩) hK hE hZ hP hD hS hA rfl hl.1 rfl (Nat.le_of_ble_eq_true rfl) dL_areAlike_172 ⟨(by show 2 * (i - 1) + 0 ≤ 8; omega), (by show 12 * (i - 1) + 0 ≤ 48; omega)⟩ (fun ub1 H locs hu8 hv8 hP hD hS => ?_)
            rw [hkb]
            have hR2 := hR1.same (ua1 := ua1) (ub1 := ub1) hR1.1 rfl hu8 hv8
            refine lv_aload_n hx hb dL_areAlike_175 rfl (lv_at hl 3 rfl) ?_
            refine lv_iload hx hb dL_areAlike_176 (lv_at hl 1 rfl) ?_
            refine lv_iload hx hb dL_areAlike_178 (lv_at hl 0 rfl) ?_
            refine kl_SA (As := [.ref x1, .int (nI i), .int (nI k)]) (rest := [.int (kv + mo)]) ⟨hx, hb, hml, hown, hts⟩ (c_L_at_ok l D cy x1 lh1 lk1 ph1 pk1 q1 qt1 ua1 hR2.1 i h1 h4 (nI k) hin1.1) (vx_cwSW 3 hts gL_areAlike_L_at rfl rfl rfl (by decide +kernel) ⟨Nat.le_of_ble_eq_true rfl, Nat.le_of_ble_eq_true rfl⟩) hK hE hZ hP hD hS hA rfl hl.1 rfl (Nat.le_of_ble_eq_true rfl) dL_areAlike_180 ⟨(by show 2 * (i - 1) + 0 ≤ 8; omega), (by show 12 * (i - 1) + 0 ≤ 48; omega)⟩ (fun ua2 H locs hu7 hv7 hP hD hS => ?_)
            rw [hka ua1 hv9]
            have hR3 := hR2.same (ua1 := ua2) (ub1 := ub1) hu7 hv7 hR2.2.1 rfl
            have hv3 := hv7.trans hv1
            refine lv_iload_n hx hb dL_areAlike_183 rfl (lv_at hl 5 rfl) ?_
            refine lv_iadd hx hb dL_areAlike_184 ?_
            refine lv_icmp_ne (tgt := 192) hx hb dL_areAlike_185 (by decide) (fun c9 => absurd rfl c9) (fun _ => ?_)
            refine lv_iconst (v := 1) hx hb dL_areAlike_188 (by decide) ?_
            refine lv_goto (tgt := 193) hx hb dL_areAlike_189 (by decide) ?_
            refine lv_istore_n (lv' := [(3, .int 1), (5, .int (nI k)), (4, .int (nI i)), (0, .ref x1), (1, .ref x2), (2, .int mo)]) hx hb dL_areAlike_193 rfl hl (by decide) rfl (fun ls hl => ?_)
            refine lv_iinc (v := nI (k + 1)) (lv' := [(5, .int (nI (k + 1))), (3, .int 1), (4, .int (nI i)), (0, .ref x1), (1, .ref x2), (2, .int mo)]) hx hb dL_areAlike_194 hl (k := 1) rfl (nI_1 k) (by decide) rfl (fun ls hl => ?_)
            refine lv_goto (tgt := 152) hx hb dL_areAlike_197 (by decide) ?_
            exact ih (k + 1) ua2 ub1 H locs ls (by omega) (by omega) hR3 hv3 hP hD hS (lv_sub hl [0, 2, 1, 3, 4, 5] rfl)
          · skip
            have hk9 : k = (ua.1.1.1 i).length := by omega
            have hno := lo_out hR h1 h4 hk9
            refine kl_SA (As := [.ref x1, .int (nI i), .int (nI k)]) (rest := []) ⟨hx, hb, hml, hown, hts⟩ (c_L_at_no l hl9 D cy x1 lh1 lk1 ph1 pk1 q1 qt1 ua hR.1 i h1 h4 (nI k) hno.1) (vx_cwSW 3 hts gL_areAlike_L_at rfl rfl rfl (by decide +kernel) ⟨Nat.le_of_ble_eq_true rfl, Nat.le_of_ble_eq_true rfl⟩) hK hE hZ hP hD hS hA rfl hl.1 rfl (Nat.le_of_ble_eq_true rfl) dL_areAlike_161 ⟨(by show 2 * (i - 1) + 1 ≤ 8; omega), (by show 12 * (i - 1) + 6 ≤ 48; omega)⟩ (fun ua1 H locs hu9 hv9 hP hD hS => ?_)
            have hR1 := hR.same (ua1 := ua1) (ub1 := ub) hu9 hv9 hR.2.1 rfl
            have hv1 := hv9.trans hv
            refine lv_if_lt (tgt := 200) hx hb dL_areAlike_164 (by decide) (fun _ => ?_) (fun c9 => absurd (by decide) c9)
            refine lv_iload_n hx hb dL_areAlike_200 rfl (lv_at hl 2 rfl) ?_
            refine lv_if_eq (tgt := 221) hx hb dL_areAlike_201 (by decide) (fun c9 => absurd c9 (by decide)) (fun _ => ?_)
            refine lv_aload_n hx hb dL_areAlike_204 rfl (lv_at hl 4 rfl) ?_
            refine lv_iload hx hb dL_areAlike_205 (lv_at hl 1 rfl) ?_
            refine lv_iload hx hb dL_areAlike_207 (lv_at hl 0 rfl) ?_
            refine kl_SB (As := [.ref x2, .int (nI i), .int (nI k)]) (rest := []) ⟨hx, hb, hml, hown, hts⟩ (c_L_at_no l hl9 D cy x2 lh2 lk2 ph2 pk2 q2 qt2 ub hR1.2.1 i h1 h4 (nI k) hno.2) (vx_cwSW 3 hts gL_areAlike_L_at rfl rfl rfl (by decide +kernel) ⟨Nat.le_of_ble_eq_true rfl, Nat.le_of_ble_eq_true rfl⟩) hK hE hZ hP hD hS hA rfl hl.1 rfl (Nat.le_of_ble_eq_true rfl) dL_areAlike_209 ⟨(by show 2 * (i - 1) + 1 + 1 ≤ 8; omega), (by show 12 * (i - 1) + 6 + 6 ≤ 48; omega)⟩ (fun ub1 H locs hu8 hv8 hP hD hS => ?_)
            have hR2 := hR1.same (ua1 := ua1) (ub1 := ub1) hR1.1 rfl hu8 hv8
            refine lv_bipush (v := (-5)) hx hb dL_areAlike_212 (by decide) ?_
            refine lv_icmp_ne (tgt := 221) hx hb dL_areAlike_214 (by decide) (fun c9 => absurd rfl c9) (fun _ => ?_)
            refine lv_iconst (v := 1) hx hb dL_areAlike_217 (by decide) ?_
            refine lv_goto (tgt := 222) hx hb dL_areAlike_218 (by decide) ?_
            refine lv_istore_n (lv' := [(3, .int 1), (5, .int (nI k)), (4, .int (nI i)), (0, .ref x1), (1, .ref x2), (2, .int mo)]) hx hb dL_areAlike_222 rfl hl (by decide) rfl (fun ls hl => ?_)
            refine lv_iinc (v := nI (i + 1)) (lv' := [(4, .int (nI (i + 1))), (3, .int 1), (5, .int (nI k)), (0, .ref x1), (1, .ref x2), (2, .int mo)]) hx hb dL_areAlike_223 hl (k := 2) rfl (nI_1 i) (by decide) rfl (fun ls hl => ?_)
            refine lv_goto (tgt := 139) hx hb dL_areAlike_226 (by decide) ?_
            refine W.widen (k := 2 * (i + 1 - 1)) (n := 12 * (i + 1 - 1)) (by omega) (by omega) ?_
            exact ihA (i + 1) ua1 ub1 H locs ls (by omega) (by omega) (by omega) hR2 hv1 hP hD hS (lv_sub hl [0, 1, 3, 4, 5] rfl)
      exact lq ((uA.1.1.1 i).length + 1) 0 ua ub H locs ls (by omega) (Nat.zero_le _) hR hv hP hD hS hl
  refine lv_aload_n hx hb dL_areAlike_0 rfl (lv_at hl 0 rfl) ?_
  refine ki_cVR (As := []) (rest := []) ⟨hx, hb, hml, hown, hts⟩ (c_X2_target l D cy x1 lh1 ph1 q1 qt1 uA.1.1 uA.1.2 uA.2.1.1) (cwV 0 hts gL_areAlike_X2_target rfl rfl rfl (by decide +kernel) ⟨Nat.le_of_ble_eq_true rfl, Nat.le_of_ble_eq_true rfl⟩) hK hE hP [0] rfl [0, 1, 2, 3, 4, 5, 6, 7, 8, 9] rfl 2 0 rfl rfl rfl rfl hl.1 rfl (Nat.le_of_ble_eq_true rfl) dL_areAlike_1 ⟨Nat.le_of_ble_eq_true rfl, Nat.le_of_ble_eq_true rfl⟩ ?_
  refine lv_aload_n hx hb dL_areAlike_4 rfl (lv_at hl 1 rfl) ?_
  refine ki_cVR (As := []) (rest := [.int ((uA.1.1).2 5)]) ⟨hx, hb, hml, hown, hts⟩ (c_X2_target l D cy x2 lh2 ph2 q2 qt2 uB.1.1 uB.1.2 uB.2.1.1) (cwV 0 hts gL_areAlike_X2_target rfl rfl rfl (by decide +kernel) ⟨Nat.le_of_ble_eq_true rfl, Nat.le_of_ble_eq_true rfl⟩) hK hE hP [0] rfl [23, 24, 25, 26, 27, 28, 29, 30, 31, 32] rfl 2 23 rfl rfl rfl rfl hl.1 rfl (Nat.le_of_ble_eq_true rfl) dL_areAlike_5 ⟨Nat.le_of_ble_eq_true rfl, Nat.le_of_ble_eq_true rfl⟩ ?_
  refine lv_icmp_ne (tgt := 92) hx hb dL_areAlike_8 (by decide) (fun c9 => absurd (by rw [hR.st]; exact rfl) c9) (fun _ => ?_)
  refine lv_aload_n hx hb dL_areAlike_11 rfl (lv_at hl 0 rfl) ?_
  refine ki_cVR (As := []) (rest := []) ⟨hx, hb, hml, hown, hts⟩ (c_X2_run l D cy x1 lh1 ph1 q1 qt1 uA.1.1 uA.1.2 uA.2.1.1) (cwV 0 hts gL_areAlike_X2_run rfl rfl rfl (by decide +kernel) ⟨Nat.le_of_ble_eq_true rfl, Nat.le_of_ble_eq_true rfl⟩) hK hE hP [0] rfl [0, 1, 2, 3, 4, 5, 6, 7, 8, 9] rfl 2 0 rfl rfl rfl rfl hl.1 rfl (Nat.le_of_ble_eq_true rfl) dL_areAlike_12 ⟨Nat.le_of_ble_eq_true rfl, Nat.le_of_ble_eq_true rfl⟩ ?_
  refine lv_aload_n hx hb dL_areAlike_15 rfl (lv_at hl 1 rfl) ?_
  refine ki_cVR (As := []) (rest := [.int ((uA.1.1).2 8)]) ⟨hx, hb, hml, hown, hts⟩ (c_X2_run l D cy x2 lh2 ph2 q2 qt2 uB.1.1 uB.1.2 uB.2.1.1) (cwV 0 hts gL_areAlike_X2_run rfl rfl rfl (by decide +kernel) ⟨Nat.le_of_ble_eq_true rfl, Nat.le_of_ble_eq_true rfl⟩) hK hE hP [0] rfl [23, 24, 25, 26, 27, 28, 29, 30, 31, 32] rfl 2 23 rfl rfl rfl rfl hl.1 rfl (Nat.le_of_ble_eq_true rfl) dL_areAlike_16 ⟨Nat.le_of_ble_eq_true rfl, Nat.le_of_ble_eq_true rfl⟩ ?_
  refine lv_icmp_ne (tgt := 92) hx hb dL_areAlike_19 (by decide) (fun c9 => absurd (by rw [hR.st]; exact rfl) c9) (fun _ => ?_)
  refine lv_aload_n hx hb dL_areAlike_22 rfl (lv_at hl 0 rfl) ?_
  refine ki_cVR (As := []) (rest := []) ⟨hx, hb, hml, hown, hts⟩ (c_X2_size l D cy x1 lh1 ph1 q1 qt1 uA.1.1 uA.1.2 uA.2.1.1) (cwV 0 hts gL_areAlike_X2_size rfl rfl rfl (by decide +kernel) ⟨Nat.le_of_ble_eq_true rfl, Nat.le_of_ble_eq_true rfl⟩) hK hE hP [0] rfl [0, 1, 2, 3, 4, 5, 6, 7, 8, 9] rfl 2 0 rfl rfl rfl rfl hl.1 rfl (Nat.le_of_ble_eq_true rfl) dL_areAlike_23 ⟨Nat.le_of_ble_eq_true rfl, Nat.le_of_ble_eq_true rfl⟩ ?_
  refine lv_aload_n hx hb dL_areAlike_26 rfl (lv_at hl 1 rfl) ?_
  refine ki_cVR (As := []) (rest := [.int (c_pages uA.1.1)]) ⟨hx, hb, hml, hown, hts⟩ (c_X2_size l D cy x2 lh2 ph2 q2 qt2 uB.1.1 uB.1.2 uB.2.1.1) (cwV 0 hts gL_areAlike_X2_size rfl rfl rfl (by decide +kernel) ⟨Nat.le_of_ble_eq_true rfl, Nat.le_of_ble_eq_true rfl⟩) hK hE hP [0] rfl [23, 24, 25, 26, 27, 28, 29, 30, 31, 32] rfl 2 23 rfl rfl rfl rfl hl.1 rfl (Nat.le_of_ble_eq_true rfl) dL_areAlike_27 ⟨Nat.le_of_ble_eq_true rfl, Nat.le_of_ble_eq_true rfl⟩ ?_
  refine lv_icmp_ne (tgt := 92) hx hb dL_areAlike_30 (by decide) (fun c9 => absurd (by rw [hR.st]; exact (s_pages mo uA.1.1).symm) c9) (fun _ => ?_)
  refine lv_aload_n hx hb dL_areAlike_33 rfl (lv_at hl 0 rfl) ?_
  refine ki_cVR (As := []) (rest := []) ⟨hx, hb, hml, hown, hts⟩ (c_X2_requests l D cy x1 lh1 ph1 q1 qt1 uA.1.1 uA.1.2 uA.2.1.1) (cwV 0 hts gL_areAlike_X2_requests rfl rfl rfl (by decide +kernel) ⟨Nat.le_of_ble_eq_true rfl, Nat.le_of_ble_eq_true rfl⟩) hK hE hP [0] rfl [0, 1, 2, 3, 4, 5, 6, 7, 8, 9] rfl 2 0 rfl rfl rfl rfl hl.1 rfl (Nat.le_of_ble_eq_true rfl) dL_areAlike_34 ⟨Nat.le_of_ble_eq_true rfl, Nat.le_of_ble_eq_true rfl⟩ ?_
  refine lv_aload_n hx hb dL_areAlike_37 rfl (lv_at hl 1 rfl) ?_
  refine ki_cVR (As := []) (rest := [.int (uA.2.1.1 0)]) ⟨hx, hb, hml, hown, hts⟩ (c_X2_requests l D cy x2 lh2 ph2 q2 qt2 uB.1.1 uB.1.2 uB.2.1.1) (cwV 0 hts gL_areAlike_X2_requests rfl rfl rfl (by decide +kernel) ⟨Nat.le_of_ble_eq_true rfl, Nat.le_of_ble_eq_true rfl⟩) hK hE hP [0] rfl [23, 24, 25, 26, 27, 28, 29, 30, 31, 32] rfl 2 23 rfl rfl rfl rfl hl.1 rfl (Nat.le_of_ble_eq_true rfl) dL_areAlike_38 ⟨Nat.le_of_ble_eq_true rfl, Nat.le_of_ble_eq_true rfl⟩ ?_
  refine lv_icmp_ne (tgt := 92) hx hb dL_areAlike_41 (by decide) (fun c9 => absurd (by rw [hR.kk]) c9) (fun _ => ?_)
  refine lv_aload_n hx hb dL_areAlike_44 rfl (lv_at hl 0 rfl) ?_
  refine ki_cVR (As := []) (rest := []) ⟨hx, hb, hml, hown, hts⟩ (c_X2_hits l D cy x1 lh1 ph1 q1 qt1 uA.1.1 uA.1.2 uA.2.1.1) (cwV 0 hts gL_areAlike_X2_hits rfl rfl rfl (by decide +kernel) ⟨Nat.le_of_ble_eq_true rfl, Nat.le_of_ble_eq_true rfl⟩) hK hE hP [0] rfl [0, 1, 2, 3, 4, 5, 6, 7, 8, 9] rfl 2 0 rfl rfl rfl rfl hl.1 rfl (Nat.le_of_ble_eq_true rfl) dL_areAlike_45 ⟨Nat.le_of_ble_eq_true rfl, Nat.le_of_ble_eq_true rfl⟩ ?_
  refine lv_aload_n hx hb dL_areAlike_48 rfl (lv_at hl 1 rfl) ?_
  refine ki_cVR (As := []) (rest := [.int (uA.2.1.1 1)]) ⟨hx, hb, hml, hown, hts⟩ (c_X2_hits l D cy x2 lh2 ph2 q2 qt2 uB.1.1 uB.1.2 uB.2.1.1) (cwV 0 hts gL_areAlike_X2_hits rfl rfl rfl (by decide +kernel) ⟨Nat.le_of_ble_eq_true rfl, Nat.le_of_ble_eq_true rfl⟩) hK hE hP [0] rfl [23, 24, 25, 26, 27, 28, 29, 30, 31, 32] rfl 2 23 rfl rfl rfl rfl hl.1 rfl (Nat.le_of_ble_eq_true rfl) dL_areAlike_49 ⟨Nat.le_of_ble_eq_true rfl, Nat.le_of_ble_eq_true rfl⟩ ?_
  refine lv_icmp_ne (tgt := 92) hx hb dL_areAlike_52 (by decide) (fun c9 => absurd (by rw [hR.kk]) c9) (fun _ => ?_)
  refine lv_aload_n hx hb dL_areAlike_55 rfl (lv_at hl 0 rfl) ?_
  refine ki_cVR (As := []) (rest := []) ⟨hx, hb, hml, hown, hts⟩ (c_X2_ghostHits l D cy x1 lh1 ph1 q1 qt1 uA.1.1 uA.1.2 uA.2.1.1) (cwV 0 hts gL_areAlike_X2_ghostHits rfl rfl rfl (by decide +kernel) ⟨Nat.le_of_ble_eq_true rfl, Nat.le_of_ble_eq_true rfl⟩) hK hE hP [0] rfl [0, 1, 2, 3, 4, 5, 6, 7, 8, 9] rfl 2 0 rfl rfl rfl rfl hl.1 rfl (Nat.le_of_ble_eq_true rfl) dL_areAlike_56 ⟨Nat.le_of_ble_eq_true rfl, Nat.le_of_ble_eq_true rfl⟩ ?_
  refine lv_aload_n hx hb dL_areAlike_59 rfl (lv_at hl 1 rfl) ?_
  refine ki_cVR (As := []) (rest := [.int (uA.2.1.1 2)]) ⟨hx, hb, hml, hown, hts⟩ (c_X2_ghostHits l D cy x2 lh2 ph2 q2 qt2 uB.1.1 uB.1.2 uB.2.1.1) (cwV 0 hts gL_areAlike_X2_ghostHits rfl rfl rfl (by decide +kernel) ⟨Nat.le_of_ble_eq_true rfl, Nat.le_of_ble_eq_true rfl⟩) hK hE hP [0] rfl [23, 24, 25, 26, 27, 28, 29, 30, 31, 32] rfl 2 23 rfl rfl rfl rfl hl.1 rfl (Nat.le_of_ble_eq_true rfl) dL_areAlike_60 ⟨Nat.le_of_ble_eq_true rfl, Nat.le_of_ble_eq_true rfl⟩ ?_
  refine lv_icmp_ne (tgt := 92) hx hb dL_areAlike_63 (by decide) (fun c9 => absurd (by rw [hR.kk]) c9) (fun _ => ?_)
  refine lv_aload_n hx hb dL_areAlike_66 rfl (lv_at hl 0 rfl) ?_
  refine ki_cVR (As := []) (rest := []) ⟨hx, hb, hml, hown, hts⟩ (c_X2_bypassed l D cy x1 lh1 ph1 q1 qt1 uA.1.1 uA.1.2 uA.2.1.1) (cwV 0 hts gL_areAlike_X2_bypassed rfl rfl rfl (by decide +kernel) ⟨Nat.le_of_ble_eq_true rfl, Nat.le_of_ble_eq_true rfl⟩) hK hE hP [0] rfl [0, 1, 2, 3, 4, 5, 6, 7, 8, 9] rfl 2 0 rfl rfl rfl rfl hl.1 rfl (Nat.le_of_ble_eq_true rfl) dL_areAlike_67 ⟨Nat.le_of_ble_eq_true rfl, Nat.le_of_ble_eq_true rfl⟩ ?_
  refine lv_aload_n hx hb dL_areAlike_70 rfl (lv_at hl 1 rfl) ?_
  refine ki_cVR (As := []) (rest := [.int (uA.2.1.1 3)]) ⟨hx, hb, hml, hown, hts⟩ (c_X2_bypassed l D cy x2 lh2 ph2 q2 qt2 uB.1.1 uB.1.2 uB.2.1.1) (cwV 0 hts gL_areAlike_X2_bypassed rfl rfl rfl (by decide +kernel) ⟨Nat.le_of_ble_eq_true rfl, Nat.le_of_ble_eq_true rfl⟩) hK hE hP [0] rfl [23, 24, 25, 26, 27, 28, 29, 30, 31, 32] rfl 2 23 rfl rfl rfl rfl hl.1 rfl (Nat.le_of_ble_eq_true rfl) dL_areAlike_71 ⟨Nat.le_of_ble_eq_true rfl, Nat.le_of_ble_eq_true rfl⟩ ?_
  refine lv_icmp_ne (tgt := 92) hx hb dL_areAlike_74 (by decide) (fun c9 => absurd (by rw [hR.kk]) c9) (fun _ => ?_)
  refine lv_aload_n hx hb dL_areAlike_77 rfl (lv_at hl 0 rfl) ?_
  refine ki_cVR (As := []) (rest := []) ⟨hx, hb, hml, hown, hts⟩ (c_X2_evictions l D cy x1 lh1 ph1 q1 qt1 uA.1.1 uA.1.2 uA.2.1.1) (cwV 0 hts gL_areAlike_X2_evictions rfl rfl rfl (by decide +kernel) ⟨Nat.le_of_ble_eq_true rfl, Nat.le_of_ble_eq_true rfl⟩) hK hE hP [0] rfl [0, 1, 2, 3, 4, 5, 6, 7, 8, 9] rfl 2 0 rfl rfl rfl rfl hl.1 rfl (Nat.le_of_ble_eq_true rfl) dL_areAlike_78 ⟨Nat.le_of_ble_eq_true rfl, Nat.le_of_ble_eq_true rfl⟩ ?_
  refine lv_aload_n hx hb dL_areAlike_81 rfl (lv_at hl 1 rfl) ?_
  refine ki_cVR (As := []) (rest := [.int ((uA.1.1).2 10)]) ⟨hx, hb, hml, hown, hts⟩ (c_X2_evictions l D cy x2 lh2 ph2 q2 qt2 uB.1.1 uB.1.2 uB.2.1.1) (cwV 0 hts gL_areAlike_X2_evictions rfl rfl rfl (by decide +kernel) ⟨Nat.le_of_ble_eq_true rfl, Nat.le_of_ble_eq_true rfl⟩) hK hE hP [0] rfl [23, 24, 25, 26, 27, 28, 29, 30, 31, 32] rfl 2 23 rfl rfl rfl rfl hl.1 rfl (Nat.le_of_ble_eq_true rfl) dL_areAlike_82 ⟨Nat.le_of_ble_eq_true rfl, Nat.le_of_ble_eq_true rfl⟩ ?_
  refine lv_icmp_ne (tgt := 92) hx hb dL_areAlike_85 (by decide) (fun c9 => absurd (by rw [hR.st]; exact rfl) c9) (fun _ => ?_)
  refine lv_iconst (v := 1) hx hb dL_areAlike_88 (by decide) ?_
  refine lv_goto (tgt := 93) hx hb dL_areAlike_89 (by decide) ?_
  refine lv_istore_n (lv' := [(3, .int 1), (0, .ref x1), (1, .ref x2), (2, .int mo)]) hx hb dL_areAlike_93 rfl hl (by decide) rfl (fun ls hl => ?_)
  refine lv_iload_n hx hb dL_areAlike_94 rfl (lv_at hl 0 rfl) ?_
  refine lv_if_eq (tgt := 134) hx hb dL_areAlike_95 (by decide) (fun c9 => absurd c9 (by decide)) (fun _ => ?_)
  obtain ⟨hvi, hvo⟩ := s_victim (m := mo) hR.2.2.1.1
  have hvb : c_victim uB.1.1 = s_a mo (c_victim uA.1.1) := by rw [hR.st]; exact hvi
  have hvo : s_o (c_victim uA.1.1) := hvo
  refine lv_aload_n hx hb dL_areAlike_98 rfl (lv_at hl 1 rfl) ?_
  refine ki_cVR (As := []) (rest := []) ⟨hx, hb, hml, hown, hts⟩ (c_X2_victim l D cy x1 lh1 ph1 q1 qt1 uA.1.1 uA.1.2 uA.2.1.1 hR.1.1) (cwV 0 hts gL_areAlike_X2_victim rfl rfl rfl (by decide +kernel) ⟨Nat.le_of_ble_eq_true rfl, Nat.le_of_ble_eq_true rfl⟩) hK hE hP [0] rfl [0, 1, 2, 3, 4, 5, 6, 7, 8, 9] rfl 2 0 rfl rfl rfl rfl hl.1 rfl (Nat.le_of_ble_eq_true rfl) dL_areAlike_99 ⟨Nat.le_of_ble_eq_true rfl, Nat.le_of_ble_eq_true rfl⟩ ?_
  refine lv_iconst (v := (-1)) hx hb dL_areAlike_102 (by decide) ?_
  refine lv_icmp_ne (tgt := 117) hx hb dL_areAlike_103 (by decide) (fun c1 => ?_) (fun c1 => ?_)
  · skip
    have hvk : s_k (c_victim uA.1.1) := hvo.elim (fun h9 => absurd h9 c1) id
    refine lv_aload_n hx hb dL_areAlike_117 rfl (lv_at hl 2 rfl) ?_
    refine ki_cVR (As := []) (rest := []) ⟨hx, hb, hml, hown, hts⟩ (c_X2_victim l D cy x2 lh2 ph2 q2 qt2 uB.1.1 uB.1.2 uB.2.1.1 hR.2.1.1) (cwV 0 hts gL_areAlike_X2_victim rfl rfl rfl (by decide +kernel) ⟨Nat.le_of_ble_eq_true rfl, Nat.le_of_ble_eq_true rfl⟩) hK hE hP [0] rfl [23, 24, 25, 26, 27, 28, 29, 30, 31, 32] rfl 2 23 rfl rfl rfl rfl hl.1 rfl (Nat.le_of_ble_eq_true rfl) dL_areAlike_118 ⟨Nat.le_of_ble_eq_true rfl, Nat.le_of_ble_eq_true rfl⟩ ?_
    refine lv_aload_n hx hb dL_areAlike_121 rfl (lv_at hl 1 rfl) ?_
    refine ki_cVR (As := []) (rest := [.int (c_victim uB.1.1)]) ⟨hx, hb, hml, hown, hts⟩ (c_X2_victim l D cy x1 lh1 ph1 q1 qt1 uA.1.1 uA.1.2 uA.2.1.1 hR.1.1) (cwV 0 hts gL_areAlike_X2_victim rfl rfl rfl (by decide +kernel) ⟨Nat.le_of_ble_eq_true rfl, Nat.le_of_ble_eq_true rfl⟩) hK hE hP [0] rfl [0, 1, 2, 3, 4, 5, 6, 7, 8, 9] rfl 2 0 rfl rfl rfl rfl hl.1 rfl (Nat.le_of_ble_eq_true rfl) dL_areAlike_122 ⟨Nat.le_of_ble_eq_true rfl, Nat.le_of_ble_eq_true rfl⟩ ?_
    refine lv_iload_n hx hb dL_areAlike_125 rfl (lv_at hl 3 rfl) ?_
    refine lv_iadd hx hb dL_areAlike_126 ?_
    refine lv_icmp_ne (tgt := 134) hx hb dL_areAlike_127 (by decide) (fun c9 => absurd (by rw [hvb, s_ak hvk]) c9) (fun _ => ?_)
    refine lv_iconst (v := 1) hx hb dL_areAlike_130 (by decide) ?_
    refine lv_goto (tgt := 135) hx hb dL_areAlike_131 (by decide) ?_
    refine lv_istore_n (lv' := [(3, .int 1), (0, .ref x1), (1, .ref x2), (2, .int mo)]) hx hb dL_areAlike_135 rfl hl (by decide) rfl (fun ls hl => ?_)
    refine lv_iconst (v := 1) hx hb dL_areAlike_136 (by decide) ?_
    refine lv_istore (lv' := [(4, .int 1), (3, .int 1), (0, .ref x1), (1, .ref x2), (2, .int mo)]) hx hb dL_areAlike_137 hl (by decide) rfl (fun ls hl => ?_)
    exact lp 5 1 uA uB s.heap [] ls (by decide) (by decide) (by decide) hR rfl hP hD hS hl
  · skip
    refine lv_aload_n hx hb dL_areAlike_106 rfl (lv_at hl 2 rfl) ?_
    refine ki_cVR (As := []) (rest := []) ⟨hx, hb, hml, hown, hts⟩ (c_X2_victim l D cy x2 lh2 ph2 q2 qt2 uB.1.1 uB.1.2 uB.2.1.1 hR.2.1.1) (cwV 0 hts gL_areAlike_X2_victim rfl rfl rfl (by decide +kernel) ⟨Nat.le_of_ble_eq_true rfl, Nat.le_of_ble_eq_true rfl⟩) hK hE hP [0] rfl [23, 24, 25, 26, 27, 28, 29, 30, 31, 32] rfl 2 23 rfl rfl rfl rfl hl.1 rfl (Nat.le_of_ble_eq_true rfl) dL_areAlike_107 ⟨Nat.le_of_ble_eq_true rfl, Nat.le_of_ble_eq_true rfl⟩ ?_
    refine lv_iconst (v := (-1)) hx hb dL_areAlike_110 (by decide) ?_
    refine lv_icmp_ne (tgt := 134) hx hb dL_areAlike_111 (by decide) (fun c9 => absurd (by rw [hvb, c1]; rfl) c9) (fun _ => ?_)
    refine lv_goto (tgt := 130) hx hb dL_areAlike_114 (by decide) ?_
    refine lv_iconst (v := 1) hx hb dL_areAlike_130 (by decide) ?_
    refine lv_goto (tgt := 135) hx hb dL_areAlike_131 (by decide) ?_
    refine lv_istore_n (lv' := [(3, .int 1), (0, .ref x1), (1, .ref x2), (2, .int mo)]) hx hb dL_areAlike_135 rfl hl (by decide) rfl (fun ls hl => ?_)
    refine lv_iconst (v := 1) hx hb dL_areAlike_136 (by decide) ?_
    refine lv_istore (lv' := [(4, .int 1), (3, .int 1), (0, .ref x1), (1, .ref x2), (2, .int mo)]) hx hb dL_areAlike_137 hl (by decide) rfl (fun ls hl => ?_)
    exact lp 5 1 uA uB s.heap [] ls (by decide) (by decide) (by decide) hR rfl hP hD hS hl
