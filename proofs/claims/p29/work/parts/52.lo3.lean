/-! ===== the law's at ===== -/
set_option maxHeartbeats 4000000 in
set_option maxRecDepth 100000 in
theorem c_L_at1 (l : Launch) (D : va_G) (cy : ClassId) (x lh lk ph pk : Nat) (q qt : Nat → Nat) (u : lo_U) (hu : lo_ok u) (i : Int32) (hg : ¬ a_badPlace (u.1.1.1 1) i) : lo_C l yL_at wsL_at ({ frames := 8, cells := 0, slots := 0, locals := 124 }) 0 0 D cy x lh lk ph pk q qt [.ref x, .int 1, .int i] u (k_at (u.1.1.1 1) (nI (u.1.1.1 1).length - 1 - i)) (lo_v u) := by
  obtain ⟨⟨st, F⟩, ⟨kk, lg, fl⟩, ⟨sT, FT⟩, pg, fp⟩ := u
  obtain ⟨hR0, hlg, hRT, hpg⟩ := hu
  have hR0 : ki_reps F st.1 := hR0
  have hlg : ki_rep fl lg := hlg
  have hRT : ki_reps FT sT.1 := hRT
  have hpg : ki_rep fp pg := hpg
  have hg : ¬ a_badPlace (st.1 1) i := hg
  refine kw_ofH (cc := cL_at) (maxL := 4) (ret := some .int) (by decide +kernel) rfl (Nat.le_of_ble_eq_true rfl) ?_
  intro p e s m args below meth c A ls htab hZ hx hb hr hts hown hlk hml hK hE hP hD hA hS hl
  have hown : s.vm.findClass RL = some m.cls := hown
  have hP : va_P D vwCl [(x, .inr (2, [.ref (q 0), .ref lh, .int (kk 0), .int (kk 1), .int (kk 2), .int (kk 3), .ref (qt 0), .ref ph])), (q 0, .inr (0, [.ref (q 1), .ref (q 2), .ref (q 3), .ref (q 4), .int (st.2 6), .int (st.2 5), .int (st.2 7), .int (st.2 8), .int (st.2 9), .int (st.2 10)])), (q 1, .inr (1, [.ref (q 5), .int (nI (st.1 1).length)])), (q 2, .inr (1, [.ref (q 6), .int (nI (st.1 2).length)])), (q 3, .inr (1, [.ref (q 7), .int (nI (st.1 3).length)])), (q 4, .inr (1, [.ref (q 8), .int (nI (st.1 4).length)])), (q 5, .inl (cy, 64, .inl (F 1))), (q 6, .inl (cy, 64, .inl (F 2))), (q 7, .inl (cy, 64, .inl (F 3))), (q 8, .inl (cy, 64, .inl (F 4))), (lh, .inr (1, [.ref lk, .int (nI lg.length)])), (lk, .inl (cy, 64, .inl fl)), (qt 0, .inr (0, [.ref (qt 1), .ref (qt 2), .ref (qt 3), .ref (qt 4), .int (sT.2 6), .int (sT.2 5), .int (sT.2 7), .int (sT.2 8), .int (sT.2 9), .int (sT.2 10)])), (qt 1, .inr (1, [.ref (qt 5), .int (nI (sT.1 1).length)])), (qt 2, .inr (1, [.ref (qt 6), .int (nI (sT.1 2).length)])), (qt 3, .inr (1, [.ref (qt 7), .int (nI (sT.1 3).length)])), (qt 4, .inr (1, [.ref (qt 8), .int (nI (sT.1 4).length)])), (qt 5, .inl (cy, 64, .inl (FT 1))), (qt 6, .inl (cy, 64, .inl (FT 2))), (qt 7, .inl (cy, 64, .inl (FT 3))), (qt 8, .inl (cy, 64, .inl (FT 4))), (ph, .inr (1, [.ref pk, .int (nI pg.length)])), (pk, .inl (cy, 64, .inl fp))] s.heap := hP
  have hD : va_D A [(x, .inr (2, [.ref (q 0), .ref lh, .int (kk 0), .int (kk 1), .int (kk 2), .int (kk 3), .ref (qt 0), .ref ph])), (q 0, .inr (0, [.ref (q 1), .ref (q 2), .ref (q 3), .ref (q 4), .int (st.2 6), .int (st.2 5), .int (st.2 7), .int (st.2 8), .int (st.2 9), .int (st.2 10)])), (q 1, .inr (1, [.ref (q 5), .int (nI (st.1 1).length)])), (q 2, .inr (1, [.ref (q 6), .int (nI (st.1 2).length)])), (q 3, .inr (1, [.ref (q 7), .int (nI (st.1 3).length)])), (q 4, .inr (1, [.ref (q 8), .int (nI (st.1 4).length)])), (q 5, .inl (cy, 64, .inl (F 1))), (q 6, .inl (cy, 64, .inl (F 2))), (q 7, .inl (cy, 64, .inl (F 3))), (q 8, .inl (cy, 64, .inl (F 4))), (lh, .inr (1, [.ref lk, .int (nI lg.length)])), (lk, .inl (cy, 64, .inl fl)), (qt 0, .inr (0, [.ref (qt 1), .ref (qt 2), .ref (qt 3), .ref (qt 4), .int (sT.2 6), .int (sT.2 5), .int (sT.2 7), .int (sT.2 8), .int (sT.2 9), .int (sT.2 10)])), (qt 1, .inr (1, [.ref (qt 5), .int (nI (sT.1 1).length)])), (qt 2, .inr (1, [.ref (qt 6), .int (nI (sT.1 2).length)])), (qt 3, .inr (1, [.ref (qt 7), .int (nI (sT.1 3).length)])), (qt 4, .inr (1, [.ref (qt 8), .int (nI (sT.1 4).length)])), (qt 5, .inl (cy, 64, .inl (FT 1))), (qt 6, .inl (cy, 64, .inl (FT 2))), (qt 7, .inl (cy, 64, .inl (FT 3))), (qt 8, .inl (cy, 64, .inl (FT 4))), (ph, .inr (1, [.ref pk, .int (nI pg.length)])), (pk, .inl (cy, 64, .inl fp))] := hD
  have hl : lv_has ls 4 [(0, .ref x), (1, .int 1), (2, .int i)] := hl
  refine lv_iload_n hx hb dL_at_0 rfl (lv_at hl 1 rfl) ?_
  refine lv_iconst (v := 1) hx hb dL_at_1 (by decide) ?_
  refine lv_icmp_ne (tgt := 13) hx hb dL_at_2 (by decide) (fun c_1 => ?_) (fun c_1 => ?_)
  · exact absurd (by decide) c_1
  · skip
    refine lv_aload_n hx hb dL_at_5 rfl (lv_at hl 0 rfl) ?_
    refine lv_iload_n hx hb dL_at_6 rfl (lv_at hl 2 rfl) ?_
    refine ki_cVR (As := [.int i]) (rest := []) ⟨hx, hb, hml, hown, hts⟩ (c_X2_recentAt_ok l D cy x lh ph q qt st F kk hR0 i hg) (cwV 1 hts gL_at_X2_recentAt rfl rfl rfl (by decide +kernel) ⟨Nat.le_of_ble_eq_true rfl, Nat.le_of_ble_eq_true rfl⟩) hK hE hP [0] rfl [0, 1, 2, 3, 4, 5, 6, 7, 8, 9] rfl 2 0 rfl rfl rfl rfl hl.1 rfl (Nat.le_of_ble_eq_true rfl) dL_at_7 ⟨Nat.le_of_ble_eq_true rfl, Nat.le_of_ble_eq_true rfl⟩ ?_
    refine lv_goto (tgt := 44) hx hb dL_at_10 (by decide) ?_
    skip
    refine vx_ret ?_
    exact ki_iret hx hb hr hlk hK hS ((st, F), (kk, (lg, fl)), (sT, FT), (pg, fp)) ⟨rfl, ⟨hR0, hlg, hRT, hpg⟩, rfl⟩ hP hD dL_at_44
set_option maxHeartbeats 4000000 in
set_option maxRecDepth 100000 in
theorem c_L_at2 (l : Launch) (D : va_G) (cy : ClassId) (x lh lk ph pk : Nat) (q qt : Nat → Nat) (u : lo_U) (hu : lo_ok u) (i : Int32) (hg : ¬ a_badPlace (u.1.1.1 2) i) : lo_C l yL_at wsL_at ({ frames := 8, cells := 0, slots := 0, locals := 124 }) 0 0 D cy x lh lk ph pk q qt [.ref x, .int 2, .int i] u (k_at (u.1.1.1 2) (nI (u.1.1.1 2).length - 1 - i)) (lo_v u) := by
  obtain ⟨⟨st, F⟩, ⟨kk, lg, fl⟩, ⟨sT, FT⟩, pg, fp⟩ := u
  obtain ⟨hR0, hlg, hRT, hpg⟩ := hu
  have hR0 : ki_reps F st.1 := hR0
  have hlg : ki_rep fl lg := hlg
  have hRT : ki_reps FT sT.1 := hRT
  have hpg : ki_rep fp pg := hpg
  have hg : ¬ a_badPlace (st.1 2) i := hg
  refine kw_ofH (cc := cL_at) (maxL := 4) (ret := some .int) (by decide +kernel) rfl (Nat.le_of_ble_eq_true rfl) ?_
  intro p e s m args below meth c A ls htab hZ hx hb hr hts hown hlk hml hK hE hP hD hA hS hl
  have hown : s.vm.findClass RL = some m.cls := hown
  have hP : va_P D vwCl [(x, .inr (2, [.ref (q 0), .ref lh, .int (kk 0), .int (kk 1), .int (kk 2), .int (kk 3), .ref (qt 0), .ref ph])), (q 0, .inr (0, [.ref (q 1), .ref (q 2), .ref (q 3), .ref (q 4), .int (st.2 6), .int (st.2 5), .int (st.2 7), .int (st.2 8), .int (st.2 9), .int (st.2 10)])), (q 1, .inr (1, [.ref (q 5), .int (nI (st.1 1).length)])), (q 2, .inr (1, [.ref (q 6), .int (nI (st.1 2).length)])), (q 3, .inr (1, [.ref (q 7), .int (nI (st.1 3).length)])), (q 4, .inr (1, [.ref (q 8), .int (nI (st.1 4).length)])), (q 5, .inl (cy, 64, .inl (F 1))), (q 6, .inl (cy, 64, .inl (F 2))), (q 7, .inl (cy, 64, .inl (F 3))), (q 8, .inl (cy, 64, .inl (F 4))), (lh, .inr (1, [.ref lk, .int (nI lg.length)])), (lk, .inl (cy, 64, .inl fl)), (qt 0, .inr (0, [.ref (qt 1), .ref (qt 2), .ref (qt 3), .ref (qt 4), .int (sT.2 6), .int (sT.2 5), .int (sT.2 7), .int (sT.2 8), .int (sT.2 9), .int (sT.2 10)])), (qt 1, .inr (1, [.ref (qt 5), .int (nI (sT.1 1).length)])), (qt 2, .inr (1, [.ref (qt 6), .int (nI (sT.1 2).length)])), (qt 3, .inr (1, [.ref (qt 7), .int (nI (sT.1 3).length)])), (qt 4, .inr (1, [.ref (qt 8), .int (nI (sT.1 4).length)])), (qt 5, .inl (cy, 64, .inl (FT 1))), (qt 6, .inl (cy, 64, .inl (FT 2))), (qt 7, .inl (cy, 64, .inl (FT 3))), (qt 8, .inl (cy, 64, .inl (FT 4))), (ph, .inr (1, [.ref pk, .int (nI pg.length)])), (pk, .inl (cy, 64, .inl fp))] s.heap := hP
  have hD : va_D A [(x, .inr (2, [.ref (q 0), .ref lh, .int (kk 0), .int (kk 1), .int (kk 2), .int (kk 3), .ref (qt 0), .ref ph])), (q 0, .inr (0, [.ref (q 1), .ref (q 2), .ref (q 3), .ref (q 4), .int (st.2 6), .int (st.2 5), .int (st.2 7), .int (st.2 8), .int (st.2 9), .int (st.2 10)])), (q 1, .inr (1, [.ref (q 5), .int (nI (st.1 1).length)])), (q 2, .inr (1, [.ref (q 6), .int (nI (st.1 2).length)])), (q 3, .inr (1, [.ref (q 7), .int (nI (st.1 3).length)])), (q 4, .inr (1, [.ref (q 8), .int (nI (st.1 4).length)])), (q 5, .inl (cy, 64, .inl (F 1))), (q 6, .inl (cy, 64, .inl (F 2))), (q 7, .inl (cy, 64, .inl (F 3))), (q 8, .inl (cy, 64, .inl (F 4))), (lh, .inr (1, [.ref lk, .int (nI lg.length)])), (lk, .inl (cy, 64, .inl fl)), (qt 0, .inr (0, [.ref (qt 1), .ref (qt 2), .ref (qt 3), .ref (qt 4), .int (sT.2 6), .int (sT.2 5), .int (sT.2 7), .int (sT.2 8), .int (sT.2 9), .int (sT.2 10)])), (qt 1, .inr (1, [.ref (qt 5), .int (nI (sT.1 1).length)])), (qt 2, .inr (1, [.ref (qt 6), .int (nI (sT.1 2).length)])), (qt 3, .inr (1, [.ref (qt 7), .int (nI (sT.1 3).length)])), (qt 4, .inr (1, [.ref (qt 8), .int (nI (sT.1 4).length)])), (qt 5, .inl (cy, 64, .inl (FT 1))), (qt 6, .inl (cy, 64, .inl (FT 2))), (qt 7, .inl (cy, 64, .inl (FT 3))), (qt 8, .inl (cy, 64, .inl (FT 4))), (ph, .inr (1, [.ref pk, .int (nI pg.length)])), (pk, .inl (cy, 64, .inl fp))] := hD
  have hl : lv_has ls 4 [(0, .ref x), (1, .int 2), (2, .int i)] := hl
  refine lv_iload_n hx hb dL_at_0 rfl (lv_at hl 1 rfl) ?_
  refine lv_iconst (v := 1) hx hb dL_at_1 (by decide) ?_
  refine lv_icmp_ne (tgt := 13) hx hb dL_at_2 (by decide) (fun c_1 => ?_) (fun c_1 => ?_)
  rotate_left
  · exact absurd c_1 (by decide)
  · skip
    refine lv_iload_n hx hb dL_at_13 rfl (lv_at hl 1 rfl) ?_
    refine lv_iconst (v := 2) hx hb dL_at_14 (by decide) ?_
    refine lv_icmp_ne (tgt := 26) hx hb dL_at_15 (by decide) (fun c_2 => ?_) (fun c_2 => ?_)
    · exact absurd (by decide) c_2
    · skip
      refine lv_aload_n hx hb dL_at_18 rfl (lv_at hl 0 rfl) ?_
      refine lv_iload_n hx hb dL_at_19 rfl (lv_at hl 2 rfl) ?_
      refine ki_cVR (As := [.int i]) (rest := []) ⟨hx, hb, hml, hown, hts⟩ (c_X2_frequentAt_ok l D cy x lh ph q qt st F kk hR0 i hg) (cwV 1 hts gL_at_X2_frequentAt rfl rfl rfl (by decide +kernel) ⟨Nat.le_of_ble_eq_true rfl, Nat.le_of_ble_eq_true rfl⟩) hK hE hP [0] rfl [0, 1, 2, 3, 4, 5, 6, 7, 8, 9] rfl 2 0 rfl rfl rfl rfl hl.1 rfl (Nat.le_of_ble_eq_true rfl) dL_at_20 ⟨Nat.le_of_ble_eq_true rfl, Nat.le_of_ble_eq_true rfl⟩ ?_
      refine lv_goto (tgt := 44) hx hb dL_at_23 (by decide) ?_
      skip
      refine vx_ret ?_
      exact ki_iret hx hb hr hlk hK hS ((st, F), (kk, (lg, fl)), (sT, FT), (pg, fp)) ⟨rfl, ⟨hR0, hlg, hRT, hpg⟩, rfl⟩ hP hD dL_at_44
set_option maxHeartbeats 4000000 in
set_option maxRecDepth 100000 in
theorem c_L_at3 (l : Launch) (D : va_G) (cy : ClassId) (x lh lk ph pk : Nat) (q qt : Nat → Nat) (u : lo_U) (hu : lo_ok u) (i : Int32) (hg : ¬ a_badPlace (u.1.1.1 3) i) : lo_C l yL_at wsL_at ({ frames := 8, cells := 0, slots := 0, locals := 124 }) 0 0 D cy x lh lk ph pk q qt [.ref x, .int 3, .int i] u (k_at (u.1.1.1 3) (nI (u.1.1.1 3).length - 1 - i)) (lo_v u) := by
  obtain ⟨⟨st, F⟩, ⟨kk, lg, fl⟩, ⟨sT, FT⟩, pg, fp⟩ := u
  obtain ⟨hR0, hlg, hRT, hpg⟩ := hu
  have hR0 : ki_reps F st.1 := hR0
  have hlg : ki_rep fl lg := hlg
  have hRT : ki_reps FT sT.1 := hRT
  have hpg : ki_rep fp pg := hpg
  have hg : ¬ a_badPlace (st.1 3) i := hg
  refine kw_ofH (cc := cL_at) (maxL := 4) (ret := some .int) (by decide +kernel) rfl (Nat.le_of_ble_eq_true rfl) ?_
  intro p e s m args below meth c A ls htab hZ hx hb hr hts hown hlk hml hK hE hP hD hA hS hl
  have hown : s.vm.findClass RL = some m.cls := hown
  have hP : va_P D vwCl [(x, .inr (2, [.ref (q 0), .ref lh, .int (kk 0), .int (kk 1), .int (kk 2), .int (kk 3), .ref (qt 0), .ref ph])), (q 0, .inr (0, [.ref (q 1), .ref (q 2), .ref (q 3), .ref (q 4), .int (st.2 6), .int (st.2 5), .int (st.2 7), .int (st.2 8), .int (st.2 9), .int (st.2 10)])), (q 1, .inr (1, [.ref (q 5), .int (nI (st.1 1).length)])), (q 2, .inr (1, [.ref (q 6), .int (nI (st.1 2).length)])), (q 3, .inr (1, [.ref (q 7), .int (nI (st.1 3).length)])), (q 4, .inr (1, [.ref (q 8), .int (nI (st.1 4).length)])), (q 5, .inl (cy, 64, .inl (F 1))), (q 6, .inl (cy, 64, .inl (F 2))), (q 7, .inl (cy, 64, .inl (F 3))), (q 8, .inl (cy, 64, .inl (F 4))), (lh, .inr (1, [.ref lk, .int (nI lg.length)])), (lk, .inl (cy, 64, .inl fl)), (qt 0, .inr (0, [.ref (qt 1), .ref (qt 2), .ref (qt 3), .ref (qt 4), .int (sT.2 6), .int (sT.2 5), .int (sT.2 7), .int (sT.2 8), .int (sT.2 9), .int (sT.2 10)])), (qt 1, .inr (1, [.ref (qt 5), .int (nI (sT.1 1).length)])), (qt 2, .inr (1, [.ref (qt 6), .int (nI (sT.1 2).length)])), (qt 3, .inr (1, [.ref (qt 7), .int (nI (sT.1 3).length)])), (qt 4, .inr (1, [.ref (qt 8), .int (nI (sT.1 4).length)])), (qt 5, .inl (cy, 64, .inl (FT 1))), (qt 6, .inl (cy, 64, .inl (FT 2))), (qt 7, .inl (cy, 64, .inl (FT 3))), (qt 8, .inl (cy, 64, .inl (FT 4))), (ph, .inr (1, [.ref pk, .int (nI pg.length)])), (pk, .inl (cy, 64, .inl fp))] s.heap := hP
  have hD : va_D A [(x, .inr (2, [.ref (q 0), .ref lh, .int (kk 0), .int (kk 1), .int (kk 2), .int (kk 3), .ref (qt 0), .ref ph])), (q 0, .inr (0, [.ref (q 1), .ref (q 2), .ref (q 3), .ref (q 4), .int (st.2 6), .int (st.2 5), .int (st.2 7), .int (st.2 8), .int (st.2 9), .int (st.2 10)])), (q 1, .inr (1, [.ref (q 5), .int (nI (st.1 1).length)])), (q 2, .inr (1, [.ref (q 6), .int (nI (st.1 2).length)])), (q 3, .inr (1, [.ref (q 7), .int (nI (st.1 3).length)])), (q 4, .inr (1, [.ref (q 8), .int (nI (st.1 4).length)])), (q 5, .inl (cy, 64, .inl (F 1))), (q 6, .inl (cy, 64, .inl (F 2))), (q 7, .inl (cy, 64, .inl (F 3))), (q 8, .inl (cy, 64, .inl (F 4))), (lh, .inr (1, [.ref lk, .int (nI lg.length)])), (lk, .inl (cy, 64, .inl fl)), (qt 0, .inr (0, [.ref (qt 1), .ref (qt 2), .ref (qt 3), .ref (qt 4), .int (sT.2 6), .int (sT.2 5), .int (sT.2 7), .int (sT.2 8), .int (sT.2 9), .int (sT.2 10)])), (qt 1, .inr (1, [.ref (qt 5), .int (nI (sT.1 1).length)])), (qt 2, .inr (1, [.ref (qt 6), .int (nI (sT.1 2).length)])), (qt 3, .inr (1, [.ref (qt 7), .int (nI (sT.1 3).length)])), (qt 4, .inr (1, [.ref (qt 8), .int (nI (sT.1 4).length)])), (qt 5, .inl (cy, 64, .inl (FT 1))), (qt 6, .inl (cy, 64, .inl (FT 2))), (qt 7, .inl (cy, 64, .inl (FT 3))), (qt 8, .inl (cy, 64, .inl (FT 4))), (ph, .inr (1, [.ref pk, .int (nI pg.length)])), (pk, .inl (cy, 64, .inl fp))] := hD
  have hl : lv_has ls 4 [(0, .ref x), (1, .int 3), (2, .int i)] := hl
  refine lv_iload_n hx hb dL_at_0 rfl (lv_at hl 1 rfl) ?_
  refine lv_iconst (v := 1) hx hb dL_at_1 (by decide) ?_
  refine lv_icmp_ne (tgt := 13) hx hb dL_at_2 (by decide) (fun c_1 => ?_) (fun c_1 => ?_)
  rotate_left
  · exact absurd c_1 (by decide)
  · skip
    refine lv_iload_n hx hb dL_at_13 rfl (lv_at hl 1 rfl) ?_
    refine lv_iconst (v := 2) hx hb dL_at_14 (by decide) ?_
    refine lv_icmp_ne (tgt := 26) hx hb dL_at_15 (by decide) (fun c_2 => ?_) (fun c_2 => ?_)
    rotate_left
    · exact absurd c_2 (by decide)
    · skip
      refine lv_iload_n hx hb dL_at_26 rfl (lv_at hl 1 rfl) ?_
      refine lv_iconst (v := 3) hx hb dL_at_27 (by decide) ?_
      refine lv_icmp_ne (tgt := 39) hx hb dL_at_28 (by decide) (fun c_3 => ?_) (fun c_3 => ?_)
      · exact absurd (by decide) c_3
      · skip
        refine lv_aload_n hx hb dL_at_31 rfl (lv_at hl 0 rfl) ?_
        refine lv_iload_n hx hb dL_at_32 rfl (lv_at hl 2 rfl) ?_
        refine ki_cVR (As := [.int i]) (rest := []) ⟨hx, hb, hml, hown, hts⟩ (c_X2_recentGhostAt_ok l D cy x lh ph q qt st F kk hR0 i hg) (cwV 1 hts gL_at_X2_recentGhostAt rfl rfl rfl (by decide +kernel) ⟨Nat.le_of_ble_eq_true rfl, Nat.le_of_ble_eq_true rfl⟩) hK hE hP [0] rfl [0, 1, 2, 3, 4, 5, 6, 7, 8, 9] rfl 2 0 rfl rfl rfl rfl hl.1 rfl (Nat.le_of_ble_eq_true rfl) dL_at_33 ⟨Nat.le_of_ble_eq_true rfl, Nat.le_of_ble_eq_true rfl⟩ ?_
        refine lv_goto (tgt := 44) hx hb dL_at_36 (by decide) ?_
        skip
        refine vx_ret ?_
        exact ki_iret hx hb hr hlk hK hS ((st, F), (kk, (lg, fl)), (sT, FT), (pg, fp)) ⟨rfl, ⟨hR0, hlg, hRT, hpg⟩, rfl⟩ hP hD dL_at_44
set_option maxHeartbeats 4000000 in
set_option maxRecDepth 100000 in
theorem c_L_at4 (l : Launch) (D : va_G) (cy : ClassId) (x lh lk ph pk : Nat) (q qt : Nat → Nat) (u : lo_U) (hu : lo_ok u) (i : Int32) (hg : ¬ a_badPlace (u.1.1.1 4) i) : lo_C l yL_at wsL_at ({ frames := 8, cells := 0, slots := 0, locals := 124 }) 0 0 D cy x lh lk ph pk q qt [.ref x, .int 4, .int i] u (k_at (u.1.1.1 4) (nI (u.1.1.1 4).length - 1 - i)) (lo_v u) := by
  obtain ⟨⟨st, F⟩, ⟨kk, lg, fl⟩, ⟨sT, FT⟩, pg, fp⟩ := u
  obtain ⟨hR0, hlg, hRT, hpg⟩ := hu
  have hR0 : ki_reps F st.1 := hR0
  have hlg : ki_rep fl lg := hlg
  have hRT : ki_reps FT sT.1 := hRT
  have hpg : ki_rep fp pg := hpg
  have hg : ¬ a_badPlace (st.1 4) i := hg
  refine kw_ofH (cc := cL_at) (maxL := 4) (ret := some .int) (by decide +kernel) rfl (Nat.le_of_ble_eq_true rfl) ?_
  intro p e s m args below meth c A ls htab hZ hx hb hr hts hown hlk hml hK hE hP hD hA hS hl
  have hown : s.vm.findClass RL = some m.cls := hown
  have hP : va_P D vwCl [(x, .inr (2, [.ref (q 0), .ref lh, .int (kk 0), .int (kk 1), .int (kk 2), .int (kk 3), .ref (qt 0), .ref ph])), (q 0, .inr (0, [.ref (q 1), .ref (q 2), .ref (q 3), .ref (q 4), .int (st.2 6), .int (st.2 5), .int (st.2 7), .int (st.2 8), .int (st.2 9), .int (st.2 10)])), (q 1, .inr (1, [.ref (q 5), .int (nI (st.1 1).length)])), (q 2, .inr (1, [.ref (q 6), .int (nI (st.1 2).length)])), (q 3, .inr (1, [.ref (q 7), .int (nI (st.1 3).length)])), (q 4, .inr (1, [.ref (q 8), .int (nI (st.1 4).length)])), (q 5, .inl (cy, 64, .inl (F 1))), (q 6, .inl (cy, 64, .inl (F 2))), (q 7, .inl (cy, 64, .inl (F 3))), (q 8, .inl (cy, 64, .inl (F 4))), (lh, .inr (1, [.ref lk, .int (nI lg.length)])), (lk, .inl (cy, 64, .inl fl)), (qt 0, .inr (0, [.ref (qt 1), .ref (qt 2), .ref (qt 3), .ref (qt 4), .int (sT.2 6), .int (sT.2 5), .int (sT.2 7), .int (sT.2 8), .int (sT.2 9), .int (sT.2 10)])), (qt 1, .inr (1, [.ref (qt 5), .int (nI (sT.1 1).length)])), (qt 2, .inr (1, [.ref (qt 6), .int (nI (sT.1 2).length)])), (qt 3, .inr (1, [.ref (qt 7), .int (nI (sT.1 3).length)])), (qt 4, .inr (1, [.ref (qt 8), .int (nI (sT.1 4).length)])), (qt 5, .inl (cy, 64, .inl (FT 1))), (qt 6, .inl (cy, 64, .inl (FT 2))), (qt 7, .inl (cy, 64, .inl (FT 3))), (qt 8, .inl (cy, 64, .inl (FT 4))), (ph, .inr (1, [.ref pk, .int (nI pg.length)])), (pk, .inl (cy, 64, .inl fp))] s.heap := hP
  have hD : va_D A [(x, .inr (2, [.ref (q 0), .ref lh, .int (kk 0), .int (kk 1), .int (kk 2), .int (kk 3), .ref (qt 0), .ref ph])), (q 0, .inr (0, [.ref (q 1), .ref (q 2), .ref (q 3), .ref (q 4), .int (st.2 6), .int (st.2 5), .int (st.2 7), .int (st.2 8), .int (st.2 9), .int (st.2 10)])), (q 1, .inr (1, [.ref (q 5), .int (nI (st.1 1).length)])), (q 2, .inr (1, [.ref (q 6), .int (nI (st.1 2).length)])), (q 3, .inr (1, [.ref (q 7), .int (nI (st.1 3).length)])), (q 4, .inr (1, [.ref (q 8), .int (nI (st.1 4).length)])), (q 5, .inl (cy, 64, .inl (F 1))), (q 6, .inl (cy, 64, .inl (F 2))), (q 7, .inl (cy, 64, .inl (F 3))), (q 8, .inl (cy, 64, .inl (F 4))), (lh, .inr (1, [.ref lk, .int (nI lg.length)])), (lk, .inl (cy, 64, .inl fl)), (qt 0, .inr (0, [.ref (qt 1), .ref (qt 2), .ref (qt 3), .ref (qt 4), .int (sT.2 6), .int (sT.2 5), .int (sT.2 7), .int (sT.2 8), .int (sT.2 9), .int (sT.2 10)])), (qt 1, .inr (1, [.ref (qt 5), .int (nI (sT.1 1).length)])), (qt 2, .inr (1, [.ref (qt 6), .int (nI (sT.1 2).length)])), (qt 3, .inr (1, [.ref (qt 7), .int (nI (sT.1 3).length)])), (qt 4, .inr (1, [.ref (qt 8), .int (nI (sT.1 4).length)])), (qt 5, .inl (cy, 64, .inl (FT 1))), (qt 6, .inl (cy, 64, .inl (FT 2))), (qt 7, .inl (cy, 64, .inl (FT 3))), (qt 8, .inl (cy, 64, .inl (FT 4))), (ph, .inr (1, [.ref pk, .int (nI pg.length)])), (pk, .inl (cy, 64, .inl fp))] := hD
  have hl : lv_has ls 4 [(0, .ref x), (1, .int 4), (2, .int i)] := hl
  refine lv_iload_n hx hb dL_at_0 rfl (lv_at hl 1 rfl) ?_
  refine lv_iconst (v := 1) hx hb dL_at_1 (by decide) ?_
  refine lv_icmp_ne (tgt := 13) hx hb dL_at_2 (by decide) (fun c_1 => ?_) (fun c_1 => ?_)
  rotate_left
  · exact absurd c_1 (by decide)
  · skip
    refine lv_iload_n hx hb dL_at_13 rfl (lv_at hl 1 rfl) ?_
    refine lv_iconst (v := 2) hx hb dL_at_14 (by decide) ?_
    refine lv_icmp_ne (tgt := 26) hx hb dL_at_15 (by decide) (fun c_2 => ?_) (fun c_2 => ?_)
    rotate_left
    · exact absurd c_2 (by decide)
    · skip
      refine lv_iload_n hx hb dL_at_26 rfl (lv_at hl 1 rfl) ?_
      refine lv_iconst (v := 3) hx hb dL_at_27 (by decide) ?_
      refine lv_icmp_ne (tgt := 39) hx hb dL_at_28 (by decide) (fun c_3 => ?_) (fun c_3 => ?_)
      rotate_left
      · exact absurd c_3 (by decide)
      · skip
        refine lv_aload_n hx hb dL_at_39 rfl (lv_at hl 0 rfl) ?_
        refine lv_iload_n hx hb dL_at_40 rfl (lv_at hl 2 rfl) ?_
        refine ki_cVR (As := [.int i]) (rest := []) ⟨hx, hb, hml, hown, hts⟩ (c_X2_frequentGhostAt_ok l D cy x lh ph q qt st F kk hR0 i hg) (cwV 1 hts gL_at_X2_frequentGhostAt rfl rfl rfl (by decide +kernel) ⟨Nat.le_of_ble_eq_true rfl, Nat.le_of_ble_eq_true rfl⟩) hK hE hP [0] rfl [0, 1, 2, 3, 4, 5, 6, 7, 8, 9] rfl 2 0 rfl rfl rfl rfl hl.1 rfl (Nat.le_of_ble_eq_true rfl) dL_at_41 ⟨Nat.le_of_ble_eq_true rfl, Nat.le_of_ble_eq_true rfl⟩ ?_
        skip
        refine vx_ret ?_
        exact ki_iret hx hb hr hlk hK hS ((st, F), (kk, (lg, fl)), (sT, FT), (pg, fp)) ⟨rfl, ⟨hR0, hlg, hRT, hpg⟩, rfl⟩ hP hD dL_at_44
set_option maxHeartbeats 4000000 in
set_option maxRecDepth 100000 in
theorem c_L_at1_bad (l : Launch) (hl9 : l.stackTraces = false) (D : va_G) (cy : ClassId) (x lh lk ph pk : Nat) (q qt : Nat → Nat) (u : lo_U) (hu : lo_ok u) (i : Int32) (hbad : a_badPlace (u.1.1.1 1) i) : lo_C l yL_at wsL_at ({ frames := 8, cells := 1, slots := 6, locals := 124 }) 1 6 D cy x lh lk ph pk q qt [.ref x, .int 1, .int i] u (-5) (lo_v u) := by
  obtain ⟨⟨st, F⟩, ⟨kk, lg, fl⟩, ⟨sT, FT⟩, pg, fp⟩ := u
  obtain ⟨hR0, hlg, hRT, hpg⟩ := hu
  have hR0 : ki_reps F st.1 := hR0
  have hlg : ki_rep fl lg := hlg
  have hRT : ki_reps FT sT.1 := hRT
  have hpg : ki_rep fp pg := hpg
  have hbad : a_badPlace (st.1 1) i := hbad
  refine kw_ofH (cc := cL_at) (maxL := 4) (ret := some .int) (by decide +kernel) rfl (Nat.le_of_ble_eq_true rfl) ?_
  intro p e s m args below meth c A ls htab hZ hx hb hr hts hown hlk hml hK hE hP hD hA hS hl
  have hown : s.vm.findClass RL = some m.cls := hown
  have hP : va_P D vwCl [(x, .inr (2, [.ref (q 0), .ref lh, .int (kk 0), .int (kk 1), .int (kk 2), .int (kk 3), .ref (qt 0), .ref ph])), (q 0, .inr (0, [.ref (q 1), .ref (q 2), .ref (q 3), .ref (q 4), .int (st.2 6), .int (st.2 5), .int (st.2 7), .int (st.2 8), .int (st.2 9), .int (st.2 10)])), (q 1, .inr (1, [.ref (q 5), .int (nI (st.1 1).length)])), (q 2, .inr (1, [.ref (q 6), .int (nI (st.1 2).length)])), (q 3, .inr (1, [.ref (q 7), .int (nI (st.1 3).length)])), (q 4, .inr (1, [.ref (q 8), .int (nI (st.1 4).length)])), (q 5, .inl (cy, 64, .inl (F 1))), (q 6, .inl (cy, 64, .inl (F 2))), (q 7, .inl (cy, 64, .inl (F 3))), (q 8, .inl (cy, 64, .inl (F 4))), (lh, .inr (1, [.ref lk, .int (nI lg.length)])), (lk, .inl (cy, 64, .inl fl)), (qt 0, .inr (0, [.ref (qt 1), .ref (qt 2), .ref (qt 3), .ref (qt 4), .int (sT.2 6), .int (sT.2 5), .int (sT.2 7), .int (sT.2 8), .int (sT.2 9), .int (sT.2 10)])), (qt 1, .inr (1, [.ref (qt 5), .int (nI (sT.1 1).length)])), (qt 2, .inr (1, [.ref (qt 6), .int (nI (sT.1 2).length)])), (qt 3, .inr (1, [.ref (qt 7), .int (nI (sT.1 3).length)])), (qt 4, .inr (1, [.ref (qt 8), .int (nI (sT.1 4).length)])), (qt 5, .inl (cy, 64, .inl (FT 1))), (qt 6, .inl (cy, 64, .inl (FT 2))), (qt 7, .inl (cy, 64, .inl (FT 3))), (qt 8, .inl (cy, 64, .inl (FT 4))), (ph, .inr (1, [.ref pk, .int (nI pg.length)])), (pk, .inl (cy, 64, .inl fp))] s.heap := hP
  have hD : va_D A [(x, .inr (2, [.ref (q 0), .ref lh, .int (kk 0), .int (kk 1), .int (kk 2), .int (kk 3), .ref (qt 0), .ref ph])), (q 0, .inr (0, [.ref (q 1), .ref (q 2), .ref (q 3), .ref (q 4), .int (st.2 6), .int (st.2 5), .int (st.2 7), .int (st.2 8), .int (st.2 9), .int (st.2 10)])), (q 1, .inr (1, [.ref (q 5), .int (nI (st.1 1).length)])), (q 2, .inr (1, [.ref (q 6), .int (nI (st.1 2).length)])), (q 3, .inr (1, [.ref (q 7), .int (nI (st.1 3).length)])), (q 4, .inr (1, [.ref (q 8), .int (nI (st.1 4).length)])), (q 5, .inl (cy, 64, .inl (F 1))), (q 6, .inl (cy, 64, .inl (F 2))), (q 7, .inl (cy, 64, .inl (F 3))), (q 8, .inl (cy, 64, .inl (F 4))), (lh, .inr (1, [.ref lk, .int (nI lg.length)])), (lk, .inl (cy, 64, .inl fl)), (qt 0, .inr (0, [.ref (qt 1), .ref (qt 2), .ref (qt 3), .ref (qt 4), .int (sT.2 6), .int (sT.2 5), .int (sT.2 7), .int (sT.2 8), .int (sT.2 9), .int (sT.2 10)])), (qt 1, .inr (1, [.ref (qt 5), .int (nI (sT.1 1).length)])), (qt 2, .inr (1, [.ref (qt 6), .int (nI (sT.1 2).length)])), (qt 3, .inr (1, [.ref (qt 7), .int (nI (sT.1 3).length)])), (qt 4, .inr (1, [.ref (qt 8), .int (nI (sT.1 4).length)])), (qt 5, .inl (cy, 64, .inl (FT 1))), (qt 6, .inl (cy, 64, .inl (FT 2))), (qt 7, .inl (cy, 64, .inl (FT 3))), (qt 8, .inl (cy, 64, .inl (FT 4))), (ph, .inr (1, [.ref pk, .int (nI pg.length)])), (pk, .inl (cy, 64, .inl fp))] := hD
  have hl : lv_has ls 4 [(0, .ref x), (1, .int 1), (2, .int i)] := hl
  refine lv_iload_n hx hb dL_at_0 rfl (lv_at hl 1 rfl) ?_
  refine lv_iconst (v := 1) hx hb dL_at_1 (by decide) ?_
  refine lv_icmp_ne (tgt := 13) hx hb dL_at_2 (by decide) (fun c9 => absurd rfl c9) (fun _ => ?_)
  refine lv_aload_n hx hb dL_at_5 rfl (lv_at hl 0 rfl) ?_
  refine lv_iload_n hx hb dL_at_6 rfl (lv_at hl 2 rfl) ?_
  have hF := va_free (wc := [(x, .inr (2, [.ref (q 0), .ref lh, .int (kk 0), .int (kk 1), .int (kk 2), .int (kk 3), .ref (qt 0), .ref ph])), (q 0, .inr (0, [.ref (q 1), .ref (q 2), .ref (q 3), .ref (q 4), .int (st.2 6), .int (st.2 5), .int (st.2 7), .int (st.2 8), .int (st.2 9), .int (st.2 10)])), (q 1, .inr (1, [.ref (q 5), .int (nI (st.1 1).length)])), (q 2, .inr (1, [.ref (q 6), .int (nI (st.1 2).length)])), (q 3, .inr (1, [.ref (q 7), .int (nI (st.1 3).length)])), (q 4, .inr (1, [.ref (q 8), .int (nI (st.1 4).length)])), (q 5, .inl (cy, 64, .inl (F 1))), (q 6, .inl (cy, 64, .inl (F 2))), (q 7, .inl (cy, 64, .inl (F 3))), (q 8, .inl (cy, 64, .inl (F 4)))]) hD hS hA [0, 1, 2, 3, 4, 5, 6, 7, 8, 9] rfl
  refine vx_calli (rest := []) (vx_runV (As := [.int i]) ⟨hx, hb, hml, hown, hts⟩ (c_X2_recentAt l D cy x lh ph q qt st F kk hR0 i hl9 s.heap.size) (cwV 1 hts gL_at_X2_recentAt rfl rfl rfl (by decide +kernel) ⟨Nat.le_of_ble_eq_true rfl, Nat.le_of_ble_eq_true rfl⟩) ⟨ki_blindX, ki_recv (ci := 2) (q0 := 0) hK hP rfl rfl rfl, ki_preX hP hK hE hZ hD hS hA [0, 1, 2, 3, 4, 5, 6, 7, 8, 9] rfl (by decide) [0] rfl rfl⟩ rfl rfl hl.1 rfl (lv_room (Nat.le_of_ble_eq_true rfl)) dL_at_7 ⟨Nat.le_of_ble_eq_true rfl, Nat.le_of_ble_eq_true rfl⟩) hS (fun q _ h => hF q h) hF (fun q _ h => hF q h) ?_ ?_
  · intro E ce q9 u9 t H1 locs1 ht9 hvm hu9 hB hz1 hk1 hS1 hce hv9 hcl9
    obtain ⟨hE0, hP1, hK1, hD1⟩ := hB
    rw [ht9] at hP1
    obtain ⟨hP2, hD2⟩ := va_join hP hD [0, 1, 2, 3, 4, 5, 6, 7, 8, 9] [10, 11, 12, 13, 14, 15, 16, 17, 18, 19, 20, 21, 22] rfl (wr := [(lh, .inr (1, [.ref lk, .int (nI lg.length)])), (lk, .inl (cy, 64, .inl fl)), (qt 0, .inr (0, [.ref (qt 1), .ref (qt 2), .ref (qt 3), .ref (qt 4), .int (sT.2 6), .int (sT.2 5), .int (sT.2 7), .int (sT.2 8), .int (sT.2 9), .int (sT.2 10)])), (qt 1, .inr (1, [.ref (qt 5), .int (nI (sT.1 1).length)])), (qt 2, .inr (1, [.ref (qt 6), .int (nI (sT.1 2).length)])), (qt 3, .inr (1, [.ref (qt 7), .int (nI (sT.1 3).length)])), (qt 4, .inr (1, [.ref (qt 8), .int (nI (sT.1 4).length)])), (qt 5, .inl (cy, 64, .inl (FT 1))), (qt 6, .inl (cy, 64, .inl (FT 2))), (qt 7, .inl (cy, 64, .inl (FT 3))), (qt 8, .inl (cy, 64, .inl (FT 4))), (ph, .inr (1, [.ref pk, .int (nI pg.length)])), (pk, .inl (cy, 64, .inl fp))]) rfl (by decide) (by decide) hk1 hF hP1 hD1
    rw [hE0] at hcl9
    refine vx_catch (own := RL) (name := "java/lang/IndexOutOfBoundsException") hown [] ⟨0, 44, 45, 46⟩ [] htab (fun z hz => nomatch hz) rfl (by decide) (hts (.classLink RL 46 "java/lang/IndexOutOfBoundsException") (by decide +kernel)) (va_Nw.use rfl hE.2.2.2.2.1.2) hce hv9 hcl9 ?_
    refine lv_astore_n (lv' := [(3, .ref q9), (0, .ref x), (1, .int 1), (2, .int i)]) hx hb dL_at_45 rfl hl (by decide) rfl (fun ls hl => ?_)
    refine lv_bipush (v := (-5)) hx hb dL_at_46 (by decide) ?_
    refine vx_ret ?_
    exact ki_iret hx hb hr hlk hK hS1 ((st, F), (kk, (lg, fl)), (sT, FT), (pg, fp)) ⟨rfl, ⟨hR0, hlg, hRT, hpg⟩, rfl⟩ (ki_P hP2 [13, 14, 15, 16, 17, 18, 19, 20, 21, 22, 0, 1, 2, 3, 4, 5, 6, 7, 8, 9, 10, 11, 12] rfl) (hD2.sub [13, 14, 15, 16, 17, 18, 19, 20, 21, 22, 0, 1, 2, 3, 4, 5, 6, 7, 8, 9, 10, 11, 12] (by decide) rfl) dL_at_48
  · intro r9 u9 t H1 locs1 ht9 hvm hw9 hB hz1 hk1 hS1
    exact absurd hbad hw9.2
set_option maxHeartbeats 4000000 in
set_option maxRecDepth 100000 in
theorem c_L_at2_bad (l : Launch) (hl9 : l.stackTraces = false) (D : va_G) (cy : ClassId) (x lh lk ph pk : Nat) (q qt : Nat → Nat) (u : lo_U) (hu : lo_ok u) (i : Int32) (hbad : a_badPlace (u.1.1.1 2) i) : lo_C l yL_at wsL_at ({ frames := 8, cells := 1, slots := 6, locals := 124 }) 1 6 D cy x lh lk ph pk q qt [.ref x, .int 2, .int i] u (-5) (lo_v u) := by
  obtain ⟨⟨st, F⟩, ⟨kk, lg, fl⟩, ⟨sT, FT⟩, pg, fp⟩ := u
  obtain ⟨hR0, hlg, hRT, hpg⟩ := hu
  have hR0 : ki_reps F st.1 := hR0
  have hlg : ki_rep fl lg := hlg
  have hRT : ki_reps FT sT.1 := hRT
  have hpg : ki_rep fp pg := hpg
  have hbad : a_badPlace (st.1 2) i := hbad
  refine kw_ofH (cc := cL_at) (maxL := 4) (ret := some .int) (by decide +kernel) rfl (Nat.le_of_ble_eq_true rfl) ?_
  intro p e s m args below meth c A ls htab hZ hx hb hr hts hown hlk hml hK hE hP hD hA hS hl
  have hown : s.vm.findClass RL = some m.cls := hown
  have hP : va_P D vwCl [(x, .inr (2, [.ref (q 0), .ref lh, .int (kk 0), .int (kk 1), .int (kk 2), .int (kk 3), .ref (qt 0), .ref ph])), (q 0, .inr (0, [.ref (q 1), .ref (q 2), .ref (q 3), .ref (q 4), .int (st.2 6), .int (st.2 5), .int (st.2 7), .int (st.2 8), .int (st.2 9), .int (st.2 10)])), (q 1, .inr (1, [.ref (q 5), .int (nI (st.1 1).length)])), (q 2, .inr (1, [.ref (q 6), .int (nI (st.1 2).length)])), (q 3, .inr (1, [.ref (q 7), .int (nI (st.1 3).length)])), (q 4, .inr (1, [.ref (q 8), .int (nI (st.1 4).length)])), (q 5, .inl (cy, 64, .inl (F 1))), (q 6, .inl (cy, 64, .inl (F 2))), (q 7, .inl (cy, 64, .inl (F 3))), (q 8, .inl (cy, 64, .inl (F 4))), (lh, .inr (1, [.ref lk, .int (nI lg.length)])), (lk, .inl (cy, 64, .inl fl)), (qt 0, .inr (0, [.ref (qt 1), .ref (qt 2), .ref (qt 3), .ref (qt 4), .int (sT.2 6), .int (sT.2 5), .int (sT.2 7), .int (sT.2 8), .int (sT.2 9), .int (sT.2 10)])), (qt 1, .inr (1, [.ref (qt 5), .int (nI (sT.1 1).length)])), (qt 2, .inr (1, [.ref (qt 6), .int (nI (sT.1 2).length)])), (qt 3, .inr (1, [.ref (qt 7), .int (nI (sT.1 3).length)])), (qt 4, .inr (1, [.ref (qt 8), .int (nI (sT.1 4).length)])), (qt 5, .inl (cy, 64, .inl (FT 1))), (qt 6, .inl (cy, 64, .inl (FT 2))), (qt 7, .inl (cy, 64, .inl (FT 3))), (qt 8, .inl (cy, 64, .inl (FT 4))), (ph, .inr (1, [.ref pk, .int (nI pg.length)])), (pk, .inl (cy, 64, .inl fp))] s.heap := hP
  have hD : va_D A [(x, .inr (2, [.ref (q 0), .ref lh, .int (kk 0), .int (kk 1), .int (kk 2), .int (kk 3), .ref (qt 0), .ref ph])), (q 0, .inr (0, [.ref (q 1), .ref (q 2), .ref (q 3), .ref (q 4), .int (st.2 6), .int (st.2 5), .int (st.2 7), .int (st.2 8), .int (st.2 9), .int (st.2 10)])), (q 1, .inr (1, [.ref (q 5), .int (nI (st.1 1).length)])), (q 2, .inr (1, [.ref (q 6), .int (nI (st.1 2).length)])), (q 3, .inr (1, [.ref (q 7), .int (nI (st.1 3).length)])), (q 4, .inr (1, [.ref (q 8), .int (nI (st.1 4).length)])), (q 5, .inl (cy, 64, .inl (F 1))), (q 6, .inl (cy, 64, .inl (F 2))), (q 7, .inl (cy, 64, .inl (F 3))), (q 8, .inl (cy, 64, .inl (F 4))), (lh, .inr (1, [.ref lk, .int (nI lg.length)])), (lk, .inl (cy, 64, .inl fl)), (qt 0, .inr (0, [.ref (qt 1), .ref (qt 2), .ref (qt 3), .ref (qt 4), .int (sT.2 6), .int (sT.2 5), .int (sT.2 7), .int (sT.2 8), .int (sT.2 9), .int (sT.2 10)])), (qt 1, .inr (1, [.ref (qt 5), .int (nI (sT.1 1).length)])), (qt 2, .inr (1, [.ref (qt 6), .int (nI (sT.1 2).length)])), (qt 3, .inr (1, [.ref (qt 7), .int (nI (sT.1 3).length)])), (qt 4, .inr (1, [.ref (qt 8), .int (nI (sT.1 4).length)])), (qt 5, .inl (cy, 64, .inl (FT 1))), (qt 6, .inl (cy, 64, .inl (FT 2))), (qt 7, .inl (cy, 64, .inl (FT 3))), (qt 8, .inl (cy, 64, .inl (FT 4))), (ph, .inr (1, [.ref pk, .int (nI pg.length)])), (pk, .inl (cy, 64, .inl fp))] := hD
  have hl : lv_has ls 4 [(0, .ref x), (1, .int 2), (2, .int i)] := hl
  refine lv_iload_n hx hb dL_at_0 rfl (lv_at hl 1 rfl) ?_
  refine lv_iconst (v := 1) hx hb dL_at_1 (by decide) ?_
  refine lv_icmp_ne (tgt := 13) hx hb dL_at_2 (by decide) (fun _ => ?_) (fun c9 => absurd c9 (by decide))
  refine lv_iload_n hx hb dL_at_13 rfl (lv_at hl 1 rfl) ?_
  refine lv_iconst (v := 2) hx hb dL_at_14 (by decide) ?_
  refine lv_icmp_ne (tgt := 26) hx hb dL_at_15 (by decide) (fun c9 => absurd rfl c9) (fun _ => ?_)
  refine lv_aload_n hx hb dL_at_18 rfl (lv_at hl 0 rfl) ?_
  refine lv_iload_n hx hb dL_at_19 rfl (lv_at hl 2 rfl) ?_
  have hF := va_free (wc := [(x, .inr (2, [.ref (q 0), .ref lh, .int (kk 0), .int (kk 1), .int (kk 2), .int (kk 3), .ref (qt 0), .ref ph])), (q 0, .inr (0, [.ref (q 1), .ref (q 2), .ref (q 3), .ref (q 4), .int (st.2 6), .int (st.2 5), .int (st.2 7), .int (st.2 8), .int (st.2 9), .int (st.2 10)])), (q 1, .inr (1, [.ref (q 5), .int (nI (st.1 1).length)])), (q 2, .inr (1, [.ref (q 6), .int (nI (st.1 2).length)])), (q 3, .inr (1, [.ref (q 7), .int (nI (st.1 3).length)])), (q 4, .inr (1, [.ref (q 8), .int (nI (st.1 4).length)])), (q 5, .inl (cy, 64, .inl (F 1))), (q 6, .inl (cy, 64, .inl (F 2))), (q 7, .inl (cy, 64, .inl (F 3))), (q 8, .inl (cy, 64, .inl (F 4)))]) hD hS hA [0, 1, 2, 3, 4, 5, 6, 7, 8, 9] rfl
  refine vx_calli (rest := []) (vx_runV (As := [.int i]) ⟨hx, hb, hml, hown, hts⟩ (c_X2_frequentAt l D cy x lh ph q qt st F kk hR0 i hl9 s.heap.size) (cwV 1 hts gL_at_X2_frequentAt rfl rfl rfl (by decide +kernel) ⟨Nat.le_of_ble_eq_true rfl, Nat.le_of_ble_eq_true rfl⟩) ⟨ki_blindX, ki_recv (ci := 2) (q0 := 0) hK hP rfl rfl rfl, ki_preX hP hK hE hZ hD hS hA [0, 1, 2, 3, 4, 5, 6, 7, 8, 9] rfl (by decide) [0] rfl rfl⟩ rfl rfl hl.1 rfl (lv_room (Nat.le_of_ble_eq_true rfl)) dL_at_20 ⟨Nat.le_of_ble_eq_true rfl, Nat.le_of_ble_eq_true rfl⟩) hS (fun q _ h => hF q h) hF (fun q _ h => hF q h) ?_ ?_
  · intro E ce q9 u9 t H1 locs1 ht9 hvm hu9 hB hz1 hk1 hS1 hce hv9 hcl9
    obtain ⟨hE0, hP1, hK1, hD1⟩ := hB
    rw [ht9] at hP1
    obtain ⟨hP2, hD2⟩ := va_join hP hD [0, 1, 2, 3, 4, 5, 6, 7, 8, 9] [10, 11, 12, 13, 14, 15, 16, 17, 18, 19, 20, 21, 22] rfl (wr := [(lh, .inr (1, [.ref lk, .int (nI lg.length)])), (lk, .inl (cy, 64, .inl fl)), (qt 0, .inr (0, [.ref (qt 1), .ref (qt 2), .ref (qt 3), .ref (qt 4), .int (sT.2 6), .int (sT.2 5), .int (sT.2 7), .int (sT.2 8), .int (sT.2 9), .int (sT.2 10)])), (qt 1, .inr (1, [.ref (qt 5), .int (nI (sT.1 1).length)])), (qt 2, .inr (1, [.ref (qt 6), .int (nI (sT.1 2).length)])), (qt 3, .inr (1, [.ref (qt 7), .int (nI (sT.1 3).length)])), (qt 4, .inr (1, [.ref (qt 8), .int (nI (sT.1 4).length)])), (qt 5, .inl (cy, 64, .inl (FT 1))), (qt 6, .inl (cy, 64, .inl (FT 2))), (qt 7, .inl (cy, 64, .inl (FT 3))), (qt 8, .inl (cy, 64, .inl (FT 4))), (ph, .inr (1, [.ref pk, .int (nI pg.length)])), (pk, .inl (cy, 64, .inl fp))]) rfl (by decide) (by decide) hk1 hF hP1 hD1
    rw [hE0] at hcl9
    refine vx_catch (own := RL) (name := "java/lang/IndexOutOfBoundsException") hown [] ⟨0, 44, 45, 46⟩ [] htab (fun z hz => nomatch hz) rfl (by decide) (hts (.classLink RL 46 "java/lang/IndexOutOfBoundsException") (by decide +kernel)) (va_Nw.use rfl hE.2.2.2.2.1.2) hce hv9 hcl9 ?_
    refine lv_astore_n (lv' := [(3, .ref q9), (0, .ref x), (1, .int 2), (2, .int i)]) hx hb dL_at_45 rfl hl (by decide) rfl (fun ls hl => ?_)
    refine lv_bipush (v := (-5)) hx hb dL_at_46 (by decide) ?_
    refine vx_ret ?_
    exact ki_iret hx hb hr hlk hK hS1 ((st, F), (kk, (lg, fl)), (sT, FT), (pg, fp)) ⟨rfl, ⟨hR0, hlg, hRT, hpg⟩, rfl⟩ (ki_P hP2 [13, 14, 15, 16, 17, 18, 19, 20, 21, 22, 0, 1, 2, 3, 4, 5, 6, 7, 8, 9, 10, 11, 12] rfl) (hD2.sub [13, 14, 15, 16, 17, 18, 19, 20, 21, 22, 0, 1, 2, 3, 4, 5, 6, 7, 8, 9, 10, 11, 12] (by decide) rfl) dL_at_48
  · intro r9 u9 t H1 locs1 ht9 hvm hw9 hB hz1 hk1 hS1
    exact absurd hbad hw9.2
set_option maxHeartbeats 4000000 in
set_option maxRecDepth 100000 in
theorem c_L_at3_bad (l : Launch) (hl9 : l.stackTraces = false) (D : va_G) (cy : ClassId) (x lh lk ph pk : Nat) (q qt : Nat → Nat) (u : lo_U) (hu : lo_ok u) (i : Int32) (hbad : a_badPlace (u.1.1.1 3) i) : lo_C l yL_at wsL_at ({ frames := 8, cells := 1, slots := 6, locals := 124 }) 1 6 D cy x lh lk ph pk q qt [.ref x, .int 3, .int i] u (-5) (lo_v u) := by
  obtain ⟨⟨st, F⟩, ⟨kk, lg, fl⟩, ⟨sT, FT⟩, pg, fp⟩ := u
  obtain ⟨hR0, hlg, hRT, hpg⟩ := hu
  have hR0 : ki_reps F st.1 := hR0
  have hlg : ki_rep fl lg := hlg
  have hRT : ki_reps FT sT.1 := hRT
  have hpg : ki_rep fp pg := hpg
  have hbad : a_badPlace (st.1 3) i := hbad
  refine kw_ofH (cc := cL_at) (maxL := 4) (ret := some .int) (by decide +kernel) rfl (Nat.le_of_ble_eq_true rfl) ?_
  intro p e s m args below meth c A ls htab hZ hx hb hr hts hown hlk hml hK hE hP hD hA hS hl
  have hown : s.vm.findClass RL = some m.cls := hown
  have hP : va_P D vwCl [(x, .inr (2, [.ref (q 0), .ref lh, .int (kk 0), .int (kk 1), .int (kk 2), .int (kk 3), .ref (qt 0), .ref ph])), (q 0, .inr (0, [.ref (q 1), .ref (q 2), .ref (q 3), .ref (q 4), .int (st.2 6), .int (st.2 5), .int (st.2 7), .int (st.2 8), .int (st.2 9), .int (st.2 10)])), (q 1, .inr (1, [.ref (q 5), .int (nI (st.1 1).length)])), (q 2, .inr (1, [.ref (q 6), .int (nI (st.1 2).length)])), (q 3, .inr (1, [.ref (q 7), .int (nI (st.1 3).length)])), (q 4, .inr (1, [.ref (q 8), .int (nI (st.1 4).length)])), (q 5, .inl (cy, 64, .inl (F 1))), (q 6, .inl (cy, 64, .inl (F 2))), (q 7, .inl (cy, 64, .inl (F 3))), (q 8, .inl (cy, 64, .inl (F 4))), (lh, .inr (1, [.ref lk, .int (nI lg.length)])), (lk, .inl (cy, 64, .inl fl)), (qt 0, .inr (0, [.ref (qt 1), .ref (qt 2), .ref (qt 3), .ref (qt 4), .int (sT.2 6), .int (sT.2 5), .int (sT.2 7), .int (sT.2 8), .int (sT.2 9), .int (sT.2 10)])), (qt 1, .inr (1, [.ref (qt 5), .int (nI (sT.1 1).length)])), (qt 2, .inr (1, [.ref (qt 6), .int (nI (sT.1 2).length)])), (qt 3, .inr (1, [.ref (qt 7), .int (nI (sT.1 3).length)])), (qt 4, .inr (1, [.ref (qt 8), .int (nI (sT.1 4).length)])), (qt 5, .inl (cy, 64, .inl (FT 1))), (qt 6, .inl (cy, 64, .inl (FT 2))), (qt 7, .inl (cy, 64, .inl (FT 3))), (qt 8, .inl (cy, 64, .inl (FT 4))), (ph, .inr (1, [.ref pk, .int (nI pg.length)])), (pk, .inl (cy, 64, .inl fp))] s.heap := hP
  have hD : va_D A [(x, .inr (2, [.ref (q 0), .ref lh, .int (kk 0), .int (kk 1), .int (kk 2), .int (kk 3), .ref (qt 0), .ref ph])), (q 0, .inr (0, [.ref (q 1), .ref (q 2), .ref (q 3), .ref (q 4), .int (st.2 6), .int (st.2 5), .int (st.2 7), .int (st.2 8), .int (st.2 9), .int (st.2 10)])), (q 1, .inr (1, [.ref (q 5), .int (nI (st.1 1).length)])), (q 2, .inr (1, [.ref (q 6), .int (nI (st.1 2).length)])), (q 3, .inr (1, [.ref (q 7), .int (nI (st.1 3).length)])), (q 4, .inr (1, [.ref (q 8), .int (nI (st.1 4).length)])), (q 5, .inl (cy, 64, .inl (F 1))), (q 6, .inl (cy, 64, .inl (F 2))), (q 7, .inl (cy, 64, .inl (F 3))), (q 8, .inl (cy, 64, .inl (F 4))), (lh, .inr (1, [.ref lk, .int (nI lg.length)])), (lk, .inl (cy, 64, .inl fl)), (qt 0, .inr (0, [.ref (qt 1), .ref (qt 2), .ref (qt 3), .ref (qt 4), .int (sT.2 6), .int (sT.2 5), .int (sT.2 7), .int (sT.2 8), .int (sT.2 9), .int (sT.2 10)])), (qt 1, .inr (1, [.ref (qt 5), .int (nI (sT.1 1).length)])), (qt 2, .inr (1, [.ref (qt 6), .int (nI (sT.1 2).length)])), (qt 3, .inr (1, [.ref (qt 7), .int (nI (sT.1 3).length)])), (qt 4, .inr (1, [.ref (qt 8), .int (nI (sT.1 4).length)])), (qt 5, .inl (cy, 64, .inl (FT 1))), (qt 6, .inl (cy, 64, .inl (FT 2))), (qt 7, .inl (cy, 64, .inl (FT 3))), (qt 8, .inl (cy, 64, .inl (FT 4))), (ph, .inr (1, [.ref pk, .int (nI pg.length)])), (pk, .inl (cy, 64, .inl fp))] := hD
  have hl : lv_has ls 4 [(0, .ref x), (1, .int 3), (2, .int i)] := hl
  refine lv_iload_n hx hb dL_at_0 rfl (lv_at hl 1 rfl) ?_
  refine lv_iconst (v := 1) hx hb dL_at_1 (by decide) ?_
  refine lv_icmp_ne (tgt := 13) hx hb dL_at_2 (by decide) (fun _ => ?_) (fun c9 => absurd c9 (by decide))
  refine lv_iload_n hx hb dL_at_13 rfl (lv_at hl 1 rfl) ?_
  refine lv_iconst (v := 2) hx hb dL_at_14 (by decide) ?_
  refine lv_icmp_ne (tgt := 26) hx hb dL_at_15 (by decide) (fun _ => ?_) (fun c9 => absurd c9 (by decide))
  refine lv_iload_n hx hb dL_at_26 rfl (lv_at hl 1 rfl) ?_
  refine lv_iconst (v := 3) hx hb dL_at_27 (by decide) ?_
  refine lv_icmp_ne (tgt := 39) hx hb dL_at_28 (by decide) (fun c9 => absurd rfl c9) (fun _ => ?_)
  refine lv_aload_n hx hb dL_at_31 rfl (lv_at hl 0 rfl) ?_
  refine lv_iload_n hx hb dL_at_32 rfl (lv_at hl 2 rfl) ?_
  have hF := va_free (wc := [(x, .inr (2, [.ref (q 0), .ref lh, .int (kk 0), .int (kk 1), .int (kk 2), .int (kk 3), .ref (qt 0), .ref ph])), (q 0, .inr (0, [.ref (q 1), .ref (q 2), .ref (q 3), .ref (q 4), .int (st.2 6), .int (st.2 5), .int (st.2 7), .int (st.2 8), .int (st.2 9), .int (st.2 10)])), (q 1, .inr (1, [.ref (q 5), .int (nI (st.1 1).length)])), (q 2, .inr (1, [.ref (q 6), .int (nI (st.1 2).length)])), (q 3, .inr (1, [.ref (q 7), .int (nI (st.1 3).length)])), (q 4, .inr (1, [.ref (q 8), .int (nI (st.1 4).length)])), (q 5, .inl (cy, 64, .inl (F 1))), (q 6, .inl (cy, 64, .inl (F 2))), (q 7, .inl (cy, 64, .inl (F 3))), (q 8, .inl (cy, 64, .inl (F 4)))]) hD hS hA [0, 1, 2, 3, 4, 5, 6, 7, 8, 9] rfl
  refine vx_calli (rest := []) (vx_runV (As := [.int i]) ⟨hx, hb, hml, hown, hts⟩ (c_X2_recentGhostAt l D cy x lh ph q qt st F kk hR0 i hl9 s.heap.size) (cwV 1 hts gL_at_X2_recentGhostAt rfl rfl rfl (by decide +kernel) ⟨Nat.le_of_ble_eq_true rfl, Nat.le_of_ble_eq_true rfl⟩) ⟨ki_blindX, ki_recv (ci := 2) (q0 := 0) hK hP rfl rfl rfl, ki_preX hP hK hE hZ hD hS hA [0, 1, 2, 3, 4, 5, 6, 7, 8, 9] rfl (by decide) [0] rfl rfl⟩ rfl rfl hl.1 rfl (lv_room (Nat.le_of_ble_eq_true rfl)) dL_at_33 ⟨Nat.le_of_ble_eq_true rfl, Nat.le_of_ble_eq_true rfl⟩) hS (fun q _ h => hF q h) hF (fun q _ h => hF q h) ?_ ?_
  · intro E ce q9 u9 t H1 locs1 ht9 hvm hu9 hB hz1 hk1 hS1 hce hv9 hcl9
    obtain ⟨hE0, hP1, hK1, hD1⟩ := hB
    rw [ht9] at hP1
    obtain ⟨hP2, hD2⟩ := va_join hP hD [0, 1, 2, 3, 4, 5, 6, 7, 8, 9] [10, 11, 12, 13, 14, 15, 16, 17, 18, 19, 20, 21, 22] rfl (wr := [(lh, .inr (1, [.ref lk, .int (nI lg.length)])), (lk, .inl (cy, 64, .inl fl)), (qt 0, .inr (0, [.ref (qt 1), .ref (qt 2), .ref (qt 3), .ref (qt 4), .int (sT.2 6), .int (sT.2 5), .int (sT.2 7), .int (sT.2 8), .int (sT.2 9), .int (sT.2 10)])), (qt 1, .inr (1, [.ref (qt 5), .int (nI (sT.1 1).length)])), (qt 2, .inr (1, [.ref (qt 6), .int (nI (sT.1 2).length)])), (qt 3, .inr (1, [.ref (qt 7), .int (nI (sT.1 3).length)])), (qt 4, .inr (1, [.ref (qt 8), .int (nI (sT.1 4).length)])), (qt 5, .inl (cy, 64, .inl (FT 1))), (qt 6, .inl (cy, 64, .inl (FT 2))), (qt 7, .inl (cy, 64, .inl (FT 3))), (qt 8, .inl (cy, 64, .inl (FT 4))), (ph, .inr (1, [.ref pk, .int (nI pg.length)])), (pk, .inl (cy, 64, .inl fp))]) rfl (by decide) (by decide) hk1 hF hP1 hD1
    rw [hE0] at hcl9
    refine vx_catch (own := RL) (name := "java/lang/IndexOutOfBoundsException") hown [] ⟨0, 44, 45, 46⟩ [] htab (fun z hz => nomatch hz) rfl (by decide) (hts (.classLink RL 46 "java/lang/IndexOutOfBoundsException") (by decide +kernel)) (va_Nw.use rfl hE.2.2.2.2.1.2) hce hv9 hcl9 ?_
    refine lv_astore_n (lv' := [(3, .ref q9), (0, .ref x), (1, .int 3), (2, .int i)]) hx hb dL_at_45 rfl hl (by decide) rfl (fun ls hl => ?_)
    refine lv_bipush (v := (-5)) hx hb dL_at_46 (by decide) ?_
    refine vx_ret ?_
    exact ki_iret hx hb hr hlk hK hS1 ((st, F), (kk, (lg, fl)), (sT, FT), (pg, fp)) ⟨rfl, ⟨hR0, hlg, hRT, hpg⟩, rfl⟩ (ki_P hP2 [13, 14, 15, 16, 17, 18, 19, 20, 21, 22, 0, 1, 2, 3, 4, 5, 6, 7, 8, 9, 10, 11, 12] rfl) (hD2.sub [13, 14, 15, 16, 17, 18, 19, 20, 21, 22, 0, 1, 2, 3, 4, 5, 6, 7, 8, 9, 10, 11, 12] (by decide) rfl) dL_at_48
  · intro r9 u9 t H1 locs1 ht9 hvm hw9 hB hz1 hk1 hS1
    exact absurd hbad hw9.2
set_option maxHeartbeats 4000000 in
set_option maxRecDepth 100000 in
theorem c_L_at4_bad (l : Launch) (hl9 : l.stackTraces = false) (D : va_G) (cy : ClassId) (x lh lk ph pk : Nat) (q qt : Nat → Nat) (u : lo_U) (hu : lo_ok u) (i : Int32) (hbad : a_badPlace (u.1.1.1 4) i) : lo_C l yL_at wsL_at ({ frames := 8, cells := 1, slots := 6, locals := 124 }) 1 6 D cy x lh lk ph pk q qt [.ref x, .int 4, .int i] u (-5) (lo_v u) := by
  obtain ⟨⟨st, F⟩, ⟨kk, lg, fl⟩, ⟨sT, FT⟩, pg, fp⟩ := u
  obtain ⟨hR0, hlg, hRT, hpg⟩ := hu
  have hR0 : ki_reps F st.1 := hR0
  have hlg : ki_rep fl lg := hlg
  have hRT : ki_reps FT sT.1 := hRT
  have hpg : ki_rep fp pg := hpg
  have hbad : a_badPlace (st.1 4) i := hbad
  refine kw_ofH (cc := cL_at) (maxL := 4) (ret := some .int) (by decide +kernel) rfl (Nat.le_of_ble_eq_true rfl) ?_
  intro p e s m args below meth c A ls htab hZ hx hb hr hts hown hlk hml hK hE hP hD hA hS hl
  have hown : s.vm.findClass RL = some m.cls := hown
  have hP : va_P D vwCl [(x, .inr (2, [.ref (q 0), .ref lh, .int (kk 0), .int (kk 1), .int (kk 2), .int (kk 3), .ref (qt 0), .ref ph])), (q 0, .inr (0, [.ref (q 1), .ref (q 2), .ref (q 3), .ref (q 4), .int (st.2 6), .int (st.2 5), .int (st.2 7), .int (st.2 8), .int (st.2 9), .int (st.2 10)])), (q 1, .inr (1, [.ref (q 5), .int (nI (st.1 1).length)])), (q 2, .inr (1, [.ref (q 6), .int (nI (st.1 2).length)])), (q 3, .inr (1, [.ref (q 7), .int (nI (st.1 3).length)])), (q 4, .inr (1, [.ref (q 8), .int (nI (st.1 4).length)])), (q 5, .inl (cy, 64, .inl (F 1))), (q 6, .inl (cy, 64, .inl (F 2))), (q 7, .inl (cy, 64, .inl (F 3))), (q 8, .inl (cy, 64, .inl (F 4))), (lh, .inr (1, [.ref lk, .int (nI lg.length)])), (lk, .inl (cy, 64, .inl fl)), (qt 0, .inr (0, [.ref (qt 1), .ref (qt 2), .ref (qt 3), .ref (qt 4), .int (sT.2 6), .int (sT.2 5), .int (sT.2 7), .int (sT.2 8), .int (sT.2 9), .int (sT.2 10)])), (qt 1, .inr (1, [.ref (qt 5), .int (nI (sT.1 1).length)])), (qt 2, .inr (1, [.ref (qt 6), .int (nI (sT.1 2).length)])), (qt 3, .inr (1, [.ref (qt 7), .int (nI (sT.1 3).length)])), (qt 4, .inr (1, [.ref (qt 8), .int (nI (sT.1 4).length)])), (qt 5, .inl (cy, 64, .inl (FT 1))), (qt 6, .inl (cy, 64, .inl (FT 2))), (qt 7, .inl (cy, 64, .inl (FT 3))), (qt 8, .inl (cy, 64, .inl (FT 4))), (ph, .inr (1, [.ref pk, .int (nI pg.length)])), (pk, .inl (cy, 64, .inl fp))] s.heap := hP
  have hD : va_D A [(x, .inr (2, [.ref (q 0), .ref lh, .int (kk 0), .int (kk 1), .int (kk 2), .int (kk 3), .ref (qt 0), .ref ph])), (q 0, .inr (0, [.ref (q 1), .ref (q 2), .ref (q 3), .ref (q 4), .int (st.2 6), .int (st.2 5), .int (st.2 7), .int (st.2 8), .int (st.2 9), .int (st.2 10)])), (q 1, .inr (1, [.ref (q 5), .int (nI (st.1 1).length)])), (q 2, .inr (1, [.ref (q 6), .int (nI (st.1 2).length)])), (q 3, .inr (1, [.ref (q 7), .int (nI (st.1 3).length)])), (q 4, .inr (1, [.ref (q 8), .int (nI (st.1 4).length)])), (q 5, .inl (cy, 64, .inl (F 1))), (q 6, .inl (cy, 64, .inl (F 2))), (q 7, .inl (cy, 64, .inl (F 3))), (q 8, .inl (cy, 64, .inl (F 4))), (lh, .inr (1, [.ref lk, .int (nI lg.length)])), (lk, .inl (cy, 64, .inl fl)), (qt 0, .inr (0, [.ref (qt 1), .ref (qt 2), .ref (qt 3), .ref (qt 4), .int (sT.2 6), .int (sT.2 5), .int (sT.2 7), .int (sT.2 8), .int (sT.2 9), .int (sT.2 10)])), (qt 1, .inr (1, [.ref (qt 5), .int (nI (sT.1 1).length)])), (qt 2, .inr (1, [.ref (qt 6), .int (nI (sT.1 2).length)])), (qt 3, .inr (1, [.ref (qt 7), .int (nI (sT.1 3).length)])), (qt 4, .inr (1, [.ref (qt 8), .int (nI (sT.1 4).length)])), (qt 5, .inl (cy, 64, .inl (FT 1))), (qt 6, .inl (cy, 64, .inl (FT 2))), (qt 7, .inl (cy, 64, .inl (FT 3))), (qt 8, .inl (cy, 64, .inl (FT 4))), (ph, .inr (1, [.ref pk, .int (nI pg.length)])), (pk, .inl (cy, 64, .inl fp))] := hD
  have hl : lv_has ls 4 [(0, .ref x), (1, .int 4), (2, .int i)] := hl
  refine lv_iload_n hx hb dL_at_0 rfl (lv_at hl 1 rfl) ?_
  refine lv_iconst (v := 1) hx hb dL_at_1 (by decide) ?_
  refine lv_icmp_ne (tgt := 13) hx hb dL_at_2 (by decide) (fun _ => ?_) (fun c9 => absurd c9 (by decide))
  refine lv_iload_n hx hb dL_at_13 rfl (lv_at hl 1 rfl) ?_
  refine lv_iconst (v := 2) hx hb dL_at_14 (by decide) ?_
  refine lv_icmp_ne (tgt := 26) hx hb dL_at_15 (by decide) (fun _ => ?_) (fun c9 => absurd c9 (by decide))
  refine lv_iload_n hx hb dL_at_26 rfl (lv_at hl 1 rfl) ?_
  refine lv_iconst (v := 3) hx hb dL_at_27 (by decide) ?_
  refine lv_icmp_ne (tgt := 39) hx hb dL_at_28 (by decide) (fun _ => ?_) (fun c9 => absurd c9 (by decide))
  refine lv_aload_n hx hb dL_at_39 rfl (lv_at hl 0 rfl) ?_
  refine lv_iload_n hx hb dL_at_40 rfl (lv_at hl 2 rfl) ?_
  have hF := va_free (wc := [(x, .inr (2, [.ref (q 0), .ref lh, .int (kk 0), .int (kk 1), .int (kk 2), .int (kk 3), .ref (qt 0), .ref ph])), (q 0, .inr (0, [.ref (q 1), .ref (q 2), .ref (q 3), .ref (q 4), .int (st.2 6), .int (st.2 5), .int (st.2 7), .int (st.2 8), .int (st.2 9), .int (st.2 10)])), (q 1, .inr (1, [.ref (q 5), .int (nI (st.1 1).length)])), (q 2, .inr (1, [.ref (q 6), .int (nI (st.1 2).length)])), (q 3, .inr (1, [.ref (q 7), .int (nI (st.1 3).length)])), (q 4, .inr (1, [.ref (q 8), .int (nI (st.1 4).length)])), (q 5, .inl (cy, 64, .inl (F 1))), (q 6, .inl (cy, 64, .inl (F 2))), (q 7, .inl (cy, 64, .inl (F 3))), (q 8, .inl (cy, 64, .inl (F 4)))]) hD hS hA [0, 1, 2, 3, 4, 5, 6, 7, 8, 9] rfl
  refine vx_calli (rest := []) (vx_runV (As := [.int i]) ⟨hx, hb, hml, hown, hts⟩ (c_X2_frequentGhostAt l D cy x lh ph q qt st F kk hR0 i hl9 s.heap.size) (cwV 1 hts gL_at_X2_frequentGhostAt rfl rfl rfl (by decide +kernel) ⟨Nat.le_of_ble_eq_true rfl, Nat.le_of_ble_eq_true rfl⟩) ⟨ki_blindX, ki_recv (ci := 2) (q0 := 0) hK hP rfl rfl rfl, ki_preX hP hK hE hZ hD hS hA [0, 1, 2, 3, 4, 5, 6, 7, 8, 9] rfl (by decide) [0] rfl rfl⟩ rfl rfl hl.1 rfl (lv_room (Nat.le_of_ble_eq_true rfl)) dL_at_41 ⟨Nat.le_of_ble_eq_true rfl, Nat.le_of_ble_eq_true rfl⟩) hS (fun q _ h => hF q h) hF (fun q _ h => hF q h) ?_ ?_
  · intro E ce q9 u9 t H1 locs1 ht9 hvm hu9 hB hz1 hk1 hS1 hce hv9 hcl9
    obtain ⟨hE0, hP1, hK1, hD1⟩ := hB
    rw [ht9] at hP1
    obtain ⟨hP2, hD2⟩ := va_join hP hD [0, 1, 2, 3, 4, 5, 6, 7, 8, 9] [10, 11, 12, 13, 14, 15, 16, 17, 18, 19, 20, 21, 22] rfl (wr := [(lh, .inr (1, [.ref lk, .int (nI lg.length)])), (lk, .inl (cy, 64, .inl fl)), (qt 0, .inr (0, [.ref (qt 1), .ref (qt 2), .ref (qt 3), .ref (qt 4), .int (sT.2 6), .int (sT.2 5), .int (sT.2 7), .int (sT.2 8), .int (sT.2 9), .int (sT.2 10)])), (qt 1, .inr (1, [.ref (qt 5), .int (nI (sT.1 1).length)])), (qt 2, .inr (1, [.ref (qt 6), .int (nI (sT.1 2).length)])), (qt 3, .inr (1, [.ref (qt 7), .int (nI (sT.1 3).length)])), (qt 4, .inr (1, [.ref (qt 8), .int (nI (sT.1 4).length)])), (qt 5, .inl (cy, 64, .inl (FT 1))), (qt 6, .inl (cy, 64, .inl (FT 2))), (qt 7, .inl (cy, 64, .inl (FT 3))), (qt 8, .inl (cy, 64, .inl (FT 4))), (ph, .inr (1, [.ref pk, .int (nI pg.length)])), (pk, .inl (cy, 64, .inl fp))]) rfl (by decide) (by decide) hk1 hF hP1 hD1
    rw [hE0] at hcl9
    refine vx_catch (own := RL) (name := "java/lang/IndexOutOfBoundsException") hown [] ⟨0, 44, 45, 46⟩ [] htab (fun z hz => nomatch hz) rfl (by decide) (hts (.classLink RL 46 "java/lang/IndexOutOfBoundsException") (by decide +kernel)) (va_Nw.use rfl hE.2.2.2.2.1.2) hce hv9 hcl9 ?_
    refine lv_astore_n (lv' := [(3, .ref q9), (0, .ref x), (1, .int 4), (2, .int i)]) hx hb dL_at_45 rfl hl (by decide) rfl (fun ls hl => ?_)
    refine lv_bipush (v := (-5)) hx hb dL_at_46 (by decide) ?_
    refine vx_ret ?_
    exact ki_iret hx hb hr hlk hK hS1 ((st, F), (kk, (lg, fl)), (sT, FT), (pg, fp)) ⟨rfl, ⟨hR0, hlg, hRT, hpg⟩, rfl⟩ (ki_P hP2 [13, 14, 15, 16, 17, 18, 19, 20, 21, 22, 0, 1, 2, 3, 4, 5, 6, 7, 8, 9, 10, 11, 12] rfl) (hD2.sub [13, 14, 15, 16, 17, 18, 19, 20, 21, 22, 0, 1, 2, 3, 4, 5, 6, 7, 8, 9, 10, 11, 12] (by decide) rfl) dL_at_48
  · intro r9 u9 t H1 locs1 ht9 hvm hw9 hB hz1 hk1 hS1
    exact absurd hbad hw9.2
