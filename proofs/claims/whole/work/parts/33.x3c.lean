/-! ===== the reference: a request of its row ===== -/
set_option maxHeartbeats 4000000 in
set_option maxRecDepth 100000 in
theorem c_X3_asks (l : Launch) (D : va_G) (cy : ClassId) (a : Nat) (t : Nat → Int32) (st : ki_St) (hm : m_rep t st) (n : Nat) (hn : n < 2 ^ 30) (hInv : p_Inv n st) (key : Int32) (hk0 : ¬ key = -1) : ki_I l yX3_asks wsX3_asks ({ frames := 5, cells := 0, slots := 0, locals := 112 }) 0 0 D [(cy, .int)] [.ref a, .int key] [(a, .inl (cy, 366, .inl t))] (S := Nat → Int32) (fun r t1 => r = (c_serve st key).2 ∧ m_rep t1 (c_serve st key).1) (fun t1 => [(a, .inl (cy, 366, .inl t1))]) := by
  refine ki_ofI (cc := cX3_asks) (maxL := 3) (ret := (some .int)) (by decide +kernel) rfl (Nat.le_of_ble_eq_true rfl) ?_
  intro p e s m args below meth c A ls hx hb hr hts hown hlk hml hK hE hP hD hA hS hl
  have hown : s.vm.findClass RX3 = some m.cls := hown
  have hl : lv_has ls 3 [(0, .ref a), (1, .int key)] := hl
  refine lv_aload_n hx hb dX3_asks_0 rfl (lv_at hl 0 rfl) ?_
  refine lv_iload_n hx hb dX3_asks_1 rfl (lv_at hl 1 rfl) ?_
  refine ki_cSR (As := [.ref a, .int key]) (rest := []) ⟨hx, hb, hml, hown, hts⟩ (c_X3_listOf l D cy a t st hm hInv.1 key) (va_cwS 2 hts gX3_asks_X3_listOf rfl rfl rfl (by decide +kernel) ⟨Nat.le_of_ble_eq_true rfl, Nat.le_of_ble_eq_true rfl⟩) hK hE hP [0] rfl [0] rfl rfl hl.1 rfl (Nat.le_of_ble_eq_true rfl) dX3_asks_2 ⟨Nat.le_of_ble_eq_true rfl, Nat.le_of_ble_eq_true rfl⟩ ?_
  have K42 : ∀ (t2 : Nat → Int32) (H : Heap) (locs : List Loc) (ls : Array Slot), m_rep t2 (c_run st key) → va_P D vwCl [(a, .inl (cy, 366, .inl t2))] H → va_D A [(a, .inl (cy, 366, .inl t2))] → va_S A s.heap H locs → lv_has ls 3 [(2, .int (c_list st key)), (0, .ref a), (1, .int key)] → W p l e ({ frames := 5, cells := 0, slots := 0, locals := 112 }) s m args below meth c H locs 0 0 (MQ below (va_Qi (fun r t1 => r = (c_serve st key).2 ∧ m_rep t1 (c_serve st key).1) (ki_B D [(cy, .int)] A (fun t1 => [(a, .inl (cy, 366, .inl t1))])) A) args s 0 0 A) (F0 m 42 ls []) := by
    intro t2 H locs ls hm2 hP hD hS hl
    have hInv2 := p_run hInv hk0
    generalize hs : c_run st key = u at hm2 hInv2
    have hu1 : u.1 = st.1 := by rw [← hs]; rfl
    have hlu : c_list u key = c_list st key := by rw [← hs]; rfl
    have hcu : p_cnt u key = p_cnt st key := by rw [← hs]; rfl
    obtain ⟨hpw, k, g, r, z, ⟨hk, hk1, hk2⟩, ⟨hg, hg2⟩, -, -, -, h6, h7, h8⟩ := id hInv2
    rcases p_list (st := st) key with ⟨hl0, hc⟩ | ⟨i, h1, h4, hli, hmem⟩
    · skip
      have hl : lv_has ls 3 [(2, .int 0), (0, .ref a), (1, .int key)] := by rw [hl0] at hl; exact hl
      have hlw : c_list (c_run st key) key = 0 := by rw [hs, hlu]; exact hl0
      refine lv_aload_n hx hb dX3_asks_42 rfl (lv_at hl 1 rfl) ?_
      refine lv_bipush (v := 7) hx hb dX3_asks_43 (by decide) ?_
      refine va_iald hx hb hK hP 0 0 rfl rfl (vp_in_nI (n := 7) (by decide) (by decide)) dX3_asks_45 ?_
      rw [show (t2 (Int32.toNatClampNeg 7) : Int32) = u.2 7 from hm2.2 7 (by decide) (by decide)]
      refine lv_if_le (tgt := 77) hx hb dX3_asks_46 (by decide) (fun c_1 => ?_) (fun c_1 => ?_)
      · skip
        refine lv_iload_n hx hb dX3_asks_77 rfl (lv_at hl 0 rfl) ?_
        refine lv_iconst (v := 1) hx hb dX3_asks_78 (by decide) ?_
        refine lv_icmp_eq (tgt := 87) hx hb dX3_asks_79 (by decide) (fun c_2 => ?_) (fun c_2 => ?_)
        · exact absurd c_2 (by decide)
        · skip
          refine lv_iload_n hx hb dX3_asks_82 rfl (lv_at hl 0 rfl) ?_
          refine lv_iconst (v := 2) hx hb dX3_asks_83 (by decide) ?_
          refine lv_icmp_ne (tgt := 108) hx hb dX3_asks_84 (by decide) (fun c_3 => ?_) (fun c_3 => ?_)
          rotate_left
          · exact absurd c_3 (by decide)
          · skip
            refine lv_iload_n hx hb dX3_asks_108 rfl (lv_at hl 0 rfl) ?_
            refine lv_if_le (tgt := 121) hx hb dX3_asks_109 (by decide) (fun c_4 => ?_) (fun c_4 => ?_)
            rotate_left
            · exact absurd (by decide) c_4
            · skip
              refine lv_aload_n hx hb dX3_asks_121 rfl (lv_at hl 1 rfl) ?_
              refine lv_iload_n hx hb dX3_asks_122 rfl (lv_at hl 2 rfl) ?_
              refine ki_cSV (As := [.ref a, .int key]) (rest := []) (wr := []) ⟨hx, hb, hml, hown, hts⟩ (c_X3_miss l D cy a t2 u hm2 (n + 1) hInv2 key hk0 (by rw [hcu]; exact hc)) (va_cwS 2 hts gX3_asks_X3_miss rfl rfl rfl (by decide +kernel) ⟨Nat.le_of_ble_eq_true rfl, Nat.le_of_ble_eq_true rfl⟩) hK hE hP hD hS hA [0] rfl [0] [] rfl rfl rfl rfl (by decide) rfl hl.1 rfl (Nat.le_of_ble_eq_true rfl) dX3_asks_123 ⟨Nat.le_of_ble_eq_true rfl, Nat.le_of_ble_eq_true rfl⟩ [0] (fun t_5 => [(a, .inl (cy, 366, .inl t_5))]) (fun _ => rfl) rfl (fun t_5 H locs hw hP hD hS => ?_)
              have hw9 := hw
              have hw9 : m_rep t_5 (c_admit u key) := hw9
              obtain ⟨st_7, est_7⟩ : ∃ z : ki_St, z = c_admit u key := ⟨_, rfl⟩
              rw [← est_7] at hw9
              have hm_6 := hw9
              have hP : va_P D vwCl [(a, .inl (cy, 366, .inl t_5))] H := hP
              have hD : va_D A [(a, .inl (cy, 366, .inl t_5))] := hD
              refine lv_iload_n hx hb dX3_asks_126 rfl (lv_at hl 0 rfl) ?_
              refine lv_if_ne (tgt := 134) hx hb dX3_asks_127 (by decide) (fun c_9 => ?_) (fun c_9 => ?_)
              · exact absurd (by decide) c_9
              · skip
                refine lv_iconst (v := 5) hx hb dX3_asks_130 (by decide) ?_
                refine lv_goto (tgt := 135) hx hb dX3_asks_131 (by decide) ?_
                have e9 : c_serve st key = (st_7, 5) := by rw [m_serve_miss (by rw [hs]; intro q9; exact (m_scan hInv2).mp q9.1 c_1) hlw, hs, est_7]
                exact ki_iret hx hb hr hlk hK hS t_5 (by rw [e9]; exact ⟨rfl, hm_6⟩) hP hD dX3_asks_135
      · skip
        refine lv_aload_n hx hb dX3_asks_49 rfl (lv_at hl 1 rfl) ?_
        refine lv_bipush (v := 8) hx hb dX3_asks_50 (by decide) ?_
        refine va_iald hx hb hK hP 0 0 rfl rfl (vp_in_nI (n := 8) (by decide) (by decide)) dX3_asks_52 ?_
        rw [show (t2 (Int32.toNatClampNeg 8) : Int32) = u.2 8 from hm2.2 8 (by decide) (by decide)]
        refine lv_aload_n hx hb dX3_asks_53 rfl (lv_at hl 1 rfl) ?_
        refine lv_bipush (v := 7) hx hb dX3_asks_54 (by decide) ?_
        refine va_iald hx hb hK hP 0 0 rfl rfl (vp_in_nI (n := 7) (by decide) (by decide)) dX3_asks_56 ?_
        rw [show (t2 (Int32.toNatClampNeg 7) : Int32) = u.2 7 from hm2.2 7 (by decide) (by decide)]
        refine lv_icmp_lt (tgt := 77) hx hb dX3_asks_57 (by decide) (fun c_10 => ?_) (fun c_10 => ?_)
        · skip
          refine lv_iload_n hx hb dX3_asks_77 rfl (lv_at hl 0 rfl) ?_
          refine lv_iconst (v := 1) hx hb dX3_asks_78 (by decide) ?_
          refine lv_icmp_eq (tgt := 87) hx hb dX3_asks_79 (by decide) (fun c_11 => ?_) (fun c_11 => ?_)
          · exact absurd c_11 (by decide)
          · skip
            refine lv_iload_n hx hb dX3_asks_82 rfl (lv_at hl 0 rfl) ?_
            refine lv_iconst (v := 2) hx hb dX3_asks_83 (by decide) ?_
            refine lv_icmp_ne (tgt := 108) hx hb dX3_asks_84 (by decide) (fun c_12 => ?_) (fun c_12 => ?_)
            rotate_left
            · exact absurd c_12 (by decide)
            · skip
              refine lv_iload_n hx hb dX3_asks_108 rfl (lv_at hl 0 rfl) ?_
              refine lv_if_le (tgt := 121) hx hb dX3_asks_109 (by decide) (fun c_13 => ?_) (fun c_13 => ?_)
              rotate_left
              · exact absurd (by decide) c_13
              · skip
                refine lv_aload_n hx hb dX3_asks_121 rfl (lv_at hl 1 rfl) ?_
                refine lv_iload_n hx hb dX3_asks_122 rfl (lv_at hl 2 rfl) ?_
                refine ki_cSV (As := [.ref a, .int key]) (rest := []) (wr := []) ⟨hx, hb, hml, hown, hts⟩ (c_X3_miss l D cy a t2 u hm2 (n + 1) hInv2 key hk0 (by rw [hcu]; exact hc)) (va_cwS 2 hts gX3_asks_X3_miss rfl rfl rfl (by decide +kernel) ⟨Nat.le_of_ble_eq_true rfl, Nat.le_of_ble_eq_true rfl⟩) hK hE hP hD hS hA [0] rfl [0] [] rfl rfl rfl rfl (by decide) rfl hl.1 rfl (Nat.le_of_ble_eq_true rfl) dX3_asks_123 ⟨Nat.le_of_ble_eq_true rfl, Nat.le_of_ble_eq_true rfl⟩ [0] (fun t_14 => [(a, .inl (cy, 366, .inl t_14))]) (fun _ => rfl) rfl (fun t_14 H locs hw hP hD hS => ?_)
                have hw9 := hw
                have hw9 : m_rep t_14 (c_admit u key) := hw9
                obtain ⟨st_16, est_16⟩ : ∃ z : ki_St, z = c_admit u key := ⟨_, rfl⟩
                rw [← est_16] at hw9
                have hm_15 := hw9
                have hP : va_P D vwCl [(a, .inl (cy, 366, .inl t_14))] H := hP
                have hD : va_D A [(a, .inl (cy, 366, .inl t_14))] := hD
                refine lv_iload_n hx hb dX3_asks_126 rfl (lv_at hl 0 rfl) ?_
                refine lv_if_ne (tgt := 134) hx hb dX3_asks_127 (by decide) (fun c_18 => ?_) (fun c_18 => ?_)
                · exact absurd (by decide) c_18
                · skip
                  refine lv_iconst (v := 5) hx hb dX3_asks_130 (by decide) ?_
                  refine lv_goto (tgt := 135) hx hb dX3_asks_131 (by decide) ?_
                  have e9 : c_serve st key = (st_16, 5) := by rw [m_serve_miss (by rw [hs]; intro q9; exact q9.2 c_10) hlw, hs, est_16]
                  exact ki_iret hx hb hr hlk hK hS t_14 (by rw [e9]; exact ⟨rfl, hm_15⟩) hP hD dX3_asks_135
        · skip
          refine lv_iload_n hx hb dX3_asks_60 rfl (lv_at hl 0 rfl) ?_
          refine lv_iconst (v := 1) hx hb dX3_asks_61 (by decide) ?_
          refine lv_icmp_eq (tgt := 70) hx hb dX3_asks_62 (by decide) (fun c_19 => ?_) (fun c_19 => ?_)
          · exact absurd c_19 (by decide)
          · skip
            refine lv_iload_n hx hb dX3_asks_65 rfl (lv_at hl 0 rfl) ?_
            refine lv_iconst (v := 2) hx hb dX3_asks_66 (by decide) ?_
            refine lv_icmp_ne (tgt := 74) hx hb dX3_asks_67 (by decide) (fun c_20 => ?_) (fun c_20 => ?_)
            rotate_left
            · exact absurd c_20 (by decide)
            · skip
              refine lv_bipush (v := 6) hx hb dX3_asks_74 (by decide) ?_
              have e9 : c_serve st key = (u, 6) := by rw [m_serve_scan (by rw [hs]; exact ⟨(m_scan hInv2).mpr c_1, c_10⟩) hlw, hs]; rfl
              exact ki_iret hx hb hr hlk hK hS t2 (by rw [e9]; exact ⟨rfl, hm2⟩) hP hD dX3_asks_76
    · rcases (show i = 1 ∨ i = 2 ∨ i = 3 ∨ i = 4 by omega) with rfl | rfl | rfl | rfl
      · skip
        have hl : lv_has ls 3 [(2, .int 1), (0, .ref a), (1, .int key)] := by rw [hli] at hl; exact hl
        have hlw : c_list (c_run st key) key = nI 1 := by rw [hs, hlu]; exact hli
        have hmemX : key ∈ u.1 1 := by rw [hu1]; exact hmem
        refine lv_aload_n hx hb dX3_asks_42 rfl (lv_at hl 1 rfl) ?_
        refine lv_bipush (v := 7) hx hb dX3_asks_43 (by decide) ?_
        refine va_iald hx hb hK hP 0 0 rfl rfl (vp_in_nI (n := 7) (by decide) (by decide)) dX3_asks_45 ?_
        rw [show (t2 (Int32.toNatClampNeg 7) : Int32) = u.2 7 from hm2.2 7 (by decide) (by decide)]
        refine lv_if_le (tgt := 77) hx hb dX3_asks_46 (by decide) (fun c_21 => ?_) (fun c_21 => ?_)
        · skip
          refine lv_iload_n hx hb dX3_asks_77 rfl (lv_at hl 0 rfl) ?_
          refine lv_iconst (v := 1) hx hb dX3_asks_78 (by decide) ?_
          refine lv_icmp_eq (tgt := 87) hx hb dX3_asks_79 (by decide) (fun c_22 => ?_) (fun c_22 => ?_)
          rotate_left
          · exact absurd (by decide) c_22
          · skip
            refine lv_aload_n hx hb dX3_asks_87 rfl (lv_at hl 1 rfl) ?_
            refine lv_iload_n hx hb dX3_asks_88 rfl (lv_at hl 0 rfl) ?_
            refine lv_aload_n hx hb dX3_asks_89 rfl (lv_at hl 1 rfl) ?_
            refine lv_iload_n hx hb dX3_asks_90 rfl (lv_at hl 0 rfl) ?_
            refine lv_iload_n hx hb dX3_asks_91 rfl (lv_at hl 2 rfl) ?_
            refine ki_cSR (As := [.ref a, .int 1, .int key]) (rest := [.int 1, .ref a]) ⟨hx, hb, hml, hown, hts⟩ (c_X3_placeIn l D cy a t2 u hm2 1 (by omega) (by omega) (p_nodup hpw (by decide) (by decide)) key) (va_cwS 3 hts gX3_asks_X3_placeIn rfl rfl rfl (by decide +kernel) ⟨Nat.le_of_ble_eq_true rfl, Nat.le_of_ble_eq_true rfl⟩) hK hE hP [0] rfl [0] rfl rfl hl.1 rfl (Nat.le_of_ble_eq_true rfl) dX3_asks_92 ⟨Nat.le_of_ble_eq_true rfl, Nat.le_of_ble_eq_true rfl⟩ ?_
            obtain ⟨p9, hp9, ep9, -⟩ := m_idx_p hmemX
            rw [ep9]
            refine ki_cSI (As := [.ref a, .int 1, .int (nI p9)]) (rest := []) (wr := []) ⟨hx, hb, hml, hown, hts⟩ (c_X3_leaves l D cy a t2 u hm2 1 (by omega) (by omega) p9 hp9) (va_cwS 3 hts gX3_asks_X3_leaves rfl rfl rfl (by decide +kernel) ⟨Nat.le_of_ble_eq_true rfl, Nat.le_of_ble_eq_true rfl⟩) hK hE hP hD hS hA [0] rfl [0] [] rfl rfl rfl rfl (by decide) rfl hl.1 rfl (Nat.le_of_ble_eq_true rfl) dX3_asks_95 ⟨Nat.le_of_ble_eq_true rfl, Nat.le_of_ble_eq_true rfl⟩ [0] (fun t_23 => [(a, .inl (cy, 366, .inl t_23))]) (fun _ => rfl) rfl (fun r_26 t_23 H locs hw hP hD hS => ?_)
            have hw9 := hw
            obtain ⟨er_26, hw9⟩ := hw9
            subst er_26
            have hw9 : m_rep t_23 (va_up u.1 1 (k_gap (u.1 1) (nI p9)), u.2) := hw9
            obtain ⟨st_25, est_25⟩ : ∃ z : ki_St, z = (va_up u.1 1 (k_gap (u.1 1) (nI p9)), u.2) := ⟨_, rfl⟩
            rw [← est_25] at hw9
            have hm_24 := hw9
            have hP : va_P D vwCl [(a, .inl (cy, 366, .inl t_23))] H := hP
            have hD : va_D A [(a, .inl (cy, 366, .inl t_23))] := hD
            have hFr := p_from (w := nI 1) hpw (by decide) (by decide) rfl hmemX
            have hF : st_25 = c_from u (nI 1) key := by rw [est_25, ← ep9]; exact hFr.1.symm
            have hl2 : (st_25.1 2).length < 64 := by rw [hF, hFr.2.2.2.2 2 (by decide)]; have q9 := hpw.2.2; have q8 := List.length_pos_of_mem hmemX; omega
            refine lv_pop hx hb dX3_asks_98 rfl ?_
            refine lv_aload_n hx hb dX3_asks_99 rfl (lv_at hl 1 rfl) ?_
            refine lv_iconst (v := 2) hx hb dX3_asks_100 (by decide) ?_
            refine lv_iload_n hx hb dX3_asks_101 rfl (lv_at hl 2 rfl) ?_
            refine ki_cSV (As := [.ref a, .int 2, .int key]) (rest := []) (wr := []) ⟨hx, hb, hml, hown, hts⟩ (c_X3_joins l D cy a t_23 st_25 hm_24 2 (by omega) (by omega) key hk0 hl2) (va_cwS 3 hts gX3_asks_X3_joins rfl rfl rfl (by decide +kernel) ⟨Nat.le_of_ble_eq_true rfl, Nat.le_of_ble_eq_true rfl⟩) hK hE hP hD hS hA [0] rfl [0] [] rfl rfl rfl rfl (by decide) rfl hl.1 rfl (Nat.le_of_ble_eq_true rfl) dX3_asks_102 ⟨Nat.le_of_ble_eq_true rfl, Nat.le_of_ble_eq_true rfl⟩ [0] (fun t_27 => [(a, .inl (cy, 366, .inl t_27))]) (fun _ => rfl) rfl (fun t_27 H locs hw hP hD hS => ?_)
            have hw9 := hw
            have hw9 : m_rep t_27 (va_up st_25.1 2 (k_join (st_25.1 2) key), st_25.2) := hw9
            obtain ⟨st_29, est_29⟩ : ∃ z : ki_St, z = (va_up st_25.1 2 (k_join (st_25.1 2) key), st_25.2) := ⟨_, rfl⟩
            rw [← est_29] at hw9
            have hm_28 := hw9
            have hP : va_P D vwCl [(a, .inl (cy, 366, .inl t_27))] H := hP
            have hD : va_D A [(a, .inl (cy, 366, .inl t_27))] := hD
            refine lv_goto (tgt := 126) hx hb dX3_asks_105 (by decide) ?_
            refine lv_iload_n hx hb dX3_asks_126 rfl (lv_at hl 0 rfl) ?_
            refine lv_if_ne (tgt := 134) hx hb dX3_asks_127 (by decide) (fun c_31 => ?_) (fun c_31 => ?_)
            rotate_left
            · exact absurd c_31 (by decide)
            · skip
              refine lv_iload_n hx hb dX3_asks_134 rfl (lv_at hl 0 rfl) ?_
              have e9 : c_serve st key = (st_29, 1) := by rw [m_serve_hit (by rw [hs]; intro q9; exact (m_scan hInv2).mp q9.1 c_21) hlw (Or.inl rfl), hs, ← hF, est_29]; rfl
              exact ki_iret hx hb hr hlk hK hS t_27 (by rw [e9]; exact ⟨rfl, hm_28⟩) hP hD dX3_asks_135
        · skip
          refine lv_aload_n hx hb dX3_asks_49 rfl (lv_at hl 1 rfl) ?_
          refine lv_bipush (v := 8) hx hb dX3_asks_50 (by decide) ?_
          refine va_iald hx hb hK hP 0 0 rfl rfl (vp_in_nI (n := 8) (by decide) (by decide)) dX3_asks_52 ?_
          rw [show (t2 (Int32.toNatClampNeg 8) : Int32) = u.2 8 from hm2.2 8 (by decide) (by decide)]
          refine lv_aload_n hx hb dX3_asks_53 rfl (lv_at hl 1 rfl) ?_
          refine lv_bipush (v := 7) hx hb dX3_asks_54 (by decide) ?_
          refine va_iald hx hb hK hP 0 0 rfl rfl (vp_in_nI (n := 7) (by decide) (by decide)) dX3_asks_56 ?_
          rw [show (t2 (Int32.toNatClampNeg 7) : Int32) = u.2 7 from hm2.2 7 (by decide) (by decide)]
          refine lv_icmp_lt (tgt := 77) hx hb dX3_asks_57 (by decide) (fun c_32 => ?_) (fun c_32 => ?_)
          · skip
            refine lv_iload_n hx hb dX3_asks_77 rfl (lv_at hl 0 rfl) ?_
            refine lv_iconst (v := 1) hx hb dX3_asks_78 (by decide) ?_
            refine lv_icmp_eq (tgt := 87) hx hb dX3_asks_79 (by decide) (fun c_33 => ?_) (fun c_33 => ?_)
            rotate_left
            · exact absurd (by decide) c_33
            · skip
              refine lv_aload_n hx hb dX3_asks_87 rfl (lv_at hl 1 rfl) ?_
              refine lv_iload_n hx hb dX3_asks_88 rfl (lv_at hl 0 rfl) ?_
              refine lv_aload_n hx hb dX3_asks_89 rfl (lv_at hl 1 rfl) ?_
              refine lv_iload_n hx hb dX3_asks_90 rfl (lv_at hl 0 rfl) ?_
              refine lv_iload_n hx hb dX3_asks_91 rfl (lv_at hl 2 rfl) ?_
              refine ki_cSR (As := [.ref a, .int 1, .int key]) (rest := [.int 1, .ref a]) ⟨hx, hb, hml, hown, hts⟩ (c_X3_placeIn l D cy a t2 u hm2 1 (by omega) (by omega) (p_nodup hpw (by decide) (by decide)) key) (va_cwS 3 hts gX3_asks_X3_placeIn rfl rfl rfl (by decide +kernel) ⟨Nat.le_of_ble_eq_true rfl, Nat.le_of_ble_eq_true rfl⟩) hK hE hP [0] rfl [0] rfl rfl hl.1 rfl (Nat.le_of_ble_eq_true rfl) dX3_asks_92 ⟨Nat.le_of_ble_eq_true rfl, Nat.le_of_ble_eq_true rfl⟩ ?_
              obtain ⟨p9, hp9, ep9, -⟩ := m_idx_p hmemX
              rw [ep9]
              refine ki_cSI (As := [.ref a, .int 1, .int (nI p9)]) (rest := []) (wr := []) ⟨hx, hb, hml, hown, hts⟩ (c_X3_leaves l D cy a t2 u hm2 1 (by omega) (by omega) p9 hp9) (va_cwS 3 hts gX3_asks_X3_leaves rfl rfl rfl (by decide +kernel) ⟨Nat.le_of_ble_eq_true rfl, Nat.le_of_ble_eq_true rfl⟩) hK hE hP hD hS hA [0] rfl [0] [] rfl rfl rfl rfl (by decide) rfl hl.1 rfl (Nat.le_of_ble_eq_true rfl) dX3_asks_95 ⟨Nat.le_of_ble_eq_true rfl, Nat.le_of_ble_eq_true rfl⟩ [0] (fun t_34 => [(a, .inl (cy, 366, .inl t_34))]) (fun _ => rfl) rfl (fun r_37 t_34 H locs hw hP hD hS => ?_)
              have hw9 := hw
              obtain ⟨er_37, hw9⟩ := hw9
              subst er_37
              have hw9 : m_rep t_34 (va_up u.1 1 (k_gap (u.1 1) (nI p9)), u.2) := hw9
              obtain ⟨st_36, est_36⟩ : ∃ z : ki_St, z = (va_up u.1 1 (k_gap (u.1 1) (nI p9)), u.2) := ⟨_, rfl⟩
              rw [← est_36] at hw9
              have hm_35 := hw9
              have hP : va_P D vwCl [(a, .inl (cy, 366, .inl t_34))] H := hP
              have hD : va_D A [(a, .inl (cy, 366, .inl t_34))] := hD
              have hFr := p_from (w := nI 1) hpw (by decide) (by decide) rfl hmemX
              have hF : st_36 = c_from u (nI 1) key := by rw [est_36, ← ep9]; exact hFr.1.symm
              have hl2 : (st_36.1 2).length < 64 := by rw [hF, hFr.2.2.2.2 2 (by decide)]; have q9 := hpw.2.2; have q8 := List.length_pos_of_mem hmemX; omega
              refine lv_pop hx hb dX3_asks_98 rfl ?_
              refine lv_aload_n hx hb dX3_asks_99 rfl (lv_at hl 1 rfl) ?_
              refine lv_iconst (v := 2) hx hb dX3_asks_100 (by decide) ?_
              refine lv_iload_n hx hb dX3_asks_101 rfl (lv_at hl 2 rfl) ?_
              refine ki_cSV (As := [.ref a, .int 2, .int key]) (rest := []) (wr := []) ⟨hx, hb, hml, hown, hts⟩ (c_X3_joins l D cy a t_34 st_36 hm_35 2 (by omega) (by omega) key hk0 hl2) (va_cwS 3 hts gX3_asks_X3_joins rfl rfl rfl (by decide +kernel) ⟨Nat.le_of_ble_eq_true rfl, Nat.le_of_ble_eq_true rfl⟩) hK hE hP hD hS hA [0] rfl [0] [] rfl rfl rfl rfl (by decide) rfl hl.1 rfl (Nat.le_of_ble_eq_true rfl) dX3_asks_102 ⟨Nat.le_of_ble_eq_true rfl, Nat.le_of_ble_eq_true rfl⟩ [0] (fun t_38 => [(a, .inl (cy, 366, .inl t_38))]) (fun _ => rfl) rfl (fun t_38 H locs hw hP hD hS => ?_)
              have hw9 := hw
              have hw9 : m_rep t_38 (va_up st_36.1 2 (k_join (st_36.1 2) key), st_36.2) := hw9
              obtain ⟨st_40, est_40⟩ : ∃ z : ki_St, z = (va_up st_36.1 2 (k_join (st_36.1 2) key), st_36.2) := ⟨_, rfl⟩
              rw [← est_40] at hw9
              have hm_39 := hw9
              have hP : va_P D vwCl [(a, .inl (cy, 366, .inl t_38))] H := hP
              have hD : va_D A [(a, .inl (cy, 366, .inl t_38))] := hD
              refine lv_goto (tgt := 126) hx hb dX3_asks_105 (by decide) ?_
              refine lv_iload_n hx hb dX3_asks_126 rfl (lv_at hl 0 rfl) ?_
              refine lv_if_ne (tgt := 134) hx hb dX3_asks_127 (by decide) (fun c_42 => ?_) (fun c_42 => ?_)
              rotate_left
              · exact absurd c_42 (by decide)
              · skip
                refine lv_iload_n hx hb dX3_asks_134 rfl (lv_at hl 0 rfl) ?_
                have e9 : c_serve st key = (st_40, 1) := by rw [m_serve_hit (by rw [hs]; intro q9; exact q9.2 c_32) hlw (Or.inl rfl), hs, ← hF, est_40]; rfl
                exact ki_iret hx hb hr hlk hK hS t_38 (by rw [e9]; exact ⟨rfl, hm_39⟩) hP hD dX3_asks_135
          · skip
            refine lv_iload_n hx hb dX3_asks_60 rfl (lv_at hl 0 rfl) ?_
            refine lv_iconst (v := 1) hx hb dX3_asks_61 (by decide) ?_
            refine lv_icmp_eq (tgt := 70) hx hb dX3_asks_62 (by decide) (fun c_43 => ?_) (fun c_43 => ?_)
            rotate_left
            · exact absurd (by decide) c_43
            · skip
              refine lv_iload_n hx hb dX3_asks_70 rfl (lv_at hl 0 rfl) ?_
              refine lv_goto (tgt := 76) hx hb dX3_asks_71 (by decide) ?_
              have e9 : c_serve st key = (u, 1) := by rw [m_serve_scan (by rw [hs]; exact ⟨(m_scan hInv2).mpr c_21, c_32⟩) hlw, hs]; rfl
              exact ki_iret hx hb hr hlk hK hS t2 (by rw [e9]; exact ⟨rfl, hm2⟩) hP hD dX3_asks_76
      · skip
        have hl : lv_has ls 3 [(2, .int 2), (0, .ref a), (1, .int key)] := by rw [hli] at hl; exact hl
        have hlw : c_list (c_run st key) key = nI 2 := by rw [hs, hlu]; exact hli
        have hmemX : key ∈ u.1 2 := by rw [hu1]; exact hmem
        refine lv_aload_n hx hb dX3_asks_42 rfl (lv_at hl 1 rfl) ?_
        refine lv_bipush (v := 7) hx hb dX3_asks_43 (by decide) ?_
        refine va_iald hx hb hK hP 0 0 rfl rfl (vp_in_nI (n := 7) (by decide) (by decide)) dX3_asks_45 ?_
        rw [show (t2 (Int32.toNatClampNeg 7) : Int32) = u.2 7 from hm2.2 7 (by decide) (by decide)]
        refine lv_if_le (tgt := 77) hx hb dX3_asks_46 (by decide) (fun c_44 => ?_) (fun c_44 => ?_)
        · skip
          refine lv_iload_n hx hb dX3_asks_77 rfl (lv_at hl 0 rfl) ?_
          refine lv_iconst (v := 1) hx hb dX3_asks_78 (by decide) ?_
          refine lv_icmp_eq (tgt := 87) hx hb dX3_asks_79 (by decide) (fun c_45 => ?_) (fun c_45 => ?_)
          · exact absurd c_45 (by decide)
          · skip
            refine lv_iload_n hx hb dX3_asks_82 rfl (lv_at hl 0 rfl) ?_
            refine lv_iconst (v := 2) hx hb dX3_asks_83 (by decide) ?_
            refine lv_icmp_ne (tgt := 108) hx hb dX3_asks_84 (by decide) (fun c_46 => ?_) (fun c_46 => ?_)
            · exact absurd (by decide) c_46
            · skip
              refine lv_aload_n hx hb dX3_asks_87 rfl (lv_at hl 1 rfl) ?_
              refine lv_iload_n hx hb dX3_asks_88 rfl (lv_at hl 0 rfl) ?_
              refine lv_aload_n hx hb dX3_asks_89 rfl (lv_at hl 1 rfl) ?_
              refine lv_iload_n hx hb dX3_asks_90 rfl (lv_at hl 0 rfl) ?_
              refine lv_iload_n hx hb dX3_asks_91 rfl (lv_at hl 2 rfl) ?_
              refine ki_cSR (As := [.ref a, .int 2, .int key]) (rest := [.int 2, .ref a]) ⟨hx, hb, hml, hown, hts⟩ (c_X3_placeIn l D cy a t2 u hm2 2 (by omega) (by omega) (p_nodup hpw (by decide) (by decide)) key) (va_cwS 3 hts gX3_asks_X3_placeIn rfl rfl rfl (by decide +kernel) ⟨Nat.le_of_ble_eq_true rfl, Nat.le_of_ble_eq_true rfl⟩) hK hE hP [0] rfl [0] rfl rfl hl.1 rfl (Nat.le_of_ble_eq_true rfl) dX3_asks_92 ⟨Nat.le_of_ble_eq_true rfl, Nat.le_of_ble_eq_true rfl⟩ ?_
              obtain ⟨p9, hp9, ep9, -⟩ := m_idx_p hmemX
              rw [ep9]
              refine ki_cSI (As := [.ref a, .int 2, .int (nI p9)]) (rest := []) (wr := []) ⟨hx, hb, hml, hown, hts⟩ (c_X3_leaves l D cy a t2 u hm2 2 (by omega) (by omega) p9 hp9) (va_cwS 3 hts gX3_asks_X3_leaves rfl rfl rfl (by decide +kernel) ⟨Nat.le_of_ble_eq_true rfl, Nat.le_of_ble_eq_true rfl⟩) hK hE hP hD hS hA [0] rfl [0] [] rfl rfl rfl rfl (by decide) rfl hl.1 rfl (Nat.le_of_ble_eq_true rfl) dX3_asks_95 ⟨Nat.le_of_ble_eq_true rfl, Nat.le_of_ble_eq_true rfl⟩ [0] (fun t_47 => [(a, .inl (cy, 366, .inl t_47))]) (fun _ => rfl) rfl (fun r_50 t_47 H locs hw hP hD hS => ?_)
              have hw9 := hw
              obtain ⟨er_50, hw9⟩ := hw9
              subst er_50
              have hw9 : m_rep t_47 (va_up u.1 2 (k_gap (u.1 2) (nI p9)), u.2) := hw9
              obtain ⟨st_49, est_49⟩ : ∃ z : ki_St, z = (va_up u.1 2 (k_gap (u.1 2) (nI p9)), u.2) := ⟨_, rfl⟩
              rw [← est_49] at hw9
              have hm_48 := hw9
              have hP : va_P D vwCl [(a, .inl (cy, 366, .inl t_47))] H := hP
              have hD : va_D A [(a, .inl (cy, 366, .inl t_47))] := hD
              have hFr := p_from (w := nI 2) hpw (by decide) (by decide) rfl hmemX
              have hF : st_49 = c_from u (nI 2) key := by rw [est_49, ← ep9]; exact hFr.1.symm
              have hl2 : (st_49.1 2).length < 64 := by rw [hF]; have q9 := hpw.2.2; have q8 := hFr.2.2.2.1; omega
              refine lv_pop hx hb dX3_asks_98 rfl ?_
              refine lv_aload_n hx hb dX3_asks_99 rfl (lv_at hl 1 rfl) ?_
              refine lv_iconst (v := 2) hx hb dX3_asks_100 (by decide) ?_
              refine lv_iload_n hx hb dX3_asks_101 rfl (lv_at hl 2 rfl) ?_
              refine ki_cSV (As := [.ref a, .int 2, .int key]) (rest := []) (wr := []) ⟨hx, hb, hml, hown, hts⟩ (c_X3_joins l D cy a t_47 st_49 hm_48 2 (by omega) (by omega) key hk0 hl2) (va_cwS 3 hts gX3_asks_X3_joins rfl rfl rfl (by decide +kernel) ⟨Nat.le_of_ble_eq_true rfl, Nat.le_of_ble_eq_true rfl⟩) hK hE hP hD hS hA [0] rfl [0] [] rfl rfl rfl rfl (by decide) rfl hl.1 rfl (Nat.le_of_ble_eq_true rfl) dX3_asks_102 ⟨Nat.le_of_ble_eq_true rfl, Nat.le_of_ble_eq_true rfl⟩ [0] (fun t_51 => [(a, .inl (cy, 366, .inl t_51))]) (fun _ => rfl) rfl (fun t_51 H locs hw hP hD hS => ?_)
              have hw9 := hw
              have hw9 : m_rep t_51 (va_up st_49.1 2 (k_join (st_49.1 2) key), st_49.2) := hw9
              obtain ⟨st_53, est_53⟩ : ∃ z : ki_St, z = (va_up st_49.1 2 (k_join (st_49.1 2) key), st_49.2) := ⟨_, rfl⟩
              rw [← est_53] at hw9
              have hm_52 := hw9
              have hP : va_P D vwCl [(a, .inl (cy, 366, .inl t_51))] H := hP
              have hD : va_D A [(a, .inl (cy, 366, .inl t_51))] := hD
              refine lv_goto (tgt := 126) hx hb dX3_asks_105 (by decide) ?_
              refine lv_iload_n hx hb dX3_asks_126 rfl (lv_at hl 0 rfl) ?_
              refine lv_if_ne (tgt := 134) hx hb dX3_asks_127 (by decide) (fun c_55 => ?_) (fun c_55 => ?_)
              rotate_left
              · exact absurd c_55 (by decide)
              · skip
                refine lv_iload_n hx hb dX3_asks_134 rfl (lv_at hl 0 rfl) ?_
                have e9 : c_serve st key = (st_53, 2) := by rw [m_serve_hit (by rw [hs]; intro q9; exact (m_scan hInv2).mp q9.1 c_44) hlw (Or.inr rfl), hs, ← hF, est_53]; rfl
                exact ki_iret hx hb hr hlk hK hS t_51 (by rw [e9]; exact ⟨rfl, hm_52⟩) hP hD dX3_asks_135
        · skip
          refine lv_aload_n hx hb dX3_asks_49 rfl (lv_at hl 1 rfl) ?_
          refine lv_bipush (v := 8) hx hb dX3_asks_50 (by decide) ?_
          refine va_iald hx hb hK hP 0 0 rfl rfl (vp_in_nI (n := 8) (by decide) (by decide)) dX3_asks_52 ?_
          rw [show (t2 (Int32.toNatClampNeg 8) : Int32) = u.2 8 from hm2.2 8 (by decide) (by decide)]
          refine lv_aload_n hx hb dX3_asks_53 rfl (lv_at hl 1 rfl) ?_
          refine lv_bipush (v := 7) hx hb dX3_asks_54 (by decide) ?_
          refine va_iald hx hb hK hP 0 0 rfl rfl (vp_in_nI (n := 7) (by decide) (by decide)) dX3_asks_56 ?_
          rw [show (t2 (Int32.toNatClampNeg 7) : Int32) = u.2 7 from hm2.2 7 (by decide) (by decide)]
          refine lv_icmp_lt (tgt := 77) hx hb dX3_asks_57 (by decide) (fun c_56 => ?_) (fun c_56 => ?_)
          · skip
            refine lv_iload_n hx hb dX3_asks_77 rfl (lv_at hl 0 rfl) ?_
            refine lv_iconst (v := 1) hx hb dX3_asks_78 (by decide) ?_
            refine lv_icmp_eq (tgt := 87) hx hb dX3_asks_79 (by decide) (fun c_57 => ?_) (fun c_57 => ?_)
            · exact absurd c_57 (by decide)
            · skip
              refine lv_iload_n hx hb dX3_asks_82 rfl (lv_at hl 0 rfl) ?_
              refine lv_iconst (v := 2) hx hb dX3_asks_83 (by decide) ?_
              refine lv_icmp_ne (tgt := 108) hx hb dX3_asks_84 (by decide) (fun c_58 => ?_) (fun c_58 => ?_)
              · exact absurd (by decide) c_58
              · skip
                refine lv_aload_n hx hb dX3_asks_87 rfl (lv_at hl 1 rfl) ?_
                refine lv_iload_n hx hb dX3_asks_88 rfl (lv_at hl 0 rfl) ?_
                refine lv_aload_n hx hb dX3_asks_89 rfl (lv_at hl 1 rfl) ?_
                refine lv_iload_n hx hb dX3_asks_90 rfl (lv_at hl 0 rfl) ?_
                refine lv_iload_n hx hb dX3_asks_91 rfl (lv_at hl 2 rfl) ?_
                refine ki_cSR (As := [.ref a, .int 2, .int key]) (rest := [.int 2, .ref a]) ⟨hx, hb, hml, hown, hts⟩ (c_X3_placeIn l D cy a t2 u hm2 2 (by omega) (by omega) (p_nodup hpw (by decide) (by decide)) key) (va_cwS 3 hts gX3_asks_X3_placeIn rfl rfl rfl (by decide +kernel) ⟨Nat.le_of_ble_eq_true rfl, Nat.le_of_ble_eq_true rfl⟩) hK hE hP [0] rfl [0] rfl rfl hl.1 rfl (Nat.le_of_ble_eq_true rfl) dX3_asks_92 ⟨Nat.le_of_ble_eq_true rfl, Nat.le_of_ble_eq_true rfl⟩ ?_
                obtain ⟨p9, hp9, ep9, -⟩ := m_idx_p hmemX
                rw [ep9]
                refine ki_cSI (As := [.ref a, .int 2, .int (nI p9)]) (rest := []) (wr := []) ⟨hx, hb, hml, hown, hts⟩ (c_X3_leaves l D cy a t2 u hm2 2 (by omega) (by omega) p9 hp9) (va_cwS 3 hts gX3_asks_X3_leaves rfl rfl rfl (by decide +kernel) ⟨Nat.le_of_ble_eq_true rfl, Nat.le_of_ble_eq_true rfl⟩) hK hE hP hD hS hA [0] rfl [0] [] rfl rfl rfl rfl (by decide) rfl hl.1 rfl (Nat.le_of_ble_eq_true rfl) dX3_asks_95 ⟨Nat.le_of_ble_eq_true rfl, Nat.le_of_ble_eq_true rfl⟩ [0] (fun t_59 => [(a, .inl (cy, 366, .inl t_59))]) (fun _ => rfl) rfl (fun r_62 t_59 H locs hw hP hD hS => ?_)
                have hw9 := hw
                obtain ⟨er_62, hw9⟩ := hw9
                subst er_62
                have hw9 : m_rep t_59 (va_up u.1 2 (k_gap (u.1 2) (nI p9)), u.2) := hw9
                obtain ⟨st_61, est_61⟩ : ∃ z : ki_St, z = (va_up u.1 2 (k_gap (u.1 2) (nI p9)), u.2) := ⟨_, rfl⟩
                rw [← est_61] at hw9
                have hm_60 := hw9
                have hP : va_P D vwCl [(a, .inl (cy, 366, .inl t_59))] H := hP
                have hD : va_D A [(a, .inl (cy, 366, .inl t_59))] := hD
                have hFr := p_from (w := nI 2) hpw (by decide) (by decide) rfl hmemX
                have hF : st_61 = c_from u (nI 2) key := by rw [est_61, ← ep9]; exact hFr.1.symm
                have hl2 : (st_61.1 2).length < 64 := by rw [hF]; have q9 := hpw.2.2; have q8 := hFr.2.2.2.1; omega
                refine lv_pop hx hb dX3_asks_98 rfl ?_
                refine lv_aload_n hx hb dX3_asks_99 rfl (lv_at hl 1 rfl) ?_
                refine lv_iconst (v := 2) hx hb dX3_asks_100 (by decide) ?_
                refine lv_iload_n hx hb dX3_asks_101 rfl (lv_at hl 2 rfl) ?_
                refine ki_cSV (As := [.ref a, .int 2, .int key]) (rest := []) (wr := []) ⟨hx, hb, hml, hown, hts⟩ (c_X3_joins l D cy a t_59 st_61 hm_60 2 (by omega) (by omega) key hk0 hl2) (va_cwS 3 hts gX3_asks_X3_joins rfl rfl rfl (by decide +kernel) ⟨Nat.le_of_ble_eq_true rfl, Nat.le_of_ble_eq_true rfl⟩) hK hE hP hD hS hA [0] rfl [0] [] rfl rfl rfl rfl (by decide) rfl hl.1 rfl (Nat.le_of_ble_eq_true rfl) dX3_asks_102 ⟨Nat.le_of_ble_eq_true rfl, Nat.le_of_ble_eq_true rfl⟩ [0] (fun t_63 => [(a, .inl (cy, 366, .inl t_63))]) (fun _ => rfl) rfl (fun t_63 H locs hw hP hD hS => ?_)
                have hw9 := hw
                have hw9 : m_rep t_63 (va_up st_61.1 2 (k_join (st_61.1 2) key), st_61.2) := hw9
                obtain ⟨st_65, est_65⟩ : ∃ z : ki_St, z = (va_up st_61.1 2 (k_join (st_61.1 2) key), st_61.2) := ⟨_, rfl⟩
                rw [← est_65] at hw9
                have hm_64 := hw9
                have hP : va_P D vwCl [(a, .inl (cy, 366, .inl t_63))] H := hP
                have hD : va_D A [(a, .inl (cy, 366, .inl t_63))] := hD
                refine lv_goto (tgt := 126) hx hb dX3_asks_105 (by decide) ?_
                refine lv_iload_n hx hb dX3_asks_126 rfl (lv_at hl 0 rfl) ?_
                refine lv_if_ne (tgt := 134) hx hb dX3_asks_127 (by decide) (fun c_67 => ?_) (fun c_67 => ?_)
                rotate_left
                · exact absurd c_67 (by decide)
                · skip
                  refine lv_iload_n hx hb dX3_asks_134 rfl (lv_at hl 0 rfl) ?_
                  have e9 : c_serve st key = (st_65, 2) := by rw [m_serve_hit (by rw [hs]; intro q9; exact q9.2 c_56) hlw (Or.inr rfl), hs, ← hF, est_65]; rfl
                  exact ki_iret hx hb hr hlk hK hS t_63 (by rw [e9]; exact ⟨rfl, hm_64⟩) hP hD dX3_asks_135
          · skip
            refine lv_iload_n hx hb dX3_asks_60 rfl (lv_at hl 0 rfl) ?_
            refine lv_iconst (v := 1) hx hb dX3_asks_61 (by decide) ?_
            refine lv_icmp_eq (tgt := 70) hx hb dX3_asks_62 (by decide) (fun c_68 => ?_) (fun c_68 => ?_)
            · exact absurd c_68 (by decide)
            · skip
              refine lv_iload_n hx hb dX3_asks_65 rfl (lv_at hl 0 rfl) ?_
              refine lv_iconst (v := 2) hx hb dX3_asks_66 (by decide) ?_
              refine lv_icmp_ne (tgt := 74) hx hb dX3_asks_67 (by decide) (fun c_69 => ?_) (fun c_69 => ?_)
              · exact absurd (by decide) c_69
              · skip
                refine lv_iload_n hx hb dX3_asks_70 rfl (lv_at hl 0 rfl) ?_
                refine lv_goto (tgt := 76) hx hb dX3_asks_71 (by decide) ?_
                have e9 : c_serve st key = (u, 2) := by rw [m_serve_scan (by rw [hs]; exact ⟨(m_scan hInv2).mpr c_44, c_56⟩) hlw, hs]; rfl
                exact ki_iret hx hb hr hlk hK hS t2 (by rw [e9]; exact ⟨rfl, hm2⟩) hP hD dX3_asks_76
      · skip
        have hl : lv_has ls 3 [(2, .int 3), (0, .ref a), (1, .int key)] := by rw [hli] at hl; exact hl
        have hlw : c_list (c_run st key) key = nI 3 := by rw [hs, hlu]; exact hli
        have hmemX : key ∈ u.1 3 := by rw [hu1]; exact hmem
        refine lv_aload_n hx hb dX3_asks_42 rfl (lv_at hl 1 rfl) ?_
        refine lv_bipush (v := 7) hx hb dX3_asks_43 (by decide) ?_
        refine va_iald hx hb hK hP 0 0 rfl rfl (vp_in_nI (n := 7) (by decide) (by decide)) dX3_asks_45 ?_
        rw [show (t2 (Int32.toNatClampNeg 7) : Int32) = u.2 7 from hm2.2 7 (by decide) (by decide)]
        refine lv_if_le (tgt := 77) hx hb dX3_asks_46 (by decide) (fun c_70 => ?_) (fun c_70 => ?_)
        · skip
          refine lv_iload_n hx hb dX3_asks_77 rfl (lv_at hl 0 rfl) ?_
          refine lv_iconst (v := 1) hx hb dX3_asks_78 (by decide) ?_
          refine lv_icmp_eq (tgt := 87) hx hb dX3_asks_79 (by decide) (fun c_71 => ?_) (fun c_71 => ?_)
          · exact absurd c_71 (by decide)
          · skip
            refine lv_iload_n hx hb dX3_asks_82 rfl (lv_at hl 0 rfl) ?_
            refine lv_iconst (v := 2) hx hb dX3_asks_83 (by decide) ?_
            refine lv_icmp_ne (tgt := 108) hx hb dX3_asks_84 (by decide) (fun c_72 => ?_) (fun c_72 => ?_)
            rotate_left
            · exact absurd c_72 (by decide)
            · skip
              refine lv_iload_n hx hb dX3_asks_108 rfl (lv_at hl 0 rfl) ?_
              refine lv_if_le (tgt := 121) hx hb dX3_asks_109 (by decide) (fun c_73 => ?_) (fun c_73 => ?_)
              · exact absurd c_73 (by decide)
              · skip
                refine lv_aload_n hx hb dX3_asks_112 rfl (lv_at hl 1 rfl) ?_
                refine lv_iload_n hx hb dX3_asks_113 rfl (lv_at hl 2 rfl) ?_
                refine lv_iload_n hx hb dX3_asks_114 rfl (lv_at hl 0 rfl) ?_
                refine ki_cSV (As := [.ref a, .int key, .int 3]) (rest := []) (wr := []) ⟨hx, hb, hml, hown, hts⟩ (c_X3_ghost l D cy a t2 u hm2 3 (Or.inl rfl) key hpw k g hk hk1 hk2 hg hg2 h6 h7 hmemX) (va_cwS 3 hts gX3_asks_X3_ghost rfl rfl rfl (by decide +kernel) ⟨Nat.le_of_ble_eq_true rfl, Nat.le_of_ble_eq_true rfl⟩) hK hE hP hD hS hA [0] rfl [0] [] rfl rfl rfl rfl (by decide) rfl hl.1 rfl (Nat.le_of_ble_eq_true rfl) dX3_asks_115 ⟨Nat.le_of_ble_eq_true rfl, Nat.le_of_ble_eq_true rfl⟩ [0] (fun t_74 => [(a, .inl (cy, 366, .inl t_74))]) (fun _ => rfl) rfl (fun t_74 H locs hw hP hD hS => ?_)
                have hw9 := hw
                have hw9 : m_rep t_74 (c_join2 (c_from (c_room (c_adapt u (nI 3)) (if nI 3 = 4 then 1 else 0)) (nI 3) key) key) := hw9
                obtain ⟨st_76, est_76⟩ : ∃ z : ki_St, z = c_join2 (c_from (c_room (c_adapt u (nI 3)) (if nI 3 = 4 then 1 else 0)) (nI 3) key) key := ⟨_, rfl⟩
                rw [← est_76] at hw9
                have hm_75 := hw9
                have hP : va_P D vwCl [(a, .inl (cy, 366, .inl t_74))] H := hP
                have hD : va_D A [(a, .inl (cy, 366, .inl t_74))] := hD
                refine lv_goto (tgt := 126) hx hb dX3_asks_118 (by decide) ?_
                refine lv_iload_n hx hb dX3_asks_126 rfl (lv_at hl 0 rfl) ?_
                refine lv_if_ne (tgt := 134) hx hb dX3_asks_127 (by decide) (fun c_78 => ?_) (fun c_78 => ?_)
                rotate_left
                · exact absurd c_78 (by decide)
                · skip
                  refine lv_iload_n hx hb dX3_asks_134 rfl (lv_at hl 0 rfl) ?_
                  have e9 : c_serve st key = (st_76, 3) := by rw [m_serve_ghost (by rw [hs]; intro q9; exact (m_scan hInv2).mp q9.1 c_70) hlw (Or.inl rfl), hs, est_76]; rfl
                  exact ki_iret hx hb hr hlk hK hS t_74 (by rw [e9]; exact ⟨rfl, hm_75⟩) hP hD dX3_asks_135
        · skip
          refine lv_aload_n hx hb dX3_asks_49 rfl (lv_at hl 1 rfl) ?_
          refine lv_bipush (v := 8) hx hb dX3_asks_50 (by decide) ?_
          refine va_iald hx hb hK hP 0 0 rfl rfl (vp_in_nI (n := 8) (by decide) (by decide)) dX3_asks_52 ?_
          rw [show (t2 (Int32.toNatClampNeg 8) : Int32) = u.2 8 from hm2.2 8 (by decide) (by decide)]
          refine lv_aload_n hx hb dX3_asks_53 rfl (lv_at hl 1 rfl) ?_
          refine lv_bipush (v := 7) hx hb dX3_asks_54 (by decide) ?_
          refine va_iald hx hb hK hP 0 0 rfl rfl (vp_in_nI (n := 7) (by decide) (by decide)) dX3_asks_56 ?_
          rw [show (t2 (Int32.toNatClampNeg 7) : Int32) = u.2 7 from hm2.2 7 (by decide) (by decide)]
          refine lv_icmp_lt (tgt := 77) hx hb dX3_asks_57 (by decide) (fun c_79 => ?_) (fun c_79 => ?_)
          · skip
            refine lv_iload_n hx hb dX3_asks_77 rfl (lv_at hl 0 rfl) ?_
            refine lv_iconst (v := 1) hx hb dX3_asks_78 (by decide) ?_
            refine lv_icmp_eq (tgt := 87) hx hb dX3_asks_79 (by decide) (fun c_80 => ?_) (fun c_80 => ?_)
            · exact absurd c_80 (by decide)
            · skip
              refine lv_iload_n hx hb dX3_asks_82 rfl (lv_at hl 0 rfl) ?_
              refine lv_iconst (v := 2) hx hb dX3_asks_83 (by decide) ?_
              refine lv_icmp_ne (tgt := 108) hx hb dX3_asks_84 (by decide) (fun c_81 => ?_) (fun c_81 => ?_)
              rotate_left
              · exact absurd c_81 (by decide)
              · skip
                refine lv_iload_n hx hb dX3_asks_108 rfl (lv_at hl 0 rfl) ?_
                refine lv_if_le (tgt := 121) hx hb dX3_asks_109 (by decide) (fun c_82 => ?_) (fun c_82 => ?_)
                · exact absurd c_82 (by decide)
                · skip
                  refine lv_aload_n hx hb dX3_asks_112 rfl (lv_at hl 1 rfl) ?_
                  refine lv_iload_n hx hb dX3_asks_113 rfl (lv_at hl 2 rfl) ?_
                  refine lv_iload_n hx hb dX3_asks_114 rfl (lv_at hl 0 rfl) ?_
                  refine ki_cSV (As := [.ref a, .int key, .int 3]) (rest := []) (wr := []) ⟨hx, hb, hml, hown, hts⟩ (c_X3_ghost l D cy a t2 u hm2 3 (Or.inl rfl) key hpw k g hk hk1 hk2 hg hg2 h6 h7 hmemX) (va_cwS 3 hts gX3_asks_X3_ghost rfl rfl rfl (by decide +kernel) ⟨Nat.le_of_ble_eq_true rfl, Nat.le_of_ble_eq_true rfl⟩) hK hE hP hD hS hA [0] rfl [0] [] rfl rfl rfl rfl (by decide) rfl hl.1 rfl (Nat.le_of_ble_eq_true rfl) dX3_asks_115 ⟨Nat.le_of_ble_eq_true rfl, Nat.le_of_ble_eq_true rfl⟩ [0] (fun t_83 => [(a, .inl (cy, 366, .inl t_83))]) (fun _ => rfl) rfl (fun t_83 H locs hw hP hD hS => ?_)
                  have hw9 := hw
                  have hw9 : m_rep t_83 (c_join2 (c_from (c_room (c_adapt u (nI 3)) (if nI 3 = 4 then 1 else 0)) (nI 3) key) key) := hw9
                  obtain ⟨st_85, est_85⟩ : ∃ z : ki_St, z = c_join2 (c_from (c_room (c_adapt u (nI 3)) (if nI 3 = 4 then 1 else 0)) (nI 3) key) key := ⟨_, rfl⟩
                  rw [← est_85] at hw9
                  have hm_84 := hw9
                  have hP : va_P D vwCl [(a, .inl (cy, 366, .inl t_83))] H := hP
                  have hD : va_D A [(a, .inl (cy, 366, .inl t_83))] := hD
                  refine lv_goto (tgt := 126) hx hb dX3_asks_118 (by decide) ?_
                  refine lv_iload_n hx hb dX3_asks_126 rfl (lv_at hl 0 rfl) ?_
                  refine lv_if_ne (tgt := 134) hx hb dX3_asks_127 (by decide) (fun c_87 => ?_) (fun c_87 => ?_)
                  rotate_left
                  · exact absurd c_87 (by decide)
                  · skip
                    refine lv_iload_n hx hb dX3_asks_134 rfl (lv_at hl 0 rfl) ?_
                    have e9 : c_serve st key = (st_85, 3) := by rw [m_serve_ghost (by rw [hs]; intro q9; exact q9.2 c_79) hlw (Or.inl rfl), hs, est_85]; rfl
                    exact ki_iret hx hb hr hlk hK hS t_83 (by rw [e9]; exact ⟨rfl, hm_84⟩) hP hD dX3_asks_135
          · skip
            refine lv_iload_n hx hb dX3_asks_60 rfl (lv_at hl 0 rfl) ?_
            refine lv_iconst (v := 1) hx hb dX3_asks_61 (by decide) ?_
            refine lv_icmp_eq (tgt := 70) hx hb dX3_asks_62 (by decide) (fun c_88 => ?_) (fun c_88 => ?_)
            · exact absurd c_88 (by decide)
            · skip
              refine lv_iload_n hx hb dX3_asks_65 rfl (lv_at hl 0 rfl) ?_
              refine lv_iconst (v := 2) hx hb dX3_asks_66 (by decide) ?_
              refine lv_icmp_ne (tgt := 74) hx hb dX3_asks_67 (by decide) (fun c_89 => ?_) (fun c_89 => ?_)
              rotate_left
              · exact absurd c_89 (by decide)
              · skip
                refine lv_bipush (v := 6) hx hb dX3_asks_74 (by decide) ?_
                have e9 : c_serve st key = (u, 6) := by rw [m_serve_scan (by rw [hs]; exact ⟨(m_scan hInv2).mpr c_70, c_79⟩) hlw, hs]; rfl
                exact ki_iret hx hb hr hlk hK hS t2 (by rw [e9]; exact ⟨rfl, hm2⟩) hP hD dX3_asks_76
      · skip
        have hl : lv_has ls 3 [(2, .int 4), (0, .ref a), (1, .int key)] := by rw [hli] at hl; exact hl
        have hlw : c_list (c_run st key) key = nI 4 := by rw [hs, hlu]; exact hli
        have hmemX : key ∈ u.1 4 := by rw [hu1]; exact hmem
        refine lv_aload_n hx hb dX3_asks_42 rfl (lv_at hl 1 rfl) ?_
        refine lv_bipush (v := 7) hx hb dX3_asks_43 (by decide) ?_
        refine va_iald hx hb hK hP 0 0 rfl rfl (vp_in_nI (n := 7) (by decide) (by decide)) dX3_asks_45 ?_
        rw [show (t2 (Int32.toNatClampNeg 7) : Int32) = u.2 7 from hm2.2 7 (by decide) (by decide)]
        refine lv_if_le (tgt := 77) hx hb dX3_asks_46 (by decide) (fun c_90 => ?_) (fun c_90 => ?_)
        · skip
          refine lv_iload_n hx hb dX3_asks_77 rfl (lv_at hl 0 rfl) ?_
          refine lv_iconst (v := 1) hx hb dX3_asks_78 (by decide) ?_
          refine lv_icmp_eq (tgt := 87) hx hb dX3_asks_79 (by decide) (fun c_91 => ?_) (fun c_91 => ?_)
          · exact absurd c_91 (by decide)
          · skip
            refine lv_iload_n hx hb dX3_asks_82 rfl (lv_at hl 0 rfl) ?_
            refine lv_iconst (v := 2) hx hb dX3_asks_83 (by decide) ?_
            refine lv_icmp_ne (tgt := 108) hx hb dX3_asks_84 (by decide) (fun c_92 => ?_) (fun c_92 => ?_)
            rotate_left
            · exact absurd c_92 (by decide)
            · skip
              refine lv_iload_n hx hb dX3_asks_108 rfl (lv_at hl 0 rfl) ?_
              refine lv_if_le (tgt := 121) hx hb dX3_asks_109 (by decide) (fun c_93 => ?_) (fun c_93 => ?_)
              · exact absurd c_93 (by decide)
              · skip
                refine lv_aload_n hx hb dX3_asks_112 rfl (lv_at hl 1 rfl) ?_
                refine lv_iload_n hx hb dX3_asks_113 rfl (lv_at hl 2 rfl) ?_
                refine lv_iload_n hx hb dX3_asks_114 rfl (lv_at hl 0 rfl) ?_
                refine ki_cSV (As := [.ref a, .int key, .int 4]) (rest := []) (wr := []) ⟨hx, hb, hml, hown, hts⟩ (c_X3_ghost l D cy a t2 u hm2 4 (Or.inr rfl) key hpw k g hk hk1 hk2 hg hg2 h6 h7 hmemX) (va_cwS 3 hts gX3_asks_X3_ghost rfl rfl rfl (by decide +kernel) ⟨Nat.le_of_ble_eq_true rfl, Nat.le_of_ble_eq_true rfl⟩) hK hE hP hD hS hA [0] rfl [0] [] rfl rfl rfl rfl (by decide) rfl hl.1 rfl (Nat.le_of_ble_eq_true rfl) dX3_asks_115 ⟨Nat.le_of_ble_eq_true rfl, Nat.le_of_ble_eq_true rfl⟩ [0] (fun t_94 => [(a, .inl (cy, 366, .inl t_94))]) (fun _ => rfl) rfl (fun t_94 H locs hw hP hD hS => ?_)
                have hw9 := hw
                have hw9 : m_rep t_94 (c_join2 (c_from (c_room (c_adapt u (nI 4)) (if nI 4 = 4 then 1 else 0)) (nI 4) key) key) := hw9
                obtain ⟨st_96, est_96⟩ : ∃ z : ki_St, z = c_join2 (c_from (c_room (c_adapt u (nI 4)) (if nI 4 = 4 then 1 else 0)) (nI 4) key) key := ⟨_, rfl⟩
                rw [← est_96] at hw9
                have hm_95 := hw9
                have hP : va_P D vwCl [(a, .inl (cy, 366, .inl t_94))] H := hP
                have hD : va_D A [(a, .inl (cy, 366, .inl t_94))] := hD
                refine lv_goto (tgt := 126) hx hb dX3_asks_118 (by decide) ?_
                refine lv_iload_n hx hb dX3_asks_126 rfl (lv_at hl 0 rfl) ?_
                refine lv_if_ne (tgt := 134) hx hb dX3_asks_127 (by decide) (fun c_98 => ?_) (fun c_98 => ?_)
                rotate_left
                · exact absurd c_98 (by decide)
                · skip
                  refine lv_iload_n hx hb dX3_asks_134 rfl (lv_at hl 0 rfl) ?_
                  have e9 : c_serve st key = (st_96, 4) := by rw [m_serve_ghost (by rw [hs]; intro q9; exact (m_scan hInv2).mp q9.1 c_90) hlw (Or.inr rfl), hs, est_96]; rfl
                  exact ki_iret hx hb hr hlk hK hS t_94 (by rw [e9]; exact ⟨rfl, hm_95⟩) hP hD dX3_asks_135
        · skip
          refine lv_aload_n hx hb dX3_asks_49 rfl (lv_at hl 1 rfl) ?_
          refine lv_bipush (v := 8) hx hb dX3_asks_50 (by decide) ?_
          refine va_iald hx hb hK hP 0 0 rfl rfl (vp_in_nI (n := 8) (by decide) (by decide)) dX3_asks_52 ?_
          rw [show (t2 (Int32.toNatClampNeg 8) : Int32) = u.2 8 from hm2.2 8 (by decide) (by decide)]
          refine lv_aload_n hx hb dX3_asks_53 rfl (lv_at hl 1 rfl) ?_
          refine lv_bipush (v := 7) hx hb dX3_asks_54 (by decide) ?_
          refine va_iald hx hb hK hP 0 0 rfl rfl (vp_in_nI (n := 7) (by decide) (by decide)) dX3_asks_56 ?_
          rw [show (t2 (Int32.toNatClampNeg 7) : Int32) = u.2 7 from hm2.2 7 (by decide) (by decide)]
          refine lv_icmp_lt (tgt := 77) hx hb dX3_asks_57 (by decide) (fun c_99 => ?_) (fun c_99 => ?_)
          · skip
            refine lv_iload_n hx hb dX3_asks_77 rfl (lv_at hl 0 rfl) ?_
            refine lv_iconst (v := 1) hx hb dX3_asks_78 (by decide) ?_
            refine lv_icmp_eq (tgt := 87) hx hb dX3_asks_79 (by decide) (fun c_100 => ?_) (fun c_100 => ?_)
            · exact absurd c_100 (by decide)
            · skip
              refine lv_iload_n hx hb dX3_asks_82 rfl (lv_at hl 0 rfl) ?_
              refine lv_iconst (v := 2) hx hb dX3_asks_83 (by decide) ?_
              refine lv_icmp_ne (tgt := 108) hx hb dX3_asks_84 (by decide) (fun c_101 => ?_) (fun c_101 => ?_)
              rotate_left
              · exact absurd c_101 (by decide)
              · skip
                refine lv_iload_n hx hb dX3_asks_108 rfl (lv_at hl 0 rfl) ?_
                refine lv_if_le (tgt := 121) hx hb dX3_asks_109 (by decide) (fun c_102 => ?_) (fun c_102 => ?_)
                · exact absurd c_102 (by decide)
                · skip
                  refine lv_aload_n hx hb dX3_asks_112 rfl (lv_at hl 1 rfl) ?_
                  refine lv_iload_n hx hb dX3_asks_113 rfl (lv_at hl 2 rfl) ?_
                  refine lv_iload_n hx hb dX3_asks_114 rfl (lv_at hl 0 rfl) ?_
                  refine ki_cSV (As := [.ref a, .int key, .int 4]) (rest := []) (wr := []) ⟨hx, hb, hml, hown, hts⟩ (c_X3_ghost l D cy a t2 u hm2 4 (Or.inr rfl) key hpw k g hk hk1 hk2 hg hg2 h6 h7 hmemX) (va_cwS 3 hts gX3_asks_X3_ghost rfl rfl rfl (by decide +kernel) ⟨Nat.le_of_ble_eq_true rfl, Nat.le_of_ble_eq_true rfl⟩) hK hE hP hD hS hA [0] rfl [0] [] rfl rfl rfl rfl (by decide) rfl hl.1 rfl (Nat.le_of_ble_eq_true rfl) dX3_asks_115 ⟨Nat.le_of_ble_eq_true rfl, Nat.le_of_ble_eq_true rfl⟩ [0] (fun t_103 => [(a, .inl (cy, 366, .inl t_103))]) (fun _ => rfl) rfl (fun t_103 H locs hw hP hD hS => ?_)
                  have hw9 := hw
                  have hw9 : m_rep t_103 (c_join2 (c_from (c_room (c_adapt u (nI 4)) (if nI 4 = 4 then 1 else 0)) (nI 4) key) key) := hw9
                  obtain ⟨st_105, est_105⟩ : ∃ z : ki_St, z = c_join2 (c_from (c_room (c_adapt u (nI 4)) (if nI 4 = 4 then 1 else 0)) (nI 4) key) key := ⟨_, rfl⟩
                  rw [← est_105] at hw9
                  have hm_104 := hw9
                  have hP : va_P D vwCl [(a, .inl (cy, 366, .inl t_103))] H := hP
                  have hD : va_D A [(a, .inl (cy, 366, .inl t_103))] := hD
                  refine lv_goto (tgt := 126) hx hb dX3_asks_118 (by decide) ?_
                  refine lv_iload_n hx hb dX3_asks_126 rfl (lv_at hl 0 rfl) ?_
                  refine lv_if_ne (tgt := 134) hx hb dX3_asks_127 (by decide) (fun c_107 => ?_) (fun c_107 => ?_)
                  rotate_left
                  · exact absurd c_107 (by decide)
                  · skip
                    refine lv_iload_n hx hb dX3_asks_134 rfl (lv_at hl 0 rfl) ?_
                    have e9 : c_serve st key = (st_105, 4) := by rw [m_serve_ghost (by rw [hs]; intro q9; exact q9.2 c_99) hlw (Or.inr rfl), hs, est_105]; rfl
                    exact ki_iret hx hb hr hlk hK hS t_103 (by rw [e9]; exact ⟨rfl, hm_104⟩) hP hD dX3_asks_135
          · skip
            refine lv_iload_n hx hb dX3_asks_60 rfl (lv_at hl 0 rfl) ?_
            refine lv_iconst (v := 1) hx hb dX3_asks_61 (by decide) ?_
            refine lv_icmp_eq (tgt := 70) hx hb dX3_asks_62 (by decide) (fun c_108 => ?_) (fun c_108 => ?_)
            · exact absurd c_108 (by decide)
            · skip
              refine lv_iload_n hx hb dX3_asks_65 rfl (lv_at hl 0 rfl) ?_
              refine lv_iconst (v := 2) hx hb dX3_asks_66 (by decide) ?_
              refine lv_icmp_ne (tgt := 74) hx hb dX3_asks_67 (by decide) (fun c_109 => ?_) (fun c_109 => ?_)
              rotate_left
              · exact absurd c_109 (by decide)
              · skip
                refine lv_bipush (v := 6) hx hb dX3_asks_74 (by decide) ?_
                have e9 : c_serve st key = (u, 6) := by rw [m_serve_scan (by rw [hs]; exact ⟨(m_scan hInv2).mpr c_90, c_99⟩) hlw, hs]; rfl
                exact ki_iret hx hb hr hlk hK hS t2 (by rw [e9]; exact ⟨rfl, hm2⟩) hP hD dX3_asks_76
  refine lv_istore_n (lv' := [(2, .int (c_list st key)), (0, .ref a), (1, .int key)]) hx hb dX3_asks_5 rfl hl (by decide) rfl (fun ls hl => ?_)
  refine lv_aload_n hx hb dX3_asks_6 rfl (lv_at hl 1 rfl) ?_
  refine lv_bipush (v := 8) hx hb dX3_asks_7 (by decide) ?_
  refine lv_aload_n hx hb dX3_asks_9 rfl (lv_at hl 1 rfl) ?_
  refine lv_bipush (v := 8) hx hb dX3_asks_10 (by decide) ?_
  refine va_iald hx hb hK hP 0 0 rfl rfl (vp_in_nI (n := 8) (by decide) (by decide)) dX3_asks_12 ?_
  rw [show (t (Int32.toNatClampNeg 8) : Int32) = st.2 8 from hm.2 8 (by decide) (by decide)]
  refine lv_if_le (tgt := 35) hx hb dX3_asks_13 (by decide) (fun c_110 => ?_) (fun c_110 => ?_)
  · skip
    refine lv_iconst (v := 1) hx hb dX3_asks_35 (by decide) ?_
    refine va_iast hx hb hK hP hD hS 0 0 rfl rfl (vp_in_nI (n := 8) (by decide) (by decide)) dX3_asks_36 (fun H locs hP hD hS => ?_)
    obtain ⟨t_111, et_111⟩ : ∃ z : Nat → Int32, z = upd t (Int32.toNatClampNeg 8) 1 := ⟨_, rfl⟩
    rw [← et_111] at hP hD
    have hm_112 : m_rep t_111 (st.1, va_up st.2 8 1) := by rw [et_111]; exact m_z (i := 8) hm (by decide) (by decide)
    have hP : va_P D vwCl [(a, .inl (cy, 366, .inl t_111))] H := hP
    have hD : va_D A [(a, .inl (cy, 366, .inl t_111))] := hD
    refine lv_aload_n hx hb dX3_asks_37 rfl (lv_at hl 1 rfl) ?_
    refine lv_bipush (v := 9) hx hb dX3_asks_38 (by decide) ?_
    refine lv_iload_n hx hb dX3_asks_40 rfl (lv_at hl 2 rfl) ?_
    refine va_iast hx hb hK hP hD hS 0 0 rfl rfl (vp_in_nI (n := 9) (by decide) (by decide)) dX3_asks_41 (fun H locs hP hD hS => ?_)
    obtain ⟨t_113, et_113⟩ : ∃ z : Nat → Int32, z = upd t_111 (Int32.toNatClampNeg 9) key := ⟨_, rfl⟩
    rw [← et_113] at hP hD
    have hm_114 : m_rep t_113 (st.1, va_up (va_up st.2 8 1) 9 key) := by rw [et_113]; exact m_z (i := 9) hm_112 (by decide) (by decide)
    have hP : va_P D vwCl [(a, .inl (cy, 366, .inl t_113))] H := hP
    have hD : va_D A [(a, .inl (cy, 366, .inl t_113))] := hD
    have e8 : c_run st key = (st.1, (va_up (va_up st.2 8 1) 9 key)) := by unfold c_run; rw [if_neg (fun q9 => ((m_run hn hInv).mp q9).1 c_110)]
    exact K42 t_113 H locs ls (by rw [e8]; exact hm_114) hP hD hS (lv_sub hl [0, 1, 2] rfl)
  · skip
    refine lv_iload_n hx hb dX3_asks_16 rfl (lv_at hl 2 rfl) ?_
    refine lv_aload_n hx hb dX3_asks_17 rfl (lv_at hl 1 rfl) ?_
    refine lv_bipush (v := 9) hx hb dX3_asks_18 (by decide) ?_
    refine va_iald hx hb hK hP 0 0 rfl rfl (vp_in_nI (n := 9) (by decide) (by decide)) dX3_asks_20 ?_
    rw [show (t (Int32.toNatClampNeg 9) : Int32) = st.2 9 from hm.2 9 (by decide) (by decide)]
    refine lv_iconst (v := 1) hx hb dX3_asks_21 (by decide) ?_
    refine lv_iadd hx hb dX3_asks_22 ?_
    refine lv_icmp_ne (tgt := 35) hx hb dX3_asks_23 (by decide) (fun c_115 => ?_) (fun c_115 => ?_)
    · skip
      refine lv_iconst (v := 1) hx hb dX3_asks_35 (by decide) ?_
      refine va_iast hx hb hK hP hD hS 0 0 rfl rfl (vp_in_nI (n := 8) (by decide) (by decide)) dX3_asks_36 (fun H locs hP hD hS => ?_)
      obtain ⟨t_116, et_116⟩ : ∃ z : Nat → Int32, z = upd t (Int32.toNatClampNeg 8) 1 := ⟨_, rfl⟩
      rw [← et_116] at hP hD
      have hm_117 : m_rep t_116 (st.1, va_up st.2 8 1) := by rw [et_116]; exact m_z (i := 8) hm (by decide) (by decide)
      have hP : va_P D vwCl [(a, .inl (cy, 366, .inl t_116))] H := hP
      have hD : va_D A [(a, .inl (cy, 366, .inl t_116))] := hD
      refine lv_aload_n hx hb dX3_asks_37 rfl (lv_at hl 1 rfl) ?_
      refine lv_bipush (v := 9) hx hb dX3_asks_38 (by decide) ?_
      refine lv_iload_n hx hb dX3_asks_40 rfl (lv_at hl 2 rfl) ?_
      refine va_iast hx hb hK hP hD hS 0 0 rfl rfl (vp_in_nI (n := 9) (by decide) (by decide)) dX3_asks_41 (fun H locs hP hD hS => ?_)
      obtain ⟨t_118, et_118⟩ : ∃ z : Nat → Int32, z = upd t_116 (Int32.toNatClampNeg 9) key := ⟨_, rfl⟩
      rw [← et_118] at hP hD
      have hm_119 : m_rep t_118 (st.1, va_up (va_up st.2 8 1) 9 key) := by rw [et_118]; exact m_z (i := 9) hm_117 (by decide) (by decide)
      have hP : va_P D vwCl [(a, .inl (cy, 366, .inl t_118))] H := hP
      have hD : va_D A [(a, .inl (cy, 366, .inl t_118))] := hD
      have e8 : c_run st key = (st.1, (va_up (va_up st.2 8 1) 9 key)) := by unfold c_run; rw [if_neg (fun q9 => c_115 q9.2)]
      exact K42 t_118 H locs ls (by rw [e8]; exact hm_119) hP hD hS (lv_sub hl [0, 1, 2] rfl)
    · skip
      refine lv_aload_n hx hb dX3_asks_26 rfl (lv_at hl 1 rfl) ?_
      refine lv_bipush (v := 8) hx hb dX3_asks_27 (by decide) ?_
      refine va_iald hx hb hK hP 0 0 rfl rfl (vp_in_nI (n := 8) (by decide) (by decide)) dX3_asks_29 ?_
      rw [show (t (Int32.toNatClampNeg 8) : Int32) = st.2 8 from hm.2 8 (by decide) (by decide)]
      refine lv_iconst (v := 1) hx hb dX3_asks_30 (by decide) ?_
      refine lv_iadd hx hb dX3_asks_31 ?_
      refine lv_goto (tgt := 36) hx hb dX3_asks_32 (by decide) ?_
      refine va_iast hx hb hK hP hD hS 0 0 rfl rfl (vp_in_nI (n := 8) (by decide) (by decide)) dX3_asks_36 (fun H locs hP hD hS => ?_)
      obtain ⟨t_120, et_120⟩ : ∃ z : Nat → Int32, z = upd t (Int32.toNatClampNeg 8) ((st.2 8) + 1) := ⟨_, rfl⟩
      rw [← et_120] at hP hD
      have hm_121 : m_rep t_120 (st.1, va_up st.2 8 ((st.2 8) + 1)) := by rw [et_120]; exact m_z (i := 8) hm (by decide) (by decide)
      have hP : va_P D vwCl [(a, .inl (cy, 366, .inl t_120))] H := hP
      have hD : va_D A [(a, .inl (cy, 366, .inl t_120))] := hD
      refine lv_aload_n hx hb dX3_asks_37 rfl (lv_at hl 1 rfl) ?_
      refine lv_bipush (v := 9) hx hb dX3_asks_38 (by decide) ?_
      refine lv_iload_n hx hb dX3_asks_40 rfl (lv_at hl 2 rfl) ?_
      refine va_iast hx hb hK hP hD hS 0 0 rfl rfl (vp_in_nI (n := 9) (by decide) (by decide)) dX3_asks_41 (fun H locs hP hD hS => ?_)
      obtain ⟨t_122, et_122⟩ : ∃ z : Nat → Int32, z = upd t_120 (Int32.toNatClampNeg 9) key := ⟨_, rfl⟩
      rw [← et_122] at hP hD
      have hm_123 : m_rep t_122 (st.1, va_up (va_up st.2 8 ((st.2 8) + 1)) 9 key) := by rw [et_122]; exact m_z (i := 9) hm_121 (by decide) (by decide)
      have hP : va_P D vwCl [(a, .inl (cy, 366, .inl t_122))] H := hP
      have hD : va_D A [(a, .inl (cy, 366, .inl t_122))] := hD
      have e8 : c_run st key = (st.1, (va_up (va_up st.2 8 ((st.2 8) + 1)) 9 key)) := by unfold c_run; rw [if_pos ((m_run hn hInv).mpr ⟨c_110, c_115⟩)]
      exact K42 t_122 H locs ls (by rw [e8]; exact hm_123) hP hD hS (lv_sub hl [0, 1, 2] rfl)
