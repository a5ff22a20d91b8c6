/-! PaneLightModel, 2 -/
set_option maxHeartbeats 4000000 in
set_option maxRecDepth 100000 in
theorem ct_X10_pane {h : z_H} (hO : r_Ob h) (hP : r_Pl h) (hT : r_Mt (h 92)) {x y w : Int} (hx : z_R x) (hy : z_R y) (hw9 : z_R w) : z_Ct mX10_pane 107 [(2, 89), (0, x), (0, y), (0, w)] h (z_pure (0, r_paneF h x y w) h) := by
  refine z_mk (L := [(2, 89), (0, x), (0, y), (0, w), (9, 0)]) oX10_pane.2.2.2.2 (Nat.le_of_ble_eq_true rfl) rfl ?_
  intro Γ X hQ
  obtain ⟨rb2, rb3, rb5, rb6, rb7, rb9, rb10, rb11, rb12, rb13, rb15, rb25, rb26, rb30, rb31, rb32, rb33⟩ := id hO
  obtain ⟨⟨hw1, hw2⟩, ⟨hh1, hh2⟩, ⟨hs1, hs2⟩, hgl, hco⟩ := id hP
  obtain ⟨tw, ⟨tb1, tb2⟩, ⟨tm1, tm2⟩, ⟨ts1, ts2⟩⟩ := id hT
  have kc : z_kd 107 92 = (1, 11) := rfl
  obtain ⟨hx1, hx2⟩ := hx
  obtain ⟨hy1, hy2⟩ := hy
  obtain ⟨hwa, hwb⟩ := hw9
  refine V_aload_n (pc := 0) X dX10_pane_0 rfl (by first | decide | omega | assumption) ?_
  refine V_iload_n (pc := 1) X dX10_pane_1 rfl ?_
  refine V_iload_n (pc := 2) X dX10_pane_2 rfl ?_
  refine V_FV (pc := 3) X dX10_pane_3 oX10_isPane l_RX10_183 eX10_isPane vX10_isPane ⟨Nat.le_of_ble_eq_true rfl, Nat.le_of_ble_eq_true rfl⟩ ⟨rfl, rfl⟩ ⟨Nat.le_of_ble_eq_true rfl, Nat.le_of_ble_eq_true rfl⟩ (ct_X10_isPane hO hP ⟨by omega, by omega⟩ ⟨by omega, by omega⟩) rfl (by first | rfl | assumption | (simp only [*]; done) | omega) (by intro q h; cases h; rfl) rfl (by rfl) (by exact Nat.le_of_ble_eq_true rfl) ?_
  refine V_bif_ne (pc := 6) X 11 dX10_pane_6 (by decide)  (fun c_6 => ?_) (fun c_6 => ?_)
  · skip
    have qp := of_decide_eq_true c_6
    refine V_iconst (pc := 11) X dX10_pane_11 ?_
    refine V_iload_n (pc := 12) X dX10_pane_12 rfl ?_
    refine V_imul (pc := 13) X dX10_pane_13 ?_
    refine V_iload_n (pc := 14) X dX10_pane_14 rfl ?_
    refine V_iadd (pc := 15) X dX10_pane_15 ?_
    refine V_istore (pc := 16) X dX10_pane_16 (by exact Nat.le_of_ble_eq_true rfl) rfl ?_
    refine V_iload_n (pc := 18) X dX10_pane_18 rfl ?_
    rcases (show w = 0 ∨ w = 1 ∨ w = 2 ∨ w = 3 ∨ (w < 0 ∨ 3 < w) by omega) with e_sw | e_sw | e_sw | e_sw | e_sw
    · skip
      refine V_tswIn (pc := 19) X 48 dX10_pane_19 e_sw ⟨by decide, by decide⟩ (by decide) (by decide) rfl (by decide) ?_
      refine V_aload_n (pc := 48) X dX10_pane_48 rfl (by first | decide | omega | assumption) ?_
      refine V_gz (pc := 49) X dX10_pane_49 f_RX10_16 (by first | rfl | assumption | (simp only [*]; done) | omega) 2 rfl (show _ = (90 : Int) from by first | exact rb2 | ((repeat (first | rw [z_st_at] | rw [z_st_slot _ (by decide)] | rw [z_st_cell _ (by decide)] | rw [z_rw_ne _ _ (by decide)] | rw [r_rem_s (by decide)] | rw [r_rem_c (by decide) (by decide)] | rw [r_cp_ne (by decide)])); exact rb2)) ?_
      refine V_iload (pc := 52) X dX10_pane_52 rfl ?_
      refine V_iald (pc := 54) X dX10_pane_54 (by first | rfl | assumption | (simp only [*]; done) | omega) (by omega) (by omega) (by decide) ?_
      refine V_iret (st := []) (pc := 55) X hQ dX10_pane_55 rfl rfl ?_
      exact z_pi (by unfold r_paneF; simp [*])
    · skip
      refine V_tswIn (pc := 19) X 56 dX10_pane_19 e_sw ⟨by decide, by decide⟩ (by decide) (by decide) rfl (by decide) ?_
      refine V_aload_n (pc := 56) X dX10_pane_56 rfl (by first | decide | omega | assumption) ?_
      refine V_gz (pc := 57) X dX10_pane_57 f_RX10_23 (by first | rfl | assumption | (simp only [*]; done) | omega) 5 rfl (show _ = (92 : Int) from by first | exact rb5 | ((repeat (first | rw [z_st_at] | rw [z_st_slot _ (by decide)] | rw [z_st_cell _ (by decide)] | rw [z_rw_ne _ _ (by decide)] | rw [r_rem_s (by decide)] | rw [r_rem_c (by decide) (by decide)] | rw [r_cp_ne (by decide)])); exact rb5)) ?_
      refine V_bipush (pc := 60) X dX10_pane_60 (by decide) ?_
      refine V_iald (pc := 62) X dX10_pane_62 (by first | rfl | assumption | (simp only [*]; done) | omega) (by omega) (by omega) (by decide) ?_
      refine V_iload (pc := 63) X dX10_pane_63 rfl ?_
      refine V_ishr (pc := 65) X dX10_pane_65 ?_
      refine V_iconst (pc := 66) X dX10_pane_66 ?_
      refine V_iand (pc := 67) X dX10_pane_67 ?_
      rw [z_bitb (by omega) (by omega) (by omega) (by omega)]
      refine V_iret (st := []) (pc := 68) X hQ dX10_pane_68 rfl rfl ?_
      exact z_pi (by unfold r_paneF; simp [*])
    · skip
      refine V_tswIn (pc := 19) X 69 dX10_pane_19 e_sw ⟨by decide, by decide⟩ (by decide) (by decide) rfl (by decide) ?_
      refine V_aload_n (pc := 69) X dX10_pane_69 rfl (by first | decide | omega | assumption) ?_
      refine V_aload_n (pc := 70) X dX10_pane_70 rfl (by first | decide | omega | assumption) ?_
      refine V_gz (pc := 71) X dX10_pane_71 f_RX10_23 (by first | rfl | assumption | (simp only [*]; done) | omega) 5 rfl (show _ = (92 : Int) from by first | exact rb5 | ((repeat (first | rw [z_st_at] | rw [z_st_slot _ (by decide)] | rw [z_st_cell _ (by decide)] | rw [z_rw_ne _ _ (by decide)] | rw [r_rem_s (by decide)] | rw [r_rem_c (by decide) (by decide)] | rw [r_cp_ne (by decide)])); exact rb5)) ?_
      refine V_iload (pc := 74) X dX10_pane_74 rfl ?_
      refine V_FV (pc := 76) X dX10_pane_76 oX10_sheetsAt l_RX10_175 eX10_sheetsAt vX10_sheetsAt ⟨Nat.le_of_ble_eq_true rfl, Nat.le_of_ble_eq_true rfl⟩ ⟨rfl, rfl⟩ ⟨Nat.le_of_ble_eq_true rfl, Nat.le_of_ble_eq_true rfl⟩ (ct_X10_sheetsAt hO hP kc hT (by omega) (by omega)) rfl (by first | rfl | assumption | (simp only [*]; done) | omega) (by intro q h; cases h; rfl) rfl (by rfl) (by exact Nat.le_of_ble_eq_true rfl) ?_
      refine V_iret (st := []) (pc := 79) X hQ dX10_pane_79 rfl rfl ?_
      exact z_pi (by unfold r_paneF; simp [*])
    · skip
      refine V_tswIn (pc := 19) X 80 dX10_pane_19 e_sw ⟨by decide, by decide⟩ (by decide) (by decide) rfl (by decide) ?_
      refine V_aload_n (pc := 80) X dX10_pane_80 rfl (by first | decide | omega | assumption) ?_
      refine V_aload_n (pc := 81) X dX10_pane_81 rfl (by first | decide | omega | assumption) ?_
      refine V_gz (pc := 82) X dX10_pane_82 f_RX10_23 (by first | rfl | assumption | (simp only [*]; done) | omega) 5 rfl (show _ = (92 : Int) from by first | exact rb5 | ((repeat (first | rw [z_st_at] | rw [z_st_slot _ (by decide)] | rw [z_st_cell _ (by decide)] | rw [z_rw_ne _ _ (by decide)] | rw [r_rem_s (by decide)] | rw [r_rem_c (by decide) (by decide)] | rw [r_cp_ne (by decide)])); exact rb5)) ?_
      refine V_iload (pc := 85) X dX10_pane_85 rfl ?_
      refine V_FV (pc := 87) X dX10_pane_87 oX10_lets l_RX10_190 eX10_lets vX10_lets ⟨Nat.le_of_ble_eq_true rfl, Nat.le_of_ble_eq_true rfl⟩ ⟨rfl, rfl⟩ ⟨Nat.le_of_ble_eq_true rfl, Nat.le_of_ble_eq_true rfl⟩ (ct_X10_lets hO hP kc hT (by omega) (by omega)) rfl (by first | rfl | assumption | (simp only [*]; done) | omega) (by intro q h; cases h; rfl) rfl (by rfl) (by exact Nat.le_of_ble_eq_true rfl) ?_
      refine V_iret (st := []) (pc := 90) X hQ dX10_pane_90 rfl rfl ?_
      exact z_pi (by unfold r_paneF; simp [*])
    · skip
      refine V_tswOut (pc := 19) X 91 dX10_pane_19 ⟨by omega, by omega⟩ e_sw (by decide) ?_
      refine V_iconst (pc := 91) X dX10_pane_91 ?_
      refine V_iret (st := []) (pc := 92) X hQ dX10_pane_92 rfl rfl ?_
      exact z_pi (by unfold r_paneF; rw [if_neg (by rw [c_6]; decide), if_neg (by omega), if_neg (by omega), if_neg (by omega), if_neg (by omega)])
  · skip
    refine V_iconst (pc := 9) X dX10_pane_9 ?_
    refine V_iret (st := []) (pc := 10) X hQ dX10_pane_10 rfl rfl ?_
    exact z_pi (by unfold r_paneF; simp [*])
set_option maxHeartbeats 4000000 in
set_option maxRecDepth 100000 in
theorem ct_X10_sheet {h : z_H} (hO : r_Ob h) (hP : r_Pl h) (hT : r_Mt (h 92)) {s w : Int} (hs : z_R s) (hw9 : z_R w) : z_Ct mX10_sheet 107 [(2, 89), (0, s), (0, w)] h (z_pure (0, r_sheetF h s w) h) := by
  refine z_mk (L := [(2, 89), (0, s), (0, w)]) oX10_sheet.2.2.2.2 (Nat.le_of_ble_eq_true rfl) rfl ?_
  intro Γ X hQ
  obtain ⟨rb2, rb3, rb5, rb6, rb7, rb9, rb10, rb11, rb12, rb13, rb15, rb25, rb26, rb30, rb31, rb32, rb33⟩ := id hO
  obtain ⟨⟨hw1, hw2⟩, ⟨hh1, hh2⟩, ⟨hs1, hs2⟩, hgl, hco⟩ := id hP
  obtain ⟨tw, ⟨tb1, tb2⟩, ⟨tm1, tm2⟩, ⟨ts1, ts2⟩⟩ := id hT
  have kc : z_kd 107 92 = (1, 11) := rfl
  obtain ⟨hsa, hsb2⟩ := ‹z_R s›
  obtain ⟨hwa, hwb⟩ := hw9
  refine V_aload_n (pc := 0) X dX10_sheet_0 rfl (by first | decide | omega | assumption) ?_
  refine V_iload_n (pc := 1) X dX10_sheet_1 rfl ?_
  refine V_FV (pc := 2) X dX10_sheet_2 oX10_isSheet l_RX10_197 eX10_isSheet vX10_isSheet ⟨Nat.le_of_ble_eq_true rfl, Nat.le_of_ble_eq_true rfl⟩ ⟨rfl, rfl⟩ ⟨Nat.le_of_ble_eq_true rfl, Nat.le_of_ble_eq_true rfl⟩ (ct_X10_isSheet hO hP ⟨by omega, by omega⟩) rfl (by first | rfl | assumption | (simp only [*]; done) | omega) (by intro q h; cases h; rfl) rfl (by rfl) (by exact Nat.le_of_ble_eq_true rfl) ?_
  refine V_bif_eq (pc := 5) X 18 dX10_sheet_5 (by decide)  (fun c_5 => ?_) (fun c_5 => ?_)
  · skip
    refine V_iconst (pc := 18) X dX10_sheet_18 ?_
    refine V_iret (st := []) (pc := 19) X hQ dX10_sheet_19 rfl rfl ?_
    exact z_pi (by unfold r_sheetF r_isS; first | (rw [if_neg (fun g => by rw [c_5] at g; exact absurd g.1 (by decide))]) | (rw [if_neg (fun g => absurd (decide_eq_true (show 0 ≤ w ∧ w ≤ 1 from g.2)) (by rw [show decide (0 ≤ w ∧ w ≤ 1) = false from c_15]; decide))]))
  · skip
    have qs := of_decide_eq_true c_5
    refine V_iload_n (pc := 8) X dX10_sheet_8 rfl ?_
    refine V_i2l (pc := 9) X dX10_sheet_9 ⟨by omega, by omega⟩ ?_
    refine V_lconst (pc := 10) (z := 0) X dX10_sheet_10 (by decide) ?_
    refine V_lconst (pc := 11) (z := 1) X dX10_sheet_11 (by decide) ?_
    refine V_FS (pc := 12) X dX10_sheet_12 oX10_in l_RX10_81 sX10_in ⟨Nat.le_of_ble_eq_true rfl, Nat.le_of_ble_eq_true rfl⟩ ⟨rfl, rfl⟩ ⟨Nat.le_of_ble_eq_true rfl, Nat.le_of_ble_eq_true rfl⟩ (ct_X10_in ⟨by omega, by omega⟩ ⟨by omega, by omega⟩ ⟨by omega, by omega⟩) rfl (by rfl) (by exact Nat.le_of_ble_eq_true rfl) ?_
    refine V_bif_ne (pc := 15) X 20 dX10_sheet_15 (by decide)  (fun c_15 => ?_) (fun c_15 => ?_)
    · skip
      have q2 := of_decide_eq_true c_15
      refine V_iload_n (pc := 20) X dX10_sheet_20 rfl ?_
      refine V_if_ne (pc := 21) X 33 dX10_sheet_21 (by decide) ⟨by omega, by omega⟩ (fun c_21 => ?_) (fun c_21 => ?_)
      · skip
        refine V_aload_n (pc := 33) X dX10_sheet_33 rfl (by first | decide | omega | assumption) ?_
        refine V_gz (pc := 34) X dX10_sheet_34 f_RX10_23 (by first | rfl | assumption | (simp only [*]; done) | omega) 5 rfl (show _ = (92 : Int) from by first | exact rb5 | ((repeat (first | rw [z_st_at] | rw [z_st_slot _ (by decide)] | rw [z_st_cell _ (by decide)] | rw [z_rw_ne _ _ (by decide)] | rw [r_rem_s (by decide)] | rw [r_rem_c (by decide) (by decide)] | rw [r_cp_ne (by decide)])); exact rb5)) ?_
        refine V_iconst (pc := 37) X dX10_sheet_37 ?_
        refine V_iload_n (pc := 38) X dX10_sheet_38 rfl ?_
        refine V_iadd (pc := 39) X dX10_sheet_39 ?_
        refine V_iald (pc := 40) X dX10_sheet_40 (by first | rfl | assumption | (simp only [*]; done) | omega) (by omega) (by omega) (by decide) ?_
        refine V_iret (st := []) (pc := 41) X hQ dX10_sheet_41 rfl rfl ?_
        exact z_pi (by unfold r_sheetF r_isS; rw [if_pos ⟨c_5, q2⟩]; first | (rw [if_pos c_21]; done) | (rw [if_neg c_21, Int.zero_add]))
      · skip
        refine V_aload_n (pc := 24) X dX10_sheet_24 rfl (by first | decide | omega | assumption) ?_
        refine V_gz (pc := 25) X dX10_sheet_25 f_RX10_20 (by first | rfl | assumption | (simp only [*]; done) | omega) 3 rfl (show _ = (91 : Int) from by first | exact rb3 | ((repeat (first | rw [z_st_at] | rw [z_st_slot _ (by decide)] | rw [z_st_cell _ (by decide)] | rw [z_rw_ne _ _ (by decide)] | rw [r_rem_s (by decide)] | rw [r_rem_c (by decide) (by decide)] | rw [r_cp_ne (by decide)])); exact rb3)) ?_
        refine V_iload_n (pc := 28) X dX10_sheet_28 rfl ?_
        refine V_iald (pc := 29) X dX10_sheet_29 (by first | rfl | assumption | (simp only [*]; done) | omega) (by omega) (by omega) (by decide) ?_
        refine V_goto (pc := 30) X 41 dX10_sheet_30 (by decide) ?_
        refine V_iret (st := []) (pc := 41) X hQ dX10_sheet_41 rfl rfl ?_
        exact z_pi (by unfold r_sheetF r_isS; rw [if_pos ⟨c_5, q2⟩]; first | (rw [if_pos c_21]; done) | (rw [if_neg c_21, Int.zero_add]))
    · skip
      refine V_iconst (pc := 18) X dX10_sheet_18 ?_
      refine V_iret (st := []) (pc := 19) X hQ dX10_sheet_19 rfl rfl ?_
      exact z_pi (by unfold r_sheetF r_isS; first | (rw [if_neg (fun g => by rw [c_5] at g; exact absurd g.1 (by decide))]) | (rw [if_neg (fun g => absurd (decide_eq_true (show 0 ≤ w ∧ w ≤ 1 from g.2)) (by rw [show decide (0 ≤ w ∧ w ≤ 1) = false from c_15]; decide))]))
set_option maxHeartbeats 4000000 in
set_option maxRecDepth 100000 in
theorem ct_X10_remember {h : z_H} (hO : r_Ob h) (hU : 0 ≤ h 89 8 ∧ h 89 8 ≤ 10) : z_Ct mX10_remember 107 [(2, 89)] h (z_void (r_rem h)) := by
  refine z_mk (L := [(2, 89), (9, 0)]) oX10_remember.2.2.2.2 (Nat.le_of_ble_eq_true rfl) rfl ?_
  intro Γ X hQ
  obtain ⟨rb2, rb3, rb5, rb6, rb7, rb9, rb10, rb11, rb12, rb13, rb15, rb25, rb26, rb30, rb31, rb32, rb33⟩ := id hO
  obtain ⟨hu1, hu2⟩ := id hU
  have huu := r_u_rng hU
  refine V_aload_n (pc := 0) X dX10_remember_0 rfl (by first | decide | omega | assumption) ?_
  refine V_gz (pc := 1) X dX10_remember_1 f_RX10_73 (by first | rfl | assumption | (simp only [*]; done) | omega) 8 rfl rfl ?_
  refine V_bipush (pc := 4) X dX10_remember_4 (by decide) ?_
  refine V_icmp_ne (pc := 6) X 48 dX10_remember_6 (by decide) ⟨by omega, by omega⟩ ⟨by omega, by omega⟩ (fun c_6 => ?_) (fun c_6 => ?_)
  · skip
    refine V_aload_n (pc := 48) X dX10_remember_48 rfl (by first | decide | omega | assumption) ?_
    refine V_gz (pc := 49) X dX10_remember_49 f_RX10_23 (by first | rfl | assumption | (simp only [*]; done) | omega) 5 rfl (show _ = (92 : Int) from by first | exact rb5 | ((repeat (first | rw [z_st_at] | rw [z_st_slot _ (by decide)] | rw [z_st_cell _ (by decide)] | rw [z_rw_ne _ _ (by decide)] | rw [r_rem_s (by decide)] | rw [r_rem_c (by decide) (by decide)] | rw [r_cp_ne (by decide)])); exact rb5)) ?_
    refine V_iconst (pc := 52) X dX10_remember_52 ?_
    refine V_aload_n (pc := 53) X dX10_remember_53 rfl (by first | decide | omega | assumption) ?_
    refine V_gz (pc := 54) X dX10_remember_54 f_RX10_29 (by first | rfl | assumption | (simp only [*]; done) | omega) 7 rfl (show _ = (94 : Int) from by first | exact rb7 | ((repeat (first | rw [z_st_at] | rw [z_st_slot _ (by decide)] | rw [z_st_cell _ (by decide)] | rw [z_rw_ne _ _ (by decide)] | rw [r_rem_s (by decide)] | rw [r_rem_c (by decide) (by decide)] | rw [r_cp_ne (by decide)])); exact rb7)) ?_
    refine V_bipush (pc := 57) X dX10_remember_57 (by decide) ?_
    refine V_aload_n (pc := 59) X dX10_remember_59 rfl (by first | decide | omega | assumption) ?_
    refine V_gz (pc := 60) X dX10_remember_60 f_RX10_73 (by first | rfl | assumption | (simp only [*]; done) | omega) 8 rfl (show _ = r_u h from by unfold r_u; first | (rw [if_neg c_6]; done) | (rw [if_pos c_6, z_st_at]; omega)) ?_
    refine V_imul (pc := 63) X dX10_remember_63 ?_
    refine V_bipush (pc := 64) X dX10_remember_64 (by decide) ?_
    refine V_CS (pc := 66) X dX10_remember_66 oX10_copies l_RX10_162 sX10_copies ⟨Nat.le_of_ble_eq_true rfl, Nat.le_of_ble_eq_true rfl⟩ ⟨rfl, rfl⟩ ⟨Nat.le_of_ble_eq_true rfl, Nat.le_of_ble_eq_true rfl⟩ (ct_X10_copies (NA := 11) (NB := 110) rfl rfl (by decide) (by decide) (by decide) (by omega) (by omega) (by decide) (by decide) (by decide)) rfl (by rfl) (by exact Nat.le_of_ble_eq_true rfl) (fun r h1 hp => ?_)
    obtain ⟨rfl, rfl⟩ := hp
    refine V_aload_n (pc := 69) X dX10_remember_69 rfl (by first | decide | omega | assumption) ?_
    refine V_dup (pc := 70) X dX10_remember_70 (Nat.ne_of_beq_eq_false rfl) ?_
    refine V_gz (pc := 71) X dX10_remember_71 f_RX10_73 (by first | rfl | assumption | (simp only [*]; done) | omega) 8 rfl (show _ = r_u h from by rw [r_cp_ne (by decide)]; unfold r_u; first | (rw [if_neg c_6]; done) | (rw [if_pos c_6, z_st_at]; omega)) ?_
    refine V_iconst (pc := 74) X dX10_remember_74 ?_
    refine V_iadd (pc := 75) X dX10_remember_75 ?_
    refine V_pz (pc := 76) X dX10_remember_76 f_RX10_73 (by first | rfl | assumption | (simp only [*]; done) | omega) (fun b => z_fitI b _) 8 rfl ?_
    refine V_vret (st := []) (pc := 79) X hQ dX10_remember_79 rfl rfl ?_
    exact ⟨rfl, by first | exact (r_rem_no c_6) | exact (r_rem_yes c_6 (by funext r; unfold r_shift; rw [show e = 99 by omega]))⟩
  · skip
    refine V_iconst (pc := 9) X dX10_remember_9 ?_
    refine V_istore_n (pc := 10) X dX10_remember_10 (by exact Nat.le_of_ble_eq_true rfl) rfl ?_
    have lp_11 : ∀ (m : Nat) (e : Int), (99 - e).toNat < m → 0 ≤ e → e ≤ 99 → z_V Γ (107, 0, 0) 11 [(2, 89), (0, e)] [] (z_rw h 94 (fun r => if 0 ≤ r ∧ r < e then h 94 (r + 11) else h 94 r)) := by
      intro m
      induction m with
      | zero => intro e hm; exact absurd hm (Nat.not_lt_zero _)
      | succ m ih_11 =>
        intro e hm he0 he1
        refine V_iload_n (pc := 11) X dX10_remember_11 rfl ?_
        refine V_bipush (pc := 12) X dX10_remember_12 (by decide) ?_
        refine V_icmp_ge (pc := 14) X 38 dX10_remember_14 (by decide) ⟨by omega, by omega⟩ ⟨by omega, by omega⟩ (fun c_14 => ?_) (fun c_14 => ?_)
        · skip
          refine V_aload_n (pc := 38) X dX10_remember_38 rfl (by first | decide | omega | assumption) ?_
          refine V_dup (pc := 39) X dX10_remember_39 (Nat.ne_of_beq_eq_false rfl) ?_
          refine V_gz (pc := 40) X dX10_remember_40 f_RX10_73 (by first | rfl | assumption | (simp only [*]; done) | omega) 8 rfl (show _ = h 89 8 from by rw [z_rw_ne _ _ (by decide)]) ?_
          refine V_iconst (pc := 43) X dX10_remember_43 ?_
          refine V_isub (pc := 44) X dX10_remember_44 ?_
          refine V_pz (pc := 45) X dX10_remember_45 f_RX10_73 (by first | rfl | assumption | (simp only [*]; done) | omega) (fun b => z_fitI b _) 8 rfl ?_
          refine V_aload_n (pc := 48) X dX10_remember_48 rfl (by first | decide | omega | assumption) ?_
          refine V_gz (pc := 49) X dX10_remember_49 f_RX10_23 (by first | rfl | assumption | (simp only [*]; done) | omega) 5 rfl (show _ = (92 : Int) from by first | exact rb5 | ((repeat (first | rw [z_st_at] | rw [z_st_slot _ (by decide)] | rw [z_st_cell _ (by decide)] | rw [z_rw_ne _ _ (by decide)] | rw [r_rem_s (by decide)] | rw [r_rem_c (by decide) (by decide)] | rw [r_cp_ne (by decide)])); exact rb5)) ?_
          refine V_iconst (pc := 52) X dX10_remember_52 ?_
          refine V_aload_n (pc := 53) X dX10_remember_53 rfl (by first | decide | omega | assumption) ?_
          refine V_gz (pc := 54) X dX10_remember_54 f_RX10_29 (by first | rfl | assumption | (simp only [*]; done) | omega) 7 rfl (show _ = (94 : Int) from by first | exact rb7 | ((repeat (first | rw [z_st_at] | rw [z_st_slot _ (by decide)] | rw [z_st_cell _ (by decide)] | rw [z_rw_ne _ _ (by decide)] | rw [r_rem_s (by decide)] | rw [r_rem_c (by decide) (by decide)] | rw [r_cp_ne (by decide)])); exact rb7)) ?_
          refine V_bipush (pc := 57) X dX10_remember_57 (by decide) ?_
          refine V_aload_n (pc := 59) X dX10_remember_59 rfl (by first | decide | omega | assumption) ?_
          refine V_gz (pc := 60) X dX10_remember_60 f_RX10_73 (by first | rfl | assumption | (simp only [*]; done) | omega) 8 rfl (show _ = r_u h from by unfold r_u; first | (rw [if_neg c_6]; done) | (rw [if_pos c_6, z_st_at]; omega)) ?_
          refine V_imul (pc := 63) X dX10_remember_63 ?_
          refine V_bipush (pc := 64) X dX10_remember_64 (by decide) ?_
          refine V_CS (pc := 66) X dX10_remember_66 oX10_copies l_RX10_162 sX10_copies ⟨Nat.le_of_ble_eq_true rfl, Nat.le_of_ble_eq_true rfl⟩ ⟨rfl, rfl⟩ ⟨Nat.le_of_ble_eq_true rfl, Nat.le_of_ble_eq_true rfl⟩ (ct_X10_copies (NA := 11) (NB := 110) rfl rfl (by decide) (by decide) (by decide) (by omega) (by omega) (by decide) (by decide) (by decide)) rfl (by rfl) (by exact Nat.le_of_ble_eq_true rfl) (fun r h1 hp => ?_)
          obtain ⟨rfl, rfl⟩ := hp
          refine V_aload_n (pc := 69) X dX10_remember_69 rfl (by first | decide | omega | assumption) ?_
          refine V_dup (pc := 70) X dX10_remember_70 (Nat.ne_of_beq_eq_false rfl) ?_
          refine V_gz (pc := 71) X dX10_remember_71 f_RX10_73 (by first | rfl | assumption | (simp only [*]; done) | omega) 8 rfl (show _ = r_u h from by rw [r_cp_ne (by decide)]; unfold r_u; first | (rw [if_neg c_6]; done) | (rw [if_pos c_6, z_st_at]; omega)) ?_
          refine V_iconst (pc := 74) X dX10_remember_74 ?_
          refine V_iadd (pc := 75) X dX10_remember_75 ?_
          refine V_pz (pc := 76) X dX10_remember_76 f_RX10_73 (by first | rfl | assumption | (simp only [*]; done) | omega) (fun b => z_fitI b _) 8 rfl ?_
          refine V_vret (st := []) (pc := 79) X hQ dX10_remember_79 rfl rfl ?_
          exact ⟨rfl, by first | exact (r_rem_no c_6) | exact (r_rem_yes c_6 (by funext r; unfold r_shift; rw [show e = 99 by omega]))⟩
        · skip
          refine V_aload_n (pc := 17) X dX10_remember_17 rfl (by first | decide | omega | assumption) ?_
          refine V_gz (pc := 18) X dX10_remember_18 f_RX10_29 (by first | rfl | assumption | (simp only [*]; done) | omega) 7 rfl (show _ = (94 : Int) from by first | exact rb7 | ((repeat (first | rw [z_st_at] | rw [z_st_slot _ (by decide)] | rw [z_st_cell _ (by decide)] | rw [z_rw_ne _ _ (by decide)] | rw [r_rem_s (by decide)] | rw [r_rem_c (by decide) (by decide)] | rw [r_cp_ne (by decide)])); exact rb7)) ?_
          refine V_iload_n (pc := 21) X dX10_remember_21 rfl ?_
          refine V_aload_n (pc := 22) X dX10_remember_22 rfl (by first | decide | omega | assumption) ?_
          refine V_gz (pc := 23) X dX10_remember_23 f_RX10_29 (by first | rfl | assumption | (simp only [*]; done) | omega) 7 rfl (show _ = (94 : Int) from by first | exact rb7 | ((repeat (first | rw [z_st_at] | rw [z_st_slot _ (by decide)] | rw [z_st_cell _ (by decide)] | rw [z_rw_ne _ _ (by decide)] | rw [r_rem_s (by decide)] | rw [r_rem_c (by decide) (by decide)] | rw [r_cp_ne (by decide)])); exact rb7)) ?_
          refine V_iload_n (pc := 26) X dX10_remember_26 rfl ?_
          refine V_bipush (pc := 27) X dX10_remember_27 (by decide) ?_
          refine V_iadd (pc := 29) X dX10_remember_29 ?_
          refine V_iald (pc := 30) X dX10_remember_30 (by first | rfl | assumption | (simp only [*]; done) | omega) (by omega) (by omega) (by decide) ?_
          rw [show z_rw h 94 (fun r => if 0 ≤ r ∧ r < e then h 94 (r + 11) else h 94 r) 94 (e + 11) = h 94 (e + 11) from by rw [z_rw_at, if_neg (by omega)]]
          refine V_iast (pc := 31) X dX10_remember_31 (by first | rfl | assumption | (simp only [*]; done) | omega) (by omega) (by omega) (by decide) ?_
          rw [z_rw_st]
          refine V_iinc (pc := 32) X dX10_remember_32 rfl rfl ?_
          refine V_goto (pc := 35) X 11 dX10_remember_35 (by decide) ?_
          refine V_heap ?_ (ih_11 (e + 1) (by omega) (by omega) (by omega))
          congr 1
          funext r
          by_cases g : r = e
          · rw [if_pos g, if_pos (by omega), g]
          · rw [if_neg g]
            by_cases g2 : 0 ≤ r ∧ r < e
            · rw [if_pos g2, if_pos (by omega)]
            · rw [if_neg g2, if_neg (by omega)]
    refine V_heap (h' := z_rw h 94 (fun r => if 0 ≤ r ∧ r < 0 then h 94 (r + 11) else h 94 r)) (by rw [show (fun r => if 0 ≤ r ∧ r < 0 then h 94 (r + 11) else h 94 r) = h 94 from by funext r; rw [if_neg (by omega)]]; exact (z_rw_same h 94).symm) ?_
    exact lp_11 _ 0 (Nat.lt_succ_self _) (by decide) (by decide)
set_option maxHeartbeats 4000000 in
set_option maxRecDepth 100000 in
theorem ct_X10_lays {h : z_H} (hO : r_Ob h) (hP : r_Pl h) (hT : r_Mt (h 92)) (hU : 0 ≤ h 89 8 ∧ h 89 8 ≤ 10) {s x y : Int} (hs : z_R s) (hx : z_R x) (hy : z_R y) : z_Ct mX10_lays 107 [(2, 89), (0, s), (0, x), (0, y)] h (fun r h2 => ((r_isS h s = false ∨ r_isP h x y = false) ∧ r = some (0, -1) ∧ h2 = h) ∨ (r_isS h s = true ∧ r_isP h x y = true ∧ (¬ h 92 s = -9 ∨ tb (h 92 8) (4 * x + y) = true ∨ z_pop ((r_at h (h 92) (4 * x + y) : Nat) : Int) = 3) ∧ r = some (0, -2) ∧ h2 = h) ∨ (r_isS h s = true ∧ r_isP h x y = true ∧ h 92 s = -9 ∧ tb (h 92 8) (4 * x + y) = false ∧ ¬ z_pop ((r_at h (h 92) (4 * x + y) : Nat) : Int) = 3 ∧ r = some (0, r_lets (r_layH h s (4 * x + y)) (r_layH h s (4 * x + y) 92) (4 * x + y)) ∧ h2 = r_layH h s (4 * x + y))) := by
  refine z_mk (L := [(2, 89), (0, s), (0, x), (0, y), (9, 0)]) oX10_lays.2.2.2.2 (Nat.le_of_ble_eq_true rfl) rfl ?_
  intro Γ X hQ
  obtain ⟨rb2, rb3, rb5, rb6, rb7, rb9, rb10, rb11, rb12, rb13, rb15, rb25, rb26, rb30, rb31, rb32, rb33⟩ := id hO
  obtain ⟨⟨hw1, hw2⟩, ⟨hh1, hh2⟩, ⟨hs1, hs2⟩, hgl, hco⟩ := id hP
  obtain ⟨tw, ⟨tb1, tb2⟩, ⟨tm1, tm2⟩, ⟨ts1, ts2⟩⟩ := id hT
  have kc : z_kd 107 92 = (1, 11) := rfl
  obtain ⟨hu1, hu2⟩ := id hU
  have huu := r_u_rng hU
  obtain ⟨hx1, hx2⟩ := hx
  obtain ⟨hy1, hy2⟩ := hy
  obtain ⟨hsa, hsb2⟩ := ‹z_R s›
  refine V_aload_n (pc := 0) X dX10_lays_0 rfl (by first | decide | omega | assumption) ?_
  refine V_iload_n (pc := 1) X dX10_lays_1 rfl ?_
  refine V_FV (pc := 2) X dX10_lays_2 oX10_isSheet l_RX10_197 eX10_isSheet vX10_isSheet ⟨Nat.le_of_ble_eq_true rfl, Nat.le_of_ble_eq_true rfl⟩ ⟨rfl, rfl⟩ ⟨Nat.le_of_ble_eq_true rfl, Nat.le_of_ble_eq_true rfl⟩ (ct_X10_isSheet hO hP ⟨by omega, by omega⟩) rfl (by first | rfl | assumption | (simp only [*]; done) | omega) (by intro q h; cases h; rfl) rfl (by rfl) (by exact Nat.le_of_ble_eq_true rfl) ?_
  refine V_bif_eq (pc := 5) X 17 dX10_lays_5 (by decide)  (fun c_5 => ?_) (fun c_5 => ?_)
  · skip
    refine V_iconst (pc := 17) X dX10_lays_17 ?_
    refine V_iret (st := []) (pc := 18) X hQ dX10_lays_18 rfl rfl ?_
    exact Or.inl ⟨by first | exact Or.inl c_5 | exact Or.inr c_14, rfl, rfl⟩
  · skip
    have qs := of_decide_eq_true c_5
    refine V_aload_n (pc := 8) X dX10_lays_8 rfl (by first | decide | omega | assumption) ?_
    refine V_iload_n (pc := 9) X dX10_lays_9 rfl ?_
    refine V_iload_n (pc := 10) X dX10_lays_10 rfl ?_
    refine V_FV (pc := 11) X dX10_lays_11 oX10_isPane l_RX10_183 eX10_isPane vX10_isPane ⟨Nat.le_of_ble_eq_true rfl, Nat.le_of_ble_eq_true rfl⟩ ⟨rfl, rfl⟩ ⟨Nat.le_of_ble_eq_true rfl, Nat.le_of_ble_eq_true rfl⟩ (ct_X10_isPane hO hP ⟨by omega, by omega⟩ ⟨by omega, by omega⟩) rfl (by first | rfl | assumption | (simp only [*]; done) | omega) (by intro q h; cases h; rfl) rfl (by rfl) (by exact Nat.le_of_ble_eq_true rfl) ?_
    refine V_bif_ne (pc := 14) X 19 dX10_lays_14 (by decide)  (fun c_14 => ?_) (fun c_14 => ?_)
    · skip
      have qp := of_decide_eq_true c_14
      refine V_iconst (pc := 19) X dX10_lays_19 ?_
      refine V_iload_n (pc := 20) X dX10_lays_20 rfl ?_
      refine V_imul (pc := 21) X dX10_lays_21 ?_
      refine V_iload_n (pc := 22) X dX10_lays_22 rfl ?_
      refine V_iadd (pc := 23) X dX10_lays_23 ?_
      refine V_istore (pc := 24) X dX10_lays_24 (by exact Nat.le_of_ble_eq_true rfl) rfl ?_
      refine V_aload_n (pc := 26) X dX10_lays_26 rfl (by first | decide | omega | assumption) ?_
      refine V_gz (pc := 27) X dX10_lays_27 f_RX10_23 (by first | rfl | assumption | (simp only [*]; done) | omega) 5 rfl (show _ = (92 : Int) from by first | exact rb5 | ((repeat (first | rw [z_st_at] | rw [z_st_slot _ (by decide)] | rw [z_st_cell _ (by decide)] | rw [z_rw_ne _ _ (by decide)] | rw [r_rem_s (by decide)] | rw [r_rem_c (by decide) (by decide)] | rw [r_cp_ne (by decide)])); exact rb5)) ?_
      refine V_iconst (pc := 30) X dX10_lays_30 ?_
      refine V_iload_n (pc := 31) X dX10_lays_31 rfl ?_
      refine V_iadd (pc := 32) X dX10_lays_32 ?_
      have tws := tw (0 + s) (by omega) (by omega)
      refine V_iald (pc := 33) X dX10_lays_33 (by first | rfl | assumption | (simp only [*]; done) | omega) (by omega) (by omega) (by decide) ?_
      rw [Int.zero_add]
      rw [Int.zero_add] at tws
      refine V_bipush (pc := 34) X dX10_lays_34 (by decide) ?_
      refine V_icmp_ne (pc := 36) X 71 dX10_lays_36 (by decide) ⟨by omega, by omega⟩ ⟨by omega, by omega⟩ (fun c_36 => ?_) (fun c_36 => ?_)
      · skip
        refine V_bipush (pc := 71) X dX10_lays_71 (by decide) ?_
        refine V_iret (st := []) (pc := 73) X hQ dX10_lays_73 rfl rfl ?_
        exact Or.inr (Or.inl ⟨c_5, c_14, by first | exact Or.inl c_36 | exact Or.inr (Or.inl c_51) | exact Or.inr (Or.inr c_68), rfl, rfl⟩)
      · skip
        refine V_aload_n (pc := 39) X dX10_lays_39 rfl (by first | decide | omega | assumption) ?_
        refine V_gz (pc := 40) X dX10_lays_40 f_RX10_23 (by first | rfl | assumption | (simp only [*]; done) | omega) 5 rfl (show _ = (92 : Int) from by first | exact rb5 | ((repeat (first | rw [z_st_at] | rw [z_st_slot _ (by decide)] | rw [z_st_cell _ (by decide)] | rw [z_rw_ne _ _ (by decide)] | rw [r_rem_s (by decide)] | rw [r_rem_c (by decide) (by decide)] | rw [r_cp_ne (by decide)])); exact rb5)) ?_
        refine V_bipush (pc := 43) X dX10_lays_43 (by decide) ?_
        refine V_iald (pc := 45) X dX10_lays_45 (by first | rfl | assumption | (simp only [*]; done) | omega) (by omega) (by omega) (by decide) ?_
        refine V_iload (pc := 46) X dX10_lays_46 rfl ?_
        refine V_FS (pc := 48) X dX10_lays_48 oX10_has l_RX10_172 sX10_has ⟨Nat.le_of_ble_eq_true rfl, Nat.le_of_ble_eq_true rfl⟩ ⟨rfl, rfl⟩ ⟨Nat.le_of_ble_eq_true rfl, Nat.le_of_ble_eq_true rfl⟩ (ct_X10_has (by omega) (by omega) (by omega) (by omega)) rfl (by rfl) (by exact Nat.le_of_ble_eq_true rfl) ?_
        refine V_bif_ne (pc := 51) X 71 dX10_lays_51 (by decide)  (fun c_51 => ?_) (fun c_51 => ?_)
        · skip
          refine V_bipush (pc := 71) X dX10_lays_71 (by decide) ?_
          refine V_iret (st := []) (pc := 73) X hQ dX10_lays_73 rfl rfl ?_
          exact Or.inr (Or.inl ⟨c_5, c_14, by first | exact Or.inl c_36 | exact Or.inr (Or.inl c_51) | exact Or.inr (Or.inr c_68), rfl, rfl⟩)
        · skip
          refine V_aload_n (pc := 54) X dX10_lays_54 rfl (by first | decide | omega | assumption) ?_
          refine V_aload_n (pc := 55) X dX10_lays_55 rfl (by first | decide | omega | assumption) ?_
          refine V_gz (pc := 56) X dX10_lays_56 f_RX10_23 (by first | rfl | assumption | (simp only [*]; done) | omega) 5 rfl (show _ = (92 : Int) from by first | exact rb5 | ((repeat (first | rw [z_st_at] | rw [z_st_slot _ (by decide)] | rw [z_st_cell _ (by decide)] | rw [z_rw_ne _ _ (by decide)] | rw [r_rem_s (by decide)] | rw [r_rem_c (by decide) (by decide)] | rw [r_cp_ne (by decide)])); exact rb5)) ?_
          refine V_iload (pc := 59) X dX10_lays_59 rfl ?_
          refine V_FV (pc := 61) X dX10_lays_61 oX10_sheetsAt l_RX10_175 eX10_sheetsAt vX10_sheetsAt ⟨Nat.le_of_ble_eq_true rfl, Nat.le_of_ble_eq_true rfl⟩ ⟨rfl, rfl⟩ ⟨Nat.le_of_ble_eq_true rfl, Nat.le_of_ble_eq_true rfl⟩ (ct_X10_sheetsAt hO hP kc hT (by omega) (by omega)) rfl (by first | rfl | assumption | (simp only [*]; done) | omega) (by intro q h; cases h; rfl) rfl (by rfl) (by exact Nat.le_of_ble_eq_true rfl) ?_
          have hal := r_at_lt hP (h 92) (4 * x + y)
          have hpr := z_pop_rng ((r_at h (h 92) (4 * x + y) : Nat) : Int)
          refine V_FS (pc := 64) X dX10_lays_64 oX10_bits l_RX10_201 sX10_bits ⟨Nat.le_of_ble_eq_true rfl, Nat.le_of_ble_eq_true rfl⟩ ⟨rfl, rfl⟩ ⟨Nat.le_of_ble_eq_true rfl, Nat.le_of_ble_eq_true rfl⟩ (ct_X10_bits (by omega) (by omega)) rfl (by rfl) (by exact Nat.le_of_ble_eq_true rfl) ?_
          refine V_iconst (pc := 67) X dX10_lays_67 ?_
          refine V_icmp_ne (pc := 68) X 74 dX10_lays_68 (by decide) ⟨by omega, by omega⟩ ⟨by omega, by omega⟩ (fun c_68 => ?_) (fun c_68 => ?_)
          · skip
            refine V_aload_n (pc := 74) X dX10_lays_74 rfl (by first | decide | omega | assumption) ?_
            refine V_CV (pc := 75) X dX10_lays_75 oX10_remember l_RX10_204 eX10_remember vX10_remember ⟨Nat.le_of_ble_eq_true rfl, Nat.le_of_ble_eq_true rfl⟩ ⟨rfl, rfl⟩ ⟨Nat.le_of_ble_eq_true rfl, Nat.le_of_ble_eq_true rfl⟩ (ct_X10_remember hO hU) rfl (by first | rfl | assumption | (simp only [*]; done) | omega) (by intro q h; cases h; rfl) rfl (by rfl) (by exact Nat.le_of_ble_eq_true rfl) (fun r h1 hp => ?_)
            obtain ⟨rfl, rfl⟩ := hp
            have hOr := r_rem_ob hO
            have hPr := r_rem_pl hP
            have hTr : r_rem h 92 = h 92 := r_rem_c (by decide) (by decide)
            refine V_aload_n (pc := 78) X dX10_lays_78 rfl (by first | decide | omega | assumption) ?_
            refine V_gz (pc := 79) X dX10_lays_79 f_RX10_23 (by first | rfl | assumption | (simp only [*]; done) | omega) 5 rfl (show _ = (92 : Int) from by first | exact rb5 | ((repeat (first | rw [z_st_at] | rw [z_st_slot _ (by decide)] | rw [z_st_cell _ (by decide)] | rw [z_rw_ne _ _ (by decide)] | rw [r_rem_s (by decide)] | rw [r_rem_c (by decide) (by decide)] | rw [r_cp_ne (by decide)])); exact rb5)) ?_
            refine V_iconst (pc := 82) X dX10_lays_82 ?_
            refine V_iload_n (pc := 83) X dX10_lays_83 rfl ?_
            refine V_iadd (pc := 84) X dX10_lays_84 ?_
            refine V_iload (pc := 85) X dX10_lays_85 rfl ?_
            refine V_iast (pc := 87) X dX10_lays_87 (by first | rfl | assumption | (simp only [*]; done) | omega) (by omega) (by omega) (by decide) ?_
            rw [Int.zero_add, show z_st (r_rem h) 92 s (4 * x + y) = r_layH h s (4 * x + y) from rfl]
            have hOl : r_Ob (r_layH h s (4 * x + y)) := hOr.st (Or.inl (by decide))
            have hPl : r_Pl (r_layH h s (4 * x + y)) := hPr.st (by decide) (by decide) (Or.inl (by decide))
            have hTl : r_Mt (r_layH h s (4 * x + y) 92) := by
              unfold r_layH
              rw [z_st_row, hTr]
              exact hT.put (by omega) (by omega) (Or.inr ⟨by omega, by omega⟩)
            refine V_aload_n (pc := 88) X dX10_lays_88 rfl (by first | decide | omega | assumption) ?_
            refine V_aload_n (pc := 89) X dX10_lays_89 rfl (by first | decide | omega | assumption) ?_
            refine V_gz (pc := 90) X dX10_lays_90 f_RX10_23 (by first | rfl | assumption | (simp only [*]; done) | omega) 5 rfl (show _ = (92 : Int) from hOl.2.2.1) ?_
            refine V_iload (pc := 93) X dX10_lays_93 rfl ?_
            refine V_FV (pc := 95) X dX10_lays_95 oX10_lets l_RX10_190 eX10_lets vX10_lets ⟨Nat.le_of_ble_eq_true rfl, Nat.le_of_ble_eq_true rfl⟩ ⟨rfl, rfl⟩ ⟨Nat.le_of_ble_eq_true rfl, Nat.le_of_ble_eq_true rfl⟩ (ct_X10_lets hOl hPl rfl hTl (by omega) (by omega)) rfl (by first | rfl | assumption | (simp only [*]; done) | omega) (by intro q h; cases h; rfl) rfl (by rfl) (by exact Nat.le_of_ble_eq_true rfl) ?_
            refine V_iret (st := []) (pc := 98) X hQ dX10_lays_98 rfl rfl ?_
            exact Or.inr (Or.inr ⟨c_5, c_14, c_36, c_51, c_68, rfl, rfl⟩)
          · skip
            refine V_bipush (pc := 71) X dX10_lays_71 (by decide) ?_
            refine V_iret (st := []) (pc := 73) X hQ dX10_lays_73 rfl rfl ?_
            exact Or.inr (Or.inl ⟨c_5, c_14, by first | exact Or.inl c_36 | exact Or.inr (Or.inl c_51) | exact Or.inr (Or.inr c_68), rfl, rfl⟩)
    · skip
      refine V_iconst (pc := 17) X dX10_lays_17 ?_
      refine V_iret (st := []) (pc := 18) X hQ dX10_lays_18 rfl rfl ?_
      exact Or.inl ⟨by first | exact Or.inl c_5 | exact Or.inr c_14, rfl, rfl⟩
set_option maxHeartbeats 4000000 in
set_option maxRecDepth 100000 in
theorem ct_X10_takes {h : z_H} (hO : r_Ob h) (hP : r_Pl h) (hT : r_Mt (h 92)) (hU : 0 ≤ h 89 8 ∧ h 89 8 ≤ 10) {s : Int} (hs : z_R s) : z_Ct mX10_takes 107 [(2, 89), (0, s)] h (fun r h2 => (r_isS h s = false ∧ r = some (0, -1) ∧ h2 = h) ∨ (r_isS h s = true ∧ h 92 s = -9 ∧ r = some (0, -2) ∧ h2 = h) ∨ (r_isS h s = true ∧ ¬ h 92 s = -9 ∧ r = some (0, h 92 s) ∧ h2 = r_layH h s (-9))) := by
  refine z_mk (L := [(2, 89), (0, s), (9, 0)]) oX10_takes.2.2.2.2 (Nat.le_of_ble_eq_true rfl) rfl ?_
  intro Γ X hQ
  obtain ⟨rb2, rb3, rb5, rb6, rb7, rb9, rb10, rb11, rb12, rb13, rb15, rb25, rb26, rb30, rb31, rb32, rb33⟩ := id hO
  obtain ⟨⟨hw1, hw2⟩, ⟨hh1, hh2⟩, ⟨hs1, hs2⟩, hgl, hco⟩ := id hP
  obtain ⟨tw, ⟨tb1, tb2⟩, ⟨tm1, tm2⟩, ⟨ts1, ts2⟩⟩ := id hT
  have kc : z_kd 107 92 = (1, 11) := rfl
  obtain ⟨hu1, hu2⟩ := id hU
  have huu := r_u_rng hU
  obtain ⟨hsa, hsb2⟩ := ‹z_R s›
  refine V_aload_n (pc := 0) X dX10_takes_0 rfl (by first | decide | omega | assumption) ?_
  refine V_iload_n (pc := 1) X dX10_takes_1 rfl ?_
  refine V_FV (pc := 2) X dX10_takes_2 oX10_isSheet l_RX10_197 eX10_isSheet vX10_isSheet ⟨Nat.le_of_ble_eq_true rfl, Nat.le_of_ble_eq_true rfl⟩ ⟨rfl, rfl⟩ ⟨Nat.le_of_ble_eq_true rfl, Nat.le_of_ble_eq_true rfl⟩ (ct_X10_isSheet hO hP ⟨by omega, by omega⟩) rfl (by first | rfl | assumption | (simp only [*]; done) | omega) (by intro q h; cases h; rfl) rfl (by rfl) (by exact Nat.le_of_ble_eq_true rfl) ?_
  refine V_bif_ne (pc := 5) X 10 dX10_takes_5 (by decide)  (fun c_5 => ?_) (fun c_5 => ?_)
  · skip
    have qs := of_decide_eq_true c_5
    have tws := tw s (by omega) (by omega)
    refine V_aload_n (pc := 10) X dX10_takes_10 rfl (by first | decide | omega | assumption) ?_
    refine V_gz (pc := 11) X dX10_takes_11 f_RX10_23 (by first | rfl | assumption | (simp only [*]; done) | omega) 5 rfl (show _ = (92 : Int) from by first | exact rb5 | ((repeat (first | rw [z_st_at] | rw [z_st_slot _ (by decide)] | rw [z_st_cell _ (by decide)] | rw [z_rw_ne _ _ (by decide)] | rw [r_rem_s (by decide)] | rw [r_rem_c (by decide) (by decide)] | rw [r_cp_ne (by decide)])); exact rb5)) ?_
    refine V_iconst (pc := 14) X dX10_takes_14 ?_
    refine V_iload_n (pc := 15) X dX10_takes_15 rfl ?_
    refine V_iadd (pc := 16) X dX10_takes_16 ?_
    refine V_iald (pc := 17) X dX10_takes_17 (by first | rfl | assumption | (simp only [*]; done) | omega) (by omega) (by omega) (by decide) ?_
    rw [Int.zero_add]
    refine V_istore_n (pc := 18) X dX10_takes_18 (by exact Nat.le_of_ble_eq_true rfl) rfl ?_
    refine V_iload_n (pc := 19) X dX10_takes_19 rfl ?_
    refine V_bipush (pc := 20) X dX10_takes_20 (by decide) ?_
    refine V_icmp_ne (pc := 22) X 28 dX10_takes_22 (by decide) ⟨by omega, by omega⟩ ⟨by omega, by omega⟩ (fun c_22 => ?_) (fun c_22 => ?_)
    · skip
      refine V_aload_n (pc := 28) X dX10_takes_28 rfl (by first | decide | omega | assumption) ?_
      refine V_CV (pc := 29) X dX10_takes_29 oX10_remember l_RX10_204 eX10_remember vX10_remember ⟨Nat.le_of_ble_eq_true rfl, Nat.le_of_ble_eq_true rfl⟩ ⟨rfl, rfl⟩ ⟨Nat.le_of_ble_eq_true rfl, Nat.le_of_ble_eq_true rfl⟩ (ct_X10_remember hO hU) rfl (by first | rfl | assumption | (simp only [*]; done) | omega) (by intro q h; cases h; rfl) rfl (by rfl) (by exact Nat.le_of_ble_eq_true rfl) (fun r h1 hp => ?_)
      obtain ⟨rfl, rfl⟩ := hp
      refine V_aload_n (pc := 32) X dX10_takes_32 rfl (by first | decide | omega | assumption) ?_
      refine V_gz (pc := 33) X dX10_takes_33 f_RX10_23 (by first | rfl | assumption | (simp only [*]; done) | omega) 5 rfl (show _ = (92 : Int) from by first | exact rb5 | ((repeat (first | rw [z_st_at] | rw [z_st_slot _ (by decide)] | rw [z_st_cell _ (by decide)] | rw [z_rw_ne _ _ (by decide)] | rw [r_rem_s (by decide)] | rw [r_rem_c (by decide) (by decide)] | rw [r_cp_ne (by decide)])); exact rb5)) ?_
      refine V_iconst (pc := 36) X dX10_takes_36 ?_
      refine V_iload_n (pc := 37) X dX10_takes_37 rfl ?_
      refine V_iadd (pc := 38) X dX10_takes_38 ?_
      refine V_bipush (pc := 39) X dX10_takes_39 (by decide) ?_
      refine V_iast (pc := 41) X dX10_takes_41 (by first | rfl | assumption | (simp only [*]; done) | omega) (by omega) (by omega) (by decide) ?_
      rw [Int.zero_add]
      refine V_iload_n (pc := 42) X dX10_takes_42 rfl ?_
      refine V_iret (st := []) (pc := 43) X hQ dX10_takes_43 rfl rfl ?_
      exact Or.inr (Or.inr ⟨c_5, c_22, rfl, rfl⟩)
    · skip
      refine V_bipush (pc := 25) X dX10_takes_25 (by decide) ?_
      refine V_iret (st := []) (pc := 27) X hQ dX10_takes_27 rfl rfl ?_
      exact Or.inr (Or.inl ⟨c_5, c_22, rfl, rfl⟩)
  · skip
    refine V_iconst (pc := 8) X dX10_takes_8 ?_
    refine V_iret (st := []) (pc := 9) X hQ dX10_takes_9 rfl rfl ?_
    exact Or.inl ⟨c_5, rfl, rfl⟩
set_option maxHeartbeats 4000000 in
set_option maxRecDepth 100000 in
theorem ct_X10_breaks {h : z_H} (hO : r_Ob h) (hP : r_Pl h) (hT : r_Mt (h 92)) (hU : 0 ≤ h 89 8 ∧ h 89 8 ≤ 10) {x y : Int} (hx : z_R x) (hy : z_R y) : z_Ct mX10_breaks 107 [(2, 89), (0, x), (0, y)] h (fun r h2 => (r_isP h x y = false ∧ r = some (0, -1) ∧ h2 = h) ∨ (r_isP h x y = true ∧ tb (h 92 8) (4 * x + y) = true ∧ r = some (0, -2) ∧ h2 = h) ∨ (r_isP h x y = true ∧ tb (h 92 8) (4 * x + y) = false ∧ r = some (0, z_pop ((r_at (r_rem h) (h 92) (4 * x + y) : Nat) : Int)) ∧ h2 = r_brkH h (4 * x + y))) := by
  refine z_mk (L := [(2, 89), (0, x), (0, y), (9, 0), (9, 0)]) oX10_breaks.2.2.2.2 (Nat.le_of_ble_eq_true rfl) rfl ?_
  intro Γ X hQ
  obtain ⟨rb2, rb3, rb5, rb6, rb7, rb9, rb10, rb11, rb12, rb13, rb15, rb25, rb26, rb30, rb31, rb32, rb33⟩ := id hO
  obtain ⟨⟨hw1, hw2⟩, ⟨hh1, hh2⟩, ⟨hs1, hs2⟩, hgl, hco⟩ := id hP
  obtain ⟨tw, ⟨tb1, tb2⟩, ⟨tm1, tm2⟩, ⟨ts1, ts2⟩⟩ := id hT
  have kc : z_kd 107 92 = (1, 11) := rfl
  obtain ⟨hu1, hu2⟩ := id hU
  have huu := r_u_rng hU
  obtain ⟨hx1, hx2⟩ := hx
  obtain ⟨hy1, hy2⟩ := hy
  refine V_aload_n (pc := 0) X dX10_breaks_0 rfl (by first | decide | omega | assumption) ?_
  refine V_iload_n (pc := 1) X dX10_breaks_1 rfl ?_
  refine V_iload_n (pc := 2) X dX10_breaks_2 rfl ?_
  refine V_FV (pc := 3) X dX10_breaks_3 oX10_isPane l_RX10_183 eX10_isPane vX10_isPane ⟨Nat.le_of_ble_eq_true rfl, Nat.le_of_ble_eq_true rfl⟩ ⟨rfl, rfl⟩ ⟨Nat.le_of_ble_eq_true rfl, Nat.le_of_ble_eq_true rfl⟩ (ct_X10_isPane hO hP ⟨by omega, by omega⟩ ⟨by omega, by omega⟩) rfl (by first | rfl | assumption | (simp only [*]; done) | omega) (by intro q h; cases h; rfl) rfl (by rfl) (by exact Nat.le_of_ble_eq_true rfl) ?_
  refine V_bif_ne (pc := 6) X 11 dX10_breaks_6 (by decide)  (fun c_6 => ?_) (fun c_6 => ?_)
  · skip
    have qp := of_decide_eq_true c_6
    refine V_iconst (pc := 11) X dX10_breaks_11 ?_
    refine V_iload_n (pc := 12) X dX10_breaks_12 rfl ?_
    refine V_imul (pc := 13) X dX10_breaks_13 ?_
    refine V_iload_n (pc := 14) X dX10_breaks_14 rfl ?_
    refine V_iadd (pc := 15) X dX10_breaks_15 ?_
    refine V_istore_n (pc := 16) X dX10_breaks_16 (by exact Nat.le_of_ble_eq_true rfl) rfl ?_
    refine V_aload_n (pc := 17) X dX10_breaks_17 rfl (by first | decide | omega | assumption) ?_
    refine V_gz (pc := 18) X dX10_breaks_18 f_RX10_23 (by first | rfl | assumption | (simp only [*]; done) | omega) 5 rfl (show _ = (92 : Int) from by first | exact rb5 | ((repeat (first | rw [z_st_at] | rw [z_st_slot _ (by decide)] | rw [z_st_cell _ (by decide)] | rw [z_rw_ne _ _ (by decide)] | rw [r_rem_s (by decide)] | rw [r_rem_c (by decide) (by decide)] | rw [r_cp_ne (by decide)])); exact rb5)) ?_
    refine V_bipush (pc := 21) X dX10_breaks_21 (by decide) ?_
    refine V_iald (pc := 23) X dX10_breaks_23 (by first | rfl | assumption | (simp only [*]; done) | omega) (by omega) (by omega) (by decide) ?_
    refine V_iload_n (pc := 24) X dX10_breaks_24 rfl ?_
    refine V_FS (pc := 25) X dX10_breaks_25 oX10_has l_RX10_172 sX10_has ⟨Nat.le_of_ble_eq_true rfl, Nat.le_of_ble_eq_true rfl⟩ ⟨rfl, rfl⟩ ⟨Nat.le_of_ble_eq_true rfl, Nat.le_of_ble_eq_true rfl⟩ (ct_X10_has (by omega) (by omega) (by omega) (by omega)) rfl (by rfl) (by exact Nat.le_of_ble_eq_true rfl) ?_
    refine V_bif_eq (pc := 28) X 34 dX10_breaks_28 (by decide)  (fun c_28 => ?_) (fun c_28 => ?_)
    · skip
      refine V_aload_n (pc := 34) X dX10_breaks_34 rfl (by first | decide | omega | assumption) ?_
      refine V_CV (pc := 35) X dX10_breaks_35 oX10_remember l_RX10_204 eX10_remember vX10_remember ⟨Nat.le_of_ble_eq_true rfl, Nat.le_of_ble_eq_true rfl⟩ ⟨rfl, rfl⟩ ⟨Nat.le_of_ble_eq_true rfl, Nat.le_of_ble_eq_true rfl⟩ (ct_X10_remember hO hU) rfl (by first | rfl | assumption | (simp only [*]; done) | omega) (by intro q h; cases h; rfl) rfl (by rfl) (by exact Nat.le_of_ble_eq_true rfl) (fun r h1 hp => ?_)
      obtain ⟨rfl, rfl⟩ := hp
      have hOr := r_rem_ob hO
      have hPr := r_rem_pl hP
      have hTr : r_rem h 92 = h 92 := r_rem_c (by decide) (by decide)
      have hT2 : r_Mt (r_rem h 92) := by rw [hTr]; exact hT
      refine V_aload_n (pc := 38) X dX10_breaks_38 rfl (by first | decide | omega | assumption) ?_
      refine V_aload_n (pc := 39) X dX10_breaks_39 rfl (by first | decide | omega | assumption) ?_
      refine V_gz (pc := 40) X dX10_breaks_40 f_RX10_23 (by first | rfl | assumption | (simp only [*]; done) | omega) 5 rfl (show _ = (92 : Int) from hOr.2.2.1) ?_
      refine V_iload_n (pc := 43) X dX10_breaks_43 rfl ?_
      refine V_FV (pc := 44) X dX10_breaks_44 oX10_sheetsAt l_RX10_175 eX10_sheetsAt vX10_sheetsAt ⟨Nat.le_of_ble_eq_true rfl, Nat.le_of_ble_eq_true rfl⟩ ⟨rfl, rfl⟩ ⟨Nat.le_of_ble_eq_true rfl, Nat.le_of_ble_eq_true rfl⟩ (ct_X10_sheetsAt hOr hPr rfl hT2 (by omega) (by omega)) rfl (by first | rfl | assumption | (simp only [*]; done) | omega) (by intro q h; cases h; rfl) rfl (by rfl) (by exact Nat.le_of_ble_eq_true rfl) ?_
      have hal := r_at_lt hPr (r_rem h 92) (4 * x + y)
      rw [hTr] at hal ⊢
      refine V_FS (pc := 47) X dX10_breaks_47 oX10_bits l_RX10_201 sX10_bits ⟨Nat.le_of_ble_eq_true rfl, Nat.le_of_ble_eq_true rfl⟩ ⟨rfl, rfl⟩ ⟨Nat.le_of_ble_eq_true rfl, Nat.le_of_ble_eq_true rfl⟩ (ct_X10_bits (by omega) (by omega)) rfl (by rfl) (by exact Nat.le_of_ble_eq_true rfl) ?_
      refine V_istore (pc := 50) X dX10_breaks_50 (by exact Nat.le_of_ble_eq_true rfl) rfl ?_
      refine V_aload_n (pc := 52) X dX10_breaks_52 rfl (by first | decide | omega | assumption) ?_
      refine V_gz (pc := 53) X dX10_breaks_53 f_RX10_23 (by first | rfl | assumption | (simp only [*]; done) | omega) 5 rfl (show _ = (92 : Int) from hOr.2.2.1) ?_
      refine V_iload_n (pc := 56) X dX10_breaks_56 rfl ?_
      refine V_CS (pc := 57) X dX10_breaks_57 oX10_breaksOn l_RX10_207 sX10_breaksOn ⟨Nat.le_of_ble_eq_true rfl, Nat.le_of_ble_eq_true rfl⟩ ⟨rfl, rfl⟩ ⟨Nat.le_of_ble_eq_true rfl, Nat.le_of_ble_eq_true rfl⟩ (ct_X10_breaksOn rfl (fun q a b => by rw [hTr]; have := tw q a b; exact ⟨by omega, by omega⟩) (by omega) (by omega)) rfl (by rfl) (by exact Nat.le_of_ble_eq_true rfl) (fun r h1 hp => ?_)
      obtain ⟨rfl, rfl⟩ := hp
      refine V_iload (pc := 60) X dX10_breaks_60 rfl ?_
      refine V_iret (st := []) (pc := 62) X hQ dX10_breaks_62 rfl rfl ?_
      exact Or.inr (Or.inr ⟨c_6, c_28, rfl, by rw [hTr]; rfl⟩)
    · skip
      refine V_bipush (pc := 31) X dX10_breaks_31 (by decide) ?_
      refine V_iret (st := []) (pc := 33) X hQ dX10_breaks_33 rfl rfl ?_
      exact Or.inr (Or.inl ⟨c_6, c_28, rfl, rfl⟩)
  · skip
    refine V_iconst (pc := 9) X dX10_breaks_9 ?_
    refine V_iret (st := []) (pc := 10) X hQ dX10_breaks_10 rfl rfl ?_
    exact Or.inl ⟨c_6, rfl, rfl⟩
set_option maxHeartbeats 4000000 in
set_option maxRecDepth 100000 in
theorem ct_X10_mends {h : z_H} (hO : r_Ob h) (hP : r_Pl h) (hT : r_Mt (h 92)) (hU : 0 ≤ h 89 8 ∧ h 89 8 ≤ 10) {x y : Int} (hx : z_R x) (hy : z_R y) : z_Ct mX10_mends 107 [(2, 89), (0, x), (0, y)] h (fun r h2 => (r_isP h x y = false ∧ r = some (0, -1) ∧ h2 = h) ∨ (r_isP h x y = true ∧ tb (h 92 8) (4 * x + y) = false ∧ r = some (0, -2) ∧ h2 = h) ∨ (r_isP h x y = true ∧ tb (h 92 8) (4 * x + y) = true ∧ r = some (0, h 90 (4 * x + y)) ∧ h2 = r_menH h (4 * x + y))) := by
  refine z_mk (L := [(2, 89), (0, x), (0, y), (9, 0)]) oX10_mends.2.2.2.2 (Nat.le_of_ble_eq_true rfl) rfl ?_
  intro Γ X hQ
  obtain ⟨rb2, rb3, rb5, rb6, rb7, rb9, rb10, rb11, rb12, rb13, rb15, rb25, rb26, rb30, rb31, rb32, rb33⟩ := id hO
  obtain ⟨⟨hw1, hw2⟩, ⟨hh1, hh2⟩, ⟨hs1, hs2⟩, hgl, hco⟩ := id hP
  obtain ⟨tw, ⟨tb1, tb2⟩, ⟨tm1, tm2⟩, ⟨ts1, ts2⟩⟩ := id hT
  have kc : z_kd 107 92 = (1, 11) := rfl
  obtain ⟨hu1, hu2⟩ := id hU
  have huu := r_u_rng hU
  obtain ⟨hx1, hx2⟩ := hx
  obtain ⟨hy1, hy2⟩ := hy
  refine V_aload_n (pc := 0) X dX10_mends_0 rfl (by first | decide | omega | assumption) ?_
  refine V_iload_n (pc := 1) X dX10_mends_1 rfl ?_
  refine V_iload_n (pc := 2) X dX10_mends_2 rfl ?_
  refine V_FV (pc := 3) X dX10_mends_3 oX10_isPane l_RX10_183 eX10_isPane vX10_isPane ⟨Nat.le_of_ble_eq_true rfl, Nat.le_of_ble_eq_true rfl⟩ ⟨rfl, rfl⟩ ⟨Nat.le_of_ble_eq_true rfl, Nat.le_of_ble_eq_true rfl⟩ (ct_X10_isPane hO hP ⟨by omega, by omega⟩ ⟨by omega, by omega⟩) rfl (by first | rfl | assumption | (simp only [*]; done) | omega) (by intro q h; cases h; rfl) rfl (by rfl) (by exact Nat.le_of_ble_eq_true rfl) ?_
  refine V_bif_ne (pc := 6) X 11 dX10_mends_6 (by decide)  (fun c_6 => ?_) (fun c_6 => ?_)
  · skip
    have qp := of_decide_eq_true c_6
    refine V_iconst (pc := 11) X dX10_mends_11 ?_
    refine V_iload_n (pc := 12) X dX10_mends_12 rfl ?_
    refine V_imul (pc := 13) X dX10_mends_13 ?_
    refine V_iload_n (pc := 14) X dX10_mends_14 rfl ?_
    refine V_iadd (pc := 15) X dX10_mends_15 ?_
    refine V_istore_n (pc := 16) X dX10_mends_16 (by exact Nat.le_of_ble_eq_true rfl) rfl ?_
    refine V_aload_n (pc := 17) X dX10_mends_17 rfl (by first | decide | omega | assumption) ?_
    refine V_gz (pc := 18) X dX10_mends_18 f_RX10_23 (by first | rfl | assumption | (simp only [*]; done) | omega) 5 rfl (show _ = (92 : Int) from by first | exact rb5 | ((repeat (first | rw [z_st_at] | rw [z_st_slot _ (by decide)] | rw [z_st_cell _ (by decide)] | rw [z_rw_ne _ _ (by decide)] | rw [r_rem_s (by decide)] | rw [r_rem_c (by decide) (by decide)] | rw [r_cp_ne (by decide)])); exact rb5)) ?_
    refine V_bipush (pc := 21) X dX10_mends_21 (by decide) ?_
    refine V_iald (pc := 23) X dX10_mends_23 (by first | rfl | assumption | (simp only [*]; done) | omega) (by omega) (by omega) (by decide) ?_
    refine V_iload_n (pc := 24) X dX10_mends_24 rfl ?_
    refine V_FS (pc := 25) X dX10_mends_25 oX10_has l_RX10_172 sX10_has ⟨Nat.le_of_ble_eq_true rfl, Nat.le_of_ble_eq_true rfl⟩ ⟨rfl, rfl⟩ ⟨Nat.le_of_ble_eq_true rfl, Nat.le_of_ble_eq_true rfl⟩ (ct_X10_has (by omega) (by omega) (by omega) (by omega)) rfl (by rfl) (by exact Nat.le_of_ble_eq_true rfl) ?_
    refine V_bif_ne (pc := 28) X 34 dX10_mends_28 (by decide)  (fun c_28 => ?_) (fun c_28 => ?_)
    · skip
      refine V_aload_n (pc := 34) X dX10_mends_34 rfl (by first | decide | omega | assumption) ?_
      refine V_CV (pc := 35) X dX10_mends_35 oX10_remember l_RX10_204 eX10_remember vX10_remember ⟨Nat.le_of_ble_eq_true rfl, Nat.le_of_ble_eq_true rfl⟩ ⟨rfl, rfl⟩ ⟨Nat.le_of_ble_eq_true rfl, Nat.le_of_ble_eq_true rfl⟩ (ct_X10_remember hO hU) rfl (by first | rfl | assumption | (simp only [*]; done) | omega) (by intro q h; cases h; rfl) rfl (by rfl) (by exact Nat.le_of_ble_eq_true rfl) (fun r h1 hp => ?_)
      obtain ⟨rfl, rfl⟩ := hp
      refine V_aload_n (pc := 38) X dX10_mends_38 rfl (by first | decide | omega | assumption) ?_
      refine V_gz (pc := 39) X dX10_mends_39 f_RX10_23 (by first | rfl | assumption | (simp only [*]; done) | omega) 5 rfl (show _ = (92 : Int) from by first | exact rb5 | ((repeat (first | rw [z_st_at] | rw [z_st_slot _ (by decide)] | rw [z_st_cell _ (by decide)] | rw [z_rw_ne _ _ (by decide)] | rw [r_rem_s (by decide)] | rw [r_rem_c (by decide) (by decide)] | rw [r_cp_ne (by decide)])); exact rb5)) ?_
      refine V_bipush (pc := 42) X dX10_mends_42 (by decide) ?_
      refine V_dup2 (pc := 44) X dX10_mends_44 (Nat.ne_of_beq_eq_false rfl) (Nat.ne_of_beq_eq_false rfl) ?_
      refine V_iald (pc := 45) X dX10_mends_45 (by first | rfl | assumption | (simp only [*]; done) | omega) (by omega) (by omega) (by decide) ?_
      rw [show r_rem h 92 = h 92 from r_rem_c (by decide) (by decide)]
      refine V_iconst (pc := 46) X dX10_mends_46 ?_
      refine V_iload_n (pc := 47) X dX10_mends_47 rfl ?_
      refine V_ishl (pc := 48) X dX10_mends_48 ?_
      refine V_iconst (pc := 49) X dX10_mends_49 ?_
      refine V_ixor (pc := 50) X dX10_mends_50 ?_
      refine V_iand (pc := 51) X dX10_mends_51 ?_
      refine V_iast (pc := 52) X dX10_mends_52 (by first | rfl | assumption | (simp only [*]; done) | omega) (by omega) (by omega) (by decide) ?_
      refine V_aload_n (pc := 53) X dX10_mends_53 rfl (by first | decide | omega | assumption) ?_
      refine V_gz (pc := 54) X dX10_mends_54 f_RX10_16 (by first | rfl | assumption | (simp only [*]; done) | omega) 2 rfl (show _ = (90 : Int) from by first | exact rb2 | ((repeat (first | rw [z_st_at] | rw [z_st_slot _ (by decide)] | rw [z_st_cell _ (by decide)] | rw [z_rw_ne _ _ (by decide)] | rw [r_rem_s (by decide)] | rw [r_rem_c (by decide) (by decide)] | rw [r_cp_ne (by decide)])); exact rb2)) ?_
      refine V_iload_n (pc := 57) X dX10_mends_57 rfl ?_
      refine V_iald (pc := 58) X dX10_mends_58 (by first | rfl | assumption | (simp only [*]; done) | omega) (by omega) (by omega) (by decide) ?_
      rw [show z_st (r_rem h) 92 8 _ 90 (4 * x + y) = h 90 (4 * x + y) from by rw [z_st_cell _ (by decide), r_rem_c (by decide) (by decide)]]
      refine V_iret (st := []) (pc := 59) X hQ dX10_mends_59 rfl rfl ?_
      exact Or.inr (Or.inr ⟨c_6, c_28, rfl, rfl⟩)
    · skip
      refine V_bipush (pc := 31) X dX10_mends_31 (by decide) ?_
      refine V_iret (st := []) (pc := 33) X hQ dX10_mends_33 rfl rfl ?_
      exact Or.inr (Or.inl ⟨c_6, c_28, rfl, rfl⟩)
  · skip
    refine V_iconst (pc := 9) X dX10_mends_9 ?_
    refine V_iret (st := []) (pc := 10) X hQ dX10_mends_10 rfl rfl ?_
    exact Or.inl ⟨c_6, rfl, rfl⟩
set_option maxHeartbeats 4000000 in
set_option maxRecDepth 100000 in
theorem ct_X10_moves {h : z_H} (hO : r_Ob h) (hP : r_Pl h) (hT : r_Mt (h 92)) (hU : 0 ≤ h 89 8 ∧ h 89 8 ≤ 10) {mi s : Int} (hmi : z_R mi) (hs : z_R s) : z_Ct mX10_moves 107 [(2, 89), (0, mi), (0, s)] h (fun r h2 => (¬ (1 ≤ mi ∧ mi ≤ 12 ∧ 0 ≤ s ∧ s ≤ 3) ∧ r = some (0, -1) ∧ h2 = h) ∨ ((1 ≤ mi ∧ mi ≤ 12 ∧ 0 ≤ s ∧ s ≤ 3) ∧ (h 92 9 = mi ∧ h 92 10 = s) ∧ r = some (0, -2) ∧ h2 = h) ∨ ((1 ≤ mi ∧ mi ≤ 12 ∧ 0 ≤ s ∧ s ≤ 3) ∧ ¬ (h 92 9 = mi ∧ h 92 10 = s) ∧ r = some (0, r_lost h mi) ∧ h2 = r_movH h mi s)) := by
  refine z_mk (L := [(2, 89), (0, mi), (0, s), (9, 0), (9, 0)]) oX10_moves.2.2.2.2 (Nat.le_of_ble_eq_true rfl) rfl ?_
  intro Γ X hQ
  obtain ⟨rb2, rb3, rb5, rb6, rb7, rb9, rb10, rb11, rb12, rb13, rb15, rb25, rb26, rb30, rb31, rb32, rb33⟩ := id hO
  obtain ⟨⟨hw1, hw2⟩, ⟨hh1, hh2⟩, ⟨hs1, hs2⟩, hgl, hco⟩ := id hP
  obtain ⟨tw, ⟨tb1, tb2⟩, ⟨tm1, tm2⟩, ⟨ts1, ts2⟩⟩ := id hT
  have kc : z_kd 107 92 = (1, 11) := rfl
  obtain ⟨hu1, hu2⟩ := id hU
  have huu := r_u_rng hU
  obtain ⟨hmi1, hmi2⟩ := hmi
  obtain ⟨hsa, hsb2⟩ := ‹z_R s›
  refine V_iload_n (pc := 0) X dX10_moves_0 rfl ?_
  refine V_i2l (pc := 1) X dX10_moves_1 ⟨by omega, by omega⟩ ?_
  refine V_lconst (pc := 2) (z := 1) X dX10_moves_2 (by decide) ?_
  refine V_ldc2 (pc := 3) X (12) dX10_moves_3 c_RX10_211 (by decide) ?_
  refine V_FS (pc := 6) X dX10_moves_6 oX10_in l_RX10_81 sX10_in ⟨Nat.le_of_ble_eq_true rfl, Nat.le_of_ble_eq_true rfl⟩ ⟨rfl, rfl⟩ ⟨Nat.le_of_ble_eq_true rfl, Nat.le_of_ble_eq_true rfl⟩ (ct_X10_in ⟨by omega, by omega⟩ ⟨by omega, by omega⟩ ⟨by omega, by omega⟩) rfl (by rfl) (by exact Nat.le_of_ble_eq_true rfl) ?_
  refine V_bif_eq (pc := 9) X 24 dX10_moves_9 (by decide)  (fun c_9 => ?_) (fun c_9 => ?_)
  · skip
    have q1 := of_decide_eq_false c_9
    refine V_iconst (pc := 24) X dX10_moves_24 ?_
    refine V_iret (st := []) (pc := 25) X hQ dX10_moves_25 rfl rfl ?_
    exact Or.inl ⟨by omega, rfl, rfl⟩
  · skip
    have q1 := of_decide_eq_true c_9
    refine V_iload_n (pc := 12) X dX10_moves_12 rfl ?_
    refine V_i2l (pc := 13) X dX10_moves_13 ⟨by omega, by omega⟩ ?_
    refine V_lconst (pc := 14) (z := 0) X dX10_moves_14 (by decide) ?_
    refine V_ldc2 (pc := 15) X (3) dX10_moves_15 c_RX10_213 (by decide) ?_
    refine V_FS (pc := 18) X dX10_moves_18 oX10_in l_RX10_81 sX10_in ⟨Nat.le_of_ble_eq_true rfl, Nat.le_of_ble_eq_true rfl⟩ ⟨rfl, rfl⟩ ⟨Nat.le_of_ble_eq_true rfl, Nat.le_of_ble_eq_true rfl⟩ (ct_X10_in ⟨by omega, by omega⟩ ⟨by omega, by omega⟩ ⟨by omega, by omega⟩) rfl (by rfl) (by exact Nat.le_of_ble_eq_true rfl) ?_
    refine V_bif_ne (pc := 21) X 26 dX10_moves_21 (by decide)  (fun c_21 => ?_) (fun c_21 => ?_)
    · skip
      have q2 := of_decide_eq_true c_21
      refine V_aload_n (pc := 26) X dX10_moves_26 rfl (by first | decide | omega | assumption) ?_
      refine V_gz (pc := 27) X dX10_moves_27 f_RX10_23 (by first | rfl | assumption | (simp only [*]; done) | omega) 5 rfl (show _ = (92 : Int) from by first | exact rb5 | ((repeat (first | rw [z_st_at] | rw [z_st_slot _ (by decide)] | rw [z_st_cell _ (by decide)] | rw [z_rw_ne _ _ (by decide)] | rw [r_rem_s (by decide)] | rw [r_rem_c (by decide) (by decide)] | rw [r_cp_ne (by decide)])); exact rb5)) ?_
      refine V_bipush (pc := 30) X dX10_moves_30 (by decide) ?_
      refine V_iald (pc := 32) X dX10_moves_32 (by first | rfl | assumption | (simp only [*]; done) | omega) (by omega) (by omega) (by decide) ?_
      refine V_iload_n (pc := 33) X dX10_moves_33 rfl ?_
      refine V_icmp_ne (pc := 34) X 51 dX10_moves_34 (by decide) ⟨by omega, by omega⟩ ⟨by omega, by omega⟩ (fun c_34 => ?_) (fun c_34 => ?_)
      · skip
        refine V_aload_n (pc := 51) X dX10_moves_51 rfl (by first | decide | omega | assumption) ?_
        refine V_CV (pc := 52) X dX10_moves_52 oX10_remember l_RX10_204 eX10_remember vX10_remember ⟨Nat.le_of_ble_eq_true rfl, Nat.le_of_ble_eq_true rfl⟩ ⟨rfl, rfl⟩ ⟨Nat.le_of_ble_eq_true rfl, Nat.le_of_ble_eq_true rfl⟩ (ct_X10_remember hO hU) rfl (by first | rfl | assumption | (simp only [*]; done) | omega) (by intro q h; cases h; rfl) rfl (by rfl) (by exact Nat.le_of_ble_eq_true rfl) (fun r h1 hp => ?_)
        obtain ⟨rfl, rfl⟩ := hp
        refine V_aload_n (pc := 55) X dX10_moves_55 rfl (by first | decide | omega | assumption) ?_
        refine V_gz (pc := 56) X dX10_moves_56 f_RX10_23 (by first | rfl | assumption | (simp only [*]; done) | omega) 5 rfl (show _ = (92 : Int) from by first | exact rb5 | ((repeat (first | rw [z_st_at] | rw [z_st_slot _ (by decide)] | rw [z_st_cell _ (by decide)] | rw [z_rw_ne _ _ (by decide)] | rw [r_rem_s (by decide)] | rw [r_rem_c (by decide) (by decide)] | rw [r_cp_ne (by decide)])); exact rb5)) ?_
        refine V_bipush (pc := 59) X dX10_moves_59 (by decide) ?_
        refine V_iload_n (pc := 61) X dX10_moves_61 rfl ?_
        refine V_iast (pc := 62) X dX10_moves_62 (by first | rfl | assumption | (simp only [*]; done) | omega) (by omega) (by omega) (by decide) ?_
        refine V_aload_n (pc := 63) X dX10_moves_63 rfl (by first | decide | omega | assumption) ?_
        refine V_gz (pc := 64) X dX10_moves_64 f_RX10_23 (by first | rfl | assumption | (simp only [*]; done) | omega) 5 rfl (show _ = (92 : Int) from by first | exact rb5 | ((repeat (first | rw [z_st_at] | rw [z_st_slot _ (by decide)] | rw [z_st_cell _ (by decide)] | rw [z_rw_ne _ _ (by decide)] | rw [r_rem_s (by decide)] | rw [r_rem_c (by decide) (by decide)] | rw [r_cp_ne (by decide)])); exact rb5)) ?_
        refine V_bipush (pc := 67) X dX10_moves_67 (by decide) ?_
        refine V_iload_n (pc := 69) X dX10_moves_69 rfl ?_
        refine V_iast (pc := 70) X dX10_moves_70 (by first | rfl | assumption | (simp only [*]; done) | omega) (by omega) (by omega) (by decide) ?_
        rw [show z_st (z_st (r_rem h) 92 9 mi) 92 10 s = r_movH h mi s from rfl]
        refine V_iconst (pc := 71) X dX10_moves_71 ?_
        refine V_istore_n (pc := 72) X dX10_moves_72 (by exact Nat.le_of_ble_eq_true rfl) rfl ?_
        refine V_iconst (pc := 73) X dX10_moves_73 ?_
        refine V_istore (pc := 74) X dX10_moves_74 (by exact Nat.le_of_ble_eq_true rfl) rfl ?_
        have lp_76 : ∀ (m : Nat) (i : Nat), (h 89 0).toNat - i < m → i ≤ (h 89 0).toNat → z_V Γ (107, 0, 0) 76 [(2, 89), (0, mi), (0, s), (0, z_sum (fun x => if mi ≤ x ∧ 2 * mi - 1 - x < 0 then h 89 1 else 0) i), (0, (i : Int))] [] (r_movH h mi s) := by
          intro m
          induction m with
          | zero => intro i hm; exact absurd hm (Nat.not_lt_zero _)
          | succ m ih_76 =>
            intro i hm hi1
            refine V_iload (pc := 76) X dX10_moves_76 rfl ?_
            refine V_aload_n (pc := 78) X dX10_moves_78 rfl (by first | decide | omega | assumption) ?_
            refine V_gz (pc := 79) X dX10_moves_79 f_RX10_7 (by first | rfl | assumption | (simp only [*]; done) | omega) 0 rfl (show _ = h 89 0 from by unfold r_movH; rw [z_st_cell _ (by decide), z_st_cell _ (by decide), r_rem_s (by decide)]) ?_
            refine V_icmp_ge (pc := 82) X 119 dX10_moves_82 (by decide) ⟨by omega, by omega⟩ ⟨by omega, by omega⟩ (fun c_82 => ?_) (fun c_82 => ?_)
            · skip
              refine V_iload_n (pc := 119) X dX10_moves_119 rfl ?_
              refine V_iret (st := []) (pc := 120) X hQ dX10_moves_120 rfl rfl ?_
              exact Or.inr (Or.inr ⟨by omega, by omega, by unfold r_lost; rw [show i = (h 89 0).toNat by omega], rfl⟩)
            · skip
              refine V_iload_n (pc := 85) X dX10_moves_85 rfl ?_
              refine V_iload (pc := 86) X dX10_moves_86 rfl ?_
              refine V_iload_n (pc := 88) X dX10_moves_88 rfl ?_
              refine V_icmp_lt (pc := 89) X 110 dX10_moves_89 (by decide) ⟨by omega, by omega⟩ ⟨by omega, by omega⟩ (fun c_89 => ?_) (fun c_89 => ?_)
              · skip
                refine V_iconst (pc := 110) X dX10_moves_110 ?_
                refine V_iadd (pc := 111) X dX10_moves_111 ?_
                refine V_istore_n (pc := 112) X dX10_moves_112 (by exact Nat.le_of_ble_eq_true rfl) rfl ?_
                refine V_iinc (pc := 113) X dX10_moves_113 rfl rfl ?_
                refine V_goto (pc := 116) X 76 dX10_moves_116 (by decide) ?_
                refine V_loc ?_ (ih_76 (i + 1) (by omega) (by omega))
                show [_, _, _, _, _] = [_, _, _, _, _]
                rw [z_sum]
                first
                  | (rw [if_pos (show mi ≤ (i : Int) ∧ 2 * mi - 1 - (i : Int) < 0 by omega)]; rfl)
                  | (rw [if_neg (show ¬ (mi ≤ (i : Int) ∧ 2 * mi - 1 - (i : Int) < 0) by omega)]; rfl)
              · skip
                refine V_iconst (pc := 92) X dX10_moves_92 ?_
                refine V_iload_n (pc := 93) X dX10_moves_93 rfl ?_
                refine V_imul (pc := 94) X dX10_moves_94 ?_
                refine V_iconst (pc := 95) X dX10_moves_95 ?_
                refine V_isub (pc := 96) X dX10_moves_96 ?_
                refine V_iload (pc := 97) X dX10_moves_97 rfl ?_
                refine V_isub (pc := 99) X dX10_moves_99 ?_
                refine V_if_ge (pc := 100) X 110 dX10_moves_100 (by decide) ⟨by omega, by omega⟩ (fun c_100 => ?_) (fun c_100 => ?_)
                · skip
                  refine V_iconst (pc := 110) X dX10_moves_110 ?_
                  refine V_iadd (pc := 111) X dX10_moves_111 ?_
                  refine V_istore_n (pc := 112) X dX10_moves_112 (by exact Nat.le_of_ble_eq_true rfl) rfl ?_
                  refine V_iinc (pc := 113) X dX10_moves_113 rfl rfl ?_
                  refine V_goto (pc := 116) X 76 dX10_moves_116 (by decide) ?_
                  refine V_loc ?_ (ih_76 (i + 1) (by omega) (by omega))
                  show [_, _, _, _, _] = [_, _, _, _, _]
                  rw [z_sum]
                  first
                    | (rw [if_pos (show mi ≤ (i : Int) ∧ 2 * mi - 1 - (i : Int) < 0 by omega)]; rfl)
                    | (rw [if_neg (show ¬ (mi ≤ (i : Int) ∧ 2 * mi - 1 - (i : Int) < 0) by omega)]; rfl)
                · skip
                  refine V_aload_n (pc := 103) X dX10_moves_103 rfl (by first | decide | omega | assumption) ?_
                  refine V_gz (pc := 104) X dX10_moves_104 f_RX10_13 (by first | rfl | assumption | (simp only [*]; done) | omega) 1 rfl (show _ = h 89 1 from by unfold r_movH; rw [z_st_cell _ (by decide), z_st_cell _ (by decide), r_rem_s (by decide)]) ?_
                  refine V_goto (pc := 107) X 111 dX10_moves_107 (by decide) ?_
                  refine V_iadd (pc := 111) X dX10_moves_111 ?_
                  refine V_istore_n (pc := 112) X dX10_moves_112 (by exact Nat.le_of_ble_eq_true rfl) rfl ?_
                  refine V_iinc (pc := 113) X dX10_moves_113 rfl rfl ?_
                  refine V_goto (pc := 116) X 76 dX10_moves_116 (by decide) ?_
                  refine V_loc ?_ (ih_76 (i + 1) (by omega) (by omega))
                  show [_, _, _, _, _] = [_, _, _, _, _]
                  rw [z_sum]
                  first
                    | (rw [if_pos (show mi ≤ (i : Int) ∧ 2 * mi - 1 - (i : Int) < 0 by omega)]; rfl)
                    | (rw [if_neg (show ¬ (mi ≤ (i : Int) ∧ 2 * mi - 1 - (i : Int) < 0) by omega)]; rfl)
        exact lp_76 _ 0 (Nat.lt_succ_self _) (Nat.zero_le _)
      · skip
        refine V_aload_n (pc := 37) X dX10_moves_37 rfl (by first | decide | omega | assumption) ?_
        refine V_gz (pc := 38) X dX10_moves_38 f_RX10_23 (by first | rfl | assumption | (simp only [*]; done) | omega) 5 rfl (show _ = (92 : Int) from by first | exact rb5 | ((repeat (first | rw [z_st_at] | rw [z_st_slot _ (by decide)] | rw [z_st_cell _ (by decide)] | rw [z_rw_ne _ _ (by decide)] | rw [r_rem_s (by decide)] | rw [r_rem_c (by decide) (by decide)] | rw [r_cp_ne (by decide)])); exact rb5)) ?_
        refine V_bipush (pc := 41) X dX10_moves_41 (by decide) ?_
        refine V_iald (pc := 43) X dX10_moves_43 (by first | rfl | assumption | (simp only [*]; done) | omega) (by omega) (by omega) (by decide) ?_
        refine V_iload_n (pc := 44) X dX10_moves_44 rfl ?_
        refine V_icmp_ne (pc := 45) X 51 dX10_moves_45 (by decide) ⟨by omega, by omega⟩ ⟨by omega, by omega⟩ (fun c_45 => ?_) (fun c_45 => ?_)
        · skip
          refine V_aload_n (pc := 51) X dX10_moves_51 rfl (by first | decide | omega | assumption) ?_
          refine V_CV (pc := 52) X dX10_moves_52 oX10_remember l_RX10_204 eX10_remember vX10_remember ⟨Nat.le_of_ble_eq_true rfl, Nat.le_of_ble_eq_true rfl⟩ ⟨rfl, rfl⟩ ⟨Nat.le_of_ble_eq_true rfl, Nat.le_of_ble_eq_true rfl⟩ (ct_X10_remember hO hU) rfl (by first | rfl | assumption | (simp only [*]; done) | omega) (by intro q h; cases h; rfl) rfl (by rfl) (by exact Nat.le_of_ble_eq_true rfl) (fun r h1 hp => ?_)
          obtain ⟨rfl, rfl⟩ := hp
          refine V_aload_n (pc := 55) X dX10_moves_55 rfl (by first | decide | omega | assumption) ?_
          refine V_gz (pc := 56) X dX10_moves_56 f_RX10_23 (by first | rfl | assumption | (simp only [*]; done) | omega) 5 rfl (show _ = (92 : Int) from by first | exact rb5 | ((repeat (first | rw [z_st_at] | rw [z_st_slot _ (by decide)] | rw [z_st_cell _ (by decide)] | rw [z_rw_ne _ _ (by decide)] | rw [r_rem_s (by decide)] | rw [r_rem_c (by decide) (by decide)] | rw [r_cp_ne (by decide)])); exact rb5)) ?_
          refine V_bipush (pc := 59) X dX10_moves_59 (by decide) ?_
          refine V_iload_n (pc := 61) X dX10_moves_61 rfl ?_
          refine V_iast (pc := 62) X dX10_moves_62 (by first | rfl | assumption | (simp only [*]; done) | omega) (by omega) (by omega) (by decide) ?_
          refine V_aload_n (pc := 63) X dX10_moves_63 rfl (by first | decide | omega | assumption) ?_
          refine V_gz (pc := 64) X dX10_moves_64 f_RX10_23 (by first | rfl | assumption | (simp only [*]; done) | omega) 5 rfl (show _ = (92 : Int) from by first | exact rb5 | ((repeat (first | rw [z_st_at] | rw [z_st_slot _ (by decide)] | rw [z_st_cell _ (by decide)] | rw [z_rw_ne _ _ (by decide)] | rw [r_rem_s (by decide)] | rw [r_rem_c (by decide) (by decide)] | rw [r_cp_ne (by decide)])); exact rb5)) ?_
          refine V_bipush (pc := 67) X dX10_moves_67 (by decide) ?_
          refine V_iload_n (pc := 69) X dX10_moves_69 rfl ?_
          refine V_iast (pc := 70) X dX10_moves_70 (by first | rfl | assumption | (simp only [*]; done) | omega) (by omega) (by omega) (by decide) ?_
          rw [show z_st (z_st (r_rem h) 92 9 mi) 92 10 s = r_movH h mi s from rfl]
          refine V_iconst (pc := 71) X dX10_moves_71 ?_
          refine V_istore_n (pc := 72) X dX10_moves_72 (by exact Nat.le_of_ble_eq_true rfl) rfl ?_
          refine V_iconst (pc := 73) X dX10_moves_73 ?_
          refine V_istore (pc := 74) X dX10_moves_74 (by exact Nat.le_of_ble_eq_true rfl) rfl ?_
          have lp_76 : ∀ (m : Nat) (i : Nat), (h 89 0).toNat - i < m → i ≤ (h 89 0).toNat → z_V Γ (107, 0, 0) 76 [(2, 89), (0, mi), (0, s), (0, z_sum (fun x => if mi ≤ x ∧ 2 * mi - 1 - x < 0 then h 89 1 else 0) i), (0, (i : Int))] [] (r_movH h mi s) := by
            intro m
            induction m with
            | zero => intro i hm; exact absurd hm (Nat.not_lt_zero _)
            | succ m ih_76 =>
              intro i hm hi1
              refine V_iload (pc := 76) X dX10_moves_76 rfl ?_
              refine V_aload_n (pc := 78) X dX10_moves_78 rfl (by first | decide | omega | assumption) ?_
              refine V_gz (pc := 79) X dX10_moves_79 f_RX10_7 (by first | rfl | assumption | (simp only [*]; done) | omega) 0 rfl (show _ = h 89 0 from by unfold r_movH; rw [z_st_cell _ (by decide), z_st_cell _ (by decide), r_rem_s (by decide)]) ?_
              refine V_icmp_ge (pc := 82) X 119 dX10_moves_82 (by decide) ⟨by omega, by omega⟩ ⟨by omega, by omega⟩ (fun c_82 => ?_) (fun c_82 => ?_)
              · skip
                refine V_iload_n (pc := 119) X dX10_moves_119 rfl ?_
                refine V_iret (st := []) (pc := 120) X hQ dX10_moves_120 rfl rfl ?_
                exact Or.inr (Or.inr ⟨by omega, by omega, by unfold r_lost; rw [show i = (h 89 0).toNat by omega], rfl⟩)
              · skip
                refine V_iload_n (pc := 85) X dX10_moves_85 rfl ?_
                refine V_iload (pc := 86) X dX10_moves_86 rfl ?_
                refine V_iload_n (pc := 88) X dX10_moves_88 rfl ?_
                refine V_icmp_lt (pc := 89) X 110 dX10_moves_89 (by decide) ⟨by omega, by omega⟩ ⟨by omega, by omega⟩ (fun c_89 => ?_) (fun c_89 => ?_)
                · skip
                  refine V_iconst (pc := 110) X dX10_moves_110 ?_
                  refine V_iadd (pc := 111) X dX10_moves_111 ?_
                  refine V_istore_n (pc := 112) X dX10_moves_112 (by exact Nat.le_of_ble_eq_true rfl) rfl ?_
                  refine V_iinc (pc := 113) X dX10_moves_113 rfl rfl ?_
                  refine V_goto (pc := 116) X 76 dX10_moves_116 (by decide) ?_
                  refine V_loc ?_ (ih_76 (i + 1) (by omega) (by omega))
                  show [_, _, _, _, _] = [_, _, _, _, _]
                  rw [z_sum]
                  first
                    | (rw [if_pos (show mi ≤ (i : Int) ∧ 2 * mi - 1 - (i : Int) < 0 by omega)]; rfl)
                    | (rw [if_neg (show ¬ (mi ≤ (i : Int) ∧ 2 * mi - 1 - (i : Int) < 0) by omega)]; rfl)
                · skip
                  refine V_iconst (pc := 92) X dX10_moves_92 ?_
                  refine V_iload_n (pc := 93) X dX10_moves_93 rfl ?_
                  refine V_imul (pc := 94) X dX10_moves_94 ?_
                  refine V_iconst (pc := 95) X dX10_moves_95 ?_
                  refine V_isub (pc := 96) X dX10_moves_96 ?_
                  refine V_iload (pc := 97) X dX10_moves_97 rfl ?_
                  refine V_isub (pc := 99) X dX10_moves_99 ?_
                  refine V_if_ge (pc := 100) X 110 dX10_moves_100 (by decide) ⟨by omega, by omega⟩ (fun c_100 => ?_) (fun c_100 => ?_)
                  · skip
                    refine V_iconst (pc := 110) X dX10_moves_110 ?_
                    refine V_iadd (pc := 111) X dX10_moves_111 ?_
                    refine V_istore_n (pc := 112) X dX10_moves_112 (by exact Nat.le_of_ble_eq_true rfl) rfl ?_
                    refine V_iinc (pc := 113) X dX10_moves_113 rfl rfl ?_
                    refine V_goto (pc := 116) X 76 dX10_moves_116 (by decide) ?_
                    refine V_loc ?_ (ih_76 (i + 1) (by omega) (by omega))
                    show [_, _, _, _, _] = [_, _, _, _, _]
                    rw [z_sum]
                    first
                      | (rw [if_pos (show mi ≤ (i : Int) ∧ 2 * mi - 1 - (i : Int) < 0 by omega)]; rfl)
                      | (rw [if_neg (show ¬ (mi ≤ (i : Int) ∧ 2 * mi - 1 - (i : Int) < 0) by omega)]; rfl)
                  · skip
                    refine V_aload_n (pc := 103) X dX10_moves_103 rfl (by first | decide | omega | assumption) ?_
                    refine V_gz (pc := 104) X dX10_moves_104 f_RX10_13 (by first | rfl | assumption | (simp only [*]; done) | omega) 1 rfl (show _ = h 89 1 from by unfold r_movH; rw [z_st_cell _ (by decide), z_st_cell _ (by decide), r_rem_s (by decide)]) ?_
                    refine V_goto (pc := 107) X 111 dX10_moves_107 (by decide) ?_
                    refine V_iadd (pc := 111) X dX10_moves_111 ?_
                    refine V_istore_n (pc := 112) X dX10_moves_112 (by exact Nat.le_of_ble_eq_true rfl) rfl ?_
                    refine V_iinc (pc := 113) X dX10_moves_113 rfl rfl ?_
                    refine V_goto (pc := 116) X 76 dX10_moves_116 (by decide) ?_
                    refine V_loc ?_ (ih_76 (i + 1) (by omega) (by omega))
                    show [_, _, _, _, _] = [_, _, _, _, _]
                    rw [z_sum]
                    first
                      | (rw [if_pos (show mi ≤ (i : Int) ∧ 2 * mi - 1 - (i : Int) < 0 by omega)]; rfl)
                      | (rw [if_neg (show ¬ (mi ≤ (i : Int) ∧ 2 * mi - 1 - (i : Int) < 0) by omega)]; rfl)
          exact lp_76 _ 0 (Nat.lt_succ_self _) (Nat.zero_le _)
        · skip
          refine V_bipush (pc := 48) X dX10_moves_48 (by decide) ?_
          refine V_iret (st := []) (pc := 50) X hQ dX10_moves_50 rfl rfl ?_
          exact Or.inr (Or.inl ⟨by omega, ⟨c_34, c_45⟩, rfl, rfl⟩)
    · skip
      have q2 := of_decide_eq_false c_21
      refine V_iconst (pc := 24) X dX10_moves_24 ?_
      refine V_iret (st := []) (pc := 25) X hQ dX10_moves_25 rfl rfl ?_
      exact Or.inl ⟨by omega, rfl, rfl⟩
set_option maxHeartbeats 4000000 in
set_option maxRecDepth 100000 in
theorem ct_X10_undo {h : z_H} (hO : r_Ob h) (hP : r_Pl h) (hT : r_Mt (h 92)) (hU : 0 ≤ h 89 8 ∧ h 89 8 ≤ 10) : z_Ct mX10_undo 107 [(2, 89)] h (fun r h2 => (h 89 8 = 0 ∧ r = some (0, -2) ∧ h2 = h) ∨ (¬ h 89 8 = 0 ∧ r = some (0, h 89 8 - 1) ∧ h2 = r_undH h)) := by
  refine z_mk (L := [(2, 89)]) oX10_undo.2.2.2.2 (Nat.le_of_ble_eq_true rfl) rfl ?_
  intro Γ X hQ
  obtain ⟨rb2, rb3, rb5, rb6, rb7, rb9, rb10, rb11, rb12, rb13, rb15, rb25, rb26, rb30, rb31, rb32, rb33⟩ := id hO
  obtain ⟨⟨hw1, hw2⟩, ⟨hh1, hh2⟩, ⟨hs1, hs2⟩, hgl, hco⟩ := id hP
  obtain ⟨tw, ⟨tb1, tb2⟩, ⟨tm1, tm2⟩, ⟨ts1, ts2⟩⟩ := id hT
  have kc : z_kd 107 92 = (1, 11) := rfl
  obtain ⟨hu1, hu2⟩ := id hU
  have huu := r_u_rng hU
  refine V_aload_n (pc := 0) X dX10_undo_0 rfl (by first | decide | omega | assumption) ?_
  refine V_gz (pc := 1) X dX10_undo_1 f_RX10_73 (by first | rfl | assumption | (simp only [*]; done) | omega) 8 rfl rfl ?_
  refine V_if_ne (pc := 4) X 10 dX10_undo_4 (by decide) ⟨by omega, by omega⟩ (fun c_4 => ?_) (fun c_4 => ?_)
  · skip
    refine V_aload_n (pc := 10) X dX10_undo_10 rfl (by first | decide | omega | assumption) ?_
    refine V_dup (pc := 11) X dX10_undo_11 (Nat.ne_of_beq_eq_false rfl) ?_
    refine V_gz (pc := 12) X dX10_undo_12 f_RX10_73 (by first | rfl | assumption | (simp only [*]; done) | omega) 8 rfl rfl ?_
    refine V_iconst (pc := 15) X dX10_undo_15 ?_
    refine V_isub (pc := 16) X dX10_undo_16 ?_
    refine V_pz (pc := 17) X dX10_undo_17 f_RX10_73 (by first | rfl | assumption | (simp only [*]; done) | omega) (fun b => z_fitI b _) 8 rfl ?_
    refine V_aload_n (pc := 20) X dX10_undo_20 rfl (by first | decide | omega | assumption) ?_
    refine V_gz (pc := 21) X dX10_undo_21 f_RX10_29 (by first | rfl | assumption | (simp only [*]; done) | omega) 7 rfl (show _ = (94 : Int) from by first | exact rb7 | ((repeat (first | rw [z_st_at] | rw [z_st_slot _ (by decide)] | rw [z_st_cell _ (by decide)] | rw [z_rw_ne _ _ (by decide)] | rw [r_rem_s (by decide)] | rw [r_rem_c (by decide) (by decide)] | rw [r_cp_ne (by decide)])); exact rb7)) ?_
    refine V_bipush (pc := 24) X dX10_undo_24 (by decide) ?_
    refine V_aload_n (pc := 26) X dX10_undo_26 rfl (by first | decide | omega | assumption) ?_
    refine V_gz (pc := 27) X dX10_undo_27 f_RX10_73 (by first | rfl | assumption | (simp only [*]; done) | omega) 8 rfl (show _ = h 89 8 - 1 from by first | rfl | (repeat (first | rw [z_st_at] | rw [z_st_slot _ (by decide)] | rw [z_st_cell _ (by decide)] | rw [z_rw_ne _ _ (by decide)] | rw [r_rem_s (by decide)] | rw [r_rem_c (by decide) (by decide)] | rw [r_cp_ne (by decide)]))) ?_
    refine V_imul (pc := 30) X dX10_undo_30 ?_
    refine V_aload_n (pc := 31) X dX10_undo_31 rfl (by first | decide | omega | assumption) ?_
    refine V_gz (pc := 32) X dX10_undo_32 f_RX10_23 (by first | rfl | assumption | (simp only [*]; done) | omega) 5 rfl (show _ = (92 : Int) from by first | exact rb5 | ((repeat (first | rw [z_st_at] | rw [z_st_slot _ (by decide)] | rw [z_st_cell _ (by decide)] | rw [z_rw_ne _ _ (by decide)] | rw [r_rem_s (by decide)] | rw [r_rem_c (by decide) (by decide)] | rw [r_cp_ne (by decide)])); exact rb5)) ?_
    refine V_iconst (pc := 35) X dX10_undo_35 ?_
    refine V_bipush (pc := 36) X dX10_undo_36 (by decide) ?_
    refine V_CS (pc := 38) X dX10_undo_38 oX10_copies l_RX10_162 sX10_copies ⟨Nat.le_of_ble_eq_true rfl, Nat.le_of_ble_eq_true rfl⟩ ⟨rfl, rfl⟩ ⟨Nat.le_of_ble_eq_true rfl, Nat.le_of_ble_eq_true rfl⟩ (ct_X10_copies (NA := 110) (NB := 11) rfl rfl (by decide) (by omega) (by omega) (by decide) (by decide) (by decide) (by decide) (by decide)) rfl (by rfl) (by exact Nat.le_of_ble_eq_true rfl) (fun r h1 hp => ?_)
    obtain ⟨rfl, rfl⟩ := hp
    refine V_aload_n (pc := 41) X dX10_undo_41 rfl (by first | decide | omega | assumption) ?_
    refine V_gz (pc := 42) X dX10_undo_42 f_RX10_73 (by first | rfl | assumption | (simp only [*]; done) | omega) 8 rfl (show _ = h 89 8 - 1 from by first | rfl | (repeat (first | rw [z_st_at] | rw [z_st_slot _ (by decide)] | rw [z_st_cell _ (by decide)] | rw [z_rw_ne _ _ (by decide)] | rw [r_rem_s (by decide)] | rw [r_rem_c (by decide) (by decide)] | rw [r_cp_ne (by decide)]))) ?_
    refine V_iret (st := []) (pc := 45) X hQ dX10_undo_45 rfl rfl ?_
    exact Or.inr ⟨c_4, rfl, rfl⟩
  · skip
    refine V_bipush (pc := 7) X dX10_undo_7 (by decide) ?_
    refine V_iret (st := []) (pc := 9) X hQ dX10_undo_9 rfl rfl ?_
    exact Or.inl ⟨c_4, rfl, rfl⟩
set_option maxHeartbeats 4000000 in
set_option maxRecDepth 100000 in
theorem ct_X10_light {h : z_H} (hO : r_Ob h) (hP : r_Pl h) (hT : r_Mt (h 92)) {x y k : Int} (hx : z_R x) (hy : z_R y) (hk : z_R k) : z_Ct mX10_light 107 [(2, 89), (0, x), (0, y), (0, k)] h (z_pure (0, r_lightF h x y k) h) := by
  refine z_mk (L := [(2, 89), (0, x), (0, y), (0, k)]) oX10_light.2.2.2.2 (Nat.le_of_ble_eq_true rfl) rfl ?_
  intro Γ X hQ
  obtain ⟨rb2, rb3, rb5, rb6, rb7, rb9, rb10, rb11, rb12, rb13, rb15, rb25, rb26, rb30, rb31, rb32, rb33⟩ := id hO
  obtain ⟨⟨hw1, hw2⟩, ⟨hh1, hh2⟩, ⟨hs1, hs2⟩, hgl, hco⟩ := id hP
  obtain ⟨tw, ⟨tb1, tb2⟩, ⟨tm1, tm2⟩, ⟨ts1, ts2⟩⟩ := id hT
  have kc : z_kd 107 92 = (1, 11) := rfl
  obtain ⟨hx1, hx2⟩ := hx
  obtain ⟨hy1, hy2⟩ := hy
  obtain ⟨hk1, hk2⟩ := hk
  refine V_iload_n (pc := 0) X dX10_light_0 rfl ?_
  refine V_iload_n (pc := 1) X dX10_light_1 rfl ?_
  refine V_FS (pc := 2) X dX10_light_2 oX10_isTile l_RX10_237 sX10_isTile ⟨Nat.le_of_ble_eq_true rfl, Nat.le_of_ble_eq_true rfl⟩ ⟨rfl, rfl⟩ ⟨Nat.le_of_ble_eq_true rfl, Nat.le_of_ble_eq_true rfl⟩ (ct_X10_isTile ⟨by omega, by omega⟩ ⟨by omega, by omega⟩) rfl (by rfl) (by exact Nat.le_of_ble_eq_true rfl) ?_
  refine V_bif_eq (pc := 5) X 29 dX10_light_5 (by decide)  (fun c_5 => ?_) (fun c_5 => ?_)
  · skip
    refine V_iconst (pc := 29) X dX10_light_29 ?_
    refine V_iret (st := []) (pc := 30) X hQ dX10_light_30 rfl rfl ?_
    exact z_pi (by unfold r_lightF; simp [*])
  · skip
    refine V_iload_n (pc := 8) X dX10_light_8 rfl ?_
    refine V_FS (pc := 9) X dX10_light_9 oX10_isHour l_RX10_240 sX10_isHour ⟨Nat.le_of_ble_eq_true rfl, Nat.le_of_ble_eq_true rfl⟩ ⟨rfl, rfl⟩ ⟨Nat.le_of_ble_eq_true rfl, Nat.le_of_ble_eq_true rfl⟩ (ct_X10_isHour ⟨by omega, by omega⟩) rfl (by rfl) (by exact Nat.le_of_ble_eq_true rfl) ?_
    refine V_bif_eq (pc := 12) X 29 dX10_light_12 (by decide)  (fun c_12 => ?_) (fun c_12 => ?_)
    · skip
      refine V_iconst (pc := 29) X dX10_light_29 ?_
      refine V_iret (st := []) (pc := 30) X hQ dX10_light_30 rfl rfl ?_
      exact z_pi (by unfold r_lightF; simp [*])
    · skip
      have t1 := of_decide_eq_true c_5
      have t2 := of_decide_eq_true c_12
      refine V_aload_n (pc := 15) X dX10_light_15 rfl (by first | decide | omega | assumption) ?_
      refine V_aload_n (pc := 16) X dX10_light_16 rfl (by first | decide | omega | assumption) ?_
      refine V_gz (pc := 17) X dX10_light_17 f_RX10_23 (by first | rfl | assumption | (simp only [*]; done) | omega) 5 rfl (show _ = (92 : Int) from by first | exact rb5 | ((repeat (first | rw [z_st_at] | rw [z_st_slot _ (by decide)] | rw [z_st_cell _ (by decide)] | rw [z_rw_ne _ _ (by decide)] | rw [r_rem_s (by decide)] | rw [r_rem_c (by decide) (by decide)] | rw [r_cp_ne (by decide)])); exact rb5)) ?_
      refine V_iload_n (pc := 20) X dX10_light_20 rfl ?_
      refine V_iload_n (pc := 21) X dX10_light_21 rfl ?_
      refine V_iload_n (pc := 22) X dX10_light_22 rfl ?_
      refine V_FV (pc := 23) X dX10_light_23 oX10_lightOn l_RX10_193 eX10_lightOn vX10_lightOn ⟨Nat.le_of_ble_eq_true rfl, Nat.le_of_ble_eq_true rfl⟩ ⟨rfl, rfl⟩ ⟨Nat.le_of_ble_eq_true rfl, Nat.le_of_ble_eq_true rfl⟩ (ct_X10_lightOn hO hP kc hT (by omega) (by omega) (by omega) (by omega) (by omega) (by omega)) rfl (by first | rfl | assumption | (simp only [*]; done) | omega) (by intro q h; cases h; rfl) rfl (by rfl) (by exact Nat.le_of_ble_eq_true rfl) ?_
      refine V_goto (pc := 26) X 30 dX10_light_26 (by decide) ?_
      refine V_iret (st := []) (pc := 30) X hQ dX10_light_30 rfl rfl ?_
      exact z_pi (by unfold r_lightF; simp [*])
set_option maxHeartbeats 4000000 in
set_option maxRecDepth 100000 in
theorem ct_X10_lit {h : z_H} (hO : r_Ob h) (hP : r_Pl h) (hT : r_Mt (h 92)) {c k w : Int} (hc : z_R c) (hk : z_R k) (hw9 : z_R w) : z_Ct mX10_lit 107 [(2, 89), (0, c), (0, k), (0, w)] h (z_pure (0, r_litF h c k w) h) := by
  refine z_mk (L := [(2, 89), (0, c), (0, k), (0, w), (9, 0), (9, 0), (9, 0), (9, 0)]) oX10_lit.2.2.2.2 (Nat.le_of_ble_eq_true rfl) rfl ?_
  intro Γ X hQ
  obtain ⟨rb2, rb3, rb5, rb6, rb7, rb9, rb10, rb11, rb12, rb13, rb15, rb25, rb26, rb30, rb31, rb32, rb33⟩ := id hO
  obtain ⟨⟨hw1, hw2⟩, ⟨hh1, hh2⟩, ⟨hs1, hs2⟩, hgl, hco⟩ := id hP
  obtain ⟨tw, ⟨tb1, tb2⟩, ⟨tm1, tm2⟩, ⟨ts1, ts2⟩⟩ := id hT
  have kc : z_kd 107 92 = (1, 11) := rfl
  obtain ⟨hc1, hc2⟩ := hc
  obtain ⟨hk1, hk2⟩ := hk
  obtain ⟨hwa, hwb⟩ := hw9
  refine V_iload_n (pc := 0) X dX10_lit_0 rfl ?_
  refine V_FS (pc := 1) X dX10_lit_1 oX10_isColour l_RX10_243 sX10_isColour ⟨Nat.le_of_ble_eq_true rfl, Nat.le_of_ble_eq_true rfl⟩ ⟨rfl, rfl⟩ ⟨Nat.le_of_ble_eq_true rfl, Nat.le_of_ble_eq_true rfl⟩ (ct_X10_isColour ⟨by omega, by omega⟩) rfl (by rfl) (by exact Nat.le_of_ble_eq_true rfl) ?_
  refine V_bif_eq (pc := 4) X 24 dX10_lit_4 (by decide)  (fun c_4 => ?_) (fun c_4 => ?_)
  · skip
    refine V_iconst (pc := 24) X dX10_lit_24 ?_
    refine V_iret (st := []) (pc := 25) X hQ dX10_lit_25 rfl rfl ?_
    exact z_pi (by unfold r_litF; first | (rw [if_neg (fun g => by rw [c_4] at g; exact absurd g.1 (by decide))]) | (rw [if_neg (fun g => by rw [c_11] at g; exact absurd g.2.1 (by decide))]) | (rw [if_neg (fun g => absurd (decide_eq_true (show 0 ≤ w ∧ w ≤ 1 from g.2.2)) (by rw [show decide (0 ≤ w ∧ w ≤ 1) = false from c_21]; decide))]))
  · skip
    refine V_iload_n (pc := 7) X dX10_lit_7 rfl ?_
    refine V_FS (pc := 8) X dX10_lit_8 oX10_isHour l_RX10_240 sX10_isHour ⟨Nat.le_of_ble_eq_true rfl, Nat.le_of_ble_eq_true rfl⟩ ⟨rfl, rfl⟩ ⟨Nat.le_of_ble_eq_true rfl, Nat.le_of_ble_eq_true rfl⟩ (ct_X10_isHour ⟨by omega, by omega⟩) rfl (by rfl) (by exact Nat.le_of_ble_eq_true rfl) ?_
    refine V_bif_eq (pc := 11) X 24 dX10_lit_11 (by decide)  (fun c_11 => ?_) (fun c_11 => ?_)
    · skip
      refine V_iconst (pc := 24) X dX10_lit_24 ?_
      refine V_iret (st := []) (pc := 25) X hQ dX10_lit_25 rfl rfl ?_
      exact z_pi (by unfold r_litF; first | (rw [if_neg (fun g => by rw [c_4] at g; exact absurd g.1 (by decide))]) | (rw [if_neg (fun g => by rw [c_11] at g; exact absurd g.2.1 (by decide))]) | (rw [if_neg (fun g => absurd (decide_eq_true (show 0 ≤ w ∧ w ≤ 1 from g.2.2)) (by rw [show decide (0 ≤ w ∧ w ≤ 1) = false from c_21]; decide))]))
    · skip
      refine V_iload_n (pc := 14) X dX10_lit_14 rfl ?_
      refine V_i2l (pc := 15) X dX10_lit_15 ⟨by omega, by omega⟩ ?_
      refine V_lconst (pc := 16) (z := 0) X dX10_lit_16 (by decide) ?_
      refine V_lconst (pc := 17) (z := 1) X dX10_lit_17 (by decide) ?_
      refine V_FS (pc := 18) X dX10_lit_18 oX10_in l_RX10_81 sX10_in ⟨Nat.le_of_ble_eq_true rfl, Nat.le_of_ble_eq_true rfl⟩ ⟨rfl, rfl⟩ ⟨Nat.le_of_ble_eq_true rfl, Nat.le_of_ble_eq_true rfl⟩ (ct_X10_in ⟨by omega, by omega⟩ ⟨by omega, by omega⟩ ⟨by omega, by omega⟩) rfl (by rfl) (by exact Nat.le_of_ble_eq_true rfl) ?_
      refine V_bif_ne (pc := 21) X 26 dX10_lit_21 (by decide)  (fun c_21 => ?_) (fun c_21 => ?_)
      · skip
        have t1 := of_decide_eq_true c_4
        have t2 := of_decide_eq_true c_11
        have t3 := of_decide_eq_true c_21
        refine V_iconst (pc := 26) X dX10_lit_26 ?_
        refine V_istore (pc := 27) X dX10_lit_27 (by exact Nat.le_of_ble_eq_true rfl) (by first | rfl | (simp [z_nl, hz]; done)) ?_
        refine V_bipush (pc := 29) X dX10_lit_29 (by decide) ?_
        refine V_istore (pc := 31) X dX10_lit_31 (by exact Nat.le_of_ble_eq_true rfl) (by first | rfl | (simp [z_nl, hz]; done)) ?_
        refine V_bipush (pc := 33) X dX10_lit_33 (by decide) ?_
        refine V_istore (pc := 35) X dX10_lit_35 (by exact Nat.le_of_ble_eq_true rfl) (by first | rfl | (simp [z_nl, hz]; done)) ?_
        have lp_37 : ∀ (m : Nat) (i : Nat) (z : Nat × Int), 84 - i < m → i ≤ 84 → ¬ z.1 = 1 → z_V Γ (107, 0, 0) 37 [(2, 89), (0, c), (0, k), (0, w), (0, (r_litN h c k i).2), (0, (r_litN h c k i).1), (0, 83 - (i : Int)), z] [] h := by
          intro m
          induction m with
          | zero => intro i z hm; exact absurd hm (Nat.not_lt_zero _)
          | succ m ih_37 =>
            intro i z hm hi1 hz
            have hlr := r_litN_rng h c k i hi1
            have hli := r_on_rng hP (T := h 92) (x := (83 - (i : Int)) / 7) (y := (83 - (i : Int)) % 7) (k := k)
            refine V_iload (pc := 37) X dX10_lit_37 rfl ?_
            refine V_if_lt (pc := 39) X 95 dX10_lit_39 (by decide) ⟨by omega, by omega⟩ (fun c_39 => ?_) (fun c_39 => ?_)
            · skip
              obtain rfl : i = 84 := by omega
              refine V_iload_n (pc := 95) X dX10_lit_95 rfl ?_
              refine V_if_ne (pc := 96) X 104 dX10_lit_96 (by decide) ⟨by omega, by omega⟩ (fun c_96 => ?_) (fun c_96 => ?_)
              · skip
                refine V_iload (pc := 104) X dX10_lit_104 rfl ?_
                refine V_iret (st := []) (pc := 106) X hQ dX10_lit_106 rfl rfl ?_
                exact z_pi (by unfold r_litF; rw [if_pos ⟨c_4, c_11, t3⟩]; first | rw [if_pos c_96] | rw [if_neg c_96])
              · skip
                refine V_iload (pc := 99) X dX10_lit_99 rfl ?_
                refine V_goto (pc := 101) X 106 dX10_lit_101 (by decide) ?_
                refine V_iret (st := []) (pc := 106) X hQ dX10_lit_106 rfl rfl ?_
                exact z_pi (by unfold r_litF; rw [if_pos ⟨c_4, c_11, t3⟩]; first | rw [if_pos c_96] | rw [if_neg c_96])
            · skip
              refine V_aload_n (pc := 42) X dX10_lit_42 rfl (by first | decide | omega | assumption) ?_
              refine V_iload (pc := 43) X dX10_lit_43 rfl ?_
              refine V_iload_n (pc := 45) X dX10_lit_45 rfl ?_
              refine V_FV (pc := 46) X dX10_lit_46 oX10_lightAt l_RX10_246 eX10_lightAt vX10_lightAt ⟨Nat.le_of_ble_eq_true rfl, Nat.le_of_ble_eq_true rfl⟩ ⟨rfl, rfl⟩ ⟨Nat.le_of_ble_eq_true rfl, Nat.le_of_ble_eq_true rfl⟩ (ct_X10_lightAt hO hP hT (by omega) (by omega) (by omega) (by omega)) rfl (by first | rfl | assumption | (simp only [*]; done) | omega) (by intro q h; cases h; rfl) rfl (by rfl) (by exact Nat.le_of_ble_eq_true rfl) ?_
              refine V_iload_n (pc := 49) X dX10_lit_49 rfl ?_
              refine V_icmp_ne (pc := 50) X 57 dX10_lit_50 (by decide) ⟨by omega, by omega⟩ ⟨by omega, by omega⟩ (fun c_50 => ?_) (fun c_50 => ?_)
              · skip
                refine V_iconst (pc := 57) X dX10_lit_57 ?_
                refine V_istore (pc := 58) X dX10_lit_58 (by exact Nat.le_of_ble_eq_true rfl) (by first | rfl | (simp [z_nl, hz]; done)) ?_
                refine V_iload (pc := 60) X dX10_lit_60 rfl ?_
                refine V_iload (pc := 62) X dX10_lit_62 rfl ?_
                refine V_if_eq (pc := 64) X 71 dX10_lit_64 (by decide) ⟨by omega, by omega⟩ (fun c_64 => ?_) (fun c_64 => absurd c_64 (by decide))
                refine V_iconst (pc := 71) X dX10_lit_71 ?_
                refine V_iadd (pc := 72) X dX10_lit_72 ?_
                refine V_istore (pc := 73) X dX10_lit_73 (by exact Nat.le_of_ble_eq_true rfl) (by first | rfl | (simp [z_nl, hz]; done)) ?_
                refine V_iload (pc := 75) X dX10_lit_75 rfl ?_
                refine V_if_eq (pc := 77) X 85 dX10_lit_77 (by decide) ⟨by omega, by omega⟩ (fun c_77 => ?_) (fun c_77 => absurd c_77 (by decide))
                refine V_iload (pc := 85) X dX10_lit_85 rfl ?_
                refine V_istore (pc := 87) X dX10_lit_87 (by exact Nat.le_of_ble_eq_true rfl) (by first | rfl | (simp [z_nl, hz]; done)) ?_
                refine V_iinc (pc := 89) X dX10_lit_89 rfl (by first | rfl | (simp [z_nl, hz]; done)) ?_
                refine V_goto (pc := 92) X 37 dX10_lit_92 (by decide) ?_
                first
                  | (refine V_loc ?_ (ih_37 (i + 1) (0, 0) (by omega) (by omega) (by decide)); show [_, _, _, _, _, _, _, _] = [_, _, _, _, _, _, _, _]; rw [show 83 - ((i + 1 : Nat) : Int) = 83 - (i : Int) + (-1) by omega, show r_litN h c k (i + 1) = _ from if_neg c_50, Int.add_zero]; done)
                  | (refine V_loc ?_ (ih_37 (i + 1) (0, 1) (by omega) (by omega) (by decide)); show [_, _, _, _, _, _, _, _] = [_, _, _, _, _, _, _, _]; rw [show 83 - ((i + 1 : Nat) : Int) = 83 - (i : Int) + (-1) by omega, show r_litN h c k (i + 1) = _ from if_pos c_50]; done)
              · skip
                refine V_iconst (pc := 53) X dX10_lit_53 ?_
                refine V_goto (pc := 54) X 58 dX10_lit_54 (by decide) ?_
                refine V_istore (pc := 58) X dX10_lit_58 (by exact Nat.le_of_ble_eq_true rfl) (by first | rfl | (simp [z_nl, hz]; done)) ?_
                refine V_iload (pc := 60) X dX10_lit_60 rfl ?_
                refine V_iload (pc := 62) X dX10_lit_62 rfl ?_
                refine V_if_eq (pc := 64) X 71 dX10_lit_64 (by decide) ⟨by omega, by omega⟩ (fun c_64 => absurd c_64 (by decide)) (fun c_64 => ?_)
                refine V_iconst (pc := 67) X dX10_lit_67 ?_
                refine V_goto (pc := 68) X 72 dX10_lit_68 (by decide) ?_
                refine V_iadd (pc := 72) X dX10_lit_72 ?_
                refine V_istore (pc := 73) X dX10_lit_73 (by exact Nat.le_of_ble_eq_true rfl) (by first | rfl | (simp [z_nl, hz]; done)) ?_
                refine V_iload (pc := 75) X dX10_lit_75 rfl ?_
                refine V_if_eq (pc := 77) X 85 dX10_lit_77 (by decide) ⟨by omega, by omega⟩ (fun c_77 => absurd c_77 (by decide)) (fun c_77 => ?_)
                refine V_iload (pc := 80) X dX10_lit_80 rfl ?_
                refine V_goto (pc := 82) X 87 dX10_lit_82 (by decide) ?_
                refine V_istore (pc := 87) X dX10_lit_87 (by exact Nat.le_of_ble_eq_true rfl) (by first | rfl | (simp [z_nl, hz]; done)) ?_
                refine V_iinc (pc := 89) X dX10_lit_89 rfl (by first | rfl | (simp [z_nl, hz]; done)) ?_
                refine V_goto (pc := 92) X 37 dX10_lit_92 (by decide) ?_
                first
                  | (refine V_loc ?_ (ih_37 (i + 1) (0, 0) (by omega) (by omega) (by decide)); show [_, _, _, _, _, _, _, _] = [_, _, _, _, _, _, _, _]; rw [show 83 - ((i + 1 : Nat) : Int) = 83 - (i : Int) + (-1) by omega, show r_litN h c k (i + 1) = _ from if_neg c_50, Int.add_zero]; done)
                  | (refine V_loc ?_ (ih_37 (i + 1) (0, 1) (by omega) (by omega) (by decide)); show [_, _, _, _, _, _, _, _] = [_, _, _, _, _, _, _, _]; rw [show 83 - ((i + 1 : Nat) : Int) = 83 - (i : Int) + (-1) by omega, show r_litN h c k (i + 1) = _ from if_pos c_50]; done)
        exact lp_37 _ 0 (9, 0) (Nat.lt_succ_self _) (by decide) (by decide)
      · skip
        refine V_iconst (pc := 24) X dX10_lit_24 ?_
        refine V_iret (st := []) (pc := 25) X hQ dX10_lit_25 rfl rfl ?_
        exact z_pi (by unfold r_litF; first | (rw [if_neg (fun g => by rw [c_4] at g; exact absurd g.1 (by decide))]) | (rw [if_neg (fun g => by rw [c_11] at g; exact absurd g.2.1 (by decide))]) | (rw [if_neg (fun g => absurd (decide_eq_true (show 0 ≤ w ∧ w ≤ 1 from g.2.2)) (by rw [show decide (0 ≤ w ∧ w ≤ 1) = false from c_21]; decide))]))
set_option maxHeartbeats 4000000 in
set_option maxRecDepth 100000 in
theorem ct_X10_when {h : z_H} (hO : r_Ob h) (hP : r_Pl h) (hT : r_Mt (h 92)) {x y c : Int} (hx : z_R x) (hy : z_R y) (hc : z_R c) : z_Ct mX10_when 107 [(2, 89), (0, x), (0, y), (0, c)] h (z_pure (0, r_whenF h x y c) h) := by
  refine z_mk (L := [(2, 89), (0, x), (0, y), (0, c), (9, 0)]) oX10_when.2.2.2.2 (Nat.le_of_ble_eq_true rfl) rfl ?_
  intro Γ X hQ
  obtain ⟨rb2, rb3, rb5, rb6, rb7, rb9, rb10, rb11, rb12, rb13, rb15, rb25, rb26, rb30, rb31, rb32, rb33⟩ := id hO
  obtain ⟨⟨hw1, hw2⟩, ⟨hh1, hh2⟩, ⟨hs1, hs2⟩, hgl, hco⟩ := id hP
  obtain ⟨tw, ⟨tb1, tb2⟩, ⟨tm1, tm2⟩, ⟨ts1, ts2⟩⟩ := id hT
  have kc : z_kd 107 92 = (1, 11) := rfl
  obtain ⟨hx1, hx2⟩ := hx
  obtain ⟨hy1, hy2⟩ := hy
  obtain ⟨hc1, hc2⟩ := hc
  refine V_iload_n (pc := 0) X dX10_when_0 rfl ?_
  refine V_iload_n (pc := 1) X dX10_when_1 rfl ?_
  refine V_FS (pc := 2) X dX10_when_2 oX10_isTile l_RX10_237 sX10_isTile ⟨Nat.le_of_ble_eq_true rfl, Nat.le_of_ble_eq_true rfl⟩ ⟨rfl, rfl⟩ ⟨Nat.le_of_ble_eq_true rfl, Nat.le_of_ble_eq_true rfl⟩ (ct_X10_isTile ⟨by omega, by omega⟩ ⟨by omega, by omega⟩) rfl (by rfl) (by exact Nat.le_of_ble_eq_true rfl) ?_
  refine V_bif_eq (pc := 5) X 15 dX10_when_5 (by decide)  (fun c_5 => ?_) (fun c_5 => ?_)
  · skip
    refine V_iconst (pc := 15) X dX10_when_15 ?_
    refine V_iret (st := []) (pc := 16) X hQ dX10_when_16 rfl rfl ?_
    exact z_pi (by unfold r_whenF; simp [*])
  · skip
    refine V_iload_n (pc := 8) X dX10_when_8 rfl ?_
    refine V_FS (pc := 9) X dX10_when_9 oX10_isColour l_RX10_243 sX10_isColour ⟨Nat.le_of_ble_eq_true rfl, Nat.le_of_ble_eq_true rfl⟩ ⟨rfl, rfl⟩ ⟨Nat.le_of_ble_eq_true rfl, Nat.le_of_ble_eq_true rfl⟩ (ct_X10_isColour ⟨by omega, by omega⟩) rfl (by rfl) (by exact Nat.le_of_ble_eq_true rfl) ?_
    refine V_bif_ne (pc := 12) X 17 dX10_when_12 (by decide)  (fun c_12 => ?_) (fun c_12 => ?_)
    · skip
      have t1 := of_decide_eq_true c_5
      have t2 := of_decide_eq_true c_12
      refine V_iconst (pc := 17) X dX10_when_17 ?_
      refine V_istore (pc := 18) X dX10_when_18 (by exact Nat.le_of_ble_eq_true rfl) rfl ?_
      have lp_20 : ∀ (m : Nat) (i : Int), (8 - i).toNat < m → 0 ≤ i → i ≤ 8 → (∀ k : Int, 0 ≤ k → k < i → (fun k => decide (r_on h (h 92) x y k = c)) k = false) → z_V Γ (107, 0, 0) 20 [(2, 89), (0, x), (0, y), (0, c), (0, i)] [] h := by
        intro m
        induction m with
        | zero => intro i hm; exact absurd hm (Nat.not_lt_zero _)
        | succ m ih_20 =>
          intro i hm hi0 hi1 hk
          have hli := r_on_rng hP (T := h 92) (x := x) (y := y) (k := i)
          refine V_iload (pc := 20) X dX10_when_20 rfl ?_
          refine V_bipush (pc := 22) X dX10_when_22 (by decide) ?_
          refine V_icmp_ge (pc := 24) X 52 dX10_when_24 (by decide) ⟨by omega, by omega⟩ ⟨by omega, by omega⟩ (fun c_24 => ?_) (fun c_24 => ?_)
          · skip
            refine V_bipush (pc := 52) X dX10_when_52 (by decide) ?_
            refine V_iret (st := []) (pc := 54) X hQ dX10_when_54 rfl rfl ?_
            exact z_pi (by unfold r_whenF; rw [if_pos ⟨c_5, c_12⟩]; exact (z_find_none (n := 8) (fun k a b => hk k a (by omega))).symm)
          · skip
            refine V_aload_n (pc := 27) X dX10_when_27 rfl (by first | decide | omega | assumption) ?_
            refine V_aload_n (pc := 28) X dX10_when_28 rfl (by first | decide | omega | assumption) ?_
            refine V_gz (pc := 29) X dX10_when_29 f_RX10_23 (by first | rfl | assumption | (simp only [*]; done) | omega) 5 rfl (show _ = (92 : Int) from by first | exact rb5 | ((repeat (first | rw [z_st_at] | rw [z_st_slot _ (by decide)] | rw [z_st_cell _ (by decide)] | rw [z_rw_ne _ _ (by decide)] | rw [r_rem_s (by decide)] | rw [r_rem_c (by decide) (by decide)] | rw [r_cp_ne (by decide)])); exact rb5)) ?_
            refine V_iload_n (pc := 32) X dX10_when_32 rfl ?_
            refine V_iload_n (pc := 33) X dX10_when_33 rfl ?_
            refine V_iload (pc := 34) X dX10_when_34 rfl ?_
            refine V_FV (pc := 36) X dX10_when_36 oX10_lightOn l_RX10_193 eX10_lightOn vX10_lightOn ⟨Nat.le_of_ble_eq_true rfl, Nat.le_of_ble_eq_true rfl⟩ ⟨rfl, rfl⟩ ⟨Nat.le_of_ble_eq_true rfl, Nat.le_of_ble_eq_true rfl⟩ (ct_X10_lightOn hO hP kc hT (by omega) (by omega) (by omega) (by omega) (by omega) (by omega)) rfl (by first | rfl | assumption | (simp only [*]; done) | omega) (by intro q h; cases h; rfl) rfl (by rfl) (by exact Nat.le_of_ble_eq_true rfl) ?_
            refine V_iload_n (pc := 39) X dX10_when_39 rfl ?_
            refine V_icmp_ne (pc := 40) X 46 dX10_when_40 (by decide) ⟨by omega, by omega⟩ ⟨by omega, by omega⟩ (fun c_40 => ?_) (fun c_40 => ?_)
            · skip
              refine V_iinc (pc := 46) X dX10_when_46 rfl rfl ?_
              refine V_goto (pc := 49) X 20 dX10_when_49 (by decide) ?_
              refine ih_20 (i + 1) (by omega) (by omega) (by omega) (fun k a b => ?_)
              by_cases e : k = i
              · rw [e]; exact decide_eq_false c_40
              · exact hk k a (by omega)
            · skip
              refine V_iload (pc := 43) X dX10_when_43 rfl ?_
              refine V_iret (st := []) (pc := 45) X hQ dX10_when_45 rfl rfl ?_
              exact z_pi (by unfold r_whenF; rw [if_pos ⟨c_5, c_12⟩]; exact (z_find_some (n := 8) hi0 (decide_eq_true c_40) hk (by omega)).symm)
      exact lp_20 _ 0 (Nat.lt_succ_self _) (by decide) (by decide) (by intro k a b; omega)
    · skip
      refine V_iconst (pc := 15) X dX10_when_15 ?_
      refine V_iret (st := []) (pc := 16) X hQ dX10_when_16 rfl rfl ?_
      exact z_pi (by unfold r_whenF; simp [*])
set_option maxHeartbeats 4000000 in
set_option maxRecDepth 100000 in
theorem ct_X10_free {h : z_H} (hO : r_Ob h) (hP : r_Pl h) (hT : r_Mt (h 92)) {p : Int} (h0 : p = -9 ∨ 0 ≤ p) (h1 : p < 20) : z_Ct mX10_free 107 [(2, 89), (0, p)] h (z_pure (0, r_free h p) h) := by
  refine z_mk (L := [(2, 89), (0, p)]) oX10_free.2.2.2.2 (Nat.le_of_ble_eq_true rfl) rfl ?_
  intro Γ X hQ
  obtain ⟨rb2, rb3, rb5, rb6, rb7, rb9, rb10, rb11, rb12, rb13, rb15, rb25, rb26, rb30, rb31, rb32, rb33⟩ := id hO
  obtain ⟨⟨hw1, hw2⟩, ⟨hh1, hh2⟩, ⟨hs1, hs2⟩, hgl, hco⟩ := id hP
  obtain ⟨tw, ⟨tb1, tb2⟩, ⟨tm1, tm2⟩, ⟨ts1, ts2⟩⟩ := id hT
  have kc : z_kd 107 92 = (1, 11) := rfl
  refine V_iload_n (pc := 0) X dX10_free_0 rfl ?_
  refine V_bipush (pc := 1) X dX10_free_1 (by decide) ?_
  refine V_icmp_eq (pc := 3) X 20 dX10_free_3 (by decide) ⟨by omega, by omega⟩ ⟨by omega, by omega⟩ (fun c_3 => ?_) (fun c_3 => ?_)
  · skip
    refine V_iconst (pc := 20) X dX10_free_20 ?_
    refine V_goto (pc := 21) X 38 dX10_free_21 (by decide) ?_
    refine V_iret (st := []) (pc := 38) X hQ dX10_free_38 rfl rfl ?_
    exact z_pi (by unfold r_free; first | (rw [if_pos (Or.inl c_3)]) | (rw [if_pos (Or.inr c_17)]) | (rw [if_neg (fun g => by rcases g with g | g; exact c_3 g; rw [c_17] at g; exact absurd g (by decide))]))
  · skip
    refine V_aload_n (pc := 6) X dX10_free_6 rfl (by first | decide | omega | assumption) ?_
    refine V_gz (pc := 7) X dX10_free_7 f_RX10_23 (by first | rfl | assumption | (simp only [*]; done) | omega) 5 rfl (show _ = (92 : Int) from by first | exact rb5 | ((repeat (first | rw [z_st_at] | rw [z_st_slot _ (by decide)] | rw [z_st_cell _ (by decide)] | rw [z_rw_ne _ _ (by decide)] | rw [r_rem_s (by decide)] | rw [r_rem_c (by decide) (by decide)] | rw [r_cp_ne (by decide)])); exact rb5)) ?_
    refine V_bipush (pc := 10) X dX10_free_10 (by decide) ?_
    refine V_iald (pc := 12) X dX10_free_12 (by first | rfl | assumption | (simp only [*]; done) | omega) (by omega) (by omega) (by decide) ?_
    refine V_iload_n (pc := 13) X dX10_free_13 rfl ?_
    refine V_FS (pc := 14) X dX10_free_14 oX10_has l_RX10_172 sX10_has ⟨Nat.le_of_ble_eq_true rfl, Nat.le_of_ble_eq_true rfl⟩ ⟨rfl, rfl⟩ ⟨Nat.le_of_ble_eq_true rfl, Nat.le_of_ble_eq_true rfl⟩ (ct_X10_has (by omega) (by omega) (by omega) (by omega)) rfl (by rfl) (by exact Nat.le_of_ble_eq_true rfl) ?_
    refine V_bif_eq (pc := 17) X 24 dX10_free_17 (by decide)  (fun c_17 => ?_) (fun c_17 => ?_)
    · skip
      refine V_iconst (pc := 24) X dX10_free_24 ?_
      refine V_aload_n (pc := 25) X dX10_free_25 rfl (by first | decide | omega | assumption) ?_
      refine V_aload_n (pc := 26) X dX10_free_26 rfl (by first | decide | omega | assumption) ?_
      refine V_gz (pc := 27) X dX10_free_27 f_RX10_23 (by first | rfl | assumption | (simp only [*]; done) | omega) 5 rfl (show _ = (92 : Int) from by first | exact rb5 | ((repeat (first | rw [z_st_at] | rw [z_st_slot _ (by decide)] | rw [z_st_cell _ (by decide)] | rw [z_rw_ne _ _ (by decide)] | rw [r_rem_s (by decide)] | rw [r_rem_c (by decide) (by decide)] | rw [r_cp_ne (by decide)])); exact rb5)) ?_
      refine V_iload_n (pc := 30) X dX10_free_30 rfl ?_
      refine V_FV (pc := 31) X dX10_free_31 oX10_sheetsAt l_RX10_175 eX10_sheetsAt vX10_sheetsAt ⟨Nat.le_of_ble_eq_true rfl, Nat.le_of_ble_eq_true rfl⟩ ⟨rfl, rfl⟩ ⟨Nat.le_of_ble_eq_true rfl, Nat.le_of_ble_eq_true rfl⟩ (ct_X10_sheetsAt hO hP kc hT (by omega) (by omega)) rfl (by first | rfl | assumption | (simp only [*]; done) | omega) (by intro q h; cases h; rfl) rfl (by rfl) (by exact Nat.le_of_ble_eq_true rfl) ?_
      have hal := r_at_lt hP (h 92) p
      refine V_FS (pc := 34) X dX10_free_34 oX10_bits l_RX10_201 sX10_bits ⟨Nat.le_of_ble_eq_true rfl, Nat.le_of_ble_eq_true rfl⟩ ⟨rfl, rfl⟩ ⟨Nat.le_of_ble_eq_true rfl, Nat.le_of_ble_eq_true rfl⟩ (ct_X10_bits (by omega) (by omega)) rfl (by rfl) (by exact Nat.le_of_ble_eq_true rfl) ?_
      refine V_isub (pc := 37) X dX10_free_37 ?_
      refine V_iret (st := []) (pc := 38) X hQ dX10_free_38 rfl rfl ?_
      exact z_pi (by unfold r_free; first | (rw [if_pos (Or.inl c_3)]) | (rw [if_pos (Or.inr c_17)]) | (rw [if_neg (fun g => by rcases g with g | g; exact c_3 g; rw [c_17] at g; exact absurd g (by decide))]))
    · skip
      refine V_iconst (pc := 20) X dX10_free_20 ?_
      refine V_goto (pc := 21) X 38 dX10_free_21 (by decide) ?_
      refine V_iret (st := []) (pc := 38) X hQ dX10_free_38 rfl rfl ?_
      exact z_pi (by unfold r_free; first | (rw [if_pos (Or.inl c_3)]) | (rw [if_pos (Or.inr c_17)]) | (rw [if_neg (fun g => by rcases g with g | g; exact c_3 g; rw [c_17] at g; exact absurd g (by decide))]))
set_option maxHeartbeats 4000000 in
set_option maxRecDepth 100000 in
theorem ct_X10_letsNow {h : z_H} (hO : r_Ob h) (hP : r_Pl h) (hT : r_Mt (h 92)) {p : Int} (h0 : p = -9 ∨ 0 ≤ p) (h1 : p < 20) : z_Ct mX10_letsNow 107 [(2, 89), (0, p)] h (z_pure (0, r_ln h (h 92) p) h) := by
  refine z_mk (L := [(2, 89), (0, p)]) oX10_letsNow.2.2.2.2 (Nat.le_of_ble_eq_true rfl) rfl ?_
  intro Γ X hQ
  obtain ⟨rb2, rb3, rb5, rb6, rb7, rb9, rb10, rb11, rb12, rb13, rb15, rb25, rb26, rb30, rb31, rb32, rb33⟩ := id hO
  obtain ⟨⟨hw1, hw2⟩, ⟨hh1, hh2⟩, ⟨hs1, hs2⟩, hgl, hco⟩ := id hP
  obtain ⟨tw, ⟨tb1, tb2⟩, ⟨tm1, tm2⟩, ⟨ts1, ts2⟩⟩ := id hT
  have kc : z_kd 107 92 = (1, 11) := rfl
  refine V_iload_n (pc := 0) X dX10_letsNow_0 rfl ?_
  refine V_bipush (pc := 1) X dX10_letsNow_1 (by decide) ?_
  refine V_icmp_ne (pc := 3) X 10 dX10_letsNow_3 (by decide) ⟨by omega, by omega⟩ ⟨by omega, by omega⟩ (fun c_3 => ?_) (fun c_3 => ?_)
  · skip
    refine V_aload_n (pc := 10) X dX10_letsNow_10 rfl (by first | decide | omega | assumption) ?_
    refine V_aload_n (pc := 11) X dX10_letsNow_11 rfl (by first | decide | omega | assumption) ?_
    refine V_gz (pc := 12) X dX10_letsNow_12 f_RX10_23 (by first | rfl | assumption | (simp only [*]; done) | omega) 5 rfl (show _ = (92 : Int) from by first | exact rb5 | ((repeat (first | rw [z_st_at] | rw [z_st_slot _ (by decide)] | rw [z_st_cell _ (by decide)] | rw [z_rw_ne _ _ (by decide)] | rw [r_rem_s (by decide)] | rw [r_rem_c (by decide) (by decide)] | rw [r_cp_ne (by decide)])); exact rb5)) ?_
    refine V_iload_n (pc := 15) X dX10_letsNow_15 rfl ?_
    refine V_FV (pc := 16) X dX10_letsNow_16 oX10_lets l_RX10_190 eX10_lets vX10_lets ⟨Nat.le_of_ble_eq_true rfl, Nat.le_of_ble_eq_true rfl⟩ ⟨rfl, rfl⟩ ⟨Nat.le_of_ble_eq_true rfl, Nat.le_of_ble_eq_true rfl⟩ (ct_X10_lets hO hP kc hT (by omega) (by omega)) rfl (by first | rfl | assumption | (simp only [*]; done) | omega) (by intro q h; cases h; rfl) rfl (by rfl) (by exact Nat.le_of_ble_eq_true rfl) ?_
    refine V_iret (st := []) (pc := 19) X hQ dX10_letsNow_19 rfl rfl ?_
    exact z_pi (by unfold r_ln; first | rw [if_pos c_3] | rw [if_neg c_3])
  · skip
    refine V_iconst (pc := 6) X dX10_letsNow_6 ?_
    refine V_goto (pc := 7) X 19 dX10_letsNow_7 (by decide) ?_
    refine V_iret (st := []) (pc := 19) X hQ dX10_letsNow_19 rfl rfl ?_
    exact z_pi (by unfold r_ln; first | rw [if_pos c_3] | rw [if_neg c_3])
set_option maxHeartbeats 4000000 in
set_option maxRecDepth 100000 in
theorem ct_X10_type {h : z_H} (hO : r_Ob h) (hN : 0 ≤ h 89 16 ∧ h 89 16 ≤ 170) {c : Int} (hc : z_R c) : z_Ct mX10_type 107 [(2, 89), (0, c)] h (fun r h2 => (¬ (0 ≤ c ∧ c ≤ 255) ∧ r = some (0, -1) ∧ h2 = h) ∨ ((0 ≤ c ∧ c ≤ 255) ∧ ((¬ h 89 16 < 170 ∧ r = some (0, -3) ∧ h2 = h) ∨ (h 89 16 < 170 ∧ r = some (0, h 89 16 + 1) ∧ h2 = z_st (z_st h 100 (h 89 16) c) 89 16 (h 89 16 + 1))))) := by
  refine z_mk (L := [(2, 89), (0, c)]) oX10_type.2.2.2.2 (Nat.le_of_ble_eq_true rfl) rfl ?_
  intro Γ X hQ
  obtain ⟨rb2, rb3, rb5, rb6, rb7, rb9, rb10, rb11, rb12, rb13, rb15, rb25, rb26, rb30, rb31, rb32, rb33⟩ := id hO
  obtain ⟨hc1, hc2⟩ := hc
  refine V_iload_n (pc := 0) X dX10_type_0 rfl ?_
  refine V_i2l (pc := 1) X dX10_type_1 ⟨by omega, by omega⟩ ?_
  refine V_lconst (pc := 2) (z := 0) X dX10_type_2 (by decide) ?_
  refine V_ldc2 (pc := 3) X (255) dX10_type_3 c_RX10_79 (by decide) ?_
  refine V_FS (pc := 6) X dX10_type_6 oX10_in l_RX10_81 sX10_in ⟨Nat.le_of_ble_eq_true rfl, Nat.le_of_ble_eq_true rfl⟩ ⟨rfl, rfl⟩ ⟨Nat.le_of_ble_eq_true rfl, Nat.le_of_ble_eq_true rfl⟩ (ct_X10_in ⟨by omega, by omega⟩ ⟨by omega, by omega⟩ ⟨by omega, by omega⟩) rfl (by rfl) (by exact Nat.le_of_ble_eq_true rfl) ?_
  refine V_bif_ne (pc := 9) X 14 dX10_type_9 (by decide)  (fun c_9 => ?_) (fun c_9 => ?_)
  · skip
    have q1 := of_decide_eq_true c_9
    refine V_aload_n (pc := 14) X dX10_type_14 rfl (by first | decide | omega | assumption) ?_
    refine V_gz (pc := 15) X dX10_type_15 f_RX10_85 (by first | rfl | assumption | (simp only [*]; done) | omega) 16 rfl rfl ?_
    refine V_sipush (pc := 18) X dX10_type_18 (by decide) ?_
    refine V_icmp_ne (pc := 21) X 27 dX10_type_21 (by decide) ⟨by omega, by omega⟩ ⟨by omega, by omega⟩ (fun c_21 => ?_) (fun c_21 => ?_)
    · skip
      refine V_aload_n (pc := 27) X dX10_type_27 rfl (by first | decide | omega | assumption) ?_
      refine V_gz (pc := 28) X dX10_type_28 f_RX10_48 (by first | rfl | assumption | (simp only [*]; done) | omega) 15 rfl (show _ = (100 : Int) from by first | exact rb15 | ((repeat (first | rw [z_st_at] | rw [z_st_slot _ (by decide)] | rw [z_st_cell _ (by decide)] | rw [z_rw_ne _ _ (by decide)] | rw [r_rem_s (by decide)] | rw [r_rem_c (by decide) (by decide)] | rw [r_cp_ne (by decide)])); exact rb15)) ?_
      refine V_aload_n (pc := 31) X dX10_type_31 rfl (by first | decide | omega | assumption) ?_
      refine V_gz (pc := 32) X dX10_type_32 f_RX10_85 (by first | rfl | assumption | (simp only [*]; done) | omega) 16 rfl rfl ?_
      refine V_iload_n (pc := 35) X dX10_type_35 rfl ?_
      refine V_iast (pc := 36) X dX10_type_36 (by first | rfl | assumption | (simp only [*]; done) | omega) (by omega) (by omega) (by decide) ?_
      refine V_aload_n (pc := 37) X dX10_type_37 rfl (by first | decide | omega | assumption) ?_
      refine V_dup (pc := 38) X dX10_type_38 (Nat.ne_of_beq_eq_false rfl) ?_
      refine V_gz (pc := 39) X dX10_type_39 f_RX10_85 (by first | rfl | assumption | (simp only [*]; done) | omega) 16 rfl (show _ = h 89 16 from by first | rfl | (repeat (first | rw [z_st_at] | rw [z_st_slot _ (by decide)] | rw [z_st_cell _ (by decide)] | rw [z_rw_ne _ _ (by decide)] | rw [r_rem_s (by decide)] | rw [r_rem_c (by decide) (by decide)] | rw [r_cp_ne (by decide)]))) ?_
      refine V_iconst (pc := 42) X dX10_type_42 ?_
      refine V_iadd (pc := 43) X dX10_type_43 ?_
      refine V_pz (pc := 44) X dX10_type_44 f_RX10_85 (by first | rfl | assumption | (simp only [*]; done) | omega) (fun b => z_fitI b _) 16 rfl ?_
      refine V_aload_n (pc := 47) X dX10_type_47 rfl (by first | decide | omega | assumption) ?_
      refine V_gz (pc := 48) X dX10_type_48 f_RX10_85 (by first | rfl | assumption | (simp only [*]; done) | omega) 16 rfl (show _ = h 89 16 + 1 from by first | rfl | (repeat (first | rw [z_st_at] | rw [z_st_slot _ (by decide)] | rw [z_st_cell _ (by decide)] | rw [z_rw_ne _ _ (by decide)] | rw [r_rem_s (by decide)] | rw [r_rem_c (by decide) (by decide)] | rw [r_cp_ne (by decide)]))) ?_
      refine V_iret (st := []) (pc := 51) X hQ dX10_type_51 rfl rfl ?_
      exact Or.inr ⟨by omega, Or.inr ⟨by omega, rfl, rfl⟩⟩
    · skip
      refine V_bipush (pc := 24) X dX10_type_24 (by decide) ?_
      refine V_iret (st := []) (pc := 26) X hQ dX10_type_26 rfl rfl ?_
      exact Or.inr ⟨by omega, Or.inl ⟨by omega, rfl, rfl⟩⟩
  · skip
    have q1 := of_decide_eq_false c_9
    refine V_iconst (pc := 12) X dX10_type_12 ?_
    refine V_iret (st := []) (pc := 13) X hQ dX10_type_13 rfl rfl ?_
    exact Or.inl ⟨by omega, rfl, rfl⟩
set_option maxHeartbeats 4000000 in
set_option maxRecDepth 100000 in
theorem ct_X10_clear {h : z_H} (hO : r_Ob h) : z_Ct mX10_clear 107 [(2, 89)] h (z_ans (0, h 89 16) (z_st h 89 16 0)) := by
  refine z_mk (L := [(2, 89), (9, 0)]) oX10_clear.2.2.2.2 (Nat.le_of_ble_eq_true rfl) rfl ?_
  intro Γ X hQ
  obtain ⟨rb2, rb3, rb5, rb6, rb7, rb9, rb10, rb11, rb12, rb13, rb15, rb25, rb26, rb30, rb31, rb32, rb33⟩ := id hO
  refine V_aload_n (pc := 0) X dX10_clear_0 rfl (by first | decide | omega | assumption) ?_
  refine V_gz (pc := 1) X dX10_clear_1 f_RX10_85 (by first | rfl | assumption | (simp only [*]; done) | omega) 16 rfl rfl ?_
  refine V_istore_n (pc := 4) X dX10_clear_4 (by exact Nat.le_of_ble_eq_true rfl) rfl ?_
  refine V_aload_n (pc := 5) X dX10_clear_5 rfl (by first | decide | omega | assumption) ?_
  refine V_iconst (pc := 6) X dX10_clear_6 ?_
  refine V_pz (pc := 7) X dX10_clear_7 f_RX10_85 (by first | rfl | assumption | (simp only [*]; done) | omega) (fun b => z_fitI b _) 16 rfl ?_
  refine V_iload_n (pc := 10) X dX10_clear_10 rfl ?_
  refine V_iret (st := []) (pc := 11) X hQ dX10_clear_11 rfl rfl ?_
  exact ⟨rfl, rfl⟩
set_option maxHeartbeats 4000000 in
set_option maxRecDepth 100000 in
theorem ct_X10_count {h : z_H} {w : Int} (hw9 : z_R w) : z_Ct mX10_count 107 [(2, 89), (0, w)] h (z_pure (0, r_countF h w) h) := by
  refine z_mk (L := [(2, 89), (0, w)]) oX10_count.2.2.2.2 (Nat.le_of_ble_eq_true rfl) rfl ?_
  intro Γ X hQ
  obtain ⟨hwa, hwb⟩ := hw9
  refine V_iload_n (pc := 0) X dX10_count_0 rfl ?_
  rcases (show w = 0 ∨ w = 1 ∨ w = 2 ∨ w = 3 ∨ w = 4 ∨ w = 5 ∨ (w < 0 ∨ 5 < w) by omega) with e_sw | e_sw | e_sw | e_sw | e_sw | e_sw | e_sw
  · skip
    refine V_tswIn (pc := 1) X 40 dX10_count_1 e_sw ⟨by decide, by decide⟩ (by decide) (by decide) rfl (by decide) ?_
    refine V_aload_n (pc := 40) X dX10_count_40 rfl (by first | decide | omega | assumption) ?_
    refine V_gz (pc := 41) X dX10_count_41 f_RX10_7 (by first | rfl | assumption | (simp only [*]; done) | omega) 0 rfl rfl ?_
    refine V_iret (st := []) (pc := 44) X hQ dX10_count_44 rfl rfl ?_
    exact z_pi (by unfold r_countF; simp [*])
  · skip
    refine V_tswIn (pc := 1) X 45 dX10_count_1 e_sw ⟨by decide, by decide⟩ (by decide) (by decide) rfl (by decide) ?_
    refine V_aload_n (pc := 45) X dX10_count_45 rfl (by first | decide | omega | assumption) ?_
    refine V_gz (pc := 46) X dX10_count_46 f_RX10_13 (by first | rfl | assumption | (simp only [*]; done) | omega) 1 rfl rfl ?_
    refine V_iret (st := []) (pc := 49) X hQ dX10_count_49 rfl rfl ?_
    exact z_pi (by unfold r_countF; simp [*])
  · skip
    refine V_tswIn (pc := 1) X 50 dX10_count_1 e_sw ⟨by decide, by decide⟩ (by decide) (by decide) rfl (by decide) ?_
    refine V_aload_n (pc := 50) X dX10_count_50 rfl (by first | decide | omega | assumption) ?_
    refine V_gz (pc := 51) X dX10_count_51 f_RX10_159 (by first | rfl | assumption | (simp only [*]; done) | omega) 4 rfl rfl ?_
    refine V_iret (st := []) (pc := 54) X hQ dX10_count_54 rfl rfl ?_
    exact z_pi (by unfold r_countF; simp [*])
  · skip
    refine V_tswIn (pc := 1) X 55 dX10_count_1 e_sw ⟨by decide, by decide⟩ (by decide) (by decide) rfl (by decide) ?_
    refine V_aload_n (pc := 55) X dX10_count_55 rfl (by first | decide | omega | assumption) ?_
    refine V_gz (pc := 56) X dX10_count_56 f_RX10_76 (by first | rfl | assumption | (simp only [*]; done) | omega) 14 rfl rfl ?_
    refine V_iret (st := []) (pc := 59) X hQ dX10_count_59 rfl rfl ?_
    exact z_pi (by unfold r_countF; simp [*])
  · skip
    refine V_tswIn (pc := 1) X 60 dX10_count_1 e_sw ⟨by decide, by decide⟩ (by decide) (by decide) rfl (by decide) ?_
    refine V_aload_n (pc := 60) X dX10_count_60 rfl (by first | decide | omega | assumption) ?_
    refine V_gz (pc := 61) X dX10_count_61 f_RX10_73 (by first | rfl | assumption | (simp only [*]; done) | omega) 8 rfl rfl ?_
    refine V_iret (st := []) (pc := 64) X hQ dX10_count_64 rfl rfl ?_
    exact z_pi (by unfold r_countF; simp [*])
  · skip
    refine V_tswIn (pc := 1) X 65 dX10_count_1 e_sw ⟨by decide, by decide⟩ (by decide) (by decide) rfl (by decide) ?_
    refine V_aload_n (pc := 65) X dX10_count_65 rfl (by first | decide | omega | assumption) ?_
    refine V_gz (pc := 66) X dX10_count_66 f_RX10_85 (by first | rfl | assumption | (simp only [*]; done) | omega) 16 rfl rfl ?_
    refine V_iret (st := []) (pc := 69) X hQ dX10_count_69 rfl rfl ?_
    exact z_pi (by unfold r_countF; simp [*])
  · skip
    refine V_tswOut (pc := 1) X 70 dX10_count_1 ⟨by omega, by omega⟩ e_sw (by decide) ?_
    refine V_iconst (pc := 70) X dX10_count_70 ?_
    refine V_iret (st := []) (pc := 71) X hQ dX10_count_71 rfl rfl ?_
    exact z_pi (by unfold r_countF; rw [if_neg (by omega), if_neg (by omega), if_neg (by omega), if_neg (by omega), if_neg (by omega), if_neg (by omega)])
set_option maxHeartbeats 4000000 in
set_option maxRecDepth 100000 in
theorem ct_X10_trace {h : z_H} : z_Ct mX10_trace 107 [(2, 89)] h (z_pure (1, h 89 17) h) := by
  refine z_mk (L := [(2, 89)]) oX10_trace.2.2.2.2 (Nat.le_of_ble_eq_true rfl) rfl ?_
  intro Γ X hQ
  refine V_aload_n (pc := 0) X dX10_trace_0 rfl (by first | decide | omega | assumption) ?_
  refine V_gz (pc := 1) X dX10_trace_1 f_RX10_285 (by first | rfl | assumption | (simp only [*]; done) | omega) 17 rfl rfl ?_
  refine V_lret (st := []) (pc := 4) X hQ dX10_trace_4 rfl rfl ?_
  exact ⟨rfl, rfl⟩
set_option maxHeartbeats 4000000 in
set_option maxRecDepth 100000 in
theorem ct_X10_saw {h : z_H} (hO : r_Ob h) (hG : r_Sg h) {x y k c : Int} (hx : z_R x) (hy : z_R y) (hk : z_R k) (hc : z_R c) : z_Ct mX10_saw 107 [(2, 89), (0, x), (0, y), (0, k), (0, c)] h (fun r h2 => (¬ (c_tile x y = true ∧ c_hour k = true ∧ c_hour c = true) ∧ r = some (0, -1) ∧ h2 = h) ∨ ((c_tile x y = true ∧ c_hour k = true ∧ c_hour c = true) ∧ ((¬ h 89 14 < 6 ∧ r = some (0, -3) ∧ h2 = h) ∨ (h 89 14 < 6 ∧ r = some (0, h 89 14 + 1) ∧ h2 = r_sawH h x y k c)))) := by
  refine z_mk (L := [(2, 89), (0, x), (0, y), (0, k), (0, c)]) oX10_saw.2.2.2.2 (Nat.le_of_ble_eq_true rfl) rfl ?_
  intro Γ X hQ
  obtain ⟨rb2, rb3, rb5, rb6, rb7, rb9, rb10, rb11, rb12, rb13, rb15, rb25, rb26, rb30, rb31, rb32, rb33⟩ := id hO
  obtain ⟨⟨sg1, sg2⟩, hsg⟩ := id hG
  obtain ⟨hx1, hx2⟩ := hx
  obtain ⟨hy1, hy2⟩ := hy
  obtain ⟨hk1, hk2⟩ := hk
  obtain ⟨hc1, hc2⟩ := hc
  refine V_iload_n (pc := 0) X dX10_saw_0 rfl ?_
  refine V_iload_n (pc := 1) X dX10_saw_1 rfl ?_
  refine V_FS (pc := 2) X dX10_saw_2 oX10_isTile l_RX10_237 sX10_isTile ⟨Nat.le_of_ble_eq_true rfl, Nat.le_of_ble_eq_true rfl⟩ ⟨rfl, rfl⟩ ⟨Nat.le_of_ble_eq_true rfl, Nat.le_of_ble_eq_true rfl⟩ (ct_X10_isTile ⟨by omega, by omega⟩ ⟨by omega, by omega⟩) rfl (by rfl) (by exact Nat.le_of_ble_eq_true rfl) ?_
  refine V_bif_eq (pc := 5) X 23 dX10_saw_5 (by decide)  (fun c_5 => ?_) (fun c_5 => ?_)
  · skip
    refine V_iconst (pc := 23) X dX10_saw_23 ?_
    refine V_iret (st := []) (pc := 24) X hQ dX10_saw_24 rfl rfl ?_
    exact Or.inl ⟨by intro g; obtain ⟨g1, g2, g3⟩ := g; first | (rw [c_5] at g1; exact absurd g1 (by decide)) | (rw [c_12] at g2; exact absurd g2 (by decide)) | (rw [c_20] at g3; exact absurd g3 (by decide)), rfl, rfl⟩
  · skip
    refine V_iload_n (pc := 8) X dX10_saw_8 rfl ?_
    refine V_FS (pc := 9) X dX10_saw_9 oX10_isHour l_RX10_240 sX10_isHour ⟨Nat.le_of_ble_eq_true rfl, Nat.le_of_ble_eq_true rfl⟩ ⟨rfl, rfl⟩ ⟨Nat.le_of_ble_eq_true rfl, Nat.le_of_ble_eq_true rfl⟩ (ct_X10_isHour ⟨by omega, by omega⟩) rfl (by rfl) (by exact Nat.le_of_ble_eq_true rfl) ?_
    refine V_bif_eq (pc := 12) X 23 dX10_saw_12 (by decide)  (fun c_12 => ?_) (fun c_12 => ?_)
    · skip
      refine V_iconst (pc := 23) X dX10_saw_23 ?_
      refine V_iret (st := []) (pc := 24) X hQ dX10_saw_24 rfl rfl ?_
      exact Or.inl ⟨by intro g; obtain ⟨g1, g2, g3⟩ := g; first | (rw [c_5] at g1; exact absurd g1 (by decide)) | (rw [c_12] at g2; exact absurd g2 (by decide)) | (rw [c_20] at g3; exact absurd g3 (by decide)), rfl, rfl⟩
    · skip
      refine V_iload (pc := 15) X dX10_saw_15 rfl ?_
      refine V_FS (pc := 17) X dX10_saw_17 oX10_isColour l_RX10_243 sX10_isColour ⟨Nat.le_of_ble_eq_true rfl, Nat.le_of_ble_eq_true rfl⟩ ⟨rfl, rfl⟩ ⟨Nat.le_of_ble_eq_true rfl, Nat.le_of_ble_eq_true rfl⟩ (ct_X10_isColour ⟨by omega, by omega⟩) rfl (by rfl) (by exact Nat.le_of_ble_eq_true rfl) ?_
      refine V_bif_ne (pc := 20) X 25 dX10_saw_20 (by decide)  (fun c_20 => ?_) (fun c_20 => ?_)
      · skip
        refine V_aload_n (pc := 25) X dX10_saw_25 rfl (by first | decide | omega | assumption) ?_
        refine V_gz (pc := 26) X dX10_saw_26 f_RX10_76 (by first | rfl | assumption | (simp only [*]; done) | omega) 14 rfl rfl ?_
        refine V_bipush (pc := 29) X dX10_saw_29 (by decide) ?_
        refine V_icmp_ne (pc := 31) X 37 dX10_saw_31 (by decide) ⟨by omega, by omega⟩ ⟨by omega, by omega⟩ (fun c_31 => ?_) (fun c_31 => ?_)
        · skip
          refine V_aload_n (pc := 37) X dX10_saw_37 rfl (by first | decide | omega | assumption) ?_
          refine V_gz (pc := 38) X dX10_saw_38 f_RX10_45 (by first | rfl | assumption | (simp only [*]; done) | omega) 13 rfl (show _ = (99 : Int) from by first | exact rb13 | ((repeat (first | rw [z_st_at] | rw [z_st_slot _ (by decide)] | rw [z_st_cell _ (by decide)] | rw [z_rw_ne _ _ (by decide)] | rw [r_rem_s (by decide)] | rw [r_rem_c (by decide) (by decide)] | rw [r_cp_ne (by decide)])); exact rb13)) ?_
          refine V_iconst (pc := 41) X dX10_saw_41 ?_
          refine V_aload_n (pc := 42) X dX10_saw_42 rfl (by first | decide | omega | assumption) ?_
          refine V_gz (pc := 43) X dX10_saw_43 f_RX10_76 (by first | rfl | assumption | (simp only [*]; done) | omega) 14 rfl rfl ?_
          refine V_imul (pc := 46) X dX10_saw_46 ?_
          refine V_iload_n (pc := 47) X dX10_saw_47 rfl ?_
          refine V_iast (pc := 48) X dX10_saw_48 (by first | rfl | assumption | (simp only [*]; done) | omega) (by omega) (by omega) (by decide) ?_
          refine V_aload_n (pc := 49) X dX10_saw_49 rfl (by first | decide | omega | assumption) ?_
          refine V_gz (pc := 50) X dX10_saw_50 f_RX10_45 (by first | rfl | assumption | (simp only [*]; done) | omega) 13 rfl (show _ = (99 : Int) from by first | exact rb13 | ((repeat (first | rw [z_st_at] | rw [z_st_slot _ (by decide)] | rw [z_st_cell _ (by decide)] | rw [z_rw_ne _ _ (by decide)] | rw [r_rem_s (by decide)] | rw [r_rem_c (by decide) (by decide)] | rw [r_cp_ne (by decide)])); exact rb13)) ?_
          refine V_iconst (pc := 53) X dX10_saw_53 ?_
          refine V_aload_n (pc := 54) X dX10_saw_54 rfl (by first | decide | omega | assumption) ?_
          refine V_gz (pc := 55) X dX10_saw_55 f_RX10_76 (by first | rfl | assumption | (simp only [*]; done) | omega) 14 rfl (show _ = h 89 14 from by first | rfl | (repeat (first | rw [z_st_at] | rw [z_st_slot _ (by decide)] | rw [z_st_cell _ (by decide)] | rw [z_rw_ne _ _ (by decide)] | rw [r_rem_s (by decide)] | rw [r_rem_c (by decide) (by decide)] | rw [r_cp_ne (by decide)]))) ?_
          refine V_imul (pc := 58) X dX10_saw_58 ?_
          refine V_iconst (pc := 59) X dX10_saw_59 ?_
          refine V_iadd (pc := 60) X dX10_saw_60 ?_
          refine V_iload_n (pc := 61) X dX10_saw_61 rfl ?_
          refine V_iast (pc := 62) X dX10_saw_62 (by first | rfl | assumption | (simp only [*]; done) | omega) (by omega) (by omega) (by decide) ?_
          refine V_aload_n (pc := 63) X dX10_saw_63 rfl (by first | decide | omega | assumption) ?_
          refine V_gz (pc := 64) X dX10_saw_64 f_RX10_45 (by first | rfl | assumption | (simp only [*]; done) | omega) 13 rfl (show _ = (99 : Int) from by first | exact rb13 | ((repeat (first | rw [z_st_at] | rw [z_st_slot _ (by decide)] | rw [z_st_cell _ (by decide)] | rw [z_rw_ne _ _ (by decide)] | rw [r_rem_s (by decide)] | rw [r_rem_c (by decide) (by decide)] | rw [r_cp_ne (by decide)])); exact rb13)) ?_
          refine V_iconst (pc := 67) X dX10_saw_67 ?_
          refine V_aload_n (pc := 68) X dX10_saw_68 rfl (by first | decide | omega | assumption) ?_
          refine V_gz (pc := 69) X dX10_saw_69 f_RX10_76 (by first | rfl | assumption | (simp only [*]; done) | omega) 14 rfl (show _ = h 89 14 from by first | rfl | (repeat (first | rw [z_st_at] | rw [z_st_slot _ (by decide)] | rw [z_st_cell _ (by decide)] | rw [z_rw_ne _ _ (by decide)] | rw [r_rem_s (by decide)] | rw [r_rem_c (by decide) (by decide)] | rw [r_cp_ne (by decide)]))) ?_
          refine V_imul (pc := 72) X dX10_saw_72 ?_
          refine V_iconst (pc := 73) X dX10_saw_73 ?_
          refine V_iadd (pc := 74) X dX10_saw_74 ?_
          refine V_iload_n (pc := 75) X dX10_saw_75 rfl ?_
          refine V_iast (pc := 76) X dX10_saw_76 (by first | rfl | assumption | (simp only [*]; done) | omega) (by omega) (by omega) (by decide) ?_
          refine V_aload_n (pc := 77) X dX10_saw_77 rfl (by first | decide | omega | assumption) ?_
          refine V_gz (pc := 78) X dX10_saw_78 f_RX10_45 (by first | rfl | assumption | (simp only [*]; done) | omega) 13 rfl (show _ = (99 : Int) from by first | exact rb13 | ((repeat (first | rw [z_st_at] | rw [z_st_slot _ (by decide)] | rw [z_st_cell _ (by decide)] | rw [z_rw_ne _ _ (by decide)] | rw [r_rem_s (by decide)] | rw [r_rem_c (by decide) (by decide)] | rw [r_cp_ne (by decide)])); exact rb13)) ?_
          refine V_iconst (pc := 81) X dX10_saw_81 ?_
          refine V_aload_n (pc := 82) X dX10_saw_82 rfl (by first | decide | omega | assumption) ?_
          refine V_gz (pc := 83) X dX10_saw_83 f_RX10_76 (by first | rfl | assumption | (simp only [*]; done) | omega) 14 rfl (show _ = h 89 14 from by first | rfl | (repeat (first | rw [z_st_at] | rw [z_st_slot _ (by decide)] | rw [z_st_cell _ (by decide)] | rw [z_rw_ne _ _ (by decide)] | rw [r_rem_s (by decide)] | rw [r_rem_c (by decide) (by decide)] | rw [r_cp_ne (by decide)]))) ?_
          refine V_imul (pc := 86) X dX10_saw_86 ?_
          refine V_iconst (pc := 87) X dX10_saw_87 ?_
          refine V_iadd (pc := 88) X dX10_saw_88 ?_
          refine V_iload (pc := 89) X dX10_saw_89 rfl ?_
          refine V_iast (pc := 91) X dX10_saw_91 (by first | rfl | assumption | (simp only [*]; done) | omega) (by omega) (by omega) (by decide) ?_
          refine V_aload_n (pc := 92) X dX10_saw_92 rfl (by first | decide | omega | assumption) ?_
          refine V_dup (pc := 93) X dX10_saw_93 (Nat.ne_of_beq_eq_false rfl) ?_
          refine V_gz (pc := 94) X dX10_saw_94 f_RX10_76 (by first | rfl | assumption | (simp only [*]; done) | omega) 14 rfl (show _ = h 89 14 from by first | rfl | (repeat (first | rw [z_st_at] | rw [z_st_slot _ (by decide)] | rw [z_st_cell _ (by decide)] | rw [z_rw_ne _ _ (by decide)] | rw [r_rem_s (by decide)] | rw [r_rem_c (by decide) (by decide)] | rw [r_cp_ne (by decide)]))) ?_
          refine V_iconst (pc := 97) X dX10_saw_97 ?_
          refine V_iadd (pc := 98) X dX10_saw_98 ?_
          refine V_pz (pc := 99) X dX10_saw_99 f_RX10_76 (by first | rfl | assumption | (simp only [*]; done) | omega) (fun b => z_fitI b _) 14 rfl ?_
          refine V_aload_n (pc := 102) X dX10_saw_102 rfl (by first | decide | omega | assumption) ?_
          refine V_gz (pc := 103) X dX10_saw_103 f_RX10_76 (by first | rfl | assumption | (simp only [*]; done) | omega) 14 rfl (show _ = h 89 14 + 1 from by first | rfl | (repeat (first | rw [z_st_at] | rw [z_st_slot _ (by decide)] | rw [z_st_cell _ (by decide)] | rw [z_rw_ne _ _ (by decide)] | rw [r_rem_s (by decide)] | rw [r_rem_c (by decide) (by decide)] | rw [r_cp_ne (by decide)]))) ?_
          refine V_iret (st := []) (pc := 106) X hQ dX10_saw_106 rfl rfl ?_
          exact Or.inr ⟨⟨c_5, c_12, c_20⟩, Or.inr ⟨by omega, rfl, rfl⟩⟩
        · skip
          refine V_bipush (pc := 34) X dX10_saw_34 (by decide) ?_
          refine V_iret (st := []) (pc := 36) X hQ dX10_saw_36 rfl rfl ?_
          exact Or.inr ⟨⟨c_5, c_12, c_20⟩, Or.inl ⟨by omega, rfl, rfl⟩⟩
      · skip
        refine V_iconst (pc := 23) X dX10_saw_23 ?_
        refine V_iret (st := []) (pc := 24) X hQ dX10_saw_24 rfl rfl ?_
        exact Or.inl ⟨by intro g; obtain ⟨g1, g2, g3⟩ := g; first | (rw [c_5] at g1; exact absurd g1 (by decide)) | (rw [c_12] at g2; exact absurd g2 (by decide)) | (rw [c_20] at g3; exact absurd g3 (by decide)), rfl, rfl⟩
set_option maxHeartbeats 4000000 in
set_option maxRecDepth 100000 in
theorem ct_X10_forget {h : z_H} (hO : r_Ob h) : z_Ct mX10_forget 107 [(2, 89)] h (z_ans (0, h 89 14) (z_st h 89 14 0)) := by
  refine z_mk (L := [(2, 89), (9, 0)]) oX10_forget.2.2.2.2 (Nat.le_of_ble_eq_true rfl) rfl ?_
  intro Γ X hQ
  obtain ⟨rb2, rb3, rb5, rb6, rb7, rb9, rb10, rb11, rb12, rb13, rb15, rb25, rb26, rb30, rb31, rb32, rb33⟩ := id hO
  refine V_aload_n (pc := 0) X dX10_forget_0 rfl (by first | decide | omega | assumption) ?_
  refine V_gz (pc := 1) X dX10_forget_1 f_RX10_76 (by first | rfl | assumption | (simp only [*]; done) | omega) 14 rfl rfl ?_
  refine V_istore_n (pc := 4) X dX10_forget_4 (by exact Nat.le_of_ble_eq_true rfl) rfl ?_
  refine V_aload_n (pc := 5) X dX10_forget_5 rfl (by first | decide | omega | assumption) ?_
  refine V_iconst (pc := 6) X dX10_forget_6 ?_
  refine V_pz (pc := 7) X dX10_forget_7 f_RX10_76 (by first | rfl | assumption | (simp only [*]; done) | omega) (fun b => z_fitI b _) 14 rfl ?_
  refine V_iload_n (pc := 10) X dX10_forget_10 rfl ?_
  refine V_iret (st := []) (pc := 11) X hQ dX10_forget_11 rfl rfl ?_
  exact ⟨rfl, rfl⟩
set_option maxHeartbeats 4000000 in
set_option maxRecDepth 100000 in
theorem ct_X10_isSo {h : z_H} (hO : r_Ob h) (hP : r_Pl h) {c : Int} (kc : z_kd 107 c = (1, 11)) (hT : r_Mt (h c)) (hG : r_Sg h) : z_Ct mX10_isSo 107 [(2, 89), (2, c)] h (z_pure (0, z_b (r_so h (h c))) h) := by
  refine z_mk (L := [(2, 89), (2, c), (9, 0), (9, 0)]) oX10_isSo.2.2.2.2 (Nat.le_of_ble_eq_true rfl) rfl ?_
  intro Γ X hQ
  obtain ⟨rb2, rb3, rb5, rb6, rb7, rb9, rb10, rb11, rb12, rb13, rb15, rb25, rb26, rb30, rb31, rb32, rb33⟩ := id hO
  obtain ⟨⟨hw1, hw2⟩, ⟨hh1, hh2⟩, ⟨hs1, hs2⟩, hgl, hco⟩ := id hP
  obtain ⟨tw, ⟨tb1, tb2⟩, ⟨tm1, tm2⟩, ⟨ts1, ts2⟩⟩ := id hT
  have kc0 := (z_kd_spec kc (Nat.ne_of_beq_eq_false rfl)).1
  obtain ⟨⟨sg1, sg2⟩, hsg⟩ := id hG
  refine V_iconst (pc := 0) X dX10_isSo_0 ?_
  refine V_istore_n (pc := 1) X dX10_isSo_1 (by exact Nat.le_of_ble_eq_true rfl) rfl ?_
  refine V_iconst (pc := 2) X dX10_isSo_2 ?_
  refine V_istore_n (pc := 3) X dX10_isSo_3 (by exact Nat.le_of_ble_eq_true rfl) rfl ?_
  have lp_4 : ∀ (m : Nat) (i : Nat), (h 89 14).toNat - i < m → i ≤ (h 89 14).toNat → z_V Γ (107, 0, 0) 4 [(2, 89), (2, c), (0, z_b (z_all (r_soP h (h c)) i)), (0, 4 * (i : Int))] [] h := by
    intro m
    induction m with
    | zero => intro i hm; exact absurd hm (Nat.not_lt_zero _)
    | succ m ih_4 =>
      intro i hm hi1
      have hsi := hsg (i : Int) (by omega)
      refine V_iload_n (pc := 4) X dX10_isSo_4 rfl ?_
      refine V_iconst (pc := 5) X dX10_isSo_5 ?_
      refine V_aload_n (pc := 6) X dX10_isSo_6 rfl (by first | decide | omega | assumption) ?_
      refine V_gz (pc := 7) X dX10_isSo_7 f_RX10_76 (by first | rfl | assumption | (simp only [*]; done) | omega) 14 rfl rfl ?_
      refine V_imul (pc := 10) X dX10_isSo_10 ?_
      refine V_icmp_ge (pc := 11) X 68 dX10_isSo_11 (by decide) ⟨by omega, by omega⟩ ⟨by omega, by omega⟩ (fun c_11 => ?_) (fun c_11 => ?_)
      · skip
        refine V_iload_n (pc := 68) X dX10_isSo_68 rfl ?_
        refine V_zret (st := []) (pc := 69) X hQ dX10_isSo_69 rfl (z_b_01 _) rfl ?_
        exact z_pi (by unfold r_so; rw [show i = (h 89 14).toNat by omega])
      · skip
        obtain ⟨⟨a1, a2⟩, ⟨b1, b2⟩, ⟨e1, e2⟩, ⟨f1, f2⟩⟩ := hsi (by omega)
        refine V_iload_n (pc := 14) X dX10_isSo_14 rfl ?_
        refine V_bif_eq (pc := 15) X 60 dX10_isSo_15 (by decide)  (fun c_15 => ?_) (fun c_15 => ?_)
        · skip
          refine V_iconst (pc := 60) X dX10_isSo_60 ?_
          refine V_istore_n (pc := 61) X dX10_isSo_61 (by exact Nat.le_of_ble_eq_true rfl) rfl ?_
          refine V_iinc (pc := 62) X dX10_isSo_62 rfl rfl ?_
          refine V_goto (pc := 65) X 4 dX10_isSo_65 (by decide) ?_
          refine V_loc ?_ (ih_4 (i + 1) (by omega) (by omega))
          show [_, _, _, _] = [_, _, _, _]
          rw [z_all, show 4 * ((i + 1 : Nat) : Int) = 4 * (i : Int) + 4 by omega]
          first
            | (rw [c_15]; rfl)
            | (rw [c_15, show r_soP h (h c) (i : Int) = true from decide_eq_true c_53]; rfl)
            | (rw [c_15, show r_soP h (h c) (i : Int) = false from decide_eq_false c_53]; rfl)
        · skip
          refine V_aload_n (pc := 18) X dX10_isSo_18 rfl (by first | decide | omega | assumption) ?_
          refine V_aload_n (pc := 19) X dX10_isSo_19 rfl (by first | decide | omega | assumption) ?_
          refine V_aload_n (pc := 20) X dX10_isSo_20 rfl (by first | decide | omega | assumption) ?_
          refine V_gz (pc := 21) X dX10_isSo_21 f_RX10_45 (by first | rfl | assumption | (simp only [*]; done) | omega) 13 rfl (show _ = (99 : Int) from by first | exact rb13 | ((repeat (first | rw [z_st_at] | rw [z_st_slot _ (by decide)] | rw [z_st_cell _ (by decide)] | rw [z_rw_ne _ _ (by decide)] | rw [r_rem_s (by decide)] | rw [r_rem_c (by decide) (by decide)] | rw [r_cp_ne (by decide)])); exact rb13)) ?_
          refine V_iload_n (pc := 24) X dX10_isSo_24 rfl ?_
          refine V_iald (pc := 25) X dX10_isSo_25 (by first | rfl | assumption | (simp only [*]; done) | omega) (by omega) (by omega) (by decide) ?_
          refine V_aload_n (pc := 26) X dX10_isSo_26 rfl (by first | decide | omega | assumption) ?_
          refine V_gz (pc := 27) X dX10_isSo_27 f_RX10_45 (by first | rfl | assumption | (simp only [*]; done) | omega) 13 rfl (show _ = (99 : Int) from by first | exact rb13 | ((repeat (first | rw [z_st_at] | rw [z_st_slot _ (by decide)] | rw [z_st_cell _ (by decide)] | rw [z_rw_ne _ _ (by decide)] | rw [r_rem_s (by decide)] | rw [r_rem_c (by decide) (by decide)] | rw [r_cp_ne (by decide)])); exact rb13)) ?_
          refine V_iload_n (pc := 30) X dX10_isSo_30 rfl ?_
          refine V_iconst (pc := 31) X dX10_isSo_31 ?_
          refine V_iadd (pc := 32) X dX10_isSo_32 ?_
          refine V_iald (pc := 33) X dX10_isSo_33 (by first | rfl | assumption | (simp only [*]; done) | omega) (by omega) (by omega) (by decide) ?_
          refine V_aload_n (pc := 34) X dX10_isSo_34 rfl (by first | decide | omega | assumption) ?_
          refine V_gz (pc := 35) X dX10_isSo_35 f_RX10_45 (by first | rfl | assumption | (simp only [*]; done) | omega) 13 rfl (show _ = (99 : Int) from by first | exact rb13 | ((repeat (first | rw [z_st_at] | rw [z_st_slot _ (by decide)] | rw [z_st_cell _ (by decide)] | rw [z_rw_ne _ _ (by decide)] | rw [r_rem_s (by decide)] | rw [r_rem_c (by decide) (by decide)] | rw [r_cp_ne (by decide)])); exact rb13)) ?_
          refine V_iload_n (pc := 38) X dX10_isSo_38 rfl ?_
          refine V_iconst (pc := 39) X dX10_isSo_39 ?_
          refine V_iadd (pc := 40) X dX10_isSo_40 ?_
          refine V_iald (pc := 41) X dX10_isSo_41 (by first | rfl | assumption | (simp only [*]; done) | omega) (by omega) (by omega) (by decide) ?_
          refine V_FV (pc := 42) X dX10_isSo_42 oX10_lightOn l_RX10_193 eX10_lightOn vX10_lightOn ⟨Nat.le_of_ble_eq_true rfl, Nat.le_of_ble_eq_true rfl⟩ ⟨rfl, rfl⟩ ⟨Nat.le_of_ble_eq_true rfl, Nat.le_of_ble_eq_true rfl⟩ (ct_X10_lightOn hO hP kc hT (by omega) (by omega) (by omega) (by omega) (by omega) (by omega)) rfl (by first | rfl | assumption | (simp only [*]; done) | omega) (by intro q h; cases h; rfl) rfl (by rfl) (by exact Nat.le_of_ble_eq_true rfl) ?_
          have hli := r_on_rng hP (T := h c) (x := h 99 (4 * (i : Int))) (y := h 99 (4 * (i : Int) + 1)) (k := h 99 (4 * (i : Int) + 2))
          refine V_aload_n (pc := 45) X dX10_isSo_45 rfl (by first | decide | omega | assumption) ?_
          refine V_gz (pc := 46) X dX10_isSo_46 f_RX10_45 (by first | rfl | assumption | (simp only [*]; done) | omega) 13 rfl (show _ = (99 : Int) from by first | exact rb13 | ((repeat (first | rw [z_st_at] | rw [z_st_slot _ (by decide)] | rw [z_st_cell _ (by decide)] | rw [z_rw_ne _ _ (by decide)] | rw [r_rem_s (by decide)] | rw [r_rem_c (by decide) (by decide)] | rw [r_cp_ne (by decide)])); exact rb13)) ?_
          refine V_iload_n (pc := 49) X dX10_isSo_49 rfl ?_
          refine V_iconst (pc := 50) X dX10_isSo_50 ?_
          refine V_iadd (pc := 51) X dX10_isSo_51 ?_
          refine V_iald (pc := 52) X dX10_isSo_52 (by first | rfl | assumption | (simp only [*]; done) | omega) (by omega) (by omega) (by decide) ?_
          refine V_icmp_ne (pc := 53) X 60 dX10_isSo_53 (by decide) ⟨by omega, by omega⟩ ⟨by omega, by omega⟩ (fun c_53 => ?_) (fun c_53 => ?_)
          · skip
            refine V_iconst (pc := 60) X dX10_isSo_60 ?_
            refine V_istore_n (pc := 61) X dX10_isSo_61 (by exact Nat.le_of_ble_eq_true rfl) rfl ?_
            refine V_iinc (pc := 62) X dX10_isSo_62 rfl rfl ?_
            refine V_goto (pc := 65) X 4 dX10_isSo_65 (by decide) ?_
            refine V_loc ?_ (ih_4 (i + 1) (by omega) (by omega))
            show [_, _, _, _] = [_, _, _, _]
            rw [z_all, show 4 * ((i + 1 : Nat) : Int) = 4 * (i : Int) + 4 by omega]
            first
              | (rw [c_15]; rfl)
              | (rw [c_15, show r_soP h (h c) (i : Int) = true from decide_eq_true c_53]; rfl)
              | (rw [c_15, show r_soP h (h c) (i : Int) = false from decide_eq_false c_53]; rfl)
          · skip
            refine V_iconst (pc := 56) X dX10_isSo_56 ?_
            refine V_goto (pc := 57) X 61 dX10_isSo_57 (by decide) ?_
            refine V_istore_n (pc := 61) X dX10_isSo_61 (by exact Nat.le_of_ble_eq_true rfl) rfl ?_
            refine V_iinc (pc := 62) X dX10_isSo_62 rfl rfl ?_
            refine V_goto (pc := 65) X 4 dX10_isSo_65 (by decide) ?_
            refine V_loc ?_ (ih_4 (i + 1) (by omega) (by omega))
            show [_, _, _, _] = [_, _, _, _]
            rw [z_all, show 4 * ((i + 1 : Nat) : Int) = 4 * (i : Int) + 4 by omega]
            first
              | (rw [c_15]; rfl)
              | (rw [c_15, show r_soP h (h c) (i : Int) = true from decide_eq_true c_53]; rfl)
              | (rw [c_15, show r_soP h (h c) (i : Int) = false from decide_eq_false c_53]; rfl)
  exact lp_4 _ 0 (Nat.lt_succ_self _) (Nat.zero_le _)
set_option maxHeartbeats 4000000 in
set_option maxRecDepth 100000 in
theorem ct_X10_layBroken {h : z_H} (hO : r_Ob h) (hP : r_Pl h) (hT : r_Mt (h 92)) {p : Int} (h0 : 0 ≤ p) (h1 : p ≤ 20) : z_Ct mX10_layBroken 107 [(2, 89), (0, p)] h (z_void (r_lb h p)) := by
  refine z_mk (L := [(2, 89), (0, p)]) oX10_layBroken.2.2.2.2 (Nat.le_of_ble_eq_true rfl) rfl ?_
  intro Γ X hQ
  obtain ⟨rb2, rb3, rb5, rb6, rb7, rb9, rb10, rb11, rb12, rb13, rb15, rb25, rb26, rb30, rb31, rb32, rb33⟩ := id hO
  obtain ⟨⟨hw1, hw2⟩, ⟨hh1, hh2⟩, ⟨hs1, hs2⟩, hgl, hco⟩ := id hP
  obtain ⟨tw, ⟨tb1, tb2⟩, ⟨tm1, tm2⟩, ⟨ts1, ts2⟩⟩ := id hT
  have kc : z_kd 107 92 = (1, 11) := rfl
  refine V_aload_n (pc := 0) X dX10_layBroken_0 rfl (by first | decide | omega | assumption) ?_
  refine V_gz (pc := 1) X dX10_layBroken_1 f_RX10_23 (by first | rfl | assumption | (simp only [*]; done) | omega) 5 rfl (show _ = (92 : Int) from by first | exact rb5 | ((repeat (first | rw [z_st_at] | rw [z_st_slot _ (by decide)] | rw [z_st_cell _ (by decide)] | rw [z_rw_ne _ _ (by decide)] | rw [r_rem_s (by decide)] | rw [r_rem_c (by decide) (by decide)] | rw [r_cp_ne (by decide)])); exact rb5)) ?_
  refine V_iconst (pc := 4) X dX10_layBroken_4 ?_
  refine V_aload_n (pc := 5) X dX10_layBroken_5 rfl (by first | decide | omega | assumption) ?_
  refine V_gz (pc := 6) X dX10_layBroken_6 f_RX10_26 (by first | rfl | assumption | (simp only [*]; done) | omega) 6 rfl (show _ = (93 : Int) from by first | exact rb6 | ((repeat (first | rw [z_st_at] | rw [z_st_slot _ (by decide)] | rw [z_st_cell _ (by decide)] | rw [z_rw_ne _ _ (by decide)] | rw [r_rem_s (by decide)] | rw [r_rem_c (by decide) (by decide)] | rw [r_cp_ne (by decide)])); exact rb6)) ?_
  refine V_iconst (pc := 9) X dX10_layBroken_9 ?_
  refine V_bipush (pc := 10) X dX10_layBroken_10 (by decide) ?_
  refine V_CS (pc := 12) X dX10_layBroken_12 oX10_copies l_RX10_162 sX10_copies ⟨Nat.le_of_ble_eq_true rfl, Nat.le_of_ble_eq_true rfl⟩ ⟨rfl, rfl⟩ ⟨Nat.le_of_ble_eq_true rfl, Nat.le_of_ble_eq_true rfl⟩ (ct_X10_copies (NA := 11) (NB := 11) rfl rfl (by decide) (by decide) (by decide) (by decide) (by decide) (by decide) (by decide) (by decide)) rfl (by rfl) (by exact Nat.le_of_ble_eq_true rfl) (fun r h1 hp => ?_)
  obtain ⟨rfl, rfl⟩ := hp
  rw [r_cp_asd]
  refine V_iload_n (pc := 15) X dX10_layBroken_15 rfl ?_
  refine V_bipush (pc := 16) X dX10_layBroken_16 (by decide) ?_
  refine V_icmp_ge (pc := 18) X 29 dX10_layBroken_18 (by decide) ⟨by omega, by omega⟩ ⟨by omega, by omega⟩ (fun c_18 => ?_) (fun c_18 => ?_)
  · skip
    refine V_vret (st := []) (pc := 29) X hQ dX10_layBroken_29 rfl rfl ?_
    exact ⟨rfl, by unfold r_lb r_lbT; first | (rw [if_pos (Int.not_le.mp c_18)]) | (rw [if_neg (Int.not_lt.mpr c_18)])⟩
  · skip
    refine V_aload_n (pc := 21) X dX10_layBroken_21 rfl (by first | decide | omega | assumption) ?_
    refine V_gz (pc := 22) X dX10_layBroken_22 f_RX10_26 (by first | rfl | assumption | (simp only [*]; done) | omega) 6 rfl (show _ = (93 : Int) from by first | exact rb6 | ((repeat (first | rw [z_st_at] | rw [z_st_slot _ (by decide)] | rw [z_st_cell _ (by decide)] | rw [z_rw_ne _ _ (by decide)] | rw [r_rem_s (by decide)] | rw [r_rem_c (by decide) (by decide)] | rw [r_cp_ne (by decide)])); exact rb6)) ?_
    refine V_iload_n (pc := 25) X dX10_layBroken_25 rfl ?_
    refine V_CS (pc := 26) X dX10_layBroken_26 oX10_breaksOn l_RX10_207 sX10_breaksOn ⟨Nat.le_of_ble_eq_true rfl, Nat.le_of_ble_eq_true rfl⟩ ⟨rfl, rfl⟩ ⟨Nat.le_of_ble_eq_true rfl, Nat.le_of_ble_eq_true rfl⟩ (ct_X10_breaksOn rfl (fun q a b => by rw [z_rw_at]; have := (r_asd_mt hT).1 q a b; exact ⟨by omega, by omega⟩) (by omega) (by omega)) rfl (by rfl) (by exact Nat.le_of_ble_eq_true rfl) (fun r h1 hp => ?_)
    obtain ⟨rfl, rfl⟩ := hp
    rw [z_rw_at, z_rw_twice]
    refine V_vret (st := []) (pc := 29) X hQ dX10_layBroken_29 rfl rfl ?_
    exact ⟨rfl, by unfold r_lb r_lbT; first | (rw [if_pos (Int.not_le.mp c_18)]) | (rw [if_neg (Int.not_lt.mpr c_18)])⟩
set_option maxHeartbeats 4000000 in
set_option maxRecDepth 100000 in
theorem ct_X10_mayBe {h : z_H} (hO : r_Ob h) (hP : r_Pl h) (hT : r_Mt (h 92)) {p : Int} (h0 : 0 ≤ p) (h1 : p ≤ 20) : z_Ct mX10_mayBe 107 [(2, 89), (0, p)] h (z_pure (0, z_b (r_may h p)) h) := by
  refine z_mk (L := [(2, 89), (0, p)]) oX10_mayBe.2.2.2.2 (Nat.le_of_ble_eq_true rfl) rfl ?_
  intro Γ X hQ
  obtain ⟨rb2, rb3, rb5, rb6, rb7, rb9, rb10, rb11, rb12, rb13, rb15, rb25, rb26, rb30, rb31, rb32, rb33⟩ := id hO
  obtain ⟨⟨hw1, hw2⟩, ⟨hh1, hh2⟩, ⟨hs1, hs2⟩, hgl, hco⟩ := id hP
  obtain ⟨tw, ⟨tb1, tb2⟩, ⟨tm1, tm2⟩, ⟨ts1, ts2⟩⟩ := id hT
  have kc : z_kd 107 92 = (1, 11) := rfl
  refine V_iload_n (pc := 0) X dX10_mayBe_0 rfl ?_
  refine V_bipush (pc := 1) X dX10_mayBe_1 (by decide) ?_
  refine V_icmp_eq (pc := 3) X 33 dX10_mayBe_3 (by decide) ⟨by omega, by omega⟩ ⟨by omega, by omega⟩ (fun c_3 => ?_) (fun c_3 => ?_)
  · skip
    refine V_iconst (pc := 33) X dX10_mayBe_33 ?_
    refine V_goto (pc := 34) X 38 dX10_mayBe_34 (by decide) ?_
    refine V_zret (st := []) (pc := 38) X hQ dX10_mayBe_38 rfl (by omega) rfl ?_
    exact z_pi (by unfold r_may; first | (rw [decide_eq_true c_3]; rfl) | (rw [decide_eq_false c_3, c_16]; rfl) | (rw [decide_eq_false c_3, c_16, c_30]; rfl))
  · skip
    refine V_aload_n (pc := 6) X dX10_mayBe_6 rfl (by first | decide | omega | assumption) ?_
    refine V_iload_n (pc := 7) X dX10_mayBe_7 rfl ?_
    refine V_iconst (pc := 8) X dX10_mayBe_8 ?_
    refine V_idivN (pc := 9) X dX10_mayBe_9 (by omega) (by omega) (by omega) (by omega) ?_
    refine V_iload_n (pc := 10) X dX10_mayBe_10 rfl ?_
    refine V_iconst (pc := 11) X dX10_mayBe_11 ?_
    refine V_iremN (pc := 12) X dX10_mayBe_12 (by omega) (by omega) (by omega) (by omega) ?_
    refine V_FV (pc := 13) X dX10_mayBe_13 oX10_isPane l_RX10_183 eX10_isPane vX10_isPane ⟨Nat.le_of_ble_eq_true rfl, Nat.le_of_ble_eq_true rfl⟩ ⟨rfl, rfl⟩ ⟨Nat.le_of_ble_eq_true rfl, Nat.le_of_ble_eq_true rfl⟩ (ct_X10_isPane hO hP ⟨by omega, by omega⟩ ⟨by omega, by omega⟩) rfl (by first | rfl | assumption | (simp only [*]; done) | omega) (by intro q h; cases h; rfl) rfl (by rfl) (by exact Nat.le_of_ble_eq_true rfl) ?_
    refine V_bif_eq (pc := 16) X 37 dX10_mayBe_16 (by decide)  (fun c_16 => ?_) (fun c_16 => ?_)
    · skip
      refine V_iconst (pc := 37) X dX10_mayBe_37 ?_
      refine V_zret (st := []) (pc := 38) X hQ dX10_mayBe_38 rfl (by omega) rfl ?_
      exact z_pi (by unfold r_may; first | (rw [decide_eq_true c_3]; rfl) | (rw [decide_eq_false c_3, c_16]; rfl) | (rw [decide_eq_false c_3, c_16, c_30]; rfl))
    · skip
      refine V_aload_n (pc := 19) X dX10_mayBe_19 rfl (by first | decide | omega | assumption) ?_
      refine V_gz (pc := 20) X dX10_mayBe_20 f_RX10_23 (by first | rfl | assumption | (simp only [*]; done) | omega) 5 rfl (show _ = (92 : Int) from by first | exact rb5 | ((repeat (first | rw [z_st_at] | rw [z_st_slot _ (by decide)] | rw [z_st_cell _ (by decide)] | rw [z_rw_ne _ _ (by decide)] | rw [r_rem_s (by decide)] | rw [r_rem_c (by decide) (by decide)] | rw [r_cp_ne (by decide)])); exact rb5)) ?_
      refine V_bipush (pc := 23) X dX10_mayBe_23 (by decide) ?_
      refine V_iald (pc := 25) X dX10_mayBe_25 (by first | rfl | assumption | (simp only [*]; done) | omega) (by omega) (by omega) (by decide) ?_
      refine V_iload_n (pc := 26) X dX10_mayBe_26 rfl ?_
      refine V_FS (pc := 27) X dX10_mayBe_27 oX10_has l_RX10_172 sX10_has ⟨Nat.le_of_ble_eq_true rfl, Nat.le_of_ble_eq_true rfl⟩ ⟨rfl, rfl⟩ ⟨Nat.le_of_ble_eq_true rfl, Nat.le_of_ble_eq_true rfl⟩ (ct_X10_has (by omega) (by omega) (by omega) (by omega)) rfl (by rfl) (by exact Nat.le_of_ble_eq_true rfl) ?_
      refine V_bif_ne (pc := 30) X 37 dX10_mayBe_30 (by decide)  (fun c_30 => ?_) (fun c_30 => ?_)
      · skip
        refine V_iconst (pc := 37) X dX10_mayBe_37 ?_
        refine V_zret (st := []) (pc := 38) X hQ dX10_mayBe_38 rfl (by omega) rfl ?_
        exact z_pi (by unfold r_may; first | (rw [decide_eq_true c_3]; rfl) | (rw [decide_eq_false c_3, c_16]; rfl) | (rw [decide_eq_false c_3, c_16, c_30]; rfl))
      · skip
        refine V_iconst (pc := 33) X dX10_mayBe_33 ?_
        refine V_goto (pc := 34) X 38 dX10_mayBe_34 (by decide) ?_
        refine V_zret (st := []) (pc := 38) X hQ dX10_mayBe_38 rfl (by omega) rfl ?_
        exact z_pi (by unfold r_may; first | (rw [decide_eq_true c_3]; rfl) | (rw [decide_eq_false c_3, c_16]; rfl) | (rw [decide_eq_false c_3, c_16, c_30]; rfl))
set_option maxHeartbeats 4000000 in
set_option maxRecDepth 100000 in
theorem ct_X10_mark {h : z_H} (hO : r_Ob h) (hP : r_Pl h) (hT : r_Mt (h 92)) {w x y : Int} (hw9 : z_R w) (hx : z_R x) (hy : z_R y) : z_Ct mX10_mark 107 [(2, 89), (0, w), (0, x), (0, y)] h (fun r h2 => (¬ (0 ≤ w ∧ w ≤ 5 ∧ r_isP h x y = true) ∧ r = some (0, -1000000) ∧ h2 = h) ∨ ((0 ≤ w ∧ w ≤ 5 ∧ r_isP h x y = true) ∧ r = some (0, r_markF h w x y) ∧ h2 = z_st h 89 17 (h 89 17 + c_markT w))) := by
  refine z_mk (L := [(2, 89), (0, w), (0, x), (0, y), (9, 0), (9, 0), (9, 0)]) oX10_mark.2.2.2.2 (Nat.le_of_ble_eq_true rfl) rfl ?_
  intro Γ X hQ
  obtain ⟨rb2, rb3, rb5, rb6, rb7, rb9, rb10, rb11, rb12, rb13, rb15, rb25, rb26, rb30, rb31, rb32, rb33⟩ := id hO
  obtain ⟨⟨hw1, hw2⟩, ⟨hh1, hh2⟩, ⟨hs1, hs2⟩, hgl, hco⟩ := id hP
  obtain ⟨tw, ⟨tb1, tb2⟩, ⟨tm1, tm2⟩, ⟨ts1, ts2⟩⟩ := id hT
  have kc : z_kd 107 92 = (1, 11) := rfl
  obtain ⟨hx1, hx2⟩ := hx
  obtain ⟨hy1, hy2⟩ := hy
  obtain ⟨hwa, hwb⟩ := hw9
  refine V_iload_n (pc := 0) X dX10_mark_0 rfl ?_
  refine V_i2l (pc := 1) X dX10_mark_1 ⟨by omega, by omega⟩ ?_
  refine V_lconst (pc := 2) (z := 0) X dX10_mark_2 (by decide) ?_
  refine V_ldc2 (pc := 3) X (5) dX10_mark_3 c_RX10_282 (by decide) ?_
  refine V_FS (pc := 6) X dX10_mark_6 oX10_in l_RX10_81 sX10_in ⟨Nat.le_of_ble_eq_true rfl, Nat.le_of_ble_eq_true rfl⟩ ⟨rfl, rfl⟩ ⟨Nat.le_of_ble_eq_true rfl, Nat.le_of_ble_eq_true rfl⟩ (ct_X10_in ⟨by omega, by omega⟩ ⟨by omega, by omega⟩ ⟨by omega, by omega⟩) rfl (by rfl) (by exact Nat.le_of_ble_eq_true rfl) ?_
  refine V_bif_eq (pc := 9) X 21 dX10_mark_9 (by decide)  (fun c_9 => ?_) (fun c_9 => ?_)
  · skip
    have q1 := of_decide_eq_false c_9
    refine V_ldcw (pc := 21) X (-1000000) dX10_mark_21 c_RX10_284 (by decide) ?_
    refine V_iret (st := []) (pc := 24) X hQ dX10_mark_24 rfl rfl ?_
    exact Or.inl ⟨by intro g; first | (rw [c_18] at g; exact absurd g.2.2 (by decide)) | omega, rfl, rfl⟩
  · skip
    have q1 := of_decide_eq_true c_9
    refine V_aload_n (pc := 12) X dX10_mark_12 rfl (by first | decide | omega | assumption) ?_
    refine V_iload_n (pc := 13) X dX10_mark_13 rfl ?_
    refine V_iload_n (pc := 14) X dX10_mark_14 rfl ?_
    refine V_FV (pc := 15) X dX10_mark_15 oX10_isPane l_RX10_183 eX10_isPane vX10_isPane ⟨Nat.le_of_ble_eq_true rfl, Nat.le_of_ble_eq_true rfl⟩ ⟨rfl, rfl⟩ ⟨Nat.le_of_ble_eq_true rfl, Nat.le_of_ble_eq_true rfl⟩ (ct_X10_isPane hO hP ⟨by omega, by omega⟩ ⟨by omega, by omega⟩) rfl (by first | rfl | assumption | (simp only [*]; done) | omega) (by intro q h; cases h; rfl) rfl (by rfl) (by exact Nat.le_of_ble_eq_true rfl) ?_
    refine V_bif_ne (pc := 18) X 25 dX10_mark_18 (by decide)  (fun c_18 => ?_) (fun c_18 => ?_)
    · skip
      have qp := of_decide_eq_true c_18
      refine V_iconst (pc := 25) X dX10_mark_25 ?_
      refine V_iload_n (pc := 26) X dX10_mark_26 rfl ?_
      refine V_imul (pc := 27) X dX10_mark_27 ?_
      refine V_iload_n (pc := 28) X dX10_mark_28 rfl ?_
      refine V_iadd (pc := 29) X dX10_mark_29 ?_
      refine V_istore (pc := 30) X dX10_mark_30 (by exact Nat.le_of_ble_eq_true rfl) rfl ?_
      refine V_aload_n (pc := 32) X dX10_mark_32 rfl (by first | decide | omega | assumption) ?_
      refine V_aload_n (pc := 33) X dX10_mark_33 rfl (by first | decide | omega | assumption) ?_
      refine V_gz (pc := 34) X dX10_mark_34 f_RX10_23 (by first | rfl | assumption | (simp only [*]; done) | omega) 5 rfl (show _ = (92 : Int) from by first | exact rb5 | ((repeat (first | rw [z_st_at] | rw [z_st_slot _ (by decide)] | rw [z_st_cell _ (by decide)] | rw [z_rw_ne _ _ (by decide)] | rw [r_rem_s (by decide)] | rw [r_rem_c (by decide) (by decide)] | rw [r_cp_ne (by decide)])); exact rb5)) ?_
      refine V_iload (pc := 37) X dX10_mark_37 rfl ?_
      refine V_FV (pc := 39) X dX10_mark_39 oX10_lets l_RX10_190 eX10_lets vX10_lets ⟨Nat.le_of_ble_eq_true rfl, Nat.le_of_ble_eq_true rfl⟩ ⟨rfl, rfl⟩ ⟨Nat.le_of_ble_eq_true rfl, Nat.le_of_ble_eq_true rfl⟩ (ct_X10_lets hO hP kc hT (by omega) (by omega)) rfl (by first | rfl | assumption | (simp only [*]; done) | omega) (by intro q h; cases h; rfl) rfl (by rfl) (by exact Nat.le_of_ble_eq_true rfl) ?_
      refine V_istore (pc := 42) X dX10_mark_42 (by exact Nat.le_of_ble_eq_true rfl) rfl ?_
      refine V_iload (pc := 44) X dX10_mark_44 rfl ?_
      refine V_aload_n (pc := 46) X dX10_mark_46 rfl (by first | decide | omega | assumption) ?_
      refine V_aload_n (pc := 47) X dX10_mark_47 rfl (by first | decide | omega | assumption) ?_
      refine V_gz (pc := 48) X dX10_mark_48 f_RX10_23 (by first | rfl | assumption | (simp only [*]; done) | omega) 5 rfl (show _ = (92 : Int) from by first | exact rb5 | ((repeat (first | rw [z_st_at] | rw [z_st_slot _ (by decide)] | rw [z_st_cell _ (by decide)] | rw [z_rw_ne _ _ (by decide)] | rw [r_rem_s (by decide)] | rw [r_rem_c (by decide) (by decide)] | rw [r_cp_ne (by decide)])); exact rb5)) ?_
      refine V_iload (pc := 51) X dX10_mark_51 rfl ?_
      refine V_FV (pc := 53) X dX10_mark_53 oX10_sheetsAt l_RX10_175 eX10_sheetsAt vX10_sheetsAt ⟨Nat.le_of_ble_eq_true rfl, Nat.le_of_ble_eq_true rfl⟩ ⟨rfl, rfl⟩ ⟨Nat.le_of_ble_eq_true rfl, Nat.le_of_ble_eq_true rfl⟩ (ct_X10_sheetsAt hO hP kc hT (by omega) (by omega)) rfl (by first | rfl | assumption | (simp only [*]; done) | omega) (by intro q h; cases h; rfl) rfl (by rfl) (by exact Nat.le_of_ble_eq_true rfl) ?_
      have hal := r_at_lt hP (h 92) (4 * x + y)
      refine V_FS (pc := 56) X dX10_mark_56 oX10_bits l_RX10_201 sX10_bits ⟨Nat.le_of_ble_eq_true rfl, Nat.le_of_ble_eq_true rfl⟩ ⟨rfl, rfl⟩ ⟨Nat.le_of_ble_eq_true rfl, Nat.le_of_ble_eq_true rfl⟩ (ct_X10_bits (by omega) (by omega)) rfl (by rfl) (by exact Nat.le_of_ble_eq_true rfl) ?_
      refine V_iadd (pc := 59) X dX10_mark_59 ?_
      refine V_istore (pc := 60) X dX10_mark_60 (by exact Nat.le_of_ble_eq_true rfl) rfl ?_
      refine V_iload_n (pc := 62) X dX10_mark_62 rfl ?_
      rcases (show w = 0 ∨ w = 1 ∨ w = 2 ∨ w = 3 ∨ w = 4 ∨ (w < 0 ∨ 4 < w) by omega) with e_sw | e_sw | e_sw | e_sw | e_sw | e_sw
      · skip
        refine V_tswIn (pc := 63) X 96 dX10_mark_63 e_sw ⟨by decide, by decide⟩ (by decide) (by decide) rfl (by decide) ?_
        refine V_aload_n (pc := 96) X dX10_mark_96 rfl (by first | decide | omega | assumption) ?_
        refine V_dup (pc := 97) X dX10_mark_97 (Nat.ne_of_beq_eq_false rfl) ?_
        refine V_gz (pc := 98) X dX10_mark_98 f_RX10_285 (by first | rfl | assumption | (simp only [*]; done) | omega) 17 rfl rfl ?_
        refine V_lconst (pc := 101) (z := 1) X dX10_mark_101 (by decide) ?_
        refine V_ladd (pc := 102) X dX10_mark_102 ?_
        refine V_pz (pc := 103) X dX10_mark_103 f_RX10_285 (by first | rfl | assumption | (simp only [*]; done) | omega) (fun b => z_fitL b _) 17 rfl ?_
        refine V_iload (pc := 106) X dX10_mark_106 rfl ?_
        refine V_iret (st := []) (pc := 108) X hQ dX10_mark_108 rfl rfl ?_
        exact Or.inr ⟨⟨by omega, by omega, c_18⟩, by subst e_sw; rfl, by subst e_sw; rfl⟩
      · skip
        refine V_tswIn (pc := 63) X 109 dX10_mark_63 e_sw ⟨by decide, by decide⟩ (by decide) (by decide) rfl (by decide) ?_
        refine V_aload_n (pc := 109) X dX10_mark_109 rfl (by first | decide | omega | assumption) ?_
        refine V_dup (pc := 110) X dX10_mark_110 (Nat.ne_of_beq_eq_false rfl) ?_
        refine V_gz (pc := 111) X dX10_mark_111 f_RX10_285 (by first | rfl | assumption | (simp only [*]; done) | omega) 17 rfl rfl ?_
        refine V_ldc2 (pc := 114) X (11) dX10_mark_114 c_RX10_166 (by decide) ?_
        refine V_ladd (pc := 117) X dX10_mark_117 ?_
        refine V_pz (pc := 118) X dX10_mark_118 f_RX10_285 (by first | rfl | assumption | (simp only [*]; done) | omega) (fun b => z_fitL b _) 17 rfl ?_
        refine V_iload (pc := 121) X dX10_mark_121 rfl ?_
        refine V_iret (st := []) (pc := 123) X hQ dX10_mark_123 rfl rfl ?_
        exact Or.inr ⟨⟨by omega, by omega, c_18⟩, by subst e_sw; rfl, by subst e_sw; rfl⟩
      · skip
        refine V_tswIn (pc := 63) X 124 dX10_mark_63 e_sw ⟨by decide, by decide⟩ (by decide) (by decide) rfl (by decide) ?_
        refine V_aload_n (pc := 124) X dX10_mark_124 rfl (by first | decide | omega | assumption) ?_
        refine V_dup (pc := 125) X dX10_mark_125 (Nat.ne_of_beq_eq_false rfl) ?_
        refine V_gz (pc := 126) X dX10_mark_126 f_RX10_285 (by first | rfl | assumption | (simp only [*]; done) | omega) 17 rfl rfl ?_
        refine V_ldc2 (pc := 129) X (101) dX10_mark_129 c_RX10_289 (by decide) ?_
        refine V_ladd (pc := 132) X dX10_mark_132 ?_
        refine V_pz (pc := 133) X dX10_mark_133 f_RX10_285 (by first | rfl | assumption | (simp only [*]; done) | omega) (fun b => z_fitL b _) 17 rfl ?_
        refine V_iload (pc := 136) X dX10_mark_136 rfl ?_
        refine V_iload_n (pc := 138) X dX10_mark_138 rfl ?_
        refine V_isub (pc := 139) X dX10_mark_139 ?_
        refine V_iret (st := []) (pc := 140) X hQ dX10_mark_140 rfl rfl ?_
        exact Or.inr ⟨⟨by omega, by omega, c_18⟩, by subst e_sw; rfl, by subst e_sw; rfl⟩
      · skip
        refine V_tswIn (pc := 63) X 141 dX10_mark_63 e_sw ⟨by decide, by decide⟩ (by decide) (by decide) rfl (by decide) ?_
        refine V_aload_n (pc := 141) X dX10_mark_141 rfl (by first | decide | omega | assumption) ?_
        refine V_dup (pc := 142) X dX10_mark_142 (Nat.ne_of_beq_eq_false rfl) ?_
        refine V_gz (pc := 143) X dX10_mark_143 f_RX10_285 (by first | rfl | assumption | (simp only [*]; done) | omega) 17 rfl rfl ?_
        refine V_ldc2 (pc := 146) X (1011) dX10_mark_146 c_RX10_291 (by decide) ?_
        refine V_ladd (pc := 149) X dX10_mark_149 ?_
        refine V_pz (pc := 150) X dX10_mark_150 f_RX10_285 (by first | rfl | assumption | (simp only [*]; done) | omega) (fun b => z_fitL b _) 17 rfl ?_
        refine V_iconst (pc := 153) X dX10_mark_153 ?_
        refine V_iload (pc := 154) X dX10_mark_154 rfl ?_
        refine V_imul (pc := 156) X dX10_mark_156 ?_
        refine V_iret (st := []) (pc := 157) X hQ dX10_mark_157 rfl rfl ?_
        exact Or.inr ⟨⟨by omega, by omega, c_18⟩, by subst e_sw; rfl, by subst e_sw; rfl⟩
      · skip
        refine V_tswIn (pc := 63) X 158 dX10_mark_63 e_sw ⟨by decide, by decide⟩ (by decide) (by decide) rfl (by decide) ?_
        refine V_aload_n (pc := 158) X dX10_mark_158 rfl (by first | decide | omega | assumption) ?_
        refine V_dup (pc := 159) X dX10_mark_159 (Nat.ne_of_beq_eq_false rfl) ?_
        refine V_gz (pc := 160) X dX10_mark_160 f_RX10_285 (by first | rfl | assumption | (simp only [*]; done) | omega) 17 rfl rfl ?_
        refine V_ldc2 (pc := 163) X (10101) dX10_mark_163 c_RX10_293 (by decide) ?_
        refine V_ladd (pc := 166) X dX10_mark_166 ?_
        refine V_pz (pc := 167) X dX10_mark_167 f_RX10_285 (by first | rfl | assumption | (simp only [*]; done) | omega) (fun b => z_fitL b _) 17 rfl ?_
        refine V_iload (pc := 170) X dX10_mark_170 rfl ?_
        refine V_iload_n (pc := 172) X dX10_mark_172 rfl ?_
        refine V_isub (pc := 173) X dX10_mark_173 ?_
        refine V_iload (pc := 174) X dX10_mark_174 rfl ?_
        refine V_iadd (pc := 176) X dX10_mark_176 ?_
        refine V_iret (st := []) (pc := 177) X hQ dX10_mark_177 rfl rfl ?_
        exact Or.inr ⟨⟨by omega, by omega, c_18⟩, by subst e_sw; rfl, by subst e_sw; rfl⟩
      · skip
        refine V_tswOut (pc := 63) X 178 dX10_mark_63 ⟨by omega, by omega⟩ e_sw (by decide) ?_
        refine V_aload_n (pc := 178) X dX10_mark_178 rfl (by first | decide | omega | assumption) ?_
        refine V_dup (pc := 179) X dX10_mark_179 (Nat.ne_of_beq_eq_false rfl) ?_
        refine V_gz (pc := 180) X dX10_mark_180 f_RX10_285 (by first | rfl | assumption | (simp only [*]; done) | omega) 17 rfl rfl ?_
        refine V_ldc2 (pc := 183) X (100001) dX10_mark_183 c_RX10_295 (by decide) ?_
        refine V_ladd (pc := 186) X dX10_mark_186 ?_
        refine V_pz (pc := 187) X dX10_mark_187 f_RX10_285 (by first | rfl | assumption | (simp only [*]; done) | omega) (fun b => z_fitL b _) 17 rfl ?_
        refine V_iload (pc := 190) X dX10_mark_190 rfl ?_
        refine V_aload_n (pc := 192) X dX10_mark_192 rfl (by first | decide | omega | assumption) ?_
        refine V_gz (pc := 193) X dX10_mark_193 f_RX10_23 (by first | rfl | assumption | (simp only [*]; done) | omega) 5 rfl (show _ = (92 : Int) from by first | exact rb5 | ((repeat (first | rw [z_st_at] | rw [z_st_slot _ (by decide)] | rw [z_st_cell _ (by decide)] | rw [z_rw_ne _ _ (by decide)] | rw [r_rem_s (by decide)] | rw [r_rem_c (by decide) (by decide)] | rw [r_cp_ne (by decide)])); exact rb5)) ?_
        refine V_bipush (pc := 196) X dX10_mark_196 (by decide) ?_
        refine V_iald (pc := 198) X dX10_mark_198 (by first | rfl | assumption | (simp only [*]; done) | omega) (by omega) (by omega) (by decide) ?_
        rw [z_st_cell _ (by decide)]
        refine V_iadd (pc := 199) X dX10_mark_199 ?_
        refine V_iret (st := []) (pc := 200) X hQ dX10_mark_200 rfl rfl ?_
        exact Or.inr ⟨⟨by omega, by omega, c_18⟩, by (obtain rfl : w = 5 := by omega); rfl, by (obtain rfl : w = 5 := by omega); rfl⟩
    · skip
      refine V_ldcw (pc := 21) X (-1000000) dX10_mark_21 c_RX10_284 (by decide) ?_
      refine V_iret (st := []) (pc := 24) X hQ dX10_mark_24 rfl rfl ?_
      exact Or.inl ⟨by intro g; first | (rw [c_18] at g; exact absurd g.2.2 (by decide)) | omega, rfl, rfl⟩
set_option maxHeartbeats 4000000 in
set_option maxRecDepth 100000 in
theorem ct_X10_keep {h : z_H} (hO : r_Ob h) (hP : r_Pl h) (hT : r_Mt (h 92)) {i : Int} (hi : z_R i) : z_Ct mX10_keep 107 [(2, 89), (0, i)] h (fun r h2 => (¬ (0 ≤ i ∧ i < 2) ∧ r = some (0, -1) ∧ h2 = h) ∨ ((0 ≤ i ∧ i < 2) ∧ r = some (0, z_pop (h 92 8)) ∧ h2 = r_keepH h i)) := by
  refine z_mk (L := [(2, 89), (0, i)]) oX10_keep.2.2.2.2 (Nat.le_of_ble_eq_true rfl) rfl ?_
  intro Γ X hQ
  obtain ⟨rb2, rb3, rb5, rb6, rb7, rb9, rb10, rb11, rb12, rb13, rb15, rb25, rb26, rb30, rb31, rb32, rb33⟩ := id hO
  obtain ⟨⟨hw1, hw2⟩, ⟨hh1, hh2⟩, ⟨hs1, hs2⟩, hgl, hco⟩ := id hP
  obtain ⟨tw, ⟨tb1, tb2⟩, ⟨tm1, tm2⟩, ⟨ts1, ts2⟩⟩ := id hT
  have kc : z_kd 107 92 = (1, 11) := rfl
  obtain ⟨hi1, hi2⟩ := hi
  refine V_iload_n (pc := 0) X dX10_keep_0 rfl ?_
  refine V_i2l (pc := 1) X dX10_keep_1 ⟨by omega, by omega⟩ ?_
  refine V_lconst (pc := 2) (z := 0) X dX10_keep_2 (by decide) ?_
  refine V_lconst (pc := 3) (z := 1) X dX10_keep_3 (by decide) ?_
  refine V_FS (pc := 4) X dX10_keep_4 oX10_in l_RX10_81 sX10_in ⟨Nat.le_of_ble_eq_true rfl, Nat.le_of_ble_eq_true rfl⟩ ⟨rfl, rfl⟩ ⟨Nat.le_of_ble_eq_true rfl, Nat.le_of_ble_eq_true rfl⟩ (ct_X10_in ⟨by omega, by omega⟩ ⟨by omega, by omega⟩ ⟨by omega, by omega⟩) rfl (by rfl) (by exact Nat.le_of_ble_eq_true rfl) ?_
  refine V_bif_ne (pc := 7) X 12 dX10_keep_7 (by decide)  (fun c_7 => ?_) (fun c_7 => ?_)
  · skip
    have q1 := of_decide_eq_true c_7
    refine V_aload_n (pc := 12) X dX10_keep_12 rfl (by first | decide | omega | assumption) ?_
    refine V_gz (pc := 13) X dX10_keep_13 f_RX10_23 (by first | rfl | assumption | (simp only [*]; done) | omega) 5 rfl (show _ = (92 : Int) from by first | exact rb5 | ((repeat (first | rw [z_st_at] | rw [z_st_slot _ (by decide)] | rw [z_st_cell _ (by decide)] | rw [z_rw_ne _ _ (by decide)] | rw [r_rem_s (by decide)] | rw [r_rem_c (by decide) (by decide)] | rw [r_cp_ne (by decide)])); exact rb5)) ?_
    refine V_iconst (pc := 16) X dX10_keep_16 ?_
    refine V_aload_n (pc := 17) X dX10_keep_17 rfl (by first | decide | omega | assumption) ?_
    refine V_gz (pc := 18) X dX10_keep_18 f_RX10_32 (by first | rfl | assumption | (simp only [*]; done) | omega) 9 rfl (show _ = (95 : Int) from by first | exact rb9 | ((repeat (first | rw [z_st_at] | rw [z_st_slot _ (by decide)] | rw [z_st_cell _ (by decide)] | rw [z_rw_ne _ _ (by decide)] | rw [r_rem_s (by decide)] | rw [r_rem_c (by decide) (by decide)] | rw [r_cp_ne (by decide)])); exact rb9)) ?_
    refine V_bipush (pc := 21) X dX10_keep_21 (by decide) ?_
    refine V_iload_n (pc := 23) X dX10_keep_23 rfl ?_
    refine V_imul (pc := 24) X dX10_keep_24 ?_
    refine V_bipush (pc := 25) X dX10_keep_25 (by decide) ?_
    refine V_CS (pc := 27) X dX10_keep_27 oX10_copies l_RX10_162 sX10_copies ⟨Nat.le_of_ble_eq_true rfl, Nat.le_of_ble_eq_true rfl⟩ ⟨rfl, rfl⟩ ⟨Nat.le_of_ble_eq_true rfl, Nat.le_of_ble_eq_true rfl⟩ (ct_X10_copies (NA := 11) (NB := 22) rfl rfl (by decide) (by decide) (by decide) (by omega) (by omega) (by decide) (by decide) (by decide)) rfl (by rfl) (by exact Nat.le_of_ble_eq_true rfl) (fun r h1 hp => ?_)
    obtain ⟨rfl, rfl⟩ := hp
    refine V_aload_n (pc := 30) X dX10_keep_30 rfl (by first | decide | omega | assumption) ?_
    refine V_gz (pc := 31) X dX10_keep_31 f_RX10_29 (by first | rfl | assumption | (simp only [*]; done) | omega) 7 rfl (show _ = (94 : Int) from by first | exact rb7 | ((repeat (first | rw [z_st_at] | rw [z_st_slot _ (by decide)] | rw [z_st_cell _ (by decide)] | rw [z_rw_ne _ _ (by decide)] | rw [r_rem_s (by decide)] | rw [r_rem_c (by decide) (by decide)] | rw [r_cp_ne (by decide)])); exact rb7)) ?_
    refine V_iconst (pc := 34) X dX10_keep_34 ?_
    refine V_aload_n (pc := 35) X dX10_keep_35 rfl (by first | decide | omega | assumption) ?_
    refine V_gz (pc := 36) X dX10_keep_36 f_RX10_35 (by first | rfl | assumption | (simp only [*]; done) | omega) 10 rfl (show _ = (96 : Int) from by first | exact rb10 | ((repeat (first | rw [z_st_at] | rw [z_st_slot _ (by decide)] | rw [z_st_cell _ (by decide)] | rw [z_rw_ne _ _ (by decide)] | rw [r_rem_s (by decide)] | rw [r_rem_c (by decide) (by decide)] | rw [r_cp_ne (by decide)])); exact rb10)) ?_
    refine V_bipush (pc := 39) X dX10_keep_39 (by decide) ?_
    refine V_iload_n (pc := 41) X dX10_keep_41 rfl ?_
    refine V_imul (pc := 42) X dX10_keep_42 ?_
    refine V_bipush (pc := 43) X dX10_keep_43 (by decide) ?_
    refine V_CS (pc := 45) X dX10_keep_45 oX10_copies l_RX10_162 sX10_copies ⟨Nat.le_of_ble_eq_true rfl, Nat.le_of_ble_eq_true rfl⟩ ⟨rfl, rfl⟩ ⟨Nat.le_of_ble_eq_true rfl, Nat.le_of_ble_eq_true rfl⟩ (ct_X10_copies (NA := 110) (NB := 220) rfl rfl (by decide) (by decide) (by decide) (by omega) (by omega) (by decide) (by decide) (by decide)) rfl (by rfl) (by exact Nat.le_of_ble_eq_true rfl) (fun r h1 hp => ?_)
    obtain ⟨rfl, rfl⟩ := hp
    refine V_aload_n (pc := 48) X dX10_keep_48 rfl (by first | decide | omega | assumption) ?_
    refine V_gz (pc := 49) X dX10_keep_49 f_RX10_38 (by first | rfl | assumption | (simp only [*]; done) | omega) 11 rfl (show _ = (97 : Int) from by first | exact rb11 | ((repeat (first | rw [z_st_at] | rw [z_st_slot _ (by decide)] | rw [z_st_cell _ (by decide)] | rw [z_rw_ne _ _ (by decide)] | rw [r_rem_s (by decide)] | rw [r_rem_c (by decide) (by decide)] | rw [r_cp_ne (by decide)])); exact rb11)) ?_
    refine V_iload_n (pc := 52) X dX10_keep_52 rfl ?_
    refine V_aload_n (pc := 53) X dX10_keep_53 rfl (by first | decide | omega | assumption) ?_
    refine V_gz (pc := 54) X dX10_keep_54 f_RX10_73 (by first | rfl | assumption | (simp only [*]; done) | omega) 8 rfl (show _ = h 89 8 from by first | rfl | (repeat (first | rw [z_st_at] | rw [z_st_slot _ (by decide)] | rw [z_st_cell _ (by decide)] | rw [z_rw_ne _ _ (by decide)] | rw [r_rem_s (by decide)] | rw [r_rem_c (by decide) (by decide)] | rw [r_cp_ne (by decide)]))) ?_
    refine V_iast (pc := 57) X dX10_keep_57 (by first | rfl | assumption | (simp only [*]; done) | omega) (by omega) (by omega) (by decide) ?_
    refine V_aload_n (pc := 58) X dX10_keep_58 rfl (by first | decide | omega | assumption) ?_
    refine V_gz (pc := 59) X dX10_keep_59 f_RX10_41 (by first | rfl | assumption | (simp only [*]; done) | omega) 12 rfl (show _ = (98 : Int) from by first | exact rb12 | ((repeat (first | rw [z_st_at] | rw [z_st_slot _ (by decide)] | rw [z_st_cell _ (by decide)] | rw [z_rw_ne _ _ (by decide)] | rw [r_rem_s (by decide)] | rw [r_rem_c (by decide) (by decide)] | rw [r_cp_ne (by decide)])); exact rb12)) ?_
    refine V_iload_n (pc := 62) X dX10_keep_62 rfl ?_
    refine V_iconst (pc := 63) X dX10_keep_63 ?_
    refine V_bast (pc := 64) X dX10_keep_64 (by first | rfl | assumption | (simp only [*]; done) | omega) (by omega) (by omega) (by decide) (by omega) ?_
    refine V_aload_n (pc := 65) X dX10_keep_65 rfl (by first | decide | omega | assumption) ?_
    refine V_gz (pc := 66) X dX10_keep_66 f_RX10_23 (by first | rfl | assumption | (simp only [*]; done) | omega) 5 rfl (show _ = (92 : Int) from by first | exact rb5 | ((repeat (first | rw [z_st_at] | rw [z_st_slot _ (by decide)] | rw [z_st_cell _ (by decide)] | rw [z_rw_ne _ _ (by decide)] | rw [r_rem_s (by decide)] | rw [r_rem_c (by decide) (by decide)] | rw [r_cp_ne (by decide)])); exact rb5)) ?_
    refine V_bipush (pc := 69) X dX10_keep_69 (by decide) ?_
    refine V_iald (pc := 71) X dX10_keep_71 (by first | rfl | assumption | (simp only [*]; done) | omega) (by omega) (by omega) (by decide) ?_
    rw [show z_st (z_st (r_cp (r_cp h 92 0 95 (11 * i) 11) 94 0 96 (110 * i) 110) 97 i (h 89 8)) 98 i 1 92 8 = h 92 8 from by repeat (first | rw [z_st_at] | rw [z_st_slot _ (by decide)] | rw [z_st_cell _ (by decide)] | rw [z_rw_ne _ _ (by decide)] | rw [r_rem_s (by decide)] | rw [r_rem_c (by decide) (by decide)] | rw [r_cp_ne (by decide)])]
    refine V_FS (pc := 72) X dX10_keep_72 oX10_bits l_RX10_201 sX10_bits ⟨Nat.le_of_ble_eq_true rfl, Nat.le_of_ble_eq_true rfl⟩ ⟨rfl, rfl⟩ ⟨Nat.le_of_ble_eq_true rfl, Nat.le_of_ble_eq_true rfl⟩ (ct_X10_bits (by omega) (by omega)) rfl (by rfl) (by exact Nat.le_of_ble_eq_true rfl) ?_
    refine V_iret (st := []) (pc := 75) X hQ dX10_keep_75 rfl rfl ?_
    exact Or.inr ⟨by omega, rfl, rfl⟩
  · skip
    have q1 := of_decide_eq_false c_7
    refine V_iconst (pc := 10) X dX10_keep_10 ?_
    refine V_iret (st := []) (pc := 11) X hQ dX10_keep_11 rfl rfl ?_
    exact Or.inl ⟨by omega, rfl, rfl⟩
set_option maxHeartbeats 4000000 in
set_option maxRecDepth 100000 in
theorem ct_X10_back {h : z_H} (hO : r_Ob h) {i : Int} (hi : z_R i) (hKp : ∀ j, 0 ≤ j → j < 2 → h 98 j = 0 ∨ h 98 j = 1) (hIb : 0 ≤ i → i < 2 → ¬ h 98 i = 0 → 0 ≤ h 95 (11 * i + 8) ∧ h 95 (11 * i + 8) < 1048576) : z_Ct mX10_back 107 [(2, 89), (0, i)] h (fun r h2 => (¬ (0 ≤ i ∧ i < 2) ∧ r = some (0, -1) ∧ h2 = h) ∨ ((0 ≤ i ∧ i < 2) ∧ ((h 98 i = 0 ∧ r = some (0, -2) ∧ h2 = h) ∨ (¬ h 98 i = 0 ∧ r = some (0, z_pop (h 95 (11 * i + 8))) ∧ h2 = r_backH h i)))) := by
  refine z_mk (L := [(2, 89), (0, i)]) oX10_back.2.2.2.2 (Nat.le_of_ble_eq_true rfl) rfl ?_
  intro Γ X hQ
  obtain ⟨rb2, rb3, rb5, rb6, rb7, rb9, rb10, rb11, rb12, rb13, rb15, rb25, rb26, rb30, rb31, rb32, rb33⟩ := id hO
  obtain ⟨hi1, hi2⟩ := hi
  refine V_iload_n (pc := 0) X dX10_back_0 rfl ?_
  refine V_i2l (pc := 1) X dX10_back_1 ⟨by omega, by omega⟩ ?_
  refine V_lconst (pc := 2) (z := 0) X dX10_back_2 (by decide) ?_
  refine V_lconst (pc := 3) (z := 1) X dX10_back_3 (by decide) ?_
  refine V_FS (pc := 4) X dX10_back_4 oX10_in l_RX10_81 sX10_in ⟨Nat.le_of_ble_eq_true rfl, Nat.le_of_ble_eq_true rfl⟩ ⟨rfl, rfl⟩ ⟨Nat.le_of_ble_eq_true rfl, Nat.le_of_ble_eq_true rfl⟩ (ct_X10_in ⟨by omega, by omega⟩ ⟨by omega, by omega⟩ ⟨by omega, by omega⟩) rfl (by rfl) (by exact Nat.le_of_ble_eq_true rfl) ?_
  refine V_bif_ne (pc := 7) X 12 dX10_back_7 (by decide)  (fun c_7 => ?_) (fun c_7 => ?_)
  · skip
    have q1 := of_decide_eq_true c_7
    have hki := hKp i (by omega) (by omega)
    refine V_aload_n (pc := 12) X dX10_back_12 rfl (by first | decide | omega | assumption) ?_
    refine V_gz (pc := 13) X dX10_back_13 f_RX10_41 (by first | rfl | assumption | (simp only [*]; done) | omega) 12 rfl (show _ = (98 : Int) from by first | exact rb12 | ((repeat (first | rw [z_st_at] | rw [z_st_slot _ (by decide)] | rw [z_st_cell _ (by decide)] | rw [z_rw_ne _ _ (by decide)] | rw [r_rem_s (by decide)] | rw [r_rem_c (by decide) (by decide)] | rw [r_cp_ne (by decide)])); exact rb12)) ?_
    refine V_iload_n (pc := 16) X dX10_back_16 rfl ?_
    refine V_bald (pc := 17) X dX10_back_17 (by first | rfl | assumption | (simp only [*]; done) | omega) (by omega) (by omega) (by decide) ?_
    refine V_if_ne (pc := 18) X 24 dX10_back_18 (by decide) ⟨by omega, by omega⟩ (fun c_18 => ?_) (fun c_18 => ?_)
    · skip
      refine V_aload_n (pc := 24) X dX10_back_24 rfl (by first | decide | omega | assumption) ?_
      refine V_gz (pc := 25) X dX10_back_25 f_RX10_32 (by first | rfl | assumption | (simp only [*]; done) | omega) 9 rfl (show _ = (95 : Int) from by first | exact rb9 | ((repeat (first | rw [z_st_at] | rw [z_st_slot _ (by decide)] | rw [z_st_cell _ (by decide)] | rw [z_rw_ne _ _ (by decide)] | rw [r_rem_s (by decide)] | rw [r_rem_c (by decide) (by decide)] | rw [r_cp_ne (by decide)])); exact rb9)) ?_
      refine V_bipush (pc := 28) X dX10_back_28 (by decide) ?_
      refine V_iload_n (pc := 30) X dX10_back_30 rfl ?_
      refine V_imul (pc := 31) X dX10_back_31 ?_
      refine V_aload_n (pc := 32) X dX10_back_32 rfl (by first | decide | omega | assumption) ?_
      refine V_gz (pc := 33) X dX10_back_33 f_RX10_23 (by first | rfl | assumption | (simp only [*]; done) | omega) 5 rfl (show _ = (92 : Int) from by first | exact rb5 | ((repeat (first | rw [z_st_at] | rw [z_st_slot _ (by decide)] | rw [z_st_cell _ (by decide)] | rw [z_rw_ne _ _ (by decide)] | rw [r_rem_s (by decide)] | rw [r_rem_c (by decide) (by decide)] | rw [r_cp_ne (by decide)])); exact rb5)) ?_
      refine V_iconst (pc := 36) X dX10_back_36 ?_
      refine V_bipush (pc := 37) X dX10_back_37 (by decide) ?_
      have hib := hIb (by omega) (by omega) c_18
      refine V_CS (pc := 39) X dX10_back_39 oX10_copies l_RX10_162 sX10_copies ⟨Nat.le_of_ble_eq_true rfl, Nat.le_of_ble_eq_true rfl⟩ ⟨rfl, rfl⟩ ⟨Nat.le_of_ble_eq_true rfl, Nat.le_of_ble_eq_true rfl⟩ (ct_X10_copies (NA := 22) (NB := 11) rfl rfl (by decide) (by omega) (by omega) (by decide) (by decide) (by decide) (by decide) (by decide)) rfl (by rfl) (by exact Nat.le_of_ble_eq_true rfl) (fun r h1 hp => ?_)
      obtain ⟨rfl, rfl⟩ := hp
      refine V_aload_n (pc := 42) X dX10_back_42 rfl (by first | decide | omega | assumption) ?_
      refine V_gz (pc := 43) X dX10_back_43 f_RX10_35 (by first | rfl | assumption | (simp only [*]; done) | omega) 10 rfl (show _ = (96 : Int) from by first | exact rb10 | ((repeat (first | rw [z_st_at] | rw [z_st_slot _ (by decide)] | rw [z_st_cell _ (by decide)] | rw [z_rw_ne _ _ (by decide)] | rw [r_rem_s (by decide)] | rw [r_rem_c (by decide) (by decide)] | rw [r_cp_ne (by decide)])); exact rb10)) ?_
      refine V_bipush (pc := 46) X dX10_back_46 (by decide) ?_
      refine V_iload_n (pc := 48) X dX10_back_48 rfl ?_
      refine V_imul (pc := 49) X dX10_back_49 ?_
      refine V_aload_n (pc := 50) X dX10_back_50 rfl (by first | decide | omega | assumption) ?_
      refine V_gz (pc := 51) X dX10_back_51 f_RX10_29 (by first | rfl | assumption | (simp only [*]; done) | omega) 7 rfl (show _ = (94 : Int) from by first | exact rb7 | ((repeat (first | rw [z_st_at] | rw [z_st_slot _ (by decide)] | rw [z_st_cell _ (by decide)] | rw [z_rw_ne _ _ (by decide)] | rw [r_rem_s (by decide)] | rw [r_rem_c (by decide) (by decide)] | rw [r_cp_ne (by decide)])); exact rb7)) ?_
      refine V_iconst (pc := 54) X dX10_back_54 ?_
      refine V_bipush (pc := 55) X dX10_back_55 (by decide) ?_
      refine V_CS (pc := 57) X dX10_back_57 oX10_copies l_RX10_162 sX10_copies ⟨Nat.le_of_ble_eq_true rfl, Nat.le_of_ble_eq_true rfl⟩ ⟨rfl, rfl⟩ ⟨Nat.le_of_ble_eq_true rfl, Nat.le_of_ble_eq_true rfl⟩ (ct_X10_copies (NA := 220) (NB := 110) rfl rfl (by decide) (by omega) (by omega) (by decide) (by decide) (by decide) (by decide) (by decide)) rfl (by rfl) (by exact Nat.le_of_ble_eq_true rfl) (fun r h1 hp => ?_)
      obtain ⟨rfl, rfl⟩ := hp
      refine V_aload_n (pc := 60) X dX10_back_60 rfl (by first | decide | omega | assumption) ?_
      refine V_aload_n (pc := 61) X dX10_back_61 rfl (by first | decide | omega | assumption) ?_
      refine V_gz (pc := 62) X dX10_back_62 f_RX10_38 (by first | rfl | assumption | (simp only [*]; done) | omega) 11 rfl (show _ = (97 : Int) from by first | exact rb11 | ((repeat (first | rw [z_st_at] | rw [z_st_slot _ (by decide)] | rw [z_st_cell _ (by decide)] | rw [z_rw_ne _ _ (by decide)] | rw [r_rem_s (by decide)] | rw [r_rem_c (by decide) (by decide)] | rw [r_cp_ne (by decide)])); exact rb11)) ?_
      refine V_iload_n (pc := 65) X dX10_back_65 rfl ?_
      refine V_iald (pc := 66) X dX10_back_66 (by first | rfl | assumption | (simp only [*]; done) | omega) (by omega) (by omega) (by decide) ?_
      rw [show r_cp (r_cp h 95 (11 * i) 92 0 11) 96 (110 * i) 94 0 110 97 i = h 97 i from by repeat (first | rw [z_st_at] | rw [z_st_slot _ (by decide)] | rw [z_st_cell _ (by decide)] | rw [z_rw_ne _ _ (by decide)] | rw [r_rem_s (by decide)] | rw [r_rem_c (by decide) (by decide)] | rw [r_cp_ne (by decide)])]
      refine V_pz (pc := 67) X dX10_back_67 f_RX10_73 (by first | rfl | assumption | (simp only [*]; done) | omega) (fun b => z_fitI b _) 8 rfl ?_
      rw [show z_st (r_cp (r_cp h 95 (11 * i) 92 0 11) 96 (110 * i) 94 0 110) 89 8 (h 97 i) = r_backH h i from rfl]
      refine V_aload_n (pc := 70) X dX10_back_70 rfl (by first | decide | omega | assumption) ?_
      refine V_gz (pc := 71) X dX10_back_71 f_RX10_23 (by first | rfl | assumption | (simp only [*]; done) | omega) 5 rfl (show r_backH h i 89 5 = (92 : Int) from by unfold r_backH; repeat (first | rw [z_st_at] | rw [z_st_slot _ (by decide)] | rw [z_st_cell _ (by decide)] | rw [z_rw_ne _ _ (by decide)] | rw [r_rem_s (by decide)] | rw [r_rem_c (by decide) (by decide)] | rw [r_cp_ne (by decide)]); exact rb5) ?_
      refine V_bipush (pc := 74) X dX10_back_74 (by decide) ?_
      refine V_iald (pc := 76) X dX10_back_76 (by first | rfl | assumption | (simp only [*]; done) | omega) (by omega) (by omega) (by decide) ?_
      rw [show r_backH h i 92 8 = h 95 (11 * i + 8) from by unfold r_backH; rw [z_st_cell _ (by decide), r_cp_ne (by decide)]; unfold r_cp; rw [z_rw_at, if_pos (by decide)]; rfl]
      refine V_FS (pc := 77) X dX10_back_77 oX10_bits l_RX10_201 sX10_bits ⟨Nat.le_of_ble_eq_true rfl, Nat.le_of_ble_eq_true rfl⟩ ⟨rfl, rfl⟩ ⟨Nat.le_of_ble_eq_true rfl, Nat.le_of_ble_eq_true rfl⟩ (ct_X10_bits (by omega) (by omega)) rfl (by rfl) (by exact Nat.le_of_ble_eq_true rfl) ?_
      refine V_iret (st := []) (pc := 80) X hQ dX10_back_80 rfl rfl ?_
      exact Or.inr ⟨⟨by omega, by omega⟩, Or.inr ⟨c_18, rfl, rfl⟩⟩
    · skip
      refine V_bipush (pc := 21) X dX10_back_21 (by decide) ?_
      refine V_iret (st := []) (pc := 23) X hQ dX10_back_23 rfl rfl ?_
      exact Or.inr ⟨⟨by omega, by omega⟩, Or.inl ⟨c_18, rfl, rfl⟩⟩
  · skip
    have q1 := of_decide_eq_false c_7
    refine V_iconst (pc := 10) X dX10_back_10 ?_
    refine V_iret (st := []) (pc := 11) X hQ dX10_back_11 rfl rfl ?_
    exact Or.inl ⟨by omega, rfl, rfl⟩
