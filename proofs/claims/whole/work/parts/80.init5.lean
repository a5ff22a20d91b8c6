/-! constructors, 4: PaneLight -/
set_option maxHeartbeats 4000000 in
set_option maxRecDepth 100000 in
theorem ct_X9_init {h : z_H} : z_Ct mX9_init 1 [(2, 0)] h (fun r h2 => r = none ∧ ∃ H H2 H3 : z_H, c_N6 (z_nw (z_nw (c_n1 h) 3 (0, 4)) 4 (0, 5)) H 4 11 ∧ c_N6 (z_nw (c_n7 H) 41 (0, 5)) H2 41 11 ∧ c_N6 (z_nw (c_n8 H2) 65 (0, 5)) H3 65 11 ∧ h2 = c_srsH (c_n9 H3) 4 28 6) := by
  refine z_mk (L := [(2, 0), (9, 0)]) oX9_init.2.2.2.2 (Nat.le_of_ble_eq_true rfl) rfl ?_
  intro Γ X hQ
  refine V_aload_n (pc := 0) X dX9_init_0 rfl (by first | decide | omega | assumption) ?_
  refine V_objI (pc := 1) X dX9_init_1 (by first | decide | omega | assumption) l_RX9_3 eObj oObj ⟨Nat.le_of_ble_eq_true rfl, Nat.le_of_ble_eq_true rfl⟩ ?_
  refine V_aload_n (pc := 4) X dX9_init_4 rfl (by first | decide | omega | assumption) ?_
  refine V_new (pc := 5) X dX9_init_5 n_RX9_9 rfl ⟨by decide, by decide⟩ ?_
  refine V_dup (pc := 8) X dX9_init_8 (Nat.ne_of_beq_eq_false rfl) ?_
  refine V_CN (pc := 9) X dX9_init_9 oX4_init l_RX9_11 eX4_init rfl rfl ⟨Nat.le_of_ble_eq_true rfl, Nat.le_of_ble_eq_true rfl⟩ ⟨Nat.le_of_ble_eq_true rfl, Nat.le_of_ble_eq_true rfl⟩ (ct_X4_init) rfl (by first | decide | omega | assumption) (by rfl) (by exact Nat.le_of_ble_eq_true rfl) (fun r h1 hp => ?_)
  obtain ⟨rfl, rfl⟩ := hp
  refine V_pFz (pc := 12) X dX9_init_12 f_RX9_12 rfl (by intro C T h; cases h; rfl) (by first | rfl | assumption | (simp only [*]; done) | omega) (fun b => z_fitR b _ rfl) 0 rfl ?_
  refine V_heap (h' := c_n1 h) rfl ?_
  refine V_aload_n (pc := 15) X dX9_init_15 rfl (by first | decide | omega | assumption) ?_
  refine V_new (pc := 16) X dX9_init_16 n_RX9_16 rfl ⟨by decide, by decide⟩ ?_
  refine V_dup (pc := 19) X dX9_init_19 (Nat.ne_of_beq_eq_false rfl) ?_
  refine V_CN (pc := 20) X dX9_init_20 oX5_init l_RX9_18 eX5_init rfl rfl ⟨Nat.le_of_ble_eq_true rfl, Nat.le_of_ble_eq_true rfl⟩ ⟨Nat.le_of_ble_eq_true rfl, Nat.le_of_ble_eq_true rfl⟩ (ct_X5_init) rfl (by first | decide | omega | assumption) (by rfl) (by exact Nat.le_of_ble_eq_true rfl) (fun r h1 hp => ?_)
  obtain ⟨rfl, H, hN, rfl⟩ := hp
  refine V_pFz (pc := 23) X dX9_init_23 f_RX9_19 rfl (by intro C T h; cases h; rfl) (by first | rfl | assumption | (simp only [*]; done) | omega) (fun b => z_fitR b _ rfl) 1 rfl ?_
  refine V_heap (h' := c_n2 H) rfl ?_
  refine V_aload_n (pc := 26) X dX9_init_26 rfl (by first | decide | omega | assumption) ?_
  refine V_new (pc := 27) X dX9_init_27 n_RX9_23 rfl ⟨by decide, by decide⟩ ?_
  refine V_dup (pc := 30) X dX9_init_30 (Nat.ne_of_beq_eq_false rfl) ?_
  refine V_CN (pc := 31) X dX9_init_31 oX1_init l_RX9_25 eX1_init rfl rfl ⟨Nat.le_of_ble_eq_true rfl, Nat.le_of_ble_eq_true rfl⟩ ⟨Nat.le_of_ble_eq_true rfl, Nat.le_of_ble_eq_true rfl⟩ (ct_X1_init (by decide)) rfl (by first | decide | omega | assumption) (by rfl) (by exact Nat.le_of_ble_eq_true rfl) (fun r h1 hp => ?_)
  obtain ⟨rfl, rfl⟩ := hp
  refine V_pFz (pc := 34) X dX9_init_34 f_RX9_26 rfl (by intro C T h; cases h; rfl) (by first | rfl | assumption | (simp only [*]; done) | omega) (fun b => z_fitR b _ rfl) 2 rfl ?_
  refine V_heap (h' := c_n3 H) rfl ?_
  refine V_aload_n (pc := 37) X dX9_init_37 rfl (by first | decide | omega | assumption) ?_
  refine V_new (pc := 38) X dX9_init_38 n_RX9_30 rfl ⟨by decide, by decide⟩ ?_
  refine V_dup (pc := 41) X dX9_init_41 (Nat.ne_of_beq_eq_false rfl) ?_
  refine V_CN (pc := 42) X dX9_init_42 oX7_init l_RX9_32 eX7_init rfl rfl ⟨Nat.le_of_ble_eq_true rfl, Nat.le_of_ble_eq_true rfl⟩ ⟨Nat.le_of_ble_eq_true rfl, Nat.le_of_ble_eq_true rfl⟩ (ct_X7_init) rfl (by first | decide | omega | assumption) (by rfl) (by exact Nat.le_of_ble_eq_true rfl) (fun r h1 hp => ?_)
  obtain ⟨rfl, rfl⟩ := hp
  refine V_pFz (pc := 45) X dX9_init_45 f_RX9_33 rfl (by intro C T h; cases h; rfl) (by first | rfl | assumption | (simp only [*]; done) | omega) (fun b => z_fitR b _ rfl) 3 rfl ?_
  refine V_heap (h' := c_n4 H) rfl ?_
  refine V_aload_n (pc := 48) X dX9_init_48 rfl (by first | decide | omega | assumption) ?_
  refine V_new (pc := 49) X dX9_init_49 n_RX9_37 rfl ⟨by decide, by decide⟩ ?_
  refine V_dup (pc := 52) X dX9_init_52 (Nat.ne_of_beq_eq_false rfl) ?_
  refine V_CN (pc := 53) X dX9_init_53 oX8_init l_RX9_39 eX8_init rfl rfl ⟨Nat.le_of_ble_eq_true rfl, Nat.le_of_ble_eq_true rfl⟩ ⟨Nat.le_of_ble_eq_true rfl, Nat.le_of_ble_eq_true rfl⟩ (ct_X8_init) rfl (by first | decide | omega | assumption) (by rfl) (by exact Nat.le_of_ble_eq_true rfl) (fun r h1 hp => ?_)
  obtain ⟨rfl, rfl⟩ := hp
  refine V_pFz (pc := 56) X dX9_init_56 f_RX9_40 rfl (by intro C T h; cases h; rfl) (by first | rfl | assumption | (simp only [*]; done) | omega) (fun b => z_fitR b _ rfl) 4 rfl ?_
  refine V_heap (h' := c_n5 H) rfl ?_
  refine V_aload_n (pc := 59) X dX9_init_59 rfl (by first | decide | omega | assumption) ?_
  refine V_iconst (pc := 60) X dX9_init_60 ?_
  refine V_newS (pc := 61) X dX9_init_61 k_RX9_44 rfl (by decide) rfl ⟨by decide, by decide⟩ ?_
  refine V_pFz (pc := 64) X dX9_init_64 f_RX9_46 rfl (by intro C T h; cases h; rfl) (by first | rfl | assumption | (simp only [*]; done) | omega) (fun b => z_fitR b _ rfl) 5 rfl ?_
  refine V_heap (h' := c_n6 H) rfl ?_
  refine V_aload_n (pc := 67) X dX9_init_67 rfl (by first | decide | omega | assumption) ?_
  refine V_new (pc := 68) X dX9_init_68 n_RX9_50 rfl ⟨by decide, by decide⟩ ?_
  refine V_dup (pc := 71) X dX9_init_71 (Nat.ne_of_beq_eq_false rfl) ?_
  refine V_CI (pc := 72) X dX9_init_72 oX3_init l_RX9_52 eX3_init rfl rfl ⟨Nat.le_of_ble_eq_true rfl, Nat.le_of_ble_eq_true rfl⟩ ⟨Nat.le_of_ble_eq_true rfl, Nat.le_of_ble_eq_true rfl⟩ (ct_X3_init_38) rfl (by first | decide | omega | assumption) (by rfl) (by exact Nat.le_of_ble_eq_true rfl) (fun r h1 hp => ?_)
  obtain ⟨rfl, rfl⟩ := hp
  refine V_pz (pc := 75) X dX9_init_75 f_RX9_53 (by first | rfl | assumption | (simp only [*]; done) | omega) (fun b => z_fitR b _ rfl) 6 rfl ?_
  refine V_heap (h' := c_n7 H) rfl ?_
  refine V_iconst (pc := 78) X dX9_init_78 ?_
  refine V_istore_n (pc := 79) X dX9_init_79 (by exact Nat.le_of_ble_eq_true rfl) rfl ?_
  refine V_iload_n (pc := 80) X dX9_init_80 rfl ?_
  refine V_iconst (pc := 81) X dX9_init_81 ?_
  refine V_icmp_ge (pc := 82) X 104 dX9_init_82 (by decide) ⟨by omega, by omega⟩ ⟨by omega, by omega⟩ (fun c_82 => absurd c_82 (by decide)) (fun c_82 => ?_)
  refine V_aload_n (pc := 85) X dX9_init_85 rfl (by first | decide | omega | assumption) ?_
  refine V_gz (pc := 86) X dX9_init_86 f_RX9_46 (by first | rfl | assumption | (simp only [*]; done) | omega) 5 rfl (show _ = (37 : Int) from c_n7_05 H) ?_
  refine V_iload_n (pc := 89) X dX9_init_89 rfl ?_
  refine V_new (pc := 90) X dX9_init_90 n_RX9_44 rfl ⟨by decide, by decide⟩ ?_
  refine V_dup (pc := 93) X dX9_init_93 (Nat.ne_of_beq_eq_false rfl) ?_
  refine V_CI (pc := 94) X dX9_init_94 oX6_init l_RX9_57 eX6_init rfl rfl ⟨Nat.le_of_ble_eq_true rfl, Nat.le_of_ble_eq_true rfl⟩ ⟨Nat.le_of_ble_eq_true rfl, Nat.le_of_ble_eq_true rfl⟩ (ct_X6_init_41) rfl (by first | decide | omega | assumption) (by rfl) (by exact Nat.le_of_ble_eq_true rfl) (fun r h1 hp => ?_)
  obtain ⟨rfl, H2, hN2, rfl⟩ := hp
  replace hN2 : c_N6 (z_nw (c_n7 H) 41 (0, 5)) H2 41 11 := hN2
  refine V_aast4 (pc := 97) X dX9_init_97 (by first | rfl | assumption | (simp only [*]; done) | omega) (by first | rfl | assumption | (simp only [*]; done) | omega) (by omega) (by omega) (by decide) ?_
  refine V_heap (h' := c_n8 H2) rfl ?_
  refine V_iinc (pc := 98) X dX9_init_98 rfl rfl ?_
  refine V_goto (pc := 101) X 80 dX9_init_101 (by decide) ?_
  refine V_iload_n (pc := 80) X dX9_init_80 rfl ?_
  refine V_iconst (pc := 81) X dX9_init_81 ?_
  refine V_icmp_ge (pc := 82) X 104 dX9_init_82 (by decide) ⟨by omega, by omega⟩ ⟨by omega, by omega⟩ (fun c_82 => absurd c_82 (by decide)) (fun c_82 => ?_)
  refine V_aload_n (pc := 85) X dX9_init_85 rfl (by first | decide | omega | assumption) ?_
  refine V_gz (pc := 86) X dX9_init_86 f_RX9_46 (by first | rfl | assumption | (simp only [*]; done) | omega) 5 rfl (show _ = (37 : Int) from by unfold c_n8; rw [z_st_cell _ (by decide), z_st_cell _ (by decide), hN2.1 0 (by decide), z_nw_ne _ (by decide)]; exact c_n7_05 H) ?_
  refine V_iload_n (pc := 89) X dX9_init_89 rfl ?_
  refine V_new (pc := 90) X dX9_init_90 n_RX9_44 rfl ⟨by decide, by decide⟩ ?_
  refine V_dup (pc := 93) X dX9_init_93 (Nat.ne_of_beq_eq_false rfl) ?_
  refine V_CI (pc := 94) X dX9_init_94 oX6_init l_RX9_57 eX6_init rfl rfl ⟨Nat.le_of_ble_eq_true rfl, Nat.le_of_ble_eq_true rfl⟩ ⟨Nat.le_of_ble_eq_true rfl, Nat.le_of_ble_eq_true rfl⟩ (ct_X6_init_65) rfl (by first | decide | omega | assumption) (by rfl) (by exact Nat.le_of_ble_eq_true rfl) (fun r h1 hp => ?_)
  obtain ⟨rfl, H3, hN3, rfl⟩ := hp
  replace hN3 : c_N6 (z_nw (c_n8 H2) 65 (0, 5)) H3 65 11 := hN3
  refine V_aast4 (pc := 97) X dX9_init_97 (by first | rfl | assumption | (simp only [*]; done) | omega) (by first | rfl | assumption | (simp only [*]; done) | omega) (by omega) (by omega) (by decide) ?_
  refine V_heap (h' := c_n9 H3) rfl ?_
  refine V_iinc (pc := 98) X dX9_init_98 rfl rfl ?_
  refine V_goto (pc := 101) X 80 dX9_init_101 (by decide) ?_
  refine V_iload_n (pc := 80) X dX9_init_80 rfl ?_
  refine V_iconst (pc := 81) X dX9_init_81 ?_
  refine V_icmp_ge (pc := 82) X 104 dX9_init_82 (by decide) ⟨by omega, by omega⟩ ⟨by omega, by omega⟩ (fun c_82 => ?_) (fun c_82 => absurd c_82 (by decide))
  have q9 : ∀ q : Int, q < 41 → q ≠ 37 → c_n9 H3 q = c_n7 H q := fun q h1 h2 => by
    unfold c_n9
    rw [z_st_cell _ h2, z_st_cell _ (by omega), hN3.1 q (by omega), z_nw_ne _ (by omega)]
    unfold c_n8
    rw [z_st_cell _ h2, z_st_cell _ (by omega), hN2.1 q (by omega), z_nw_ne _ (by omega)]
  refine V_aload_n (pc := 104) X dX9_init_104 rfl (by first | decide | omega | assumption) ?_
  refine V_gz (pc := 105) X dX9_init_105 f_RX9_19 (by first | rfl | assumption | (simp only [*]; done) | omega) 1 rfl (show _ = (3 : Int) from by rw [q9 0 (by decide) (by decide)]; exact c_n7_01 H) ?_
  refine V_gz (pc := 108) X dX9_init_108 f_RX9_58 (by first | rfl | assumption | (simp only [*]; done) | omega) 0 rfl (show _ = (4 : Int) from by rw [q9 3 (by decide) (by decide), c_n7_S5 (by decide) (by decide)]; exact c_S5_30 H) ?_
  refine V_aload_n (pc := 111) X dX9_init_111 rfl (by first | decide | omega | assumption) ?_
  refine V_gz (pc := 112) X dX9_init_112 f_RX9_19 (by first | rfl | assumption | (simp only [*]; done) | omega) 1 rfl (show _ = (3 : Int) from by rw [q9 0 (by decide) (by decide)]; exact c_n7_01 H) ?_
  refine V_gz (pc := 115) X dX9_init_115 f_RX9_62 (by first | rfl | assumption | (simp only [*]; done) | omega) 1 rfl (show _ = (28 : Int) from by rw [q9 3 (by decide) (by decide), c_n7_S5 (by decide) (by decide)]; exact c_S5_31 H) ?_
  refine V_CV (pc := 118) X dX9_init_118 oX6_restart l_RX9_65 eX6_restart vX6_restart ⟨Nat.le_of_ble_eq_true rfl, Nat.le_of_ble_eq_true rfl⟩ ⟨rfl, rfl⟩ ⟨Nat.le_of_ble_eq_true rfl, Nat.le_of_ble_eq_true rfl⟩ (ct_X6_restart (n := 89) (k := 4) (P := 28) (m := 6) rfl (by rw [q9 4 (by decide) (by decide), c_n7_S5 (by decide) (by decide), c_S5_40]; exact hN.2.1) rfl (by show c_n9 H3 5 0 = 6; rw [q9 5 (by decide) (by decide), c_n7_S5 (by decide) (by decide), c_S5_ne (by decide) (by decide) (by decide)]; exact hN.2.2.2.1 0 (by decide) (by decide)) rfl (by rw [q9 6 (by decide) (by decide), c_n7_S5 (by decide) (by decide), c_S5_ne (by decide) (by decide) (by decide)]; exact (hN.2.2.2.2 0 (by decide) (by decide)).1) rfl rfl) rfl (by first | rfl | assumption | (simp only [*]; done) | omega) (by intro q h; cases h; rfl) rfl (by rfl) (by exact Nat.le_of_ble_eq_true rfl) (fun r h1 hp => ?_)
  obtain ⟨rfl, rfl⟩ := hp
  refine V_vret (st := []) (pc := 121) X hQ dX9_init_121 rfl rfl ?_
  exact ⟨rfl, H, H2, H3, hN, hN2, hN3, rfl⟩
