/-! constructors, 2 -/
set_option maxHeartbeats 4000000 in
set_option maxRecDepth 100000 in
theorem ct_X5_init {h : z_H} : z_Ct mX5_init 4 [(2, 3)] h (fun r h2 => r = none ∧ ∃ H : z_H, c_N6 (z_nw h 4 (0, 5)) H 4 11 ∧ h2 = c_S5 H) := by
  refine z_mk (L := [(2, 3)]) oX5_init.2.2.2.2 (Nat.le_of_ble_eq_true rfl) rfl ?_
  intro Γ X hQ
  refine V_aload_n (pc := 0) X dX5_init_0 rfl (by first | decide | omega | assumption) ?_
  refine V_objI (pc := 1) X dX5_init_1 (by first | decide | omega | assumption) l_RX5_3 eObj oObj ⟨Nat.le_of_ble_eq_true rfl, Nat.le_of_ble_eq_true rfl⟩ ?_
  refine V_aload_n (pc := 4) X dX5_init_4 rfl (by first | decide | omega | assumption) ?_
  refine V_new (pc := 5) X dX5_init_5 n_RX5_9 rfl ⟨by decide, by decide⟩ ?_
  refine V_dup (pc := 8) X dX5_init_8 (Nat.ne_of_beq_eq_false rfl) ?_
  refine V_CI (pc := 9) X dX5_init_9 oX6_init l_RX5_11 eX6_init rfl rfl ⟨Nat.le_of_ble_eq_true rfl, Nat.le_of_ble_eq_true rfl⟩ ⟨Nat.le_of_ble_eq_true rfl, Nat.le_of_ble_eq_true rfl⟩ (ct_X6_init_4) rfl (by first | decide | omega | assumption) (by rfl) (by exact Nat.le_of_ble_eq_true rfl) (fun r h1 hp => ?_)
  obtain ⟨rfl, H, hN, rfl⟩ := hp
  refine V_pFz (pc := 12) X dX5_init_12 f_RX5_12 rfl (by intro C T h; cases h; rfl) (by first | rfl | assumption | (simp only [*]; done) | omega) (fun b => z_fitR b _ rfl) 0 rfl ?_
  refine V_aload_n (pc := 15) X dX5_init_15 rfl (by first | decide | omega | assumption) ?_
  refine V_new (pc := 16) X dX5_init_16 n_RX5_18 rfl ⟨by decide, by decide⟩ ?_
  refine V_dup (pc := 19) X dX5_init_19 (Nat.ne_of_beq_eq_false rfl) ?_
  refine V_CI (pc := 20) X dX5_init_20 oX3_init l_RX5_20 eX3_init rfl rfl ⟨Nat.le_of_ble_eq_true rfl, Nat.le_of_ble_eq_true rfl⟩ ⟨Nat.le_of_ble_eq_true rfl, Nat.le_of_ble_eq_true rfl⟩ (ct_X3_init_28) rfl (by first | decide | omega | assumption) (by rfl) (by exact Nat.le_of_ble_eq_true rfl) (fun r h1 hp => ?_)
  obtain ⟨rfl, rfl⟩ := hp
  refine V_pz (pc := 23) X dX5_init_23 f_RX5_21 (by first | rfl | assumption | (simp only [*]; done) | omega) (fun b => z_fitR b _ rfl) 1 rfl ?_
  refine V_vret (st := []) (pc := 26) X hQ dX5_init_26 rfl rfl ?_
  exact ⟨rfl, H, hN, rfl⟩
