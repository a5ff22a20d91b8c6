/-! constructors, 1 -/
set_option maxHeartbeats 4000000 in
set_option maxRecDepth 100000 in
theorem ct_X1_init {n : Nat} {h : z_H} {k : Int} (k0 : 0 ≤ k) : z_Ct mX1_init n [(2, k)] h (z_void h) := by
  refine z_mk (L := [(2, k)]) oX1_init.2.2.2.2 (Nat.le_of_ble_eq_true rfl) rfl ?_
  intro Γ X hQ
  refine V_aload_n (pc := 0) X dX1_init_0 rfl (by first | decide | omega | assumption) ?_
  refine V_objI (pc := 1) X dX1_init_1 (by first | decide | omega | assumption) l_RX1_1 eObj oObj ⟨Nat.le_of_ble_eq_true rfl, Nat.le_of_ble_eq_true rfl⟩ ?_
  refine V_vret (st := []) (pc := 4) X hQ dX1_init_4 rfl rfl ?_
  exact ⟨rfl, rfl⟩
set_option maxHeartbeats 4000000 in
set_option maxRecDepth 100000 in
theorem ct_X2_init {k : Nat} {h : z_H} (k1 : z_kd (k + 2) (k : Int) = (0, 1)) (k2 : z_kd (k + 2) ((k + 1 : Nat) : Int) = (1, 20)) : z_Ct mX2_init (k + 1) [(2, (k : Int))] h (z_void (z_st (z_nw h (k + 1) (1, 20)) (k : Int) 0 ((k + 1 : Nat) : Int))) := by
  refine z_mk (L := [(2, (k : Int))]) oX2_init.2.2.2.2 (Nat.le_of_ble_eq_true rfl) rfl ?_
  intro Γ X hQ
  refine V_aload_n (pc := 0) X dX2_init_0 rfl (by first | decide | omega | assumption) ?_
  refine V_objI (pc := 1) X dX2_init_1 (by first | decide | omega | assumption) l_RX2_3 eObj oObj ⟨Nat.le_of_ble_eq_true rfl, Nat.le_of_ble_eq_true rfl⟩ ?_
  refine V_aload_n (pc := 4) X dX2_init_4 rfl (by first | decide | omega | assumption) ?_
  refine V_bipush (pc := 5) X dX2_init_5 (by decide) ?_
  refine V_newI (pc := 7) X dX2_init_7 aInt rfl (by decide) k2 ⟨Nat.le_of_ble_eq_true rfl, Nat.le_of_ble_eq_true rfl⟩ ?_
  refine V_pFz (pc := 9) X dX2_init_9 f_RX2_9 rfl (by intro C T h; cases h; rfl) (by first | rfl | assumption | (simp only [*]; done) | omega) (fun b => z_fitR b _ rfl) 0 rfl ?_
  refine V_vret (st := []) (pc := 12) X hQ dX2_init_12 rfl rfl ?_
  exact ⟨rfl, rfl⟩
set_option maxHeartbeats 4000000 in
set_option maxRecDepth 100000 in
theorem ct_X3_init_28 {h : z_H} : z_Ct mX3_init 29 [(2, 28)] h (z_void (c_rstH (z_st (z_nw (z_st (z_nw h 29 (1, 20)) 28 0 29) 30 (1, 256)) 28 1 30) 28)) := by
  refine z_mk (L := [(2, 28)]) oX3_init.2.2.2.2 (Nat.le_of_ble_eq_true rfl) rfl ?_
  intro Γ X hQ
  refine V_aload_n (pc := 0) X dX3_init_0 rfl (by first | decide | omega | assumption) ?_
  refine V_objI (pc := 1) X dX3_init_1 (by first | decide | omega | assumption) l_RX3_3 eObj oObj ⟨Nat.le_of_ble_eq_true rfl, Nat.le_of_ble_eq_true rfl⟩ ?_
  refine V_aload_n (pc := 4) X dX3_init_4 rfl (by first | decide | omega | assumption) ?_
  refine V_bipush (pc := 5) X dX3_init_5 (by decide) ?_
  refine V_newI (pc := 7) X dX3_init_7 aInt rfl (by decide) rfl ⟨by decide, by decide⟩ ?_
  refine V_pFz (pc := 9) X dX3_init_9 f_RX3_9 rfl (by intro C T h; cases h; rfl) (by first | rfl | assumption | (simp only [*]; done) | omega) (fun b => z_fitR b _ rfl) 0 rfl ?_
  refine V_aload_n (pc := 12) X dX3_init_12 rfl (by first | decide | omega | assumption) ?_
  refine V_sipush (pc := 13) X dX3_init_13 (by decide) ?_
  refine V_newI (pc := 16) X dX3_init_16 aInt rfl (by decide) rfl ⟨by decide, by decide⟩ ?_
  refine V_pFz (pc := 18) X dX3_init_18 f_RX3_15 rfl (by intro C T h; cases h; rfl) (by first | rfl | assumption | (simp only [*]; done) | omega) (fun b => z_fitR b _ rfl) 1 rfl ?_
  refine V_aload_n (pc := 21) X dX3_init_21 rfl (by first | decide | omega | assumption) ?_
  refine V_CV (pc := 22) X dX3_init_22 oX3_restart l_RX3_18 eX3_restart vX3_restart ⟨Nat.le_of_ble_eq_true rfl, Nat.le_of_ble_eq_true rfl⟩ ⟨rfl, rfl⟩ ⟨Nat.le_of_ble_eq_true rfl, Nat.le_of_ble_eq_true rfl⟩ (ct_X3_restart (n := 31) (P := 28) rfl (show (z_st (z_nw (z_st (z_nw h 29 (1, 20)) 28 0 29) 30 (1, 256)) 28 1 30) 28 0 = 28 + 1 from by rw [z_st_slot _ (by decide), z_nw_ne _ (by decide), z_st_at]; rfl) (show (z_st (z_nw (z_st (z_nw h 29 (1, 20)) 28 0 29) 30 (1, 256)) 28 1 30) 28 1 = 28 + 2 from by rw [z_st_at]; rfl) rfl rfl) rfl (by first | rfl | assumption | (simp only [*]; done) | omega) (by intro q h; cases h; rfl) rfl (by rfl) (by exact Nat.le_of_ble_eq_true rfl) (fun r h1 hp => ?_)
  obtain ⟨rfl, rfl⟩ := hp
  refine V_vret (st := []) (pc := 25) X hQ dX3_init_25 rfl rfl ?_
  exact ⟨rfl, rfl⟩
set_option maxHeartbeats 4000000 in
set_option maxRecDepth 100000 in
theorem ct_X3_init_38 {h : z_H} : z_Ct mX3_init 39 [(2, 38)] h (z_void (c_rstH (z_st (z_nw (z_st (z_nw h 39 (1, 20)) 38 0 39) 40 (1, 256)) 38 1 40) 38)) := by
  refine z_mk (L := [(2, 38)]) oX3_init.2.2.2.2 (Nat.le_of_ble_eq_true rfl) rfl ?_
  intro Γ X hQ
  refine V_aload_n (pc := 0) X dX3_init_0 rfl (by first | decide | omega | assumption) ?_
  refine V_objI (pc := 1) X dX3_init_1 (by first | decide | omega | assumption) l_RX3_3 eObj oObj ⟨Nat.le_of_ble_eq_true rfl, Nat.le_of_ble_eq_true rfl⟩ ?_
  refine V_aload_n (pc := 4) X dX3_init_4 rfl (by first | decide | omega | assumption) ?_
  refine V_bipush (pc := 5) X dX3_init_5 (by decide) ?_
  refine V_newI (pc := 7) X dX3_init_7 aInt rfl (by decide) rfl ⟨by decide, by decide⟩ ?_
  refine V_pFz (pc := 9) X dX3_init_9 f_RX3_9 rfl (by intro C T h; cases h; rfl) (by first | rfl | assumption | (simp only [*]; done) | omega) (fun b => z_fitR b _ rfl) 0 rfl ?_
  refine V_aload_n (pc := 12) X dX3_init_12 rfl (by first | decide | omega | assumption) ?_
  refine V_sipush (pc := 13) X dX3_init_13 (by decide) ?_
  refine V_newI (pc := 16) X dX3_init_16 aInt rfl (by decide) rfl ⟨by decide, by decide⟩ ?_
  refine V_pFz (pc := 18) X dX3_init_18 f_RX3_15 rfl (by intro C T h; cases h; rfl) (by first | rfl | assumption | (simp only [*]; done) | omega) (fun b => z_fitR b _ rfl) 1 rfl ?_
  refine V_aload_n (pc := 21) X dX3_init_21 rfl (by first | decide | omega | assumption) ?_
  refine V_CV (pc := 22) X dX3_init_22 oX3_restart l_RX3_18 eX3_restart vX3_restart ⟨Nat.le_of_ble_eq_true rfl, Nat.le_of_ble_eq_true rfl⟩ ⟨rfl, rfl⟩ ⟨Nat.le_of_ble_eq_true rfl, Nat.le_of_ble_eq_true rfl⟩ (ct_X3_restart (n := 41) (P := 38) rfl (show (z_st (z_nw (z_st (z_nw h 39 (1, 20)) 38 0 39) 40 (1, 256)) 38 1 40) 38 0 = 38 + 1 from by rw [z_st_slot _ (by decide), z_nw_ne _ (by decide), z_st_at]; rfl) (show (z_st (z_nw (z_st (z_nw h 39 (1, 20)) 38 0 39) 40 (1, 256)) 38 1 40) 38 1 = 38 + 2 from by rw [z_st_at]; rfl) rfl rfl) rfl (by first | rfl | assumption | (simp only [*]; done) | omega) (by intro q h; cases h; rfl) rfl (by rfl) (by exact Nat.le_of_ble_eq_true rfl) (fun r h1 hp => ?_)
  obtain ⟨rfl, rfl⟩ := hp
  refine V_vret (st := []) (pc := 25) X hQ dX3_init_25 rfl rfl ?_
  exact ⟨rfl, rfl⟩
set_option maxHeartbeats 4000000 in
set_option maxRecDepth 100000 in
theorem ct_X4_init {h : z_H} : z_Ct mX4_init 2 [(2, 1)] h (z_void (z_st (z_nw h 2 (1, 170)) 1 0 2)) := by
  refine z_mk (L := [(2, 1)]) oX4_init.2.2.2.2 (Nat.le_of_ble_eq_true rfl) rfl ?_
  intro Γ X hQ
  refine V_aload_n (pc := 0) X dX4_init_0 rfl (by first | decide | omega | assumption) ?_
  refine V_objI (pc := 1) X dX4_init_1 (by first | decide | omega | assumption) l_RX4_3 eObj oObj ⟨Nat.le_of_ble_eq_true rfl, Nat.le_of_ble_eq_true rfl⟩ ?_
  refine V_aload_n (pc := 4) X dX4_init_4 rfl (by first | decide | omega | assumption) ?_
  refine V_sipush (pc := 5) X dX4_init_5 (by decide) ?_
  refine V_newI (pc := 8) X dX4_init_8 aInt rfl (by decide) rfl ⟨by decide, by decide⟩ ?_
  refine V_pFz (pc := 10) X dX4_init_10 f_RX4_11 rfl (by intro C T h; cases h; rfl) (by first | rfl | assumption | (simp only [*]; done) | omega) (fun b => z_fitR b _ rfl) 0 rfl ?_
  refine V_vret (st := []) (pc := 13) X hQ dX4_init_13 rfl rfl ?_
  exact ⟨rfl, rfl⟩
set_option maxHeartbeats 4000000 in
set_option maxRecDepth 100000 in
theorem ct_X7_init {h : z_H} : z_Ct mX7_init 33 [(2, 32)] h (z_void (z_st (z_nw h 33 (1, 756)) 32 0 33)) := by
  refine z_mk (L := [(2, 32)]) oX7_init.2.2.2.2 (Nat.le_of_ble_eq_true rfl) rfl ?_
  intro Γ X hQ
  refine V_aload_n (pc := 0) X dX7_init_0 rfl (by first | decide | omega | assumption) ?_
  refine V_objI (pc := 1) X dX7_init_1 (by first | decide | omega | assumption) l_RX7_3 eObj oObj ⟨Nat.le_of_ble_eq_true rfl, Nat.le_of_ble_eq_true rfl⟩ ?_
  refine V_aload_n (pc := 4) X dX7_init_4 rfl (by first | decide | omega | assumption) ?_
  refine V_sipush (pc := 5) X dX7_init_5 (by decide) ?_
  refine V_newI (pc := 8) X dX7_init_8 aInt rfl (by decide) rfl ⟨by decide, by decide⟩ ?_
  refine V_pFz (pc := 10) X dX7_init_10 f_RX7_9 rfl (by intro C T h; cases h; rfl) (by first | rfl | assumption | (simp only [*]; done) | omega) (fun b => z_fitR b _ rfl) 0 rfl ?_
  refine V_vret (st := []) (pc := 13) X hQ dX7_init_13 rfl rfl ?_
  exact ⟨rfl, rfl⟩
set_option maxHeartbeats 4000000 in
set_option maxRecDepth 100000 in
theorem ct_X8_init {h : z_H} : z_Ct mX8_init 35 [(2, 34)] h (z_void (z_st (z_nw (z_st (z_nw h 35 (1, 6)) 34 0 35) 36 (1, 6)) 34 1 36)) := by
  refine z_mk (L := [(2, 34)]) oX8_init.2.2.2.2 (Nat.le_of_ble_eq_true rfl) rfl ?_
  intro Γ X hQ
  refine V_aload_n (pc := 0) X dX8_init_0 rfl (by first | decide | omega | assumption) ?_
  refine V_objI (pc := 1) X dX8_init_1 (by first | decide | omega | assumption) l_RX8_3 eObj oObj ⟨Nat.le_of_ble_eq_true rfl, Nat.le_of_ble_eq_true rfl⟩ ?_
  refine V_aload_n (pc := 4) X dX8_init_4 rfl (by first | decide | omega | assumption) ?_
  refine V_bipush (pc := 5) X dX8_init_5 (by decide) ?_
  refine V_newI (pc := 7) X dX8_init_7 aInt rfl (by decide) rfl ⟨by decide, by decide⟩ ?_
  refine V_pFz (pc := 9) X dX8_init_9 f_RX8_11 rfl (by intro C T h; cases h; rfl) (by first | rfl | assumption | (simp only [*]; done) | omega) (fun b => z_fitR b _ rfl) 0 rfl ?_
  refine V_aload_n (pc := 12) X dX8_init_12 rfl (by first | decide | omega | assumption) ?_
  refine V_bipush (pc := 13) X dX8_init_13 (by decide) ?_
  refine V_newI (pc := 15) X dX8_init_15 aInt rfl (by decide) rfl ⟨by decide, by decide⟩ ?_
  refine V_pFz (pc := 17) X dX8_init_17 f_RX8_15 rfl (by intro C T h; cases h; rfl) (by first | rfl | assumption | (simp only [*]; done) | omega) (fun b => z_fitR b _ rfl) 1 rfl ?_
  refine V_vret (st := []) (pc := 20) X hQ dX8_init_20 rfl rfl ?_
  exact ⟨rfl, rfl⟩
set_option maxHeartbeats 4000000 in
set_option maxRecDepth 100000 in
theorem ct_X6_init_4 {h : z_H} : z_Ct mX6_init 5 [(2, 4)] h (fun r h2 => r = none ∧ ∃ H : z_H, c_N6 h H 4 11 ∧ h2 = z_st H 4 2 6) := by
  refine z_mk (L := [(2, 4), (9, 0)]) oX6_init.2.2.2.2 (Nat.le_of_ble_eq_true rfl) rfl ?_
  intro Γ X hQ
  have hka : ∀ i : Nat, i < 11 → z_kd (6 + 2 * i + 1) ((6 + 2 * i : Nat) : Int) = (0, 1) := by decide +kernel
  have hkd : ∀ i : Nat, i < 11 → z_kd (6 + 2 * i + 2) ((6 + 2 * i : Nat) : Int) = (0, 1) := by decide +kernel
  have hke : ∀ i : Nat, i < 11 → z_kd (6 + 2 * i + 2) ((6 + 2 * i + 1 : Nat) : Int) = (1, 20) := by decide +kernel
  have hkc : ∀ i : Nat, i < 11 → z_kd (6 + 2 * i) 4 = (0, 5) := by decide +kernel
  have hkf : ∀ i : Nat, i < 11 → z_kd (6 + 2 * i + 1 + 1) 5 = (3, 11) := by decide +kernel
  have hkg : ∀ i : Nat, i < 11 → z_kd (6 + 2 * i + 1 + 1) ((6 + 2 * i : Nat) : Int) = (0, 1) := by decide +kernel
  refine V_aload_n (pc := 0) X dX6_init_0 rfl (by first | decide | omega | assumption) ?_
  refine V_objI (pc := 1) X dX6_init_1 (by first | decide | omega | assumption) l_RX6_1 eObj oObj ⟨Nat.le_of_ble_eq_true rfl, Nat.le_of_ble_eq_true rfl⟩ ?_
  refine V_aload_n (pc := 4) X dX6_init_4 rfl (by first | decide | omega | assumption) ?_
  refine V_bipush (pc := 5) X dX6_init_5 (by decide) ?_
  refine V_newM (pc := 7) X dX6_init_7 k_RX6_9 rfl (by decide) rfl ⟨by decide, by decide⟩ ?_
  refine V_pFz (pc := 10) X dX6_init_10 f_RX6_11 rfl (by intro C T h; cases h; rfl) (by first | rfl | assumption | (simp only [*]; done) | omega) (fun b => z_fitR b _ rfl) 0 rfl ?_
  refine V_iconst (pc := 13) X dX6_init_13 ?_
  refine V_istore_n (pc := 14) X dX6_init_14 (by exact Nat.le_of_ble_eq_true rfl) rfl ?_
  have lp_15 : ∀ (m : Nat) (i : Nat) (H : z_H), 11 - i < m → i ≤ 11 → c_N6 h H 4 i → z_V Γ (6 + 2 * i, 1 + 2 * i, 11 + 24 * i) 15 [(2, 4), (0, (i : Int))] [] H := by
    intro m
    induction m with
    | zero => intro i H hm; exact absurd hm (Nat.not_lt_zero _)
    | succ m ih_15 =>
      intro i H hm hi1 hN
      have hK0 : H 4 0 = 5 := hN.2.1
      refine V_iload_n (pc := 15) X dX6_init_15 rfl ?_
      refine V_bipush (pc := 16) X dX6_init_16 (by decide) ?_
      refine V_icmp_gt (pc := 18) X 40 dX6_init_18 (by decide) ⟨by omega, by omega⟩ ⟨by omega, by omega⟩ (fun c_18 => ?_) (fun c_18 => ?_)
      · skip
        obtain rfl : i = 11 := by omega
        refine V_aload_n (pc := 40) X dX6_init_40 rfl (by first | decide | omega | assumption) ?_
        refine V_aload_n (pc := 41) X dX6_init_41 rfl (by first | decide | omega | assumption) ?_
        refine V_gz (pc := 42) X dX6_init_42 f_RX6_11 rfl 0 rfl hK0 ?_
        refine V_iconst (pc := 45) X dX6_init_45 ?_
        refine V_aald3 (pc := 46) X dX6_init_46 rfl (by omega) (by omega) (by decide) (show _ = 6 from (hN.2.2.2.1 0 (by decide) (by omega))) ?_
        refine V_pz (pc := 47) X dX6_init_47 f_RX6_16 rfl (fun b => z_fitR b _ rfl) 2 rfl ?_
        refine V_vret (st := []) (pc := 50) X hQ dX6_init_50 rfl rfl ?_
        exact ⟨rfl, H, hN, rfl⟩
      · skip
        refine V_aload_n (pc := 21) X dX6_init_21 rfl (by first | decide | omega | assumption) ?_
        refine V_gz (pc := 22) X dX6_init_22 f_RX6_11 (hkc i (by omega)) 0 rfl hK0 ?_
        refine V_iload_n (pc := 25) X dX6_init_25 rfl ?_
        refine V_new (pc := 26) X dX6_init_26 n_RX6_9 (hka i (by omega)) ⟨by show 1 + 2 * i + 1 ≤ 23; omega, by show 11 + 24 * i + 4 ≤ 275; omega⟩ ?_
        refine V_dup (pc := 29) X dX6_init_29 (Nat.ne_of_beq_eq_false rfl) ?_
        refine V_CN (pc := 30) X dX6_init_30 oX2_init l_RX6_15 eX2_init rfl rfl ⟨Nat.le_of_ble_eq_true rfl, Nat.le_of_ble_eq_true rfl⟩ ⟨by show 1 + 2 * i + 1 + 1 ≤ 23; omega, by show 11 + 24 * i + 4 + 20 ≤ 275; omega⟩ (ct_X2_init (k := 6 + 2 * i) (hkd i (by omega)) (hke i (by omega))) rfl (by first | decide | omega | assumption) (by rfl) (by exact Nat.le_of_ble_eq_true rfl) (fun r h1 hp => ?_)
        obtain ⟨rfl, rfl⟩ := hp
        refine V_aast3 (pc := 33) X dX6_init_33 (hkf i (by omega)) (hkg i (by omega)) (by omega) (by omega) (by decide) ?_
        refine V_iinc (pc := 34) X dX6_init_34 rfl rfl ?_
        refine V_goto (pc := 37) X 15 dX6_init_37 (by decide) ?_
        exact ih_15 (i + 1) _ (by omega) (by omega) (c_N6_step hN)
  have hN0 : c_N6 h (z_st (z_nw h 5 (3, 11)) 4 0 5) 4 0 := ⟨fun q hq => by rw [z_st_cell _ (by omega), z_nw_ne _ (by omega)], by show z_st (z_nw h 5 (3, 11)) 4 0 5 4 0 = 4 + 1; rw [z_st_at]; rfl, by show z_st (z_nw h 5 (3, 11)) 4 0 5 4 1 = h 4 1; rw [z_st_slot _ (by decide), z_nw_ne _ (by decide)], fun j a b => absurd b (by omega), fun j a b => absurd b (by omega)⟩
  exact lp_15 _ 0 _ (Nat.lt_succ_self _) (by decide) hN0
set_option maxHeartbeats 4000000 in
set_option maxRecDepth 100000 in
theorem ct_X6_init_41 {h : z_H} : z_Ct mX6_init 42 [(2, 41)] h (fun r h2 => r = none ∧ ∃ H : z_H, c_N6 h H 41 11 ∧ h2 = z_st H 41 2 43) := by
  refine z_mk (L := [(2, 41), (9, 0)]) oX6_init.2.2.2.2 (Nat.le_of_ble_eq_true rfl) rfl ?_
  intro Γ X hQ
  have hka : ∀ i : Nat, i < 11 → z_kd (43 + 2 * i + 1) ((43 + 2 * i : Nat) : Int) = (0, 1) := by decide +kernel
  have hkd : ∀ i : Nat, i < 11 → z_kd (43 + 2 * i + 2) ((43 + 2 * i : Nat) : Int) = (0, 1) := by decide +kernel
  have hke : ∀ i : Nat, i < 11 → z_kd (43 + 2 * i + 2) ((43 + 2 * i + 1 : Nat) : Int) = (1, 20) := by decide +kernel
  have hkc : ∀ i : Nat, i < 11 → z_kd (43 + 2 * i) 41 = (0, 5) := by decide +kernel
  have hkf : ∀ i : Nat, i < 11 → z_kd (43 + 2 * i + 1 + 1) 42 = (3, 11) := by decide +kernel
  have hkg : ∀ i : Nat, i < 11 → z_kd (43 + 2 * i + 1 + 1) ((43 + 2 * i : Nat) : Int) = (0, 1) := by decide +kernel
  refine V_aload_n (pc := 0) X dX6_init_0 rfl (by first | decide | omega | assumption) ?_
  refine V_objI (pc := 1) X dX6_init_1 (by first | decide | omega | assumption) l_RX6_1 eObj oObj ⟨Nat.le_of_ble_eq_true rfl, Nat.le_of_ble_eq_true rfl⟩ ?_
  refine V_aload_n (pc := 4) X dX6_init_4 rfl (by first | decide | omega | assumption) ?_
  refine V_bipush (pc := 5) X dX6_init_5 (by decide) ?_
  refine V_newM (pc := 7) X dX6_init_7 k_RX6_9 rfl (by decide) rfl ⟨by decide, by decide⟩ ?_
  refine V_pFz (pc := 10) X dX6_init_10 f_RX6_11 rfl (by intro C T h; cases h; rfl) (by first | rfl | assumption | (simp only [*]; done) | omega) (fun b => z_fitR b _ rfl) 0 rfl ?_
  refine V_iconst (pc := 13) X dX6_init_13 ?_
  refine V_istore_n (pc := 14) X dX6_init_14 (by exact Nat.le_of_ble_eq_true rfl) rfl ?_
  have lp_15 : ∀ (m : Nat) (i : Nat) (H : z_H), 11 - i < m → i ≤ 11 → c_N6 h H 41 i → z_V Γ (43 + 2 * i, 1 + 2 * i, 11 + 24 * i) 15 [(2, 41), (0, (i : Int))] [] H := by
    intro m
    induction m with
    | zero => intro i H hm; exact absurd hm (Nat.not_lt_zero _)
    | succ m ih_15 =>
      intro i H hm hi1 hN
      have hK0 : H 41 0 = 42 := hN.2.1
      refine V_iload_n (pc := 15) X dX6_init_15 rfl ?_
      refine V_bipush (pc := 16) X dX6_init_16 (by decide) ?_
      refine V_icmp_gt (pc := 18) X 40 dX6_init_18 (by decide) ⟨by omega, by omega⟩ ⟨by omega, by omega⟩ (fun c_18 => ?_) (fun c_18 => ?_)
      · skip
        obtain rfl : i = 11 := by omega
        refine V_aload_n (pc := 40) X dX6_init_40 rfl (by first | decide | omega | assumption) ?_
        refine V_aload_n (pc := 41) X dX6_init_41 rfl (by first | decide | omega | assumption) ?_
        refine V_gz (pc := 42) X dX6_init_42 f_RX6_11 rfl 0 rfl hK0 ?_
        refine V_iconst (pc := 45) X dX6_init_45 ?_
        refine V_aald3 (pc := 46) X dX6_init_46 rfl (by omega) (by omega) (by decide) (show _ = 43 from (hN.2.2.2.1 0 (by decide) (by omega))) ?_
        refine V_pz (pc := 47) X dX6_init_47 f_RX6_16 rfl (fun b => z_fitR b _ rfl) 2 rfl ?_
        refine V_vret (st := []) (pc := 50) X hQ dX6_init_50 rfl rfl ?_
        exact ⟨rfl, H, hN, rfl⟩
      · skip
        refine V_aload_n (pc := 21) X dX6_init_21 rfl (by first | decide | omega | assumption) ?_
        refine V_gz (pc := 22) X dX6_init_22 f_RX6_11 (hkc i (by omega)) 0 rfl hK0 ?_
        refine V_iload_n (pc := 25) X dX6_init_25 rfl ?_
        refine V_new (pc := 26) X dX6_init_26 n_RX6_9 (hka i (by omega)) ⟨by show 1 + 2 * i + 1 ≤ 23; omega, by show 11 + 24 * i + 4 ≤ 275; omega⟩ ?_
        refine V_dup (pc := 29) X dX6_init_29 (Nat.ne_of_beq_eq_false rfl) ?_
        refine V_CN (pc := 30) X dX6_init_30 oX2_init l_RX6_15 eX2_init rfl rfl ⟨Nat.le_of_ble_eq_true rfl, Nat.le_of_ble_eq_true rfl⟩ ⟨by show 1 + 2 * i + 1 + 1 ≤ 23; omega, by show 11 + 24 * i + 4 + 20 ≤ 275; omega⟩ (ct_X2_init (k := 43 + 2 * i) (hkd i (by omega)) (hke i (by omega))) rfl (by first | decide | omega | assumption) (by rfl) (by exact Nat.le_of_ble_eq_true rfl) (fun r h1 hp => ?_)
        obtain ⟨rfl, rfl⟩ := hp
        refine V_aast3 (pc := 33) X dX6_init_33 (hkf i (by omega)) (hkg i (by omega)) (by omega) (by omega) (by decide) ?_
        refine V_iinc (pc := 34) X dX6_init_34 rfl rfl ?_
        refine V_goto (pc := 37) X 15 dX6_init_37 (by decide) ?_
        exact ih_15 (i + 1) _ (by omega) (by omega) (c_N6_step hN)
  have hN0 : c_N6 h (z_st (z_nw h 42 (3, 11)) 41 0 42) 41 0 := ⟨fun q hq => by rw [z_st_cell _ (by omega), z_nw_ne _ (by omega)], by show z_st (z_nw h 42 (3, 11)) 41 0 42 41 0 = 41 + 1; rw [z_st_at]; rfl, by show z_st (z_nw h 42 (3, 11)) 41 0 42 41 1 = h 41 1; rw [z_st_slot _ (by decide), z_nw_ne _ (by decide)], fun j a b => absurd b (by omega), fun j a b => absurd b (by omega)⟩
  exact lp_15 _ 0 _ (Nat.lt_succ_self _) (by decide) hN0
set_option maxHeartbeats 4000000 in
set_option maxRecDepth 100000 in
theorem ct_X6_init_65 {h : z_H} : z_Ct mX6_init 66 [(2, 65)] h (fun r h2 => r = none ∧ ∃ H : z_H, c_N6 h H 65 11 ∧ h2 = z_st H 65 2 67) := by
  refine z_mk (L := [(2, 65), (9, 0)]) oX6_init.2.2.2.2 (Nat.le_of_ble_eq_true rfl) rfl ?_
  intro Γ X hQ
  have hka : ∀ i : Nat, i < 11 → z_kd (67 + 2 * i + 1) ((67 + 2 * i : Nat) : Int) = (0, 1) := by decide +kernel
  have hkd : ∀ i : Nat, i < 11 → z_kd (67 + 2 * i + 2) ((67 + 2 * i : Nat) : Int) = (0, 1) := by decide +kernel
  have hke : ∀ i : Nat, i < 11 → z_kd (67 + 2 * i + 2) ((67 + 2 * i + 1 : Nat) : Int) = (1, 20) := by decide +kernel
  have hkc : ∀ i : Nat, i < 11 → z_kd (67 + 2 * i) 65 = (0, 5) := by decide +kernel
  have hkf : ∀ i : Nat, i < 11 → z_kd (67 + 2 * i + 1 + 1) 66 = (3, 11) := by decide +kernel
  have hkg : ∀ i : Nat, i < 11 → z_kd (67 + 2 * i + 1 + 1) ((67 + 2 * i : Nat) : Int) = (0, 1) := by decide +kernel
  refine V_aload_n (pc := 0) X dX6_init_0 rfl (by first | decide | omega | assumption) ?_
  refine V_objI (pc := 1) X dX6_init_1 (by first | decide | omega | assumption) l_RX6_1 eObj oObj ⟨Nat.le_of_ble_eq_true rfl, Nat.le_of_ble_eq_true rfl⟩ ?_
  refine V_aload_n (pc := 4) X dX6_init_4 rfl (by first | decide | omega | assumption) ?_
  refine V_bipush (pc := 5) X dX6_init_5 (by decide) ?_
  refine V_newM (pc := 7) X dX6_init_7 k_RX6_9 rfl (by decide) rfl ⟨by decide, by decide⟩ ?_
  refine V_pFz (pc := 10) X dX6_init_10 f_RX6_11 rfl (by intro C T h; cases h; rfl) (by first | rfl | assumption | (simp only [*]; done) | omega) (fun b => z_fitR b _ rfl) 0 rfl ?_
  refine V_iconst (pc := 13) X dX6_init_13 ?_
  refine V_istore_n (pc := 14) X dX6_init_14 (by exact Nat.le_of_ble_eq_true rfl) rfl ?_
  have lp_15 : ∀ (m : Nat) (i : Nat) (H : z_H), 11 - i < m → i ≤ 11 → c_N6 h H 65 i → z_V Γ (67 + 2 * i, 1 + 2 * i, 11 + 24 * i) 15 [(2, 65), (0, (i : Int))] [] H := by
    intro m
    induction m with
    | zero => intro i H hm; exact absurd hm (Nat.not_lt_zero _)
    | succ m ih_15 =>
      intro i H hm hi1 hN
      have hK0 : H 65 0 = 66 := hN.2.1
      refine V_iload_n (pc := 15) X dX6_init_15 rfl ?_
      refine V_bipush (pc := 16) X dX6_init_16 (by decide) ?_
      refine V_icmp_gt (pc := 18) X 40 dX6_init_18 (by decide) ⟨by omega, by omega⟩ ⟨by omega, by omega⟩ (fun c_18 => ?_) (fun c_18 => ?_)
      · skip
        obtain rfl : i = 11 := by omega
        refine V_aload_n (pc := 40) X dX6_init_40 rfl (by first | decide | omega | assumption) ?_
        refine V_aload_n (pc := 41) X dX6_init_41 rfl (by first | decide | omega | assumption) ?_
        refine V_gz (pc := 42) X dX6_init_42 f_RX6_11 rfl 0 rfl hK0 ?_
        refine V_iconst (pc := 45) X dX6_init_45 ?_
        refine V_aald3 (pc := 46) X dX6_init_46 rfl (by omega) (by omega) (by decide) (show _ = 67 from (hN.2.2.2.1 0 (by decide) (by omega))) ?_
        refine V_pz (pc := 47) X dX6_init_47 f_RX6_16 rfl (fun b => z_fitR b _ rfl) 2 rfl ?_
        refine V_vret (st := []) (pc := 50) X hQ dX6_init_50 rfl rfl ?_
        exact ⟨rfl, H, hN, rfl⟩
      · skip
        refine V_aload_n (pc := 21) X dX6_init_21 rfl (by first | decide | omega | assumption) ?_
        refine V_gz (pc := 22) X dX6_init_22 f_RX6_11 (hkc i (by omega)) 0 rfl hK0 ?_
        refine V_iload_n (pc := 25) X dX6_init_25 rfl ?_
        refine V_new (pc := 26) X dX6_init_26 n_RX6_9 (hka i (by omega)) ⟨by show 1 + 2 * i + 1 ≤ 23; omega, by show 11 + 24 * i + 4 ≤ 275; omega⟩ ?_
        refine V_dup (pc := 29) X dX6_init_29 (Nat.ne_of_beq_eq_false rfl) ?_
        refine V_CN (pc := 30) X dX6_init_30 oX2_init l_RX6_15 eX2_init rfl rfl ⟨Nat.le_of_ble_eq_true rfl, Nat.le_of_ble_eq_true rfl⟩ ⟨by show 1 + 2 * i + 1 + 1 ≤ 23; omega, by show 11 + 24 * i + 4 + 20 ≤ 275; omega⟩ (ct_X2_init (k := 67 + 2 * i) (hkd i (by omega)) (hke i (by omega))) rfl (by first | decide | omega | assumption) (by rfl) (by exact Nat.le_of_ble_eq_true rfl) (fun r h1 hp => ?_)
        obtain ⟨rfl, rfl⟩ := hp
        refine V_aast3 (pc := 33) X dX6_init_33 (hkf i (by omega)) (hkg i (by omega)) (by omega) (by omega) (by decide) ?_
        refine V_iinc (pc := 34) X dX6_init_34 rfl rfl ?_
        refine V_goto (pc := 37) X 15 dX6_init_37 (by decide) ?_
        exact ih_15 (i + 1) _ (by omega) (by omega) (c_N6_step hN)
  have hN0 : c_N6 h (z_st (z_nw h 66 (3, 11)) 65 0 66) 65 0 := ⟨fun q hq => by rw [z_st_cell _ (by omega), z_nw_ne _ (by omega)], by show z_st (z_nw h 66 (3, 11)) 65 0 66 65 0 = 65 + 1; rw [z_st_at]; rfl, by show z_st (z_nw h 66 (3, 11)) 65 0 66 65 1 = h 65 1; rw [z_st_slot _ (by decide), z_nw_ne _ (by decide)], fun j a b => absurd b (by omega), fun j a b => absurd b (by omega)⟩
  exact lp_15 _ 0 _ (Nat.lt_succ_self _) (by decide) hN0
