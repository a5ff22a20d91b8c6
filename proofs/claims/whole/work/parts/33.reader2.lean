/-! Reader, 2 -/
set_option maxHeartbeats 4000000 in
set_option maxRecDepth 100000 in
theorem ct_X4_stop {H : z_H} {T : Int → Int} {N : Int} (hR : c_Rd H T N) {q : t_Q} (hq : t_OK N q) : z_Ct mX4_stop 107 [(2, 1)] (c_tk H q) (fun r h2 => r = some (0, z_b (decide ((t_nx T N q).2.2.1 = 3))) ∧ h2 = c_tk H (t_nx T N q)) := by
  refine z_mk (L := [(2, 1)]) oX4_stop.2.2.2.2 (Nat.le_of_ble_eq_true rfl) rfl ?_
  intro Γ X hQ
  obtain ⟨r10, r11, r2, hN, hT⟩ := id hR
  obtain ⟨⟨qa, qb⟩, ⟨qc, qd⟩, ⟨qe, qf⟩, qg, qi⟩ := id hq
  have k1 := t_nx_ok hN hT hq
  obtain ⟨⟨ra, rb⟩, ⟨rc, rd⟩, ⟨re, rf⟩, rg, ri⟩ := id k1
  refine V_aload_n (pc := 0) X dX4_stop_0 rfl (by first | decide | omega | assumption) ?_
  refine V_CV (pc := 1) X dX4_stop_1 oX4_step l_RX4_34 eX4_step vX4_step ⟨Nat.le_of_ble_eq_true rfl, Nat.le_of_ble_eq_true rfl⟩ ⟨rfl, rfl⟩ ⟨Nat.le_of_ble_eq_true rfl, Nat.le_of_ble_eq_true rfl⟩ (ct_X4_step (n := q.1) (s0 := q.2.1) (o := q.2.2.1) (v := q.2.2.2) hR qa qb) rfl (by first | rfl | assumption | (simp only [*]; done) | omega) (by intro q h; cases h; rfl) rfl (by rfl) (by exact Nat.le_of_ble_eq_true rfl) (fun r h1 hp => ?_)
  obtain ⟨rfl, rfl⟩ := hp
  refine V_aload_n (pc := 4) X dX4_stop_4 rfl (by first | decide | omega | assumption) ?_
  refine V_gz (pc := 5) X dX4_stop_5 f_RX4_37 (by first | rfl | assumption | (simp only [*]; done) | omega) 4 rfl (show _ = (t_nx T N q).2.2.1 from c_tk_4 H (t_nx T N q)) ?_
  refine V_iconst (pc := 8) X dX4_stop_8 ?_
  refine V_icmp_ne (pc := 9) X 16 dX4_stop_9 (by decide) ⟨by omega, by omega⟩ ⟨by omega, by omega⟩ (fun c_9 => ?_) (fun c_9 => ?_)
  · skip
    refine V_iconst (pc := 16) X dX4_stop_16 ?_
    refine V_zret (st := []) (pc := 17) X hQ dX4_stop_17 rfl (by omega) rfl ?_
    exact ⟨by simp [z_b, c_9], rfl⟩
  · skip
    refine V_iconst (pc := 12) X dX4_stop_12 ?_
    refine V_goto (pc := 13) X 17 dX4_stop_13 (by decide) ?_
    refine V_zret (st := []) (pc := 17) X hQ dX4_stop_17 rfl (by omega) rfl ?_
    exact ⟨by simp [z_b, c_9], rfl⟩
set_option maxHeartbeats 4000000 in
set_option maxRecDepth 100000 in
theorem ct_X4_number {H : z_H} {T : Int → Int} {N : Int} (hR : c_Rd H T N) {q : t_Q} (hq : t_OK N q) {lo hi : Int} (h1 : z_R lo) (h2 : z_R hi) : z_Ct mX4_number 107 [(2, 1), (0, lo), (0, hi)] (c_tk H q) (fun r h2 => r = some (0, z_b (t_nm lo hi (t_nx T N q))) ∧ h2 = c_tk H (t_nx T N q)) := by
  refine z_mk (L := [(2, 1), (0, lo), (0, hi)]) oX4_number.2.2.2.2 (Nat.le_of_ble_eq_true rfl) rfl ?_
  intro Γ X hQ
  obtain ⟨r10, r11, r2, hN, hT⟩ := id hR
  obtain ⟨⟨qa, qb⟩, ⟨qc, qd⟩, ⟨qe, qf⟩, qg, qi⟩ := id hq
  have k1 := t_nx_ok hN hT hq
  obtain ⟨⟨ra, rb⟩, ⟨rc, rd⟩, ⟨re, rf⟩, rg, ri⟩ := id k1
  obtain ⟨l1, l2⟩ := h1
  obtain ⟨u1, u2⟩ := h2
  refine V_aload_n (pc := 0) X dX4_number_0 rfl (by first | decide | omega | assumption) ?_
  refine V_CV (pc := 1) X dX4_number_1 oX4_step l_RX4_34 eX4_step vX4_step ⟨Nat.le_of_ble_eq_true rfl, Nat.le_of_ble_eq_true rfl⟩ ⟨rfl, rfl⟩ ⟨Nat.le_of_ble_eq_true rfl, Nat.le_of_ble_eq_true rfl⟩ (ct_X4_step (n := q.1) (s0 := q.2.1) (o := q.2.2.1) (v := q.2.2.2) hR qa qb) rfl (by first | rfl | assumption | (simp only [*]; done) | omega) (by intro q h; cases h; rfl) rfl (by rfl) (by exact Nat.le_of_ble_eq_true rfl) (fun r h1 hp => ?_)
  obtain ⟨rfl, rfl⟩ := hp
  refine V_aload_n (pc := 4) X dX4_number_4 rfl (by first | decide | omega | assumption) ?_
  refine V_gz (pc := 5) X dX4_number_5 f_RX4_37 (by first | rfl | assumption | (simp only [*]; done) | omega) 4 rfl (show _ = (t_nx T N q).2.2.1 from c_tk_4 H (t_nx T N q)) ?_
  refine V_iconst (pc := 8) X dX4_number_8 ?_
  refine V_icmp_ne (pc := 9) X 32 dX4_number_9 (by decide) ⟨by omega, by omega⟩ ⟨by omega, by omega⟩ (fun c_9 => ?_) (fun c_9 => ?_)
  · skip
    refine V_iconst (pc := 32) X dX4_number_32 ?_
    refine V_zret (st := []) (pc := 33) X hQ dX4_number_33 rfl (by omega) rfl ?_
    exact ⟨by congr 2; unfold t_nm z_b; first | (rw [if_pos (decide_eq_true (by omega))]; done) | (rw [if_neg (by simp; omega)]), rfl⟩
  · skip
    refine V_aload_n (pc := 12) X dX4_number_12 rfl (by first | decide | omega | assumption) ?_
    refine V_gz (pc := 13) X dX4_number_13 f_RX4_47 (by first | rfl | assumption | (simp only [*]; done) | omega) 5 rfl (show _ = (t_nx T N q).2.2.2 from c_tk_5 H (t_nx T N q)) ?_
    refine V_iload_n (pc := 16) X dX4_number_16 rfl ?_
    refine V_icmp_lt (pc := 17) X 32 dX4_number_17 (by decide) ⟨by omega, by omega⟩ ⟨by omega, by omega⟩ (fun c_17 => ?_) (fun c_17 => ?_)
    · skip
      refine V_iconst (pc := 32) X dX4_number_32 ?_
      refine V_zret (st := []) (pc := 33) X hQ dX4_number_33 rfl (by omega) rfl ?_
      exact ⟨by congr 2; unfold t_nm z_b; first | (rw [if_pos (decide_eq_true (by omega))]; done) | (rw [if_neg (by simp; omega)]), rfl⟩
    · skip
      refine V_aload_n (pc := 20) X dX4_number_20 rfl (by first | decide | omega | assumption) ?_
      refine V_gz (pc := 21) X dX4_number_21 f_RX4_47 (by first | rfl | assumption | (simp only [*]; done) | omega) 5 rfl (show _ = (t_nx T N q).2.2.2 from c_tk_5 H (t_nx T N q)) ?_
      refine V_iload_n (pc := 24) X dX4_number_24 rfl ?_
      refine V_icmp_gt (pc := 25) X 32 dX4_number_25 (by decide) ⟨by omega, by omega⟩ ⟨by omega, by omega⟩ (fun c_25 => ?_) (fun c_25 => ?_)
      · skip
        refine V_iconst (pc := 32) X dX4_number_32 ?_
        refine V_zret (st := []) (pc := 33) X hQ dX4_number_33 rfl (by omega) rfl ?_
        exact ⟨by congr 2; unfold t_nm z_b; first | (rw [if_pos (decide_eq_true (by omega))]; done) | (rw [if_neg (by simp; omega)]), rfl⟩
      · skip
        refine V_iconst (pc := 28) X dX4_number_28 ?_
        refine V_goto (pc := 29) X 33 dX4_number_29 (by decide) ?_
        refine V_zret (st := []) (pc := 33) X hQ dX4_number_33 rfl (by omega) rfl ?_
        exact ⟨by congr 2; unfold t_nm z_b; first | (rw [if_pos (decide_eq_true (by omega))]; done) | (rw [if_neg (by simp; omega)]), rfl⟩
set_option maxHeartbeats 4000000 in
set_option maxRecDepth 100000 in
theorem ct_X4_size {H : z_H} {T : Int → Int} {N : Int} (hR : c_Rd H T N) {q : t_Q} (hq : t_OK N q) {P : Int} (kp : z_kd 107 P = (0, 2)) : z_Ct mX4_size 107 [(2, 1), (2, P)] (c_tk H q) (fun r h2 => r = some (0, z_b (c_szR T N H P q).1) ∧ h2 = c_tk (c_szR T N H P q).2.1 (c_szR T N H P q).2.2) := by
  refine z_mk (L := [(2, 1), (2, P)]) oX4_size.2.2.2.2 (Nat.le_of_ble_eq_true rfl) rfl ?_
  intro Γ X hQ
  obtain ⟨r10, r11, r2, hN, hT⟩ := id hR
  obtain ⟨⟨qa, qb⟩, ⟨qc, qd⟩, ⟨qe, qf⟩, qg, qi⟩ := id hq
  have k1 := t_nx_ok hN hT hq
  obtain ⟨⟨ra, rb⟩, ⟨rc, rd⟩, ⟨re, rf⟩, rg, ri⟩ := id k1
  have k2 := t_nx_ok hN hT k1
  have k3 := t_nx_ok hN hT k2
  have k4 := t_nx_ok hN hT k3
  have P0 := (z_kd_spec kp (Nat.ne_of_beq_eq_false rfl)).1
  have pn1 : P ≠ 1 := fun e => by subst e; revert kp; decide
  have pn2 : P ≠ 2 := fun e => by subst e; revert kp; decide
  refine V_aload_n (pc := 0) X dX4_size_0 rfl (by first | decide | omega | assumption) ?_
  refine V_iconst (pc := 1) X dX4_size_1 ?_
  refine V_iconst (pc := 2) X dX4_size_2 ?_
  refine V_CV (pc := 3) X dX4_size_3 oX4_number l_RX4_69 eX4_number vX4_number ⟨Nat.le_of_ble_eq_true rfl, Nat.le_of_ble_eq_true rfl⟩ ⟨rfl, rfl⟩ ⟨Nat.le_of_ble_eq_true rfl, Nat.le_of_ble_eq_true rfl⟩ (ct_X4_number (H := H) (q := q) hR hq ⟨by omega, by omega⟩ ⟨by omega, by omega⟩) rfl (by first | rfl | assumption | (simp only [*]; done) | omega) (by intro q h; cases h; rfl) rfl (by rfl) (by exact Nat.le_of_ble_eq_true rfl) (fun r h1 hp => ?_)
  obtain ⟨rfl, rfl⟩ := hp
  refine V_bif_ne (pc := 6) X 11 dX4_size_6 (by decide)  (fun c_6 => ?_) (fun c_6 => ?_)
  · skip
    refine V_aload_n (pc := 11) X dX4_size_11 rfl (by first | decide | omega | assumption) ?_
    refine V_aload_n (pc := 12) X dX4_size_12 rfl (by first | decide | omega | assumption) ?_
    refine V_gz (pc := 13) X dX4_size_13 f_RX4_47 (by first | rfl | assumption | (simp only [*]; done) | omega) 5 rfl (show _ = (t_nx T N q).2.2.2 from c_tk_5 H (t_nx T N q)) ?_
    refine V_pz (pc := 16) X dX4_size_16 f_RX4_73 (by first | rfl | assumption | (simp only [*]; done) | omega) (fun b => z_fitI b _) 2 rfl ?_
    rw [c_tk_out _ _ (Or.inl pn1)]
    refine V_aload_n (pc := 19) X dX4_size_19 rfl (by first | decide | omega | assumption) ?_
    refine V_iconst (pc := 20) X dX4_size_20 ?_
    refine V_iconst (pc := 21) X dX4_size_21 ?_
    refine V_CV (pc := 22) X dX4_size_22 oX4_number l_RX4_69 eX4_number vX4_number ⟨Nat.le_of_ble_eq_true rfl, Nat.le_of_ble_eq_true rfl⟩ ⟨rfl, rfl⟩ ⟨Nat.le_of_ble_eq_true rfl, Nat.le_of_ble_eq_true rfl⟩ (ct_X4_number (H := (z_st H P 2 (t_nx T N q).2.2.2)) (q := t_nx T N q) (c_Rd_st pn1 pn2 hR) k1 ⟨by omega, by omega⟩ ⟨by omega, by omega⟩) rfl (by first | rfl | assumption | (simp only [*]; done) | omega) (by intro q h; cases h; rfl) rfl (by rfl) (by exact Nat.le_of_ble_eq_true rfl) (fun r h1 hp => ?_)
    obtain ⟨rfl, rfl⟩ := hp
    refine V_bif_ne (pc := 25) X 30 dX4_size_25 (by decide)  (fun c_25 => ?_) (fun c_25 => ?_)
    · skip
      refine V_aload_n (pc := 30) X dX4_size_30 rfl (by first | decide | omega | assumption) ?_
      refine V_aload_n (pc := 31) X dX4_size_31 rfl (by first | decide | omega | assumption) ?_
      refine V_gz (pc := 32) X dX4_size_32 f_RX4_47 (by first | rfl | assumption | (simp only [*]; done) | omega) 5 rfl (show _ = (t_nx T N (t_nx T N q)).2.2.2 from c_tk_5 (z_st H P 2 (t_nx T N q).2.2.2) (t_nx T N (t_nx T N q))) ?_
      refine V_pz (pc := 35) X dX4_size_35 f_RX4_76 (by first | rfl | assumption | (simp only [*]; done) | omega) (fun b => z_fitI b _) 3 rfl ?_
      rw [c_tk_out _ _ (Or.inl pn1)]
      refine V_aload_n (pc := 38) X dX4_size_38 rfl (by first | decide | omega | assumption) ?_
      refine V_CV (pc := 39) X dX4_size_39 oX4_stop l_RX4_79 eX4_stop vX4_stop ⟨Nat.le_of_ble_eq_true rfl, Nat.le_of_ble_eq_true rfl⟩ ⟨rfl, rfl⟩ ⟨Nat.le_of_ble_eq_true rfl, Nat.le_of_ble_eq_true rfl⟩ (ct_X4_stop (H := (z_st (z_st H P 2 (t_nx T N q).2.2.2) P 3 (t_nx T N (t_nx T N q)).2.2.2)) (q := t_nx T N (t_nx T N q)) (c_Rd_st pn1 pn2 (c_Rd_st pn1 pn2 hR)) k2) rfl (by first | rfl | assumption | (simp only [*]; done) | omega) (by intro q h; cases h; rfl) rfl (by rfl) (by exact Nat.le_of_ble_eq_true rfl) (fun r h1 hp => ?_)
      obtain ⟨rfl, rfl⟩ := hp
      refine V_zret (st := []) (pc := 42) X hQ dX4_size_42 rfl (z_b_01 _) rfl ?_
      exact ⟨by unfold c_szR; simp [*], by unfold c_szR; simp [*]⟩
    · skip
      refine V_iconst (pc := 28) X dX4_size_28 ?_
      refine V_zret (st := []) (pc := 29) X hQ dX4_size_29 rfl (by omega) rfl ?_
      exact ⟨by unfold c_szR; simp [z_b, *], by unfold c_szR; simp [*]⟩
  · skip
    refine V_iconst (pc := 9) X dX4_size_9 ?_
    refine V_zret (st := []) (pc := 10) X hQ dX4_size_10 rfl (by omega) rfl ?_
    exact ⟨by unfold c_szR; simp [z_b, *], by unfold c_szR; simp [*]⟩
set_option maxHeartbeats 4000000 in
set_option maxRecDepth 100000 in
theorem ct_X4_glass {H : z_H} {T : Int → Int} {N : Int} (hR : c_Rd H T N) {q : t_Q} (hq : t_OK N q) {P : Int} (kp : z_kd 107 P = (0, 2)) (rp0 : H P 0 = P + 1) (kp1 : z_kd 107 (P + 1) = (1, 20)) (hw : 1 ≤ H P 2 ∧ H P 2 ≤ 5) (hh : 1 ≤ H P 3 ∧ H P 3 ≤ 4) : z_Ct mX4_glass 107 [(2, 1), (2, P)] (c_tk H q) (fun r h2 => r = some (0, z_b (c_glR T N H P q).1) ∧ h2 = c_tk (c_glR T N H P q).2.1 (c_glR T N H P q).2.2) := by
  refine z_mk (L := [(2, 1), (2, P), (9, 0), (9, 0)]) oX4_glass.2.2.2.2 (Nat.le_of_ble_eq_true rfl) rfl ?_
  intro Γ X hQ
  obtain ⟨r10, r11, r2, hN, hT⟩ := id hR
  obtain ⟨⟨qa, qb⟩, ⟨qc, qd⟩, ⟨qe, qf⟩, qg, qi⟩ := id hq
  have k1 := t_nx_ok hN hT hq
  obtain ⟨⟨ra, rb⟩, ⟨rc, rd⟩, ⟨re, rf⟩, rg, ri⟩ := id k1
  have k2 := t_nx_ok hN hT k1
  have k3 := t_nx_ok hN hT k2
  have k4 := t_nx_ok hN hT k3
  have P0 := (z_kd_spec kp (Nat.ne_of_beq_eq_false rfl)).1
  have pn1 : P ≠ 1 := fun e => by subst e; revert kp; decide
  have pn2 : P ≠ 2 := fun e => by subst e; revert kp; decide
  have pm1 : P + 1 ≠ 1 := fun e => by rw [e] at kp1; revert kp1; decide
  have pm2 : P + 1 ≠ 2 := fun e => by rw [e] at kp1; revert kp1; decide
  refine V_aload_n (pc := 0) X dX4_glass_0 rfl (by first | decide | omega | assumption) ?_
  refine V_iconst (pc := 1) X dX4_glass_1 ?_
  refine V_aload_n (pc := 2) X dX4_glass_2 rfl (by first | decide | omega | assumption) ?_
  refine V_gz (pc := 3) X dX4_glass_3 f_RX4_73 (by first | rfl | assumption | (simp only [*]; done) | omega) 2 rfl (show _ = H P 2 from by rw [c_tk_cell H _ pn1]) ?_
  refine V_iconst (pc := 6) X dX4_glass_6 ?_
  refine V_isub (pc := 7) X dX4_glass_7 ?_
  refine V_CV (pc := 8) X dX4_glass_8 oX4_number l_RX4_69 eX4_number vX4_number ⟨Nat.le_of_ble_eq_true rfl, Nat.le_of_ble_eq_true rfl⟩ ⟨rfl, rfl⟩ ⟨Nat.le_of_ble_eq_true rfl, Nat.le_of_ble_eq_true rfl⟩ (ct_X4_number (H := H) (q := q) hR hq ⟨by omega, by omega⟩ ⟨by omega, by omega⟩) rfl (by first | rfl | assumption | (simp only [*]; done) | omega) (by intro q h; cases h; rfl) rfl (by rfl) (by exact Nat.le_of_ble_eq_true rfl) (fun r h1 hp => ?_)
  obtain ⟨rfl, rfl⟩ := hp
  refine V_bif_ne (pc := 11) X 16 dX4_glass_11 (by decide)  (fun c_11 => ?_) (fun c_11 => ?_)
  · skip
    refine V_aload_n (pc := 16) X dX4_glass_16 rfl (by first | decide | omega | assumption) ?_
    refine V_gz (pc := 17) X dX4_glass_17 f_RX4_47 (by first | rfl | assumption | (simp only [*]; done) | omega) 5 rfl (show _ = (t_nx T N q).2.2.2 from c_tk_5 H (t_nx T N q)) ?_
    refine V_istore_n (pc := 20) X dX4_glass_20 (by exact Nat.le_of_ble_eq_true rfl) rfl ?_
    refine V_aload_n (pc := 21) X dX4_glass_21 rfl (by first | decide | omega | assumption) ?_
    refine V_iconst (pc := 22) X dX4_glass_22 ?_
    refine V_aload_n (pc := 23) X dX4_glass_23 rfl (by first | decide | omega | assumption) ?_
    refine V_gz (pc := 24) X dX4_glass_24 f_RX4_76 (by first | rfl | assumption | (simp only [*]; done) | omega) 3 rfl (show _ = H P 3 from by rw [c_tk_cell H _ pn1]) ?_
    refine V_iconst (pc := 27) X dX4_glass_27 ?_
    refine V_isub (pc := 28) X dX4_glass_28 ?_
    refine V_CV (pc := 29) X dX4_glass_29 oX4_number l_RX4_69 eX4_number vX4_number ⟨Nat.le_of_ble_eq_true rfl, Nat.le_of_ble_eq_true rfl⟩ ⟨rfl, rfl⟩ ⟨Nat.le_of_ble_eq_true rfl, Nat.le_of_ble_eq_true rfl⟩ (ct_X4_number (H := H) (q := t_nx T N q) hR k1 ⟨by omega, by omega⟩ ⟨by omega, by omega⟩) rfl (by first | rfl | assumption | (simp only [*]; done) | omega) (by intro q h; cases h; rfl) rfl (by rfl) (by exact Nat.le_of_ble_eq_true rfl) (fun r h1 hp => ?_)
    obtain ⟨rfl, rfl⟩ := hp
    refine V_bif_ne (pc := 32) X 37 dX4_glass_32 (by decide)  (fun c_32 => ?_) (fun c_32 => ?_)
    · skip
      refine V_iconst (pc := 37) X dX4_glass_37 ?_
      refine V_iload_n (pc := 38) X dX4_glass_38 rfl ?_
      refine V_imul (pc := 39) X dX4_glass_39 ?_
      refine V_aload_n (pc := 40) X dX4_glass_40 rfl (by first | decide | omega | assumption) ?_
      refine V_gz (pc := 41) X dX4_glass_41 f_RX4_47 (by first | rfl | assumption | (simp only [*]; done) | omega) 5 rfl (show _ = (t_nx T N (t_nx T N q)).2.2.2 from c_tk_5 H (t_nx T N (t_nx T N q))) ?_
      refine V_iadd (pc := 44) X dX4_glass_44 ?_
      refine V_istore_n (pc := 45) X dX4_glass_45 (by exact Nat.le_of_ble_eq_true rfl) rfl ?_
      refine V_aload_n (pc := 46) X dX4_glass_46 rfl (by first | decide | omega | assumption) ?_
      refine V_iconst (pc := 47) X dX4_glass_47 ?_
      refine V_bipush (pc := 48) X dX4_glass_48 (by decide) ?_
      refine V_CV (pc := 50) X dX4_glass_50 oX4_number l_RX4_69 eX4_number vX4_number ⟨Nat.le_of_ble_eq_true rfl, Nat.le_of_ble_eq_true rfl⟩ ⟨rfl, rfl⟩ ⟨Nat.le_of_ble_eq_true rfl, Nat.le_of_ble_eq_true rfl⟩ (ct_X4_number (H := H) (q := t_nx T N (t_nx T N q)) hR k2 ⟨by omega, by omega⟩ ⟨by omega, by omega⟩) rfl (by first | rfl | assumption | (simp only [*]; done) | omega) (by intro q h; cases h; rfl) rfl (by rfl) (by exact Nat.le_of_ble_eq_true rfl) (fun r h1 hp => ?_)
      obtain ⟨rfl, rfl⟩ := hp
      refine V_bif_ne (pc := 53) X 58 dX4_glass_53 (by decide)  (fun c_53 => ?_) (fun c_53 => ?_)
      · skip
        refine V_aload_n (pc := 58) X dX4_glass_58 rfl (by first | decide | omega | assumption) ?_
        refine V_gz (pc := 59) X dX4_glass_59 f_RX4_83 (by first | rfl | assumption | (simp only [*]; done) | omega) 0 rfl (show _ = P + 1 from by rw [c_tk_cell H _ pn1]; exact rp0) ?_
        refine V_iload_n (pc := 62) X dX4_glass_62 rfl ?_
        refine V_aload_n (pc := 63) X dX4_glass_63 rfl (by first | decide | omega | assumption) ?_
        refine V_gz (pc := 64) X dX4_glass_64 f_RX4_47 (by first | rfl | assumption | (simp only [*]; done) | omega) 5 rfl (show _ = (t_nx T N (t_nx T N (t_nx T N q))).2.2.2 from c_tk_5 H (t_nx T N (t_nx T N (t_nx T N q)))) ?_
        have b1 : 0 ≤ (t_nx T N q).2.2.2 ∧ (t_nx T N q).2.2.2 ≤ H P 2 - 1 := (of_decide_eq_true c_11).2
        have b2 : 0 ≤ (t_nx T N (t_nx T N q)).2.2.2 ∧ (t_nx T N (t_nx T N q)).2.2.2 ≤ H P 3 - 1 := (of_decide_eq_true c_32).2
        refine V_iast (pc := 67) X dX4_glass_67 (by first | rfl | assumption | (simp only [*]; done) | omega) (by omega) (by omega) (by decide) ?_
        rw [c_tk_out _ _ (Or.inl (by omega))]
        refine V_aload_n (pc := 68) X dX4_glass_68 rfl (by first | decide | omega | assumption) ?_
        refine V_CV (pc := 69) X dX4_glass_69 oX4_stop l_RX4_79 eX4_stop vX4_stop ⟨Nat.le_of_ble_eq_true rfl, Nat.le_of_ble_eq_true rfl⟩ ⟨rfl, rfl⟩ ⟨Nat.le_of_ble_eq_true rfl, Nat.le_of_ble_eq_true rfl⟩ (ct_X4_stop (H := (z_st H (P + 1) (4 * (t_nx T N q).2.2.2 + (t_nx T N (t_nx T N q)).2.2.2) (t_nx T N (t_nx T N (t_nx T N q))).2.2.2)) (q := t_nx T N (t_nx T N (t_nx T N q))) (c_Rd_st (by omega) pm2 hR) k3) rfl (by first | rfl | assumption | (simp only [*]; done) | omega) (by intro q h; cases h; rfl) rfl (by rfl) (by exact Nat.le_of_ble_eq_true rfl) (fun r h1 hp => ?_)
        obtain ⟨rfl, rfl⟩ := hp
        refine V_zret (st := []) (pc := 72) X hQ dX4_glass_72 rfl (z_b_01 _) rfl ?_
        exact ⟨by unfold c_glR; simp [*], by unfold c_glR; simp [*]⟩
      · skip
        refine V_iconst (pc := 56) X dX4_glass_56 ?_
        refine V_zret (st := []) (pc := 57) X hQ dX4_glass_57 rfl (by omega) rfl ?_
        exact ⟨by unfold c_glR; simp [z_b, *], by unfold c_glR; simp [*]⟩
    · skip
      refine V_iconst (pc := 35) X dX4_glass_35 ?_
      refine V_zret (st := []) (pc := 36) X hQ dX4_glass_36 rfl (by omega) rfl ?_
      exact ⟨by unfold c_glR; simp [z_b, *], by unfold c_glR; simp [*]⟩
  · skip
    refine V_iconst (pc := 14) X dX4_glass_14 ?_
    refine V_zret (st := []) (pc := 15) X hQ dX4_glass_15 rfl (by omega) rfl ?_
    exact ⟨by unfold c_glR; simp [z_b, *], by unfold c_glR; simp [*]⟩
set_option maxHeartbeats 4000000 in
set_option maxRecDepth 100000 in
theorem ct_X4_sheetColour {H : z_H} {T : Int → Int} {N : Int} (hR : c_Rd H T N) {q : t_Q} (hq : t_OK N q) {P : Int} (kp : z_kd 107 P = (0, 2)) (rp1 : H P 1 = P + 2) (kp2 : z_kd 107 (P + 2) = (1, 256)) (hs : 0 ≤ H P 4 ∧ H P 4 < 8) : z_Ct mX4_sheetColour 107 [(2, 1), (2, P)] (c_tk H q) (fun r h2 => r = some (0, z_b (c_scR T N H P q).1) ∧ h2 = c_tk (c_scR T N H P q).2.1 (c_scR T N H P q).2.2) := by
  refine z_mk (L := [(2, 1), (2, P)]) oX4_sheetColour.2.2.2.2 (Nat.le_of_ble_eq_true rfl) rfl ?_
  intro Γ X hQ
  obtain ⟨r10, r11, r2, hN, hT⟩ := id hR
  obtain ⟨⟨qa, qb⟩, ⟨qc, qd⟩, ⟨qe, qf⟩, qg, qi⟩ := id hq
  have k1 := t_nx_ok hN hT hq
  obtain ⟨⟨ra, rb⟩, ⟨rc, rd⟩, ⟨re, rf⟩, rg, ri⟩ := id k1
  have k2 := t_nx_ok hN hT k1
  have k3 := t_nx_ok hN hT k2
  have k4 := t_nx_ok hN hT k3
  have P0 := (z_kd_spec kp (Nat.ne_of_beq_eq_false rfl)).1
  have pn1 : P ≠ 1 := fun e => by subst e; revert kp; decide
  have pn2 : P ≠ 2 := fun e => by subst e; revert kp; decide
  have pm2 : P + 2 ≠ 1 := fun e => by rw [e] at kp2; revert kp2; decide
  have pm3 : P + 2 ≠ 2 := fun e => by rw [e] at kp2; revert kp2; decide
  have hRs : c_Rd (c_shtH H P (H P 4).toNat (t_nx T N q).2.2.2) T N := c_Rd_st pn1 pn2 (c_Rd_rw pm2 pm3 hR)
  refine V_aload_n (pc := 0) X dX4_sheetColour_0 rfl (by first | decide | omega | assumption) ?_
  refine V_iconst (pc := 1) X dX4_sheetColour_1 ?_
  refine V_bipush (pc := 2) X dX4_sheetColour_2 (by decide) ?_
  refine V_CV (pc := 4) X dX4_sheetColour_4 oX4_number l_RX4_69 eX4_number vX4_number ⟨Nat.le_of_ble_eq_true rfl, Nat.le_of_ble_eq_true rfl⟩ ⟨rfl, rfl⟩ ⟨Nat.le_of_ble_eq_true rfl, Nat.le_of_ble_eq_true rfl⟩ (ct_X4_number (H := H) (q := q) hR hq ⟨by omega, by omega⟩ ⟨by omega, by omega⟩) rfl (by first | rfl | assumption | (simp only [*]; done) | omega) (by intro q h; cases h; rfl) rfl (by rfl) (by exact Nat.le_of_ble_eq_true rfl) (fun r h1 hp => ?_)
  obtain ⟨rfl, rfl⟩ := hp
  refine V_bif_ne (pc := 7) X 12 dX4_sheetColour_7 (by decide)  (fun c_7 => ?_) (fun c_7 => ?_)
  · skip
    refine V_aload_n (pc := 12) X dX4_sheetColour_12 rfl (by first | decide | omega | assumption) ?_
    refine V_aload_n (pc := 13) X dX4_sheetColour_13 rfl (by first | decide | omega | assumption) ?_
    refine V_gz (pc := 14) X dX4_sheetColour_14 f_RX4_47 (by first | rfl | assumption | (simp only [*]; done) | omega) 5 rfl (show _ = (t_nx T N q).2.2.2 from c_tk_5 H (t_nx T N q)) ?_
    refine V_CV (pc := 17) X dX4_sheetColour_17 oX3_addSheet l_RX4_85 eX3_addSheet vX3_addSheet ⟨Nat.le_of_ble_eq_true rfl, Nat.le_of_ble_eq_true rfl⟩ ⟨rfl, rfl⟩ ⟨Nat.le_of_ble_eq_true rfl, Nat.le_of_ble_eq_true rfl⟩ (ct_X3_addSheet (s := (H P 4).toNat) kp (by rw [c_tk_cell H _ pn1]; exact rp1) kp2 (by omega) (by rw [c_tk_cell H _ pn1]; omega)) rfl (by first | rfl | assumption | (simp only [*]; done) | omega) (by intro q h; cases h; rfl) rfl (by rfl) (by exact Nat.le_of_ble_eq_true rfl) (fun r h1 hp => ?_)
    obtain ⟨rfl, rfl⟩ := hp
    rw [c_tk_sht H _ pn1 pm2]
    refine V_aload_n (pc := 20) X dX4_sheetColour_20 rfl (by first | decide | omega | assumption) ?_
    refine V_CV (pc := 21) X dX4_sheetColour_21 oX4_stop l_RX4_79 eX4_stop vX4_stop ⟨Nat.le_of_ble_eq_true rfl, Nat.le_of_ble_eq_true rfl⟩ ⟨rfl, rfl⟩ ⟨Nat.le_of_ble_eq_true rfl, Nat.le_of_ble_eq_true rfl⟩ (ct_X4_stop (H := (c_shtH H P (H P 4).toNat (t_nx T N q).2.2.2)) (q := t_nx T N q) hRs k1) rfl (by first | rfl | assumption | (simp only [*]; done) | omega) (by intro q h; cases h; rfl) rfl (by rfl) (by exact Nat.le_of_ble_eq_true rfl) (fun r h1 hp => ?_)
    obtain ⟨rfl, rfl⟩ := hp
    refine V_zret (st := []) (pc := 24) X hQ dX4_sheetColour_24 rfl (z_b_01 _) rfl ?_
    exact ⟨by unfold c_scR; simp [*], by unfold c_scR; simp [*]⟩
  · skip
    refine V_iconst (pc := 10) X dX4_sheetColour_10 ?_
    refine V_zret (st := []) (pc := 11) X hQ dX4_sheetColour_11 rfl (by omega) rfl ?_
    exact ⟨by unfold c_scR; simp [z_b, *], by unfold c_scR; simp [*]⟩
set_option maxHeartbeats 4000000 in
set_option maxRecDepth 100000 in
theorem ct_X4_mirror {H : z_H} {T : Int → Int} {N : Int} (hR : c_Rd H T N) {q : t_Q} (hq : t_OK N q) {P : Int} (kp : z_kd 107 P = (0, 2)) : z_Ct mX4_mirror 107 [(2, 1), (2, P)] (c_tk H q) (fun r h2 => r = some (0, z_b (c_miR T N H P q).1) ∧ h2 = c_tk (c_miR T N H P q).2.1 (c_miR T N H P q).2.2) := by
  refine z_mk (L := [(2, 1), (2, P)]) oX4_mirror.2.2.2.2 (Nat.le_of_ble_eq_true rfl) rfl ?_
  intro Γ X hQ
  obtain ⟨r10, r11, r2, hN, hT⟩ := id hR
  obtain ⟨⟨qa, qb⟩, ⟨qc, qd⟩, ⟨qe, qf⟩, qg, qi⟩ := id hq
  have k1 := t_nx_ok hN hT hq
  obtain ⟨⟨ra, rb⟩, ⟨rc, rd⟩, ⟨re, rf⟩, rg, ri⟩ := id k1
  have k2 := t_nx_ok hN hT k1
  have k3 := t_nx_ok hN hT k2
  have k4 := t_nx_ok hN hT k3
  have P0 := (z_kd_spec kp (Nat.ne_of_beq_eq_false rfl)).1
  have pn1 : P ≠ 1 := fun e => by subst e; revert kp; decide
  have pn2 : P ≠ 2 := fun e => by subst e; revert kp; decide
  refine V_aload_n (pc := 0) X dX4_mirror_0 rfl (by first | decide | omega | assumption) ?_
  refine V_iconst (pc := 1) X dX4_mirror_1 ?_
  refine V_bipush (pc := 2) X dX4_mirror_2 (by decide) ?_
  refine V_CV (pc := 4) X dX4_mirror_4 oX4_number l_RX4_69 eX4_number vX4_number ⟨Nat.le_of_ble_eq_true rfl, Nat.le_of_ble_eq_true rfl⟩ ⟨rfl, rfl⟩ ⟨Nat.le_of_ble_eq_true rfl, Nat.le_of_ble_eq_true rfl⟩ (ct_X4_number (H := H) (q := q) hR hq ⟨by omega, by omega⟩ ⟨by omega, by omega⟩) rfl (by first | rfl | assumption | (simp only [*]; done) | omega) (by intro q h; cases h; rfl) rfl (by rfl) (by exact Nat.le_of_ble_eq_true rfl) (fun r h1 hp => ?_)
  obtain ⟨rfl, rfl⟩ := hp
  refine V_bif_ne (pc := 7) X 12 dX4_mirror_7 (by decide)  (fun c_7 => ?_) (fun c_7 => ?_)
  · skip
    refine V_aload_n (pc := 12) X dX4_mirror_12 rfl (by first | decide | omega | assumption) ?_
    refine V_aload_n (pc := 13) X dX4_mirror_13 rfl (by first | decide | omega | assumption) ?_
    refine V_gz (pc := 14) X dX4_mirror_14 f_RX4_47 (by first | rfl | assumption | (simp only [*]; done) | omega) 5 rfl (show _ = (t_nx T N q).2.2.2 from c_tk_5 H (t_nx T N q)) ?_
    refine V_pz (pc := 17) X dX4_mirror_17 f_RX4_89 (by first | rfl | assumption | (simp only [*]; done) | omega) (fun b => z_fitI b _) 5 rfl ?_
    rw [c_tk_out _ _ (Or.inl pn1)]
    refine V_aload_n (pc := 20) X dX4_mirror_20 rfl (by first | decide | omega | assumption) ?_
    refine V_iconst (pc := 21) X dX4_mirror_21 ?_
    refine V_pz (pc := 22) X dX4_mirror_22 f_RX4_24 (by first | rfl | assumption | (simp only [*]; done) | omega) (fun b => z_fitZ b (by omega)) 6 rfl ?_
    rw [c_tk_out _ _ (Or.inr ⟨by decide, by decide, by decide, by decide⟩)]
    refine V_aload_n (pc := 25) X dX4_mirror_25 rfl (by first | decide | omega | assumption) ?_
    refine V_CV (pc := 26) X dX4_mirror_26 oX4_stop l_RX4_79 eX4_stop vX4_stop ⟨Nat.le_of_ble_eq_true rfl, Nat.le_of_ble_eq_true rfl⟩ ⟨rfl, rfl⟩ ⟨Nat.le_of_ble_eq_true rfl, Nat.le_of_ble_eq_true rfl⟩ (ct_X4_stop (H := (z_st (z_st H P 5 (t_nx T N q).2.2.2) 1 6 1)) (q := t_nx T N q) (c_Rd_st1 (by decide) (by decide) (c_Rd_st pn1 pn2 hR)) k1) rfl (by first | rfl | assumption | (simp only [*]; done) | omega) (by intro q h; cases h; rfl) rfl (by rfl) (by exact Nat.le_of_ble_eq_true rfl) (fun r h1 hp => ?_)
    obtain ⟨rfl, rfl⟩ := hp
    refine V_zret (st := []) (pc := 29) X hQ dX4_mirror_29 rfl (z_b_01 _) rfl ?_
    exact ⟨by unfold c_miR; simp [*], by unfold c_miR; simp [*]⟩
  · skip
    refine V_iconst (pc := 10) X dX4_mirror_10 ?_
    refine V_zret (st := []) (pc := 11) X hQ dX4_mirror_11 rfl (by omega) rfl ?_
    exact ⟨by unfold c_miR; simp [z_b, *], by unfold c_miR; simp [*]⟩
set_option maxHeartbeats 4000000 in
set_option maxRecDepth 100000 in
theorem ct_X4_season {H : z_H} {T : Int → Int} {N : Int} (hR : c_Rd H T N) {q : t_Q} (hq : t_OK N q) {P : Int} (kp : z_kd 107 P = (0, 2)) : z_Ct mX4_season 107 [(2, 1), (2, P)] (c_tk H q) (fun r h2 => r = some (0, z_b (c_seR T N H P q).1) ∧ h2 = c_tk (c_seR T N H P q).2.1 (c_seR T N H P q).2.2) := by
  refine z_mk (L := [(2, 1), (2, P)]) oX4_season.2.2.2.2 (Nat.le_of_ble_eq_true rfl) rfl ?_
  intro Γ X hQ
  obtain ⟨r10, r11, r2, hN, hT⟩ := id hR
  obtain ⟨⟨qa, qb⟩, ⟨qc, qd⟩, ⟨qe, qf⟩, qg, qi⟩ := id hq
  have k1 := t_nx_ok hN hT hq
  obtain ⟨⟨ra, rb⟩, ⟨rc, rd⟩, ⟨re, rf⟩, rg, ri⟩ := id k1
  have k2 := t_nx_ok hN hT k1
  have k3 := t_nx_ok hN hT k2
  have k4 := t_nx_ok hN hT k3
  have P0 := (z_kd_spec kp (Nat.ne_of_beq_eq_false rfl)).1
  have pn1 : P ≠ 1 := fun e => by subst e; revert kp; decide
  have pn2 : P ≠ 2 := fun e => by subst e; revert kp; decide
  refine V_aload_n (pc := 0) X dX4_season_0 rfl (by first | decide | omega | assumption) ?_
  refine V_iconst (pc := 1) X dX4_season_1 ?_
  refine V_iconst (pc := 2) X dX4_season_2 ?_
  refine V_CV (pc := 3) X dX4_season_3 oX4_number l_RX4_69 eX4_number vX4_number ⟨Nat.le_of_ble_eq_true rfl, Nat.le_of_ble_eq_true rfl⟩ ⟨rfl, rfl⟩ ⟨Nat.le_of_ble_eq_true rfl, Nat.le_of_ble_eq_true rfl⟩ (ct_X4_number (H := H) (q := q) hR hq ⟨by omega, by omega⟩ ⟨by omega, by omega⟩) rfl (by first | rfl | assumption | (simp only [*]; done) | omega) (by intro q h; cases h; rfl) rfl (by rfl) (by exact Nat.le_of_ble_eq_true rfl) (fun r h1 hp => ?_)
  obtain ⟨rfl, rfl⟩ := hp
  refine V_bif_ne (pc := 6) X 11 dX4_season_6 (by decide)  (fun c_6 => ?_) (fun c_6 => ?_)
  · skip
    refine V_aload_n (pc := 11) X dX4_season_11 rfl (by first | decide | omega | assumption) ?_
    refine V_aload_n (pc := 12) X dX4_season_12 rfl (by first | decide | omega | assumption) ?_
    refine V_gz (pc := 13) X dX4_season_13 f_RX4_47 (by first | rfl | assumption | (simp only [*]; done) | omega) 5 rfl (show _ = (t_nx T N q).2.2.2 from c_tk_5 H (t_nx T N q)) ?_
    refine V_pz (pc := 16) X dX4_season_16 f_RX4_91 (by first | rfl | assumption | (simp only [*]; done) | omega) (fun b => z_fitI b _) 6 rfl ?_
    rw [c_tk_out _ _ (Or.inl pn1)]
    refine V_aload_n (pc := 19) X dX4_season_19 rfl (by first | decide | omega | assumption) ?_
    refine V_iconst (pc := 20) X dX4_season_20 ?_
    refine V_pz (pc := 21) X dX4_season_21 f_RX4_28 (by first | rfl | assumption | (simp only [*]; done) | omega) (fun b => z_fitZ b (by omega)) 7 rfl ?_
    rw [c_tk_out _ _ (Or.inr ⟨by decide, by decide, by decide, by decide⟩)]
    refine V_aload_n (pc := 24) X dX4_season_24 rfl (by first | decide | omega | assumption) ?_
    refine V_CV (pc := 25) X dX4_season_25 oX4_stop l_RX4_79 eX4_stop vX4_stop ⟨Nat.le_of_ble_eq_true rfl, Nat.le_of_ble_eq_true rfl⟩ ⟨rfl, rfl⟩ ⟨Nat.le_of_ble_eq_true rfl, Nat.le_of_ble_eq_true rfl⟩ (ct_X4_stop (H := (z_st (z_st H P 6 (t_nx T N q).2.2.2) 1 7 1)) (q := t_nx T N q) (c_Rd_st1 (by decide) (by decide) (c_Rd_st pn1 pn2 hR)) k1) rfl (by first | rfl | assumption | (simp only [*]; done) | omega) (by intro q h; cases h; rfl) rfl (by rfl) (by exact Nat.le_of_ble_eq_true rfl) (fun r h1 hp => ?_)
    obtain ⟨rfl, rfl⟩ := hp
    refine V_zret (st := []) (pc := 28) X hQ dX4_season_28 rfl (z_b_01 _) rfl ?_
    exact ⟨by unfold c_seR; simp [*], by unfold c_seR; simp [*]⟩
  · skip
    refine V_iconst (pc := 9) X dX4_season_9 ?_
    refine V_zret (st := []) (pc := 10) X hQ dX4_season_10 rfl (by omega) rfl ?_
    exact ⟨by unfold c_seR; simp [z_b, *], by unfold c_seR; simp [*]⟩
set_option maxHeartbeats 4000000 in
set_option maxRecDepth 100000 in
theorem ct_X4_add {h : z_H} {T : Int → Int} {N : Int} (hR : c_Rd h T N) {c : Int} : z_Ct mX4_add 107 [(2, 1), (0, c)] h (fun r h2 => r = some (0, z_b (decide (N < 170))) ∧ h2 = if N < 170 then z_st (z_st h 2 N c) 1 1 (N + 1) else h) := by
  refine z_mk (L := [(2, 1), (0, c)]) oX4_add.2.2.2.2 (Nat.le_of_ble_eq_true rfl) rfl ?_
  intro Γ X hQ
  obtain ⟨r10, r11, r2, hN, hT⟩ := id hR
  refine V_aload_n (pc := 0) X dX4_add_0 rfl (by first | decide | omega | assumption) ?_
  refine V_gz (pc := 1) X dX4_add_1 f_RX4_15 (by first | rfl | assumption | (simp only [*]; done) | omega) 1 rfl r11 ?_
  refine V_sipush (pc := 4) X dX4_add_4 (by decide) ?_
  refine V_icmp_lt (pc := 7) X 12 dX4_add_7 (by decide) ⟨by omega, by omega⟩ ⟨by omega, by omega⟩ (fun c_7 => ?_) (fun c_7 => ?_)
  · skip
    refine V_aload_n (pc := 12) X dX4_add_12 rfl (by first | decide | omega | assumption) ?_
    refine V_gz (pc := 13) X dX4_add_13 f_RX4_11 (by first | rfl | assumption | (simp only [*]; done) | omega) 0 rfl r10 ?_
    refine V_aload_n (pc := 16) X dX4_add_16 rfl (by first | decide | omega | assumption) ?_
    refine V_gz (pc := 17) X dX4_add_17 f_RX4_15 (by first | rfl | assumption | (simp only [*]; done) | omega) 1 rfl r11 ?_
    refine V_iload_n (pc := 20) X dX4_add_20 rfl ?_
    refine V_iast (pc := 21) X dX4_add_21 (by first | rfl | assumption | (simp only [*]; done) | omega) (by omega) (by omega) (by decide) ?_
    refine V_aload_n (pc := 22) X dX4_add_22 rfl (by first | decide | omega | assumption) ?_
    refine V_dup (pc := 23) X dX4_add_23 (Nat.ne_of_beq_eq_false rfl) ?_
    refine V_gz (pc := 24) X dX4_add_24 f_RX4_15 (by first | rfl | assumption | (simp only [*]; done) | omega) 1 rfl (show _ = N from r11) ?_
    refine V_iconst (pc := 27) X dX4_add_27 ?_
    refine V_iadd (pc := 28) X dX4_add_28 ?_
    refine V_pz (pc := 29) X dX4_add_29 f_RX4_15 (by first | rfl | assumption | (simp only [*]; done) | omega) (fun b => z_fitI b _) 1 rfl ?_
    refine V_iconst (pc := 32) X dX4_add_32 ?_
    refine V_zret (st := []) (pc := 33) X hQ dX4_add_33 rfl (by omega) rfl ?_
    exact ⟨by simp [z_b, show N < 170 by omega], by rw [if_pos (by omega)]⟩
  · skip
    refine V_iconst (pc := 10) X dX4_add_10 ?_
    refine V_zret (st := []) (pc := 11) X hQ dX4_add_11 rfl (by omega) rfl ?_
    exact ⟨by simp [z_b]; omega, by rw [if_neg (by omega)]⟩
set_option maxHeartbeats 4000000 in
set_option maxRecDepth 100000 in
theorem ct_X4_item {H : z_H} {P : Int} {T : Int → Int} {N : Int} (hPR : c_PR H P T N) {q : t_Q} (hq : t_OK N q) {fb : Bool} : z_Ct mX4_item 107 [(2, 1), (2, P), (0, z_b fb)] (c_tk H q) (fun r h2 => r = some (0, z_b (c_itR T N H P q fb).1) ∧ h2 = c_tk (c_itR T N H P q fb).2.1 (c_itR T N H P q fb).2.2) := by
  refine z_mk (L := [(2, 1), (2, P), (0, z_b fb)]) oX4_item.2.2.2.2 (Nat.le_of_ble_eq_true rfl) rfl ?_
  intro Γ X hQ
  obtain ⟨-, ⟨kp, rp0, rp1, kp1, kp2, hw, hh, hs, hgl, hpi⟩, t6, t7, hmm, hss⟩ := id hPR
  have hR := hPR.1
  obtain ⟨r10, r11, r2, hN, hT⟩ := id hR
  obtain ⟨⟨qa, qb⟩, ⟨qc, qd⟩, ⟨qe, qf⟩, qg, qi⟩ := id hq
  have k1 := t_nx_ok hN hT hq
  obtain ⟨⟨ra, rb⟩, ⟨rc, rd⟩, ⟨re, rf⟩, rg, ri⟩ := id k1
  have P0 := (z_kd_spec kp (Nat.ne_of_beq_eq_false rfl)).1
  have pn1 : P ≠ 1 := fun e => by subst e; revert kp; decide
  have pn2 : P ≠ 2 := fun e => by subst e; revert kp; decide
  refine V_aload_n (pc := 0) X dX4_item_0 rfl (by first | decide | omega | assumption) ?_
  refine V_gz (pc := 1) X dX4_item_1 f_RX4_37 (by first | rfl | assumption | (simp only [*]; done) | omega) 4 rfl (show _ = (q).2.2.1 from c_tk_4 H (q)) ?_
  refine V_iconst (pc := 4) X dX4_item_4 ?_
  refine V_icmp_eq (pc := 5) X 10 dX4_item_5 (by decide) ⟨by omega, by omega⟩ ⟨by omega, by omega⟩ (fun c_5 => ?_) (fun c_5 => ?_)
  · skip
    refine V_aload_n (pc := 10) X dX4_item_10 rfl (by first | decide | omega | assumption) ?_
    refine V_gz (pc := 11) X dX4_item_11 f_RX4_47 (by first | rfl | assumption | (simp only [*]; done) | omega) 5 rfl (show _ = (q).2.2.2 from c_tk_5 H (q)) ?_
    by_cases e_103 : q.2.2.2 = 103
    · skip
      refine V_lsw (pc := 14) X 64 dX4_item_14 ⟨by omega, by omega⟩ (by decide) (by first | (rw [e_103]; done) | (rw [e_103]; rfl)) (by decide) ?_
      refine V_iload_n (pc := 64) X dX4_item_64 rfl ?_
      refine V_bif_eq (pc := 65) X 80 dX4_item_65 (by decide)  (fun c_65 => ?_) (fun c_65 => ?_)
      · skip
        refine V_iconst (pc := 80) X dX4_item_80 ?_
        refine V_zret (st := []) (pc := 81) X hQ dX4_item_81 rfl (by omega) rfl ?_
        exact ⟨by unfold c_itR; simp [z_b, *], by unfold c_itR; simp [*]⟩
      · skip
        refine V_aload_n (pc := 68) X dX4_item_68 rfl (by first | decide | omega | assumption) ?_
        refine V_aload_n (pc := 69) X dX4_item_69 rfl (by first | decide | omega | assumption) ?_
        refine V_CV (pc := 70) X dX4_item_70 oX4_size l_RX4_50 eX4_size vX4_size ⟨Nat.le_of_ble_eq_true rfl, Nat.le_of_ble_eq_true rfl⟩ ⟨rfl, rfl⟩ ⟨Nat.le_of_ble_eq_true rfl, Nat.le_of_ble_eq_true rfl⟩ (ct_X4_size hR hq kp) rfl (by first | rfl | assumption | (simp only [*]; done) | omega) (by intro q h; cases h; rfl) rfl (by rfl) (by exact Nat.le_of_ble_eq_true rfl) (fun r h1 hp => ?_)
        obtain ⟨rfl, rfl⟩ := hp
        refine V_bif_eq (pc := 73) X 80 dX4_item_73 (by decide)  (fun c_73 => ?_) (fun c_73 => ?_)
        · skip
          refine V_iconst (pc := 80) X dX4_item_80 ?_
          refine V_zret (st := []) (pc := 81) X hQ dX4_item_81 rfl (by omega) rfl ?_
          exact ⟨by unfold c_itR; simp [z_b, *], by unfold c_itR; simp [*]⟩
        · skip
          refine V_iconst (pc := 76) X dX4_item_76 ?_
          refine V_goto (pc := 77) X 81 dX4_item_77 (by decide) ?_
          refine V_zret (st := []) (pc := 81) X hQ dX4_item_81 rfl (by omega) rfl ?_
          exact ⟨by unfold c_itR; simp [z_b, *], by unfold c_itR; simp [*]⟩
    by_cases e_109 : q.2.2.2 = 109
    · skip
      refine V_lsw (pc := 14) X 111 dX4_item_14 ⟨by omega, by omega⟩ (by decide) (by first | (rw [e_109]; done) | (rw [e_109]; rfl)) (by decide) ?_
      refine V_aload_n (pc := 111) X dX4_item_111 rfl (by first | decide | omega | assumption) ?_
      refine V_gz (pc := 112) X dX4_item_112 f_RX4_24 (by first | rfl | assumption | (simp only [*]; done) | omega) 6 rfl (show _ = H 1 6 from by rw [c_tk_slot H q (by decide) (by decide) (by decide) (by decide)]) ?_
      refine V_if_ne (pc := 115) X 130 dX4_item_115 (by decide) ⟨by omega, by omega⟩ (fun c_115 => ?_) (fun c_115 => ?_)
      · skip
        refine V_iconst (pc := 130) X dX4_item_130 ?_
        refine V_zret (st := []) (pc := 131) X hQ dX4_item_131 rfl (by omega) rfl ?_
        exact ⟨by unfold c_itR; simp [z_b, *], by unfold c_itR; simp [*]⟩
      · skip
        refine V_aload_n (pc := 118) X dX4_item_118 rfl (by first | decide | omega | assumption) ?_
        refine V_aload_n (pc := 119) X dX4_item_119 rfl (by first | decide | omega | assumption) ?_
        refine V_CV (pc := 120) X dX4_item_120 oX4_mirror l_RX4_63 eX4_mirror vX4_mirror ⟨Nat.le_of_ble_eq_true rfl, Nat.le_of_ble_eq_true rfl⟩ ⟨rfl, rfl⟩ ⟨Nat.le_of_ble_eq_true rfl, Nat.le_of_ble_eq_true rfl⟩ (ct_X4_mirror hR hq kp) rfl (by first | rfl | assumption | (simp only [*]; done) | omega) (by intro q h; cases h; rfl) rfl (by rfl) (by exact Nat.le_of_ble_eq_true rfl) (fun r h1 hp => ?_)
        obtain ⟨rfl, rfl⟩ := hp
        refine V_bif_eq (pc := 123) X 130 dX4_item_123 (by decide)  (fun c_123 => ?_) (fun c_123 => ?_)
        · skip
          refine V_iconst (pc := 130) X dX4_item_130 ?_
          refine V_zret (st := []) (pc := 131) X hQ dX4_item_131 rfl (by omega) rfl ?_
          exact ⟨by unfold c_itR; simp [z_b, *], by unfold c_itR; simp [*]⟩
        · skip
          refine V_iconst (pc := 126) X dX4_item_126 ?_
          refine V_goto (pc := 127) X 131 dX4_item_127 (by decide) ?_
          refine V_zret (st := []) (pc := 131) X hQ dX4_item_131 rfl (by omega) rfl ?_
          exact ⟨by unfold c_itR; simp [z_b, *], by unfold c_itR; simp [*]⟩
    by_cases e_112 : q.2.2.2 = 112
    · skip
      refine V_lsw (pc := 14) X 82 dX4_item_14 ⟨by omega, by omega⟩ (by decide) (by first | (rw [e_112]; done) | (rw [e_112]; rfl)) (by decide) ?_
      refine V_aload_n (pc := 82) X dX4_item_82 rfl (by first | decide | omega | assumption) ?_
      refine V_aload_n (pc := 83) X dX4_item_83 rfl (by first | decide | omega | assumption) ?_
      refine V_CV (pc := 84) X dX4_item_84 oX4_glass l_RX4_54 eX4_glass vX4_glass ⟨Nat.le_of_ble_eq_true rfl, Nat.le_of_ble_eq_true rfl⟩ ⟨rfl, rfl⟩ ⟨Nat.le_of_ble_eq_true rfl, Nat.le_of_ble_eq_true rfl⟩ (ct_X4_glass hR hq kp rp0 kp1 hw hh) rfl (by first | rfl | assumption | (simp only [*]; done) | omega) (by intro q h; cases h; rfl) rfl (by rfl) (by exact Nat.le_of_ble_eq_true rfl) (fun r h1 hp => ?_)
      obtain ⟨rfl, rfl⟩ := hp
      refine V_zret (st := []) (pc := 87) X hQ dX4_item_87 rfl (z_b_01 _) rfl ?_
      exact ⟨by unfold c_itR; simp [z_b, *], by unfold c_itR; simp [*]⟩
    by_cases e_115 : q.2.2.2 = 115
    · skip
      refine V_lsw (pc := 14) X 88 dX4_item_14 ⟨by omega, by omega⟩ (by decide) (by first | (rw [e_115]; done) | (rw [e_115]; rfl)) (by decide) ?_
      refine V_aload_n (pc := 88) X dX4_item_88 rfl (by first | decide | omega | assumption) ?_
      refine V_gz (pc := 89) X dX4_item_89 f_RX4_57 (by first | rfl | assumption | (simp only [*]; done) | omega) 4 rfl (show _ = H P 4 from by rw [c_tk_cell H q pn1]) ?_
      refine V_bipush (pc := 92) X dX4_item_92 (by decide) ?_
      refine V_icmp_ge (pc := 94) X 109 dX4_item_94 (by decide) ⟨by omega, by omega⟩ ⟨by omega, by omega⟩ (fun c_94 => ?_) (fun c_94 => ?_)
      · skip
        have h8 := Int.not_lt.mpr c_94
        refine V_iconst (pc := 109) X dX4_item_109 ?_
        refine V_zret (st := []) (pc := 110) X hQ dX4_item_110 rfl (by omega) rfl ?_
        exact ⟨by unfold c_itR; simp [z_b, *], by unfold c_itR; simp [*]⟩
      · skip
        have h8 := Int.not_le.mp c_94
        refine V_aload_n (pc := 97) X dX4_item_97 rfl (by first | decide | omega | assumption) ?_
        refine V_aload_n (pc := 98) X dX4_item_98 rfl (by first | decide | omega | assumption) ?_
        refine V_CV (pc := 99) X dX4_item_99 oX4_sheetColour l_RX4_60 eX4_sheetColour vX4_sheetColour ⟨Nat.le_of_ble_eq_true rfl, Nat.le_of_ble_eq_true rfl⟩ ⟨rfl, rfl⟩ ⟨Nat.le_of_ble_eq_true rfl, Nat.le_of_ble_eq_true rfl⟩ (ct_X4_sheetColour hR hq kp rp1 kp2 ⟨by omega, by omega⟩) rfl (by first | rfl | assumption | (simp only [*]; done) | omega) (by intro q h; cases h; rfl) rfl (by rfl) (by exact Nat.le_of_ble_eq_true rfl) (fun r h1 hp => ?_)
        obtain ⟨rfl, rfl⟩ := hp
        refine V_bif_eq (pc := 102) X 109 dX4_item_102 (by decide)  (fun c_102 => ?_) (fun c_102 => ?_)
        · skip
          refine V_iconst (pc := 109) X dX4_item_109 ?_
          refine V_zret (st := []) (pc := 110) X hQ dX4_item_110 rfl (by omega) rfl ?_
          exact ⟨by unfold c_itR; simp [z_b, *], by unfold c_itR; simp [*]⟩
        · skip
          refine V_iconst (pc := 105) X dX4_item_105 ?_
          refine V_goto (pc := 106) X 110 dX4_item_106 (by decide) ?_
          refine V_zret (st := []) (pc := 110) X hQ dX4_item_110 rfl (by omega) rfl ?_
          exact ⟨by unfold c_itR; simp [z_b, *], by unfold c_itR; simp [*]⟩
    by_cases e_121 : q.2.2.2 = 121
    · skip
      refine V_lsw (pc := 14) X 132 dX4_item_14 ⟨by omega, by omega⟩ (by decide) (by first | (rw [e_121]; done) | (rw [e_121]; rfl)) (by decide) ?_
      refine V_aload_n (pc := 132) X dX4_item_132 rfl (by first | decide | omega | assumption) ?_
      refine V_gz (pc := 133) X dX4_item_133 f_RX4_28 (by first | rfl | assumption | (simp only [*]; done) | omega) 7 rfl (show _ = H 1 7 from by rw [c_tk_slot H q (by decide) (by decide) (by decide) (by decide)]) ?_
      refine V_if_ne (pc := 136) X 151 dX4_item_136 (by decide) ⟨by omega, by omega⟩ (fun c_136 => ?_) (fun c_136 => ?_)
      · skip
        refine V_iconst (pc := 151) X dX4_item_151 ?_
        refine V_zret (st := []) (pc := 152) X hQ dX4_item_152 rfl (by omega) rfl ?_
        exact ⟨by unfold c_itR; simp [z_b, *], by unfold c_itR; simp [*]⟩
      · skip
        refine V_aload_n (pc := 139) X dX4_item_139 rfl (by first | decide | omega | assumption) ?_
        refine V_aload_n (pc := 140) X dX4_item_140 rfl (by first | decide | omega | assumption) ?_
        refine V_CV (pc := 141) X dX4_item_141 oX4_season l_RX4_66 eX4_season vX4_season ⟨Nat.le_of_ble_eq_true rfl, Nat.le_of_ble_eq_true rfl⟩ ⟨rfl, rfl⟩ ⟨Nat.le_of_ble_eq_true rfl, Nat.le_of_ble_eq_true rfl⟩ (ct_X4_season hR hq kp) rfl (by first | rfl | assumption | (simp only [*]; done) | omega) (by intro q h; cases h; rfl) rfl (by rfl) (by exact Nat.le_of_ble_eq_true rfl) (fun r h1 hp => ?_)
        obtain ⟨rfl, rfl⟩ := hp
        refine V_bif_eq (pc := 144) X 151 dX4_item_144 (by decide)  (fun c_144 => ?_) (fun c_144 => ?_)
        · skip
          refine V_iconst (pc := 151) X dX4_item_151 ?_
          refine V_zret (st := []) (pc := 152) X hQ dX4_item_152 rfl (by omega) rfl ?_
          exact ⟨by unfold c_itR; simp [z_b, *], by unfold c_itR; simp [*]⟩
        · skip
          refine V_iconst (pc := 147) X dX4_item_147 ?_
          refine V_goto (pc := 148) X 152 dX4_item_148 (by decide) ?_
          refine V_zret (st := []) (pc := 152) X hQ dX4_item_152 rfl (by omega) rfl ?_
          exact ⟨by unfold c_itR; simp [z_b, *], by unfold c_itR; simp [*]⟩
    refine V_lsw (pc := 14) X 153 dX4_item_14 ⟨by omega, by omega⟩ (by decide) (by show Op.lookupswitch.offset [(103, 50), (109, 97), (112, 68), (115, 74), (121, 118)] 139 (q.2.2.2) = 139; rw [Op.lookupswitch.offset_cons, if_neg (by omega), Op.lookupswitch.offset_cons, if_neg (by omega), Op.lookupswitch.offset_cons, if_neg (by omega), Op.lookupswitch.offset_cons, if_neg (by omega), Op.lookupswitch.offset_cons, if_neg (by omega)]; rfl) (by decide) ?_
    refine V_iconst (pc := 153) X dX4_item_153 ?_
    refine V_zret (st := []) (pc := 154) X hQ dX4_item_154 rfl (by omega) rfl ?_
    exact ⟨by unfold c_itR; simp [z_b, *], by unfold c_itR; simp [*]⟩
  · skip
    refine V_iconst (pc := 8) X dX4_item_8 ?_
    refine V_zret (st := []) (pc := 9) X hQ dX4_item_9 rfl (by omega) rfl ?_
    exact ⟨by unfold c_itR; simp [z_b, *], by unfold c_itR; simp [*]⟩
set_option maxHeartbeats 4000000 in
set_option maxRecDepth 100000 in
theorem ct_X4_readInto {h : z_H} {P : Int} {T : Int → Int} {N : Int} (hR : c_Rd h T N) (kp : z_kd 107 P = (0, 2)) (rp0 : h P 0 = P + 1) (rp1 : h P 1 = P + 2) (kp1 : z_kd 107 (P + 1) = (1, 20)) (kp2 : z_kd 107 (P + 2) = (1, 256)) (hpi : ∀ p, 0 ≤ p → p < 256 → 0 ≤ h (P + 2) p ∧ h (P + 2) p < 8) (hv : 0 ≤ h 1 5 ∧ h 1 5 ≤ 999) : z_Ct mX4_readInto 107 [(2, 1), (2, P)] h (fun r h2 => r = some (0, (c_rdL T N P 171 (c_rd0 h P) (t_tok T N 0 (h 1 5)) 0).1) ∧ h2 = c_tk (c_rdL T N P 171 (c_rd0 h P) (t_tok T N 0 (h 1 5)) 0).2.1 (c_rdL T N P 171 (c_rd0 h P) (t_tok T N 0 (h 1 5)) 0).2.2) := by
  refine z_mk (L := [(2, 1), (2, P), (9, 0)]) oX4_readInto.2.2.2.2 (Nat.le_of_ble_eq_true rfl) rfl ?_
  intro Γ X hQ
  obtain ⟨r10, r11, r2, hN, hT⟩ := id hR
  have hPR0 := c_rd0_ok hR kp rp0 rp1 kp1 kp2 hpi
  have hq0 : t_OK N (t_tok T N 0 (h 1 5)) := t_nx_ok2 (q := (0, 0, 0, h 1 5)) hN hT ⟨by show (0 : Int) ≤ 0; decide, hN.1⟩ hv
  have P0 := (z_kd_spec kp (Nat.ne_of_beq_eq_false rfl)).1
  have pn1 : P ≠ 1 := fun e => by subst e; revert kp; decide
  have pa1 : P + 1 ≠ 1 := fun e => by rw [e] at kp1; revert kp1; decide
  have pb1 : P + 2 ≠ 1 := fun e => by rw [e] at kp2; revert kp2; decide
  refine V_aload_n (pc := 0) X dX4_readInto_0 rfl (by first | decide | omega | assumption) ?_
  refine V_CV (pc := 1) X dX4_readInto_1 oX3_restart l_RX4_19 eX3_restart vX3_restart ⟨Nat.le_of_ble_eq_true rfl, Nat.le_of_ble_eq_true rfl⟩ ⟨rfl, rfl⟩ ⟨Nat.le_of_ble_eq_true rfl, Nat.le_of_ble_eq_true rfl⟩ (ct_X3_restart kp rp0 rp1 kp1 kp2) rfl (by first | rfl | assumption | (simp only [*]; done) | omega) (by intro q h; cases h; rfl) rfl (by rfl) (by exact Nat.le_of_ble_eq_true rfl) (fun r h1 hp => ?_)
  obtain ⟨rfl, rfl⟩ := hp
  refine V_aload_n (pc := 4) X dX4_readInto_4 rfl (by first | decide | omega | assumption) ?_
  refine V_iconst (pc := 5) X dX4_readInto_5 ?_
  refine V_pz (pc := 6) X dX4_readInto_6 f_RX4_24 (by first | rfl | assumption | (simp only [*]; done) | omega) (fun b => z_fitZ b (by omega)) 6 rfl ?_
  refine V_aload_n (pc := 9) X dX4_readInto_9 rfl (by first | decide | omega | assumption) ?_
  refine V_iconst (pc := 10) X dX4_readInto_10 ?_
  refine V_pz (pc := 11) X dX4_readInto_11 f_RX4_28 (by first | rfl | assumption | (simp only [*]; done) | omega) (fun b => z_fitZ b (by omega)) 7 rfl ?_
  refine V_aload_n (pc := 14) X dX4_readInto_14 rfl (by first | decide | omega | assumption) ?_
  refine V_iconst (pc := 15) X dX4_readInto_15 ?_
  refine V_pz (pc := 16) X dX4_readInto_16 f_RX4_31 (by first | rfl | assumption | (simp only [*]; done) | omega) (fun b => z_fitI b _) 2 rfl ?_
  rw [show z_st (z_st (z_st (c_rstH h P) 1 6 0) 1 7 0) 1 2 0 = c_tk (c_rd0 h P) (0, c_rd0 h P 1 3, c_rd0 h P 1 4, c_rd0 h P 1 5) from by rw [← c_tk_p2 (c_rd0 h P) (c_rd0 h P 1 2), c_tk_same]; rfl]
  refine V_aload_n (pc := 19) X dX4_readInto_19 rfl (by first | decide | omega | assumption) ?_
  refine V_CV (pc := 20) X dX4_readInto_20 oX4_step l_RX4_34 eX4_step vX4_step ⟨Nat.le_of_ble_eq_true rfl, Nat.le_of_ble_eq_true rfl⟩ ⟨rfl, rfl⟩ ⟨Nat.le_of_ble_eq_true rfl, Nat.le_of_ble_eq_true rfl⟩ (ct_X4_step hPR0.1 (by decide) hN.1) rfl (by first | rfl | assumption | (simp only [*]; done) | omega) (by intro q h; cases h; rfl) rfl (by rfl) (by exact Nat.le_of_ble_eq_true rfl) (fun r h1 hp => ?_)
  obtain ⟨rfl, rfl⟩ := hp
  rw [show c_rd0 h P 1 5 = h 1 5 from by simp [c_rd0, c_rstH, z_st, z_rw, show (1 : Int) ≠ P from fun e => pn1 e.symm, show (1 : Int) ≠ P + 1 from fun e => pa1 e.symm, show (1 : Int) ≠ P + 2 from fun e => pb1 e.symm]]
  refine V_iconst (pc := 23) X dX4_readInto_23 ?_
  refine V_istore_n (pc := 24) X dX4_readInto_24 (by exact Nat.le_of_ble_eq_true rfl) rfl ?_
  have lp_25 : ∀ (m : Nat) (i : Nat) (H : z_H) (q : t_Q), 171 - i < m → i ≤ 170 → c_PR H P T N → t_OK N q → c_rdL T N P (171 - i) H q (i : Int) = (c_rdL T N P 171 (c_rd0 h P) (t_tok T N 0 (h 1 5)) 0) → z_V Γ (107, 0, 0) 25 [(2, 1), (2, P), (0, (i : Int))] [] (c_tk H q) := by
    intro m
    induction m with
    | zero => intro i H q hm; exact absurd hm (Nat.not_lt_zero _)
    | succ m ih_25 =>
      intro i H q hm hi hPR hq heq
      obtain ⟨r10, r11, r2, -, -⟩ := id hPR.1
      have hq2 := hq.2.2.1
      obtain ⟨hk1, hk2⟩ := c_itR_ok (fb := decide ((i : Int) = 0)) hPR hq
      rw [show 171 - i = (170 - i) + 1 by omega, c_rdL] at heq
      refine V_iload_n (pc := 25) X dX4_readInto_25 rfl ?_
      refine V_aload_n (pc := 26) X dX4_readInto_26 rfl (by first | decide | omega | assumption) ?_
      refine V_gz (pc := 27) X dX4_readInto_27 f_RX4_15 (by first | rfl | assumption | (simp only [*]; done) | omega) 1 rfl (show _ = N from by rw [c_tk_slot H (q) (by decide) (by decide) (by decide) (by decide)]; exact r11) ?_
      refine V_icmp_ge (pc := 30) X 75 dX4_readInto_30 (by decide) ⟨by omega, by omega⟩ ⟨by omega, by omega⟩ (fun c_30 => ?_) (fun c_30 => ?_)
      · skip
        refine V_iload_n (pc := 75) X dX4_readInto_75 rfl ?_
        refine V_iret (st := []) (pc := 76) X hQ dX4_readInto_76 rfl rfl ?_
        exact ⟨by rw [if_pos (by omega)] at heq; rw [← heq], by rw [if_pos (by omega)] at heq; rw [← heq]⟩
      · skip
        refine V_aload_n (pc := 33) X dX4_readInto_33 rfl (by first | decide | omega | assumption) ?_
        refine V_gz (pc := 34) X dX4_readInto_34 f_RX4_37 (by first | rfl | assumption | (simp only [*]; done) | omega) 4 rfl (show _ = (q).2.2.1 from c_tk_4 H (q)) ?_
        refine V_if_eq (pc := 37) X 75 dX4_readInto_37 (by decide) ⟨by omega, by omega⟩ (fun c_37 => ?_) (fun c_37 => ?_)
        · skip
          refine V_iload_n (pc := 75) X dX4_readInto_75 rfl ?_
          refine V_iret (st := []) (pc := 76) X hQ dX4_readInto_76 rfl rfl ?_
          exact ⟨by rw [if_pos (by omega)] at heq; rw [← heq], by rw [if_pos (by omega)] at heq; rw [← heq]⟩
        · skip
          refine V_aload_n (pc := 40) X dX4_readInto_40 rfl (by first | decide | omega | assumption) ?_
          refine V_aload_n (pc := 41) X dX4_readInto_41 rfl (by first | decide | omega | assumption) ?_
          refine V_joinS 51 (fun z => z = z_b (decide ((i : Int) = 0))) (fun J => ?_) (fun z hz => ?_)
          · skip
            refine V_iload_n (pc := 42) X dX4_readInto_42 rfl ?_
            refine V_if_ne (pc := 43) X 50 dX4_readInto_43 (by decide) ⟨by omega, by omega⟩ (fun c_43 => ?_) (fun c_43 => ?_)
            · skip
              refine V_iconst (pc := 50) X dX4_readInto_50 ?_
              exact J _ (by unfold z_b; first | rw [if_pos (decide_eq_true c_43)] | rw [if_neg (by simp; omega)])
            · skip
              refine V_iconst (pc := 46) X dX4_readInto_46 ?_
              refine V_goto (pc := 47) X 51 dX4_readInto_47 (by decide) ?_
              exact J _ (by unfold z_b; first | rw [if_pos (decide_eq_true c_43)] | rw [if_neg (by simp; omega)])
          · skip
            subst hz
            refine V_CV (pc := 51) X dX4_readInto_51 oX4_item l_RX4_40 eX4_item vX4_item ⟨Nat.le_of_ble_eq_true rfl, Nat.le_of_ble_eq_true rfl⟩ ⟨rfl, rfl⟩ ⟨Nat.le_of_ble_eq_true rfl, Nat.le_of_ble_eq_true rfl⟩ (ct_X4_item hPR hq) rfl (by first | rfl | assumption | (simp only [*]; done) | omega) (by intro q h; cases h; rfl) rfl (by rfl) (by exact Nat.le_of_ble_eq_true rfl) (fun r h1 hp => ?_)
            obtain ⟨rfl, rfl⟩ := hp
            refine V_bif_ne (pc := 54) X 65 dX4_readInto_54 (by decide)  (fun c_54 => ?_) (fun c_54 => ?_)
            · skip
              refine V_aload_n (pc := 65) X dX4_readInto_65 rfl (by first | decide | omega | assumption) ?_
              refine V_CV (pc := 66) X dX4_readInto_66 oX4_step l_RX4_34 eX4_step vX4_step ⟨Nat.le_of_ble_eq_true rfl, Nat.le_of_ble_eq_true rfl⟩ ⟨rfl, rfl⟩ ⟨Nat.le_of_ble_eq_true rfl, Nat.le_of_ble_eq_true rfl⟩ (ct_X4_step (n := (c_itR T N H P q (decide ((i : Int) = 0))).2.2.1) (s0 := (c_itR T N H P q (decide ((i : Int) = 0))).2.2.2.1) (o := (c_itR T N H P q (decide ((i : Int) = 0))).2.2.2.2.1) (v := (c_itR T N H P q (decide ((i : Int) = 0))).2.2.2.2.2) hk1.1 hk2.1.1 hk2.1.2) rfl (by first | rfl | assumption | (simp only [*]; done) | omega) (by intro q h; cases h; rfl) rfl (by rfl) (by exact Nat.le_of_ble_eq_true rfl) (fun r h1 hp => ?_)
              obtain ⟨rfl, rfl⟩ := hp
              refine V_iinc (pc := 69) X dX4_readInto_69 rfl rfl ?_
              refine V_goto (pc := 72) X 25 dX4_readInto_72 (by decide) ?_
              refine ih_25 (i + 1) _ _ (by omega) (by omega) hk1 (t_nx_ok hN hT hk2) ?_
              rw [if_neg (by omega), if_neg (by rw [c_54]; decide)] at heq
              rw [← heq, show 171 - (i + 1) = 170 - i by omega]
              rfl
            · skip
              refine V_bipush (pc := 57) X dX4_readInto_57 (by decide) ?_
              refine V_aload_n (pc := 59) X dX4_readInto_59 rfl (by first | decide | omega | assumption) ?_
              refine V_gz (pc := 60) X dX4_readInto_60 f_RX4_44 (by first | rfl | assumption | (simp only [*]; done) | omega) 3 rfl (show _ = (c_itR T N H P q (decide ((i : Int) = 0))).2.2.2.1 from c_tk_3 _ _) ?_
              refine V_isub (pc := 63) X dX4_readInto_63 ?_
              refine V_iret (st := []) (pc := 64) X hQ dX4_readInto_64 rfl rfl ?_
              exact ⟨by rw [if_neg (by omega), if_pos c_54] at heq; rw [← heq], by rw [if_neg (by omega), if_pos c_54] at heq; rw [← heq]⟩
  exact lp_25 _ 0 (c_rd0 h P) (t_tok T N 0 (h 1 5)) (Nat.lt_succ_self _) (by decide) hPR0 hq0 rfl
