/-! PaneLightModel, 4: reading -/
set_option maxHeartbeats 4000000 in
set_option maxRecDepth 100000 in
theorem ct_X10_number {H : z_H} (hO : r_Ob H) {T : Int → Int} {N : Int} (hX : r_Tx H T N) {q : t_R} (h0 : 0 ≤ q.1 ∧ q.1 ≤ N) {lo hi : Int} (h1 : z_R lo) (h2 : z_R hi) : z_Ct mX10_number 107 [(2, 89), (0, lo), (0, hi)] (r_tq H q) (fun r h2 => r = some (0, z_b (m_nm lo hi (m_nx T N q))) ∧ h2 = r_tq H (m_nx T N q)) := by
  refine z_mk (L := [(2, 89), (0, lo), (0, hi)]) oX10_number.2.2.2.2 (Nat.le_of_ble_eq_true rfl) rfl ?_
  intro Γ X hQ
  obtain ⟨r2, hNs, hN, hTx⟩ := id hX
  obtain ⟨l1, l2⟩ := h1
  obtain ⟨u1, u2⟩ := h2
  refine V_aload_n (pc := 0) X dX10_number_0 rfl (by first | decide | omega | assumption) ?_
  refine V_CV (pc := 1) X dX10_number_1 oX10_step l_RX10_118 eX10_step vX10_step ⟨Nat.le_of_ble_eq_true rfl, Nat.le_of_ble_eq_true rfl⟩ ⟨rfl, rfl⟩ ⟨Nat.le_of_ble_eq_true rfl, Nat.le_of_ble_eq_true rfl⟩ (ct_X10_step (n := q.1) (b := q.2.1) (c := q.2.2.1) (d := q.2.2.2.1) (e := q.2.2.2.2) hO hX h0.1 h0.2) rfl (by first | rfl | assumption | (simp only [*]; done) | omega) (by intro q h; cases h; rfl) rfl (by rfl) (by exact Nat.le_of_ble_eq_true rfl) (fun r h1 hp => ?_)
  obtain ⟨rfl, rfl⟩ := hp
  have k1 : m_OK N (m_nx T N q) := m_nx_ok (T := T) hN hTx h0
  have k1v := k1.2.2.2.2
  have k1t := k1.2.2.1
  rw [show r_tq H (m_tok T N q.1) = r_tq H (m_nx T N q) from rfl]
  refine V_aload_n (pc := 4) X dX10_number_4 rfl (by first | decide | omega | assumption) ?_
  refine V_gz (pc := 5) X dX10_number_5 f_RX10_108 (by first | rfl | assumption | (simp only [*]; done) | omega) 20 rfl (show _ = (m_nx T N q).2.2.1 from r_tk_20 _ _ _ _ _ _) ?_
  refine V_iconst (pc := 8) X dX10_number_8 ?_
  refine V_icmp_ne (pc := 9) X 31 dX10_number_9 (by decide) ⟨by omega, by omega⟩ ⟨by omega, by omega⟩ (fun c_9 => ?_) (fun c_9 => ?_)
  · skip
    refine V_iconst (pc := 31) X dX10_number_31 ?_
    refine V_zret (st := []) (pc := 32) X hQ dX10_number_32 rfl (by omega) rfl ?_
    exact ⟨by congr 2; unfold m_nm z_b; first | (rw [if_pos (decide_eq_true (by have g := of_decide_eq_true c_24; omega))]; done) | (rw [if_neg (by have g := of_decide_eq_false c_24; simp; omega)]; done) | (rw [if_neg (by simp; omega)]), rfl⟩
  · skip
    refine V_aload_n (pc := 12) X dX10_number_12 rfl (by first | decide | omega | assumption) ?_
    refine V_gz (pc := 13) X dX10_number_13 f_RX10_105 (by first | rfl | assumption | (simp only [*]; done) | omega) 22 rfl (show _ = (m_nx T N q).2.2.2.2 from r_tk_22 _ _ _ _ _ _) ?_
    refine V_i2l (pc := 16) X dX10_number_16 ⟨by omega, by omega⟩ ?_
    refine V_iload_n (pc := 17) X dX10_number_17 rfl ?_
    refine V_i2l (pc := 18) X dX10_number_18 ⟨by omega, by omega⟩ ?_
    refine V_iload_n (pc := 19) X dX10_number_19 rfl ?_
    refine V_i2l (pc := 20) X dX10_number_20 ⟨by omega, by omega⟩ ?_
    refine V_FS (pc := 21) X dX10_number_21 oX10_in l_RX10_81 sX10_in ⟨Nat.le_of_ble_eq_true rfl, Nat.le_of_ble_eq_true rfl⟩ ⟨rfl, rfl⟩ ⟨Nat.le_of_ble_eq_true rfl, Nat.le_of_ble_eq_true rfl⟩ (ct_X10_in ⟨by omega, by omega⟩ ⟨by omega, by omega⟩ ⟨by omega, by omega⟩) rfl (by rfl) (by exact Nat.le_of_ble_eq_true rfl) ?_
    refine V_bif_eq (pc := 24) X 31 dX10_number_24 (by decide)  (fun c_24 => ?_) (fun c_24 => ?_)
    · skip
      refine V_iconst (pc := 31) X dX10_number_31 ?_
      refine V_zret (st := []) (pc := 32) X hQ dX10_number_32 rfl (by omega) rfl ?_
      exact ⟨by congr 2; unfold m_nm z_b; first | (rw [if_pos (decide_eq_true (by have g := of_decide_eq_true c_24; omega))]; done) | (rw [if_neg (by have g := of_decide_eq_false c_24; simp; omega)]; done) | (rw [if_neg (by simp; omega)]), rfl⟩
    · skip
      refine V_iconst (pc := 27) X dX10_number_27 ?_
      refine V_goto (pc := 28) X 32 dX10_number_28 (by decide) ?_
      refine V_zret (st := []) (pc := 32) X hQ dX10_number_32 rfl (by omega) rfl ?_
      exact ⟨by congr 2; unfold m_nm z_b; first | (rw [if_pos (decide_eq_true (by have g := of_decide_eq_true c_24; omega))]; done) | (rw [if_neg (by have g := of_decide_eq_false c_24; simp; omega)]; done) | (rw [if_neg (by simp; omega)]), rfl⟩
set_option maxHeartbeats 4000000 in
set_option maxRecDepth 100000 in
theorem ct_X10_readsWindow {H : z_H} {T : Int → Int} {N : Int} (hPR : m_PR H T N) {q : t_R} (hq : m_OK N q) : z_Ct mX10_readsWindow 107 [(2, 89)] (r_tq H q) (fun r h2 => r = some (0, z_b (m_szR T N H q).1) ∧ h2 = r_tq (m_szR T N H q).2.1 (m_szR T N H q).2.2) := by
  refine z_mk (L := [(2, 89)]) oX10_readsWindow.2.2.2.2 (Nat.le_of_ble_eq_true rfl) rfl ?_
  intro Γ X hQ
  obtain ⟨hO, hX, ⟨rw1, rw2⟩, ⟨rh1, rh2⟩, ⟨rs1, rs2⟩, rm, re, rg, rc⟩ := id hPR
  obtain ⟨rb2, rb3, rb5, rb6, rb7, rb9, rb10, rb11, rb12, rb13, rb15, rb25, rb26, rb30, rb31, rb32, rb33⟩ := id hO
  obtain ⟨r2, hNs, hN, hTx⟩ := id hX
  obtain ⟨⟨qa, qb⟩, ⟨qc, qd⟩, ⟨qe, qf⟩, ⟨qg, qh⟩, qi, qj⟩ := id hq
  have k1 := m_nx_ok (T := T) hN hTx hq.1
  have k2 := m_nx_ok (T := T) hN hTx k1.1
  have k3 := m_nx_ok (T := T) hN hTx k2.1
  refine V_aload_n (pc := 0) X dX10_readsWindow_0 rfl (by first | decide | omega | assumption) ?_
  refine V_iconst (pc := 1) X dX10_readsWindow_1 ?_
  refine V_iconst (pc := 2) X dX10_readsWindow_2 ?_
  refine V_CV (pc := 3) X dX10_readsWindow_3 oX10_number l_RX10_121 eX10_number vX10_number ⟨Nat.le_of_ble_eq_true rfl, Nat.le_of_ble_eq_true rfl⟩ ⟨rfl, rfl⟩ ⟨Nat.le_of_ble_eq_true rfl, Nat.le_of_ble_eq_true rfl⟩ (ct_X10_number (H := H) (q := q) hO hX hq.1 ⟨by omega, by omega⟩ ⟨by omega, by omega⟩) rfl (by first | rfl | assumption | (simp only [*]; done) | omega) (by intro q h; cases h; rfl) rfl (by rfl) (by exact Nat.le_of_ble_eq_true rfl) (fun r h1 hp => ?_)
  obtain ⟨rfl, rfl⟩ := hp
  refine V_bif_ne (pc := 6) X 11 dX10_readsWindow_6 (by decide)  (fun c_6 => ?_) (fun c_6 => ?_)
  · skip
    refine V_aload_n (pc := 11) X dX10_readsWindow_11 rfl (by first | decide | omega | assumption) ?_
    refine V_aload_n (pc := 12) X dX10_readsWindow_12 rfl (by first | decide | omega | assumption) ?_
    refine V_gz (pc := 13) X dX10_readsWindow_13 f_RX10_105 (by first | rfl | assumption | (simp only [*]; done) | omega) 22 rfl (show _ = (m_nx T N q).2.2.2.2 from r_tk_22 _ _ _ _ _ _) ?_
    refine V_pz (pc := 16) X dX10_readsWindow_16 f_RX10_125 (by first | rfl | assumption | (simp only [*]; done) | omega) (fun b => z_fitI b _) 23 rfl ?_
    rw [r_tq_out _ _ (Or.inr (by decide))]
    refine V_aload_n (pc := 19) X dX10_readsWindow_19 rfl (by first | decide | omega | assumption) ?_
    refine V_iconst (pc := 20) X dX10_readsWindow_20 ?_
    refine V_iconst (pc := 21) X dX10_readsWindow_21 ?_
    refine V_CV (pc := 22) X dX10_readsWindow_22 oX10_number l_RX10_121 eX10_number vX10_number ⟨Nat.le_of_ble_eq_true rfl, Nat.le_of_ble_eq_true rfl⟩ ⟨rfl, rfl⟩ ⟨Nat.le_of_ble_eq_true rfl, Nat.le_of_ble_eq_true rfl⟩ (ct_X10_number (H := (z_st H 89 23 (m_nx T N q).2.2.2.2)) (q := m_nx T N q) (hO.st (Or.inr (by decide))) (r_Tx_st (by decide) (Or.inr (by decide)) hX) k1.1 ⟨by omega, by omega⟩ ⟨by omega, by omega⟩) rfl (by first | rfl | assumption | (simp only [*]; done) | omega) (by intro q h; cases h; rfl) rfl (by rfl) (by exact Nat.le_of_ble_eq_true rfl) (fun r h1 hp => ?_)
    obtain ⟨rfl, rfl⟩ := hp
    refine V_bif_ne (pc := 25) X 30 dX10_readsWindow_25 (by decide)  (fun c_25 => ?_) (fun c_25 => ?_)
    · skip
      refine V_aload_n (pc := 30) X dX10_readsWindow_30 rfl (by first | decide | omega | assumption) ?_
      refine V_aload_n (pc := 31) X dX10_readsWindow_31 rfl (by first | decide | omega | assumption) ?_
      refine V_gz (pc := 32) X dX10_readsWindow_32 f_RX10_105 (by first | rfl | assumption | (simp only [*]; done) | omega) 22 rfl (show _ = (m_nx T N (m_nx T N q)).2.2.2.2 from r_tk_22 _ _ _ _ _ _) ?_
      refine V_pz (pc := 35) X dX10_readsWindow_35 f_RX10_128 (by first | rfl | assumption | (simp only [*]; done) | omega) (fun b => z_fitI b _) 24 rfl ?_
      rw [r_tq_out _ _ (Or.inr (by decide))]
      refine V_iconst (pc := 38) X dX10_readsWindow_38 ?_
      refine V_zret (st := []) (pc := 39) X hQ dX10_readsWindow_39 rfl (by omega) rfl ?_
      exact ⟨by unfold m_szR; simp [z_b, *], by unfold m_szR; simp [*]⟩
    · skip
      refine V_iconst (pc := 28) X dX10_readsWindow_28 ?_
      refine V_zret (st := []) (pc := 29) X hQ dX10_readsWindow_29 rfl (by omega) rfl ?_
      exact ⟨by unfold m_szR; simp [z_b, *], by unfold m_szR; simp [*]⟩
  · skip
    refine V_iconst (pc := 9) X dX10_readsWindow_9 ?_
    refine V_zret (st := []) (pc := 10) X hQ dX10_readsWindow_10 rfl (by omega) rfl ?_
    exact ⟨by unfold m_szR; simp [z_b, *], by unfold m_szR; simp [*]⟩
set_option maxHeartbeats 4000000 in
set_option maxRecDepth 100000 in
theorem ct_X10_readsPane {H : z_H} {T : Int → Int} {N : Int} (hPR : m_PR H T N) {q : t_R} (hq : m_OK N q) : z_Ct mX10_readsPane 107 [(2, 89)] (r_tq H q) (fun r h2 => r = some (0, z_b (m_glR T N H q).1) ∧ h2 = r_tq (m_glR T N H q).2.1 (m_glR T N H q).2.2) := by
  refine z_mk (L := [(2, 89), (9, 0), (9, 0)]) oX10_readsPane.2.2.2.2 (Nat.le_of_ble_eq_true rfl) rfl ?_
  intro Γ X hQ
  obtain ⟨hO, hX, ⟨rw1, rw2⟩, ⟨rh1, rh2⟩, ⟨rs1, rs2⟩, rm, re, rg, rc⟩ := id hPR
  obtain ⟨rb2, rb3, rb5, rb6, rb7, rb9, rb10, rb11, rb12, rb13, rb15, rb25, rb26, rb30, rb31, rb32, rb33⟩ := id hO
  obtain ⟨r2, hNs, hN, hTx⟩ := id hX
  obtain ⟨⟨qa, qb⟩, ⟨qc, qd⟩, ⟨qe, qf⟩, ⟨qg, qh⟩, qi, qj⟩ := id hq
  have k1 := m_nx_ok (T := T) hN hTx hq.1
  have k2 := m_nx_ok (T := T) hN hTx k1.1
  have k3 := m_nx_ok (T := T) hN hTx k2.1
  refine V_aload_n (pc := 0) X dX10_readsPane_0 rfl (by first | decide | omega | assumption) ?_
  refine V_iconst (pc := 1) X dX10_readsPane_1 ?_
  refine V_aload_n (pc := 2) X dX10_readsPane_2 rfl (by first | decide | omega | assumption) ?_
  refine V_gz (pc := 3) X dX10_readsPane_3 f_RX10_125 (by first | rfl | assumption | (simp only [*]; done) | omega) 23 rfl (show _ = H 89 23 from r_tq_s _ _ (by decide)) ?_
  refine V_iconst (pc := 6) X dX10_readsPane_6 ?_
  refine V_isub (pc := 7) X dX10_readsPane_7 ?_
  refine V_CV (pc := 8) X dX10_readsPane_8 oX10_number l_RX10_121 eX10_number vX10_number ⟨Nat.le_of_ble_eq_true rfl, Nat.le_of_ble_eq_true rfl⟩ ⟨rfl, rfl⟩ ⟨Nat.le_of_ble_eq_true rfl, Nat.le_of_ble_eq_true rfl⟩ (ct_X10_number (H := H) (q := q) hO hX hq.1 ⟨by omega, by omega⟩ ⟨by omega, by omega⟩) rfl (by first | rfl | assumption | (simp only [*]; done) | omega) (by intro q h; cases h; rfl) rfl (by rfl) (by exact Nat.le_of_ble_eq_true rfl) (fun r h1 hp => ?_)
  obtain ⟨rfl, rfl⟩ := hp
  refine V_bif_ne (pc := 11) X 16 dX10_readsPane_11 (by decide)  (fun c_11 => ?_) (fun c_11 => ?_)
  · skip
    refine V_aload_n (pc := 16) X dX10_readsPane_16 rfl (by first | decide | omega | assumption) ?_
    refine V_gz (pc := 17) X dX10_readsPane_17 f_RX10_105 (by first | rfl | assumption | (simp only [*]; done) | omega) 22 rfl (show _ = (m_nx T N q).2.2.2.2 from r_tk_22 _ _ _ _ _ _) ?_
    refine V_istore_n (pc := 20) X dX10_readsPane_20 (by exact Nat.le_of_ble_eq_true rfl) rfl ?_
    refine V_aload_n (pc := 21) X dX10_readsPane_21 rfl (by first | decide | omega | assumption) ?_
    refine V_iconst (pc := 22) X dX10_readsPane_22 ?_
    refine V_aload_n (pc := 23) X dX10_readsPane_23 rfl (by first | decide | omega | assumption) ?_
    refine V_gz (pc := 24) X dX10_readsPane_24 f_RX10_128 (by first | rfl | assumption | (simp only [*]; done) | omega) 24 rfl (show _ = H 89 24 from r_tq_s _ _ (by decide)) ?_
    refine V_iconst (pc := 27) X dX10_readsPane_27 ?_
    refine V_isub (pc := 28) X dX10_readsPane_28 ?_
    refine V_CV (pc := 29) X dX10_readsPane_29 oX10_number l_RX10_121 eX10_number vX10_number ⟨Nat.le_of_ble_eq_true rfl, Nat.le_of_ble_eq_true rfl⟩ ⟨rfl, rfl⟩ ⟨Nat.le_of_ble_eq_true rfl, Nat.le_of_ble_eq_true rfl⟩ (ct_X10_number (H := H) (q := m_nx T N q) hO hX k1.1 ⟨by omega, by omega⟩ ⟨by omega, by omega⟩) rfl (by first | rfl | assumption | (simp only [*]; done) | omega) (by intro q h; cases h; rfl) rfl (by rfl) (by exact Nat.le_of_ble_eq_true rfl) (fun r h1 hp => ?_)
    obtain ⟨rfl, rfl⟩ := hp
    refine V_bif_ne (pc := 32) X 37 dX10_readsPane_32 (by decide)  (fun c_32 => ?_) (fun c_32 => ?_)
    · skip
      refine V_aload_n (pc := 37) X dX10_readsPane_37 rfl (by first | decide | omega | assumption) ?_
      refine V_gz (pc := 38) X dX10_readsPane_38 f_RX10_105 (by first | rfl | assumption | (simp only [*]; done) | omega) 22 rfl (show _ = (m_nx T N (m_nx T N q)).2.2.2.2 from r_tk_22 _ _ _ _ _ _) ?_
      refine V_istore_n (pc := 41) X dX10_readsPane_41 (by exact Nat.le_of_ble_eq_true rfl) rfl ?_
      refine V_aload_n (pc := 42) X dX10_readsPane_42 rfl (by first | decide | omega | assumption) ?_
      refine V_iconst (pc := 43) X dX10_readsPane_43 ?_
      refine V_bipush (pc := 44) X dX10_readsPane_44 (by decide) ?_
      refine V_CV (pc := 46) X dX10_readsPane_46 oX10_number l_RX10_121 eX10_number vX10_number ⟨Nat.le_of_ble_eq_true rfl, Nat.le_of_ble_eq_true rfl⟩ ⟨rfl, rfl⟩ ⟨Nat.le_of_ble_eq_true rfl, Nat.le_of_ble_eq_true rfl⟩ (ct_X10_number (H := H) (q := m_nx T N (m_nx T N q)) hO hX k2.1 ⟨by omega, by omega⟩ ⟨by omega, by omega⟩) rfl (by first | rfl | assumption | (simp only [*]; done) | omega) (by intro q h; cases h; rfl) rfl (by rfl) (by exact Nat.le_of_ble_eq_true rfl) (fun r h1 hp => ?_)
      obtain ⟨rfl, rfl⟩ := hp
      refine V_bif_ne (pc := 49) X 54 dX10_readsPane_49 (by decide)  (fun c_49 => ?_) (fun c_49 => ?_)
      · skip
        refine V_aload_n (pc := 54) X dX10_readsPane_54 rfl (by first | decide | omega | assumption) ?_
        refine V_gz (pc := 55) X dX10_readsPane_55 f_RX10_51 (by first | rfl | assumption | (simp only [*]; done) | omega) 25 rfl (show _ = (101 : Int) from (r_tq_s _ _ (by decide)).trans rb25) ?_
        refine V_iconst (pc := 58) X dX10_readsPane_58 ?_
        refine V_iload_n (pc := 59) X dX10_readsPane_59 rfl ?_
        refine V_imul (pc := 60) X dX10_readsPane_60 ?_
        refine V_iload_n (pc := 61) X dX10_readsPane_61 rfl ?_
        refine V_iadd (pc := 62) X dX10_readsPane_62 ?_
        refine V_aload_n (pc := 63) X dX10_readsPane_63 rfl (by first | decide | omega | assumption) ?_
        refine V_gz (pc := 64) X dX10_readsPane_64 f_RX10_105 (by first | rfl | assumption | (simp only [*]; done) | omega) 22 rfl (show _ = (m_nx T N (m_nx T N (m_nx T N q))).2.2.2.2 from r_tk_22 _ _ _ _ _ _) ?_
        have b1 : 0 ≤ (m_nx T N q).2.2.2.2 ∧ (m_nx T N q).2.2.2.2 ≤ H 89 23 - 1 := (of_decide_eq_true c_11).2
        have b2 : 0 ≤ (m_nx T N (m_nx T N q)).2.2.2.2 ∧ (m_nx T N (m_nx T N q)).2.2.2.2 ≤ H 89 24 - 1 := (of_decide_eq_true c_32).2
        refine V_iast (pc := 67) X dX10_readsPane_67 (by first | rfl | assumption | (simp only [*]; done) | omega) (by omega) (by omega) (by decide) ?_
        rw [r_tq_out _ _ (Or.inl (by decide))]
        refine V_iconst (pc := 68) X dX10_readsPane_68 ?_
        refine V_zret (st := []) (pc := 69) X hQ dX10_readsPane_69 rfl (by omega) rfl ?_
        exact ⟨by unfold m_glR; simp [z_b, *], by unfold m_glR; simp [*]⟩
      · skip
        refine V_iconst (pc := 52) X dX10_readsPane_52 ?_
        refine V_zret (st := []) (pc := 53) X hQ dX10_readsPane_53 rfl (by omega) rfl ?_
        exact ⟨by unfold m_glR; simp [z_b, *], by unfold m_glR; simp [*]⟩
    · skip
      refine V_iconst (pc := 35) X dX10_readsPane_35 ?_
      refine V_zret (st := []) (pc := 36) X hQ dX10_readsPane_36 rfl (by omega) rfl ?_
      exact ⟨by unfold m_glR; simp [z_b, *], by unfold m_glR; simp [*]⟩
  · skip
    refine V_iconst (pc := 14) X dX10_readsPane_14 ?_
    refine V_zret (st := []) (pc := 15) X hQ dX10_readsPane_15 rfl (by omega) rfl ?_
    exact ⟨by unfold m_glR; simp [z_b, *], by unfold m_glR; simp [*]⟩
set_option maxHeartbeats 4000000 in
set_option maxRecDepth 100000 in
theorem ct_X10_readsSheet {H : z_H} {T : Int → Int} {N : Int} (hPR : m_PR H T N) {q : t_R} (hq : m_OK N q) : z_Ct mX10_readsSheet 107 [(2, 89)] (r_tq H q) (fun r h2 => r = some (0, z_b (m_scR T N H q).1) ∧ h2 = r_tq (m_scR T N H q).2.1 (m_scR T N H q).2.2) := by
  refine z_mk (L := [(2, 89)]) oX10_readsSheet.2.2.2.2 (Nat.le_of_ble_eq_true rfl) rfl ?_
  intro Γ X hQ
  obtain ⟨hO, hX, ⟨rw1, rw2⟩, ⟨rh1, rh2⟩, ⟨rs1, rs2⟩, rm, re, rg, rc⟩ := id hPR
  obtain ⟨rb2, rb3, rb5, rb6, rb7, rb9, rb10, rb11, rb12, rb13, rb15, rb25, rb26, rb30, rb31, rb32, rb33⟩ := id hO
  obtain ⟨r2, hNs, hN, hTx⟩ := id hX
  obtain ⟨⟨qa, qb⟩, ⟨qc, qd⟩, ⟨qe, qf⟩, ⟨qg, qh⟩, qi, qj⟩ := id hq
  have k1 := m_nx_ok (T := T) hN hTx hq.1
  have k2 := m_nx_ok (T := T) hN hTx k1.1
  have k3 := m_nx_ok (T := T) hN hTx k2.1
  refine V_aload_n (pc := 0) X dX10_readsSheet_0 rfl (by first | decide | omega | assumption) ?_
  refine V_gz (pc := 1) X dX10_readsSheet_1 f_RX10_131 (by first | rfl | assumption | (simp only [*]; done) | omega) 27 rfl (show _ = H 89 27 from r_tq_s _ _ (by decide)) ?_
  refine V_bipush (pc := 4) X dX10_readsSheet_4 (by decide) ?_
  refine V_icmp_eq (pc := 6) X 19 dX10_readsSheet_6 (by decide) ⟨by omega, by omega⟩ ⟨by omega, by omega⟩ (fun c_6 => ?_) (fun c_6 => ?_)
  · skip
    refine V_iconst (pc := 19) X dX10_readsSheet_19 ?_
    refine V_zret (st := []) (pc := 20) X hQ dX10_readsSheet_20 rfl (by omega) rfl ?_
    exact ⟨by unfold m_scR; simp [z_b, *], by unfold m_scR; simp [*]⟩
  · skip
    refine V_aload_n (pc := 9) X dX10_readsSheet_9 rfl (by first | decide | omega | assumption) ?_
    refine V_iconst (pc := 10) X dX10_readsSheet_10 ?_
    refine V_bipush (pc := 11) X dX10_readsSheet_11 (by decide) ?_
    refine V_CV (pc := 13) X dX10_readsSheet_13 oX10_number l_RX10_121 eX10_number vX10_number ⟨Nat.le_of_ble_eq_true rfl, Nat.le_of_ble_eq_true rfl⟩ ⟨rfl, rfl⟩ ⟨Nat.le_of_ble_eq_true rfl, Nat.le_of_ble_eq_true rfl⟩ (ct_X10_number (H := H) (q := q) hO hX hq.1 ⟨by omega, by omega⟩ ⟨by omega, by omega⟩) rfl (by first | rfl | assumption | (simp only [*]; done) | omega) (by intro q h; cases h; rfl) rfl (by rfl) (by exact Nat.le_of_ble_eq_true rfl) (fun r h1 hp => ?_)
    obtain ⟨rfl, rfl⟩ := hp
    refine V_bif_ne (pc := 16) X 21 dX10_readsSheet_16 (by decide)  (fun c_16 => ?_) (fun c_16 => ?_)
    · skip
      refine V_aload_n (pc := 21) X dX10_readsSheet_21 rfl (by first | decide | omega | assumption) ?_
      refine V_gz (pc := 22) X dX10_readsSheet_22 f_RX10_54 (by first | rfl | assumption | (simp only [*]; done) | omega) 26 rfl (show _ = (102 : Int) from (r_tq_s _ _ (by decide)).trans rb26) ?_
      refine V_aload_n (pc := 25) X dX10_readsSheet_25 rfl (by first | decide | omega | assumption) ?_
      refine V_gz (pc := 26) X dX10_readsSheet_26 f_RX10_131 (by first | rfl | assumption | (simp only [*]; done) | omega) 27 rfl (show _ = H 89 27 from r_tq_s _ _ (by decide)) ?_
      refine V_aload_n (pc := 29) X dX10_readsSheet_29 rfl (by first | decide | omega | assumption) ?_
      refine V_gz (pc := 30) X dX10_readsSheet_30 f_RX10_105 (by first | rfl | assumption | (simp only [*]; done) | omega) 22 rfl (show _ = (m_nx T N q).2.2.2.2 from r_tk_22 _ _ _ _ _ _) ?_
      refine V_iast (pc := 33) X dX10_readsSheet_33 (by first | rfl | assumption | (simp only [*]; done) | omega) (by omega) (by omega) (by decide) ?_
      rw [r_tq_out _ _ (Or.inl (by decide))]
      refine V_aload_n (pc := 34) X dX10_readsSheet_34 rfl (by first | decide | omega | assumption) ?_
      refine V_dup (pc := 35) X dX10_readsSheet_35 (Nat.ne_of_beq_eq_false rfl) ?_
      refine V_gz (pc := 36) X dX10_readsSheet_36 f_RX10_131 (by first | rfl | assumption | (simp only [*]; done) | omega) 27 rfl (show _ = H 89 27 from (r_tq_s _ _ (by decide)).trans (by rw [z_st_cell _ (by decide)])) ?_
      refine V_iconst (pc := 39) X dX10_readsSheet_39 ?_
      refine V_iadd (pc := 40) X dX10_readsSheet_40 ?_
      refine V_pz (pc := 41) X dX10_readsSheet_41 f_RX10_131 (by first | rfl | assumption | (simp only [*]; done) | omega) (fun b => z_fitI b _) 27 rfl ?_
      rw [r_tq_out _ _ (Or.inr (by decide))]
      refine V_iconst (pc := 44) X dX10_readsSheet_44 ?_
      refine V_zret (st := []) (pc := 45) X hQ dX10_readsSheet_45 rfl (by omega) rfl ?_
      exact ⟨by unfold m_scR; simp [z_b, *], by unfold m_scR; simp [*]⟩
    · skip
      refine V_iconst (pc := 19) X dX10_readsSheet_19 ?_
      refine V_zret (st := []) (pc := 20) X hQ dX10_readsSheet_20 rfl (by omega) rfl ?_
      exact ⟨by unfold m_scR; simp [z_b, *], by unfold m_scR; simp [*]⟩
set_option maxHeartbeats 4000000 in
set_option maxRecDepth 100000 in
theorem ct_X10_readsMirror {H : z_H} {T : Int → Int} {N : Int} (hPR : m_PR H T N) {q : t_R} (hq : m_OK N q) : z_Ct mX10_readsMirror 107 [(2, 89)] (r_tq H q) (fun r h2 => r = some (0, z_b (m_miR T N H q).1) ∧ h2 = r_tq (m_miR T N H q).2.1 (m_miR T N H q).2.2) := by
  refine z_mk (L := [(2, 89)]) oX10_readsMirror.2.2.2.2 (Nat.le_of_ble_eq_true rfl) rfl ?_
  intro Γ X hQ
  obtain ⟨hO, hX, ⟨rw1, rw2⟩, ⟨rh1, rh2⟩, ⟨rs1, rs2⟩, rm, re, rg, rc⟩ := id hPR
  obtain ⟨rb2, rb3, rb5, rb6, rb7, rb9, rb10, rb11, rb12, rb13, rb15, rb25, rb26, rb30, rb31, rb32, rb33⟩ := id hO
  obtain ⟨r2, hNs, hN, hTx⟩ := id hX
  obtain ⟨⟨qa, qb⟩, ⟨qc, qd⟩, ⟨qe, qf⟩, ⟨qg, qh⟩, qi, qj⟩ := id hq
  have k1 := m_nx_ok (T := T) hN hTx hq.1
  have k2 := m_nx_ok (T := T) hN hTx k1.1
  have k3 := m_nx_ok (T := T) hN hTx k2.1
  refine V_aload_n (pc := 0) X dX10_readsMirror_0 rfl (by first | decide | omega | assumption) ?_
  refine V_gz (pc := 1) X dX10_readsMirror_1 f_RX10_134 (by first | rfl | assumption | (simp only [*]; done) | omega) 28 rfl (show _ = H 89 28 from r_tq_s _ _ (by decide)) ?_
  refine V_bipush (pc := 4) X dX10_readsMirror_4 (by decide) ?_
  refine V_icmp_ne (pc := 6) X 19 dX10_readsMirror_6 (by decide) ⟨by omega, by omega⟩ ⟨by omega, by omega⟩ (fun c_6 => ?_) (fun c_6 => ?_)
  · skip
    refine V_iconst (pc := 19) X dX10_readsMirror_19 ?_
    refine V_zret (st := []) (pc := 20) X hQ dX10_readsMirror_20 rfl (by omega) rfl ?_
    exact ⟨by unfold m_miR; simp [z_b, *], by unfold m_miR; simp [*]⟩
  · skip
    refine V_aload_n (pc := 9) X dX10_readsMirror_9 rfl (by first | decide | omega | assumption) ?_
    refine V_iconst (pc := 10) X dX10_readsMirror_10 ?_
    refine V_bipush (pc := 11) X dX10_readsMirror_11 (by decide) ?_
    refine V_CV (pc := 13) X dX10_readsMirror_13 oX10_number l_RX10_121 eX10_number vX10_number ⟨Nat.le_of_ble_eq_true rfl, Nat.le_of_ble_eq_true rfl⟩ ⟨rfl, rfl⟩ ⟨Nat.le_of_ble_eq_true rfl, Nat.le_of_ble_eq_true rfl⟩ (ct_X10_number (H := H) (q := q) hO hX hq.1 ⟨by omega, by omega⟩ ⟨by omega, by omega⟩) rfl (by first | rfl | assumption | (simp only [*]; done) | omega) (by intro q h; cases h; rfl) rfl (by rfl) (by exact Nat.le_of_ble_eq_true rfl) (fun r h1 hp => ?_)
    obtain ⟨rfl, rfl⟩ := hp
    refine V_bif_ne (pc := 16) X 21 dX10_readsMirror_16 (by decide)  (fun c_16 => ?_) (fun c_16 => ?_)
    · skip
      refine V_aload_n (pc := 21) X dX10_readsMirror_21 rfl (by first | decide | omega | assumption) ?_
      refine V_aload_n (pc := 22) X dX10_readsMirror_22 rfl (by first | decide | omega | assumption) ?_
      refine V_gz (pc := 23) X dX10_readsMirror_23 f_RX10_105 (by first | rfl | assumption | (simp only [*]; done) | omega) 22 rfl (show _ = (m_nx T N q).2.2.2.2 from r_tk_22 _ _ _ _ _ _) ?_
      refine V_pz (pc := 26) X dX10_readsMirror_26 f_RX10_134 (by first | rfl | assumption | (simp only [*]; done) | omega) (fun b => z_fitI b _) 28 rfl ?_
      rw [r_tq_out _ _ (Or.inr (by decide))]
      refine V_iconst (pc := 29) X dX10_readsMirror_29 ?_
      refine V_zret (st := []) (pc := 30) X hQ dX10_readsMirror_30 rfl (by omega) rfl ?_
      exact ⟨by unfold m_miR; simp [z_b, *], by unfold m_miR; simp [*]⟩
    · skip
      refine V_iconst (pc := 19) X dX10_readsMirror_19 ?_
      refine V_zret (st := []) (pc := 20) X hQ dX10_readsMirror_20 rfl (by omega) rfl ?_
      exact ⟨by unfold m_miR; simp [z_b, *], by unfold m_miR; simp [*]⟩
set_option maxHeartbeats 4000000 in
set_option maxRecDepth 100000 in
theorem ct_X10_readsSeason {H : z_H} {T : Int → Int} {N : Int} (hPR : m_PR H T N) {q : t_R} (hq : m_OK N q) : z_Ct mX10_readsSeason 107 [(2, 89)] (r_tq H q) (fun r h2 => r = some (0, z_b (m_seR T N H q).1) ∧ h2 = r_tq (m_seR T N H q).2.1 (m_seR T N H q).2.2) := by
  refine z_mk (L := [(2, 89)]) oX10_readsSeason.2.2.2.2 (Nat.le_of_ble_eq_true rfl) rfl ?_
  intro Γ X hQ
  obtain ⟨hO, hX, ⟨rw1, rw2⟩, ⟨rh1, rh2⟩, ⟨rs1, rs2⟩, rm, re, rg, rc⟩ := id hPR
  obtain ⟨rb2, rb3, rb5, rb6, rb7, rb9, rb10, rb11, rb12, rb13, rb15, rb25, rb26, rb30, rb31, rb32, rb33⟩ := id hO
  obtain ⟨r2, hNs, hN, hTx⟩ := id hX
  obtain ⟨⟨qa, qb⟩, ⟨qc, qd⟩, ⟨qe, qf⟩, ⟨qg, qh⟩, qi, qj⟩ := id hq
  have k1 := m_nx_ok (T := T) hN hTx hq.1
  have k2 := m_nx_ok (T := T) hN hTx k1.1
  have k3 := m_nx_ok (T := T) hN hTx k2.1
  refine V_aload_n (pc := 0) X dX10_readsSeason_0 rfl (by first | decide | omega | assumption) ?_
  refine V_gz (pc := 1) X dX10_readsSeason_1 f_RX10_137 (by first | rfl | assumption | (simp only [*]; done) | omega) 29 rfl (show _ = H 89 29 from r_tq_s _ _ (by decide)) ?_
  refine V_bipush (pc := 4) X dX10_readsSeason_4 (by decide) ?_
  refine V_icmp_ne (pc := 6) X 18 dX10_readsSeason_6 (by decide) ⟨by omega, by omega⟩ ⟨by omega, by omega⟩ (fun c_6 => ?_) (fun c_6 => ?_)
  · skip
    refine V_iconst (pc := 18) X dX10_readsSeason_18 ?_
    refine V_zret (st := []) (pc := 19) X hQ dX10_readsSeason_19 rfl (by omega) rfl ?_
    exact ⟨by unfold m_seR; simp [z_b, *], by unfold m_seR; simp [*]⟩
  · skip
    refine V_aload_n (pc := 9) X dX10_readsSeason_9 rfl (by first | decide | omega | assumption) ?_
    refine V_iconst (pc := 10) X dX10_readsSeason_10 ?_
    refine V_iconst (pc := 11) X dX10_readsSeason_11 ?_
    refine V_CV (pc := 12) X dX10_readsSeason_12 oX10_number l_RX10_121 eX10_number vX10_number ⟨Nat.le_of_ble_eq_true rfl, Nat.le_of_ble_eq_true rfl⟩ ⟨rfl, rfl⟩ ⟨Nat.le_of_ble_eq_true rfl, Nat.le_of_ble_eq_true rfl⟩ (ct_X10_number (H := H) (q := q) hO hX hq.1 ⟨by omega, by omega⟩ ⟨by omega, by omega⟩) rfl (by first | rfl | assumption | (simp only [*]; done) | omega) (by intro q h; cases h; rfl) rfl (by rfl) (by exact Nat.le_of_ble_eq_true rfl) (fun r h1 hp => ?_)
    obtain ⟨rfl, rfl⟩ := hp
    refine V_bif_ne (pc := 15) X 20 dX10_readsSeason_15 (by decide)  (fun c_15 => ?_) (fun c_15 => ?_)
    · skip
      refine V_aload_n (pc := 20) X dX10_readsSeason_20 rfl (by first | decide | omega | assumption) ?_
      refine V_aload_n (pc := 21) X dX10_readsSeason_21 rfl (by first | decide | omega | assumption) ?_
      refine V_gz (pc := 22) X dX10_readsSeason_22 f_RX10_105 (by first | rfl | assumption | (simp only [*]; done) | omega) 22 rfl (show _ = (m_nx T N q).2.2.2.2 from r_tk_22 _ _ _ _ _ _) ?_
      refine V_pz (pc := 25) X dX10_readsSeason_25 f_RX10_137 (by first | rfl | assumption | (simp only [*]; done) | omega) (fun b => z_fitI b _) 29 rfl ?_
      rw [r_tq_out _ _ (Or.inr (by decide))]
      refine V_iconst (pc := 28) X dX10_readsSeason_28 ?_
      refine V_zret (st := []) (pc := 29) X hQ dX10_readsSeason_29 rfl (by omega) rfl ?_
      exact ⟨by unfold m_seR; simp [z_b, *], by unfold m_seR; simp [*]⟩
    · skip
      refine V_iconst (pc := 18) X dX10_readsSeason_18 ?_
      refine V_zret (st := []) (pc := 19) X hQ dX10_readsSeason_19 rfl (by omega) rfl ?_
      exact ⟨by unfold m_seR; simp [z_b, *], by unfold m_seR; simp [*]⟩
set_option maxHeartbeats 4000000 in
set_option maxRecDepth 100000 in
theorem ct_X10_readsItem {H : z_H} {T : Int → Int} {N : Int} (hPR : m_PR H T N) {q : t_R} (hq : m_OK N q) {fb : Bool} : z_Ct mX10_readsItem 107 [(2, 89), (0, z_b fb)] (r_tq H q) (fun r h2 => r = some (0, z_b (m_itR T N H q fb).1) ∧ h2 = r_tq (m_itR T N H q fb).2.1 (m_itR T N H q fb).2.2) := by
  refine z_mk (L := [(2, 89), (0, z_b fb)]) oX10_readsItem.2.2.2.2 (Nat.le_of_ble_eq_true rfl) rfl ?_
  intro Γ X hQ
  obtain ⟨hO, hX, ⟨rw1, rw2⟩, ⟨rh1, rh2⟩, ⟨rs1, rs2⟩, rm, re, rg, rc⟩ := id hPR
  obtain ⟨rb2, rb3, rb5, rb6, rb7, rb9, rb10, rb11, rb12, rb13, rb15, rb25, rb26, rb30, rb31, rb32, rb33⟩ := id hO
  obtain ⟨r2, hNs, hN, hTx⟩ := id hX
  obtain ⟨⟨qa, qb⟩, ⟨qc, qd⟩, ⟨qe, qf⟩, ⟨qg, qh⟩, qi, qj⟩ := id hq
  have k1 := m_nx_ok (T := T) hN hTx hq.1
  have k2 := m_nx_ok (T := T) hN hTx k1.1
  have k3 := m_nx_ok (T := T) hN hTx k2.1
  refine V_aload_n (pc := 0) X dX10_readsItem_0 rfl (by first | decide | omega | assumption) ?_
  refine V_gz (pc := 1) X dX10_readsItem_1 f_RX10_102 (by first | rfl | assumption | (simp only [*]; done) | omega) 21 rfl (show _ = q.2.2.2.1 from r_tk_21 _ _ _ _ _ _) ?_
  by_cases e_103 : q.2.2.2.1 = 103
  · skip
    refine V_lsw (pc := 4) X 56 dX10_readsItem_4 ⟨by omega, by omega⟩ (by decide) (by first | (rw [e_103]; done) | (rw [e_103]; rfl)) (by decide) ?_
    refine V_iload_n (pc := 56) X dX10_readsItem_56 rfl ?_
    refine V_bif_eq (pc := 57) X 71 dX10_readsItem_57 (by decide)  (fun c_57 => ?_) (fun c_57 => ?_)
    · skip
      refine V_iconst (pc := 71) X dX10_readsItem_71 ?_
      refine V_zret (st := []) (pc := 72) X hQ dX10_readsItem_72 rfl (by omega) rfl ?_
      exact ⟨by unfold m_itR; simp [z_b, *], by unfold m_itR; simp [*]⟩
    · skip
      refine V_aload_n (pc := 60) X dX10_readsItem_60 rfl (by first | decide | omega | assumption) ?_
      refine V_CV (pc := 61) X dX10_readsItem_61 oX10_readsWindow l_RX10_140 eX10_readsWindow vX10_readsWindow ⟨Nat.le_of_ble_eq_true rfl, Nat.le_of_ble_eq_true rfl⟩ ⟨rfl, rfl⟩ ⟨Nat.le_of_ble_eq_true rfl, Nat.le_of_ble_eq_true rfl⟩ (ct_X10_readsWindow hPR hq) rfl (by first | rfl | assumption | (simp only [*]; done) | omega) (by intro q h; cases h; rfl) rfl (by rfl) (by exact Nat.le_of_ble_eq_true rfl) (fun r h1 hp => ?_)
      obtain ⟨rfl, rfl⟩ := hp
      refine V_bif_eq (pc := 64) X 71 dX10_readsItem_64 (by decide)  (fun c_64 => ?_) (fun c_64 => ?_)
      · skip
        refine V_iconst (pc := 71) X dX10_readsItem_71 ?_
        refine V_zret (st := []) (pc := 72) X hQ dX10_readsItem_72 rfl (by omega) rfl ?_
        exact ⟨by unfold m_itR; simp [z_b, *], by unfold m_itR; simp [*]⟩
      · skip
        refine V_iconst (pc := 67) X dX10_readsItem_67 ?_
        refine V_goto (pc := 68) X 72 dX10_readsItem_68 (by decide) ?_
        refine V_zret (st := []) (pc := 72) X hQ dX10_readsItem_72 rfl (by omega) rfl ?_
        exact ⟨by unfold m_itR; simp [z_b, *], by unfold m_itR; simp [*]⟩
  by_cases e_109 : q.2.2.2.1 = 109
  · skip
    refine V_lsw (pc := 4) X 83 dX10_readsItem_4 ⟨by omega, by omega⟩ (by decide) (by first | (rw [e_109]; done) | (rw [e_109]; rfl)) (by decide) ?_
    refine V_aload_n (pc := 83) X dX10_readsItem_83 rfl (by first | decide | omega | assumption) ?_
    refine V_CV (pc := 84) X dX10_readsItem_84 oX10_readsMirror l_RX10_149 eX10_readsMirror vX10_readsMirror ⟨Nat.le_of_ble_eq_true rfl, Nat.le_of_ble_eq_true rfl⟩ ⟨rfl, rfl⟩ ⟨Nat.le_of_ble_eq_true rfl, Nat.le_of_ble_eq_true rfl⟩ (ct_X10_readsMirror hPR hq) rfl (by first | rfl | assumption | (simp only [*]; done) | omega) (by intro q h; cases h; rfl) rfl (by rfl) (by exact Nat.le_of_ble_eq_true rfl) (fun r h1 hp => ?_)
    obtain ⟨rfl, rfl⟩ := hp
    refine V_zret (st := []) (pc := 87) X hQ dX10_readsItem_87 rfl (z_b_01 _) rfl ?_
    exact ⟨by unfold m_itR; simp [z_b, *], by unfold m_itR; simp [*]⟩
  by_cases e_112 : q.2.2.2.1 = 112
  · skip
    refine V_lsw (pc := 4) X 73 dX10_readsItem_4 ⟨by omega, by omega⟩ (by decide) (by first | (rw [e_112]; done) | (rw [e_112]; rfl)) (by decide) ?_
    refine V_aload_n (pc := 73) X dX10_readsItem_73 rfl (by first | decide | omega | assumption) ?_
    refine V_CV (pc := 74) X dX10_readsItem_74 oX10_readsPane l_RX10_143 eX10_readsPane vX10_readsPane ⟨Nat.le_of_ble_eq_true rfl, Nat.le_of_ble_eq_true rfl⟩ ⟨rfl, rfl⟩ ⟨Nat.le_of_ble_eq_true rfl, Nat.le_of_ble_eq_true rfl⟩ (ct_X10_readsPane hPR hq) rfl (by first | rfl | assumption | (simp only [*]; done) | omega) (by intro q h; cases h; rfl) rfl (by rfl) (by exact Nat.le_of_ble_eq_true rfl) (fun r h1 hp => ?_)
    obtain ⟨rfl, rfl⟩ := hp
    refine V_zret (st := []) (pc := 77) X hQ dX10_readsItem_77 rfl (z_b_01 _) rfl ?_
    exact ⟨by unfold m_itR; simp [z_b, *], by unfold m_itR; simp [*]⟩
  by_cases e_115 : q.2.2.2.1 = 115
  · skip
    refine V_lsw (pc := 4) X 78 dX10_readsItem_4 ⟨by omega, by omega⟩ (by decide) (by first | (rw [e_115]; done) | (rw [e_115]; rfl)) (by decide) ?_
    refine V_aload_n (pc := 78) X dX10_readsItem_78 rfl (by first | decide | omega | assumption) ?_
    refine V_CV (pc := 79) X dX10_readsItem_79 oX10_readsSheet l_RX10_146 eX10_readsSheet vX10_readsSheet ⟨Nat.le_of_ble_eq_true rfl, Nat.le_of_ble_eq_true rfl⟩ ⟨rfl, rfl⟩ ⟨Nat.le_of_ble_eq_true rfl, Nat.le_of_ble_eq_true rfl⟩ (ct_X10_readsSheet hPR hq) rfl (by first | rfl | assumption | (simp only [*]; done) | omega) (by intro q h; cases h; rfl) rfl (by rfl) (by exact Nat.le_of_ble_eq_true rfl) (fun r h1 hp => ?_)
    obtain ⟨rfl, rfl⟩ := hp
    refine V_zret (st := []) (pc := 82) X hQ dX10_readsItem_82 rfl (z_b_01 _) rfl ?_
    exact ⟨by unfold m_itR; simp [z_b, *], by unfold m_itR; simp [*]⟩
  by_cases e_121 : q.2.2.2.1 = 121
  · skip
    refine V_lsw (pc := 4) X 88 dX10_readsItem_4 ⟨by omega, by omega⟩ (by decide) (by first | (rw [e_121]; done) | (rw [e_121]; rfl)) (by decide) ?_
    refine V_aload_n (pc := 88) X dX10_readsItem_88 rfl (by first | decide | omega | assumption) ?_
    refine V_CV (pc := 89) X dX10_readsItem_89 oX10_readsSeason l_RX10_152 eX10_readsSeason vX10_readsSeason ⟨Nat.le_of_ble_eq_true rfl, Nat.le_of_ble_eq_true rfl⟩ ⟨rfl, rfl⟩ ⟨Nat.le_of_ble_eq_true rfl, Nat.le_of_ble_eq_true rfl⟩ (ct_X10_readsSeason hPR hq) rfl (by first | rfl | assumption | (simp only [*]; done) | omega) (by intro q h; cases h; rfl) rfl (by rfl) (by exact Nat.le_of_ble_eq_true rfl) (fun r h1 hp => ?_)
    obtain ⟨rfl, rfl⟩ := hp
    refine V_zret (st := []) (pc := 92) X hQ dX10_readsItem_92 rfl (z_b_01 _) rfl ?_
    exact ⟨by unfold m_itR; simp [z_b, *], by unfold m_itR; simp [*]⟩
  refine V_lsw (pc := 4) X 93 dX10_readsItem_4 ⟨by omega, by omega⟩ (by decide) (by show Op.lookupswitch.offset [(103, 52), (109, 79), (112, 69), (115, 74), (121, 84)] 89 (q.2.2.2.1) = 89; rw [Op.lookupswitch.offset_cons, if_neg (by omega), Op.lookupswitch.offset_cons, if_neg (by omega), Op.lookupswitch.offset_cons, if_neg (by omega), Op.lookupswitch.offset_cons, if_neg (by omega), Op.lookupswitch.offset_cons, if_neg (by omega)]; rfl) (by decide) ?_
  refine V_iconst (pc := 93) X dX10_readsItem_93 ?_
  refine V_zret (st := []) (pc := 94) X hQ dX10_readsItem_94 rfl (by omega) rfl ?_
  exact ⟨by unfold m_itR; simp [z_b, *], by unfold m_itR; simp [*]⟩
