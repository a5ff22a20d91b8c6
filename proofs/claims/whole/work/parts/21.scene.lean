/-! Scene: what it answers -/
set_option maxHeartbeats 4000000 in
set_option maxRecDepth 100000 in
theorem ct_X5_paneAt {h : z_H} {pl mo : Int} (hS : c_Sc h pl mo) {x y : Int} (hx : z_R x) (hy : z_R y) : z_Ct mX5_paneAt 107 [(2, 3), (0, x), (0, y)] h (z_pure (0, c_paneAt h pl x y) h) := by
  refine z_mk (L := [(2, 3), (0, x), (0, y), (9, 0)]) oX5_paneAt.2.2.2.2 (Nat.le_of_ble_eq_true rfl) rfl ?_
  intro Γ X hQ
  obtain ⟨r30, r31, r42, ⟨kp, rp0, rp1, kp1, kp2, hw, hh, hs, hgl, hpi⟩, ⟨km, rm0, km1, hbr, hmi, hse, hbf⟩⟩ := id hS
  obtain ⟨hx1, hx2⟩ := hx
  obtain ⟨hy1, hy2⟩ := hy
  refine V_iload_n (pc := 0) X dX5_paneAt_0 rfl ?_
  refine V_if_lt (pc := 1) X 34 dX5_paneAt_1 (by decide) ⟨by omega, by omega⟩ (fun c_1 => ?_) (fun c_1 => ?_)
  · skip
    refine V_iconst (pc := 34) X dX5_paneAt_34 ?_
    refine V_istore_n (pc := 35) X dX5_paneAt_35 (by exact Nat.le_of_ble_eq_true rfl) rfl ?_
    refine V_iload_n (pc := 36) X dX5_paneAt_36 rfl ?_
    refine V_if_eq (pc := 37) X 48 dX5_paneAt_37 (by decide) ⟨by omega, by omega⟩ (fun c_37 => ?_) (fun c_37 => absurd c_37 (by decide))
    refine V_iconst (pc := 48) X dX5_paneAt_48 ?_
    refine V_iret (st := []) (pc := 49) X hQ dX5_paneAt_49 rfl rfl ?_
    exact z_pi (by unfold c_paneAt; first | (rw [if_pos (by omega)]; done) | (rw [if_neg (by omega)]))
  · skip
    refine V_iload_n (pc := 4) X dX5_paneAt_4 rfl ?_
    refine V_aload_n (pc := 5) X dX5_paneAt_5 rfl (by first | decide | omega | assumption) ?_
    refine V_gz (pc := 6) X dX5_paneAt_6 f_RX5_21 (by first | rfl | assumption | (simp only [*]; done) | omega) 1 rfl r31 ?_
    refine V_gz (pc := 9) X dX5_paneAt_9 f_RX5_25 (by first | rfl | assumption | (simp only [*]; done) | omega) 2 rfl rfl ?_
    refine V_icmp_ge (pc := 12) X 34 dX5_paneAt_12 (by decide) ⟨by omega, by omega⟩ ⟨by omega, by omega⟩ (fun c_12 => ?_) (fun c_12 => ?_)
    · skip
      refine V_iconst (pc := 34) X dX5_paneAt_34 ?_
      refine V_istore_n (pc := 35) X dX5_paneAt_35 (by exact Nat.le_of_ble_eq_true rfl) rfl ?_
      refine V_iload_n (pc := 36) X dX5_paneAt_36 rfl ?_
      refine V_if_eq (pc := 37) X 48 dX5_paneAt_37 (by decide) ⟨by omega, by omega⟩ (fun c_37 => ?_) (fun c_37 => absurd c_37 (by decide))
      refine V_iconst (pc := 48) X dX5_paneAt_48 ?_
      refine V_iret (st := []) (pc := 49) X hQ dX5_paneAt_49 rfl rfl ?_
      exact z_pi (by unfold c_paneAt; first | (rw [if_pos (by omega)]; done) | (rw [if_neg (by omega)]))
    · skip
      refine V_iload_n (pc := 15) X dX5_paneAt_15 rfl ?_
      refine V_if_lt (pc := 16) X 34 dX5_paneAt_16 (by decide) ⟨by omega, by omega⟩ (fun c_16 => ?_) (fun c_16 => ?_)
      · skip
        refine V_iconst (pc := 34) X dX5_paneAt_34 ?_
        refine V_istore_n (pc := 35) X dX5_paneAt_35 (by exact Nat.le_of_ble_eq_true rfl) rfl ?_
        refine V_iload_n (pc := 36) X dX5_paneAt_36 rfl ?_
        refine V_if_eq (pc := 37) X 48 dX5_paneAt_37 (by decide) ⟨by omega, by omega⟩ (fun c_37 => ?_) (fun c_37 => absurd c_37 (by decide))
        refine V_iconst (pc := 48) X dX5_paneAt_48 ?_
        refine V_iret (st := []) (pc := 49) X hQ dX5_paneAt_49 rfl rfl ?_
        exact z_pi (by unfold c_paneAt; first | (rw [if_pos (by omega)]; done) | (rw [if_neg (by omega)]))
      · skip
        refine V_iload_n (pc := 19) X dX5_paneAt_19 rfl ?_
        refine V_aload_n (pc := 20) X dX5_paneAt_20 rfl (by first | decide | omega | assumption) ?_
        refine V_gz (pc := 21) X dX5_paneAt_21 f_RX5_21 (by first | rfl | assumption | (simp only [*]; done) | omega) 1 rfl r31 ?_
        refine V_gz (pc := 24) X dX5_paneAt_24 f_RX5_29 (by first | rfl | assumption | (simp only [*]; done) | omega) 3 rfl rfl ?_
        refine V_icmp_ge (pc := 27) X 34 dX5_paneAt_27 (by decide) ⟨by omega, by omega⟩ ⟨by omega, by omega⟩ (fun c_27 => ?_) (fun c_27 => ?_)
        · skip
          refine V_iconst (pc := 34) X dX5_paneAt_34 ?_
          refine V_istore_n (pc := 35) X dX5_paneAt_35 (by exact Nat.le_of_ble_eq_true rfl) rfl ?_
          refine V_iload_n (pc := 36) X dX5_paneAt_36 rfl ?_
          refine V_if_eq (pc := 37) X 48 dX5_paneAt_37 (by decide) ⟨by omega, by omega⟩ (fun c_37 => ?_) (fun c_37 => absurd c_37 (by decide))
          refine V_iconst (pc := 48) X dX5_paneAt_48 ?_
          refine V_iret (st := []) (pc := 49) X hQ dX5_paneAt_49 rfl rfl ?_
          exact z_pi (by unfold c_paneAt; first | (rw [if_pos (by omega)]; done) | (rw [if_neg (by omega)]))
        · skip
          refine V_iconst (pc := 30) X dX5_paneAt_30 ?_
          refine V_goto (pc := 31) X 35 dX5_paneAt_31 (by decide) ?_
          refine V_istore_n (pc := 35) X dX5_paneAt_35 (by exact Nat.le_of_ble_eq_true rfl) rfl ?_
          refine V_iload_n (pc := 36) X dX5_paneAt_36 rfl ?_
          refine V_if_eq (pc := 37) X 48 dX5_paneAt_37 (by decide) ⟨by omega, by omega⟩ (fun c_37 => absurd c_37 (by decide)) (fun c_37 => ?_)
          refine V_iconst (pc := 40) X dX5_paneAt_40 ?_
          refine V_iload_n (pc := 41) X dX5_paneAt_41 rfl ?_
          refine V_imul (pc := 42) X dX5_paneAt_42 ?_
          refine V_iload_n (pc := 43) X dX5_paneAt_43 rfl ?_
          refine V_iadd (pc := 44) X dX5_paneAt_44 ?_
          refine V_goto (pc := 45) X 49 dX5_paneAt_45 (by decide) ?_
          refine V_iret (st := []) (pc := 49) X hQ dX5_paneAt_49 rfl rfl ?_
          exact z_pi (by unfold c_paneAt; first | (rw [if_pos (by omega)]; done) | (rw [if_neg (by omega)]))
set_option maxHeartbeats 4000000 in
set_option maxRecDepth 100000 in
theorem ct_X5_hasPane {h : z_H} {pl mo : Int} (hS : c_Sc h pl mo) {p : Int} (h0 : 0 ≤ p) (h1 : p < 20) : z_Ct mX5_hasPane 107 [(2, 3), (0, p)] h (z_pure (0, z_b (c_has h pl p)) h) := by
  refine z_mk (L := [(2, 3), (0, p)]) oX5_hasPane.2.2.2.2 (Nat.le_of_ble_eq_true rfl) rfl ?_
  intro Γ X hQ
  obtain ⟨r30, r31, r42, ⟨kp, rp0, rp1, kp1, kp2, hw, hh, hs, hgl, hpi⟩, ⟨km, rm0, km1, hbr, hmi, hse, hbf⟩⟩ := id hS
  have hg := c_paneAt_rng (h := h) (pl := pl) (x := p / 4) (y := p % 4) hw.2 hh.2
  refine V_aload_n (pc := 0) X dX5_hasPane_0 rfl (by first | decide | omega | assumption) ?_
  refine V_iload_n (pc := 1) X dX5_hasPane_1 rfl ?_
  refine V_iconst (pc := 2) X dX5_hasPane_2 ?_
  refine V_idivN (pc := 3) X dX5_hasPane_3 (by omega) (by omega) (by omega) (by omega) ?_
  refine V_iload_n (pc := 4) X dX5_hasPane_4 rfl ?_
  refine V_iconst (pc := 5) X dX5_hasPane_5 ?_
  refine V_iremN (pc := 6) X dX5_hasPane_6 (by omega) (by omega) (by omega) (by omega) ?_
  refine V_FV (pc := 7) X dX5_hasPane_7 oX5_paneAt l_RX5_32 eX5_paneAt vX5_paneAt ⟨Nat.le_of_ble_eq_true rfl, Nat.le_of_ble_eq_true rfl⟩ ⟨rfl, rfl⟩ ⟨Nat.le_of_ble_eq_true rfl, Nat.le_of_ble_eq_true rfl⟩ (ct_X5_paneAt hS ⟨by omega, by omega⟩ ⟨by omega, by omega⟩) rfl (by first | rfl | assumption | (simp only [*]; done) | omega) (by intro q h; cases h; rfl) rfl (by rfl) (by exact Nat.le_of_ble_eq_true rfl) ?_
  refine V_iconst (pc := 10) X dX5_hasPane_10 ?_
  refine V_icmp_eq (pc := 11) X 18 dX5_hasPane_11 (by decide) ⟨by omega, by omega⟩ ⟨by omega, by omega⟩ (fun c_11 => ?_) (fun c_11 => ?_)
  · skip
    refine V_iconst (pc := 18) X dX5_hasPane_18 ?_
    refine V_zret (st := []) (pc := 19) X hQ dX5_hasPane_19 rfl (by omega) rfl ?_
    exact z_pi (by simp [z_b, c_has, *])
  · skip
    refine V_iconst (pc := 14) X dX5_hasPane_14 ?_
    refine V_goto (pc := 15) X 19 dX5_hasPane_15 (by decide) ?_
    refine V_zret (st := []) (pc := 19) X hQ dX5_hasPane_19 rfl (by omega) rfl ?_
    exact z_pi (by simp [z_b, c_has, *])
set_option maxHeartbeats 4000000 in
set_option maxRecDepth 100000 in
theorem ct_X5_isBroken {h : z_H} {pl mo : Int} (hS : c_Sc h pl mo) {p : Int} (h0 : 0 ≤ p) (h1 : p < 20) : z_Ct mX5_isBroken 107 [(2, 3), (0, p)] h (z_pure (0, z_b (c_broken h mo p)) h) := by
  refine z_mk (L := [(2, 3), (0, p)]) oX5_isBroken.2.2.2.2 (Nat.le_of_ble_eq_true rfl) rfl ?_
  intro Γ X hQ
  obtain ⟨r30, r31, r42, ⟨kp, rp0, rp1, kp1, kp2, hw, hh, hs, hgl, hpi⟩, ⟨km, rm0, km1, hbr, hmi, hse, hbf⟩⟩ := id hS
  refine V_aload_n (pc := 0) X dX5_isBroken_0 rfl (by first | decide | omega | assumption) ?_
  refine V_gz (pc := 1) X dX5_isBroken_1 f_RX5_12 (by first | rfl | assumption | (simp only [*]; done) | omega) 0 rfl r30 ?_
  refine V_gz (pc := 4) X dX5_isBroken_4 f_RX5_36 (by first | rfl | assumption | (simp only [*]; done) | omega) 2 rfl r42 ?_
  refine V_gz (pc := 7) X dX5_isBroken_7 f_RX5_40 (by first | rfl | assumption | (simp only [*]; done) | omega) 1 rfl rfl ?_
  refine V_iload_n (pc := 10) X dX5_isBroken_10 rfl ?_
  refine V_ishr (pc := 11) X dX5_isBroken_11 ?_
  refine V_iconst (pc := 12) X dX5_isBroken_12 ?_
  refine V_iand (pc := 13) X dX5_isBroken_13 ?_
  rw [z_bitb (by omega) (by omega) (by omega) (by omega)]
  refine V_if_eq (pc := 14) X 21 dX5_isBroken_14 (by decide) (z_b_rng _) (fun c_14 => ?_) (fun c_14 => ?_)
  · skip
    refine V_iconst (pc := 21) X dX5_isBroken_21 ?_
    refine V_zret (st := []) (pc := 22) X hQ dX5_isBroken_22 rfl (by omega) rfl ?_
    exact z_pi (by first | exact (z_b_1.mpr (z_b_n0.mp c_14)).symm | exact c_14.symm)
  · skip
    refine V_iconst (pc := 17) X dX5_isBroken_17 ?_
    refine V_goto (pc := 18) X 22 dX5_isBroken_18 (by decide) ?_
    refine V_zret (st := []) (pc := 22) X hQ dX5_isBroken_22 rfl (by omega) rfl ?_
    exact z_pi (by first | exact (z_b_1.mpr (z_b_n0.mp c_14)).symm | exact c_14.symm)
set_option maxHeartbeats 4000000 in
set_option maxRecDepth 100000 in
theorem ct_X5_colourNow {h : z_H} {pl mo : Int} (hS : c_Sc h pl mo) {p : Int} (h0 : 0 ≤ p) (h1 : p < 20) : z_Ct mX5_colourNow 107 [(2, 3), (0, p)] h (z_pure (0, c_colour h pl mo p) h) := by
  refine z_mk (L := [(2, 3), (0, p)]) oX5_colourNow.2.2.2.2 (Nat.le_of_ble_eq_true rfl) rfl ?_
  intro Γ X hQ
  obtain ⟨r30, r31, r42, ⟨kp, rp0, rp1, kp1, kp2, hw, hh, hs, hgl, hpi⟩, ⟨km, rm0, km1, hbr, hmi, hse, hbf⟩⟩ := id hS
  refine V_aload_n (pc := 0) X dX5_colourNow_0 rfl (by first | decide | omega | assumption) ?_
  refine V_iload_n (pc := 1) X dX5_colourNow_1 rfl ?_
  refine V_FV (pc := 2) X dX5_colourNow_2 oX5_isBroken l_RX5_45 eX5_isBroken vX5_isBroken ⟨Nat.le_of_ble_eq_true rfl, Nat.le_of_ble_eq_true rfl⟩ ⟨rfl, rfl⟩ ⟨Nat.le_of_ble_eq_true rfl, Nat.le_of_ble_eq_true rfl⟩ (ct_X5_isBroken hS (by omega) (by omega)) rfl (by first | rfl | assumption | (simp only [*]; done) | omega) (by intro q h; cases h; rfl) rfl (by rfl) (by exact Nat.le_of_ble_eq_true rfl) ?_
  refine V_bif_eq (pc := 5) X 13 dX5_colourNow_5 (by decide)  (fun c_5 => ?_) (fun c_5 => ?_)
  · skip
    refine V_aload_n (pc := 13) X dX5_colourNow_13 rfl (by first | decide | omega | assumption) ?_
    refine V_gz (pc := 14) X dX5_colourNow_14 f_RX5_21 (by first | rfl | assumption | (simp only [*]; done) | omega) 1 rfl r31 ?_
    refine V_gz (pc := 17) X dX5_colourNow_17 f_RX5_49 (by first | rfl | assumption | (simp only [*]; done) | omega) 0 rfl rp0 ?_
    refine V_iload_n (pc := 20) X dX5_colourNow_20 rfl ?_
    refine V_iald (pc := 21) X dX5_colourNow_21 (by first | rfl | assumption | (simp only [*]; done) | omega) (by omega) (by omega) (by decide) ?_
    refine V_iret (st := []) (pc := 22) X hQ dX5_colourNow_22 rfl rfl ?_
    exact z_pi (by simp [c_colour, *])
  · skip
    refine V_bipush (pc := 8) X dX5_colourNow_8 (by decide) ?_
    refine V_goto (pc := 10) X 22 dX5_colourNow_10 (by decide) ?_
    refine V_iret (st := []) (pc := 22) X hQ dX5_colourNow_22 rfl rfl ?_
    exact z_pi (by simp [c_colour, *])
set_option maxHeartbeats 4000000 in
set_option maxRecDepth 100000 in
theorem ct_X5_letsThrough {h : z_H} {pl mo : Int} (hS : c_Sc h pl mo) {p : Int} (h0 : -1 ≤ p) (h1 : p < 20) : z_Ct mX5_letsThrough 107 [(2, 3), (0, p)] h (z_pure (0, c_lets h pl mo p) h) := by
  refine z_mk (L := [(2, 3), (0, p)]) oX5_letsThrough.2.2.2.2 (Nat.le_of_ble_eq_true rfl) rfl ?_
  intro Γ X hQ
  obtain ⟨r30, r31, r42, ⟨kp, rp0, rp1, kp1, kp2, hw, hh, hs, hgl, hpi⟩, ⟨km, rm0, km1, hbr, hmi, hse, hbf⟩⟩ := id hS
  refine V_iload_n (pc := 0) X dX5_letsThrough_0 rfl ?_
  refine V_iconst (pc := 1) X dX5_letsThrough_1 ?_
  refine V_icmp_ne (pc := 2) X 9 dX5_letsThrough_2 (by decide) ⟨by omega, by omega⟩ ⟨by omega, by omega⟩ (fun c_2 => ?_) (fun c_2 => ?_)
  · skip
    refine V_aload_n (pc := 9) X dX5_letsThrough_9 rfl (by first | decide | omega | assumption) ?_
    refine V_iload_n (pc := 10) X dX5_letsThrough_10 rfl ?_
    refine V_FV (pc := 11) X dX5_letsThrough_11 oX5_colourNow l_RX5_53 eX5_colourNow vX5_colourNow ⟨Nat.le_of_ble_eq_true rfl, Nat.le_of_ble_eq_true rfl⟩ ⟨rfl, rfl⟩ ⟨Nat.le_of_ble_eq_true rfl, Nat.le_of_ble_eq_true rfl⟩ (ct_X5_colourNow hS (by omega) (by omega)) rfl (by first | rfl | assumption | (simp only [*]; done) | omega) (by intro q h; cases h; rfl) rfl (by rfl) (by exact Nat.le_of_ble_eq_true rfl) ?_
    refine V_aload_n (pc := 14) X dX5_letsThrough_14 rfl (by first | decide | omega | assumption) ?_
    refine V_gz (pc := 15) X dX5_letsThrough_15 f_RX5_21 (by first | rfl | assumption | (simp only [*]; done) | omega) 1 rfl r31 ?_
    refine V_gz (pc := 18) X dX5_letsThrough_18 f_RX5_57 (by first | rfl | assumption | (simp only [*]; done) | omega) 1 rfl rp1 ?_
    refine V_aload_n (pc := 21) X dX5_letsThrough_21 rfl (by first | decide | omega | assumption) ?_
    refine V_gz (pc := 22) X dX5_letsThrough_22 f_RX5_12 (by first | rfl | assumption | (simp only [*]; done) | omega) 0 rfl r30 ?_
    refine V_gz (pc := 25) X dX5_letsThrough_25 f_RX5_36 (by first | rfl | assumption | (simp only [*]; done) | omega) 2 rfl r42 ?_
    refine V_gz (pc := 28) X dX5_letsThrough_28 f_RX5_60 (by first | rfl | assumption | (simp only [*]; done) | omega) 0 rfl rm0 ?_
    refine V_iload_n (pc := 31) X dX5_letsThrough_31 rfl ?_
    have hbp := hbf p (by omega) (by omega)
    refine V_iald (pc := 32) X dX5_letsThrough_32 (by first | rfl | assumption | (simp only [*]; done) | omega) (by omega) (by omega) (by decide) ?_
    refine V_iald (pc := 33) X dX5_letsThrough_33 (by first | rfl | assumption | (simp only [*]; done) | omega) (by omega) (by omega) (by decide) ?_
    refine V_iand (pc := 34) X dX5_letsThrough_34 ?_
    refine V_iret (st := []) (pc := 35) X hQ dX5_letsThrough_35 rfl rfl ?_
    exact z_pi (by simp [c_lets, *])
  · skip
    refine V_iconst (pc := 5) X dX5_letsThrough_5 ?_
    refine V_goto (pc := 6) X 35 dX5_letsThrough_6 (by decide) ?_
    refine V_iret (st := []) (pc := 35) X hQ dX5_letsThrough_35 rfl rfl ?_
    exact z_pi (by simp [c_lets, *])
set_option maxHeartbeats 4000000 in
set_option maxRecDepth 100000 in
theorem ct_X5_paneByItself {h : z_H} {pl mo : Int} (hS : c_Sc h pl mo) {t k : Int} (h0 : 0 ≤ t) (h1 : t < 84) (h2 : 0 ≤ k) (h3 : k < 8) : z_Ct mX5_paneByItself 107 [(2, 3), (0, t), (0, k)] h (z_pure (0, c_own h pl mo t k) h) := by
  refine z_mk (L := [(2, 3), (0, t), (0, k), (9, 0)]) oX5_paneByItself.2.2.2.2 (Nat.le_of_ble_eq_true rfl) rfl ?_
  intro Γ X hQ
  obtain ⟨r30, r31, r42, ⟨kp, rp0, rp1, kp1, kp2, hw, hh, hs, hgl, hpi⟩, ⟨km, rm0, km1, hbr, hmi, hse, hbf⟩⟩ := id hS
  refine V_iload_n (pc := 0) X dX5_paneByItself_0 rfl ?_
  refine V_bipush (pc := 1) X dX5_paneByItself_1 (by decide) ?_
  refine V_idivN (pc := 3) X dX5_paneByItself_3 (by omega) (by omega) (by omega) (by omega) ?_
  refine V_istore_n (pc := 4) X dX5_paneByItself_4 (by exact Nat.le_of_ble_eq_true rfl) rfl ?_
  refine V_iload_n (pc := 5) X dX5_paneByItself_5 rfl ?_
  refine V_aload_n (pc := 6) X dX5_paneByItself_6 rfl (by first | decide | omega | assumption) ?_
  refine V_gz (pc := 7) X dX5_paneByItself_7 f_RX5_12 (by first | rfl | assumption | (simp only [*]; done) | omega) 0 rfl r30 ?_
  refine V_gz (pc := 10) X dX5_paneByItself_10 f_RX5_36 (by first | rfl | assumption | (simp only [*]; done) | omega) 2 rfl r42 ?_
  refine V_gz (pc := 13) X dX5_paneByItself_13 f_RX5_71 (by first | rfl | assumption | (simp only [*]; done) | omega) 2 rfl rfl ?_
  refine V_icmp_lt (pc := 16) X 21 dX5_paneByItself_16 (by decide) ⟨by omega, by omega⟩ ⟨by omega, by omega⟩ (fun c_16 => ?_) (fun c_16 => ?_)
  · skip
    refine V_aload_n (pc := 21) X dX5_paneByItself_21 rfl (by first | decide | omega | assumption) ?_
    refine V_iload_n (pc := 22) X dX5_paneByItself_22 rfl ?_
    refine V_iload_n (pc := 23) X dX5_paneByItself_23 rfl ?_
    refine V_isub (pc := 24) X dX5_paneByItself_24 ?_
    refine V_iload_n (pc := 25) X dX5_paneByItself_25 rfl ?_
    refine V_bipush (pc := 26) X dX5_paneByItself_26 (by decide) ?_
    refine V_iremN (pc := 28) X dX5_paneByItself_28 (by omega) (by omega) (by omega) (by omega) ?_
    refine V_aload_n (pc := 29) X dX5_paneByItself_29 rfl (by first | decide | omega | assumption) ?_
    refine V_gz (pc := 30) X dX5_paneByItself_30 f_RX5_12 (by first | rfl | assumption | (simp only [*]; done) | omega) 0 rfl r30 ?_
    refine V_gz (pc := 33) X dX5_paneByItself_33 f_RX5_36 (by first | rfl | assumption | (simp only [*]; done) | omega) 2 rfl r42 ?_
    refine V_gz (pc := 36) X dX5_paneByItself_36 f_RX5_79 (by first | rfl | assumption | (simp only [*]; done) | omega) 3 rfl rfl ?_
    refine V_isub (pc := 39) X dX5_paneByItself_39 ?_
    refine V_FV (pc := 40) X dX5_paneByItself_40 oX5_paneAt l_RX5_32 eX5_paneAt vX5_paneAt ⟨Nat.le_of_ble_eq_true rfl, Nat.le_of_ble_eq_true rfl⟩ ⟨rfl, rfl⟩ ⟨Nat.le_of_ble_eq_true rfl, Nat.le_of_ble_eq_true rfl⟩ (ct_X5_paneAt hS ⟨by omega, by omega⟩ ⟨by omega, by omega⟩) rfl (by first | rfl | assumption | (simp only [*]; done) | omega) (by intro q h; cases h; rfl) rfl (by rfl) (by exact Nat.le_of_ble_eq_true rfl) ?_
    refine V_iret (st := []) (pc := 43) X hQ dX5_paneByItself_43 rfl rfl ?_
    exact z_pi (by unfold c_own; first | (rw [if_pos (by omega)]; done) | (rw [if_neg (by omega)]))
  · skip
    refine V_iconst (pc := 19) X dX5_paneByItself_19 ?_
    refine V_iret (st := []) (pc := 20) X hQ dX5_paneByItself_20 rfl rfl ?_
    exact z_pi (by unfold c_own; first | (rw [if_pos (by omega)]; done) | (rw [if_neg (by omega)]))
set_option maxHeartbeats 4000000 in
set_option maxRecDepth 100000 in
theorem ct_X5_paneByMirror {h : z_H} {pl mo : Int} (hS : c_Sc h pl mo) {t k : Int} (h0 : 0 ≤ t) (h1 : t < 84) (h2 : 0 ≤ k) (h3 : k < 8) : z_Ct mX5_paneByMirror 107 [(2, 3), (0, t), (0, k)] h (z_pure (0, c_mir h pl mo t k) h) := by
  refine z_mk (L := [(2, 3), (0, t), (0, k), (9, 0), (9, 0)]) oX5_paneByMirror.2.2.2.2 (Nat.le_of_ble_eq_true rfl) rfl ?_
  intro Γ X hQ
  obtain ⟨r30, r31, r42, ⟨kp, rp0, rp1, kp1, kp2, hw, hh, hs, hgl, hpi⟩, ⟨km, rm0, km1, hbr, hmi, hse, hbf⟩⟩ := id hS
  refine V_iload_n (pc := 0) X dX5_paneByMirror_0 rfl ?_
  refine V_bipush (pc := 1) X dX5_paneByMirror_1 (by decide) ?_
  refine V_idivN (pc := 3) X dX5_paneByMirror_3 (by omega) (by omega) (by omega) (by omega) ?_
  refine V_istore_n (pc := 4) X dX5_paneByMirror_4 (by exact Nat.le_of_ble_eq_true rfl) rfl ?_
  refine V_iload_n (pc := 5) X dX5_paneByMirror_5 rfl ?_
  refine V_aload_n (pc := 6) X dX5_paneByMirror_6 rfl (by first | decide | omega | assumption) ?_
  refine V_gz (pc := 7) X dX5_paneByMirror_7 f_RX5_12 (by first | rfl | assumption | (simp only [*]; done) | omega) 0 rfl r30 ?_
  refine V_gz (pc := 10) X dX5_paneByMirror_10 f_RX5_36 (by first | rfl | assumption | (simp only [*]; done) | omega) 2 rfl r42 ?_
  refine V_gz (pc := 13) X dX5_paneByMirror_13 f_RX5_71 (by first | rfl | assumption | (simp only [*]; done) | omega) 2 rfl rfl ?_
  refine V_icmp_lt (pc := 16) X 21 dX5_paneByMirror_16 (by decide) ⟨by omega, by omega⟩ ⟨by omega, by omega⟩ (fun c_16 => ?_) (fun c_16 => ?_)
  · skip
    refine V_iconst (pc := 21) X dX5_paneByMirror_21 ?_
    refine V_aload_n (pc := 22) X dX5_paneByMirror_22 rfl (by first | decide | omega | assumption) ?_
    refine V_gz (pc := 23) X dX5_paneByMirror_23 f_RX5_12 (by first | rfl | assumption | (simp only [*]; done) | omega) 0 rfl r30 ?_
    refine V_gz (pc := 26) X dX5_paneByMirror_26 f_RX5_36 (by first | rfl | assumption | (simp only [*]; done) | omega) 2 rfl r42 ?_
    refine V_gz (pc := 29) X dX5_paneByMirror_29 f_RX5_71 (by first | rfl | assumption | (simp only [*]; done) | omega) 2 rfl rfl ?_
    refine V_imul (pc := 32) X dX5_paneByMirror_32 ?_
    refine V_iconst (pc := 33) X dX5_paneByMirror_33 ?_
    refine V_isub (pc := 34) X dX5_paneByMirror_34 ?_
    refine V_iload_n (pc := 35) X dX5_paneByMirror_35 rfl ?_
    refine V_isub (pc := 36) X dX5_paneByMirror_36 ?_
    refine V_istore (pc := 37) X dX5_paneByMirror_37 (by exact Nat.le_of_ble_eq_true rfl) rfl ?_
    refine V_aload_n (pc := 39) X dX5_paneByMirror_39 rfl (by first | decide | omega | assumption) ?_
    refine V_iload (pc := 40) X dX5_paneByMirror_40 rfl ?_
    refine V_iload_n (pc := 42) X dX5_paneByMirror_42 rfl ?_
    refine V_isub (pc := 43) X dX5_paneByMirror_43 ?_
    refine V_iload_n (pc := 44) X dX5_paneByMirror_44 rfl ?_
    refine V_bipush (pc := 45) X dX5_paneByMirror_45 (by decide) ?_
    refine V_iremN (pc := 47) X dX5_paneByMirror_47 (by omega) (by omega) (by omega) (by omega) ?_
    refine V_aload_n (pc := 48) X dX5_paneByMirror_48 rfl (by first | decide | omega | assumption) ?_
    refine V_gz (pc := 49) X dX5_paneByMirror_49 f_RX5_12 (by first | rfl | assumption | (simp only [*]; done) | omega) 0 rfl r30 ?_
    refine V_gz (pc := 52) X dX5_paneByMirror_52 f_RX5_36 (by first | rfl | assumption | (simp only [*]; done) | omega) 2 rfl r42 ?_
    refine V_gz (pc := 55) X dX5_paneByMirror_55 f_RX5_79 (by first | rfl | assumption | (simp only [*]; done) | omega) 3 rfl rfl ?_
    refine V_isub (pc := 58) X dX5_paneByMirror_58 ?_
    refine V_FV (pc := 59) X dX5_paneByMirror_59 oX5_paneAt l_RX5_32 eX5_paneAt vX5_paneAt ⟨Nat.le_of_ble_eq_true rfl, Nat.le_of_ble_eq_true rfl⟩ ⟨rfl, rfl⟩ ⟨Nat.le_of_ble_eq_true rfl, Nat.le_of_ble_eq_true rfl⟩ (ct_X5_paneAt hS ⟨by omega, by omega⟩ ⟨by omega, by omega⟩) rfl (by first | rfl | assumption | (simp only [*]; done) | omega) (by intro q h; cases h; rfl) rfl (by rfl) (by exact Nat.le_of_ble_eq_true rfl) ?_
    refine V_iret (st := []) (pc := 62) X hQ dX5_paneByMirror_62 rfl rfl ?_
    exact z_pi (by unfold c_mir; first | (rw [if_pos (by omega)]; done) | (rw [if_neg (by omega)]))
  · skip
    refine V_iconst (pc := 19) X dX5_paneByMirror_19 ?_
    refine V_iret (st := []) (pc := 20) X hQ dX5_paneByMirror_20 rfl rfl ?_
    exact z_pi (by unfold c_mir; first | (rw [if_pos (by omega)]; done) | (rw [if_neg (by omega)]))
set_option maxHeartbeats 4000000 in
set_option maxRecDepth 100000 in
theorem ct_X5_lightOf {h : z_H} {pl mo : Int} (hS : c_Sc h pl mo) {t k : Int} (h0 : 0 ≤ t) (h1 : t < 84) (h2 : 0 ≤ k) (h3 : k < 8) : z_Ct mX5_lightOf 107 [(2, 3), (0, t), (0, k)] h (z_pure (0, c_light h pl mo t k) h) := by
  refine z_mk (L := [(2, 3), (0, t), (0, k)]) oX5_lightOf.2.2.2.2 (Nat.le_of_ble_eq_true rfl) rfl ?_
  intro Γ X hQ
  obtain ⟨r30, r31, r42, ⟨kp, rp0, rp1, kp1, kp2, hw, hh, hs, hgl, hpi⟩, ⟨km, rm0, km1, hbr, hmi, hse, hbf⟩⟩ := id hS
  have g1 := c_own_rng (t := t) (k := k) hS
  have g2 := c_mir_rng (t := t) (k := k) hS
  refine V_aload_n (pc := 0) X dX5_lightOf_0 rfl (by first | decide | omega | assumption) ?_
  refine V_aload_n (pc := 1) X dX5_lightOf_1 rfl (by first | decide | omega | assumption) ?_
  refine V_iload_n (pc := 2) X dX5_lightOf_2 rfl ?_
  refine V_iload_n (pc := 3) X dX5_lightOf_3 rfl ?_
  refine V_FV (pc := 4) X dX5_lightOf_4 oX5_paneByItself l_RX5_82 eX5_paneByItself vX5_paneByItself ⟨Nat.le_of_ble_eq_true rfl, Nat.le_of_ble_eq_true rfl⟩ ⟨rfl, rfl⟩ ⟨Nat.le_of_ble_eq_true rfl, Nat.le_of_ble_eq_true rfl⟩ (ct_X5_paneByItself hS (by omega) (by omega) (by omega) (by omega)) rfl (by first | rfl | assumption | (simp only [*]; done) | omega) (by intro q h; cases h; rfl) rfl (by rfl) (by exact Nat.le_of_ble_eq_true rfl) ?_
  refine V_FV (pc := 7) X dX5_lightOf_7 oX5_letsThrough l_RX5_85 eX5_letsThrough vX5_letsThrough ⟨Nat.le_of_ble_eq_true rfl, Nat.le_of_ble_eq_true rfl⟩ ⟨rfl, rfl⟩ ⟨Nat.le_of_ble_eq_true rfl, Nat.le_of_ble_eq_true rfl⟩ (ct_X5_letsThrough hS (by omega) (by omega)) rfl (by first | rfl | assumption | (simp only [*]; done) | omega) (by intro q h; cases h; rfl) rfl (by rfl) (by exact Nat.le_of_ble_eq_true rfl) ?_
  refine V_aload_n (pc := 10) X dX5_lightOf_10 rfl (by first | decide | omega | assumption) ?_
  refine V_aload_n (pc := 11) X dX5_lightOf_11 rfl (by first | decide | omega | assumption) ?_
  refine V_iload_n (pc := 12) X dX5_lightOf_12 rfl ?_
  refine V_iload_n (pc := 13) X dX5_lightOf_13 rfl ?_
  refine V_FV (pc := 14) X dX5_lightOf_14 oX5_paneByMirror l_RX5_88 eX5_paneByMirror vX5_paneByMirror ⟨Nat.le_of_ble_eq_true rfl, Nat.le_of_ble_eq_true rfl⟩ ⟨rfl, rfl⟩ ⟨Nat.le_of_ble_eq_true rfl, Nat.le_of_ble_eq_true rfl⟩ (ct_X5_paneByMirror hS (by omega) (by omega) (by omega) (by omega)) rfl (by first | rfl | assumption | (simp only [*]; done) | omega) (by intro q h; cases h; rfl) rfl (by rfl) (by exact Nat.le_of_ble_eq_true rfl) ?_
  refine V_FV (pc := 17) X dX5_lightOf_17 oX5_letsThrough l_RX5_85 eX5_letsThrough vX5_letsThrough ⟨Nat.le_of_ble_eq_true rfl, Nat.le_of_ble_eq_true rfl⟩ ⟨rfl, rfl⟩ ⟨Nat.le_of_ble_eq_true rfl, Nat.le_of_ble_eq_true rfl⟩ (ct_X5_letsThrough hS (by omega) (by omega)) rfl (by first | rfl | assumption | (simp only [*]; done) | omega) (by intro q h; cases h; rfl) rfl (by rfl) (by exact Nat.le_of_ble_eq_true rfl) ?_
  refine V_ior (pc := 20) X dX5_lightOf_20 ?_
  refine V_iret (st := []) (pc := 21) X hQ dX5_lightOf_21 rfl rfl ?_
  exact z_pi (rfl)
set_option maxHeartbeats 4000000 in
set_option maxRecDepth 100000 in
theorem ct_X5_lightIf {h : z_H} {pl mo : Int} (hS : c_Sc h pl mo) {t k q v : Int} (h0 : 0 ≤ t) (h1 : t < 84) (h2 : 0 ≤ k) (h3 : k < 8) (hq : -1 ≤ q ∧ q < 20) : z_Ct mX5_lightIf 107 [(2, 3), (0, t), (0, k), (0, q), (0, v)] h (z_pure (0, c_lightIf h pl mo t k q v) h) := by
  refine z_mk (L := [(2, 3), (0, t), (0, k), (0, q), (0, v), (9, 0), (9, 0)]) oX5_lightIf.2.2.2.2 (Nat.le_of_ble_eq_true rfl) rfl ?_
  intro Γ X hQ
  obtain ⟨r30, r31, r42, ⟨kp, rp0, rp1, kp1, kp2, hw, hh, hs, hgl, hpi⟩, ⟨km, rm0, km1, hbr, hmi, hse, hbf⟩⟩ := id hS
  have g1 := c_own_rng (t := t) (k := k) hS
  have g2 := c_mir_rng (t := t) (k := k) hS
  refine V_aload_n (pc := 0) X dX5_lightIf_0 rfl (by first | decide | omega | assumption) ?_
  refine V_iload_n (pc := 1) X dX5_lightIf_1 rfl ?_
  refine V_iload_n (pc := 2) X dX5_lightIf_2 rfl ?_
  refine V_FV (pc := 3) X dX5_lightIf_3 oX5_paneByItself l_RX5_82 eX5_paneByItself vX5_paneByItself ⟨Nat.le_of_ble_eq_true rfl, Nat.le_of_ble_eq_true rfl⟩ ⟨rfl, rfl⟩ ⟨Nat.le_of_ble_eq_true rfl, Nat.le_of_ble_eq_true rfl⟩ (ct_X5_paneByItself hS (by omega) (by omega) (by omega) (by omega)) rfl (by first | rfl | assumption | (simp only [*]; done) | omega) (by intro q h; cases h; rfl) rfl (by rfl) (by exact Nat.le_of_ble_eq_true rfl) ?_
  refine V_istore (pc := 6) X dX5_lightIf_6 (by exact Nat.le_of_ble_eq_true rfl) rfl ?_
  refine V_aload_n (pc := 8) X dX5_lightIf_8 rfl (by first | decide | omega | assumption) ?_
  refine V_iload_n (pc := 9) X dX5_lightIf_9 rfl ?_
  refine V_iload_n (pc := 10) X dX5_lightIf_10 rfl ?_
  refine V_FV (pc := 11) X dX5_lightIf_11 oX5_paneByMirror l_RX5_88 eX5_paneByMirror vX5_paneByMirror ⟨Nat.le_of_ble_eq_true rfl, Nat.le_of_ble_eq_true rfl⟩ ⟨rfl, rfl⟩ ⟨Nat.le_of_ble_eq_true rfl, Nat.le_of_ble_eq_true rfl⟩ (ct_X5_paneByMirror hS (by omega) (by omega) (by omega) (by omega)) rfl (by first | rfl | assumption | (simp only [*]; done) | omega) (by intro q h; cases h; rfl) rfl (by rfl) (by exact Nat.le_of_ble_eq_true rfl) ?_
  refine V_istore (pc := 14) X dX5_lightIf_14 (by exact Nat.le_of_ble_eq_true rfl) rfl ?_
  refine V_iload (pc := 16) X dX5_lightIf_16 rfl ?_
  refine V_iload_n (pc := 18) X dX5_lightIf_18 rfl ?_
  refine V_icmp_ne (pc := 19) X 27 dX5_lightIf_19 (by decide) ⟨by omega, by omega⟩ ⟨by omega, by omega⟩ (fun c_19 => ?_) (fun c_19 => ?_)
  · skip
    refine V_aload_n (pc := 27) X dX5_lightIf_27 rfl (by first | decide | omega | assumption) ?_
    refine V_iload (pc := 28) X dX5_lightIf_28 rfl ?_
    refine V_FV (pc := 30) X dX5_lightIf_30 oX5_letsThrough l_RX5_85 eX5_letsThrough vX5_letsThrough ⟨Nat.le_of_ble_eq_true rfl, Nat.le_of_ble_eq_true rfl⟩ ⟨rfl, rfl⟩ ⟨Nat.le_of_ble_eq_true rfl, Nat.le_of_ble_eq_true rfl⟩ (ct_X5_letsThrough hS (by omega) (by omega)) rfl (by first | rfl | assumption | (simp only [*]; done) | omega) (by intro q h; cases h; rfl) rfl (by rfl) (by exact Nat.le_of_ble_eq_true rfl) ?_
    refine V_iload (pc := 33) X dX5_lightIf_33 rfl ?_
    refine V_iload_n (pc := 35) X dX5_lightIf_35 rfl ?_
    refine V_icmp_ne (pc := 36) X 44 dX5_lightIf_36 (by decide) ⟨by omega, by omega⟩ ⟨by omega, by omega⟩ (fun c_36 => ?_) (fun c_36 => ?_)
    · skip
      refine V_aload_n (pc := 44) X dX5_lightIf_44 rfl (by first | decide | omega | assumption) ?_
      refine V_iload (pc := 45) X dX5_lightIf_45 rfl ?_
      refine V_FV (pc := 47) X dX5_lightIf_47 oX5_letsThrough l_RX5_85 eX5_letsThrough vX5_letsThrough ⟨Nat.le_of_ble_eq_true rfl, Nat.le_of_ble_eq_true rfl⟩ ⟨rfl, rfl⟩ ⟨Nat.le_of_ble_eq_true rfl, Nat.le_of_ble_eq_true rfl⟩ (ct_X5_letsThrough hS (by omega) (by omega)) rfl (by first | rfl | assumption | (simp only [*]; done) | omega) (by intro q h; cases h; rfl) rfl (by rfl) (by exact Nat.le_of_ble_eq_true rfl) ?_
      refine V_ior (pc := 50) X dX5_lightIf_50 ?_
      refine V_iret (st := []) (pc := 51) X hQ dX5_lightIf_51 rfl rfl ?_
      exact z_pi (by simp [c_lightIf, *])
    · skip
      refine V_iload (pc := 39) X dX5_lightIf_39 rfl ?_
      refine V_goto (pc := 41) X 50 dX5_lightIf_41 (by decide) ?_
      refine V_ior (pc := 50) X dX5_lightIf_50 ?_
      refine V_iret (st := []) (pc := 51) X hQ dX5_lightIf_51 rfl rfl ?_
      exact z_pi (by simp [c_lightIf, *])
  · skip
    refine V_iload (pc := 22) X dX5_lightIf_22 rfl ?_
    refine V_goto (pc := 24) X 33 dX5_lightIf_24 (by decide) ?_
    refine V_iload (pc := 33) X dX5_lightIf_33 rfl ?_
    refine V_iload_n (pc := 35) X dX5_lightIf_35 rfl ?_
    refine V_icmp_ne (pc := 36) X 44 dX5_lightIf_36 (by decide) ⟨by omega, by omega⟩ ⟨by omega, by omega⟩ (fun c_36 => ?_) (fun c_36 => ?_)
    · skip
      refine V_aload_n (pc := 44) X dX5_lightIf_44 rfl (by first | decide | omega | assumption) ?_
      refine V_iload (pc := 45) X dX5_lightIf_45 rfl ?_
      refine V_FV (pc := 47) X dX5_lightIf_47 oX5_letsThrough l_RX5_85 eX5_letsThrough vX5_letsThrough ⟨Nat.le_of_ble_eq_true rfl, Nat.le_of_ble_eq_true rfl⟩ ⟨rfl, rfl⟩ ⟨Nat.le_of_ble_eq_true rfl, Nat.le_of_ble_eq_true rfl⟩ (ct_X5_letsThrough hS (by omega) (by omega)) rfl (by first | rfl | assumption | (simp only [*]; done) | omega) (by intro q h; cases h; rfl) rfl (by rfl) (by exact Nat.le_of_ble_eq_true rfl) ?_
      refine V_ior (pc := 50) X dX5_lightIf_50 ?_
      refine V_iret (st := []) (pc := 51) X hQ dX5_lightIf_51 rfl rfl ?_
      exact z_pi (by simp [c_lightIf, *])
    · skip
      refine V_iload (pc := 39) X dX5_lightIf_39 rfl ?_
      refine V_goto (pc := 41) X 50 dX5_lightIf_41 (by decide) ?_
      refine V_ior (pc := 50) X dX5_lightIf_50 ?_
      refine V_iret (st := []) (pc := 51) X hQ dX5_lightIf_51 rfl rfl ?_
      exact z_pi (by simp [c_lightIf, *])
set_option maxHeartbeats 4000000 in
set_option maxRecDepth 100000 in
theorem ct_X5_roomBefore {h : z_H} {pl mo : Int} (hS : c_Sc h pl mo) {p : Int} (h0 : -1 ≤ p) (h1 : p < 20) : z_Ct mX5_roomBefore 107 [(2, 3), (0, p)] h (z_pure (0, c_room h mo p) h) := by
  refine z_mk (L := [(2, 3), (0, p)]) oX5_roomBefore.2.2.2.2 (Nat.le_of_ble_eq_true rfl) rfl ?_
  intro Γ X hQ
  obtain ⟨r30, r31, r42, ⟨kp, rp0, rp1, kp1, kp2, hw, hh, hs, hgl, hpi⟩, ⟨km, rm0, km1, hbr, hmi, hse, hbf⟩⟩ := id hS
  refine V_iload_n (pc := 0) X dX5_roomBefore_0 rfl ?_
  refine V_iconst (pc := 1) X dX5_roomBefore_1 ?_
  refine V_icmp_eq (pc := 2) X 13 dX5_roomBefore_2 (by decide) ⟨by omega, by omega⟩ ⟨by omega, by omega⟩ (fun c_2 => ?_) (fun c_2 => ?_)
  · skip
    refine V_iconst (pc := 13) X dX5_roomBefore_13 ?_
    refine V_iret (st := []) (pc := 14) X hQ dX5_roomBefore_14 rfl rfl ?_
    exact z_pi (by simp [c_room, *])
  · skip
    refine V_aload_n (pc := 5) X dX5_roomBefore_5 rfl (by first | decide | omega | assumption) ?_
    refine V_iload_n (pc := 6) X dX5_roomBefore_6 rfl ?_
    refine V_FV (pc := 7) X dX5_roomBefore_7 oX5_isBroken l_RX5_45 eX5_isBroken vX5_isBroken ⟨Nat.le_of_ble_eq_true rfl, Nat.le_of_ble_eq_true rfl⟩ ⟨rfl, rfl⟩ ⟨Nat.le_of_ble_eq_true rfl, Nat.le_of_ble_eq_true rfl⟩ (ct_X5_isBroken hS (by omega) (by omega)) rfl (by first | rfl | assumption | (simp only [*]; done) | omega) (by intro q h; cases h; rfl) rfl (by rfl) (by exact Nat.le_of_ble_eq_true rfl) ?_
    refine V_bif_eq (pc := 10) X 15 dX5_roomBefore_10 (by decide)  (fun c_10 => ?_) (fun c_10 => ?_)
    · skip
      refine V_iconst (pc := 15) X dX5_roomBefore_15 ?_
      refine V_aload_n (pc := 16) X dX5_roomBefore_16 rfl (by first | decide | omega | assumption) ?_
      refine V_gz (pc := 17) X dX5_roomBefore_17 f_RX5_12 (by first | rfl | assumption | (simp only [*]; done) | omega) 0 rfl r30 ?_
      refine V_gz (pc := 20) X dX5_roomBefore_20 f_RX5_36 (by first | rfl | assumption | (simp only [*]; done) | omega) 2 rfl r42 ?_
      refine V_gz (pc := 23) X dX5_roomBefore_23 f_RX5_60 (by first | rfl | assumption | (simp only [*]; done) | omega) 0 rfl rm0 ?_
      refine V_iload_n (pc := 26) X dX5_roomBefore_26 rfl ?_
      refine V_iald (pc := 27) X dX5_roomBefore_27 (by first | rfl | assumption | (simp only [*]; done) | omega) (by omega) (by omega) (by decide) ?_
      have hbp := hbf p (by omega) (by omega)
      refine V_FS (pc := 28) X dX5_roomBefore_28 oJ6_bitCount_0f7a4 l_RX5_66 sJ6_bitCount_0f7a4 ⟨Nat.le_of_ble_eq_true rfl, Nat.le_of_ble_eq_true rfl⟩ ⟨rfl, rfl⟩ ⟨Nat.le_of_ble_eq_true rfl, Nat.le_of_ble_eq_true rfl⟩ (ct_J6_bitCount_0f7a4 (by omega) (by omega)) rfl (by rfl) (by exact Nat.le_of_ble_eq_true rfl) ?_
      refine V_isub (pc := 31) X dX5_roomBefore_31 ?_
      refine V_iret (st := []) (pc := 32) X hQ dX5_roomBefore_32 rfl rfl ?_
      exact z_pi (by simp [c_room, *])
    · skip
      refine V_iconst (pc := 13) X dX5_roomBefore_13 ?_
      refine V_iret (st := []) (pc := 14) X hQ dX5_roomBefore_14 rfl rfl ?_
      exact z_pi (by simp [c_room, *])
set_option maxHeartbeats 4000000 in
set_option maxRecDepth 100000 in
theorem ct_X5_lostAtFirstHour {h : z_H} {pl mo : Int} (hS : c_Sc h pl mo) : z_Ct mX5_lostAtFirstHour 107 [(2, 3)] h (z_pure (0, c_lost h pl mo) h) := by
  refine z_mk (L := [(2, 3)]) oX5_lostAtFirstHour.2.2.2.2 (Nat.le_of_ble_eq_true rfl) rfl ?_
  intro Γ X hQ
  obtain ⟨r30, r31, r42, ⟨kp, rp0, rp1, kp1, kp2, hw, hh, hs, hgl, hpi⟩, ⟨km, rm0, km1, hbr, hmi, hse, hbf⟩⟩ := id hS
  refine V_aload_n (pc := 0) X dX5_lostAtFirstHour_0 rfl (by first | decide | omega | assumption) ?_
  refine V_gz (pc := 1) X dX5_lostAtFirstHour_1 f_RX5_21 (by first | rfl | assumption | (simp only [*]; done) | omega) 1 rfl r31 ?_
  refine V_gz (pc := 4) X dX5_lostAtFirstHour_4 f_RX5_29 (by first | rfl | assumption | (simp only [*]; done) | omega) 3 rfl rfl ?_
  refine V_iconst (pc := 7) X dX5_lostAtFirstHour_7 ?_
  refine V_aload_n (pc := 8) X dX5_lostAtFirstHour_8 rfl (by first | decide | omega | assumption) ?_
  refine V_gz (pc := 9) X dX5_lostAtFirstHour_9 f_RX5_21 (by first | rfl | assumption | (simp only [*]; done) | omega) 1 rfl r31 ?_
  refine V_gz (pc := 12) X dX5_lostAtFirstHour_12 f_RX5_25 (by first | rfl | assumption | (simp only [*]; done) | omega) 2 rfl rfl ?_
  refine V_iconst (pc := 15) X dX5_lostAtFirstHour_15 ?_
  refine V_aload_n (pc := 16) X dX5_lostAtFirstHour_16 rfl (by first | decide | omega | assumption) ?_
  refine V_gz (pc := 17) X dX5_lostAtFirstHour_17 f_RX5_12 (by first | rfl | assumption | (simp only [*]; done) | omega) 0 rfl r30 ?_
  refine V_gz (pc := 20) X dX5_lostAtFirstHour_20 f_RX5_36 (by first | rfl | assumption | (simp only [*]; done) | omega) 2 rfl r42 ?_
  refine V_gz (pc := 23) X dX5_lostAtFirstHour_23 f_RX5_71 (by first | rfl | assumption | (simp only [*]; done) | omega) 2 rfl rfl ?_
  refine V_imul (pc := 26) X dX5_lostAtFirstHour_26 ?_
  refine V_isub (pc := 27) X dX5_lostAtFirstHour_27 ?_
  refine V_mmax (pc := 28) X dX5_lostAtFirstHour_28 lm_RX5_74 ⟨Nat.le_of_ble_eq_true rfl, Nat.le_of_ble_eq_true rfl⟩ ⟨Nat.le_of_ble_eq_true rfl, Nat.le_of_ble_eq_true rfl⟩ ⟨by omega, by omega⟩ ⟨by omega, by omega⟩ ?_
  refine V_imul (pc := 31) X dX5_lostAtFirstHour_31 ?_
  refine V_iret (st := []) (pc := 32) X hQ dX5_lostAtFirstHour_32 rfl rfl ?_
  exact z_pi (rfl)
set_option maxHeartbeats 4000000 in
set_option maxRecDepth 100000 in
theorem ct_X5_paneBehind {h : z_H} {pl mo : Int} (hS : c_Sc h pl mo) {s : Int} (h0 : 0 ≤ s) (h1 : s < 8) : z_Ct mX5_paneBehind 107 [(2, 3), (0, s)] h (z_pure (0, c_behind h mo s) h) := by
  refine z_mk (L := [(2, 3), (0, s), (9, 0)]) oX5_paneBehind.2.2.2.2 (Nat.le_of_ble_eq_true rfl) rfl ?_
  intro Γ X hQ
  obtain ⟨r30, r31, r42, ⟨kp, rp0, rp1, kp1, kp2, hw, hh, hs, hgl, hpi⟩, ⟨km, rm0, km1, hbr, hmi, hse, hbf⟩⟩ := id hS
  refine V_iconst (pc := 0) X dX5_paneBehind_0 ?_
  refine V_istore_n (pc := 1) X dX5_paneBehind_1 (by exact Nat.le_of_ble_eq_true rfl) rfl ?_
  have lp_2 : ∀ (m : Nat) (i : Int), (20 - i).toNat < m → 0 ≤ i → i ≤ 20 → (∀ k : Int, 0 ≤ k → k < i → tb (h (mo + 1) k) s = false) → z_V Γ (107, 0, 0) 2 [(2, 3), (0, s), (0, i)] [] h := by
    intro m
    induction m with
    | zero => intro i hm; exact absurd hm (Nat.not_lt_zero _)
    | succ m ih_2 =>
      intro i hm hi0 hi1 hk
      refine V_iload_n (pc := 2) X dX5_paneBehind_2 rfl ?_
      refine V_bipush (pc := 3) X dX5_paneBehind_3 (by decide) ?_
      refine V_icmp_ge (pc := 5) X 35 dX5_paneBehind_5 (by decide) ⟨by omega, by omega⟩ ⟨by omega, by omega⟩ (fun c_5 => ?_) (fun c_5 => ?_)
      · skip
        refine V_bipush (pc := 35) X dX5_paneBehind_35 (by decide) ?_
        refine V_iret (st := []) (pc := 37) X hQ dX5_paneBehind_37 rfl rfl ?_
        exact z_pi (by symm; exact z_find_none (n := 20) (fun k g1 g2 => hk k g1 (by omega)))
      · skip
        refine V_aload_n (pc := 8) X dX5_paneBehind_8 rfl (by first | decide | omega | assumption) ?_
        refine V_gz (pc := 9) X dX5_paneBehind_9 f_RX5_12 (by first | rfl | assumption | (simp only [*]; done) | omega) 0 rfl r30 ?_
        refine V_gz (pc := 12) X dX5_paneBehind_12 f_RX5_36 (by first | rfl | assumption | (simp only [*]; done) | omega) 2 rfl r42 ?_
        refine V_gz (pc := 15) X dX5_paneBehind_15 f_RX5_60 (by first | rfl | assumption | (simp only [*]; done) | omega) 0 rfl rm0 ?_
        refine V_iload_n (pc := 18) X dX5_paneBehind_18 rfl ?_
        refine V_iald (pc := 19) X dX5_paneBehind_19 (by first | rfl | assumption | (simp only [*]; done) | omega) (by omega) (by omega) (by decide) ?_
        refine V_iload_n (pc := 20) X dX5_paneBehind_20 rfl ?_
        refine V_ishr (pc := 21) X dX5_paneBehind_21 ?_
        refine V_iconst (pc := 22) X dX5_paneBehind_22 ?_
        have hbp := hbf i (by omega) (by omega)
        refine V_iand (pc := 23) X dX5_paneBehind_23 ?_
        rw [z_bitb (by omega) (by omega) (by omega) (by omega)]
        refine V_if_eq (pc := 24) X 29 dX5_paneBehind_24 (by decide) (z_b_rng _) (fun c_24 => ?_) (fun c_24 => ?_)
        · skip
          refine V_iinc (pc := 29) X dX5_paneBehind_29 rfl rfl ?_
          refine V_goto (pc := 32) X 2 dX5_paneBehind_32 (by decide) ?_
          refine ih_2 (i + 1) (by omega) (by omega) (by omega) (fun k g1 g2 => ?_)
          by_cases e : k = i
          · rw [e]; exact z_b_0.mp c_24
          · exact hk k g1 (by omega)
        · skip
          refine V_iload_n (pc := 27) X dX5_paneBehind_27 rfl ?_
          refine V_iret (st := []) (pc := 28) X hQ dX5_paneBehind_28 rfl rfl ?_
          exact z_pi (by symm; exact z_find_some (n := 20) hi0 (z_b_n0.mp c_24) hk (by omega))
  exact lp_2 _ 0 (Nat.lt_succ_self _) (by decide) (by decide) (by intro k h1 h2; omega)
set_option maxHeartbeats 4000000 in
set_option maxRecDepth 100000 in
theorem ct_X5_box {h : z_H} {pl mo : Int} (hS : c_Sc h pl mo) : z_Ct mX5_box 107 [(2, 3)] h (z_pure (0, c_box h pl mo) h) := by
  refine z_mk (L := [(2, 3), (9, 0), (9, 0)]) oX5_box.2.2.2.2 (Nat.le_of_ble_eq_true rfl) rfl ?_
  intro Γ X hQ
  obtain ⟨r30, r31, r42, ⟨kp, rp0, rp1, kp1, kp2, hw, hh, hs, hgl, hpi⟩, ⟨km, rm0, km1, hbr, hmi, hse, hbf⟩⟩ := id hS
  refine V_iconst (pc := 0) X dX5_box_0 ?_
  refine V_istore_n (pc := 1) X dX5_box_1 (by exact Nat.le_of_ble_eq_true rfl) rfl ?_
  refine V_iconst (pc := 2) X dX5_box_2 ?_
  refine V_istore_n (pc := 3) X dX5_box_3 (by exact Nat.le_of_ble_eq_true rfl) rfl ?_
  have lp_4 : ∀ (m : Nat) (i : Nat), 20 - i < m → i ≤ 20 → z_V Γ (107, 0, 0) 4 [(2, 3), (0, z_orf (h (mo + 1)) i), (0, (i : Int))] [] h := by
    intro m
    induction m with
    | zero => intro i hm; exact absurd hm (Nat.not_lt_zero _)
    | succ m ih_4 =>
      intro i hm hi1
      refine V_iload_n (pc := 4) X dX5_box_4 rfl ?_
      refine V_bipush (pc := 5) X dX5_box_5 (by decide) ?_
      refine V_icmp_ge (pc := 7) X 31 dX5_box_7 (by decide) ⟨by omega, by omega⟩ ⟨by omega, by omega⟩ (fun c_7 => ?_) (fun c_7 => ?_)
      · skip
        refine V_iconst (pc := 31) X dX5_box_31 ?_
        refine V_aload_n (pc := 32) X dX5_box_32 rfl (by first | decide | omega | assumption) ?_
        refine V_gz (pc := 33) X dX5_box_33 f_RX5_21 (by first | rfl | assumption | (simp only [*]; done) | omega) 1 rfl r31 ?_
        refine V_gz (pc := 36) X dX5_box_36 f_RX5_63 (by first | rfl | assumption | (simp only [*]; done) | omega) 4 rfl rfl ?_
        refine V_ishl (pc := 39) X dX5_box_39 ?_
        refine V_iconst (pc := 40) X dX5_box_40 ?_
        refine V_isub (pc := 41) X dX5_box_41 ?_
        refine V_iload_n (pc := 42) X dX5_box_42 rfl ?_
        refine V_iconst (pc := 43) X dX5_box_43 ?_
        refine V_ixor (pc := 44) X dX5_box_44 ?_
        refine V_iand (pc := 45) X dX5_box_45 ?_
        refine V_iret (st := []) (pc := 46) X hQ dX5_box_46 rfl rfl ?_
        exact z_pi (by (obtain rfl : i = 20 := by omega); rfl)
      · skip
        refine V_iload_n (pc := 10) X dX5_box_10 rfl ?_
        refine V_aload_n (pc := 11) X dX5_box_11 rfl (by first | decide | omega | assumption) ?_
        refine V_gz (pc := 12) X dX5_box_12 f_RX5_12 (by first | rfl | assumption | (simp only [*]; done) | omega) 0 rfl r30 ?_
        refine V_gz (pc := 15) X dX5_box_15 f_RX5_36 (by first | rfl | assumption | (simp only [*]; done) | omega) 2 rfl r42 ?_
        refine V_gz (pc := 18) X dX5_box_18 f_RX5_60 (by first | rfl | assumption | (simp only [*]; done) | omega) 0 rfl rm0 ?_
        refine V_iload_n (pc := 21) X dX5_box_21 rfl ?_
        refine V_iald (pc := 22) X dX5_box_22 (by first | rfl | assumption | (simp only [*]; done) | omega) (by omega) (by omega) (by decide) ?_
        refine V_ior (pc := 23) X dX5_box_23 ?_
        refine V_istore_n (pc := 24) X dX5_box_24 (by exact Nat.le_of_ble_eq_true rfl) rfl ?_
        refine V_iinc (pc := 25) X dX5_box_25 rfl rfl ?_
        refine V_goto (pc := 28) X 4 dX5_box_28 (by decide) ?_
        exact ih_4 (i + 1) (by omega) (by omega)
  exact lp_4 _ 0 (Nat.lt_succ_self _) (by decide)
