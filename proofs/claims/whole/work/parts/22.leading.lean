/-! Leading -/
set_option maxHeartbeats 4000000 in
set_option maxRecDepth 100000 in
theorem ct_X0_unlike {h : z_H} {pl mo : Int} (hS : c_Sc h pl mo) {p c : Int} (h0 : -1 ≤ p) (h1 : p < 20) (hc : z_R c) : z_Ct mX0_unlike 107 [(2, 3), (0, p), (0, c)] h (z_pure (0, c_unl h pl mo p c) h) := by
  refine z_mk (L := [(2, 3), (0, p), (0, c)]) oX0_unlike.2.2.2.2 (Nat.le_of_ble_eq_true rfl) rfl ?_
  intro Γ X hQ
  obtain ⟨r30, r31, r42, ⟨kp, rp0, rp1, kp1, kp2, hw, hh, hs, hgl, hpi⟩, ⟨km, rm0, km1, hbr, hmi, hse, hbf⟩⟩ := id hS
  refine V_iload_n (pc := 0) X dX0_unlike_0 rfl ?_
  refine V_iconst (pc := 1) X dX0_unlike_1 ?_
  refine V_icmp_eq (pc := 2) X 18 dX0_unlike_2 (by decide) ⟨by omega, by omega⟩ ⟨by omega, by omega⟩ (fun c_2 => ?_) (fun c_2 => ?_)
  · skip
    refine V_iconst (pc := 18) X dX0_unlike_18 ?_
    refine V_iret (st := []) (pc := 19) X hQ dX0_unlike_19 rfl rfl ?_
    exact z_pi (by simp [c_unl, *])
  · skip
    refine V_aload_n (pc := 5) X dX0_unlike_5 rfl (by first | decide | omega | assumption) ?_
    refine V_iload_n (pc := 6) X dX0_unlike_6 rfl ?_
    refine V_FV (pc := 7) X dX0_unlike_7 oX5_colourNow l_RX0_15 eX5_colourNow vX5_colourNow ⟨Nat.le_of_ble_eq_true rfl, Nat.le_of_ble_eq_true rfl⟩ ⟨rfl, rfl⟩ ⟨Nat.le_of_ble_eq_true rfl, Nat.le_of_ble_eq_true rfl⟩ (ct_X5_colourNow hS (by omega) (by omega)) rfl (by first | rfl | assumption | (simp only [*]; done) | omega) (by intro q h; cases h; rfl) rfl (by rfl) (by exact Nat.le_of_ble_eq_true rfl) ?_
    have hcp := c_colour_rng (p := p) hS (by omega) (by omega)
    obtain ⟨hc1, hc2⟩ := hc
    refine V_iload_n (pc := 10) X dX0_unlike_10 rfl ?_
    refine V_icmp_eq (pc := 11) X 18 dX0_unlike_11 (by decide) ⟨by omega, by omega⟩ ⟨by omega, by omega⟩ (fun c_11 => ?_) (fun c_11 => ?_)
    · skip
      refine V_iconst (pc := 18) X dX0_unlike_18 ?_
      refine V_iret (st := []) (pc := 19) X hQ dX0_unlike_19 rfl rfl ?_
      exact z_pi (by simp [c_unl, *])
    · skip
      refine V_iconst (pc := 14) X dX0_unlike_14 ?_
      refine V_goto (pc := 15) X 19 dX0_unlike_15 (by decide) ?_
      refine V_iret (st := []) (pc := 19) X hQ dX0_unlike_19 rfl rfl ?_
      exact z_pi (by simp [c_unl, *])
set_option maxHeartbeats 4000000 in
set_option maxRecDepth 100000 in
theorem ct_X0_unlikeBeside {h : z_H} {pl mo : Int} (hS : c_Sc h pl mo) {p c : Int} (h0 : 0 ≤ p) (h1 : p < 20) (hc : z_R c) : z_Ct mX0_unlikeBeside 107 [(2, 3), (0, p), (0, c)] h (z_pure (0, c_unb h pl mo p c) h) := by
  refine z_mk (L := [(2, 3), (0, p), (0, c), (9, 0), (9, 0)]) oX0_unlikeBeside.2.2.2.2 (Nat.le_of_ble_eq_true rfl) rfl ?_
  intro Γ X hQ
  obtain ⟨r30, r31, r42, ⟨kp, rp0, rp1, kp1, kp2, hw, hh, hs, hgl, hpi⟩, ⟨km, rm0, km1, hbr, hmi, hse, hbf⟩⟩ := id hS
  have g0 := c_paneAt_rng (h := h) (pl := pl) (x := p / 4 - 1) (y := p % 4) hw.2 hh.2
  have g1 := c_paneAt_rng (h := h) (pl := pl) (x := p / 4 + 1) (y := p % 4) hw.2 hh.2
  have g2 := c_paneAt_rng (h := h) (pl := pl) (x := p / 4) (y := p % 4 - 1) hw.2 hh.2
  have g3 := c_paneAt_rng (h := h) (pl := pl) (x := p / 4) (y := p % 4 + 1) hw.2 hh.2
  obtain ⟨hc1, hc2⟩ := hc
  refine V_iload_n (pc := 0) X dX0_unlikeBeside_0 rfl ?_
  refine V_iconst (pc := 1) X dX0_unlikeBeside_1 ?_
  refine V_idivN (pc := 2) X dX0_unlikeBeside_2 (by omega) (by omega) (by omega) (by omega) ?_
  refine V_istore_n (pc := 3) X dX0_unlikeBeside_3 (by exact Nat.le_of_ble_eq_true rfl) rfl ?_
  refine V_iload_n (pc := 4) X dX0_unlikeBeside_4 rfl ?_
  refine V_iconst (pc := 5) X dX0_unlikeBeside_5 ?_
  refine V_iremN (pc := 6) X dX0_unlikeBeside_6 (by omega) (by omega) (by omega) (by omega) ?_
  refine V_istore (pc := 7) X dX0_unlikeBeside_7 (by exact Nat.le_of_ble_eq_true rfl) rfl ?_
  refine V_aload_n (pc := 9) X dX0_unlikeBeside_9 rfl (by first | decide | omega | assumption) ?_
  refine V_aload_n (pc := 10) X dX0_unlikeBeside_10 rfl (by first | decide | omega | assumption) ?_
  refine V_iload_n (pc := 11) X dX0_unlikeBeside_11 rfl ?_
  refine V_iconst (pc := 12) X dX0_unlikeBeside_12 ?_
  refine V_isub (pc := 13) X dX0_unlikeBeside_13 ?_
  refine V_iload (pc := 14) X dX0_unlikeBeside_14 rfl ?_
  refine V_FV (pc := 16) X dX0_unlikeBeside_16 oX5_paneAt l_RX0_32 eX5_paneAt vX5_paneAt ⟨Nat.le_of_ble_eq_true rfl, Nat.le_of_ble_eq_true rfl⟩ ⟨rfl, rfl⟩ ⟨Nat.le_of_ble_eq_true rfl, Nat.le_of_ble_eq_true rfl⟩ (ct_X5_paneAt hS ⟨by omega, by omega⟩ ⟨by omega, by omega⟩) rfl (by first | rfl | assumption | (simp only [*]; done) | omega) (by intro q h; cases h; rfl) rfl (by rfl) (by exact Nat.le_of_ble_eq_true rfl) ?_
  refine V_iload_n (pc := 19) X dX0_unlikeBeside_19 rfl ?_
  refine V_FS (pc := 20) X dX0_unlikeBeside_20 oX0_unlike l_RX0_36 sX0_unlike ⟨Nat.le_of_ble_eq_true rfl, Nat.le_of_ble_eq_true rfl⟩ ⟨rfl, rfl⟩ ⟨Nat.le_of_ble_eq_true rfl, Nat.le_of_ble_eq_true rfl⟩ (ct_X0_unlike hS (by omega) (by omega) ⟨by omega, by omega⟩) rfl (by rfl) (by exact Nat.le_of_ble_eq_true rfl) ?_
  refine V_aload_n (pc := 23) X dX0_unlikeBeside_23 rfl (by first | decide | omega | assumption) ?_
  refine V_aload_n (pc := 24) X dX0_unlikeBeside_24 rfl (by first | decide | omega | assumption) ?_
  refine V_iload_n (pc := 25) X dX0_unlikeBeside_25 rfl ?_
  refine V_iconst (pc := 26) X dX0_unlikeBeside_26 ?_
  refine V_iadd (pc := 27) X dX0_unlikeBeside_27 ?_
  refine V_iload (pc := 28) X dX0_unlikeBeside_28 rfl ?_
  refine V_FV (pc := 30) X dX0_unlikeBeside_30 oX5_paneAt l_RX0_32 eX5_paneAt vX5_paneAt ⟨Nat.le_of_ble_eq_true rfl, Nat.le_of_ble_eq_true rfl⟩ ⟨rfl, rfl⟩ ⟨Nat.le_of_ble_eq_true rfl, Nat.le_of_ble_eq_true rfl⟩ (ct_X5_paneAt hS ⟨by omega, by omega⟩ ⟨by omega, by omega⟩) rfl (by first | rfl | assumption | (simp only [*]; done) | omega) (by intro q h; cases h; rfl) rfl (by rfl) (by exact Nat.le_of_ble_eq_true rfl) ?_
  refine V_iload_n (pc := 33) X dX0_unlikeBeside_33 rfl ?_
  refine V_FS (pc := 34) X dX0_unlikeBeside_34 oX0_unlike l_RX0_36 sX0_unlike ⟨Nat.le_of_ble_eq_true rfl, Nat.le_of_ble_eq_true rfl⟩ ⟨rfl, rfl⟩ ⟨Nat.le_of_ble_eq_true rfl, Nat.le_of_ble_eq_true rfl⟩ (ct_X0_unlike hS (by omega) (by omega) ⟨by omega, by omega⟩) rfl (by rfl) (by exact Nat.le_of_ble_eq_true rfl) ?_
  refine V_iadd (pc := 37) X dX0_unlikeBeside_37 ?_
  refine V_aload_n (pc := 38) X dX0_unlikeBeside_38 rfl (by first | decide | omega | assumption) ?_
  refine V_aload_n (pc := 39) X dX0_unlikeBeside_39 rfl (by first | decide | omega | assumption) ?_
  refine V_iload_n (pc := 40) X dX0_unlikeBeside_40 rfl ?_
  refine V_iload (pc := 41) X dX0_unlikeBeside_41 rfl ?_
  refine V_iconst (pc := 43) X dX0_unlikeBeside_43 ?_
  refine V_isub (pc := 44) X dX0_unlikeBeside_44 ?_
  refine V_FV (pc := 45) X dX0_unlikeBeside_45 oX5_paneAt l_RX0_32 eX5_paneAt vX5_paneAt ⟨Nat.le_of_ble_eq_true rfl, Nat.le_of_ble_eq_true rfl⟩ ⟨rfl, rfl⟩ ⟨Nat.le_of_ble_eq_true rfl, Nat.le_of_ble_eq_true rfl⟩ (ct_X5_paneAt hS ⟨by omega, by omega⟩ ⟨by omega, by omega⟩) rfl (by first | rfl | assumption | (simp only [*]; done) | omega) (by intro q h; cases h; rfl) rfl (by rfl) (by exact Nat.le_of_ble_eq_true rfl) ?_
  refine V_iload_n (pc := 48) X dX0_unlikeBeside_48 rfl ?_
  refine V_FS (pc := 49) X dX0_unlikeBeside_49 oX0_unlike l_RX0_36 sX0_unlike ⟨Nat.le_of_ble_eq_true rfl, Nat.le_of_ble_eq_true rfl⟩ ⟨rfl, rfl⟩ ⟨Nat.le_of_ble_eq_true rfl, Nat.le_of_ble_eq_true rfl⟩ (ct_X0_unlike hS (by omega) (by omega) ⟨by omega, by omega⟩) rfl (by rfl) (by exact Nat.le_of_ble_eq_true rfl) ?_
  refine V_iadd (pc := 52) X dX0_unlikeBeside_52 ?_
  refine V_aload_n (pc := 53) X dX0_unlikeBeside_53 rfl (by first | decide | omega | assumption) ?_
  refine V_aload_n (pc := 54) X dX0_unlikeBeside_54 rfl (by first | decide | omega | assumption) ?_
  refine V_iload_n (pc := 55) X dX0_unlikeBeside_55 rfl ?_
  refine V_iload (pc := 56) X dX0_unlikeBeside_56 rfl ?_
  refine V_iconst (pc := 58) X dX0_unlikeBeside_58 ?_
  refine V_iadd (pc := 59) X dX0_unlikeBeside_59 ?_
  refine V_FV (pc := 60) X dX0_unlikeBeside_60 oX5_paneAt l_RX0_32 eX5_paneAt vX5_paneAt ⟨Nat.le_of_ble_eq_true rfl, Nat.le_of_ble_eq_true rfl⟩ ⟨rfl, rfl⟩ ⟨Nat.le_of_ble_eq_true rfl, Nat.le_of_ble_eq_true rfl⟩ (ct_X5_paneAt hS ⟨by omega, by omega⟩ ⟨by omega, by omega⟩) rfl (by first | rfl | assumption | (simp only [*]; done) | omega) (by intro q h; cases h; rfl) rfl (by rfl) (by exact Nat.le_of_ble_eq_true rfl) ?_
  refine V_iload_n (pc := 63) X dX0_unlikeBeside_63 rfl ?_
  refine V_FS (pc := 64) X dX0_unlikeBeside_64 oX0_unlike l_RX0_36 sX0_unlike ⟨Nat.le_of_ble_eq_true rfl, Nat.le_of_ble_eq_true rfl⟩ ⟨rfl, rfl⟩ ⟨Nat.le_of_ble_eq_true rfl, Nat.le_of_ble_eq_true rfl⟩ (ct_X0_unlike hS (by omega) (by omega) ⟨by omega, by omega⟩) rfl (by rfl) (by exact Nat.le_of_ble_eq_true rfl) ?_
  refine V_iadd (pc := 67) X dX0_unlikeBeside_67 ?_
  refine V_iret (st := []) (pc := 68) X hQ dX0_unlikeBeside_68 rfl rfl ?_
  exact z_pi (rfl)
set_option maxHeartbeats 4000000 in
set_option maxRecDepth 100000 in
theorem ct_X0_addedBy {h : z_H} {pl mo : Int} (hS : c_Sc h pl mo) {p c : Int} (h0 : 0 ≤ p) (h1 : p < 20) (hc : z_R c) : z_Ct mX0_addedBy 107 [(2, 3), (0, p), (0, c)] h (z_pure (0, c_add h pl mo p c) h) := by
  refine z_mk (L := [(2, 3), (0, p), (0, c)]) oX0_addedBy.2.2.2.2 (Nat.le_of_ble_eq_true rfl) rfl ?_
  intro Γ X hQ
  obtain ⟨r30, r31, r42, ⟨kp, rp0, rp1, kp1, kp2, hw, hh, hs, hgl, hpi⟩, ⟨km, rm0, km1, hbr, hmi, hse, hbf⟩⟩ := id hS
  have hcp := c_colour_rng (p := p) hS (by omega) (by omega)
  obtain ⟨hc1, hc2⟩ := hc
  refine V_aload_n (pc := 0) X dX0_addedBy_0 rfl (by first | decide | omega | assumption) ?_
  refine V_iload_n (pc := 1) X dX0_addedBy_1 rfl ?_
  refine V_iload_n (pc := 2) X dX0_addedBy_2 rfl ?_
  refine V_FS (pc := 3) X dX0_addedBy_3 oX0_unlikeBeside l_RX0_19 sX0_unlikeBeside ⟨Nat.le_of_ble_eq_true rfl, Nat.le_of_ble_eq_true rfl⟩ ⟨rfl, rfl⟩ ⟨Nat.le_of_ble_eq_true rfl, Nat.le_of_ble_eq_true rfl⟩ (ct_X0_unlikeBeside hS (by omega) (by omega) ⟨by omega, by omega⟩) rfl (by rfl) (by exact Nat.le_of_ble_eq_true rfl) ?_
  refine V_aload_n (pc := 6) X dX0_addedBy_6 rfl (by first | decide | omega | assumption) ?_
  refine V_iload_n (pc := 7) X dX0_addedBy_7 rfl ?_
  refine V_aload_n (pc := 8) X dX0_addedBy_8 rfl (by first | decide | omega | assumption) ?_
  refine V_iload_n (pc := 9) X dX0_addedBy_9 rfl ?_
  refine V_FV (pc := 10) X dX0_addedBy_10 oX5_colourNow l_RX0_15 eX5_colourNow vX5_colourNow ⟨Nat.le_of_ble_eq_true rfl, Nat.le_of_ble_eq_true rfl⟩ ⟨rfl, rfl⟩ ⟨Nat.le_of_ble_eq_true rfl, Nat.le_of_ble_eq_true rfl⟩ (ct_X5_colourNow hS (by omega) (by omega)) rfl (by first | rfl | assumption | (simp only [*]; done) | omega) (by intro q h; cases h; rfl) rfl (by rfl) (by exact Nat.le_of_ble_eq_true rfl) ?_
  refine V_FS (pc := 13) X dX0_addedBy_13 oX0_unlikeBeside l_RX0_19 sX0_unlikeBeside ⟨Nat.le_of_ble_eq_true rfl, Nat.le_of_ble_eq_true rfl⟩ ⟨rfl, rfl⟩ ⟨Nat.le_of_ble_eq_true rfl, Nat.le_of_ble_eq_true rfl⟩ (ct_X0_unlikeBeside hS (by omega) (by omega) ⟨by omega, by omega⟩) rfl (by rfl) (by exact Nat.le_of_ble_eq_true rfl) ?_
  refine V_isub (pc := 16) X dX0_addedBy_16 ?_
  refine V_iret (st := []) (pc := 17) X hQ dX0_addedBy_17 rfl rfl ?_
  exact z_pi (rfl)
set_option maxHeartbeats 4000000 in
set_option maxRecDepth 100000 in
theorem ct_X0_leads {h : z_H} {pl mo : Int} (hS : c_Sc h pl mo) : z_Ct mX0_leads 107 [(2, 3)] h (z_pure (0, c_leads h pl mo) h) := by
  refine z_mk (L := [(2, 3), (9, 0), (9, 0)]) oX0_leads.2.2.2.2 (Nat.le_of_ble_eq_true rfl) rfl ?_
  intro Γ X hQ
  obtain ⟨r30, r31, r42, ⟨kp, rp0, rp1, kp1, kp2, hw, hh, hs, hgl, hpi⟩, ⟨km, rm0, km1, hbr, hmi, hse, hbf⟩⟩ := id hS
  refine V_iconst (pc := 0) X dX0_leads_0 ?_
  refine V_istore_n (pc := 1) X dX0_leads_1 (by exact Nat.le_of_ble_eq_true rfl) rfl ?_
  refine V_iconst (pc := 2) X dX0_leads_2 ?_
  refine V_istore_n (pc := 3) X dX0_leads_3 (by exact Nat.le_of_ble_eq_true rfl) rfl ?_
  have lp_4 : ∀ (m : Nat) (i : Nat), 20 - i < m → i ≤ 20 → z_V Γ (107, 0, 0) 4 [(2, 3), (0, z_sum (c_ldf h pl mo) i), (0, (i : Int))] [] h := by
    intro m
    induction m with
    | zero => intro i hm; exact absurd hm (Nat.not_lt_zero _)
    | succ m ih_4 =>
      intro i hm hi1
      refine V_iload_n (pc := 4) X dX0_leads_4 rfl ?_
      refine V_bipush (pc := 5) X dX0_leads_5 (by decide) ?_
      refine V_icmp_ge (pc := 7) X 37 dX0_leads_7 (by decide) ⟨by omega, by omega⟩ ⟨by omega, by omega⟩ (fun c_7 => ?_) (fun c_7 => ?_)
      · skip
        refine V_iload_n (pc := 37) X dX0_leads_37 rfl ?_
        refine V_iconst (pc := 38) X dX0_leads_38 ?_
        have hsr := c_ldf_rng h pl mo i
        refine V_idivN (pc := 39) X dX0_leads_39 (by omega) (by omega) (by omega) (by omega) ?_
        refine V_iret (st := []) (pc := 40) X hQ dX0_leads_40 rfl rfl ?_
        exact z_pi (by (obtain rfl : i = 20 := by omega); rfl)
      · skip
        refine V_aload_n (pc := 10) X dX0_leads_10 rfl (by first | decide | omega | assumption) ?_
        refine V_iload_n (pc := 11) X dX0_leads_11 rfl ?_
        refine V_FV (pc := 12) X dX0_leads_12 oX5_hasPane l_RX0_9 eX5_hasPane vX5_hasPane ⟨Nat.le_of_ble_eq_true rfl, Nat.le_of_ble_eq_true rfl⟩ ⟨rfl, rfl⟩ ⟨Nat.le_of_ble_eq_true rfl, Nat.le_of_ble_eq_true rfl⟩ (ct_X5_hasPane hS (by omega) (by omega)) rfl (by first | rfl | assumption | (simp only [*]; done) | omega) (by intro q h; cases h; rfl) rfl (by rfl) (by exact Nat.le_of_ble_eq_true rfl) ?_
        refine V_bif_eq (pc := 15) X 31 dX0_leads_15 (by decide)  (fun c_15 => ?_) (fun c_15 => ?_)
        · skip
          refine V_iinc (pc := 31) X dX0_leads_31 rfl rfl ?_
          refine V_goto (pc := 34) X 4 dX0_leads_34 (by decide) ?_
          refine V_loc ?_ (ih_4 (i + 1) (by omega) (by omega))
          show [_, _, _] = [_, _, _]
          simp [z_sum, c_ldf, *]
        · skip
          refine V_iload_n (pc := 18) X dX0_leads_18 rfl ?_
          refine V_aload_n (pc := 19) X dX0_leads_19 rfl (by first | decide | omega | assumption) ?_
          refine V_iload_n (pc := 20) X dX0_leads_20 rfl ?_
          refine V_aload_n (pc := 21) X dX0_leads_21 rfl (by first | decide | omega | assumption) ?_
          have hcp := c_colour_rng (p := (i : Int)) hS (by omega) (by omega)
          refine V_iload_n (pc := 22) X dX0_leads_22 rfl ?_
          refine V_FV (pc := 23) X dX0_leads_23 oX5_colourNow l_RX0_15 eX5_colourNow vX5_colourNow ⟨Nat.le_of_ble_eq_true rfl, Nat.le_of_ble_eq_true rfl⟩ ⟨rfl, rfl⟩ ⟨Nat.le_of_ble_eq_true rfl, Nat.le_of_ble_eq_true rfl⟩ (ct_X5_colourNow hS (by omega) (by omega)) rfl (by first | rfl | assumption | (simp only [*]; done) | omega) (by intro q h; cases h; rfl) rfl (by rfl) (by exact Nat.le_of_ble_eq_true rfl) ?_
          refine V_FS (pc := 26) X dX0_leads_26 oX0_unlikeBeside l_RX0_19 sX0_unlikeBeside ⟨Nat.le_of_ble_eq_true rfl, Nat.le_of_ble_eq_true rfl⟩ ⟨rfl, rfl⟩ ⟨Nat.le_of_ble_eq_true rfl, Nat.le_of_ble_eq_true rfl⟩ (ct_X0_unlikeBeside hS (by omega) (by omega) ⟨by omega, by omega⟩) rfl (by rfl) (by exact Nat.le_of_ble_eq_true rfl) ?_
          refine V_iadd (pc := 29) X dX0_leads_29 ?_
          refine V_istore_n (pc := 30) X dX0_leads_30 (by exact Nat.le_of_ble_eq_true rfl) rfl ?_
          refine V_iinc (pc := 31) X dX0_leads_31 rfl rfl ?_
          refine V_goto (pc := 34) X 4 dX0_leads_34 (by decide) ?_
          refine V_loc ?_ (ih_4 (i + 1) (by omega) (by omega))
          show [_, _, _] = [_, _, _]
          simp [z_sum, c_ldf, *]
  exact lp_4 _ 0 (Nat.lt_succ_self _) (by decide)
set_option maxHeartbeats 4000000 in
set_option maxRecDepth 100000 in
theorem ct_X0_leadsPainted {h : z_H} {pl mo : Int} (hS : c_Sc h pl mo) {p c : Int} (h0 : 0 ≤ p) (h1 : p < 20) (hc : z_R c) : z_Ct mX0_leadsPainted 107 [(2, 3), (0, p), (0, c)] h (z_pure (0, c_leads h pl mo + c_add h pl mo p c) h) := by
  refine z_mk (L := [(2, 3), (0, p), (0, c)]) oX0_leadsPainted.2.2.2.2 (Nat.le_of_ble_eq_true rfl) rfl ?_
  intro Γ X hQ
  obtain ⟨r30, r31, r42, ⟨kp, rp0, rp1, kp1, kp2, hw, hh, hs, hgl, hpi⟩, ⟨km, rm0, km1, hbr, hmi, hse, hbf⟩⟩ := id hS
  obtain ⟨hc1, hc2⟩ := hc
  refine V_aload_n (pc := 0) X dX0_leadsPainted_0 rfl (by first | decide | omega | assumption) ?_
  refine V_FS (pc := 1) X dX0_leadsPainted_1 oX0_leads l_RX0_25 sX0_leads ⟨Nat.le_of_ble_eq_true rfl, Nat.le_of_ble_eq_true rfl⟩ ⟨rfl, rfl⟩ ⟨Nat.le_of_ble_eq_true rfl, Nat.le_of_ble_eq_true rfl⟩ (ct_X0_leads hS) rfl (by rfl) (by exact Nat.le_of_ble_eq_true rfl) ?_
  refine V_aload_n (pc := 4) X dX0_leadsPainted_4 rfl (by first | decide | omega | assumption) ?_
  refine V_iload_n (pc := 5) X dX0_leadsPainted_5 rfl ?_
  refine V_iload_n (pc := 6) X dX0_leadsPainted_6 rfl ?_
  refine V_FS (pc := 7) X dX0_leadsPainted_7 oX0_addedBy l_RX0_29 sX0_addedBy ⟨Nat.le_of_ble_eq_true rfl, Nat.le_of_ble_eq_true rfl⟩ ⟨rfl, rfl⟩ ⟨Nat.le_of_ble_eq_true rfl, Nat.le_of_ble_eq_true rfl⟩ (ct_X0_addedBy hS (by omega) (by omega) ⟨by omega, by omega⟩) rfl (by rfl) (by exact Nat.le_of_ble_eq_true rfl) ?_
  refine V_iadd (pc := 10) X dX0_leadsPainted_10 ?_
  refine V_iret (st := []) (pc := 11) X hQ dX0_leadsPainted_11 rfl rfl ?_
  exact z_pi (rfl)
set_option maxHeartbeats 4000000 in
set_option maxRecDepth 100000 in
theorem ct_X0_bestPaint {h : z_H} {pl mo : Int} (hS : c_Sc h pl mo) : z_Ct mX0_bestPaint 107 [(2, 3)] h (z_pure (0, (c_paint h pl mo 160).1) h) := by
  refine z_mk (L := [(2, 3), (9, 0), (9, 0), (9, 0), (9, 0), (9, 0), (9, 0)]) oX0_bestPaint.2.2.2.2 (Nat.le_of_ble_eq_true rfl) rfl ?_
  intro Γ X hQ
  obtain ⟨r30, r31, r42, ⟨kp, rp0, rp1, kp1, kp2, hw, hh, hs, hgl, hpi⟩, ⟨km, rm0, km1, hbr, hmi, hse, hbf⟩⟩ := id hS
  refine V_bipush (pc := 0) X dX0_bestPaint_0 (by decide) ?_
  refine V_istore_n (pc := 2) X dX0_bestPaint_2 (by exact Nat.le_of_ble_eq_true rfl) rfl ?_
  refine V_bipush (pc := 3) X dX0_bestPaint_3 (by decide) ?_
  refine V_istore_n (pc := 5) X dX0_bestPaint_5 (by exact Nat.le_of_ble_eq_true rfl) rfl ?_
  refine V_iconst (pc := 6) X dX0_bestPaint_6 ?_
  refine V_istore_n (pc := 7) X dX0_bestPaint_7 (by exact Nat.le_of_ble_eq_true rfl) rfl ?_
  have lp_8 : ∀ (m : Nat) (i : Nat), 160 - i < m → i ≤ 160 → z_V Γ (107, 0, 0) 8 [(2, 3), (0, (c_paint h pl mo i).1), (0, (c_paint h pl mo i).2), (0, (i : Int)), (9, 0), (9, 0), (9, 0)] [] h := by
    intro m
    induction m with
    | zero => intro i hm; exact absurd hm (Nat.not_lt_zero _)
    | succ m ih_8 =>
      intro i hm hi1
      have hpr := c_paint_rng h pl mo i hi1
      have hun := c_unb_rng h pl mo ((i : Int) / 8) ((i : Int) % 8)
      have hun2 := c_unb_rng h pl mo ((i : Int) / 8) (c_colour h pl mo ((i : Int) / 8))
      refine V_iload_n (pc := 8) X dX0_bestPaint_8 rfl ?_
      refine V_sipush (pc := 9) X dX0_bestPaint_9 (by decide) ?_
      refine V_icmp_ge (pc := 12) X 77 dX0_bestPaint_12 (by decide) ⟨by omega, by omega⟩ ⟨by omega, by omega⟩ (fun c_12 => ?_) (fun c_12 => ?_)
      · skip
        refine V_iload_n (pc := 77) X dX0_bestPaint_77 rfl ?_
        refine V_iret (st := []) (pc := 78) X hQ dX0_bestPaint_78 rfl rfl ?_
        exact z_pi (by (obtain rfl : i = 160 := by omega); rfl)
      · skip
        refine V_iload_n (pc := 15) X dX0_bestPaint_15 rfl ?_
        refine V_bipush (pc := 16) X dX0_bestPaint_16 (by decide) ?_
        refine V_idivN (pc := 18) X dX0_bestPaint_18 (by omega) (by omega) (by omega) (by omega) ?_
        refine V_istore (pc := 19) X dX0_bestPaint_19 (by exact Nat.le_of_ble_eq_true rfl) rfl ?_
        refine V_iload_n (pc := 21) X dX0_bestPaint_21 rfl ?_
        refine V_bipush (pc := 22) X dX0_bestPaint_22 (by decide) ?_
        refine V_iremN (pc := 24) X dX0_bestPaint_24 (by omega) (by omega) (by omega) (by omega) ?_
        refine V_istore (pc := 25) X dX0_bestPaint_25 (by exact Nat.le_of_ble_eq_true rfl) rfl ?_
        refine V_aload_n (pc := 27) X dX0_bestPaint_27 rfl (by first | decide | omega | assumption) ?_
        refine V_iload (pc := 28) X dX0_bestPaint_28 rfl ?_
        refine V_FV (pc := 30) X dX0_bestPaint_30 oX5_hasPane l_RX0_9 eX5_hasPane vX5_hasPane ⟨Nat.le_of_ble_eq_true rfl, Nat.le_of_ble_eq_true rfl⟩ ⟨rfl, rfl⟩ ⟨Nat.le_of_ble_eq_true rfl, Nat.le_of_ble_eq_true rfl⟩ (ct_X5_hasPane hS (by omega) (by omega)) rfl (by first | rfl | assumption | (simp only [*]; done) | omega) (by intro q h; cases h; rfl) rfl (by rfl) (by exact Nat.le_of_ble_eq_true rfl) ?_
        refine V_bif_eq (pc := 33) X 71 dX0_bestPaint_33 (by decide)  (fun c_33 => ?_) (fun c_33 => ?_)
        · skip
          refine V_iinc (pc := 71) X dX0_bestPaint_71 rfl rfl ?_
          refine V_goto (pc := 74) X 8 dX0_bestPaint_74 (by decide) ?_
          refine V_fgt 6 (V_fgt 5 (V_fgt 4 (V_loc ?_ (ih_8 (i + 1) (by omega) (by omega)))))
          show [_, _, _, _, _, _, _] = [_, _, _, _, _, _, _]
          first
            | (rw [show c_paint h pl mo (i + 1) = c_paint h pl mo i from z_amin_no (Or.inr c_63)]; rfl)
            | (have q := Int.not_le.mp c_63
               rw [show c_paint h pl mo (i + 1) = _ from z_amin_yes (by simp [c_pok, *]) q]; rfl)
            | (rw [show c_paint h pl mo (i + 1) = c_paint h pl mo i from z_amin_no (Or.inl (by simp [c_pok, *]))]; rfl)
        · skip
          have hcp := c_colour_rng (p := (i : Int) / 8) hS (by omega) (by omega)
          refine V_aload_n (pc := 36) X dX0_bestPaint_36 rfl (by first | decide | omega | assumption) ?_
          refine V_iload (pc := 37) X dX0_bestPaint_37 rfl ?_
          refine V_FV (pc := 39) X dX0_bestPaint_39 oX5_colourNow l_RX0_15 eX5_colourNow vX5_colourNow ⟨Nat.le_of_ble_eq_true rfl, Nat.le_of_ble_eq_true rfl⟩ ⟨rfl, rfl⟩ ⟨Nat.le_of_ble_eq_true rfl, Nat.le_of_ble_eq_true rfl⟩ (ct_X5_colourNow hS (by omega) (by omega)) rfl (by first | rfl | assumption | (simp only [*]; done) | omega) (by intro q h; cases h; rfl) rfl (by rfl) (by exact Nat.le_of_ble_eq_true rfl) ?_
          refine V_iload (pc := 42) X dX0_bestPaint_42 rfl ?_
          refine V_icmp_ne (pc := 44) X 50 dX0_bestPaint_44 (by decide) ⟨by omega, by omega⟩ ⟨by omega, by omega⟩ (fun c_44 => ?_) (fun c_44 => ?_)
          · skip
            refine V_aload_n (pc := 50) X dX0_bestPaint_50 rfl (by first | decide | omega | assumption) ?_
            refine V_iload (pc := 51) X dX0_bestPaint_51 rfl ?_
            refine V_iload (pc := 53) X dX0_bestPaint_53 rfl ?_
            refine V_FS (pc := 55) X dX0_bestPaint_55 oX0_addedBy l_RX0_29 sX0_addedBy ⟨Nat.le_of_ble_eq_true rfl, Nat.le_of_ble_eq_true rfl⟩ ⟨rfl, rfl⟩ ⟨Nat.le_of_ble_eq_true rfl, Nat.le_of_ble_eq_true rfl⟩ (ct_X0_addedBy hS (by omega) (by omega) ⟨by omega, by omega⟩) rfl (by rfl) (by exact Nat.le_of_ble_eq_true rfl) ?_
            have had : c_add h pl mo ((i : Int) / 8) ((i : Int) % 8) = _ - _ := rfl
            refine V_istore (pc := 58) X dX0_bestPaint_58 (by exact Nat.le_of_ble_eq_true rfl) rfl ?_
            refine V_iload (pc := 60) X dX0_bestPaint_60 rfl ?_
            refine V_iload_n (pc := 62) X dX0_bestPaint_62 rfl ?_
            refine V_icmp_ge (pc := 63) X 71 dX0_bestPaint_63 (by decide) ⟨by omega, by omega⟩ ⟨by omega, by omega⟩ (fun c_63 => ?_) (fun c_63 => ?_)
            · skip
              refine V_iinc (pc := 71) X dX0_bestPaint_71 rfl rfl ?_
              refine V_goto (pc := 74) X 8 dX0_bestPaint_74 (by decide) ?_
              refine V_fgt 6 (V_fgt 5 (V_fgt 4 (V_loc ?_ (ih_8 (i + 1) (by omega) (by omega)))))
              show [_, _, _, _, _, _, _] = [_, _, _, _, _, _, _]
              first
                | (rw [show c_paint h pl mo (i + 1) = c_paint h pl mo i from z_amin_no (Or.inr c_63)]; rfl)
                | (have q := Int.not_le.mp c_63
                   rw [show c_paint h pl mo (i + 1) = _ from z_amin_yes (by simp [c_pok, *]) q]; rfl)
                | (rw [show c_paint h pl mo (i + 1) = c_paint h pl mo i from z_amin_no (Or.inl (by simp [c_pok, *]))]; rfl)
            · skip
              refine V_iload (pc := 66) X dX0_bestPaint_66 rfl ?_
              refine V_istore_n (pc := 68) X dX0_bestPaint_68 (by exact Nat.le_of_ble_eq_true rfl) rfl ?_
              refine V_iload_n (pc := 69) X dX0_bestPaint_69 rfl ?_
              refine V_istore_n (pc := 70) X dX0_bestPaint_70 (by exact Nat.le_of_ble_eq_true rfl) rfl ?_
              refine V_iinc (pc := 71) X dX0_bestPaint_71 rfl rfl ?_
              refine V_goto (pc := 74) X 8 dX0_bestPaint_74 (by decide) ?_
              refine V_fgt 6 (V_fgt 5 (V_fgt 4 (V_loc ?_ (ih_8 (i + 1) (by omega) (by omega)))))
              show [_, _, _, _, _, _, _] = [_, _, _, _, _, _, _]
              first
                | (rw [show c_paint h pl mo (i + 1) = c_paint h pl mo i from z_amin_no (Or.inr c_63)]; rfl)
                | (have q := Int.not_le.mp c_63
                   rw [show c_paint h pl mo (i + 1) = _ from z_amin_yes (by simp [c_pok, *]) q]; rfl)
                | (rw [show c_paint h pl mo (i + 1) = c_paint h pl mo i from z_amin_no (Or.inl (by simp [c_pok, *]))]; rfl)
          · skip
            refine V_goto (pc := 47) X 71 dX0_bestPaint_47 (by decide) ?_
            refine V_iinc (pc := 71) X dX0_bestPaint_71 rfl rfl ?_
            refine V_goto (pc := 74) X 8 dX0_bestPaint_74 (by decide) ?_
            refine V_fgt 6 (V_fgt 5 (V_fgt 4 (V_loc ?_ (ih_8 (i + 1) (by omega) (by omega)))))
            show [_, _, _, _, _, _, _] = [_, _, _, _, _, _, _]
            first
              | (rw [show c_paint h pl mo (i + 1) = c_paint h pl mo i from z_amin_no (Or.inr c_63)]; rfl)
              | (have q := Int.not_le.mp c_63
                 rw [show c_paint h pl mo (i + 1) = _ from z_amin_yes (by simp [c_pok, *]) q]; rfl)
              | (rw [show c_paint h pl mo (i + 1) = c_paint h pl mo i from z_amin_no (Or.inl (by simp [c_pok, *]))]; rfl)
  exact lp_8 _ 0 (Nat.lt_succ_self _) (by decide)
set_option maxHeartbeats 4000000 in
set_option maxRecDepth 100000 in
theorem ct_X0_beside {n : Nat} {h : z_H} {x : Int} : z_Ct mX0_beside n [(0, x)] h (z_pure (0, c_beside x) h) := by
  refine z_mk (L := [(0, x), (9, 0), (9, 0)]) oX0_beside.2.2.2.2 (Nat.le_of_ble_eq_true rfl) rfl ?_
  intro Γ X hQ
  refine V_iload_n (pc := 0) X dX0_beside_0 rfl ?_
  refine V_iconst (pc := 1) X dX0_beside_1 ?_
  refine V_ishl (pc := 2) X dX0_beside_2 ?_
  refine V_iload_n (pc := 3) X dX0_beside_3 rfl ?_
  refine V_iconst (pc := 4) X dX0_beside_4 ?_
  refine V_ishr (pc := 5) X dX0_beside_5 ?_
  refine V_ior (pc := 6) X dX0_beside_6 ?_
  refine V_istore_n (pc := 7) X dX0_beside_7 (by exact Nat.le_of_ble_eq_true rfl) rfl ?_
  refine V_iload_n (pc := 8) X dX0_beside_8 rfl ?_
  refine V_ldc (pc := 9) X (-559241) dX0_beside_9 c_RX0_59 (by decide) ?_
  refine V_iand (pc := 11) X dX0_beside_11 ?_
  refine V_iconst (pc := 12) X dX0_beside_12 ?_
  refine V_ishl (pc := 13) X dX0_beside_13 ?_
  refine V_iload_n (pc := 14) X dX0_beside_14 rfl ?_
  refine V_ldc (pc := 15) X (-69906) dX0_beside_15 c_RX0_60 (by decide) ?_
  refine V_iand (pc := 17) X dX0_beside_17 ?_
  refine V_iconst (pc := 18) X dX0_beside_18 ?_
  refine V_ishr (pc := 19) X dX0_beside_19 ?_
  refine V_ior (pc := 20) X dX0_beside_20 ?_
  refine V_istore_n (pc := 21) X dX0_beside_21 (by exact Nat.le_of_ble_eq_true rfl) rfl ?_
  refine V_iload_n (pc := 22) X dX0_beside_22 rfl ?_
  refine V_iload_n (pc := 23) X dX0_beside_23 rfl ?_
  refine V_ior (pc := 24) X dX0_beside_24 ?_
  refine V_iret (st := []) (pc := 25) X hQ dX0_beside_25 rfl rfl ?_
  exact z_pi (rfl)
set_option maxHeartbeats 4000000 in
set_option maxRecDepth 100000 in
theorem ct_X0_panesOf {h : z_H} {pl mo : Int} (hS : c_Sc h pl mo) {c : Int} (hc : z_R c) : z_Ct mX0_panesOf 107 [(2, 3), (0, c)] h (z_pure (0, ((c_alike h pl mo c : Nat) : Int)) h) := by
  refine z_mk (L := [(2, 3), (0, c), (9, 0), (9, 0)]) oX0_panesOf.2.2.2.2 (Nat.le_of_ble_eq_true rfl) rfl ?_
  intro Γ X hQ
  obtain ⟨r30, r31, r42, ⟨kp, rp0, rp1, kp1, kp2, hw, hh, hs, hgl, hpi⟩, ⟨km, rm0, km1, hbr, hmi, hse, hbf⟩⟩ := id hS
  obtain ⟨hc1, hc2⟩ := hc
  refine V_iconst (pc := 0) X dX0_panesOf_0 ?_
  refine V_istore_n (pc := 1) X dX0_panesOf_1 (by exact Nat.le_of_ble_eq_true rfl) rfl ?_
  refine V_iconst (pc := 2) X dX0_panesOf_2 ?_
  refine V_istore_n (pc := 3) X dX0_panesOf_3 (by exact Nat.le_of_ble_eq_true rfl) rfl ?_
  have lp_4 : ∀ (m : Nat) (i : Nat), 20 - i < m → i ≤ 20 → z_V Γ (107, 0, 0) 4 [(2, 3), (0, c), (0, ((z_set (fun p => c_has h pl (p : Int) && decide (c_colour h pl mo (p : Int) = c)) i : Nat) : Int)), (0, (i : Int))] [] h := by
    intro m
    induction m with
    | zero => intro i hm; exact absurd hm (Nat.not_lt_zero _)
    | succ m ih_4 =>
      intro i hm hi1
      refine V_iload_n (pc := 4) X dX0_panesOf_4 rfl ?_
      refine V_bipush (pc := 5) X dX0_panesOf_5 (by decide) ?_
      refine V_icmp_ge (pc := 7) X 39 dX0_panesOf_7 (by decide) ⟨by omega, by omega⟩ ⟨by omega, by omega⟩ (fun c_7 => ?_) (fun c_7 => ?_)
      · skip
        refine V_iload_n (pc := 39) X dX0_panesOf_39 rfl ?_
        refine V_iret (st := []) (pc := 40) X hQ dX0_panesOf_40 rfl rfl ?_
        exact z_pi (by (obtain rfl : i = 20 := by omega); rfl)
      · skip
        refine V_aload_n (pc := 10) X dX0_panesOf_10 rfl (by first | decide | omega | assumption) ?_
        refine V_iload_n (pc := 11) X dX0_panesOf_11 rfl ?_
        refine V_FV (pc := 12) X dX0_panesOf_12 oX5_hasPane l_RX0_9 eX5_hasPane vX5_hasPane ⟨Nat.le_of_ble_eq_true rfl, Nat.le_of_ble_eq_true rfl⟩ ⟨rfl, rfl⟩ ⟨Nat.le_of_ble_eq_true rfl, Nat.le_of_ble_eq_true rfl⟩ (ct_X5_hasPane hS (by omega) (by omega)) rfl (by first | rfl | assumption | (simp only [*]; done) | omega) (by intro q h; cases h; rfl) rfl (by rfl) (by exact Nat.le_of_ble_eq_true rfl) ?_
        refine V_bif_eq (pc := 15) X 33 dX0_panesOf_15 (by decide)  (fun c_15 => ?_) (fun c_15 => ?_)
        · skip
          refine V_iinc (pc := 33) X dX0_panesOf_33 rfl rfl ?_
          refine V_goto (pc := 36) X 4 dX0_panesOf_36 (by decide) ?_
          first
            | (refine V_loc ?_ (ih_4 (i + 1) (by omega) (by omega)); show [_, _, _, _] = [_, _, _, _]; rw [z_set_no (by simp [*])]; simp; done)
            | (refine V_loc ?_ (ih_4 (i + 1) (by omega) (by omega)); show [_, _, _, _] = [_, _, _, _]; rw [← z_set_or (by omega) (by simp [*])]; simp; done)
        · skip
          refine V_aload_n (pc := 18) X dX0_panesOf_18 rfl (by first | decide | omega | assumption) ?_
          refine V_iload_n (pc := 19) X dX0_panesOf_19 rfl ?_
          refine V_FV (pc := 20) X dX0_panesOf_20 oX5_colourNow l_RX0_15 eX5_colourNow vX5_colourNow ⟨Nat.le_of_ble_eq_true rfl, Nat.le_of_ble_eq_true rfl⟩ ⟨rfl, rfl⟩ ⟨Nat.le_of_ble_eq_true rfl, Nat.le_of_ble_eq_true rfl⟩ (ct_X5_colourNow hS (by omega) (by omega)) rfl (by first | rfl | assumption | (simp only [*]; done) | omega) (by intro q h; cases h; rfl) rfl (by rfl) (by exact Nat.le_of_ble_eq_true rfl) ?_
          have hcp := c_colour_rng (p := (i : Int)) hS (by omega) (by omega)
          refine V_iload_n (pc := 23) X dX0_panesOf_23 rfl ?_
          refine V_icmp_ne (pc := 24) X 33 dX0_panesOf_24 (by decide) ⟨by omega, by omega⟩ ⟨by omega, by omega⟩ (fun c_24 => ?_) (fun c_24 => ?_)
          · skip
            refine V_iinc (pc := 33) X dX0_panesOf_33 rfl rfl ?_
            refine V_goto (pc := 36) X 4 dX0_panesOf_36 (by decide) ?_
            first
              | (refine V_loc ?_ (ih_4 (i + 1) (by omega) (by omega)); show [_, _, _, _] = [_, _, _, _]; rw [z_set_no (by simp [*])]; simp; done)
              | (refine V_loc ?_ (ih_4 (i + 1) (by omega) (by omega)); show [_, _, _, _] = [_, _, _, _]; rw [← z_set_or (by omega) (by simp [*])]; simp; done)
          · skip
            refine V_iload_n (pc := 27) X dX0_panesOf_27 rfl ?_
            refine V_iconst (pc := 28) X dX0_panesOf_28 ?_
            refine V_iload_n (pc := 29) X dX0_panesOf_29 rfl ?_
            refine V_ishl (pc := 30) X dX0_panesOf_30 ?_
            refine V_ior (pc := 31) X dX0_panesOf_31 ?_
            refine V_istore_n (pc := 32) X dX0_panesOf_32 (by exact Nat.le_of_ble_eq_true rfl) rfl ?_
            refine V_iinc (pc := 33) X dX0_panesOf_33 rfl rfl ?_
            refine V_goto (pc := 36) X 4 dX0_panesOf_36 (by decide) ?_
            first
              | (refine V_loc ?_ (ih_4 (i + 1) (by omega) (by omega)); show [_, _, _, _] = [_, _, _, _]; rw [z_set_no (by simp [*])]; simp; done)
              | (refine V_loc ?_ (ih_4 (i + 1) (by omega) (by omega)); show [_, _, _, _] = [_, _, _, _]; rw [← z_set_or (by omega) (by simp [*])]; simp; done)
  exact lp_4 _ 0 (Nat.lt_succ_self _) (by decide)
set_option maxHeartbeats 4000000 in
set_option maxRecDepth 100000 in
theorem ct_X0_partOf {h : z_H} {pl mo : Int} (hS : c_Sc h pl mo) {p : Int} (h0 : 0 ≤ p) (h1 : p < 20) : z_Ct mX0_partOf 107 [(2, 3), (0, p)] h (z_pure (0, c_part h pl mo p) h) := by
  refine z_mk (L := [(2, 3), (0, p), (9, 0), (9, 0), (9, 0)]) oX0_partOf.2.2.2.2 (Nat.le_of_ble_eq_true rfl) rfl ?_
  intro Γ X hQ
  obtain ⟨r30, r31, r42, ⟨kp, rp0, rp1, kp1, kp2, hw, hh, hs, hgl, hpi⟩, ⟨km, rm0, km1, hbr, hmi, hse, hbf⟩⟩ := id hS
  have hcp := c_colour_rng (p := p) hS (by omega) (by omega)
  refine V_aload_n (pc := 0) X dX0_partOf_0 rfl (by first | decide | omega | assumption) ?_
  refine V_aload_n (pc := 1) X dX0_partOf_1 rfl (by first | decide | omega | assumption) ?_
  refine V_iload_n (pc := 2) X dX0_partOf_2 rfl ?_
  refine V_FV (pc := 3) X dX0_partOf_3 oX5_colourNow l_RX0_15 eX5_colourNow vX5_colourNow ⟨Nat.le_of_ble_eq_true rfl, Nat.le_of_ble_eq_true rfl⟩ ⟨rfl, rfl⟩ ⟨Nat.le_of_ble_eq_true rfl, Nat.le_of_ble_eq_true rfl⟩ (ct_X5_colourNow hS (by omega) (by omega)) rfl (by first | rfl | assumption | (simp only [*]; done) | omega) (by intro q h; cases h; rfl) rfl (by rfl) (by exact Nat.le_of_ble_eq_true rfl) ?_
  refine V_FS (pc := 6) X dX0_partOf_6 oX0_panesOf l_RX0_53 sX0_panesOf ⟨Nat.le_of_ble_eq_true rfl, Nat.le_of_ble_eq_true rfl⟩ ⟨rfl, rfl⟩ ⟨Nat.le_of_ble_eq_true rfl, Nat.le_of_ble_eq_true rfl⟩ (ct_X0_panesOf hS ⟨by omega, by omega⟩) rfl (by rfl) (by exact Nat.le_of_ble_eq_true rfl) ?_
  refine V_istore_n (pc := 9) X dX0_partOf_9 (by exact Nat.le_of_ble_eq_true rfl) rfl ?_
  refine V_iconst (pc := 10) X dX0_partOf_10 ?_
  refine V_iload_n (pc := 11) X dX0_partOf_11 rfl ?_
  refine V_ishl (pc := 12) X dX0_partOf_12 ?_
  refine V_istore_n (pc := 13) X dX0_partOf_13 (by exact Nat.le_of_ble_eq_true rfl) rfl ?_
  refine V_iconst (pc := 14) X dX0_partOf_14 ?_
  refine V_istore (pc := 15) X dX0_partOf_15 (by exact Nat.le_of_ble_eq_true rfl) rfl ?_
  have lp_17 : ∀ (m : Nat) (i : Nat), 19 - i < m → i ≤ 19 → z_V Γ (107, 0, 0) 17 [(2, 3), (0, p), (0, ((c_alike h pl mo (c_colour h pl mo p) : Nat) : Int)), (0, c_partN h pl mo p i), (0, (i : Int) + 1)] [] h := by
    intro m
    induction m with
    | zero => intro i hm; exact absurd hm (Nat.not_lt_zero _)
    | succ m ih_17 =>
      intro i hm hi1
      refine V_iload (pc := 17) X dX0_partOf_17 rfl ?_
      refine V_bipush (pc := 19) X dX0_partOf_19 (by decide) ?_
      refine V_icmp_ge (pc := 21) X 39 dX0_partOf_21 (by decide) ⟨by omega, by omega⟩ ⟨by omega, by omega⟩ (fun c_21 => ?_) (fun c_21 => ?_)
      · skip
        refine V_iload_n (pc := 39) X dX0_partOf_39 rfl ?_
        refine V_iret (st := []) (pc := 40) X hQ dX0_partOf_40 rfl rfl ?_
        exact z_pi (by (obtain rfl : i = 19 := by omega); rfl)
      · skip
        refine V_iload_n (pc := 24) X dX0_partOf_24 rfl ?_
        refine V_iload_n (pc := 25) X dX0_partOf_25 rfl ?_
        refine V_FS (pc := 26) X dX0_partOf_26 oX0_beside l_RX0_56 sX0_beside ⟨Nat.le_of_ble_eq_true rfl, Nat.le_of_ble_eq_true rfl⟩ ⟨rfl, rfl⟩ ⟨Nat.le_of_ble_eq_true rfl, Nat.le_of_ble_eq_true rfl⟩ (ct_X0_beside) rfl (by rfl) (by exact Nat.le_of_ble_eq_true rfl) ?_
        refine V_ior (pc := 29) X dX0_partOf_29 ?_
        refine V_iload_n (pc := 30) X dX0_partOf_30 rfl ?_
        refine V_iand (pc := 31) X dX0_partOf_31 ?_
        refine V_istore_n (pc := 32) X dX0_partOf_32 (by exact Nat.le_of_ble_eq_true rfl) rfl ?_
        refine V_iinc (pc := 33) X dX0_partOf_33 rfl rfl ?_
        refine V_goto (pc := 36) X 17 dX0_partOf_36 (by decide) ?_
        exact ih_17 (i + 1) (by omega) (by omega)
  exact lp_17 _ 0 (Nat.lt_succ_self _) (by decide)
set_option maxHeartbeats 4000000 in
set_option maxRecDepth 100000 in
theorem ct_X0_parts {h : z_H} {pl mo : Int} (hS : c_Sc h pl mo) : z_Ct mX0_parts 107 [(2, 3)] h (z_pure (0, c_parts h pl mo) h) := by
  refine z_mk (L := [(2, 3), (9, 0), (9, 0)]) oX0_parts.2.2.2.2 (Nat.le_of_ble_eq_true rfl) rfl ?_
  intro Γ X hQ
  obtain ⟨r30, r31, r42, ⟨kp, rp0, rp1, kp1, kp2, hw, hh, hs, hgl, hpi⟩, ⟨km, rm0, km1, hbr, hmi, hse, hbf⟩⟩ := id hS
  refine V_iconst (pc := 0) X dX0_parts_0 ?_
  refine V_istore_n (pc := 1) X dX0_parts_1 (by exact Nat.le_of_ble_eq_true rfl) rfl ?_
  refine V_iconst (pc := 2) X dX0_parts_2 ?_
  refine V_istore_n (pc := 3) X dX0_parts_3 (by exact Nat.le_of_ble_eq_true rfl) rfl ?_
  have lp_4 : ∀ (m : Nat) (i : Nat), 20 - i < m → i ≤ 20 → z_V Γ (107, 0, 0) 4 [(2, 3), (0, z_sum (c_ptf h pl mo) i), (0, (i : Int))] [] h := by
    intro m
    induction m with
    | zero => intro i hm; exact absurd hm (Nat.not_lt_zero _)
    | succ m ih_4 =>
      intro i hm hi1
      refine V_iload_n (pc := 4) X dX0_parts_4 rfl ?_
      refine V_bipush (pc := 5) X dX0_parts_5 (by decide) ?_
      refine V_icmp_ge (pc := 7) X 41 dX0_parts_7 (by decide) ⟨by omega, by omega⟩ ⟨by omega, by omega⟩ (fun c_7 => ?_) (fun c_7 => ?_)
      · skip
        refine V_iload_n (pc := 41) X dX0_parts_41 rfl ?_
        refine V_iret (st := []) (pc := 42) X hQ dX0_parts_42 rfl rfl ?_
        exact z_pi (by (obtain rfl : i = 20 := by omega); rfl)
      · skip
        refine V_aload_n (pc := 10) X dX0_parts_10 rfl (by first | decide | omega | assumption) ?_
        refine V_iload_n (pc := 11) X dX0_parts_11 rfl ?_
        refine V_FV (pc := 12) X dX0_parts_12 oX5_hasPane l_RX0_9 eX5_hasPane vX5_hasPane ⟨Nat.le_of_ble_eq_true rfl, Nat.le_of_ble_eq_true rfl⟩ ⟨rfl, rfl⟩ ⟨Nat.le_of_ble_eq_true rfl, Nat.le_of_ble_eq_true rfl⟩ (ct_X5_hasPane hS (by omega) (by omega)) rfl (by first | rfl | assumption | (simp only [*]; done) | omega) (by intro q h; cases h; rfl) rfl (by rfl) (by exact Nat.le_of_ble_eq_true rfl) ?_
        refine V_bif_eq (pc := 15) X 35 dX0_parts_15 (by decide)  (fun c_15 => ?_) (fun c_15 => ?_)
        · skip
          refine V_iinc (pc := 35) X dX0_parts_35 rfl rfl ?_
          refine V_goto (pc := 38) X 4 dX0_parts_38 (by decide) ?_
          refine V_loc ?_ (ih_4 (i + 1) (by omega) (by omega))
          show [_, _, _] = [_, _, _]
          simp [z_sum, c_ptf, *]
        · skip
          refine V_aload_n (pc := 18) X dX0_parts_18 rfl (by first | decide | omega | assumption) ?_
          refine V_iload_n (pc := 19) X dX0_parts_19 rfl ?_
          refine V_FS (pc := 20) X dX0_parts_20 oX0_partOf l_RX0_39 sX0_partOf ⟨Nat.le_of_ble_eq_true rfl, Nat.le_of_ble_eq_true rfl⟩ ⟨rfl, rfl⟩ ⟨Nat.le_of_ble_eq_true rfl, Nat.le_of_ble_eq_true rfl⟩ (ct_X0_partOf hS (by omega) (by omega)) rfl (by rfl) (by exact Nat.le_of_ble_eq_true rfl) ?_
          refine V_iconst (pc := 23) X dX0_parts_23 ?_
          refine V_iload_n (pc := 24) X dX0_parts_24 rfl ?_
          refine V_ishl (pc := 25) X dX0_parts_25 ?_
          refine V_iconst (pc := 26) X dX0_parts_26 ?_
          refine V_isub (pc := 27) X dX0_parts_27 ?_
          have hpr := c_part_rng h pl mo i
          have hsr := z_and_rngL (x := c_part h pl mo i) (y := z_shl 1 i - 1) (by omega) (by omega)
          refine V_iand (pc := 28) X dX0_parts_28 ?_
          refine V_if_ne (pc := 29) X 35 dX0_parts_29 (by decide) ⟨by omega, by omega⟩ (fun c_29 => ?_) (fun c_29 => ?_)
          · skip
            refine V_iinc (pc := 35) X dX0_parts_35 rfl rfl ?_
            refine V_goto (pc := 38) X 4 dX0_parts_38 (by decide) ?_
            refine V_loc ?_ (ih_4 (i + 1) (by omega) (by omega))
            show [_, _, _] = [_, _, _]
            simp [z_sum, c_ptf, *]
          · skip
            refine V_iinc (pc := 32) X dX0_parts_32 rfl rfl ?_
            refine V_iinc (pc := 35) X dX0_parts_35 rfl rfl ?_
            refine V_goto (pc := 38) X 4 dX0_parts_38 (by decide) ?_
            refine V_loc ?_ (ih_4 (i + 1) (by omega) (by omega))
            show [_, _, _] = [_, _, _]
            simp [z_sum, c_ptf, *]
  exact lp_4 _ 0 (Nat.lt_succ_self _) (by decide)
set_option maxHeartbeats 4000000 in
set_option maxRecDepth 100000 in
theorem ct_X0_greatestPart {h : z_H} {pl mo : Int} (hS : c_Sc h pl mo) : z_Ct mX0_greatestPart 107 [(2, 3)] h (z_pure (0, c_great h pl mo) h) := by
  refine z_mk (L := [(2, 3), (9, 0), (9, 0)]) oX0_greatestPart.2.2.2.2 (Nat.le_of_ble_eq_true rfl) rfl ?_
  intro Γ X hQ
  obtain ⟨r30, r31, r42, ⟨kp, rp0, rp1, kp1, kp2, hw, hh, hs, hgl, hpi⟩, ⟨km, rm0, km1, hbr, hmi, hse, hbf⟩⟩ := id hS
  refine V_iconst (pc := 0) X dX0_greatestPart_0 ?_
  refine V_istore_n (pc := 1) X dX0_greatestPart_1 (by exact Nat.le_of_ble_eq_true rfl) rfl ?_
  refine V_iconst (pc := 2) X dX0_greatestPart_2 ?_
  refine V_istore_n (pc := 3) X dX0_greatestPart_3 (by exact Nat.le_of_ble_eq_true rfl) rfl ?_
  have lp_4 : ∀ (m : Nat) (i : Nat), 20 - i < m → i ≤ 20 → z_V Γ (107, 0, 0) 4 [(2, 3), (0, z_gr (c_has h pl) (fun p => z_pop (c_part h pl mo p)) i), (0, (i : Int))] [] h := by
    intro m
    induction m with
    | zero => intro i hm; exact absurd hm (Nat.not_lt_zero _)
    | succ m ih_4 =>
      intro i hm hi1
      have hgr := z_gr_rng (ok := c_has h pl) (f := fun p => z_pop (c_part h pl mo p)) (c := 31) (by decide) (fun k => (z_pop_rng _).2) i
      have hpr := c_part_rng h pl mo i
      have hpp := z_pop_rng (c_part h pl mo i)
      refine V_iload_n (pc := 4) X dX0_greatestPart_4 rfl ?_
      refine V_bipush (pc := 5) X dX0_greatestPart_5 (by decide) ?_
      refine V_icmp_ge (pc := 7) X 37 dX0_greatestPart_7 (by decide) ⟨by omega, by omega⟩ ⟨by omega, by omega⟩ (fun c_7 => ?_) (fun c_7 => ?_)
      · skip
        refine V_iload_n (pc := 37) X dX0_greatestPart_37 rfl ?_
        refine V_iret (st := []) (pc := 38) X hQ dX0_greatestPart_38 rfl rfl ?_
        exact z_pi (by (obtain rfl : i = 20 := by omega); rfl)
      · skip
        refine V_aload_n (pc := 10) X dX0_greatestPart_10 rfl (by first | decide | omega | assumption) ?_
        refine V_iload_n (pc := 11) X dX0_greatestPart_11 rfl ?_
        refine V_FV (pc := 12) X dX0_greatestPart_12 oX5_hasPane l_RX0_9 eX5_hasPane vX5_hasPane ⟨Nat.le_of_ble_eq_true rfl, Nat.le_of_ble_eq_true rfl⟩ ⟨rfl, rfl⟩ ⟨Nat.le_of_ble_eq_true rfl, Nat.le_of_ble_eq_true rfl⟩ (ct_X5_hasPane hS (by omega) (by omega)) rfl (by first | rfl | assumption | (simp only [*]; done) | omega) (by intro q h; cases h; rfl) rfl (by rfl) (by exact Nat.le_of_ble_eq_true rfl) ?_
        refine V_bif_eq (pc := 15) X 31 dX0_greatestPart_15 (by decide)  (fun c_15 => ?_) (fun c_15 => ?_)
        · skip
          refine V_iinc (pc := 31) X dX0_greatestPart_31 rfl rfl ?_
          refine V_goto (pc := 34) X 4 dX0_greatestPart_34 (by decide) ?_
          refine V_loc ?_ (ih_4 (i + 1) (by omega) (by omega))
          show [_, _, _] = [_, _, _]
          simp [z_gr, *]
        · skip
          refine V_iload_n (pc := 18) X dX0_greatestPart_18 rfl ?_
          refine V_aload_n (pc := 19) X dX0_greatestPart_19 rfl (by first | decide | omega | assumption) ?_
          refine V_iload_n (pc := 20) X dX0_greatestPart_20 rfl ?_
          refine V_FS (pc := 21) X dX0_greatestPart_21 oX0_partOf l_RX0_39 sX0_partOf ⟨Nat.le_of_ble_eq_true rfl, Nat.le_of_ble_eq_true rfl⟩ ⟨rfl, rfl⟩ ⟨Nat.le_of_ble_eq_true rfl, Nat.le_of_ble_eq_true rfl⟩ (ct_X0_partOf hS (by omega) (by omega)) rfl (by rfl) (by exact Nat.le_of_ble_eq_true rfl) ?_
          refine V_FS (pc := 24) X dX0_greatestPart_24 oJ6_bitCount_0f7a4 l_RX0_43 sJ6_bitCount_0f7a4 ⟨Nat.le_of_ble_eq_true rfl, Nat.le_of_ble_eq_true rfl⟩ ⟨rfl, rfl⟩ ⟨Nat.le_of_ble_eq_true rfl, Nat.le_of_ble_eq_true rfl⟩ (ct_J6_bitCount_0f7a4 (by omega) (by omega)) rfl (by rfl) (by exact Nat.le_of_ble_eq_true rfl) ?_
          refine V_mmax (pc := 27) X dX0_greatestPart_27 lm_RX0_48 ⟨Nat.le_of_ble_eq_true rfl, Nat.le_of_ble_eq_true rfl⟩ ⟨Nat.le_of_ble_eq_true rfl, Nat.le_of_ble_eq_true rfl⟩ ⟨by omega, by omega⟩ ⟨by omega, by omega⟩ ?_
          refine V_istore_n (pc := 30) X dX0_greatestPart_30 (by exact Nat.le_of_ble_eq_true rfl) rfl ?_
          refine V_iinc (pc := 31) X dX0_greatestPart_31 rfl rfl ?_
          refine V_goto (pc := 34) X 4 dX0_greatestPart_34 (by decide) ?_
          refine V_loc ?_ (ih_4 (i + 1) (by omega) (by omega))
          show [_, _, _] = [_, _, _]
          simp [z_gr, *]
  exact lp_4 _ 0 (Nat.lt_succ_self _) (by decide)
