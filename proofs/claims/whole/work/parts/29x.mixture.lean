/-! Mixture -/
set_option maxHeartbeats 4000000 in
set_option maxRecDepth 100000 in
theorem ct_X1_offer {h : z_H} {q : Int × Int × Int × Int} (hq : m_ok q) {a b : Int} (ha : 0 ≤ a ∧ a < 256) (hb : 0 ≤ b ∧ b < 256) : z_Ct mX1_offer 107 [(2, 31), (0, a), (0, b)] (c_mx h q) (z_void (c_mx h (m_off q a b))) := by
  refine z_mk (L := [(2, 31), (0, a), (0, b), (9, 0)]) oX1_offer.2.2.2.2 (Nat.le_of_ble_eq_true rfl) rfl ?_
  intro Γ X hQ
  obtain ⟨qa, qb, qc, qd⟩ := q
  obtain ⟨hq1, hq2, hq3⟩ := id hq
  have hq1 : qa = 0 ∨ qa = 1 := hq1
  have hq2 : 0 ≤ qb := hq2
  have hq3 : qb ≤ 62 := hq3
  have p1 := z_pop_rng a
  have p2 := z_pop_rng b
  refine V_iload_n (pc := 0) X dX1_offer_0 rfl ?_
  refine V_FS (pc := 1) X dX1_offer_1 oJ6_bitCount_0f7a4 l_RX1_30 sJ6_bitCount_0f7a4 ⟨Nat.le_of_ble_eq_true rfl, Nat.le_of_ble_eq_true rfl⟩ ⟨rfl, rfl⟩ ⟨Nat.le_of_ble_eq_true rfl, Nat.le_of_ble_eq_true rfl⟩ (ct_J6_bitCount_0f7a4 (by omega) (by omega)) rfl (by rfl) (by exact Nat.le_of_ble_eq_true rfl) ?_
  refine V_iload_n (pc := 4) X dX1_offer_4 rfl ?_
  refine V_FS (pc := 5) X dX1_offer_5 oJ6_bitCount_0f7a4 l_RX1_30 sJ6_bitCount_0f7a4 ⟨Nat.le_of_ble_eq_true rfl, Nat.le_of_ble_eq_true rfl⟩ ⟨rfl, rfl⟩ ⟨Nat.le_of_ble_eq_true rfl, Nat.le_of_ble_eq_true rfl⟩ (ct_J6_bitCount_0f7a4 (by omega) (by omega)) rfl (by rfl) (by exact Nat.le_of_ble_eq_true rfl) ?_
  refine V_iadd (pc := 8) X dX1_offer_8 ?_
  refine V_istore_n (pc := 9) X dX1_offer_9 (by exact Nat.le_of_ble_eq_true rfl) rfl ?_
  refine V_aload_n (pc := 10) X dX1_offer_10 rfl (by first | decide | omega | assumption) ?_
  refine V_gz (pc := 11) X dX1_offer_11 f_RX1_24 (by first | rfl | assumption | (simp only [*]; done) | omega) 0 rfl (show _ = qa from c_mx_0 h (qa, qb, qc, qd)) ?_
  refine V_if_eq (pc := 14) X 25 dX1_offer_14 (by decide) ⟨by omega, by omega⟩ (fun c_14 => ?_) (fun c_14 => ?_)
  · skip
    refine V_aload_n (pc := 25) X dX1_offer_25 rfl (by first | decide | omega | assumption) ?_
    refine V_iconst (pc := 26) X dX1_offer_26 ?_
    refine V_pz (pc := 27) X dX1_offer_27 f_RX1_24 (by first | rfl | assumption | (simp only [*]; done) | omega) (fun b => z_fitZ b (by omega)) 0 rfl ?_
    rw [c_mx_p0]
    refine V_aload_n (pc := 30) X dX1_offer_30 rfl (by first | decide | omega | assumption) ?_
    refine V_iload_n (pc := 31) X dX1_offer_31 rfl ?_
    refine V_pz (pc := 32) X dX1_offer_32 f_RX1_56 (by first | rfl | assumption | (simp only [*]; done) | omega) (fun b => z_fitI b _) 1 rfl ?_
    rw [c_mx_p1]
    refine V_aload_n (pc := 35) X dX1_offer_35 rfl (by first | decide | omega | assumption) ?_
    refine V_iload_n (pc := 36) X dX1_offer_36 rfl ?_
    refine V_pz (pc := 37) X dX1_offer_37 f_RX1_60 (by first | rfl | assumption | (simp only [*]; done) | omega) (fun b => z_fitI b _) 2 rfl ?_
    rw [c_mx_p2]
    refine V_aload_n (pc := 40) X dX1_offer_40 rfl (by first | decide | omega | assumption) ?_
    refine V_iload_n (pc := 41) X dX1_offer_41 rfl ?_
    refine V_pz (pc := 42) X dX1_offer_42 f_RX1_63 (by first | rfl | assumption | (simp only [*]; done) | omega) (fun b => z_fitI b _) 3 rfl ?_
    rw [c_mx_p3]
    refine V_vret (st := []) (pc := 45) X hQ dX1_offer_45 rfl rfl ?_
    exact ⟨rfl, by unfold m_off; first | rw [if_pos (show qa = 0 ∨ z_pop a + z_pop b < qb by omega)] | rw [if_neg (show ¬ (qa = 0 ∨ z_pop a + z_pop b < qb) by omega)]⟩
  · skip
    refine V_iload_n (pc := 17) X dX1_offer_17 rfl ?_
    refine V_aload_n (pc := 18) X dX1_offer_18 rfl (by first | decide | omega | assumption) ?_
    refine V_gz (pc := 19) X dX1_offer_19 f_RX1_56 (by first | rfl | assumption | (simp only [*]; done) | omega) 1 rfl (show _ = qb from c_mx_1 h (qa, qb, qc, qd)) ?_
    refine V_icmp_ge (pc := 22) X 45 dX1_offer_22 (by decide) ⟨by omega, by omega⟩ ⟨by omega, by omega⟩ (fun c_22 => ?_) (fun c_22 => ?_)
    · skip
      refine V_vret (st := []) (pc := 45) X hQ dX1_offer_45 rfl rfl ?_
      exact ⟨rfl, by unfold m_off; first | rw [if_pos (show qa = 0 ∨ z_pop a + z_pop b < qb by omega)] | rw [if_neg (show ¬ (qa = 0 ∨ z_pop a + z_pop b < qb) by omega)]⟩
    · skip
      refine V_aload_n (pc := 25) X dX1_offer_25 rfl (by first | decide | omega | assumption) ?_
      refine V_iconst (pc := 26) X dX1_offer_26 ?_
      refine V_pz (pc := 27) X dX1_offer_27 f_RX1_24 (by first | rfl | assumption | (simp only [*]; done) | omega) (fun b => z_fitZ b (by omega)) 0 rfl ?_
      rw [c_mx_p0]
      refine V_aload_n (pc := 30) X dX1_offer_30 rfl (by first | decide | omega | assumption) ?_
      refine V_iload_n (pc := 31) X dX1_offer_31 rfl ?_
      refine V_pz (pc := 32) X dX1_offer_32 f_RX1_56 (by first | rfl | assumption | (simp only [*]; done) | omega) (fun b => z_fitI b _) 1 rfl ?_
      rw [c_mx_p1]
      refine V_aload_n (pc := 35) X dX1_offer_35 rfl (by first | decide | omega | assumption) ?_
      refine V_iload_n (pc := 36) X dX1_offer_36 rfl ?_
      refine V_pz (pc := 37) X dX1_offer_37 f_RX1_60 (by first | rfl | assumption | (simp only [*]; done) | omega) (fun b => z_fitI b _) 2 rfl ?_
      rw [c_mx_p2]
      refine V_aload_n (pc := 40) X dX1_offer_40 rfl (by first | decide | omega | assumption) ?_
      refine V_iload_n (pc := 41) X dX1_offer_41 rfl ?_
      refine V_pz (pc := 42) X dX1_offer_42 f_RX1_63 (by first | rfl | assumption | (simp only [*]; done) | omega) (fun b => z_fitI b _) 3 rfl ?_
      rw [c_mx_p3]
      refine V_vret (st := []) (pc := 45) X hQ dX1_offer_45 rfl rfl ?_
      exact ⟨rfl, by unfold m_off; first | rw [if_pos (show qa = 0 ∨ z_pop a + z_pop b < qb by omega)] | rw [if_neg (show ¬ (qa = 0 ∨ z_pop a + z_pop b < qb) by omega)]⟩
set_option maxHeartbeats 4000000 in
set_option maxRecDepth 100000 in
theorem ct_X1_seekLatter {h : z_H} {pl mo : Int} (hS : c_Sc h pl mo) {q : Int × Int × Int × Int} (hq : m_ok q) {p a f c : Int} (hp : -1 ≤ p ∧ p < 20) (ha : 0 ≤ a ∧ a < 256) (hf : 0 ≤ f ∧ f < 8) (hc : 0 ≤ c ∧ c < 8) : z_Ct mX1_seekLatter 107 [(2, 31), (2, 3), (0, p), (0, a), (0, f), (0, c)] (c_mx h q) (z_void (c_mx h (m_latH h pl mo p a f c q (m_N h pl mo a)))) := by
  refine z_mk (L := [(2, 31), (2, 3), (0, p), (0, a), (0, f), (0, c), (9, 0), (9, 0), (9, 0), (9, 0), (9, 0), (9, 0)]) oX1_seekLatter.2.2.2.2 (Nat.le_of_ble_eq_true rfl) rfl ?_
  intro Γ X hQ
  obtain ⟨r30, r31, r42, ⟨kp, rp0, rp1, kp1, kp2, hw, hh, hs, hgl, hpi⟩, ⟨km, rm0, km1, hbr, hmi, hse, hbf⟩⟩ := id hS
  have hRr := m_R_rng (a := a) hS
  have hrr := c_room_rng h mo p
  have hlr := c_lets_rng hS hp.1 hp.2
  have hbr2 := c_box_rng hS
  have hp8 := z_pop8 hRr.1 hRr.2
  have hp0 := z_pop_rng (m_R h pl mo a)
  have E0 := c_mx_eq (q := q) hS
  have hS0 := E0.sc hS
  refine V_aload_n (pc := 0) X dX1_seekLatter_0 rfl (by first | decide | omega | assumption) ?_
  refine V_FV (pc := 1) X dX1_seekLatter_1 oX5_box l_RX1_20 eX5_box vX5_box ⟨Nat.le_of_ble_eq_true rfl, Nat.le_of_ble_eq_true rfl⟩ ⟨rfl, rfl⟩ ⟨Nat.le_of_ble_eq_true rfl, Nat.le_of_ble_eq_true rfl⟩ (ct_X5_box hS0) rfl (by first | rfl | assumption | (simp only [*]; done) | omega) (by intro q h; cases h; rfl) rfl (by rfl) (by exact Nat.le_of_ble_eq_true rfl) ?_
  rw [E0.box]
  refine V_iload_n (pc := 4) X dX1_seekLatter_4 rfl ?_
  refine V_iconst (pc := 5) X dX1_seekLatter_5 ?_
  refine V_ixor (pc := 6) X dX1_seekLatter_6 ?_
  refine V_iand (pc := 7) X dX1_seekLatter_7 ?_
  refine V_istore (pc := 8) X dX1_seekLatter_8 (by exact Nat.le_of_ble_eq_true rfl) rfl ?_
  refine V_aload_n (pc := 10) X dX1_seekLatter_10 rfl (by first | decide | omega | assumption) ?_
  refine V_iload_n (pc := 11) X dX1_seekLatter_11 rfl ?_
  refine V_FV (pc := 12) X dX1_seekLatter_12 oX5_roomBefore l_RX1_16 eX5_roomBefore vX5_roomBefore ⟨Nat.le_of_ble_eq_true rfl, Nat.le_of_ble_eq_true rfl⟩ ⟨rfl, rfl⟩ ⟨Nat.le_of_ble_eq_true rfl, Nat.le_of_ble_eq_true rfl⟩ (ct_X5_roomBefore hS0 (by omega) (by omega)) rfl (by first | rfl | assumption | (simp only [*]; done) | omega) (by intro q h; cases h; rfl) rfl (by rfl) (by exact Nat.le_of_ble_eq_true rfl) ?_
  rw [E0.room]
  refine V_istore (pc := 15) X dX1_seekLatter_15 (by exact Nat.le_of_ble_eq_true rfl) rfl ?_
  refine V_aload_n (pc := 17) X dX1_seekLatter_17 rfl (by first | decide | omega | assumption) ?_
  refine V_iload_n (pc := 18) X dX1_seekLatter_18 rfl ?_
  refine V_FV (pc := 19) X dX1_seekLatter_19 oX5_letsThrough l_RX1_35 eX5_letsThrough vX5_letsThrough ⟨Nat.le_of_ble_eq_true rfl, Nat.le_of_ble_eq_true rfl⟩ ⟨rfl, rfl⟩ ⟨Nat.le_of_ble_eq_true rfl, Nat.le_of_ble_eq_true rfl⟩ (ct_X5_letsThrough hS0 (by omega) (by omega)) rfl (by first | rfl | assumption | (simp only [*]; done) | omega) (by intro q h; cases h; rfl) rfl (by rfl) (by exact Nat.le_of_ble_eq_true rfl) ?_
  rw [E0.lets]
  refine V_istore (pc := 22) X dX1_seekLatter_22 (by exact Nat.le_of_ble_eq_true rfl) rfl ?_
  refine V_iconst (pc := 24) X dX1_seekLatter_24 ?_
  refine V_istore (pc := 25) X dX1_seekLatter_25 (by exact Nat.le_of_ble_eq_true rfl) rfl ?_
  refine V_iconst (pc := 27) X dX1_seekLatter_27 ?_
  refine V_iload (pc := 28) X dX1_seekLatter_28 rfl ?_
  have hRe : z_and (c_box h pl mo) (z_xor a (-1)) = m_R h pl mo a := rfl
  refine V_FS (pc := 30) X dX1_seekLatter_30 oJ6_bitCount_0f7a4 l_RX1_30 sJ6_bitCount_0f7a4 ⟨Nat.le_of_ble_eq_true rfl, Nat.le_of_ble_eq_true rfl⟩ ⟨rfl, rfl⟩ ⟨Nat.le_of_ble_eq_true rfl, Nat.le_of_ble_eq_true rfl⟩ (ct_J6_bitCount_0f7a4 (by omega) (by omega)) rfl (by rfl) (by exact Nat.le_of_ble_eq_true rfl) ?_
  refine V_ishl (pc := 33) X dX1_seekLatter_33 ?_
  refine V_istore (pc := 34) X dX1_seekLatter_34 (by exact Nat.le_of_ble_eq_true rfl) rfl ?_
  have lp_36 : ∀ (m : Nat) (i : Nat), m_N h pl mo a - i < m → i ≤ m_N h pl mo a → z_V Γ (107, 0, 0) 36 [(2, 31), (2, 3), (0, p), (0, a), (0, f), (0, c), (0, m_R h pl mo a), (0, c_room h mo p), (0, c_lets h pl mo p), (0, m_b (m_R h pl mo a) i), (0, ((m_N h pl mo a : Nat) : Int) - (i : Int)), (9, 0)] [] (c_mx h (m_latH h pl mo p a f c q i)) := by
    intro m
    induction m with
    | zero => intro i hm; exact absurd hm (Nat.not_lt_zero _)
    | succ m ih_36 =>
      intro i hm hi1
      have hbb := m_b_rng hRr.1 hRr.2 i
      have hnn : m_N h pl mo a ≤ 256 := by unfold m_N; exact Nat.le_trans (Nat.pow_le_pow_right (by decide) (show (z_pop (m_R h pl mo a)).toNat ≤ 8 by omega)) (by decide)
      have hpb := z_pop_rng (m_b (m_R h pl mo a) i)
      have hpl2 := hpi (m_b (m_R h pl mo a) i) (by omega) (by omega)
      have hmk := m_lat_ok (pile := h (pl + 2)) (R := m_R h pl mo a) (r := c_room h mo p) (w := c_lets h pl mo p) (f := f) (c := c) (a := a) hq i
      have han := z_and_rngL (x := c_lets h pl mo p) (y := h (pl + 2) (m_b (m_R h pl mo a) i)) (by omega) (by omega)
      have hor := z_or_rng8 (x := f) (y := z_and (c_lets h pl mo p) (h (pl + 2) (m_b (m_R h pl mo a) i))) hf.1 hf.2 (by omega) (by omega)
      refine V_iload (pc := 36) X dX1_seekLatter_36 rfl ?_
      refine V_if_le (pc := 38) X 99 dX1_seekLatter_38 (by decide) ⟨by omega, by omega⟩ (fun c_38 => ?_) (fun c_38 => ?_)
      · skip
        refine V_vret (st := []) (pc := 99) X hQ dX1_seekLatter_99 rfl rfl ?_
        exact ⟨rfl, by (obtain rfl : i = m_N h pl mo a := by omega); rfl⟩
      · skip
        refine V_iload (pc := 41) X dX1_seekLatter_41 rfl ?_
        refine V_iload (pc := 43) X dX1_seekLatter_43 rfl ?_
        refine V_aload_n (pc := 45) X dX1_seekLatter_45 rfl (by first | decide | omega | assumption) ?_
        refine V_gz (pc := 46) X dX1_seekLatter_46 f_RX1_38 (by first | rfl | assumption | (simp only [*]; done) | omega) 1 rfl (show _ = pl from by rw [c_mx_cell h _ (by decide)]; exact r31) ?_
        refine V_gz (pc := 49) X dX1_seekLatter_49 f_RX1_42 (by first | rfl | assumption | (simp only [*]; done) | omega) 1 rfl (show _ = pl + 2 from by rw [c_mx_cell h _ (fun e => by rw [e] at kp; revert kp; decide)]; exact rp1) ?_
        refine V_iload (pc := 52) X dX1_seekLatter_52 rfl ?_
        refine V_iald (pc := 54) X dX1_seekLatter_54 (by first | rfl | assumption | (simp only [*]; done) | omega) (by omega) (by omega) (by decide) ?_
        rw [show c_mx h (m_latH h pl mo p a f c q i) (pl + 2) (m_b (m_R h pl mo a) i) = h (pl + 2) (m_b (m_R h pl mo a) i) from by rw [c_mx_cell h _ (fun e => by rw [e] at kp2; revert kp2; decide)]]
        refine V_iand (pc := 55) X dX1_seekLatter_55 ?_
        refine V_ior (pc := 56) X dX1_seekLatter_56 ?_
        refine V_istore (pc := 57) X dX1_seekLatter_57 (by exact Nat.le_of_ble_eq_true rfl) rfl ?_
        refine V_iload (pc := 59) X dX1_seekLatter_59 rfl ?_
        refine V_iload (pc := 61) X dX1_seekLatter_61 rfl ?_
        refine V_icmp_ne (pc := 63) X 83 dX1_seekLatter_63 (by decide) ⟨by omega, by omega⟩ ⟨by omega, by omega⟩ (fun c_63 => ?_) (fun c_63 => ?_)
        · skip
          refine V_iload (pc := 83) X dX1_seekLatter_83 rfl ?_
          refine V_iload (pc := 85) X dX1_seekLatter_85 rfl ?_
          refine V_isub (pc := 87) X dX1_seekLatter_87 ?_
          refine V_iload (pc := 88) X dX1_seekLatter_88 rfl ?_
          refine V_iand (pc := 90) X dX1_seekLatter_90 ?_
          refine V_istore (pc := 91) X dX1_seekLatter_91 (by exact Nat.le_of_ble_eq_true rfl) rfl ?_
          refine V_iinc (pc := 93) X dX1_seekLatter_93 rfl rfl ?_
          refine V_goto (pc := 96) X 36 dX1_seekLatter_96 (by decide) ?_
          refine V_fgt 11 (V_loc (show _ = [(2, 31), (2, 3), (0, p), (0, a), (0, f), (0, c), (0, m_R h pl mo a), (0, c_room h mo p), (0, c_lets h pl mo p), (0, m_b (m_R h pl mo a) (i + 1)), (0, ((m_N h pl mo a : Nat) : Int) - ((i + 1 : Nat) : Int)), (9, 0)] from by show [_, _, _, _, _, _, _, _, _, _, _, _] = [_, _, _, _, _, _, _, _, _, _, _, _]; rw [show ((m_N h pl mo a : Nat) : Int) - (i : Int) + (-1) = ((m_N h pl mo a : Nat) : Int) - ((i + 1 : Nat) : Int) by omega]; rfl) ?_)
          first
            | exact V_heap (congrArg (c_mx h) (show m_latH h pl mo p a f c q (i + 1) = _ from if_neg (fun g => c_63 g.1)).symm) (ih_36 (i + 1) (by omega) (by omega))
            | exact V_heap (congrArg (c_mx h) (show m_latH h pl mo p a f c q (i + 1) = _ from if_neg (fun g => Int.not_lt.mpr g.2 c_73)).symm) (ih_36 (i + 1) (by omega) (by omega))
            | exact V_heap (congrArg (c_mx h) (show m_latH h pl mo p a f c q (i + 1) = _ from if_pos ⟨c_63, Int.not_lt.mp c_73⟩).symm) (ih_36 (i + 1) (by omega) (by omega))
        · skip
          refine V_iload (pc := 66) X dX1_seekLatter_66 rfl ?_
          refine V_FS (pc := 68) X dX1_seekLatter_68 oJ6_bitCount_0f7a4 l_RX1_30 sJ6_bitCount_0f7a4 ⟨Nat.le_of_ble_eq_true rfl, Nat.le_of_ble_eq_true rfl⟩ ⟨rfl, rfl⟩ ⟨Nat.le_of_ble_eq_true rfl, Nat.le_of_ble_eq_true rfl⟩ (ct_J6_bitCount_0f7a4 (by omega) (by omega)) rfl (by rfl) (by exact Nat.le_of_ble_eq_true rfl) ?_
          refine V_iload (pc := 71) X dX1_seekLatter_71 rfl ?_
          refine V_icmp_gt (pc := 73) X 83 dX1_seekLatter_73 (by decide) ⟨by omega, by omega⟩ ⟨by omega, by omega⟩ (fun c_73 => ?_) (fun c_73 => ?_)
          · skip
            refine V_iload (pc := 83) X dX1_seekLatter_83 rfl ?_
            refine V_iload (pc := 85) X dX1_seekLatter_85 rfl ?_
            refine V_isub (pc := 87) X dX1_seekLatter_87 ?_
            refine V_iload (pc := 88) X dX1_seekLatter_88 rfl ?_
            refine V_iand (pc := 90) X dX1_seekLatter_90 ?_
            refine V_istore (pc := 91) X dX1_seekLatter_91 (by exact Nat.le_of_ble_eq_true rfl) rfl ?_
            refine V_iinc (pc := 93) X dX1_seekLatter_93 rfl rfl ?_
            refine V_goto (pc := 96) X 36 dX1_seekLatter_96 (by decide) ?_
            refine V_fgt 11 (V_loc (show _ = [(2, 31), (2, 3), (0, p), (0, a), (0, f), (0, c), (0, m_R h pl mo a), (0, c_room h mo p), (0, c_lets h pl mo p), (0, m_b (m_R h pl mo a) (i + 1)), (0, ((m_N h pl mo a : Nat) : Int) - ((i + 1 : Nat) : Int)), (9, 0)] from by show [_, _, _, _, _, _, _, _, _, _, _, _] = [_, _, _, _, _, _, _, _, _, _, _, _]; rw [show ((m_N h pl mo a : Nat) : Int) - (i : Int) + (-1) = ((m_N h pl mo a : Nat) : Int) - ((i + 1 : Nat) : Int) by omega]; rfl) ?_)
            first
              | exact V_heap (congrArg (c_mx h) (show m_latH h pl mo p a f c q (i + 1) = _ from if_neg (fun g => c_63 g.1)).symm) (ih_36 (i + 1) (by omega) (by omega))
              | exact V_heap (congrArg (c_mx h) (show m_latH h pl mo p a f c q (i + 1) = _ from if_neg (fun g => Int.not_lt.mpr g.2 c_73)).symm) (ih_36 (i + 1) (by omega) (by omega))
              | exact V_heap (congrArg (c_mx h) (show m_latH h pl mo p a f c q (i + 1) = _ from if_pos ⟨c_63, Int.not_lt.mp c_73⟩).symm) (ih_36 (i + 1) (by omega) (by omega))
          · skip
            refine V_aload_n (pc := 76) X dX1_seekLatter_76 rfl (by first | decide | omega | assumption) ?_
            refine V_iload_n (pc := 77) X dX1_seekLatter_77 rfl ?_
            refine V_iload (pc := 78) X dX1_seekLatter_78 rfl ?_
            refine V_CV (pc := 80) X dX1_seekLatter_80 oX1_offer l_RX1_52 eX1_offer vX1_offer ⟨Nat.le_of_ble_eq_true rfl, Nat.le_of_ble_eq_true rfl⟩ ⟨rfl, rfl⟩ ⟨Nat.le_of_ble_eq_true rfl, Nat.le_of_ble_eq_true rfl⟩ (ct_X1_offer hmk ⟨by omega, by omega⟩ ⟨by omega, by omega⟩) rfl (by first | rfl | assumption | (simp only [*]; done) | omega) (by intro q h; cases h; rfl) rfl (by rfl) (by exact Nat.le_of_ble_eq_true rfl) (fun r h1 hp => ?_)
            obtain ⟨rfl, rfl⟩ := hp
            refine V_iload (pc := 83) X dX1_seekLatter_83 rfl ?_
            refine V_iload (pc := 85) X dX1_seekLatter_85 rfl ?_
            refine V_isub (pc := 87) X dX1_seekLatter_87 ?_
            refine V_iload (pc := 88) X dX1_seekLatter_88 rfl ?_
            refine V_iand (pc := 90) X dX1_seekLatter_90 ?_
            refine V_istore (pc := 91) X dX1_seekLatter_91 (by exact Nat.le_of_ble_eq_true rfl) rfl ?_
            refine V_iinc (pc := 93) X dX1_seekLatter_93 rfl rfl ?_
            refine V_goto (pc := 96) X 36 dX1_seekLatter_96 (by decide) ?_
            refine V_fgt 11 (V_loc (show _ = [(2, 31), (2, 3), (0, p), (0, a), (0, f), (0, c), (0, m_R h pl mo a), (0, c_room h mo p), (0, c_lets h pl mo p), (0, m_b (m_R h pl mo a) (i + 1)), (0, ((m_N h pl mo a : Nat) : Int) - ((i + 1 : Nat) : Int)), (9, 0)] from by show [_, _, _, _, _, _, _, _, _, _, _, _] = [_, _, _, _, _, _, _, _, _, _, _, _]; rw [show ((m_N h pl mo a : Nat) : Int) - (i : Int) + (-1) = ((m_N h pl mo a : Nat) : Int) - ((i + 1 : Nat) : Int) by omega]; rfl) ?_)
            first
              | exact V_heap (congrArg (c_mx h) (show m_latH h pl mo p a f c q (i + 1) = _ from if_neg (fun g => c_63 g.1)).symm) (ih_36 (i + 1) (by omega) (by omega))
              | exact V_heap (congrArg (c_mx h) (show m_latH h pl mo p a f c q (i + 1) = _ from if_neg (fun g => Int.not_lt.mpr g.2 c_73)).symm) (ih_36 (i + 1) (by omega) (by omega))
              | exact V_heap (congrArg (c_mx h) (show m_latH h pl mo p a f c q (i + 1) = _ from if_pos ⟨c_63, Int.not_lt.mp c_73⟩).symm) (ih_36 (i + 1) (by omega) (by omega))
  refine V_loc (show _ = [(2, 31), (2, 3), (0, p), (0, a), (0, f), (0, c), (0, m_R h pl mo a), (0, c_room h mo p), (0, c_lets h pl mo p), (0, 0), (0, ((m_N h pl mo a : Nat) : Int) - ((0 : Nat) : Int)), (9, 0)] from by show [_, _, _, _, _, _, _, _, _, _, _, _] = [_, _, _, _, _, _, _, _, _, _, _, _]; rw [show ((m_N h pl mo a : Nat) : Int) - ((0 : Nat) : Int) = z_shl 1 (z_pop (m_R h pl mo a)) from by rw [z_shl1 hp0.1 (by omega)]; unfold m_N; simp]; rfl) ?_
  exact lp_36 _ 0 (Nat.lt_succ_self _) (Nat.zero_le _)
set_option maxHeartbeats 4000000 in
set_option maxRecDepth 100000 in
theorem ct_X1_seek {h : z_H} {pl mo : Int} (hS : c_Sc h pl mo) {q : Int × Int × Int × Int} (hq : m_ok q) {t k c : Int} (h0 : 0 ≤ t) (h1 : t < 84) (h2 : 0 ≤ k) (h3 : k < 8) (hc : 0 ≤ c ∧ c < 8) : z_Ct mX1_seek 107 [(2, 31), (2, 3), (0, t), (0, k), (0, c)] (c_mx h q) (z_void (c_mx h (m_sk h pl mo t k c (0, q.2.1, q.2.2.1, q.2.2.2) ((c_box h pl mo).toNat + 1)))) := by
  refine z_mk (L := [(2, 31), (2, 3), (0, t), (0, k), (0, c), (9, 0), (9, 0), (9, 0), (9, 0), (9, 0), (9, 0)]) oX1_seek.2.2.2.2 (Nat.le_of_ble_eq_true rfl) rfl ?_
  intro Γ X hQ
  obtain ⟨r30, r31, r42, ⟨kp, rp0, rp1, kp1, kp2, hw, hh, hs, hgl, hpi⟩, ⟨km, rm0, km1, hbr, hmi, hse, hbf⟩⟩ := id hS
  have g1 := c_own_rng (t := t) (k := k) hS
  have g2 := c_mir_rng (t := t) (k := k) hS
  have hbx := c_box_rng hS
  have hro := c_room_rng h mo (c_own h pl mo t k)
  have hlr := c_lets_rng hS g1.1 g1.2
  have E0 := c_mx_eq (q := q) hS
  have hS0 := E0.sc hS
  obtain ⟨qa, qb, qc, qd⟩ := q
  refine V_aload_n (pc := 0) X dX1_seek_0 rfl (by first | decide | omega | assumption) ?_
  refine V_iload_n (pc := 1) X dX1_seek_1 rfl ?_
  refine V_iload_n (pc := 2) X dX1_seek_2 rfl ?_
  refine V_FV (pc := 3) X dX1_seek_3 oX5_paneByItself l_RX1_7 eX5_paneByItself vX5_paneByItself ⟨Nat.le_of_ble_eq_true rfl, Nat.le_of_ble_eq_true rfl⟩ ⟨rfl, rfl⟩ ⟨Nat.le_of_ble_eq_true rfl, Nat.le_of_ble_eq_true rfl⟩ (ct_X5_paneByItself hS0 (by omega) (by omega) (by omega) (by omega)) rfl (by first | rfl | assumption | (simp only [*]; done) | omega) (by intro q h; cases h; rfl) rfl (by rfl) (by exact Nat.le_of_ble_eq_true rfl) ?_
  rw [E0.own]
  refine V_istore (pc := 6) X dX1_seek_6 (by exact Nat.le_of_ble_eq_true rfl) rfl ?_
  refine V_aload_n (pc := 8) X dX1_seek_8 rfl (by first | decide | omega | assumption) ?_
  refine V_iload_n (pc := 9) X dX1_seek_9 rfl ?_
  refine V_iload_n (pc := 10) X dX1_seek_10 rfl ?_
  refine V_FV (pc := 11) X dX1_seek_11 oX5_paneByMirror l_RX1_13 eX5_paneByMirror vX5_paneByMirror ⟨Nat.le_of_ble_eq_true rfl, Nat.le_of_ble_eq_true rfl⟩ ⟨rfl, rfl⟩ ⟨Nat.le_of_ble_eq_true rfl, Nat.le_of_ble_eq_true rfl⟩ (ct_X5_paneByMirror hS0 (by omega) (by omega) (by omega) (by omega)) rfl (by first | rfl | assumption | (simp only [*]; done) | omega) (by intro q h; cases h; rfl) rfl (by rfl) (by exact Nat.le_of_ble_eq_true rfl) ?_
  rw [E0.mir]
  refine V_istore (pc := 14) X dX1_seek_14 (by exact Nat.le_of_ble_eq_true rfl) rfl ?_
  refine V_aload_n (pc := 16) X dX1_seek_16 rfl (by first | decide | omega | assumption) ?_
  refine V_iload (pc := 17) X dX1_seek_17 rfl ?_
  refine V_FV (pc := 19) X dX1_seek_19 oX5_roomBefore l_RX1_16 eX5_roomBefore vX5_roomBefore ⟨Nat.le_of_ble_eq_true rfl, Nat.le_of_ble_eq_true rfl⟩ ⟨rfl, rfl⟩ ⟨Nat.le_of_ble_eq_true rfl, Nat.le_of_ble_eq_true rfl⟩ (ct_X5_roomBefore hS0 (by omega) (by omega)) rfl (by first | rfl | assumption | (simp only [*]; done) | omega) (by intro q h; cases h; rfl) rfl (by rfl) (by exact Nat.le_of_ble_eq_true rfl) ?_
  rw [E0.room]
  refine V_istore (pc := 22) X dX1_seek_22 (by exact Nat.le_of_ble_eq_true rfl) rfl ?_
  refine V_aload_n (pc := 24) X dX1_seek_24 rfl (by first | decide | omega | assumption) ?_
  refine V_FV (pc := 25) X dX1_seek_25 oX5_box l_RX1_20 eX5_box vX5_box ⟨Nat.le_of_ble_eq_true rfl, Nat.le_of_ble_eq_true rfl⟩ ⟨rfl, rfl⟩ ⟨Nat.le_of_ble_eq_true rfl, Nat.le_of_ble_eq_true rfl⟩ (ct_X5_box hS0) rfl (by first | rfl | assumption | (simp only [*]; done) | omega) (by intro q h; cases h; rfl) rfl (by rfl) (by exact Nat.le_of_ble_eq_true rfl) ?_
  rw [E0.box]
  refine V_istore (pc := 28) X dX1_seek_28 (by exact Nat.le_of_ble_eq_true rfl) rfl ?_
  refine V_aload_n (pc := 30) X dX1_seek_30 rfl (by first | decide | omega | assumption) ?_
  refine V_iconst (pc := 31) X dX1_seek_31 ?_
  refine V_pz (pc := 32) X dX1_seek_32 f_RX1_24 (by first | rfl | assumption | (simp only [*]; done) | omega) (fun b => z_fitZ b (by omega)) 0 rfl ?_
  rw [c_mx_p0]
  have hq0 : m_ok (0, qb, qc, qd) := ⟨Or.inl rfl, hq.2.1, hq.2.2⟩
  refine V_iconst (pc := 35) X dX1_seek_35 ?_
  refine V_istore (pc := 36) X dX1_seek_36 (by exact Nat.le_of_ble_eq_true rfl) rfl ?_
  have lp_38 : ∀ (m : Nat) (i : Nat), 256 - i < m → (i : Int) ≤ c_box h pl mo + 1 → z_V Γ (107, 0, 0) 38 [(2, 31), (2, 3), (0, t), (0, k), (0, c), (0, c_own h pl mo t k), (0, c_mir h pl mo t k), (0, c_room h mo (c_own h pl mo t k)), (0, c_box h pl mo), (0, (i : Int)), (9, 0)] [] (c_mx h (m_sk h pl mo t k c (0, qb, qc, qd) i)) := by
    intro m
    induction m with
    | zero => intro i hm; exact absurd hm (Nat.not_lt_zero _)
    | succ m ih_38 =>
      intro i hm hi1
      have hmk := m_sk_ok (h := h) (pl := pl) (mo := mo) (t := t) (k := k) (c := c) hq0 i
      have E := c_mx_eq (q := (m_sk h pl mo t k c (0, qb, qc, qd) i)) hS
      have hS1 := E.sc hS
      have hpb := z_pop_rng (i : Int)
      refine V_iload (pc := 38) X dX1_seek_38 rfl ?_
      refine V_iload (pc := 40) X dX1_seek_40 rfl ?_
      refine V_icmp_gt (pc := 42) X 103 dX1_seek_42 (by decide) ⟨by omega, by omega⟩ ⟨by omega, by omega⟩ (fun c_42 => ?_) (fun c_42 => ?_)
      · skip
        refine V_vret (st := []) (pc := 103) X hQ dX1_seek_103 rfl rfl ?_
        exact ⟨rfl, by rw [show (c_box h pl mo).toNat + 1 = i by omega]⟩
      · skip
        refine V_iload (pc := 45) X dX1_seek_45 rfl ?_
        refine V_iload (pc := 47) X dX1_seek_47 rfl ?_
        refine V_iconst (pc := 49) X dX1_seek_49 ?_
        refine V_ixor (pc := 50) X dX1_seek_50 ?_
        refine V_iand (pc := 51) X dX1_seek_51 ?_
        have hanr := z_and_rngL (x := (i : Int)) (y := z_xor (c_box h pl mo) (-1)) (by omega) (by omega)
        refine V_if_ne (pc := 52) X 97 dX1_seek_52 (by decide) ⟨by omega, by omega⟩ (fun c_52 => ?_) (fun c_52 => ?_)
        · skip
          refine V_iinc (pc := 97) X dX1_seek_97 rfl rfl ?_
          refine V_goto (pc := 100) X 38 dX1_seek_100 (by decide) ?_
          refine V_fgt 10 ?_
          first
            | exact V_heap (congrArg (c_mx h) (show m_sk h pl mo t k c (0, qb, qc, qd) (i + 1) = _ from if_neg (fun g => c_52 g.1)).symm) (ih_38 (i + 1) (by omega) (by omega))
            | exact V_heap (congrArg (c_mx h) (show m_sk h pl mo t k c (0, qb, qc, qd) (i + 1) = _ from if_neg (fun g => Int.not_lt.mpr g.2 c_62)).symm) (ih_38 (i + 1) (by omega) (by omega))
            | exact V_heap (congrArg (c_mx h) (show m_sk h pl mo t k c (0, qb, qc, qd) (i + 1) = _ from if_pos ⟨c_52, Int.not_lt.mp c_62⟩).symm) (ih_38 (i + 1) (by omega) (by omega))
        · skip
          refine V_iload (pc := 55) X dX1_seek_55 rfl ?_
          refine V_FS (pc := 57) X dX1_seek_57 oJ6_bitCount_0f7a4 l_RX1_30 sJ6_bitCount_0f7a4 ⟨Nat.le_of_ble_eq_true rfl, Nat.le_of_ble_eq_true rfl⟩ ⟨rfl, rfl⟩ ⟨Nat.le_of_ble_eq_true rfl, Nat.le_of_ble_eq_true rfl⟩ (ct_J6_bitCount_0f7a4 (by omega) (by omega)) rfl (by rfl) (by exact Nat.le_of_ble_eq_true rfl) ?_
          refine V_iload (pc := 60) X dX1_seek_60 rfl ?_
          refine V_icmp_gt (pc := 62) X 97 dX1_seek_62 (by decide) ⟨by omega, by omega⟩ ⟨by omega, by omega⟩ (fun c_62 => ?_) (fun c_62 => ?_)
          · skip
            refine V_iinc (pc := 97) X dX1_seek_97 rfl rfl ?_
            refine V_goto (pc := 100) X 38 dX1_seek_100 (by decide) ?_
            refine V_fgt 10 ?_
            first
              | exact V_heap (congrArg (c_mx h) (show m_sk h pl mo t k c (0, qb, qc, qd) (i + 1) = _ from if_neg (fun g => c_52 g.1)).symm) (ih_38 (i + 1) (by omega) (by omega))
              | exact V_heap (congrArg (c_mx h) (show m_sk h pl mo t k c (0, qb, qc, qd) (i + 1) = _ from if_neg (fun g => Int.not_lt.mpr g.2 c_62)).symm) (ih_38 (i + 1) (by omega) (by omega))
              | exact V_heap (congrArg (c_mx h) (show m_sk h pl mo t k c (0, qb, qc, qd) (i + 1) = _ from if_pos ⟨c_52, Int.not_lt.mp c_62⟩).symm) (ih_38 (i + 1) (by omega) (by omega))
          · skip
            have hpl2 := hpi (i : Int) (by omega) (by omega)
            have han := z_and_rngL (x := c_lets h pl mo (c_own h pl mo t k)) (y := h (pl + 2) (i : Int)) (by omega) (by omega)
            refine V_aload_n (pc := 65) X dX1_seek_65 rfl (by first | decide | omega | assumption) ?_
            refine V_iload (pc := 66) X dX1_seek_66 rfl ?_
            refine V_FV (pc := 68) X dX1_seek_68 oX5_letsThrough l_RX1_35 eX5_letsThrough vX5_letsThrough ⟨Nat.le_of_ble_eq_true rfl, Nat.le_of_ble_eq_true rfl⟩ ⟨rfl, rfl⟩ ⟨Nat.le_of_ble_eq_true rfl, Nat.le_of_ble_eq_true rfl⟩ (ct_X5_letsThrough hS1 (by omega) (by omega)) rfl (by first | rfl | assumption | (simp only [*]; done) | omega) (by intro q h; cases h; rfl) rfl (by rfl) (by exact Nat.le_of_ble_eq_true rfl) ?_
            rw [E.lets]
            refine V_aload_n (pc := 71) X dX1_seek_71 rfl (by first | decide | omega | assumption) ?_
            refine V_gz (pc := 72) X dX1_seek_72 f_RX1_38 (by first | rfl | assumption | (simp only [*]; done) | omega) 1 rfl (show _ = pl from by rw [c_mx_cell h _ (by decide)]; exact r31) ?_
            refine V_gz (pc := 75) X dX1_seek_75 f_RX1_42 (by first | rfl | assumption | (simp only [*]; done) | omega) 1 rfl (show _ = pl + 2 from by rw [c_mx_cell h _ (fun e => by rw [e] at kp; revert kp; decide)]; exact rp1) ?_
            refine V_iload (pc := 78) X dX1_seek_78 rfl ?_
            refine V_iald (pc := 80) X dX1_seek_80 (by first | rfl | assumption | (simp only [*]; done) | omega) (by omega) (by omega) (by decide) ?_
            rw [show c_mx h (m_sk h pl mo t k c (0, qb, qc, qd) i) (pl + 2) (i : Int) = h (pl + 2) (i : Int) from by rw [c_mx_cell h _ (fun e => by rw [e] at kp2; revert kp2; decide)]]
            refine V_iand (pc := 81) X dX1_seek_81 ?_
            refine V_istore (pc := 82) X dX1_seek_82 (by exact Nat.le_of_ble_eq_true rfl) rfl ?_
            refine V_aload_n (pc := 84) X dX1_seek_84 rfl (by first | decide | omega | assumption) ?_
            refine V_aload_n (pc := 85) X dX1_seek_85 rfl (by first | decide | omega | assumption) ?_
            refine V_iload (pc := 86) X dX1_seek_86 rfl ?_
            refine V_iload (pc := 88) X dX1_seek_88 rfl ?_
            refine V_iload (pc := 90) X dX1_seek_90 rfl ?_
            refine V_iload (pc := 92) X dX1_seek_92 rfl ?_
            refine V_CV (pc := 94) X dX1_seek_94 oX1_seekLatter l_RX1_48 eX1_seekLatter vX1_seekLatter ⟨Nat.le_of_ble_eq_true rfl, Nat.le_of_ble_eq_true rfl⟩ ⟨rfl, rfl⟩ ⟨Nat.le_of_ble_eq_true rfl, Nat.le_of_ble_eq_true rfl⟩ (ct_X1_seekLatter hS hmk ⟨by omega, by omega⟩ ⟨by omega, by omega⟩ ⟨by omega, by omega⟩ ⟨by omega, by omega⟩) rfl (by first | rfl | assumption | (simp only [*]; done) | omega) (by intro q h; cases h; rfl) rfl (by rfl) (by exact Nat.le_of_ble_eq_true rfl) (fun r h1 hp => ?_)
            obtain ⟨rfl, rfl⟩ := hp
            refine V_iinc (pc := 97) X dX1_seek_97 rfl rfl ?_
            refine V_goto (pc := 100) X 38 dX1_seek_100 (by decide) ?_
            refine V_fgt 10 ?_
            first
              | exact V_heap (congrArg (c_mx h) (show m_sk h pl mo t k c (0, qb, qc, qd) (i + 1) = _ from if_neg (fun g => c_52 g.1)).symm) (ih_38 (i + 1) (by omega) (by omega))
              | exact V_heap (congrArg (c_mx h) (show m_sk h pl mo t k c (0, qb, qc, qd) (i + 1) = _ from if_neg (fun g => Int.not_lt.mpr g.2 c_62)).symm) (ih_38 (i + 1) (by omega) (by omega))
              | exact V_heap (congrArg (c_mx h) (show m_sk h pl mo t k c (0, qb, qc, qd) (i + 1) = _ from if_pos ⟨c_52, Int.not_lt.mp c_62⟩).symm) (ih_38 (i + 1) (by omega) (by omega))
  exact lp_38 _ 0 (Nat.lt_succ_self _) (by omega)
