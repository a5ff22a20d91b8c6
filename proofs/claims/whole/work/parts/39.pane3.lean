/-! PaneLight, 3 -/
set_option maxHeartbeats 4000000 in
set_option maxRecDepth 100000 in
theorem ct_X9_mix {h : z_H} (hO : c_Ob h) {pl mo : Int} (hS : c_Sc h pl mo) (hmq : m_ok (h 31 0, h 31 1, h 31 2, h 31 3)) {x y k c w : Int} (hx : z_R x) (hy : z_R y) (hk : z_R k) (hc : z_R c) (hw9 : z_R w) : z_Ct mX9_mix 107 [(2, 0), (0, x), (0, y), (0, k), (0, c), (0, w)] h (fun r h2 => (¬ c_mixOk x y k c w ∧ r = some (0, -1) ∧ h2 = h) ∨ (c_mixOk x y k c w ∧ r = some (0, c_mixA (c_mixQ h pl mo (7 * x + y) k c) w) ∧ h2 = c_mx h (c_mixQ h pl mo (7 * x + y) k c))) := by
  refine z_mk (L := [(2, 0), (0, x), (0, y), (0, k), (0, c), (0, w)]) oX9_mix.2.2.2.2 (Nat.le_of_ble_eq_true rfl) rfl ?_
  intro Γ X hQ
  obtain ⟨ob0, ob1, ob2, ob3, ob4, ob5, ob6, ob7, r320⟩ := id hO
  obtain ⟨r30, r31, r42, ⟨kp, rp0, rp1, kp1, kp2, hw, hh, hs, hgl, hpi⟩, ⟨km, rm0, km1, hbr, hmi, hse, hbf⟩⟩ := id hS
  obtain ⟨hx1, hx2⟩ := hx
  obtain ⟨hy1, hy2⟩ := hy
  obtain ⟨hk1, hk2⟩ := hk
  obtain ⟨hc1, hc2⟩ := hc
  obtain ⟨hwa, hwb⟩ := hw9
  refine V_iload_n (pc := 0) X dX9_mix_0 rfl ?_
  refine V_iload_n (pc := 1) X dX9_mix_1 rfl ?_
  refine V_FS (pc := 2) X dX9_mix_2 oX9_isTile l_RX9_166 sX9_isTile ⟨Nat.le_of_ble_eq_true rfl, Nat.le_of_ble_eq_true rfl⟩ ⟨rfl, rfl⟩ ⟨Nat.le_of_ble_eq_true rfl, Nat.le_of_ble_eq_true rfl⟩ (ct_X9_isTile ⟨by omega, by omega⟩ ⟨by omega, by omega⟩) rfl (by rfl) (by exact Nat.le_of_ble_eq_true rfl) ?_
  refine V_bif_eq (pc := 5) X 34 dX9_mix_5 (by decide)  (fun c_5 => ?_) (fun c_5 => ?_)
  · skip
    refine V_iconst (pc := 34) X dX9_mix_34 ?_
    refine V_iret (st := []) (pc := 35) X hQ dX9_mix_35 rfl rfl ?_
    exact Or.inl ⟨by intro g; obtain ⟨g1, g2, g3, g4, g5⟩ := g; first | (rw [c_5] at g1; exact absurd g1 (by decide)) | (rw [c_12] at g2; exact absurd g2 (by decide)) | (rw [c_20] at g3; exact absurd g3 (by decide)) | omega, rfl, rfl⟩
  · skip
    refine V_iload_n (pc := 8) X dX9_mix_8 rfl ?_
    refine V_FS (pc := 9) X dX9_mix_9 oX9_isHour l_RX9_170 sX9_isHour ⟨Nat.le_of_ble_eq_true rfl, Nat.le_of_ble_eq_true rfl⟩ ⟨rfl, rfl⟩ ⟨Nat.le_of_ble_eq_true rfl, Nat.le_of_ble_eq_true rfl⟩ (ct_X9_isHour ⟨by omega, by omega⟩) rfl (by rfl) (by exact Nat.le_of_ble_eq_true rfl) ?_
    refine V_bif_eq (pc := 12) X 34 dX9_mix_12 (by decide)  (fun c_12 => ?_) (fun c_12 => ?_)
    · skip
      refine V_iconst (pc := 34) X dX9_mix_34 ?_
      refine V_iret (st := []) (pc := 35) X hQ dX9_mix_35 rfl rfl ?_
      exact Or.inl ⟨by intro g; obtain ⟨g1, g2, g3, g4, g5⟩ := g; first | (rw [c_5] at g1; exact absurd g1 (by decide)) | (rw [c_12] at g2; exact absurd g2 (by decide)) | (rw [c_20] at g3; exact absurd g3 (by decide)) | omega, rfl, rfl⟩
    · skip
      refine V_iload (pc := 15) X dX9_mix_15 rfl ?_
      refine V_FS (pc := 17) X dX9_mix_17 oX9_isColour l_RX9_179 sX9_isColour ⟨Nat.le_of_ble_eq_true rfl, Nat.le_of_ble_eq_true rfl⟩ ⟨rfl, rfl⟩ ⟨Nat.le_of_ble_eq_true rfl, Nat.le_of_ble_eq_true rfl⟩ (ct_X9_isColour ⟨by omega, by omega⟩) rfl (by rfl) (by exact Nat.le_of_ble_eq_true rfl) ?_
      refine V_bif_eq (pc := 20) X 34 dX9_mix_20 (by decide)  (fun c_20 => ?_) (fun c_20 => ?_)
      · skip
        refine V_iconst (pc := 34) X dX9_mix_34 ?_
        refine V_iret (st := []) (pc := 35) X hQ dX9_mix_35 rfl rfl ?_
        exact Or.inl ⟨by intro g; obtain ⟨g1, g2, g3, g4, g5⟩ := g; first | (rw [c_5] at g1; exact absurd g1 (by decide)) | (rw [c_12] at g2; exact absurd g2 (by decide)) | (rw [c_20] at g3; exact absurd g3 (by decide)) | omega, rfl, rfl⟩
      · skip
        refine V_iload (pc := 23) X dX9_mix_23 rfl ?_
        refine V_if_lt (pc := 25) X 34 dX9_mix_25 (by decide) ⟨by omega, by omega⟩ (fun c_25 => ?_) (fun c_25 => ?_)
        · skip
          refine V_iconst (pc := 34) X dX9_mix_34 ?_
          refine V_iret (st := []) (pc := 35) X hQ dX9_mix_35 rfl rfl ?_
          exact Or.inl ⟨by intro g; obtain ⟨g1, g2, g3, g4, g5⟩ := g; first | (rw [c_5] at g1; exact absurd g1 (by decide)) | (rw [c_12] at g2; exact absurd g2 (by decide)) | (rw [c_20] at g3; exact absurd g3 (by decide)) | omega, rfl, rfl⟩
        · skip
          refine V_iload (pc := 28) X dX9_mix_28 rfl ?_
          refine V_iconst (pc := 30) X dX9_mix_30 ?_
          refine V_icmp_le (pc := 31) X 36 dX9_mix_31 (by decide) ⟨by omega, by omega⟩ ⟨by omega, by omega⟩ (fun c_31 => ?_) (fun c_31 => ?_)
          · skip
            have tb1 := of_decide_eq_true c_5
            have tb2 := of_decide_eq_true c_12
            have tb3 := of_decide_eq_true c_20
            refine V_heap (c_mx_same h).symm ?_
            refine V_aload_n (pc := 36) X dX9_mix_36 rfl (by first | decide | omega | assumption) ?_
            refine V_gz (pc := 37) X dX9_mix_37 f_RX9_26 (by first | rfl | assumption | (simp only [*]; done) | omega) 2 rfl (show _ = (31 : Int) from by rw [c_mx_cell h _ (by decide)]; exact ob2) ?_
            refine V_aload_n (pc := 40) X dX9_mix_40 rfl (by first | decide | omega | assumption) ?_
            refine V_gz (pc := 41) X dX9_mix_41 f_RX9_19 (by first | rfl | assumption | (simp only [*]; done) | omega) 1 rfl (show _ = (3 : Int) from by rw [c_mx_cell h _ (by decide)]; exact ob1) ?_
            refine V_iload_n (pc := 44) X dX9_mix_44 rfl ?_
            refine V_iload_n (pc := 45) X dX9_mix_45 rfl ?_
            refine V_FS (pc := 46) X dX9_mix_46 oX9_numberOf l_RX9_173 sX9_numberOf ⟨Nat.le_of_ble_eq_true rfl, Nat.le_of_ble_eq_true rfl⟩ ⟨rfl, rfl⟩ ⟨Nat.le_of_ble_eq_true rfl, Nat.le_of_ble_eq_true rfl⟩ (ct_X9_numberOf) rfl (by rfl) (by exact Nat.le_of_ble_eq_true rfl) ?_
            refine V_iload_n (pc := 49) X dX9_mix_49 rfl ?_
            refine V_iload (pc := 50) X dX9_mix_50 rfl ?_
            refine V_CV (pc := 52) X dX9_mix_52 oX1_seek l_RX9_182 eX1_seek vX1_seek ⟨Nat.le_of_ble_eq_true rfl, Nat.le_of_ble_eq_true rfl⟩ ⟨rfl, rfl⟩ ⟨Nat.le_of_ble_eq_true rfl, Nat.le_of_ble_eq_true rfl⟩ (ct_X1_seek hS hmq (by omega) (by omega) (by omega) (by omega) ⟨by omega, by omega⟩) rfl (by first | rfl | assumption | (simp only [*]; done) | omega) (by intro q h; cases h; rfl) rfl (by rfl) (by exact Nat.le_of_ble_eq_true rfl) (fun r h1 hp => ?_)
            obtain ⟨rfl, rfl⟩ := hp
            rw [show m_sk h pl mo (7 * x + y) k c (0, (h 31 0, h 31 1, h 31 2, h 31 3).2.1, (h 31 0, h 31 1, h 31 2, h 31 3).2.2.1, (h 31 0, h 31 1, h 31 2, h 31 3).2.2.2) ((c_box h pl mo).toNat + 1) = (c_mixQ h pl mo (7 * x + y) k c) from rfl]
            have hmk : m_ok (c_mixQ h pl mo (7 * x + y) k c) := m_sk_ok (q := (0, h 31 1, h 31 2, h 31 3)) (show m_ok _ from ⟨Or.inl rfl, hmq.2.1, hmq.2.2⟩) _
            refine V_aload_n (pc := 55) X dX9_mix_55 rfl (by first | decide | omega | assumption) ?_
            refine V_gz (pc := 56) X dX9_mix_56 f_RX9_26 (by first | rfl | assumption | (simp only [*]; done) | omega) 2 rfl (show _ = (31 : Int) from by rw [c_mx_cell h _ (by decide)]; exact ob2) ?_
            refine V_gz (pc := 59) X dX9_mix_59 f_RX9_186 (by first | rfl | assumption | (simp only [*]; done) | omega) 0 rfl (show _ = (c_mixQ h pl mo (7 * x + y) k c).1 from c_mx_0 h (c_mixQ h pl mo (7 * x + y) k c)) ?_
            have hm01 := hmk.1
            refine V_if_ne (pc := 62) X 68 dX9_mix_62 (by decide) ⟨by omega, by omega⟩ (fun c_62 => ?_) (fun c_62 => ?_)
            · skip
              refine V_iload (pc := 68) X dX9_mix_68 rfl ?_
              by_cases e_0 : w = 0
              · skip
                refine V_lsw (pc := 70) X 96 dX9_mix_70 ⟨by omega, by omega⟩ (by decide) (by first | (rw [e_0]; done) | (rw [e_0]; rfl)) (by decide) ?_
                refine V_aload_n (pc := 96) X dX9_mix_96 rfl (by first | decide | omega | assumption) ?_
                refine V_gz (pc := 97) X dX9_mix_97 f_RX9_26 (by first | rfl | assumption | (simp only [*]; done) | omega) 2 rfl (show _ = (31 : Int) from by rw [c_mx_cell h _ (by decide)]; exact ob2) ?_
                refine V_gz (pc := 100) X dX9_mix_100 f_RX9_190 (by first | rfl | assumption | (simp only [*]; done) | omega) 1 rfl (show _ = (c_mixQ h pl mo (7 * x + y) k c).2.1 from c_mx_1 h (c_mixQ h pl mo (7 * x + y) k c)) ?_
                refine V_iret (st := []) (pc := 103) X hQ dX9_mix_103 rfl rfl ?_
                exact Or.inr ⟨⟨c_5, c_12, c_20, by omega, by omega⟩, by unfold c_mixA; rw [if_neg c_62, if_pos e_0], rfl⟩
              by_cases e_1 : w = 1
              · skip
                refine V_lsw (pc := 70) X 104 dX9_mix_70 ⟨by omega, by omega⟩ (by decide) (by first | (rw [e_1]; done) | (rw [e_1]; rfl)) (by decide) ?_
                refine V_aload_n (pc := 104) X dX9_mix_104 rfl (by first | decide | omega | assumption) ?_
                refine V_gz (pc := 105) X dX9_mix_105 f_RX9_26 (by first | rfl | assumption | (simp only [*]; done) | omega) 2 rfl (show _ = (31 : Int) from by rw [c_mx_cell h _ (by decide)]; exact ob2) ?_
                refine V_gz (pc := 108) X dX9_mix_108 f_RX9_193 (by first | rfl | assumption | (simp only [*]; done) | omega) 2 rfl (show _ = (c_mixQ h pl mo (7 * x + y) k c).2.2.1 from c_mx_2 h (c_mixQ h pl mo (7 * x + y) k c)) ?_
                refine V_iret (st := []) (pc := 111) X hQ dX9_mix_111 rfl rfl ?_
                exact Or.inr ⟨⟨c_5, c_12, c_20, by omega, by omega⟩, by unfold c_mixA; rw [if_neg c_62, if_neg e_0, if_pos e_1], rfl⟩
              refine V_lsw (pc := 70) X 112 dX9_mix_70 ⟨by omega, by omega⟩ (by decide) (by show Op.lookupswitch.offset [(0, 26), (1, 34)] 42 (w) = 42; rw [Op.lookupswitch.offset_cons, if_neg (by omega), Op.lookupswitch.offset_cons, if_neg (by omega)]; rfl) (by decide) ?_
              refine V_aload_n (pc := 112) X dX9_mix_112 rfl (by first | decide | omega | assumption) ?_
              refine V_gz (pc := 113) X dX9_mix_113 f_RX9_26 (by first | rfl | assumption | (simp only [*]; done) | omega) 2 rfl (show _ = (31 : Int) from by rw [c_mx_cell h _ (by decide)]; exact ob2) ?_
              refine V_gz (pc := 116) X dX9_mix_116 f_RX9_196 (by first | rfl | assumption | (simp only [*]; done) | omega) 3 rfl (show _ = (c_mixQ h pl mo (7 * x + y) k c).2.2.2 from c_mx_3 h (c_mixQ h pl mo (7 * x + y) k c)) ?_
              refine V_iret (st := []) (pc := 119) X hQ dX9_mix_119 rfl rfl ?_
              exact Or.inr ⟨⟨c_5, c_12, c_20, by omega, by omega⟩, by unfold c_mixA; rw [if_neg c_62, if_neg e_0, if_neg e_1], rfl⟩
            · skip
              refine V_bipush (pc := 65) X dX9_mix_65 (by decide) ?_
              refine V_iret (st := []) (pc := 67) X hQ dX9_mix_67 rfl rfl ?_
              exact Or.inr ⟨⟨c_5, c_12, c_20, by omega, by omega⟩, by unfold c_mixA; rw [if_pos c_62], rfl⟩
          · skip
            refine V_iconst (pc := 34) X dX9_mix_34 ?_
            refine V_iret (st := []) (pc := 35) X hQ dX9_mix_35 rfl rfl ?_
            exact Or.inl ⟨by intro g; obtain ⟨g1, g2, g3, g4, g5⟩ := g; first | (rw [c_5] at g1; exact absurd g1 (by decide)) | (rw [c_12] at g2; exact absurd g2 (by decide)) | (rw [c_20] at g3; exact absurd g3 (by decide)) | omega, rfl, rfl⟩
set_option maxHeartbeats 4000000 in
set_option maxRecDepth 100000 in
theorem ct_X9_child {h : z_H} (hO : c_Ob h) {pl mo : Int} (hS : c_Sc h pl mo) (hst : ∀ i, 0 ≤ i → i < 756 → 0 ≤ h 33 i ∧ h 33 i ≤ 8) (h8 : ∀ u, 0 ≤ u → u < 84 → h 33 (8 * 84 + u) = 0) {x y k c j : Int} (hx : z_R x) (hy : z_R y) (hk : z_R k) (hc : z_R c) (hj : z_R j) : z_Ct mX9_child 107 [(2, 0), (0, x), (0, y), (0, k), (0, c), (0, j)] h (fun r h2 => (¬ (c_tile x y = true ∧ c_hour k = true ∧ c_hour c = true ∧ ¬ c = 0 ∧ -1 ≤ j ∧ j ≤ 7) ∧ r = some (0, -1) ∧ h2 = h) ∨ ((c_tile x y = true ∧ c_hour k = true ∧ c_hour c = true ∧ ¬ c = 0 ∧ -1 ≤ j ∧ j ≤ 7) ∧ ∃ f : Int → Int, (∀ i, 0 ≤ i → i < 756 → 0 ≤ f i ∧ f i ≤ 8) ∧ (∀ kk : Nat, k ≤ (kk : Int) → kk ≤ 8 → ∀ u, 0 ≤ u → u < 84 → f (kk * 84 + u) = w_S (w_lt h pl mo c) (8 - kk) u) ∧ r = some (0, if j = -1 then w_S (w_lt h pl mo c) (8 - k.toNat) (7 * x + y) else if j < w_S (w_lt h pl mo c) (8 - k.toNat) (7 * x + y) then w_after (w_H h f) k (7 * x + y) j.toNat else -9) ∧ h2 = w_H h f)) := by
  refine z_mk (L := [(2, 0), (0, x), (0, y), (0, k), (0, c), (0, j), (9, 0)]) oX9_child.2.2.2.2 (Nat.le_of_ble_eq_true rfl) rfl ?_
  intro Γ X hQ
  obtain ⟨ob0, ob1, ob2, ob3, ob4, ob5, ob6, ob7, r320⟩ := id hO
  obtain ⟨r30, r31, r42, ⟨kp, rp0, rp1, kp1, kp2, hw, hh, hs, hgl, hpi⟩, ⟨km, rm0, km1, hbr, hmi, hse, hbf⟩⟩ := id hS
  obtain ⟨hx1, hx2⟩ := hx
  obtain ⟨hy1, hy2⟩ := hy
  obtain ⟨hk1, hk2⟩ := hk
  obtain ⟨hc1, hc2⟩ := hc
  obtain ⟨hj1, hj2⟩ := hj
  refine V_iload_n (pc := 0) X dX9_child_0 rfl ?_
  refine V_iload_n (pc := 1) X dX9_child_1 rfl ?_
  refine V_FS (pc := 2) X dX9_child_2 oX9_isTile l_RX9_166 sX9_isTile ⟨Nat.le_of_ble_eq_true rfl, Nat.le_of_ble_eq_true rfl⟩ ⟨rfl, rfl⟩ ⟨Nat.le_of_ble_eq_true rfl, Nat.le_of_ble_eq_true rfl⟩ (ct_X9_isTile ⟨by omega, by omega⟩ ⟨by omega, by omega⟩) rfl (by rfl) (by exact Nat.le_of_ble_eq_true rfl) ?_
  refine V_bif_eq (pc := 5) X 28 dX9_child_5 (by decide)  (fun c_5 => ?_) (fun c_5 => ?_)
  · skip
    refine V_iconst (pc := 28) X dX9_child_28 ?_
    refine V_iret (st := []) (pc := 29) X hQ dX9_child_29 rfl rfl ?_
    exact Or.inl ⟨by intro g; obtain ⟨g1, g2, g3, g4, g5, g6⟩ := g; first | (rw [c_5] at g1; exact absurd g1 (by decide)) | (rw [c_12] at g2; exact absurd g2 (by decide)) | (rw [c_20] at g3; exact absurd g3 (by decide)) | exact g4 c_25 | omega, rfl, rfl⟩
  · skip
    refine V_iload_n (pc := 8) X dX9_child_8 rfl ?_
    refine V_FS (pc := 9) X dX9_child_9 oX9_isHour l_RX9_170 sX9_isHour ⟨Nat.le_of_ble_eq_true rfl, Nat.le_of_ble_eq_true rfl⟩ ⟨rfl, rfl⟩ ⟨Nat.le_of_ble_eq_true rfl, Nat.le_of_ble_eq_true rfl⟩ (ct_X9_isHour ⟨by omega, by omega⟩) rfl (by rfl) (by exact Nat.le_of_ble_eq_true rfl) ?_
    refine V_bif_eq (pc := 12) X 28 dX9_child_12 (by decide)  (fun c_12 => ?_) (fun c_12 => ?_)
    · skip
      refine V_iconst (pc := 28) X dX9_child_28 ?_
      refine V_iret (st := []) (pc := 29) X hQ dX9_child_29 rfl rfl ?_
      exact Or.inl ⟨by intro g; obtain ⟨g1, g2, g3, g4, g5, g6⟩ := g; first | (rw [c_5] at g1; exact absurd g1 (by decide)) | (rw [c_12] at g2; exact absurd g2 (by decide)) | (rw [c_20] at g3; exact absurd g3 (by decide)) | exact g4 c_25 | omega, rfl, rfl⟩
    · skip
      refine V_iload (pc := 15) X dX9_child_15 rfl ?_
      refine V_FS (pc := 17) X dX9_child_17 oX9_isColour l_RX9_179 sX9_isColour ⟨Nat.le_of_ble_eq_true rfl, Nat.le_of_ble_eq_true rfl⟩ ⟨rfl, rfl⟩ ⟨Nat.le_of_ble_eq_true rfl, Nat.le_of_ble_eq_true rfl⟩ (ct_X9_isColour ⟨by omega, by omega⟩) rfl (by rfl) (by exact Nat.le_of_ble_eq_true rfl) ?_
      refine V_bif_eq (pc := 20) X 28 dX9_child_20 (by decide)  (fun c_20 => ?_) (fun c_20 => ?_)
      · skip
        refine V_iconst (pc := 28) X dX9_child_28 ?_
        refine V_iret (st := []) (pc := 29) X hQ dX9_child_29 rfl rfl ?_
        exact Or.inl ⟨by intro g; obtain ⟨g1, g2, g3, g4, g5, g6⟩ := g; first | (rw [c_5] at g1; exact absurd g1 (by decide)) | (rw [c_12] at g2; exact absurd g2 (by decide)) | (rw [c_20] at g3; exact absurd g3 (by decide)) | exact g4 c_25 | omega, rfl, rfl⟩
      · skip
        refine V_iload (pc := 23) X dX9_child_23 rfl ?_
        refine V_if_ne (pc := 25) X 30 dX9_child_25 (by decide) ⟨by omega, by omega⟩ (fun c_25 => ?_) (fun c_25 => ?_)
        · skip
          refine V_iload (pc := 30) X dX9_child_30 rfl ?_
          refine V_iconst (pc := 32) X dX9_child_32 ?_
          refine V_icmp_lt (pc := 33) X 43 dX9_child_33 (by decide) ⟨by omega, by omega⟩ ⟨by omega, by omega⟩ (fun c_33 => ?_) (fun c_33 => ?_)
          · skip
            refine V_iconst (pc := 43) X dX9_child_43 ?_
            refine V_iret (st := []) (pc := 44) X hQ dX9_child_44 rfl rfl ?_
            exact Or.inl ⟨by intro g; obtain ⟨g1, g2, g3, g4, g5, g6⟩ := g; first | (rw [c_5] at g1; exact absurd g1 (by decide)) | (rw [c_12] at g2; exact absurd g2 (by decide)) | (rw [c_20] at g3; exact absurd g3 (by decide)) | exact g4 c_25 | omega, rfl, rfl⟩
          · skip
            refine V_iload (pc := 36) X dX9_child_36 rfl ?_
            refine V_bipush (pc := 38) X dX9_child_38 (by decide) ?_
            refine V_icmp_lt (pc := 40) X 45 dX9_child_40 (by decide) ⟨by omega, by omega⟩ ⟨by omega, by omega⟩ (fun c_40 => ?_) (fun c_40 => ?_)
            · skip
              have tb1 := of_decide_eq_true c_5
              have tb2 := of_decide_eq_true c_12
              have tb3 := of_decide_eq_true c_20
              obtain ⟨kn, rfl⟩ := Int.eq_ofNat_of_zero_le tb2.1
              refine V_aload_n (pc := 45) X dX9_child_45 rfl (by first | decide | omega | assumption) ?_
              refine V_gz (pc := 46) X dX9_child_46 f_RX9_33 (by first | rfl | assumption | (simp only [*]; done) | omega) 3 rfl ob3 ?_
              refine V_aload_n (pc := 49) X dX9_child_49 rfl (by first | decide | omega | assumption) ?_
              refine V_gz (pc := 50) X dX9_child_50 f_RX9_19 (by first | rfl | assumption | (simp only [*]; done) | omega) 1 rfl ob1 ?_
              refine V_iload_n (pc := 53) X dX9_child_53 rfl ?_
              refine V_iload_n (pc := 54) X dX9_child_54 rfl ?_
              refine V_FS (pc := 55) X dX9_child_55 oX9_numberOf l_RX9_173 sX9_numberOf ⟨Nat.le_of_ble_eq_true rfl, Nat.le_of_ble_eq_true rfl⟩ ⟨rfl, rfl⟩ ⟨Nat.le_of_ble_eq_true rfl, Nat.le_of_ble_eq_true rfl⟩ (ct_X9_numberOf) rfl (by rfl) (by exact Nat.le_of_ble_eq_true rfl) ?_
              refine V_iload_n (pc := 58) X dX9_child_58 rfl ?_
              refine V_iload (pc := 59) X dX9_child_59 rfl ?_
              refine V_CV (pc := 61) X dX9_child_61 oX7_hoursFrom l_RX9_199 eX7_hoursFrom vX7_hoursFrom ⟨Nat.le_of_ble_eq_true rfl, Nat.le_of_ble_eq_true rfl⟩ ⟨rfl, rfl⟩ ⟨Nat.le_of_ble_eq_true rfl, Nat.le_of_ble_eq_true rfl⟩ (ct_X7_hoursFrom r320 hst hS h8 (by omega) (by omega) (by omega) ⟨by omega, by omega⟩) rfl (by first | rfl | assumption | (simp only [*]; done) | omega) (by intro q h; cases h; rfl) rfl (by rfl) (by exact Nat.le_of_ble_eq_true rfl) (fun r h1 hp => ?_)
              obtain ⟨rfl, f, rfl, hf, hrow⟩ := hp
              have hsr := w_S_rng (w_lt h pl mo c) (8 - kn) (7 * x + y)
              have OK : (c_tile x y = true ∧ c_hour (kn : Int) = true ∧ c_hour c = true ∧ ¬ c = 0 ∧ -1 ≤ j ∧ j ≤ 7) := ⟨c_5, c_12, c_20, c_25, by omega, by omega⟩
              refine V_istore (pc := 64) X dX9_child_64 (by exact Nat.le_of_ble_eq_true rfl) rfl ?_
              refine V_iload (pc := 66) X dX9_child_66 rfl ?_
              refine V_iconst (pc := 68) X dX9_child_68 ?_
              refine V_icmp_ne (pc := 69) X 75 dX9_child_69 (by decide) ⟨by omega, by omega⟩ ⟨by omega, by omega⟩ (fun c_69 => ?_) (fun c_69 => ?_)
              · skip
                refine V_iload (pc := 75) X dX9_child_75 rfl ?_
                refine V_iload (pc := 77) X dX9_child_77 rfl ?_
                refine V_icmp_ge (pc := 79) X 100 dX9_child_79 (by decide) ⟨by omega, by omega⟩ ⟨by omega, by omega⟩ (fun c_79 => ?_) (fun c_79 => ?_)
                · skip
                  refine V_bipush (pc := 100) X dX9_child_100 (by decide) ?_
                  refine V_iret (st := []) (pc := 102) X hQ dX9_child_102 rfl rfl ?_
                  exact Or.inr ⟨OK, f, hf, fun kk a b u c1 c2 => hrow kk (by omega) b u c1 c2, by simp only [Int.toNat_natCast]; first | (rw [if_neg (by omega), if_neg (Int.not_lt.mpr c_79)]) | (rw [if_neg (by omega), if_pos (Int.not_le.mp c_79)]), rfl⟩
                · skip
                  refine V_aload_n (pc := 82) X dX9_child_82 rfl (by first | decide | omega | assumption) ?_
                  refine V_gz (pc := 83) X dX9_child_83 f_RX9_33 (by first | rfl | assumption | (simp only [*]; done) | omega) 3 rfl (show _ = (32 : Int) from by rw [w_H_ne h f (by decide)]; exact ob3) ?_
                  refine V_iload_n (pc := 86) X dX9_child_86 rfl ?_
                  refine V_iload_n (pc := 87) X dX9_child_87 rfl ?_
                  refine V_FS (pc := 88) X dX9_child_88 oX9_numberOf l_RX9_173 sX9_numberOf ⟨Nat.le_of_ble_eq_true rfl, Nat.le_of_ble_eq_true rfl⟩ ⟨rfl, rfl⟩ ⟨Nat.le_of_ble_eq_true rfl, Nat.le_of_ble_eq_true rfl⟩ (ct_X9_numberOf) rfl (by rfl) (by exact Nat.le_of_ble_eq_true rfl) ?_
                  refine V_iload_n (pc := 91) X dX9_child_91 rfl ?_
                  refine V_iload (pc := 92) X dX9_child_92 rfl ?_
                  obtain ⟨jn, rfl⟩ := Int.eq_ofNat_of_zero_le (show 0 ≤ j by omega)
                  refine V_FV (pc := 94) X dX9_child_94 oX7_tileAfter l_RX9_203 eX7_tileAfter vX7_tileAfter ⟨Nat.le_of_ble_eq_true rfl, Nat.le_of_ble_eq_true rfl⟩ ⟨rfl, rfl⟩ ⟨Nat.le_of_ble_eq_true rfl, Nat.le_of_ble_eq_true rfl⟩ (ct_X7_tileAfter (n := jn) (show w_H h f 32 0 = 33 from by rw [w_H_ne h f (by decide)]; exact r320) (fun i a b => by rw [w_H_at]; exact hf i a b) ⟨by omega, by omega⟩ (by omega) (by omega)) rfl (by first | rfl | assumption | (simp only [*]; done) | omega) (by intro q h; cases h; rfl) rfl (by rfl) (by exact Nat.le_of_ble_eq_true rfl) ?_
                  refine V_goto (pc := 97) X 102 dX9_child_97 (by decide) ?_
                  refine V_iret (st := []) (pc := 102) X hQ dX9_child_102 rfl rfl ?_
                  exact Or.inr ⟨OK, f, hf, fun kk a b u c1 c2 => hrow kk (by omega) b u c1 c2, by simp only [Int.toNat_natCast]; first | (rw [if_neg (by omega), if_neg (Int.not_lt.mpr c_79)]) | (rw [if_neg (by omega), if_pos (Int.not_le.mp c_79)]), rfl⟩
              · skip
                refine V_iload (pc := 72) X dX9_child_72 rfl ?_
                refine V_iret (st := []) (pc := 74) X hQ dX9_child_74 rfl rfl ?_
                exact Or.inr ⟨OK, f, hf, fun kk a b u c1 c2 => hrow kk (by omega) b u c1 c2, by rw [if_pos c_69, Int.toNat_natCast], rfl⟩
            · skip
              refine V_iconst (pc := 43) X dX9_child_43 ?_
              refine V_iret (st := []) (pc := 44) X hQ dX9_child_44 rfl rfl ?_
              exact Or.inl ⟨by intro g; obtain ⟨g1, g2, g3, g4, g5, g6⟩ := g; first | (rw [c_5] at g1; exact absurd g1 (by decide)) | (rw [c_12] at g2; exact absurd g2 (by decide)) | (rw [c_20] at g3; exact absurd g3 (by decide)) | exact g4 c_25 | omega, rfl, rfl⟩
        · skip
          refine V_iconst (pc := 28) X dX9_child_28 ?_
          refine V_iret (st := []) (pc := 29) X hQ dX9_child_29 rfl rfl ?_
          exact Or.inl ⟨by intro g; obtain ⟨g1, g2, g3, g4, g5, g6⟩ := g; first | (rw [c_5] at g1; exact absurd g1 (by decide)) | (rw [c_12] at g2; exact absurd g2 (by decide)) | (rw [c_20] at g3; exact absurd g3 (by decide)) | exact g4 c_25 | omega, rfl, rfl⟩
set_option maxHeartbeats 4000000 in
set_option maxRecDepth 100000 in
theorem ct_X9_paint {h : z_H} (hO : c_Ob h) {pl mo : Int} (hS : c_Sc h pl mo) {w : Int} (hw9 : z_R w) : z_Ct mX9_paint 107 [(2, 0), (0, w)] h (z_pure (0, c_paintF h pl mo w) h) := by
  refine z_mk (L := [(2, 0), (0, w), (9, 0)]) oX9_paint.2.2.2.2 (Nat.le_of_ble_eq_true rfl) rfl ?_
  intro Γ X hQ
  obtain ⟨ob0, ob1, ob2, ob3, ob4, ob5, ob6, ob7, r320⟩ := id hO
  obtain ⟨r30, r31, r42, ⟨kp, rp0, rp1, kp1, kp2, hw, hh, hs, hgl, hpi⟩, ⟨km, rm0, km1, hbr, hmi, hse, hbf⟩⟩ := id hS
  obtain ⟨hwa, hwb⟩ := hw9
  refine V_iload_n (pc := 0) X dX9_paint_0 rfl ?_
  refine V_if_lt (pc := 1) X 9 dX9_paint_1 (by decide) ⟨by omega, by omega⟩ (fun c_1 => ?_) (fun c_1 => ?_)
  · skip
    refine V_iconst (pc := 9) X dX9_paint_9 ?_
    refine V_iret (st := []) (pc := 10) X hQ dX9_paint_10 rfl rfl ?_
    exact z_pi (by unfold c_paintF; rw [if_neg (by omega)])
  · skip
    refine V_iload_n (pc := 4) X dX9_paint_4 rfl ?_
    refine V_iconst (pc := 5) X dX9_paint_5 ?_
    refine V_icmp_le (pc := 6) X 11 dX9_paint_6 (by decide) ⟨by omega, by omega⟩ ⟨by omega, by omega⟩ (fun c_6 => ?_) (fun c_6 => ?_)
    · skip
      refine V_aload_n (pc := 11) X dX9_paint_11 rfl (by first | decide | omega | assumption) ?_
      refine V_gz (pc := 12) X dX9_paint_12 f_RX9_19 (by first | rfl | assumption | (simp only [*]; done) | omega) 1 rfl ob1 ?_
      refine V_FS (pc := 15) X dX9_paint_15 oX0_bestPaint l_RX9_207 sX0_bestPaint ⟨Nat.le_of_ble_eq_true rfl, Nat.le_of_ble_eq_true rfl⟩ ⟨rfl, rfl⟩ ⟨Nat.le_of_ble_eq_true rfl, Nat.le_of_ble_eq_true rfl⟩ (ct_X0_bestPaint hS) rfl (by rfl) (by exact Nat.le_of_ble_eq_true rfl) ?_
      have hpt := c_paint_is hS
      refine V_istore_n (pc := 18) X dX9_paint_18 (by exact Nat.le_of_ble_eq_true rfl) rfl ?_
      refine V_iload_n (pc := 19) X dX9_paint_19 rfl ?_
      refine V_if_ne (pc := 20) X 27 dX9_paint_20 (by decide) ⟨by omega, by omega⟩ (fun c_20 => ?_) (fun c_20 => ?_)
      · skip
        refine V_aload_n (pc := 27) X dX9_paint_27 rfl (by first | decide | omega | assumption) ?_
        refine V_gz (pc := 28) X dX9_paint_28 f_RX9_19 (by first | rfl | assumption | (simp only [*]; done) | omega) 1 rfl ob1 ?_
        refine V_iload_n (pc := 31) X dX9_paint_31 rfl ?_
        refine V_bipush (pc := 32) X dX9_paint_32 (by decide) ?_
        refine V_idivN (pc := 34) X dX9_paint_34 (by omega) (by omega) (by omega) (by omega) ?_
        refine V_iload_n (pc := 35) X dX9_paint_35 rfl ?_
        refine V_bipush (pc := 36) X dX9_paint_36 (by decide) ?_
        refine V_iremN (pc := 38) X dX9_paint_38 (by omega) (by omega) (by omega) (by omega) ?_
        refine V_FS (pc := 39) X dX9_paint_39 oX0_leadsPainted l_RX9_210 sX0_leadsPainted ⟨Nat.le_of_ble_eq_true rfl, Nat.le_of_ble_eq_true rfl⟩ ⟨rfl, rfl⟩ ⟨Nat.le_of_ble_eq_true rfl, Nat.le_of_ble_eq_true rfl⟩ (ct_X0_leadsPainted hS (by omega) (by omega) ⟨by omega, by omega⟩) rfl (by rfl) (by exact Nat.le_of_ble_eq_true rfl) ?_
        refine V_iret (st := []) (pc := 42) X hQ dX9_paint_42 rfl rfl ?_
        exact z_pi (by unfold c_paintF; rw [if_pos (by omega)]; first | rw [if_pos c_20] | rw [if_neg c_20])
      · skip
        refine V_iload_n (pc := 23) X dX9_paint_23 rfl ?_
        refine V_goto (pc := 24) X 42 dX9_paint_24 (by decide) ?_
        refine V_iret (st := []) (pc := 42) X hQ dX9_paint_42 rfl rfl ?_
        exact z_pi (by unfold c_paintF; rw [if_pos (by omega)]; first | rw [if_pos c_20] | rw [if_neg c_20])
    · skip
      refine V_iconst (pc := 9) X dX9_paint_9 ?_
      refine V_iret (st := []) (pc := 10) X hQ dX9_paint_10 rfl rfl ?_
      exact z_pi (by unfold c_paintF; rw [if_neg (by omega)])
set_option maxHeartbeats 4000000 in
set_option maxRecDepth 100000 in
theorem ct_X9_hail {h : z_H} (hO : c_Ob h) {pl mo : Int} (hS : c_Sc h pl mo) {x y k a w : Int} (hx : z_R x) (hy : z_R y) (hk : z_R k) (ha : z_R a) (hw9 : z_R w) : z_Ct mX9_hail 107 [(2, 0), (0, x), (0, y), (0, k), (0, a), (0, w)] h (fun r h2 => (¬ (c_tile x y = true ∧ c_hour k = true ∧ 0 ≤ a ∧ a ≤ 10 ∧ 0 ≤ w ∧ w ≤ 1) ∧ r = some (0, -1) ∧ h2 = h) ∨ ((c_tile x y = true ∧ c_hour k = true ∧ 0 ≤ a ∧ a ≤ 10 ∧ 0 ≤ w ∧ w ≤ 1) ∧ ∃ g, c_gd (c_clr100 h pl mo (7 * x + y) k a) g ∧ r = some (0, if w = 0 then (c_clr100 h pl mo (7 * x + y) k a) / g else 100 / g) ∧ h2 = h)) := by
  refine z_mk (L := [(2, 0), (0, x), (0, y), (0, k), (0, a), (0, w), (9, 0), (9, 0)]) oX9_hail.2.2.2.2 (Nat.le_of_ble_eq_true rfl) rfl ?_
  intro Γ X hQ
  obtain ⟨ob0, ob1, ob2, ob3, ob4, ob5, ob6, ob7, r320⟩ := id hO
  obtain ⟨r30, r31, r42, ⟨kp, rp0, rp1, kp1, kp2, hw, hh, hs, hgl, hpi⟩, ⟨km, rm0, km1, hbr, hmi, hse, hbf⟩⟩ := id hS
  obtain ⟨hx1, hx2⟩ := hx
  obtain ⟨hy1, hy2⟩ := hy
  obtain ⟨hk1, hk2⟩ := hk
  obtain ⟨ha1, ha2⟩ := ha
  obtain ⟨hwa, hwb⟩ := hw9
  refine V_iload_n (pc := 0) X dX9_hail_0 rfl ?_
  refine V_iload_n (pc := 1) X dX9_hail_1 rfl ?_
  refine V_FS (pc := 2) X dX9_hail_2 oX9_isTile l_RX9_166 sX9_isTile ⟨Nat.le_of_ble_eq_true rfl, Nat.le_of_ble_eq_true rfl⟩ ⟨rfl, rfl⟩ ⟨Nat.le_of_ble_eq_true rfl, Nat.le_of_ble_eq_true rfl⟩ (ct_X9_isTile ⟨by omega, by omega⟩ ⟨by omega, by omega⟩) rfl (by rfl) (by exact Nat.le_of_ble_eq_true rfl) ?_
  refine V_bif_eq (pc := 5) X 38 dX9_hail_5 (by decide)  (fun c_5 => ?_) (fun c_5 => ?_)
  · skip
    refine V_iconst (pc := 38) X dX9_hail_38 ?_
    refine V_iret (st := []) (pc := 39) X hQ dX9_hail_39 rfl rfl ?_
    exact Or.inl ⟨by intro g; obtain ⟨g1, g2, g3, g4, g5, g6⟩ := g; first | (rw [c_5] at g1; exact absurd g1 (by decide)) | (rw [c_12] at g2; exact absurd g2 (by decide)) | omega, rfl, rfl⟩
  · skip
    refine V_iload_n (pc := 8) X dX9_hail_8 rfl ?_
    refine V_FS (pc := 9) X dX9_hail_9 oX9_isHour l_RX9_170 sX9_isHour ⟨Nat.le_of_ble_eq_true rfl, Nat.le_of_ble_eq_true rfl⟩ ⟨rfl, rfl⟩ ⟨Nat.le_of_ble_eq_true rfl, Nat.le_of_ble_eq_true rfl⟩ (ct_X9_isHour ⟨by omega, by omega⟩) rfl (by rfl) (by exact Nat.le_of_ble_eq_true rfl) ?_
    refine V_bif_eq (pc := 12) X 38 dX9_hail_12 (by decide)  (fun c_12 => ?_) (fun c_12 => ?_)
    · skip
      refine V_iconst (pc := 38) X dX9_hail_38 ?_
      refine V_iret (st := []) (pc := 39) X hQ dX9_hail_39 rfl rfl ?_
      exact Or.inl ⟨by intro g; obtain ⟨g1, g2, g3, g4, g5, g6⟩ := g; first | (rw [c_5] at g1; exact absurd g1 (by decide)) | (rw [c_12] at g2; exact absurd g2 (by decide)) | omega, rfl, rfl⟩
    · skip
      refine V_iload (pc := 15) X dX9_hail_15 rfl ?_
      refine V_if_lt (pc := 17) X 38 dX9_hail_17 (by decide) ⟨by omega, by omega⟩ (fun c_17 => ?_) (fun c_17 => ?_)
      · skip
        refine V_iconst (pc := 38) X dX9_hail_38 ?_
        refine V_iret (st := []) (pc := 39) X hQ dX9_hail_39 rfl rfl ?_
        exact Or.inl ⟨by intro g; obtain ⟨g1, g2, g3, g4, g5, g6⟩ := g; first | (rw [c_5] at g1; exact absurd g1 (by decide)) | (rw [c_12] at g2; exact absurd g2 (by decide)) | omega, rfl, rfl⟩
      · skip
        refine V_iload (pc := 20) X dX9_hail_20 rfl ?_
        refine V_bipush (pc := 22) X dX9_hail_22 (by decide) ?_
        refine V_icmp_gt (pc := 24) X 38 dX9_hail_24 (by decide) ⟨by omega, by omega⟩ ⟨by omega, by omega⟩ (fun c_24 => ?_) (fun c_24 => ?_)
        · skip
          refine V_iconst (pc := 38) X dX9_hail_38 ?_
          refine V_iret (st := []) (pc := 39) X hQ dX9_hail_39 rfl rfl ?_
          exact Or.inl ⟨by intro g; obtain ⟨g1, g2, g3, g4, g5, g6⟩ := g; first | (rw [c_5] at g1; exact absurd g1 (by decide)) | (rw [c_12] at g2; exact absurd g2 (by decide)) | omega, rfl, rfl⟩
        · skip
          refine V_iload (pc := 27) X dX9_hail_27 rfl ?_
          refine V_if_lt (pc := 29) X 38 dX9_hail_29 (by decide) ⟨by omega, by omega⟩ (fun c_29 => ?_) (fun c_29 => ?_)
          · skip
            refine V_iconst (pc := 38) X dX9_hail_38 ?_
            refine V_iret (st := []) (pc := 39) X hQ dX9_hail_39 rfl rfl ?_
            exact Or.inl ⟨by intro g; obtain ⟨g1, g2, g3, g4, g5, g6⟩ := g; first | (rw [c_5] at g1; exact absurd g1 (by decide)) | (rw [c_12] at g2; exact absurd g2 (by decide)) | omega, rfl, rfl⟩
          · skip
            refine V_iload (pc := 32) X dX9_hail_32 rfl ?_
            refine V_iconst (pc := 34) X dX9_hail_34 ?_
            refine V_icmp_le (pc := 35) X 40 dX9_hail_35 (by decide) ⟨by omega, by omega⟩ ⟨by omega, by omega⟩ (fun c_35 => ?_) (fun c_35 => ?_)
            · skip
              have tb1 := of_decide_eq_true c_5
              have tb2 := of_decide_eq_true c_12
              refine V_aload_n (pc := 40) X dX9_hail_40 rfl (by first | decide | omega | assumption) ?_
              refine V_iload_n (pc := 41) X dX9_hail_41 rfl ?_
              refine V_iload_n (pc := 42) X dX9_hail_42 rfl ?_
              refine V_FS (pc := 43) X dX9_hail_43 oX9_numberOf l_RX9_173 sX9_numberOf ⟨Nat.le_of_ble_eq_true rfl, Nat.le_of_ble_eq_true rfl⟩ ⟨rfl, rfl⟩ ⟨Nat.le_of_ble_eq_true rfl, Nat.le_of_ble_eq_true rfl⟩ (ct_X9_numberOf) rfl (by rfl) (by exact Nat.le_of_ble_eq_true rfl) ?_
              refine V_iload_n (pc := 46) X dX9_hail_46 rfl ?_
              refine V_iload (pc := 47) X dX9_hail_47 rfl ?_
              refine V_FV (pc := 49) X dX9_hail_49 oX9_clearOfHundred l_RX9_214 eX9_clearOfHundred vX9_clearOfHundred ⟨Nat.le_of_ble_eq_true rfl, Nat.le_of_ble_eq_true rfl⟩ ⟨rfl, rfl⟩ ⟨Nat.le_of_ble_eq_true rfl, Nat.le_of_ble_eq_true rfl⟩ (ct_X9_clearOfHundred hO hS (by omega) (by omega) (by omega) (by omega) (by omega) (by omega)) rfl (by first | rfl | assumption | (simp only [*]; done) | omega) (by intro q h; cases h; rfl) rfl (by rfl) (by exact Nat.le_of_ble_eq_true rfl) ?_
              have hur := c_clr_rng (h := h) (pl := pl) (mo := mo) (t := 7 * x + y) (k := k) (x := a) (by omega) (by omega)
              refine V_istore (pc := 52) X dX9_hail_52 (by exact Nat.le_of_ble_eq_true rfl) rfl ?_
              refine V_bipush (pc := 54) X dX9_hail_54 (by decide) ?_
              refine V_iload (pc := 56) X dX9_hail_56 rfl ?_
              refine V_CS (pc := 58) X dX9_hail_58 oX9_greatestDivisor l_RX9_217 sX9_greatestDivisor ⟨Nat.le_of_ble_eq_true rfl, Nat.le_of_ble_eq_true rfl⟩ ⟨rfl, rfl⟩ ⟨Nat.le_of_ble_eq_true rfl, Nat.le_of_ble_eq_true rfl⟩ (ct_X9_greatestDivisor (by omega) (by omega)) rfl (by rfl) (by exact Nat.le_of_ble_eq_true rfl) (fun r h1 hp => ?_)
              obtain ⟨g, rfl, rfl, hg⟩ := hp
              have hgp := hg.1
              refine V_istore (pc := 61) X dX9_hail_61 (by exact Nat.le_of_ble_eq_true rfl) rfl ?_
              refine V_iload (pc := 63) X dX9_hail_63 rfl ?_
              refine V_if_ne (pc := 65) X 73 dX9_hail_65 (by decide) ⟨by omega, by omega⟩ (fun c_65 => ?_) (fun c_65 => ?_)
              · skip
                refine V_bipush (pc := 73) X dX9_hail_73 (by decide) ?_
                refine V_iload (pc := 75) X dX9_hail_75 rfl ?_
                refine V_idivN (pc := 77) X dX9_hail_77 (by omega) (by omega) (by omega) (by have := hg.2.1; omega) ?_
                refine V_iret (st := []) (pc := 78) X hQ dX9_hail_78 rfl rfl ?_
                exact Or.inr ⟨⟨c_5, c_12, by omega, by omega, by omega, by omega⟩, g, hg, by first | rw [if_pos c_65] | rw [if_neg c_65], rfl⟩
              · skip
                refine V_iload (pc := 68) X dX9_hail_68 rfl ?_
                refine V_goto (pc := 70) X 75 dX9_hail_70 (by decide) ?_
                refine V_iload (pc := 75) X dX9_hail_75 rfl ?_
                refine V_idivN (pc := 77) X dX9_hail_77 (by omega) (by omega) (by omega) (by have := hg.2.1; omega) ?_
                refine V_iret (st := []) (pc := 78) X hQ dX9_hail_78 rfl rfl ?_
                exact Or.inr ⟨⟨c_5, c_12, by omega, by omega, by omega, by omega⟩, g, hg, by first | rw [if_pos c_65] | rw [if_neg c_65], rfl⟩
            · skip
              refine V_iconst (pc := 38) X dX9_hail_38 ?_
              refine V_iret (st := []) (pc := 39) X hQ dX9_hail_39 rfl rfl ?_
              exact Or.inl ⟨by intro g; obtain ⟨g1, g2, g3, g4, g5, g6⟩ := g; first | (rw [c_5] at g1; exact absurd g1 (by decide)) | (rw [c_12] at g2; exact absurd g2 (by decide)) | omega, rfl, rfl⟩
set_option maxHeartbeats 4000000 in
set_option maxRecDepth 100000 in
theorem ct_X9_saw {h : z_H} (hO : c_Ob h) (hI : c_Wi h) {x y k c : Int} (hx : z_R x) (hy : z_R y) (hk : z_R k) (hc : z_R c) : z_Ct mX9_saw 107 [(2, 0), (0, x), (0, y), (0, k), (0, c)] h (fun r h2 => (¬ (c_tile x y = true ∧ c_hour k = true ∧ c_hour c = true) ∧ r = some (0, -1) ∧ h2 = h) ∨ ((c_tile x y = true ∧ c_hour k = true ∧ c_hour c = true) ∧ ((¬ h 34 2 < 6 ∧ r = some (0, -3) ∧ h2 = h) ∨ (h 34 2 < 6 ∧ r = some (0, h 34 2 + 1) ∧ h2 = c_seen h ((7 * x + y) * 8 + k) c)))) := by
  refine z_mk (L := [(2, 0), (0, x), (0, y), (0, k), (0, c)]) oX9_saw.2.2.2.2 (Nat.le_of_ble_eq_true rfl) rfl ?_
  intro Γ X hQ
  obtain ⟨ob0, ob1, ob2, ob3, ob4, ob5, ob6, ob7, r320⟩ := id hO
  obtain ⟨r340, r341, hsn, hpc⟩ := id hI
  obtain ⟨hx1, hx2⟩ := hx
  obtain ⟨hy1, hy2⟩ := hy
  obtain ⟨hk1, hk2⟩ := hk
  obtain ⟨hc1, hc2⟩ := hc
  refine V_iload_n (pc := 0) X dX9_saw_0 rfl ?_
  refine V_iload_n (pc := 1) X dX9_saw_1 rfl ?_
  refine V_FS (pc := 2) X dX9_saw_2 oX9_isTile l_RX9_166 sX9_isTile ⟨Nat.le_of_ble_eq_true rfl, Nat.le_of_ble_eq_true rfl⟩ ⟨rfl, rfl⟩ ⟨Nat.le_of_ble_eq_true rfl, Nat.le_of_ble_eq_true rfl⟩ (ct_X9_isTile ⟨by omega, by omega⟩ ⟨by omega, by omega⟩) rfl (by rfl) (by exact Nat.le_of_ble_eq_true rfl) ?_
  refine V_bif_eq (pc := 5) X 23 dX9_saw_5 (by decide)  (fun c_5 => ?_) (fun c_5 => ?_)
  · skip
    refine V_iconst (pc := 23) X dX9_saw_23 ?_
    refine V_iret (st := []) (pc := 24) X hQ dX9_saw_24 rfl rfl ?_
    exact Or.inl ⟨by intro g; obtain ⟨g1, g2, g3⟩ := g; first | (rw [c_5] at g1; exact absurd g1 (by decide)) | (rw [c_12] at g2; exact absurd g2 (by decide)) | (rw [c_20] at g3; exact absurd g3 (by decide)), rfl, rfl⟩
  · skip
    refine V_iload_n (pc := 8) X dX9_saw_8 rfl ?_
    refine V_FS (pc := 9) X dX9_saw_9 oX9_isHour l_RX9_170 sX9_isHour ⟨Nat.le_of_ble_eq_true rfl, Nat.le_of_ble_eq_true rfl⟩ ⟨rfl, rfl⟩ ⟨Nat.le_of_ble_eq_true rfl, Nat.le_of_ble_eq_true rfl⟩ (ct_X9_isHour ⟨by omega, by omega⟩) rfl (by rfl) (by exact Nat.le_of_ble_eq_true rfl) ?_
    refine V_bif_eq (pc := 12) X 23 dX9_saw_12 (by decide)  (fun c_12 => ?_) (fun c_12 => ?_)
    · skip
      refine V_iconst (pc := 23) X dX9_saw_23 ?_
      refine V_iret (st := []) (pc := 24) X hQ dX9_saw_24 rfl rfl ?_
      exact Or.inl ⟨by intro g; obtain ⟨g1, g2, g3⟩ := g; first | (rw [c_5] at g1; exact absurd g1 (by decide)) | (rw [c_12] at g2; exact absurd g2 (by decide)) | (rw [c_20] at g3; exact absurd g3 (by decide)), rfl, rfl⟩
    · skip
      refine V_iload (pc := 15) X dX9_saw_15 rfl ?_
      refine V_FS (pc := 17) X dX9_saw_17 oX9_isColour l_RX9_179 sX9_isColour ⟨Nat.le_of_ble_eq_true rfl, Nat.le_of_ble_eq_true rfl⟩ ⟨rfl, rfl⟩ ⟨Nat.le_of_ble_eq_true rfl, Nat.le_of_ble_eq_true rfl⟩ (ct_X9_isColour ⟨by omega, by omega⟩) rfl (by rfl) (by exact Nat.le_of_ble_eq_true rfl) ?_
      refine V_bif_ne (pc := 20) X 25 dX9_saw_20 (by decide)  (fun c_20 => ?_) (fun c_20 => ?_)
      · skip
        have tb1 := of_decide_eq_true c_5
        have tb2 := of_decide_eq_true c_12
        have tb3 := of_decide_eq_true c_20
        refine V_aload_n (pc := 25) X dX9_saw_25 rfl (by first | decide | omega | assumption) ?_
        refine V_gz (pc := 26) X dX9_saw_26 f_RX9_40 (by first | rfl | assumption | (simp only [*]; done) | omega) 4 rfl ob4 ?_
        refine V_iload_n (pc := 29) X dX9_saw_29 rfl ?_
        refine V_iload_n (pc := 30) X dX9_saw_30 rfl ?_
        refine V_FS (pc := 31) X dX9_saw_31 oX9_numberOf l_RX9_173 sX9_numberOf ⟨Nat.le_of_ble_eq_true rfl, Nat.le_of_ble_eq_true rfl⟩ ⟨rfl, rfl⟩ ⟨Nat.le_of_ble_eq_true rfl, Nat.le_of_ble_eq_true rfl⟩ (ct_X9_numberOf) rfl (by rfl) (by exact Nat.le_of_ble_eq_true rfl) ?_
        refine V_bipush (pc := 34) X dX9_saw_34 (by decide) ?_
        refine V_imul (pc := 36) X dX9_saw_36 ?_
        refine V_iload_n (pc := 37) X dX9_saw_37 rfl ?_
        refine V_iadd (pc := 38) X dX9_saw_38 ?_
        refine V_iload (pc := 39) X dX9_saw_39 rfl ?_
        refine V_CV (pc := 41) X dX9_saw_41 oX8_add l_RX9_220 eX8_add vX8_add ⟨Nat.le_of_ble_eq_true rfl, Nat.le_of_ble_eq_true rfl⟩ ⟨rfl, rfl⟩ ⟨Nat.le_of_ble_eq_true rfl, Nat.le_of_ble_eq_true rfl⟩ (ct_X8_add hI) rfl (by first | rfl | assumption | (simp only [*]; done) | omega) (by intro q h; cases h; rfl) rfl (by rfl) (by exact Nat.le_of_ble_eq_true rfl) (fun r h1 hp => ?_)
        obtain ⟨rfl, rfl⟩ := hp
        rw [show (if h 34 2 < 6 then (1 : Int) else 0) = z_b (decide (h 34 2 < 6)) from by unfold z_b; by_cases e : h 34 2 < 6 <;> simp [e]]
        refine V_bif_eq (pc := 44) X 57 dX9_saw_44 (by decide)  (fun c_44 => ?_) (fun c_44 => ?_)
        · skip
          rw [if_neg (of_decide_eq_false c_44)]
          refine V_bipush (pc := 57) X dX9_saw_57 (by decide) ?_
          refine V_iret (st := []) (pc := 59) X hQ dX9_saw_59 rfl rfl ?_
          exact Or.inr ⟨⟨c_5, c_12, c_20⟩, by first | exact Or.inl ⟨of_decide_eq_false c_44, rfl, rfl⟩ | exact Or.inr ⟨of_decide_eq_true c_44, rfl, rfl⟩⟩
        · skip
          rw [if_pos (of_decide_eq_true c_44)]
          refine V_aload_n (pc := 47) X dX9_saw_47 rfl (by first | decide | omega | assumption) ?_
          refine V_gz (pc := 48) X dX9_saw_48 f_RX9_40 (by first | rfl | assumption | (simp only [*]; done) | omega) 4 rfl (show _ = (34 : Int) from by unfold c_seen; rw [z_st_cell _ (by decide), z_st_cell _ (by decide), z_st_cell _ (by decide)]; exact ob4) ?_
          refine V_gz (pc := 51) X dX9_saw_51 f_RX9_84 (by first | rfl | assumption | (simp only [*]; done) | omega) 2 rfl (show _ = h 34 2 + 1 from by unfold c_seen; rw [z_st_at]) ?_
          refine V_goto (pc := 54) X 59 dX9_saw_54 (by decide) ?_
          refine V_iret (st := []) (pc := 59) X hQ dX9_saw_59 rfl rfl ?_
          exact Or.inr ⟨⟨c_5, c_12, c_20⟩, by first | exact Or.inl ⟨of_decide_eq_false c_44, rfl, rfl⟩ | exact Or.inr ⟨of_decide_eq_true c_44, rfl, rfl⟩⟩
      · skip
        refine V_iconst (pc := 23) X dX9_saw_23 ?_
        refine V_iret (st := []) (pc := 24) X hQ dX9_saw_24 rfl rfl ?_
        exact Or.inl ⟨by intro g; obtain ⟨g1, g2, g3⟩ := g; first | (rw [c_5] at g1; exact absurd g1 (by decide)) | (rw [c_12] at g2; exact absurd g2 (by decide)) | (rw [c_20] at g3; exact absurd g3 (by decide)), rfl, rfl⟩
set_option maxHeartbeats 4000000 in
set_option maxRecDepth 100000 in
theorem ct_X9_forget {h : z_H} (hO : c_Ob h) : z_Ct mX9_forget 107 [(2, 0)] h (z_ans (0, h 34 2) (z_st h 34 2 0)) := by
  refine z_mk (L := [(2, 0), (9, 0)]) oX9_forget.2.2.2.2 (Nat.le_of_ble_eq_true rfl) rfl ?_
  intro Γ X hQ
  obtain ⟨ob0, ob1, ob2, ob3, ob4, ob5, ob6, ob7, r320⟩ := id hO
  refine V_aload_n (pc := 0) X dX9_forget_0 rfl (by first | decide | omega | assumption) ?_
  refine V_gz (pc := 1) X dX9_forget_1 f_RX9_40 (by first | rfl | assumption | (simp only [*]; done) | omega) 4 rfl ob4 ?_
  refine V_gz (pc := 4) X dX9_forget_4 f_RX9_84 (by first | rfl | assumption | (simp only [*]; done) | omega) 2 rfl rfl ?_
  refine V_istore_n (pc := 7) X dX9_forget_7 (by exact Nat.le_of_ble_eq_true rfl) rfl ?_
  refine V_aload_n (pc := 8) X dX9_forget_8 rfl (by first | decide | omega | assumption) ?_
  refine V_gz (pc := 9) X dX9_forget_9 f_RX9_40 (by first | rfl | assumption | (simp only [*]; done) | omega) 4 rfl ob4 ?_
  refine V_iconst (pc := 12) X dX9_forget_12 ?_
  refine V_pz (pc := 13) X dX9_forget_13 f_RX9_84 (by first | rfl | assumption | (simp only [*]; done) | omega) (fun b => z_fitI b _) 2 rfl ?_
  refine V_iload_n (pc := 16) X dX9_forget_16 rfl ?_
  refine V_iret (st := []) (pc := 17) X hQ dX9_forget_17 rfl rfl ?_
  exact ⟨rfl, rfl⟩
set_option maxHeartbeats 4000000 in
set_option maxRecDepth 100000 in
theorem ct_X9_suspects {h : z_H} (hO : c_Ob h) {pl mo : Int} (hS : c_Sc h pl mo) (hI : c_Wi h) : z_Ct mX9_suspects 107 [(2, 0)] h (z_pure (0, ((c_sus h pl mo : Nat) : Int)) h) := by
  refine z_mk (L := [(2, 0)]) oX9_suspects.2.2.2.2 (Nat.le_of_ble_eq_true rfl) rfl ?_
  intro Γ X hQ
  obtain ⟨ob0, ob1, ob2, ob3, ob4, ob5, ob6, ob7, r320⟩ := id hO
  obtain ⟨r30, r31, r42, ⟨kp, rp0, rp1, kp1, kp2, hw, hh, hs, hgl, hpi⟩, ⟨km, rm0, km1, hbr, hmi, hse, hbf⟩⟩ := id hS
  refine V_aload_n (pc := 0) X dX9_suspects_0 rfl (by first | decide | omega | assumption) ?_
  refine V_gz (pc := 1) X dX9_suspects_1 f_RX9_40 (by first | rfl | assumption | (simp only [*]; done) | omega) 4 rfl ob4 ?_
  refine V_aload_n (pc := 4) X dX9_suspects_4 rfl (by first | decide | omega | assumption) ?_
  refine V_gz (pc := 5) X dX9_suspects_5 f_RX9_19 (by first | rfl | assumption | (simp only [*]; done) | omega) 1 rfl ob1 ?_
  refine V_FV (pc := 8) X dX9_suspects_8 oX8_suspected l_RX9_222 eX8_suspected vX8_suspected ⟨Nat.le_of_ble_eq_true rfl, Nat.le_of_ble_eq_true rfl⟩ ⟨rfl, rfl⟩ ⟨Nat.le_of_ble_eq_true rfl, Nat.le_of_ble_eq_true rfl⟩ (ct_X8_suspected hS hI) rfl (by first | rfl | assumption | (simp only [*]; done) | omega) (by intro q h; cases h; rfl) rfl (by rfl) (by exact Nat.le_of_ble_eq_true rfl) ?_
  refine V_iret (st := []) (pc := 11) X hQ dX9_suspects_11 rfl rfl ?_
  exact z_pi (rfl)
set_option maxHeartbeats 4000000 in
set_option maxRecDepth 100000 in
theorem ct_X9_glasses {h : z_H} (hO : c_Ob h) {pl mo : Int} (hS : c_Sc h pl mo) (hI : c_Wi h) {x y : Int} (hx : z_R x) (hy : z_R y) : z_Ct mX9_glasses 107 [(2, 0), (0, x), (0, y)] h (z_pure (0, c_glsF h pl mo x y) h) := by
  refine z_mk (L := [(2, 0), (0, x), (0, y), (9, 0)]) oX9_glasses.2.2.2.2 (Nat.le_of_ble_eq_true rfl) rfl ?_
  intro Γ X hQ
  obtain ⟨ob0, ob1, ob2, ob3, ob4, ob5, ob6, ob7, r320⟩ := id hO
  obtain ⟨r30, r31, r42, ⟨kp, rp0, rp1, kp1, kp2, hw, hh, hs, hgl, hpi⟩, ⟨km, rm0, km1, hbr, hmi, hse, hbf⟩⟩ := id hS
  have hpa := c_paneAt_rng (h := h) (pl := pl) (x := x) (y := y) hw.2 hh.2
  obtain ⟨hx1, hx2⟩ := hx
  obtain ⟨hy1, hy2⟩ := hy
  refine V_aload_n (pc := 0) X dX9_glasses_0 rfl (by first | decide | omega | assumption) ?_
  refine V_gz (pc := 1) X dX9_glasses_1 f_RX9_19 (by first | rfl | assumption | (simp only [*]; done) | omega) 1 rfl ob1 ?_
  refine V_iload_n (pc := 4) X dX9_glasses_4 rfl ?_
  refine V_iload_n (pc := 5) X dX9_glasses_5 rfl ?_
  refine V_FV (pc := 6) X dX9_glasses_6 oX5_paneAt l_RX9_87 eX5_paneAt vX5_paneAt ⟨Nat.le_of_ble_eq_true rfl, Nat.le_of_ble_eq_true rfl⟩ ⟨rfl, rfl⟩ ⟨Nat.le_of_ble_eq_true rfl, Nat.le_of_ble_eq_true rfl⟩ (ct_X5_paneAt hS ⟨by omega, by omega⟩ ⟨by omega, by omega⟩) rfl (by first | rfl | assumption | (simp only [*]; done) | omega) (by intro q h; cases h; rfl) rfl (by rfl) (by exact Nat.le_of_ble_eq_true rfl) ?_
  refine V_istore_n (pc := 9) X dX9_glasses_9 (by exact Nat.le_of_ble_eq_true rfl) rfl ?_
  refine V_iload_n (pc := 10) X dX9_glasses_10 rfl ?_
  refine V_iconst (pc := 11) X dX9_glasses_11 ?_
  refine V_icmp_ne (pc := 12) X 19 dX9_glasses_12 (by decide) ⟨by omega, by omega⟩ ⟨by omega, by omega⟩ (fun c_12 => ?_) (fun c_12 => ?_)
  · skip
    refine V_aload_n (pc := 19) X dX9_glasses_19 rfl (by first | decide | omega | assumption) ?_
    refine V_gz (pc := 20) X dX9_glasses_20 f_RX9_40 (by first | rfl | assumption | (simp only [*]; done) | omega) 4 rfl ob4 ?_
    refine V_aload_n (pc := 23) X dX9_glasses_23 rfl (by first | decide | omega | assumption) ?_
    refine V_gz (pc := 24) X dX9_glasses_24 f_RX9_19 (by first | rfl | assumption | (simp only [*]; done) | omega) 1 rfl ob1 ?_
    refine V_iload_n (pc := 27) X dX9_glasses_27 rfl ?_
    refine V_FV (pc := 28) X dX9_glasses_28 oX8_glassesOf l_RX9_225 eX8_glassesOf vX8_glassesOf ⟨Nat.le_of_ble_eq_true rfl, Nat.le_of_ble_eq_true rfl⟩ ⟨rfl, rfl⟩ ⟨Nat.le_of_ble_eq_true rfl, Nat.le_of_ble_eq_true rfl⟩ (ct_X8_glassesOf hS hI (by omega) (by omega)) rfl (by first | rfl | assumption | (simp only [*]; done) | omega) (by intro q h; cases h; rfl) rfl (by rfl) (by exact Nat.le_of_ble_eq_true rfl) ?_
    refine V_iret (st := []) (pc := 31) X hQ dX9_glasses_31 rfl rfl ?_
    exact z_pi (by unfold c_glsF; first | rw [if_pos c_12] | rw [if_neg c_12])
  · skip
    refine V_iconst (pc := 15) X dX9_glasses_15 ?_
    refine V_goto (pc := 16) X 31 dX9_glasses_16 (by decide) ?_
    refine V_iret (st := []) (pc := 31) X hQ dX9_glasses_31 rfl rfl ?_
    exact z_pi (by unfold c_glsF; first | rw [if_pos c_12] | rw [if_neg c_12])
set_option maxHeartbeats 4000000 in
set_option maxRecDepth 100000 in
theorem ct_X9_look {h : z_H} (hO : c_Ob h) {pl mo : Int} (hS : c_Sc h pl mo) (hI : c_Wi h) : z_Ct mX9_look 107 [(2, 0)] h (z_pure (0, c_lookF h pl mo) h) := by
  refine z_mk (L := [(2, 0)]) oX9_look.2.2.2.2 (Nat.le_of_ble_eq_true rfl) rfl ?_
  intro Γ X hQ
  obtain ⟨ob0, ob1, ob2, ob3, ob4, ob5, ob6, ob7, r320⟩ := id hO
  obtain ⟨r30, r31, r42, ⟨kp, rp0, rp1, kp1, kp2, hw, hh, hs, hgl, hpi⟩, ⟨km, rm0, km1, hbr, hmi, hse, hbf⟩⟩ := id hS
  have hsl := c_sus_lt h pl mo
  refine V_aload_n (pc := 0) X dX9_look_0 rfl (by first | decide | omega | assumption) ?_
  refine V_gz (pc := 1) X dX9_look_1 f_RX9_40 (by first | rfl | assumption | (simp only [*]; done) | omega) 4 rfl ob4 ?_
  refine V_aload_n (pc := 4) X dX9_look_4 rfl (by first | decide | omega | assumption) ?_
  refine V_gz (pc := 5) X dX9_look_5 f_RX9_19 (by first | rfl | assumption | (simp only [*]; done) | omega) 1 rfl ob1 ?_
  refine V_aload_n (pc := 8) X dX9_look_8 rfl (by first | decide | omega | assumption) ?_
  refine V_gz (pc := 9) X dX9_look_9 f_RX9_40 (by first | rfl | assumption | (simp only [*]; done) | omega) 4 rfl ob4 ?_
  refine V_aload_n (pc := 12) X dX9_look_12 rfl (by first | decide | omega | assumption) ?_
  refine V_gz (pc := 13) X dX9_look_13 f_RX9_19 (by first | rfl | assumption | (simp only [*]; done) | omega) 1 rfl ob1 ?_
  refine V_FV (pc := 16) X dX9_look_16 oX8_suspected l_RX9_222 eX8_suspected vX8_suspected ⟨Nat.le_of_ble_eq_true rfl, Nat.le_of_ble_eq_true rfl⟩ ⟨rfl, rfl⟩ ⟨Nat.le_of_ble_eq_true rfl, Nat.le_of_ble_eq_true rfl⟩ (ct_X8_suspected hS hI) rfl (by first | rfl | assumption | (simp only [*]; done) | omega) (by intro q h; cases h; rfl) rfl (by rfl) (by exact Nat.le_of_ble_eq_true rfl) ?_
  refine V_FV (pc := 19) X dX9_look_19 oX8_bestPlace l_RX9_229 eX8_bestPlace vX8_bestPlace ⟨Nat.le_of_ble_eq_true rfl, Nat.le_of_ble_eq_true rfl⟩ ⟨rfl, rfl⟩ ⟨Nat.le_of_ble_eq_true rfl, Nat.le_of_ble_eq_true rfl⟩ (ct_X8_bestPlace hS (by omega) (by omega)) rfl (by first | rfl | assumption | (simp only [*]; done) | omega) (by intro q h; cases h; rfl) rfl (by rfl) (by exact Nat.le_of_ble_eq_true rfl) ?_
  refine V_iret (st := []) (pc := 22) X hQ dX9_look_22 rfl rfl ?_
  exact z_pi (rfl)
