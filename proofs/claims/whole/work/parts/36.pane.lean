/-! PaneLight: what it answers -/
set_option maxHeartbeats 4000000 in
set_option maxRecDepth 100000 in
theorem ct_X9_isTile {n : Nat} {h : z_H} {x y : Int} (hx : z_R x) (hy : z_R y) : z_Ct mX9_isTile n [(0, x), (0, y)] h (z_pure (0, z_b (c_tile x y)) h) := by
  refine z_mk (L := [(0, x), (0, y)]) oX9_isTile.2.2.2.2 (Nat.le_of_ble_eq_true rfl) rfl ?_
  intro Γ X hQ
  obtain ⟨hx1, hx2⟩ := hx
  obtain ⟨hy1, hy2⟩ := hy
  refine V_iload_n (pc := 0) X dX9_isTile_0 rfl ?_
  refine V_if_lt (pc := 1) X 24 dX9_isTile_1 (by decide) ⟨by omega, by omega⟩ (fun c_1 => ?_) (fun c_1 => ?_)
  · skip
    refine V_iconst (pc := 24) X dX9_isTile_24 ?_
    refine V_zret (st := []) (pc := 25) X hQ dX9_isTile_25 rfl (by omega) rfl ?_
    exact z_pi (by unfold z_b c_tile; first | (rw [if_pos (decide_eq_true (by omega))]) | (rw [if_neg (by simp; omega)]))
  · skip
    refine V_iload_n (pc := 4) X dX9_isTile_4 rfl ?_
    refine V_bipush (pc := 5) X dX9_isTile_5 (by decide) ?_
    refine V_icmp_ge (pc := 7) X 24 dX9_isTile_7 (by decide) ⟨by omega, by omega⟩ ⟨by omega, by omega⟩ (fun c_7 => ?_) (fun c_7 => ?_)
    · skip
      refine V_iconst (pc := 24) X dX9_isTile_24 ?_
      refine V_zret (st := []) (pc := 25) X hQ dX9_isTile_25 rfl (by omega) rfl ?_
      exact z_pi (by unfold z_b c_tile; first | (rw [if_pos (decide_eq_true (by omega))]) | (rw [if_neg (by simp; omega)]))
    · skip
      refine V_iload_n (pc := 10) X dX9_isTile_10 rfl ?_
      refine V_if_lt (pc := 11) X 24 dX9_isTile_11 (by decide) ⟨by omega, by omega⟩ (fun c_11 => ?_) (fun c_11 => ?_)
      · skip
        refine V_iconst (pc := 24) X dX9_isTile_24 ?_
        refine V_zret (st := []) (pc := 25) X hQ dX9_isTile_25 rfl (by omega) rfl ?_
        exact z_pi (by unfold z_b c_tile; first | (rw [if_pos (decide_eq_true (by omega))]) | (rw [if_neg (by simp; omega)]))
      · skip
        refine V_iload_n (pc := 14) X dX9_isTile_14 rfl ?_
        refine V_bipush (pc := 15) X dX9_isTile_15 (by decide) ?_
        refine V_icmp_ge (pc := 17) X 24 dX9_isTile_17 (by decide) ⟨by omega, by omega⟩ ⟨by omega, by omega⟩ (fun c_17 => ?_) (fun c_17 => ?_)
        · skip
          refine V_iconst (pc := 24) X dX9_isTile_24 ?_
          refine V_zret (st := []) (pc := 25) X hQ dX9_isTile_25 rfl (by omega) rfl ?_
          exact z_pi (by unfold z_b c_tile; first | (rw [if_pos (decide_eq_true (by omega))]) | (rw [if_neg (by simp; omega)]))
        · skip
          refine V_iconst (pc := 20) X dX9_isTile_20 ?_
          refine V_goto (pc := 21) X 25 dX9_isTile_21 (by decide) ?_
          refine V_zret (st := []) (pc := 25) X hQ dX9_isTile_25 rfl (by omega) rfl ?_
          exact z_pi (by unfold z_b c_tile; first | (rw [if_pos (decide_eq_true (by omega))]) | (rw [if_neg (by simp; omega)]))
set_option maxHeartbeats 4000000 in
set_option maxRecDepth 100000 in
theorem ct_X9_isHour {n : Nat} {h : z_H} {x : Int} (hx : z_R x) : z_Ct mX9_isHour n [(0, x)] h (z_pure (0, z_b (c_hour x)) h) := by
  refine z_mk (L := [(0, x)]) oX9_isHour.2.2.2.2 (Nat.le_of_ble_eq_true rfl) rfl ?_
  intro Γ X hQ
  obtain ⟨hx1, hx2⟩ := hx
  refine V_iload_n (pc := 0) X dX9_isHour_0 rfl ?_
  refine V_if_lt (pc := 1) X 14 dX9_isHour_1 (by decide) ⟨by omega, by omega⟩ (fun c_1 => ?_) (fun c_1 => ?_)
  · skip
    refine V_iconst (pc := 14) X dX9_isHour_14 ?_
    refine V_zret (st := []) (pc := 15) X hQ dX9_isHour_15 rfl (by omega) rfl ?_
    exact z_pi (by unfold z_b c_hour; first | (rw [if_pos (decide_eq_true (by omega))]) | (rw [if_neg (by simp; omega)]))
  · skip
    refine V_iload_n (pc := 4) X dX9_isHour_4 rfl ?_
    refine V_bipush (pc := 5) X dX9_isHour_5 (by decide) ?_
    refine V_icmp_ge (pc := 7) X 14 dX9_isHour_7 (by decide) ⟨by omega, by omega⟩ ⟨by omega, by omega⟩ (fun c_7 => ?_) (fun c_7 => ?_)
    · skip
      refine V_iconst (pc := 14) X dX9_isHour_14 ?_
      refine V_zret (st := []) (pc := 15) X hQ dX9_isHour_15 rfl (by omega) rfl ?_
      exact z_pi (by unfold z_b c_hour; first | (rw [if_pos (decide_eq_true (by omega))]) | (rw [if_neg (by simp; omega)]))
    · skip
      refine V_iconst (pc := 10) X dX9_isHour_10 ?_
      refine V_goto (pc := 11) X 15 dX9_isHour_11 (by decide) ?_
      refine V_zret (st := []) (pc := 15) X hQ dX9_isHour_15 rfl (by omega) rfl ?_
      exact z_pi (by unfold z_b c_hour; first | (rw [if_pos (decide_eq_true (by omega))]) | (rw [if_neg (by simp; omega)]))
set_option maxHeartbeats 4000000 in
set_option maxRecDepth 100000 in
theorem ct_X9_isColour {n : Nat} {h : z_H} {x : Int} (hx : z_R x) : z_Ct mX9_isColour n [(0, x)] h (z_pure (0, z_b (c_hour x)) h) := by
  refine z_mk (L := [(0, x)]) oX9_isColour.2.2.2.2 (Nat.le_of_ble_eq_true rfl) rfl ?_
  intro Γ X hQ
  obtain ⟨hx1, hx2⟩ := hx
  refine V_iload_n (pc := 0) X dX9_isColour_0 rfl ?_
  refine V_if_lt (pc := 1) X 14 dX9_isColour_1 (by decide) ⟨by omega, by omega⟩ (fun c_1 => ?_) (fun c_1 => ?_)
  · skip
    refine V_iconst (pc := 14) X dX9_isColour_14 ?_
    refine V_zret (st := []) (pc := 15) X hQ dX9_isColour_15 rfl (by omega) rfl ?_
    exact z_pi (by unfold z_b c_hour; first | (rw [if_pos (decide_eq_true (by omega))]) | (rw [if_neg (by simp; omega)]))
  · skip
    refine V_iload_n (pc := 4) X dX9_isColour_4 rfl ?_
    refine V_bipush (pc := 5) X dX9_isColour_5 (by decide) ?_
    refine V_icmp_ge (pc := 7) X 14 dX9_isColour_7 (by decide) ⟨by omega, by omega⟩ ⟨by omega, by omega⟩ (fun c_7 => ?_) (fun c_7 => ?_)
    · skip
      refine V_iconst (pc := 14) X dX9_isColour_14 ?_
      refine V_zret (st := []) (pc := 15) X hQ dX9_isColour_15 rfl (by omega) rfl ?_
      exact z_pi (by unfold z_b c_hour; first | (rw [if_pos (decide_eq_true (by omega))]) | (rw [if_neg (by simp; omega)]))
    · skip
      refine V_iconst (pc := 10) X dX9_isColour_10 ?_
      refine V_goto (pc := 11) X 15 dX9_isColour_11 (by decide) ?_
      refine V_zret (st := []) (pc := 15) X hQ dX9_isColour_15 rfl (by omega) rfl ?_
      exact z_pi (by unfold z_b c_hour; first | (rw [if_pos (decide_eq_true (by omega))]) | (rw [if_neg (by simp; omega)]))
set_option maxHeartbeats 4000000 in
set_option maxRecDepth 100000 in
theorem ct_X9_numberOf {n : Nat} {h : z_H} {x y : Int} : z_Ct mX9_numberOf n [(0, x), (0, y)] h (z_pure (0, 7 * x + y) h) := by
  refine z_mk (L := [(0, x), (0, y)]) oX9_numberOf.2.2.2.2 (Nat.le_of_ble_eq_true rfl) rfl ?_
  intro Γ X hQ
  refine V_bipush (pc := 0) X dX9_numberOf_0 (by decide) ?_
  refine V_iload_n (pc := 2) X dX9_numberOf_2 rfl ?_
  refine V_imul (pc := 3) X dX9_numberOf_3 ?_
  refine V_iload_n (pc := 4) X dX9_numberOf_4 rfl ?_
  refine V_iadd (pc := 5) X dX9_numberOf_5 ?_
  refine V_iret (st := []) (pc := 6) X hQ dX9_numberOf_6 rfl rfl ?_
  exact z_pi (rfl)
set_option maxHeartbeats 4000000 in
set_option maxRecDepth 100000 in
theorem ct_X9_isSheet {h : z_H} (hO : c_Ob h) {pl mo : Int} (hS : c_Sc h pl mo) {s : Int} (hs : z_R s) : z_Ct mX9_isSheet 107 [(2, 0), (0, s)] h (z_pure (0, z_b (c_isSh h pl s)) h) := by
  refine z_mk (L := [(2, 0), (0, s)]) oX9_isSheet.2.2.2.2 (Nat.le_of_ble_eq_true rfl) rfl ?_
  intro Γ X hQ
  obtain ⟨ob0, ob1, ob2, ob3, ob4, ob5, ob6, ob7, r320⟩ := id hO
  obtain ⟨r30, r31, r42, ⟨kp, rp0, rp1, kp1, kp2, hw, hh, hs, hgl, hpi⟩, ⟨km, rm0, km1, hbr, hmi, hse, hbf⟩⟩ := id hS
  obtain ⟨hs1, hs2⟩ := ‹z_R s›
  refine V_iload_n (pc := 0) X dX9_isSheet_0 rfl ?_
  refine V_if_lt (pc := 1) X 22 dX9_isSheet_1 (by decide) ⟨by omega, by omega⟩ (fun c_1 => ?_) (fun c_1 => ?_)
  · skip
    refine V_iconst (pc := 22) X dX9_isSheet_22 ?_
    refine V_zret (st := []) (pc := 23) X hQ dX9_isSheet_23 rfl (by omega) rfl ?_
    exact z_pi (by unfold z_b c_isSh; first | (rw [if_pos (decide_eq_true (by omega))]) | (rw [if_neg (by simp; omega)]))
  · skip
    refine V_iload_n (pc := 4) X dX9_isSheet_4 rfl ?_
    refine V_aload_n (pc := 5) X dX9_isSheet_5 rfl (by first | decide | omega | assumption) ?_
    refine V_gz (pc := 6) X dX9_isSheet_6 f_RX9_19 (by first | rfl | assumption | (simp only [*]; done) | omega) 1 rfl ob1 ?_
    refine V_gz (pc := 9) X dX9_isSheet_9 f_RX9_62 (by first | rfl | assumption | (simp only [*]; done) | omega) 1 rfl r31 ?_
    refine V_gz (pc := 12) X dX9_isSheet_12 f_RX9_261 (by first | rfl | assumption | (simp only [*]; done) | omega) 4 rfl rfl ?_
    refine V_icmp_ge (pc := 15) X 22 dX9_isSheet_15 (by decide) ⟨by omega, by omega⟩ ⟨by omega, by omega⟩ (fun c_15 => ?_) (fun c_15 => ?_)
    · skip
      refine V_iconst (pc := 22) X dX9_isSheet_22 ?_
      refine V_zret (st := []) (pc := 23) X hQ dX9_isSheet_23 rfl (by omega) rfl ?_
      exact z_pi (by unfold z_b c_isSh; first | (rw [if_pos (decide_eq_true (by omega))]) | (rw [if_neg (by simp; omega)]))
    · skip
      refine V_iconst (pc := 18) X dX9_isSheet_18 ?_
      refine V_goto (pc := 19) X 23 dX9_isSheet_19 (by decide) ?_
      refine V_zret (st := []) (pc := 23) X hQ dX9_isSheet_23 rfl (by omega) rfl ?_
      exact z_pi (by unfold z_b c_isSh; first | (rw [if_pos (decide_eq_true (by omega))]) | (rw [if_neg (by simp; omega)]))
set_option maxHeartbeats 4000000 in
set_option maxRecDepth 100000 in
theorem ct_X9_greatestDivisor {n : Nat} {h : z_H} {u : Int} (h0 : 0 ≤ u) (h1 : u ≤ 100) : z_Ct mX9_greatestDivisor n [(0, 100), (0, u)] h (fun r h2 => ∃ g : Int, r = some (0, g) ∧ h2 = h ∧ c_gd u g) := by
  refine z_mk (L := [(0, 100), (0, u), (9, 0)]) oX9_greatestDivisor.2.2.2.2 (Nat.le_of_ble_eq_true rfl) rfl ?_
  intro Γ X hQ
  refine V_bipush (pc := 0) X dX9_greatestDivisor_0 (by decide) ?_
  refine V_istore_n (pc := 2) X dX9_greatestDivisor_2 (by exact Nat.le_of_ble_eq_true rfl) rfl ?_
  have lp_3 : ∀ (m : Nat) (i : Int), i.toNat < m → 1 ≤ i → i ≤ 100 → (∀ j : Int, i < j → j ≤ 100 → ¬ (100 % j = 0 ∧ u % j = 0)) → z_V Γ (n, 0, 0) 3 [(0, 100), (0, u), (0, i)] [] h := by
    intro m
    induction m with
    | zero => intro i hm; exact absurd hm (Nat.not_lt_zero _)
    | succ m ih_3 =>
      intro i hm hi0 hi1 hk
      refine V_iload_n (pc := 3) X dX9_greatestDivisor_3 rfl ?_
      refine V_iconst (pc := 4) X dX9_greatestDivisor_4 ?_
      refine V_icmp_le (pc := 5) X 28 dX9_greatestDivisor_5 (by decide) ⟨by omega, by omega⟩ ⟨by omega, by omega⟩ (fun c_5 => ?_) (fun c_5 => ?_)
      · skip
        refine V_iconst (pc := 28) X dX9_greatestDivisor_28 ?_
        refine V_iret (st := []) (pc := 29) X hQ dX9_greatestDivisor_29 rfl rfl ?_
        exact ⟨1, rfl, rfl, by decide, by decide, ⟨by decide, by omega⟩, fun j a b => hk j (by omega) b⟩
      · skip
        refine V_iload_n (pc := 8) X dX9_greatestDivisor_8 rfl ?_
        refine V_iload_n (pc := 9) X dX9_greatestDivisor_9 rfl ?_
        refine V_iremN (pc := 10) X dX9_greatestDivisor_10 (by omega) (by omega) (by omega) (by omega) ?_
        refine V_if_ne (pc := 11) X 22 dX9_greatestDivisor_11 (by decide) ⟨by omega, by omega⟩ (fun c_11 => ?_) (fun c_11 => ?_)
        · skip
          refine V_iinc (pc := 22) X dX9_greatestDivisor_22 rfl rfl ?_
          refine V_goto (pc := 25) X 3 dX9_greatestDivisor_25 (by decide) ?_
          refine ih_3 (i - 1) (by omega) (by omega) (by omega) (fun j a b g => ?_)
          by_cases e : j = i
          · rw [e] at g; first | exact c_11 g.1 | exact c_17 g.2
          · exact hk j (by omega) b g
        · skip
          refine V_iload_n (pc := 14) X dX9_greatestDivisor_14 rfl ?_
          refine V_iload_n (pc := 15) X dX9_greatestDivisor_15 rfl ?_
          refine V_iremN (pc := 16) X dX9_greatestDivisor_16 (by omega) (by omega) (by omega) (by omega) ?_
          refine V_if_ne (pc := 17) X 22 dX9_greatestDivisor_17 (by decide) ⟨by omega, by omega⟩ (fun c_17 => ?_) (fun c_17 => ?_)
          · skip
            refine V_iinc (pc := 22) X dX9_greatestDivisor_22 rfl rfl ?_
            refine V_goto (pc := 25) X 3 dX9_greatestDivisor_25 (by decide) ?_
            refine ih_3 (i - 1) (by omega) (by omega) (by omega) (fun j a b g => ?_)
            by_cases e : j = i
            · rw [e] at g; first | exact c_11 g.1 | exact c_17 g.2
            · exact hk j (by omega) b g
          · skip
            refine V_iload_n (pc := 20) X dX9_greatestDivisor_20 rfl ?_
            refine V_iret (st := []) (pc := 21) X hQ dX9_greatestDivisor_21 rfl rfl ?_
            exact ⟨i, rfl, rfl, by omega, hi1, ⟨c_11, c_17⟩, hk⟩
  exact lp_3 _ 100 (Nat.lt_succ_self _) (by decide) (by decide) (by intro j a b; omega)
set_option maxHeartbeats 4000000 in
set_option maxRecDepth 100000 in
theorem ct_X9_clearOfHundred {h : z_H} (hO : c_Ob h) {pl mo : Int} (hS : c_Sc h pl mo) {t k x : Int} (h0 : 0 ≤ t) (h1 : t < 84) (h2 : 0 ≤ k) (h3 : k < 8) (h4 : 0 ≤ x) (h5 : x ≤ 10) : z_Ct mX9_clearOfHundred 107 [(2, 0), (0, t), (0, k), (0, x)] h (z_pure (0, c_clr100 h pl mo t k x) h) := by
  refine z_mk (L := [(2, 0), (0, t), (0, k), (0, x), (9, 0)]) oX9_clearOfHundred.2.2.2.2 (Nat.le_of_ble_eq_true rfl) rfl ?_
  intro Γ X hQ
  obtain ⟨ob0, ob1, ob2, ob3, ob4, ob5, ob6, ob7, r320⟩ := id hO
  obtain ⟨r30, r31, r42, ⟨kp, rp0, rp1, kp1, kp2, hw, hh, hs, hgl, hpi⟩, ⟨km, rm0, km1, hbr, hmi, hse, hbf⟩⟩ := id hS
  refine V_aload_n (pc := 0) X dX9_clearOfHundred_0 rfl (by first | decide | omega | assumption) ?_
  refine V_gz (pc := 1) X dX9_clearOfHundred_1 f_RX9_19 (by first | rfl | assumption | (simp only [*]; done) | omega) 1 rfl ob1 ?_
  refine V_iload_n (pc := 4) X dX9_clearOfHundred_4 rfl ?_
  refine V_iload_n (pc := 5) X dX9_clearOfHundred_5 rfl ?_
  refine V_FV (pc := 6) X dX9_clearOfHundred_6 oX5_lightOf l_RX9_176 eX5_lightOf vX5_lightOf ⟨Nat.le_of_ble_eq_true rfl, Nat.le_of_ble_eq_true rfl⟩ ⟨rfl, rfl⟩ ⟨Nat.le_of_ble_eq_true rfl, Nat.le_of_ble_eq_true rfl⟩ (ct_X5_lightOf hS (by omega) (by omega) (by omega) (by omega)) rfl (by first | rfl | assumption | (simp only [*]; done) | omega) (by intro q h; cases h; rfl) rfl (by rfl) (by exact Nat.le_of_ble_eq_true rfl) ?_
  refine V_bipush (pc := 9) X dX9_clearOfHundred_9 (by decide) ?_
  have hli := c_light_rng (t := t) (k := k) hS
  refine V_icmp_ne (pc := 11) X 17 dX9_clearOfHundred_11 (by decide) ⟨by omega, by omega⟩ ⟨by omega, by omega⟩ (fun c_11 => ?_) (fun c_11 => ?_)
  · skip
    have g1 := c_own_rng (t := t) (k := k) hS
    have g2 := c_mir_rng (t := t) (k := k) hS
    refine V_bipush (pc := 17) X dX9_clearOfHundred_17 (by decide) ?_
    refine V_istore (pc := 19) X dX9_clearOfHundred_19 (by exact Nat.le_of_ble_eq_true rfl) rfl ?_
    refine V_joinL 46 4 (fun z => z = if c_own h pl mo t k = -1 then 100 else 10 * (10 - x)) (fun J => ?_) (fun z hz => ?_)
    · skip
      refine V_aload_n (pc := 21) X dX9_clearOfHundred_21 rfl (by first | decide | omega | assumption) ?_
      refine V_gz (pc := 22) X dX9_clearOfHundred_22 f_RX9_19 (by first | rfl | assumption | (simp only [*]; done) | omega) 1 rfl ob1 ?_
      refine V_iload_n (pc := 25) X dX9_clearOfHundred_25 rfl ?_
      refine V_iload_n (pc := 26) X dX9_clearOfHundred_26 rfl ?_
      refine V_FV (pc := 27) X dX9_clearOfHundred_27 oX5_paneByItself l_RX9_276 eX5_paneByItself vX5_paneByItself ⟨Nat.le_of_ble_eq_true rfl, Nat.le_of_ble_eq_true rfl⟩ ⟨rfl, rfl⟩ ⟨Nat.le_of_ble_eq_true rfl, Nat.le_of_ble_eq_true rfl⟩ (ct_X5_paneByItself hS (by omega) (by omega) (by omega) (by omega)) rfl (by first | rfl | assumption | (simp only [*]; done) | omega) (by intro q h; cases h; rfl) rfl (by rfl) (by exact Nat.le_of_ble_eq_true rfl) ?_
      refine V_iconst (pc := 30) X dX9_clearOfHundred_30 ?_
      refine V_icmp_eq (pc := 31) X 46 dX9_clearOfHundred_31 (by decide) ⟨by omega, by omega⟩ ⟨by omega, by omega⟩ (fun c_31 => ?_) (fun c_31 => ?_)
      · skip
        exact J _ (by first | rw [if_pos c_31] | (rw [if_neg c_31]; omega))
      · skip
        refine V_iload (pc := 34) X dX9_clearOfHundred_34 rfl ?_
        refine V_bipush (pc := 36) X dX9_clearOfHundred_36 (by decide) ?_
        refine V_iload_n (pc := 38) X dX9_clearOfHundred_38 rfl ?_
        refine V_isub (pc := 39) X dX9_clearOfHundred_39 ?_
        refine V_imul (pc := 40) X dX9_clearOfHundred_40 ?_
        refine V_bipush (pc := 41) X dX9_clearOfHundred_41 (by decide) ?_
        refine V_idivN (pc := 43) X dX9_clearOfHundred_43 (by omega) (by omega) (by omega) (by omega) ?_
        refine V_istore (pc := 44) X dX9_clearOfHundred_44 (by exact Nat.le_of_ble_eq_true rfl) rfl ?_
        exact J _ (by first | rw [if_pos c_31] | (rw [if_neg c_31]; omega))
    · skip
      have hz2 : 0 ≤ z ∧ z ≤ 100 := by rw [hz]; split <;> omega
      refine V_joinL 71 4 (fun z => z = if c_mir h pl mo t k = -1 then (if c_own h pl mo t k = -1 then 100 else 10 * (10 - x)) else (if c_own h pl mo t k = -1 then 100 else 10 * (10 - x)) * (10 - x) / 10) (fun J => ?_) (fun w hw2 => ?_)
      · skip
        refine V_aload_n (pc := 46) X dX9_clearOfHundred_46 rfl (by first | decide | omega | assumption) ?_
        refine V_gz (pc := 47) X dX9_clearOfHundred_47 f_RX9_19 (by first | rfl | assumption | (simp only [*]; done) | omega) 1 rfl ob1 ?_
        refine V_iload_n (pc := 50) X dX9_clearOfHundred_50 rfl ?_
        refine V_iload_n (pc := 51) X dX9_clearOfHundred_51 rfl ?_
        refine V_FV (pc := 52) X dX9_clearOfHundred_52 oX5_paneByMirror l_RX9_279 eX5_paneByMirror vX5_paneByMirror ⟨Nat.le_of_ble_eq_true rfl, Nat.le_of_ble_eq_true rfl⟩ ⟨rfl, rfl⟩ ⟨Nat.le_of_ble_eq_true rfl, Nat.le_of_ble_eq_true rfl⟩ (ct_X5_paneByMirror hS (by omega) (by omega) (by omega) (by omega)) rfl (by first | rfl | assumption | (simp only [*]; done) | omega) (by intro q h; cases h; rfl) rfl (by rfl) (by exact Nat.le_of_ble_eq_true rfl) ?_
        refine V_iconst (pc := 55) X dX9_clearOfHundred_55 ?_
        refine V_icmp_eq (pc := 56) X 71 dX9_clearOfHundred_56 (by decide) ⟨by omega, by omega⟩ ⟨by omega, by omega⟩ (fun c_56 => ?_) (fun c_56 => ?_)
        · skip
          exact J _ (by first | (rw [if_pos c_56, ← hz]) | (rw [if_neg c_56, ← hz]))
        · skip
          refine V_iload (pc := 59) X dX9_clearOfHundred_59 rfl ?_
          refine V_bipush (pc := 61) X dX9_clearOfHundred_61 (by decide) ?_
          refine V_iload_n (pc := 63) X dX9_clearOfHundred_63 rfl ?_
          refine V_isub (pc := 64) X dX9_clearOfHundred_64 ?_
          refine V_imul (pc := 65) X dX9_clearOfHundred_65 ?_
          refine V_bipush (pc := 66) X dX9_clearOfHundred_66 (by decide) ?_
          refine V_idivN (pc := 68) X dX9_clearOfHundred_68 (by have := Int.mul_nonneg hz2.1 (show 0 ≤ 10 - x by omega); omega) (by have := Int.mul_le_mul hz2.2 (show 10 - x ≤ 10 by omega) (by omega) (by decide); omega) (by omega) (by omega) ?_
          refine V_istore (pc := 69) X dX9_clearOfHundred_69 (by exact Nat.le_of_ble_eq_true rfl) rfl ?_
          exact J _ (by first | (rw [if_pos c_56, ← hz]) | (rw [if_neg c_56, ← hz]))
      · skip
        refine V_bipush (pc := 71) X dX9_clearOfHundred_71 (by decide) ?_
        refine V_iload (pc := 73) X dX9_clearOfHundred_73 rfl ?_
        refine V_isub (pc := 75) X dX9_clearOfHundred_75 ?_
        refine V_iret (st := []) (pc := 76) X hQ dX9_clearOfHundred_76 rfl rfl ?_
        exact z_pi (by unfold c_clr100; rw [if_neg c_11, ← hw2])
  · skip
    refine V_bipush (pc := 14) X dX9_clearOfHundred_14 (by decide) ?_
    refine V_iret (st := []) (pc := 16) X hQ dX9_clearOfHundred_16 rfl rfl ?_
    exact z_pi (by unfold c_clr100; rw [if_pos c_11])
