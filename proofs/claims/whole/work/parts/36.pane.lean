/-! PaneLight: what it answers -/
set_option maxHeartbeats 4000000 in
set_option maxRecDepth 100000 in
theorem ct_X9_isTile {n : Nat} {h : z_H} {x y : Int} (hx : z_R x) (hy : z_R y) : z_Ct mX9_isTile n [(0, x), (0, y)] h (z_pure (0, z_b (c_tile x y)) h) := by
  refine z_mk (L := [(0, x), (0, y)]) oX9_isTile.2.2.2.2 (Nat.le_of_ble_eq_true rfl) rfl ?_
  intro Γ X hQ
  obtain ⟨hx1, hx2⟩ := hx
  obtain ⟨hy1, hy2⟩ := hy
  refine V_iload_n (pc := 0) X dX9_isTile_0 rfl ?_
  refine V_if_lt (pc := 1) X 24 dX9_isTile_1 (by decide) ⟨by omega, by omega⟩ (fun c_1 => ?_) (fun c_1 => ?_)
  · skip
    refine V_iconst (pc := 24) X dX9_isTile_24 ?_
    refine V_zret (st := []) (pc := 25) X hQ dX9_isTile_25 rfl (by omega) rfl ?_
    exact z_pi (by unfold z_b c_tile; first | (rw [if_pos (decide_eq_true (by omega))]) | (rw [if_neg (by simp; omega)]))
  · skip
    refine V_iload_n (pc := 4) X dX9_isTile_4 rfl ?_
    refine V_bipush (pc := 5) X dX9_isTile_5 (by decide) ?_
    refine V_icmp_ge (pc := 7) X 24 dX9_isTile_7 (by decide) ⟨by omega, by omega⟩ ⟨by omega, by omega⟩ (fun c_7 => ?_) (fun c_7 => ?_)
    · skip
      refine V_iconst (pc := 24) X dX9_isTile_24 ?_
      refine V_zret (st := []) (pc := 25) X hQ dX9_isTile_25 rfl (by omega) rfl ?_
      exact z_pi (by unfold z_b c_tile; first | (rw [if_pos (decide_eq_true (by omega))]) | (rw [if_neg (by simp; omega)]))
    · skip
      refine V_iload_n (pc := 10) X dX9_isTile_10 rfl ?_
      refine V_if_lt (pc := 11) X 24 dX9_isTile_11 (by decide) ⟨by omega, by omega⟩ (fun c_11 => ?_) (fun c_11 => ?_)
      · skip
        refine V_iconst (pc := 24) X dX9_isTile_24 ?_
        refine V_zret (st := []) (pc := 25) X hQ dX9_isTile_25 rfl (by omega) rfl ?_
        exact z_pi (by unfold z_b c_tile; first | (rw [if_pos (decide_eq_true (by omega))]) | (rw [if_neg (by simp; omega)]))
      · skip
        refine V_iload_n (pc := 14) X dX9_isTile_14 rfl ?_
        refine V_bipush (pc := 15) X dX9_isTile_15 (by decide) ?_
        refine V_icmp_ge (pc := 17) X 24 dX9_isTile_17 (by decide) ⟨by omega, by omega⟩ ⟨by omega, by omega⟩ (fun c_17 => ?_) (fun c_17 => ?_)
        · skip
          refine V_iconst (pc := 24) X dX9_isTile_24 ?_
          refine V_zret (st := []) (pc := 25) X hQ dX9_isTile_25 rfl (by omega) rfl ?_
          exact z_pi (by unfold z_b c_tile; first | (rw [if_pos (decide_eq_true (by omega))]) | (rw [if_neg (by simp; omega)]))
        · skip
          refine V_iconst (pc := 20) X dX9_isTile_20 ?_
          refine V_goto (pc := 21) X 25 dX9_isTile_21 (by decide) ?_
          refine V_zret (st := []) (pc := 25) X hQ dX9_isTile_25 rfl (by omega) rfl ?_
          exact z_pi (by unfold z_b c_tile; first | (rw [if_pos (decide_eq_true (by omega))]) | (rw [if_neg (by simp; omega)]))
set_option maxHeartbeats 4000000 in
set_option maxRecDepth 100000 in
theorem ct_X9_isHour {n : Nat} {h : z_H} {x : Int} (hx : z_R x) : z_Ct mX9_isHour n [(0, x)] h (z_pure (0, z_b (c_hour x)) h) := by
  refine z_mk (L := [(0, x)]) oX9_isHour.2.2.2.2 (Nat.le_of_ble_eq_true rfl) rfl ?_
  intro Γ X hQ
  obtain ⟨hx1, hx2⟩ := hx
  refine V_iload_n (pc := 0) X dX9_isHour_0 rfl ?_
  refine V_if_lt (pc := 1) X 14 dX9_isHour_1 (by decide) ⟨by omega, by omega⟩ (fun c_1 => ?_) (fun c_1 => ?_)
  · skip
    refine V_iconst (pc := 14) X dX9_isHour_14 ?_
    refine V_zret (st := []) (pc := 15) X hQ dX9_isHour_15 rfl (by omega) rfl ?_
    exact z_pi (by unfold z_b c_hour; first | (rw [if_pos (decide_eq_true (by omega))]) | (rw [if_neg (by simp; omega)]))
  · skip
    refine V_iload_n (pc := 4) X dX9_isHour_4 rfl ?_
    refine V_bipush (pc := 5) X dX9_isHour_5 (by decide) ?_
    refine V_icmp_ge (pc := 7) X 14 dX9_isHour_7 (by decide) ⟨by omega, by omega⟩ ⟨by omega, by omega⟩ (fun c_7 => ?_) (fun c_7 => ?_)
    · skip
      refine V_iconst (pc := 14) X dX9_isHour_14 ?_
      refine V_zret (st := []) (pc := 15) X hQ dX9_isHour_15 rfl (by omega) rfl ?_
      exact z_pi (by unfold z_b c_hour; first | (rw [if_pos (decide_eq_true (by omega))]) | (rw [if_neg (by simp; omega)]))
    · skip
      refine V_iconst (pc := 10) X dX9_isHour_10 ?_
      refine V_goto (pc := 11) X 15 dX9_isHour_11 (by decide) ?_
      refine V_zret (st := []) (pc := 15) X hQ dX9_isHour_15 rfl (by omega) rfl ?_
      exact z_pi (by unfold z_b c_hour; first | (rw [if_pos (decide_eq_true (by omega))]) | (rw [if_neg (by simp; omega)]))
set_option maxHeartbeats 4000000 in
set_option maxRecDepth 100000 in
theorem ct_X9_isColour {n : Nat} {h : z_H} {x : Int} (hx : z_R x) : z_Ct mX9_isColour n [(0, x)] h (z_pure (0, z_b (c_hour x)) h) := by
  refine z_mk (L := [(0, x)]) oX9_isColour.2.2.2.2 (Nat.le_of_ble_eq_true rfl) rfl ?_
  intro Γ X hQ
  obtain ⟨hx1, hx2⟩ := hx
  refine V_iload_n (pc := 0) X dX9_isColour_0 rfl ?_
  refine V_if_lt (pc := 1) X 14 dX9_isColour_1 (by decide) ⟨by omega, by omega⟩ (fun c_1 => ?_) (fun c_1 => ?_)
  · skip
    refine V_iconst (pc := 14) X dX9_isColour_14 ?_
    refine V_zret (st := []) (pc := 15) X hQ dX9_isColour_15 rfl (by omega) rfl ?_
    exact z_pi (by unfold z_b c_hour; first | (rw [if_pos (decide_eq_true (by omega))]) | (rw [if_neg (by simp; omega)]))
  · skip
    refine V_iload_n (pc := 4) X dX9_isColour_4 rfl ?_
    refine V_bipush (pc := 5) X dX9_isColour_5 (by decide) ?_
    refine V_icmp_ge (pc := 7) X 14 dX9_isColour_7 (by decide) ⟨by omega, by omega⟩ ⟨by omega, by omega⟩ (fun c_7 => ?_) (fun c_7 => ?_)
    · skip
      refine V_iconst (pc := 14) X dX9_isColour_14 ?_
      refine V_zret (st := []) (pc := 15) X hQ dX9_isColour_15 rfl (by omega) rfl ?_
      exact z_pi (by unfold z_b c_hour; first | (rw [if_pos (decide_eq_true (by omega))]) | (rw [if_neg (by simp; omega)]))
    · skip
      refine V_iconst (pc := 10) X dX9_isColour_10 ?_
      refine V_goto (pc := 11) X 15 dX9_isColour_11 (by decide) ?_
      refine V_zret (st := []) (pc := 15) X hQ dX9_isColour_15 rfl (by omega) rfl ?_
      exact z_pi (by unfold z_b c_hour; first | (rw [if_pos (decide_eq_true (by omega))]) | (rw [if_neg (by simp; omega)]))
set_option maxHeartbeats 4000000 in
set_option maxRecDepth 100000 in
theorem ct_X9_numberOf {n : Nat} {h : z_H} {x y : Int} : z_Ct mX9_numberOf n [(0, x), (0, y)] h (z_pure (0, 7 * x + y) h) := by
  refine z_mk (L := [(0, x), (0, y)]) oX9_numberOf.2.2.2.2 (Nat.le_of_ble_eq_true rfl) rfl ?_
  intro Γ X hQ
  refine V_bipush (pc := 0) X dX9_numberOf_0 (by decide) ?_
  refine V_iload_n (pc := 2) X dX9_numberOf_2 rfl ?_
  refine V_imul (pc := 3) X dX9_numberOf_3 ?_
  refine V_iload_n (pc := 4) X dX9_numberOf_4 rfl ?_
  refine V_iadd (pc := 5) X dX9_numberOf_5 ?_
  refine V_iret (st := []) (pc := 6) X hQ dX9_numberOf_6 rfl rfl ?_
  exact z_pi (rfl)
set_option maxHeartbeats 4000000 in
set_option maxRecDepth 100000 in
theorem ct_X9_isSheet {h : z_H} (hO : c_Ob h) {pl mo : Int} (hS : c_Sc h pl mo) {s : Int} (hs : z_R s) : z_Ct mX9_isSheet 107 [(2, 0), (0, s)] h (z_pure (0, z_b (c_isSh h pl s)) h) := by
  refine z_mk (L := [(2, 0), (0, s)]) oX9_isSheet.2.2.2.2 (Nat.le_of_ble_eq_true rfl) rfl ?_
  intro Γ X hQ
  obtain ⟨ob0, ob1, ob2, ob3, ob4, ob5, ob6, ob7, r320⟩ := id hO
  obtain ⟨r30, r31, r42, ⟨kp, rp0, rp1, kp1, kp2, hw, hh, hs, hgl, hpi⟩, ⟨km, rm0, km1, hbr, hmi, hse, hbf⟩⟩ := id hS
  obtain ⟨hs1, hs2⟩ := ‹z_R s›
  refine V_iload_n (pc := 0) X dX9_isSheet_0 rfl ?_
  refine V_if_lt (pc := 1) X 22 dX9_isSheet_1 (by decide) ⟨by omega, by omega⟩ (fun c_1 => ?_) (fun c_1 => ?_)
  · skip
    refine V_iconst (pc := 22) X dX9_isSheet_22 ?_
    refine V_zret (st := []) (pc := 23) X hQ dX9_isSheet_23 rfl (by omega) rfl ?_
    exact z_pi (by unfold z_b c_isSh; first | (rw [if_pos (decide_eq_true (by omega))]) | (rw [if_neg (by simp; omega)]))
  · skip
    refine V_iload_n (pc := 4) X dX9_isSheet_4 rfl ?_
    refine V_aload_n (pc := 5) X dX9_isSheet_5 rfl (by first | decide | omega | assumption) ?_
    refine V_gz (pc := 6) X dX9_isSheet_6 f_RX9_19 (by first | rfl | assumption | (simp only [*]; done) | omega) 1 rfl ob1 ?_
    refine V_gz (pc := 9) X dX9_isSheet_9 f_RX9_62 (by first | rfl | assumption | (simp only [*]; done) | omega) 1 rfl r31 ?_
    refine V_gz (pc := 12) X dX9_isSheet_12 f_RX9_261 (by first | rfl | assumption | (simp only [*]; done) | omega) 4 rfl rfl ?_
    refine V_icmp_ge (pc := 15) X 22 dX9_isSheet_15 (by decide) ⟨by omega, by omega⟩ ⟨by omega, by omega⟩ (fun c_15 => ?_) (fun c_15 => ?_)
    · skip
      refine V_iconst (pc := 22) X dX9_isSheet_22 ?_
      refine V_zret (st := []) (pc := 23) X hQ dX9_isSheet_23 rfl (by omega) rfl ?_
      exact z_pi (by unfold z_b c_isSh; first | (rw [if_pos (decide_eq_true (by omega))]) | (rw [if_neg (by simp; omega)]))
    · skip
      refine V_iconst (pc := 18) X dX9_isSheet_18 ?_
      refine V_goto (pc := 19) X 23 dX9_isSheet_19 (by decide) ?_
      refine V_zret (st := []) (pc := 23) X hQ dX9_isSheet_23 rfl (by omega) rfl ?_
      exact z_pi (by unfold z_b c_isSh; first | (rw [if_pos (decide_eq_true (by omega))]) | (rw [if_neg (by simp; omega)]))
set_option maxHeartbeats 4000000 in
set_option maxRecDepth 100000 in
theorem ct_X9_greatestDivisor {n : Nat} {h : z_H} {u : Int} (h0 : 0 ≤ u) (h1 : u ≤ 100) : z_Ct mX9_greatestDivisor n [(0, 100), (0, u)] h (fun r h2 => ∃ g : Int, r = some (0, g) ∧ h2 = h ∧ c_gd u g) := by
  refine z_mk (L := [(0, 100), (0, u), (9, 0)]) oX9_greatestDivisor.2.2.2.2 (Nat.le_of_ble_eq_true rfl) rfl ?_
  intro Γ X hQ
  refine V_bipush (pc := 0) X dX9_greatestDivisor_0 (by decide) ?_
  refine V_istore_n (pc := 2) X dX9_greatestDivisor_2 (by exact Nat.le_of_ble_eq_true rfl) rfl ?_
  have lp_3 : ∀ (m : Nat) (i : Int), i.toNat < m → 1 ≤ i → i ≤ 100 → (∀ j : Int, i < j → j ≤ 100 → ¬ (100 % j = 0 ∧ u % j = 0)) → z_V Γ (n, 0, 0) 3 [(0, 100), (0, u), (0, i)] [] h := by
    intro m
    induction m with
    | zero => intro i hm; exact absurd hm (Nat.not_lt_zero _)
    | succ m ih_3 =>
      intro i hm hi0 hi1 hk
      refine V_iload_n (pc := 3) X dX9_greatestDivisor_3 rfl ?_
      refine V_iconst (pc := 4) X dX9_greatestDivisor_4 ?_
      refine V_icmp_le (pc := 5) X 28 dX9_greatestDivisor_5 (by decide) ⟨by omega, by omega⟩ ⟨by omega, by omega⟩ (fun c_5 => ?_) (fun c_5 => ?_)
      · skip
        refine V_iconst (pc := 28) X dX9_greatestDivisor_28 ?_
        refine V_iret (st := []) (pc := 29) X hQ dX9_greatestDivisor_29 rfl rfl ?_
        exact ⟨1, rfl, rfl, by decide, by decide, ⟨by decide, by omega⟩, fun j a b => hk j (by omega) b⟩
      · skip
        have m1 := Int.emod_nonneg 100 (show i ≠ 0 by omega)
        have m2 := Int.emod_lt_of_pos 100 (show 0 < i by omega)
        have m3 := Int.emod_nonneg u (show i ≠ 0 by omega)
        have m4 := Int.emod_lt_of_pos u (show 0 < i by omega)
        refine V_iload_n (pc := 8) X dX9_greatestDivisor_8 rfl ?_
        refine V_iload_n (pc := 9) X dX9_greatestDivisor_9 rfl ?_
        refine V_iremN (pc := 10) X dX9_greatestDivisor_10 (by omega) (by omega) (by omega) (by omega) ?_
        refine V_if_ne (pc := 11) X 22 dX9_greatestDivisor_11 (by decide) ⟨by omega, by omega⟩ (fun c_11 => ?_) (fun c_11 => ?_)
        · skip
          refine V_iinc (pc := 22) X dX9_greatestDivisor_22 rfl rfl ?_
          refine V_goto (pc := 25) X 3 dX9_greatestDivisor_25 (by decide) ?_
          refine ih_3 (i - 1) (by omega) (by omega) (by omega) (fun j a b g => ?_)
          by_cases e : j = i
          · rw [e] at g; first | exact c_11 g.1 | exact c_17 g.2
          · exact hk j (by omega) b g
        · skip
          refine V_iload_n (pc := 14) X dX9_greatestDivisor_14 rfl ?_
          refine V_iload_n (pc := 15) X dX9_greatestDivisor_15 rfl ?_
          refine V_iremN (pc := 16) X dX9_greatestDivisor_16 (by omega) (by omega) (by omega) (by omega) ?_
          refine V_if_ne (pc := 17) X 22 dX9_greatestDivisor_17 (by decide) ⟨by omega, by omega⟩ (fun c_17 => ?_) (fun c_17 => ?_)
          · skip
            refine V_iinc (pc := 22) X dX9_greatestDivisor_22 rfl rfl ?_
            refine V_goto (pc := 25) X 3 dX9_greatestDivisor_25 (by decide) ?_
            refine ih_3 (i - 1) (by omega) (by omega) (by omega) (fun j a b g => ?_)
            by_cases e : j = i
            · rw [e] at g; first | exact c_11 g.1 | exact c_17 g.2
            · exact hk j (by omega) b g
          · skip
            refine V_iload_n (pc := 20) X dX9_greatestDivisor_20 rfl ?_
            refine V_iret (st := []) (pc := 21) X hQ dX9_greatestDivisor_21 rfl rfl ?_
            exact ⟨i, rfl, rfl, by omega, hi1, ⟨c_11, c_17⟩, hk⟩
  exact lp_3 _ 100 (Nat.lt_succ_self _) (by decide) (by decide) (by intro j a b; omega)
set_option maxHeartbeats 4000000 in
set_option maxRecDepth 100000 in
theorem ct_X9_clearOfHundred {h : z_H} (hO : c_Ob h) {pl mo : Int} (hS : c_Sc h pl mo) {t k x : Int} (h0 : 0 ≤ t) (h1 : t < 84) (h2 : 0 ≤ k) (h3 : k < 8) (h4 : 0 ≤ x) (h5 : x ≤ 10) : z_Ct mX9_clearOfHundred 107 [(2, 0), (0, t), (0, k), (0, x)] h (z_pure (0, c_clr100 h pl mo t k x) h) := by
  refine z_mk (L := [(2, 0), (0, t), (0, k), (0, x), (9, 0)]) oX9_clearOfHundred.2.2.2.2 (Nat.le_of_ble_eq_true rfl) rfl ?_
  intro Γ X hQ
  obtain ⟨ob0, ob1, ob2, ob3, ob4, ob5, ob6, ob7, r320⟩ := id hO
  obtain ⟨r30, r31, r42, ⟨kp, rp0, rp1, kp1, kp2, hw, hh, hs, hgl, hpi⟩, ⟨km, rm0, km1, hbr, hmi, hse, hbf⟩⟩ := id hS
  refine V_aload_n (pc := 0) X dX9_clearOfHundred_0 rfl (by first | decide | omega | assumption) ?_
  refine V_gz (pc := 1) X dX9_clearOfHundred_1 f_RX9_19 (by first | rfl | assumption | (simp only [*]; done) | omega) 1 rfl ob1 ?_
  refine V_iload_n (pc := 4) X dX9_clearOfHundred_4 rfl ?_
  refine V_iload_n (pc := 5) X dX9_clearOfHundred_5 rfl ?_
  refine V_FV (pc := 6) X dX9_clearOfHundred_6 oX5_lightOf l_RX9_176 eX5_lightOf vX5_lightOf ⟨Nat.le_of_ble_eq_true rfl, Nat.le_of_ble_eq_true rfl⟩ ⟨rfl, rfl⟩ ⟨Nat.le_of_ble_eq_true rfl, Nat.le_of_ble_eq_true rfl⟩ (ct_X5_lightOf hS (by omega) (by omega) (by omega) (by omega)) rfl (by first | rfl | assumption | (simp only [*]; done) | omega) (by intro q h; cases h; rfl) rfl (by rfl) (by exact Nat.le_of_ble_eq_true rfl) ?_
  refine V_bipush (pc := 9) X dX9_clearOfHundred_9 (by decide) ?_
  have hli := c_light_rng (t := t) (k := k) hS
  refine V_icmp_ne (pc := 11) X 17 dX9_clearOfHundred_11 (by decide) ⟨by omega, by omega⟩ ⟨by omega, by omega⟩ (fun c_11 => ?_) (fun c_11 => ?_)
  · skip
    have g1 := c_own_rng (t := t) (k := k) hS
    have g2 := c_mir_rng (t := t) (k := k) hS
    refine V_bipush (pc := 17) X dX9_clearOfHundred_17 (by decide) ?_
    refine V_istore (pc := 19) X dX9_clearOfHundred_19 (by exact Nat.le_of_ble_eq_true rfl) rfl ?_
    refine V_joinL 46 4 (fun z => z = if c_own h pl mo t k = -1 then 100 else 10 * (10 - x)) (fun J => ?_) (fun z hz => ?_)
    · skip
      refine V_aload_n (pc := 21) X dX9_clearOfHundred_21 rfl (by first | decide | omega | assumption) ?_
      refine V_gz (pc := 22) X dX9_clearOfHundred_22 f_RX9_19 (by first | rfl | assumption | (simp only [*]; done) | omega) 1 rfl ob1 ?_
      refine V_iload_n (pc := 25) X dX9_clearOfHundred_25 rfl ?_
      refine V_iload_n (pc := 26) X dX9_clearOfHundred_26 rfl ?_
      refine V_FV (pc := 27) X dX9_clearOfHundred_27 oX5_paneByItself l_RX9_276 eX5_paneByItself vX5_paneByItself ⟨Nat.le_of_ble_eq_true rfl, Nat.le_of_ble_eq_true rfl⟩ ⟨rfl, rfl⟩ ⟨Nat.le_of_ble_eq_true rfl, Nat.le_of_ble_eq_true rfl⟩ (ct_X5_paneByItself hS (by omega) (by omega) (by omega) (by omega)) rfl (by first | rfl | assumption | (simp only [*]; done) | omega) (by intro q h; cases h; rfl) rfl (by rfl) (by exact Nat.le_of_ble_eq_true rfl) ?_
      refine V_iconst (pc := 30) X dX9_clearOfHundred_30 ?_
      refine V_icmp_eq (pc := 31) X 46 dX9_clearOfHundred_31 (by decide) ⟨by omega, by omega⟩ ⟨by omega, by omega⟩ (fun c_31 => ?_) (fun c_31 => ?_)
      · skip
        exact J _ (by first | rw [if_pos c_31] | (rw [if_neg c_31]; omega))
      · skip
        refine V_iload (pc := 34) X dX9_clearOfHundred_34 rfl ?_
        refine V_bipush (pc := 36) X dX9_clearOfHundred_36 (by decide) ?_
        refine V_iload_n (pc := 38) X dX9_clearOfHundred_38 rfl ?_
        refine V_isub (pc := 39) X dX9_clearOfHundred_39 ?_
        refine V_imul (pc := 40) X dX9_clearOfHundred_40 ?_
        refine V_bipush (pc := 41) X dX9_clearOfHundred_41 (by decide) ?_
        refine V_idivN (pc := 43) X dX9_clearOfHundred_43 (by omega) (by omega) (by omega) (by omega) ?_
        refine V_istore (pc := 44) X dX9_clearOfHundred_44 (by exact Nat.le_of_ble_eq_true rfl) rfl ?_
        exact J _ (by first | rw [if_pos c_31] | (rw [if_neg c_31]; omega))
    · skip
      have hz2 : 0 ≤ z ∧ z ≤ 100 := by rw [hz]; split <;> omega
      refine V_joinL 71 4 (fun z => z = if c_mir h pl mo t k = -1 then (if c_own h pl mo t k = -1 then 100 else 10 * (10 - x)) else (if c_own h pl mo t k = -1 then 100 else 10 * (10 - x)) * (10 - x) / 10) (fun J => ?_) (fun w hw2 => ?_)
      · skip
        refine V_aload_n (pc := 46) X dX9_clearOfHundred_46 rfl (by first | decide | omega | assumption) ?_
        refine V_gz (pc := 47) X dX9_clearOfHundred_47 f_RX9_19 (by first | rfl | assumption | (simp only [*]; done) | omega) 1 rfl ob1 ?_
        refine V_iload_n (pc := 50) X dX9_clearOfHundred_50 rfl ?_
        refine V_iload_n (pc := 51) X dX9_clearOfHundred_51 rfl ?_
        refine V_FV (pc := 52) X dX9_clearOfHundred_52 oX5_paneByMirror l_RX9_279 eX5_paneByMirror vX5_paneByMirror ⟨Nat.le_of_ble_eq_true rfl, Nat.le_of_ble_eq_true rfl⟩ ⟨rfl, rfl⟩ ⟨Nat.le_of_ble_eq_true rfl, Nat.le_of_ble_eq_true rfl⟩ (ct_X5_paneByMirror hS (by omega) (by omega) (by omega) (by omega)) rfl (by first | rfl | assumption | (simp only [*]; done) | omega) (by intro q h; cases h; rfl) rfl (by rfl) (by exact Nat.le_of_ble_eq_true rfl) ?_
        refine V_iconst (pc := 55) X dX9_clearOfHundred_55 ?_
        refine V_icmp_eq (pc := 56) X 71 dX9_clearOfHundred_56 (by decide) ⟨by omega, by omega⟩ ⟨by omega, by omega⟩ (fun c_56 => ?_) (fun c_56 => ?_)
        · skip
          exact J _ (by first | (rw [if_pos c_56, ← hz]) | (rw [if_neg c_56, ← hz]))
        · skip
          refine V_iload (pc := 59) X dX9_clearOfHundred_59 rfl ?_
          refine V_bipush (pc := 61) X dX9_clearOfHundred_61 (by decide) ?_
          refine V_iload_n (pc := 63) X dX9_clearOfHundred_63 rfl ?_
          refine V_isub (pc := 64) X dX9_clearOfHundred_64 ?_
          refine V_imul (pc := 65) X dX9_clearOfHundred_65 ?_
          refine V_bipush (pc := 66) X dX9_clearOfHundred_66 (by decide) ?_
          refine V_idivN (pc := 68) X dX9_clearOfHundred_68 (by have := Int.mul_nonneg hz2.1 (show 0 ≤ 10 - x by omega); omega) (by have := Int.mul_le_mul hz2.2 (show 10 - x ≤ 10 by omega) (by omega) (by decide); omega) (by omega) (by omega) ?_
          refine V_istore (pc := 69) X dX9_clearOfHundred_69 (by exact Nat.le_of_ble_eq_true rfl) rfl ?_
          exact J _ (by first | (rw [if_pos c_56, ← hz]) | (rw [if_neg c_56, ← hz]))
      · skip
        refine V_bipush (pc := 71) X dX9_clearOfHundred_71 (by decide) ?_
        refine V_iload (pc := 73) X dX9_clearOfHundred_73 rfl ?_
        refine V_isub (pc := 75) X dX9_clearOfHundred_75 ?_
        refine V_iret (st := []) (pc := 76) X hQ dX9_clearOfHundred_76 rfl rfl ?_
        exact z_pi (by unfold c_clr100; rw [if_neg c_11, ← hw2])
  · skip
    refine V_bipush (pc := 14) X dX9_clearOfHundred_14 (by decide) ?_
    refine V_iret (st := []) (pc := 16) X hQ dX9_clearOfHundred_16 rfl rfl ?_
    exact z_pi (by unfold c_clr100; rw [if_pos c_11])
set_option maxHeartbeats 4000000 in
set_option maxRecDepth 100000 in
theorem ct_X9_pane {h : z_H} (hO : c_Ob h) {pl mo : Int} (hS : c_Sc h pl mo) {x y w : Int} (hx : z_R x) (hy : z_R y) (hw9 : z_R w) : z_Ct mX9_pane 107 [(2, 0), (0, x), (0, y), (0, w)] h (z_pure (0, c_paneF h pl mo x y w) h) := by
  refine z_mk (L := [(2, 0), (0, x), (0, y), (0, w), (9, 0)]) oX9_pane.2.2.2.2 (Nat.le_of_ble_eq_true rfl) rfl ?_
  intro Γ X hQ
  obtain ⟨ob0, ob1, ob2, ob3, ob4, ob5, ob6, ob7, r320⟩ := id hO
  obtain ⟨r30, r31, r42, ⟨kp, rp0, rp1, kp1, kp2, hw, hh, hs, hgl, hpi⟩, ⟨km, rm0, km1, hbr, hmi, hse, hbf⟩⟩ := id hS
  have hpa := c_paneAt_rng (h := h) (pl := pl) (x := x) (y := y) hw.2 hh.2
  obtain ⟨hx1, hx2⟩ := hx
  obtain ⟨hy1, hy2⟩ := hy
  obtain ⟨hwa, hwb⟩ := hw9
  refine V_aload_n (pc := 0) X dX9_pane_0 rfl (by first | decide | omega | assumption) ?_
  refine V_gz (pc := 1) X dX9_pane_1 f_RX9_19 (by first | rfl | assumption | (simp only [*]; done) | omega) 1 rfl ob1 ?_
  refine V_iload_n (pc := 4) X dX9_pane_4 rfl ?_
  refine V_iload_n (pc := 5) X dX9_pane_5 rfl ?_
  refine V_FV (pc := 6) X dX9_pane_6 oX5_paneAt l_RX9_87 eX5_paneAt vX5_paneAt ⟨Nat.le_of_ble_eq_true rfl, Nat.le_of_ble_eq_true rfl⟩ ⟨rfl, rfl⟩ ⟨Nat.le_of_ble_eq_true rfl, Nat.le_of_ble_eq_true rfl⟩ (ct_X5_paneAt hS ⟨by omega, by omega⟩ ⟨by omega, by omega⟩) rfl (by first | rfl | assumption | (simp only [*]; done) | omega) (by intro q h; cases h; rfl) rfl (by rfl) (by exact Nat.le_of_ble_eq_true rfl) ?_
  refine V_istore (pc := 9) X dX9_pane_9 (by exact Nat.le_of_ble_eq_true rfl) rfl ?_
  refine V_iload (pc := 11) X dX9_pane_11 rfl ?_
  refine V_iconst (pc := 13) X dX9_pane_13 ?_
  refine V_icmp_ne (pc := 14) X 19 dX9_pane_14 (by decide) ⟨by omega, by omega⟩ ⟨by omega, by omega⟩ (fun c_14 => ?_) (fun c_14 => ?_)
  · skip
    refine V_iload_n (pc := 19) X dX9_pane_19 rfl ?_
    rcases (show w = 0 ∨ w = 1 ∨ w = 2 ∨ w = 3 ∨ (w < 0 ∨ 3 < w) by omega) with e_sw | e_sw | e_sw | e_sw | e_sw
    · skip
      refine V_tswIn (pc := 20) X 52 dX9_pane_20 e_sw ⟨by decide, by decide⟩ (by decide) (by decide) rfl (by decide) ?_
      refine V_aload_n (pc := 52) X dX9_pane_52 rfl (by first | decide | omega | assumption) ?_
      refine V_gz (pc := 53) X dX9_pane_53 f_RX9_19 (by first | rfl | assumption | (simp only [*]; done) | omega) 1 rfl ob1 ?_
      refine V_gz (pc := 56) X dX9_pane_56 f_RX9_62 (by first | rfl | assumption | (simp only [*]; done) | omega) 1 rfl r31 ?_
      refine V_gz (pc := 59) X dX9_pane_59 f_RX9_91 (by first | rfl | assumption | (simp only [*]; done) | omega) 0 rfl rp0 ?_
      refine V_iload (pc := 62) X dX9_pane_62 rfl ?_
      have hgp := hgl (c_paneAt h pl x y) (by omega) (by omega)
      refine V_iald (pc := 64) X dX9_pane_64 (by first | rfl | assumption | (simp only [*]; done) | omega) (by omega) (by omega) (by decide) ?_
      refine V_iret (st := []) (pc := 65) X hQ dX9_pane_65 rfl rfl ?_
      exact z_pi (by unfold c_paneF; simp [*])
    · skip
      refine V_tswIn (pc := 20) X 66 dX9_pane_20 e_sw ⟨by decide, by decide⟩ (by decide) (by decide) rfl (by decide) ?_
      refine V_aload_n (pc := 66) X dX9_pane_66 rfl (by first | decide | omega | assumption) ?_
      refine V_gz (pc := 67) X dX9_pane_67 f_RX9_19 (by first | rfl | assumption | (simp only [*]; done) | omega) 1 rfl ob1 ?_
      refine V_iload (pc := 70) X dX9_pane_70 rfl ?_
      refine V_FV (pc := 72) X dX9_pane_72 oX5_isBroken l_RX9_95 eX5_isBroken vX5_isBroken ⟨Nat.le_of_ble_eq_true rfl, Nat.le_of_ble_eq_true rfl⟩ ⟨rfl, rfl⟩ ⟨Nat.le_of_ble_eq_true rfl, Nat.le_of_ble_eq_true rfl⟩ (ct_X5_isBroken hS (by omega) (by omega)) rfl (by first | rfl | assumption | (simp only [*]; done) | omega) (by intro q h; cases h; rfl) rfl (by rfl) (by exact Nat.le_of_ble_eq_true rfl) ?_
      refine V_bif_eq (pc := 75) X 82 dX9_pane_75 (by decide)  (fun c_75 => ?_) (fun c_75 => ?_)
      · skip
        refine V_iconst (pc := 82) X dX9_pane_82 ?_
        refine V_iret (st := []) (pc := 83) X hQ dX9_pane_83 rfl rfl ?_
        exact z_pi (by unfold c_paneF z_b; simp [*])
      · skip
        refine V_iconst (pc := 78) X dX9_pane_78 ?_
        refine V_goto (pc := 79) X 83 dX9_pane_79 (by decide) ?_
        refine V_iret (st := []) (pc := 83) X hQ dX9_pane_83 rfl rfl ?_
        exact z_pi (by unfold c_paneF z_b; simp [*])
    · skip
      refine V_tswIn (pc := 20) X 84 dX9_pane_20 e_sw ⟨by decide, by decide⟩ (by decide) (by decide) rfl (by decide) ?_
      refine V_aload_n (pc := 84) X dX9_pane_84 rfl (by first | decide | omega | assumption) ?_
      refine V_gz (pc := 85) X dX9_pane_85 f_RX9_19 (by first | rfl | assumption | (simp only [*]; done) | omega) 1 rfl ob1 ?_
      refine V_gz (pc := 88) X dX9_pane_88 f_RX9_58 (by first | rfl | assumption | (simp only [*]; done) | omega) 0 rfl r30 ?_
      refine V_gz (pc := 91) X dX9_pane_91 f_RX9_98 (by first | rfl | assumption | (simp only [*]; done) | omega) 2 rfl r42 ?_
      refine V_gz (pc := 94) X dX9_pane_94 f_RX9_102 (by first | rfl | assumption | (simp only [*]; done) | omega) 0 rfl rm0 ?_
      refine V_iload (pc := 97) X dX9_pane_97 rfl ?_
      have hbp := hbf (c_paneAt h pl x y) (by omega) (by omega)
      refine V_iald (pc := 99) X dX9_pane_99 (by first | rfl | assumption | (simp only [*]; done) | omega) (by omega) (by omega) (by decide) ?_
      refine V_iret (st := []) (pc := 100) X hQ dX9_pane_100 rfl rfl ?_
      exact z_pi (by unfold c_paneF; simp [*])
    · skip
      refine V_tswIn (pc := 20) X 101 dX9_pane_20 e_sw ⟨by decide, by decide⟩ (by decide) (by decide) rfl (by decide) ?_
      refine V_aload_n (pc := 101) X dX9_pane_101 rfl (by first | decide | omega | assumption) ?_
      refine V_gz (pc := 102) X dX9_pane_102 f_RX9_19 (by first | rfl | assumption | (simp only [*]; done) | omega) 1 rfl ob1 ?_
      refine V_iload (pc := 105) X dX9_pane_105 rfl ?_
      refine V_FV (pc := 107) X dX9_pane_107 oX5_letsThrough l_RX9_107 eX5_letsThrough vX5_letsThrough ⟨Nat.le_of_ble_eq_true rfl, Nat.le_of_ble_eq_true rfl⟩ ⟨rfl, rfl⟩ ⟨Nat.le_of_ble_eq_true rfl, Nat.le_of_ble_eq_true rfl⟩ (ct_X5_letsThrough hS (by omega) (by omega)) rfl (by first | rfl | assumption | (simp only [*]; done) | omega) (by intro q h; cases h; rfl) rfl (by rfl) (by exact Nat.le_of_ble_eq_true rfl) ?_
      refine V_iret (st := []) (pc := 110) X hQ dX9_pane_110 rfl rfl ?_
      exact z_pi (by unfold c_paneF; simp [*])
    · skip
      refine V_tswOut (pc := 20) X 111 dX9_pane_20 ⟨by omega, by omega⟩ e_sw (by decide) ?_
      refine V_iconst (pc := 111) X dX9_pane_111 ?_
      refine V_iret (st := []) (pc := 112) X hQ dX9_pane_112 rfl rfl ?_
      exact z_pi (by unfold c_paneF; rw [if_neg c_14, if_neg (by omega), if_neg (by omega), if_neg (by omega), if_neg (by omega)])
  · skip
    refine V_iconst (pc := 17) X dX9_pane_17 ?_
    refine V_iret (st := []) (pc := 18) X hQ dX9_pane_18 rfl rfl ?_
    exact z_pi (by unfold c_paneF; simp [*])
set_option maxHeartbeats 4000000 in
set_option maxRecDepth 100000 in
theorem ct_X9_sheet {h : z_H} (hO : c_Ob h) {pl mo : Int} (hS : c_Sc h pl mo) {s w : Int} (hs : z_R s) (hw9 : z_R w) : z_Ct mX9_sheet 107 [(2, 0), (0, s), (0, w)] h (z_pure (0, c_sheetF h pl mo s w) h) := by
  refine z_mk (L := [(2, 0), (0, s), (0, w)]) oX9_sheet.2.2.2.2 (Nat.le_of_ble_eq_true rfl) rfl ?_
  intro Γ X hQ
  obtain ⟨ob0, ob1, ob2, ob3, ob4, ob5, ob6, ob7, r320⟩ := id hO
  obtain ⟨r30, r31, r42, ⟨kp, rp0, rp1, kp1, kp2, hw, hh, hs, hgl, hpi⟩, ⟨km, rm0, km1, hbr, hmi, hse, hbf⟩⟩ := id hS
  obtain ⟨hsa, hsb2⟩ := ‹z_R s›
  obtain ⟨hwa, hwb⟩ := hw9
  refine V_aload_n (pc := 0) X dX9_sheet_0 rfl (by first | decide | omega | assumption) ?_
  refine V_iload_n (pc := 1) X dX9_sheet_1 rfl ?_
  refine V_FV (pc := 2) X dX9_sheet_2 oX9_isSheet l_RX9_111 eX9_isSheet vX9_isSheet ⟨Nat.le_of_ble_eq_true rfl, Nat.le_of_ble_eq_true rfl⟩ ⟨rfl, rfl⟩ ⟨Nat.le_of_ble_eq_true rfl, Nat.le_of_ble_eq_true rfl⟩ (ct_X9_isSheet hO hS ⟨by omega, by omega⟩) rfl (by first | rfl | assumption | (simp only [*]; done) | omega) (by intro q h; cases h; rfl) rfl (by rfl) (by exact Nat.le_of_ble_eq_true rfl) ?_
  refine V_bif_ne (pc := 5) X 10 dX9_sheet_5 (by decide)  (fun c_5 => ?_) (fun c_5 => ?_)
  · skip
    have hsb : 0 ≤ s ∧ s < h pl 4 := of_decide_eq_true c_5
    refine V_iload_n (pc := 10) X dX9_sheet_10 rfl ?_
    by_cases e_0 : w = 0
    · skip
      refine V_lsw (pc := 11) X 36 dX9_sheet_11 ⟨by omega, by omega⟩ (by decide) (by first | (rw [e_0]; done) | (rw [e_0]; rfl)) (by decide) ?_
      refine V_aload_n (pc := 36) X dX9_sheet_36 rfl (by first | decide | omega | assumption) ?_
      refine V_gz (pc := 37) X dX9_sheet_37 f_RX9_19 (by first | rfl | assumption | (simp only [*]; done) | omega) 1 rfl ob1 ?_
      refine V_gz (pc := 40) X dX9_sheet_40 f_RX9_62 (by first | rfl | assumption | (simp only [*]; done) | omega) 1 rfl r31 ?_
      refine V_gz (pc := 43) X dX9_sheet_43 f_RX9_114 (by first | rfl | assumption | (simp only [*]; done) | omega) 1 rfl rp1 ?_
      refine V_iconst (pc := 46) X dX9_sheet_46 ?_
      refine V_iload_n (pc := 47) X dX9_sheet_47 rfl ?_
      refine V_ishl (pc := 48) X dX9_sheet_48 ?_
      have hsl := z_shl1_rng (k := s) (by omega) (by omega)
      have hsl2 : z_shl 1 s ≤ 128 := by rw [z_shl1 (by omega) (by omega)]; have : (2 : Nat) ^ s.toNat ≤ 2 ^ 7 := Nat.pow_le_pow_right (by decide) (by omega); omega
      refine V_iald (pc := 49) X dX9_sheet_49 (by first | rfl | assumption | (simp only [*]; done) | omega) (by omega) (by omega) (by decide) ?_
      refine V_iret (st := []) (pc := 50) X hQ dX9_sheet_50 rfl rfl ?_
      exact z_pi (by unfold c_sheetF; simp [*])
    by_cases e_1 : w = 1
    · skip
      refine V_lsw (pc := 11) X 51 dX9_sheet_11 ⟨by omega, by omega⟩ (by decide) (by first | (rw [e_1]; done) | (rw [e_1]; rfl)) (by decide) ?_
      refine V_aload_n (pc := 51) X dX9_sheet_51 rfl (by first | decide | omega | assumption) ?_
      refine V_gz (pc := 52) X dX9_sheet_52 f_RX9_19 (by first | rfl | assumption | (simp only [*]; done) | omega) 1 rfl ob1 ?_
      refine V_iload_n (pc := 55) X dX9_sheet_55 rfl ?_
      refine V_FV (pc := 56) X dX9_sheet_56 oX5_paneBehind l_RX9_117 eX5_paneBehind vX5_paneBehind ⟨Nat.le_of_ble_eq_true rfl, Nat.le_of_ble_eq_true rfl⟩ ⟨rfl, rfl⟩ ⟨Nat.le_of_ble_eq_true rfl, Nat.le_of_ble_eq_true rfl⟩ (ct_X5_paneBehind hS (by omega) (by omega)) rfl (by first | rfl | assumption | (simp only [*]; done) | omega) (by intro q h; cases h; rfl) rfl (by rfl) (by exact Nat.le_of_ble_eq_true rfl) ?_
      refine V_iret (st := []) (pc := 59) X hQ dX9_sheet_59 rfl rfl ?_
      exact z_pi (by unfold c_sheetF; simp [*])
    refine V_lsw (pc := 11) X 60 dX9_sheet_11 ⟨by omega, by omega⟩ (by decide) (by show Op.lookupswitch.offset [(0, 25), (1, 40)] 49 (w) = 49; rw [Op.lookupswitch.offset_cons, if_neg (by omega), Op.lookupswitch.offset_cons, if_neg (by omega)]; rfl) (by decide) ?_
    refine V_iconst (pc := 60) X dX9_sheet_60 ?_
    refine V_iret (st := []) (pc := 61) X hQ dX9_sheet_61 rfl rfl ?_
    exact z_pi (by unfold c_sheetF; simp [*])
  · skip
    refine V_iconst (pc := 8) X dX9_sheet_8 ?_
    refine V_iret (st := []) (pc := 9) X hQ dX9_sheet_9 rfl rfl ?_
    exact z_pi (by unfold c_sheetF; simp [*])
set_option maxHeartbeats 4000000 in
set_option maxRecDepth 100000 in
theorem ct_X9_light {h : z_H} (hO : c_Ob h) {pl mo : Int} (hS : c_Sc h pl mo) {x y k : Int} (hx : z_R x) (hy : z_R y) (hk : z_R k) : z_Ct mX9_light 107 [(2, 0), (0, x), (0, y), (0, k)] h (z_pure (0, c_lightF h pl mo x y k) h) := by
  refine z_mk (L := [(2, 0), (0, x), (0, y), (0, k)]) oX9_light.2.2.2.2 (Nat.le_of_ble_eq_true rfl) rfl ?_
  intro Γ X hQ
  obtain ⟨ob0, ob1, ob2, ob3, ob4, ob5, ob6, ob7, r320⟩ := id hO
  obtain ⟨r30, r31, r42, ⟨kp, rp0, rp1, kp1, kp2, hw, hh, hs, hgl, hpi⟩, ⟨km, rm0, km1, hbr, hmi, hse, hbf⟩⟩ := id hS
  obtain ⟨hx1, hx2⟩ := hx
  obtain ⟨hy1, hy2⟩ := hy
  obtain ⟨hk1, hk2⟩ := hk
  refine V_iload_n (pc := 0) X dX9_light_0 rfl ?_
  refine V_iload_n (pc := 1) X dX9_light_1 rfl ?_
  refine V_FS (pc := 2) X dX9_light_2 oX9_isTile l_RX9_166 sX9_isTile ⟨Nat.le_of_ble_eq_true rfl, Nat.le_of_ble_eq_true rfl⟩ ⟨rfl, rfl⟩ ⟨Nat.le_of_ble_eq_true rfl, Nat.le_of_ble_eq_true rfl⟩ (ct_X9_isTile ⟨by omega, by omega⟩ ⟨by omega, by omega⟩) rfl (by rfl) (by exact Nat.le_of_ble_eq_true rfl) ?_
  refine V_bif_eq (pc := 5) X 15 dX9_light_5 (by decide)  (fun c_5 => ?_) (fun c_5 => ?_)
  · skip
    refine V_iconst (pc := 15) X dX9_light_15 ?_
    refine V_iret (st := []) (pc := 16) X hQ dX9_light_16 rfl rfl ?_
    exact z_pi (by unfold c_lightF; simp [*])
  · skip
    refine V_iload_n (pc := 8) X dX9_light_8 rfl ?_
    refine V_FS (pc := 9) X dX9_light_9 oX9_isHour l_RX9_170 sX9_isHour ⟨Nat.le_of_ble_eq_true rfl, Nat.le_of_ble_eq_true rfl⟩ ⟨rfl, rfl⟩ ⟨Nat.le_of_ble_eq_true rfl, Nat.le_of_ble_eq_true rfl⟩ (ct_X9_isHour ⟨by omega, by omega⟩) rfl (by rfl) (by exact Nat.le_of_ble_eq_true rfl) ?_
    refine V_bif_ne (pc := 12) X 17 dX9_light_12 (by decide)  (fun c_12 => ?_) (fun c_12 => ?_)
    · skip
      have tb1 := of_decide_eq_true c_5
      have tb2 := of_decide_eq_true c_12
      refine V_aload_n (pc := 17) X dX9_light_17 rfl (by first | decide | omega | assumption) ?_
      refine V_gz (pc := 18) X dX9_light_18 f_RX9_19 (by first | rfl | assumption | (simp only [*]; done) | omega) 1 rfl ob1 ?_
      refine V_iload_n (pc := 21) X dX9_light_21 rfl ?_
      refine V_iload_n (pc := 22) X dX9_light_22 rfl ?_
      refine V_FS (pc := 23) X dX9_light_23 oX9_numberOf l_RX9_173 sX9_numberOf ⟨Nat.le_of_ble_eq_true rfl, Nat.le_of_ble_eq_true rfl⟩ ⟨rfl, rfl⟩ ⟨Nat.le_of_ble_eq_true rfl, Nat.le_of_ble_eq_true rfl⟩ (ct_X9_numberOf) rfl (by rfl) (by exact Nat.le_of_ble_eq_true rfl) ?_
      refine V_iload_n (pc := 26) X dX9_light_26 rfl ?_
      refine V_FV (pc := 27) X dX9_light_27 oX5_lightOf l_RX9_176 eX5_lightOf vX5_lightOf ⟨Nat.le_of_ble_eq_true rfl, Nat.le_of_ble_eq_true rfl⟩ ⟨rfl, rfl⟩ ⟨Nat.le_of_ble_eq_true rfl, Nat.le_of_ble_eq_true rfl⟩ (ct_X5_lightOf hS (by omega) (by omega) (by omega) (by omega)) rfl (by first | rfl | assumption | (simp only [*]; done) | omega) (by intro q h; cases h; rfl) rfl (by rfl) (by exact Nat.le_of_ble_eq_true rfl) ?_
      refine V_iret (st := []) (pc := 30) X hQ dX9_light_30 rfl rfl ?_
      exact z_pi (by unfold c_lightF; simp [*])
    · skip
      refine V_iconst (pc := 15) X dX9_light_15 ?_
      refine V_iret (st := []) (pc := 16) X hQ dX9_light_16 rfl rfl ?_
      exact z_pi (by unfold c_lightF; simp [*])
set_option maxHeartbeats 4000000 in
set_option maxRecDepth 100000 in
theorem ct_X9_lit {h : z_H} (hO : c_Ob h) {pl mo : Int} (hS : c_Sc h pl mo) {c k w : Int} (hc : z_R c) (hk : z_R k) (hw9 : z_R w) : z_Ct mX9_lit 107 [(2, 0), (0, c), (0, k), (0, w)] h (z_pure (0, c_litF h pl mo c k w) h) := by
  refine z_mk (L := [(2, 0), (0, c), (0, k), (0, w), (9, 0), (9, 0), (9, 0)]) oX9_lit.2.2.2.2 (Nat.le_of_ble_eq_true rfl) rfl ?_
  intro Γ X hQ
  obtain ⟨ob0, ob1, ob2, ob3, ob4, ob5, ob6, ob7, r320⟩ := id hO
  obtain ⟨r30, r31, r42, ⟨kp, rp0, rp1, kp1, kp2, hw, hh, hs, hgl, hpi⟩, ⟨km, rm0, km1, hbr, hmi, hse, hbf⟩⟩ := id hS
  obtain ⟨hc1, hc2⟩ := hc
  obtain ⟨hk1, hk2⟩ := hk
  obtain ⟨hwa, hwb⟩ := hw9
  refine V_iload_n (pc := 0) X dX9_lit_0 rfl ?_
  refine V_FS (pc := 1) X dX9_lit_1 oX9_isColour l_RX9_179 sX9_isColour ⟨Nat.le_of_ble_eq_true rfl, Nat.le_of_ble_eq_true rfl⟩ ⟨rfl, rfl⟩ ⟨Nat.le_of_ble_eq_true rfl, Nat.le_of_ble_eq_true rfl⟩ (ct_X9_isColour ⟨by omega, by omega⟩) rfl (by rfl) (by exact Nat.le_of_ble_eq_true rfl) ?_
  refine V_bif_eq (pc := 4) X 23 dX9_lit_4 (by decide)  (fun c_4 => ?_) (fun c_4 => ?_)
  · skip
    refine V_iconst (pc := 23) X dX9_lit_23 ?_
    refine V_iret (st := []) (pc := 24) X hQ dX9_lit_24 rfl rfl ?_
    exact z_pi (by unfold c_litF; first | (rw [c_4, if_neg (fun g => absurd g.1 (by decide))]) | (rw [c_11, if_neg (fun g => absurd g.2.1 (by decide))]) | (rw [if_neg (by omega)]))
  · skip
    refine V_iload_n (pc := 7) X dX9_lit_7 rfl ?_
    refine V_FS (pc := 8) X dX9_lit_8 oX9_isHour l_RX9_170 sX9_isHour ⟨Nat.le_of_ble_eq_true rfl, Nat.le_of_ble_eq_true rfl⟩ ⟨rfl, rfl⟩ ⟨Nat.le_of_ble_eq_true rfl, Nat.le_of_ble_eq_true rfl⟩ (ct_X9_isHour ⟨by omega, by omega⟩) rfl (by rfl) (by exact Nat.le_of_ble_eq_true rfl) ?_
    refine V_bif_eq (pc := 11) X 23 dX9_lit_11 (by decide)  (fun c_11 => ?_) (fun c_11 => ?_)
    · skip
      refine V_iconst (pc := 23) X dX9_lit_23 ?_
      refine V_iret (st := []) (pc := 24) X hQ dX9_lit_24 rfl rfl ?_
      exact z_pi (by unfold c_litF; first | (rw [c_4, if_neg (fun g => absurd g.1 (by decide))]) | (rw [c_11, if_neg (fun g => absurd g.2.1 (by decide))]) | (rw [if_neg (by omega)]))
    · skip
      refine V_iload_n (pc := 14) X dX9_lit_14 rfl ?_
      refine V_if_lt (pc := 15) X 23 dX9_lit_15 (by decide) ⟨by omega, by omega⟩ (fun c_15 => ?_) (fun c_15 => ?_)
      · skip
        refine V_iconst (pc := 23) X dX9_lit_23 ?_
        refine V_iret (st := []) (pc := 24) X hQ dX9_lit_24 rfl rfl ?_
        exact z_pi (by unfold c_litF; first | (rw [c_4, if_neg (fun g => absurd g.1 (by decide))]) | (rw [c_11, if_neg (fun g => absurd g.2.1 (by decide))]) | (rw [if_neg (by omega)]))
      · skip
        refine V_iload_n (pc := 18) X dX9_lit_18 rfl ?_
        refine V_iconst (pc := 19) X dX9_lit_19 ?_
        refine V_icmp_le (pc := 20) X 25 dX9_lit_20 (by decide) ⟨by omega, by omega⟩ ⟨by omega, by omega⟩ (fun c_20 => ?_) (fun c_20 => ?_)
        · skip
          have tb1 := of_decide_eq_true c_4
          have tb2 := of_decide_eq_true c_11
          refine V_bipush (pc := 25) X dX9_lit_25 (by decide) ?_
          refine V_istore (pc := 27) X dX9_lit_27 (by exact Nat.le_of_ble_eq_true rfl) rfl ?_
          refine V_iconst (pc := 29) X dX9_lit_29 ?_
          refine V_istore (pc := 30) X dX9_lit_30 (by exact Nat.le_of_ble_eq_true rfl) rfl ?_
          refine V_bipush (pc := 32) X dX9_lit_32 (by decide) ?_
          refine V_istore (pc := 34) X dX9_lit_34 (by exact Nat.le_of_ble_eq_true rfl) rfl ?_
          have lp_36 : ∀ (m : Nat) (i : Nat), 84 - i < m → i ≤ 84 → z_V Γ (107, 0, 0) 36 [(2, 0), (0, c), (0, k), (0, w), (0, (c_litN h pl mo c k i).2), (0, (c_litN h pl mo c k i).1), (0, 83 - (i : Int))] [] h := by
            intro m
            induction m with
            | zero => intro i hm; exact absurd hm (Nat.not_lt_zero _)
            | succ m ih_36 =>
              intro i hm hi1
              have hlr := c_litN_rng h pl mo c k i
              have hli := c_light_rng (t := 83 - (i : Int)) (k := k) hS
              refine V_iload (pc := 36) X dX9_lit_36 rfl ?_
              refine V_if_lt (pc := 38) X 68 dX9_lit_38 (by decide) ⟨by omega, by omega⟩ (fun c_38 => ?_) (fun c_38 => ?_)
              · skip
                obtain rfl : i = 84 := by omega
                refine V_iload_n (pc := 68) X dX9_lit_68 rfl ?_
                refine V_if_ne (pc := 69) X 77 dX9_lit_69 (by decide) ⟨by omega, by omega⟩ (fun c_69 => ?_) (fun c_69 => ?_)
                · skip
                  refine V_iload (pc := 77) X dX9_lit_77 rfl ?_
                  refine V_iret (st := []) (pc := 79) X hQ dX9_lit_79 rfl rfl ?_
                  exact z_pi (by unfold c_litF; rw [if_pos ⟨c_4, c_11, by omega, by omega⟩]; first | rw [if_pos c_69] | rw [if_neg c_69])
                · skip
                  refine V_iload (pc := 72) X dX9_lit_72 rfl ?_
                  refine V_goto (pc := 74) X 79 dX9_lit_74 (by decide) ?_
                  refine V_iret (st := []) (pc := 79) X hQ dX9_lit_79 rfl rfl ?_
                  exact z_pi (by unfold c_litF; rw [if_pos ⟨c_4, c_11, by omega, by omega⟩]; first | rw [if_pos c_69] | rw [if_neg c_69])
              · skip
                refine V_aload_n (pc := 41) X dX9_lit_41 rfl (by first | decide | omega | assumption) ?_
                refine V_gz (pc := 42) X dX9_lit_42 f_RX9_19 (by first | rfl | assumption | (simp only [*]; done) | omega) 1 rfl ob1 ?_
                refine V_iload (pc := 45) X dX9_lit_45 rfl ?_
                refine V_iload_n (pc := 47) X dX9_lit_47 rfl ?_
                refine V_FV (pc := 48) X dX9_lit_48 oX5_lightOf l_RX9_176 eX5_lightOf vX5_lightOf ⟨Nat.le_of_ble_eq_true rfl, Nat.le_of_ble_eq_true rfl⟩ ⟨rfl, rfl⟩ ⟨Nat.le_of_ble_eq_true rfl, Nat.le_of_ble_eq_true rfl⟩ (ct_X5_lightOf hS (by omega) (by omega) (by omega) (by omega)) rfl (by first | rfl | assumption | (simp only [*]; done) | omega) (by intro q h; cases h; rfl) rfl (by rfl) (by exact Nat.le_of_ble_eq_true rfl) ?_
                refine V_iload_n (pc := 51) X dX9_lit_51 rfl ?_
                refine V_icmp_ne (pc := 52) X 62 dX9_lit_52 (by decide) ⟨by omega, by omega⟩ ⟨by omega, by omega⟩ (fun c_52 => ?_) (fun c_52 => ?_)
                · skip
                  refine V_iinc (pc := 62) X dX9_lit_62 rfl rfl ?_
                  refine V_goto (pc := 65) X 36 dX9_lit_65 (by decide) ?_
                  refine V_loc ?_ (ih_36 (i + 1) (by omega) (by omega))
                  show [_, _, _, _, _, _, _] = [_, _, _, _, _, _, _]
                  rw [show 83 - ((i + 1 : Nat) : Int) = 83 - (i : Int) + (-1) by omega]
                  first
                    | (rw [show c_litN h pl mo c k (i + 1) = _ from if_neg c_52])
                    | (rw [show c_litN h pl mo c k (i + 1) = _ from if_pos c_52])
                · skip
                  refine V_iload (pc := 55) X dX9_lit_55 rfl ?_
                  refine V_istore (pc := 57) X dX9_lit_57 (by exact Nat.le_of_ble_eq_true rfl) rfl ?_
                  refine V_iinc (pc := 59) X dX9_lit_59 rfl rfl ?_
                  refine V_iinc (pc := 62) X dX9_lit_62 rfl rfl ?_
                  refine V_goto (pc := 65) X 36 dX9_lit_65 (by decide) ?_
                  refine V_loc ?_ (ih_36 (i + 1) (by omega) (by omega))
                  show [_, _, _, _, _, _, _] = [_, _, _, _, _, _, _]
                  rw [show 83 - ((i + 1 : Nat) : Int) = 83 - (i : Int) + (-1) by omega]
                  first
                    | (rw [show c_litN h pl mo c k (i + 1) = _ from if_neg c_52])
                    | (rw [show c_litN h pl mo c k (i + 1) = _ from if_pos c_52])
          exact lp_36 _ 0 (Nat.lt_succ_self _) (by decide)
        · skip
          refine V_iconst (pc := 23) X dX9_lit_23 ?_
          refine V_iret (st := []) (pc := 24) X hQ dX9_lit_24 rfl rfl ?_
          exact z_pi (by unfold c_litF; first | (rw [c_4, if_neg (fun g => absurd g.1 (by decide))]) | (rw [c_11, if_neg (fun g => absurd g.2.1 (by decide))]) | (rw [if_neg (by omega)]))
set_option maxHeartbeats 4000000 in
set_option maxRecDepth 100000 in
theorem ct_X9_when {h : z_H} (hO : c_Ob h) {pl mo : Int} (hS : c_Sc h pl mo) {x y c : Int} (hx : z_R x) (hy : z_R y) (hc : z_R c) : z_Ct mX9_when 107 [(2, 0), (0, x), (0, y), (0, c)] h (z_pure (0, c_whenF h pl mo x y c) h) := by
  refine z_mk (L := [(2, 0), (0, x), (0, y), (0, c), (9, 0)]) oX9_when.2.2.2.2 (Nat.le_of_ble_eq_true rfl) rfl ?_
  intro Γ X hQ
  obtain ⟨ob0, ob1, ob2, ob3, ob4, ob5, ob6, ob7, r320⟩ := id hO
  obtain ⟨r30, r31, r42, ⟨kp, rp0, rp1, kp1, kp2, hw, hh, hs, hgl, hpi⟩, ⟨km, rm0, km1, hbr, hmi, hse, hbf⟩⟩ := id hS
  obtain ⟨hx1, hx2⟩ := hx
  obtain ⟨hy1, hy2⟩ := hy
  obtain ⟨hc1, hc2⟩ := hc
  refine V_iload_n (pc := 0) X dX9_when_0 rfl ?_
  refine V_iload_n (pc := 1) X dX9_when_1 rfl ?_
  refine V_FS (pc := 2) X dX9_when_2 oX9_isTile l_RX9_166 sX9_isTile ⟨Nat.le_of_ble_eq_true rfl, Nat.le_of_ble_eq_true rfl⟩ ⟨rfl, rfl⟩ ⟨Nat.le_of_ble_eq_true rfl, Nat.le_of_ble_eq_true rfl⟩ (ct_X9_isTile ⟨by omega, by omega⟩ ⟨by omega, by omega⟩) rfl (by rfl) (by exact Nat.le_of_ble_eq_true rfl) ?_
  refine V_bif_eq (pc := 5) X 15 dX9_when_5 (by decide)  (fun c_5 => ?_) (fun c_5 => ?_)
  · skip
    refine V_iconst (pc := 15) X dX9_when_15 ?_
    refine V_iret (st := []) (pc := 16) X hQ dX9_when_16 rfl rfl ?_
    exact z_pi (by unfold c_whenF; simp [*])
  · skip
    refine V_iload_n (pc := 8) X dX9_when_8 rfl ?_
    refine V_FS (pc := 9) X dX9_when_9 oX9_isColour l_RX9_179 sX9_isColour ⟨Nat.le_of_ble_eq_true rfl, Nat.le_of_ble_eq_true rfl⟩ ⟨rfl, rfl⟩ ⟨Nat.le_of_ble_eq_true rfl, Nat.le_of_ble_eq_true rfl⟩ (ct_X9_isColour ⟨by omega, by omega⟩) rfl (by rfl) (by exact Nat.le_of_ble_eq_true rfl) ?_
    refine V_bif_ne (pc := 12) X 17 dX9_when_12 (by decide)  (fun c_12 => ?_) (fun c_12 => ?_)
    · skip
      have tb1 := of_decide_eq_true c_5
      have tb2 := of_decide_eq_true c_12
      refine V_iconst (pc := 17) X dX9_when_17 ?_
      refine V_istore (pc := 18) X dX9_when_18 (by exact Nat.le_of_ble_eq_true rfl) rfl ?_
      have lp_20 : ∀ (m : Nat) (i : Int), (8 - i).toNat < m → 0 ≤ i → i ≤ 8 → (∀ k : Int, 0 ≤ k → k < i → (fun k => decide (c_light h pl mo (7 * x + y) k = c)) k = false) → z_V Γ (107, 0, 0) 20 [(2, 0), (0, x), (0, y), (0, c), (0, i)] [] h := by
        intro m
        induction m with
        | zero => intro i hm; exact absurd hm (Nat.not_lt_zero _)
        | succ m ih_20 =>
          intro i hm hi0 hi1 hk
          have hli := c_light_rng (t := 7 * x + y) (k := i) hS
          refine V_iload (pc := 20) X dX9_when_20 rfl ?_
          refine V_bipush (pc := 22) X dX9_when_22 (by decide) ?_
          refine V_icmp_ge (pc := 24) X 54 dX9_when_24 (by decide) ⟨by omega, by omega⟩ ⟨by omega, by omega⟩ (fun c_24 => ?_) (fun c_24 => ?_)
          · skip
            refine V_bipush (pc := 54) X dX9_when_54 (by decide) ?_
            refine V_iret (st := []) (pc := 56) X hQ dX9_when_56 rfl rfl ?_
            exact z_pi (by unfold c_whenF; rw [if_pos ⟨c_5, c_12⟩]; exact (z_find_none (n := 8) (fun k a b => hk k a (by omega))).symm)
          · skip
            refine V_aload_n (pc := 27) X dX9_when_27 rfl (by first | decide | omega | assumption) ?_
            refine V_gz (pc := 28) X dX9_when_28 f_RX9_19 (by first | rfl | assumption | (simp only [*]; done) | omega) 1 rfl ob1 ?_
            refine V_iload_n (pc := 31) X dX9_when_31 rfl ?_
            refine V_iload_n (pc := 32) X dX9_when_32 rfl ?_
            refine V_FS (pc := 33) X dX9_when_33 oX9_numberOf l_RX9_173 sX9_numberOf ⟨Nat.le_of_ble_eq_true rfl, Nat.le_of_ble_eq_true rfl⟩ ⟨rfl, rfl⟩ ⟨Nat.le_of_ble_eq_true rfl, Nat.le_of_ble_eq_true rfl⟩ (ct_X9_numberOf) rfl (by rfl) (by exact Nat.le_of_ble_eq_true rfl) ?_
            refine V_iload (pc := 36) X dX9_when_36 rfl ?_
            refine V_FV (pc := 38) X dX9_when_38 oX5_lightOf l_RX9_176 eX5_lightOf vX5_lightOf ⟨Nat.le_of_ble_eq_true rfl, Nat.le_of_ble_eq_true rfl⟩ ⟨rfl, rfl⟩ ⟨Nat.le_of_ble_eq_true rfl, Nat.le_of_ble_eq_true rfl⟩ (ct_X5_lightOf hS (by omega) (by omega) (by omega) (by omega)) rfl (by first | rfl | assumption | (simp only [*]; done) | omega) (by intro q h; cases h; rfl) rfl (by rfl) (by exact Nat.le_of_ble_eq_true rfl) ?_
            refine V_iload_n (pc := 41) X dX9_when_41 rfl ?_
            refine V_icmp_ne (pc := 42) X 48 dX9_when_42 (by decide) ⟨by omega, by omega⟩ ⟨by omega, by omega⟩ (fun c_42 => ?_) (fun c_42 => ?_)
            · skip
              refine V_iinc (pc := 48) X dX9_when_48 rfl rfl ?_
              refine V_goto (pc := 51) X 20 dX9_when_51 (by decide) ?_
              refine ih_20 (i + 1) (by omega) (by omega) (by omega) (fun k a b => ?_)
              by_cases e : k = i
              · rw [e]; exact decide_eq_false c_42
              · exact hk k a (by omega)
            · skip
              refine V_iload (pc := 45) X dX9_when_45 rfl ?_
              refine V_iret (st := []) (pc := 47) X hQ dX9_when_47 rfl rfl ?_
              exact z_pi (by unfold c_whenF; rw [if_pos ⟨c_5, c_12⟩]; exact (z_find_some (n := 8) hi0 (decide_eq_true c_42) hk (by omega)).symm)
      exact lp_20 _ 0 (Nat.lt_succ_self _) (by decide) (by decide) (by intro k a b; omega)
    · skip
      refine V_iconst (pc := 15) X dX9_when_15 ?_
      refine V_iret (st := []) (pc := 16) X hQ dX9_when_16 rfl rfl ?_
      exact z_pi (by unfold c_whenF; simp [*])
set_option maxHeartbeats 4000000 in
set_option maxRecDepth 100000 in
theorem ct_X9_now {h : z_H} (hO : c_Ob h) {pl mo : Int} (hS : c_Sc h pl mo) {w : Int} (hw9 : z_R w) : z_Ct mX9_now 107 [(2, 0), (0, w)] h (z_pure (0, c_nowF h pl mo w) h) := by
  refine z_mk (L := [(2, 0), (0, w)]) oX9_now.2.2.2.2 (Nat.le_of_ble_eq_true rfl) rfl ?_
  intro Γ X hQ
  obtain ⟨ob0, ob1, ob2, ob3, ob4, ob5, ob6, ob7, r320⟩ := id hO
  obtain ⟨r30, r31, r42, ⟨kp, rp0, rp1, kp1, kp2, hw, hh, hs, hgl, hpi⟩, ⟨km, rm0, km1, hbr, hmi, hse, hbf⟩⟩ := id hS
  obtain ⟨hwa, hwb⟩ := hw9
  refine V_iload_n (pc := 0) X dX9_now_0 rfl ?_
  rcases (show w = 0 ∨ w = 1 ∨ w = 2 ∨ w = 3 ∨ w = 4 ∨ w = 5 ∨ w = 6 ∨ (w < 0 ∨ 6 < w) by omega) with e_sw | e_sw | e_sw | e_sw | e_sw | e_sw | e_sw | e_sw
  · skip
    refine V_tswIn (pc := 1) X 44 dX9_now_1 e_sw ⟨by decide, by decide⟩ (by decide) (by decide) rfl (by decide) ?_
    refine V_aload_n (pc := 44) X dX9_now_44 rfl (by first | decide | omega | assumption) ?_
    refine V_gz (pc := 45) X dX9_now_45 f_RX9_19 (by first | rfl | assumption | (simp only [*]; done) | omega) 1 rfl ob1 ?_
    refine V_gz (pc := 48) X dX9_now_48 f_RX9_58 (by first | rfl | assumption | (simp only [*]; done) | omega) 0 rfl r30 ?_
    refine V_gz (pc := 51) X dX9_now_51 f_RX9_98 (by first | rfl | assumption | (simp only [*]; done) | omega) 2 rfl r42 ?_
    refine V_gz (pc := 54) X dX9_now_54 f_RX9_135 (by first | rfl | assumption | (simp only [*]; done) | omega) 2 rfl rfl ?_
    refine V_iret (st := []) (pc := 57) X hQ dX9_now_57 rfl rfl ?_
    exact z_pi (by unfold c_nowF; simp [*])
  · skip
    refine V_tswIn (pc := 1) X 58 dX9_now_1 e_sw ⟨by decide, by decide⟩ (by decide) (by decide) rfl (by decide) ?_
    refine V_aload_n (pc := 58) X dX9_now_58 rfl (by first | decide | omega | assumption) ?_
    refine V_gz (pc := 59) X dX9_now_59 f_RX9_19 (by first | rfl | assumption | (simp only [*]; done) | omega) 1 rfl ob1 ?_
    refine V_gz (pc := 62) X dX9_now_62 f_RX9_58 (by first | rfl | assumption | (simp only [*]; done) | omega) 0 rfl r30 ?_
    refine V_gz (pc := 65) X dX9_now_65 f_RX9_98 (by first | rfl | assumption | (simp only [*]; done) | omega) 2 rfl r42 ?_
    refine V_gz (pc := 68) X dX9_now_68 f_RX9_138 (by first | rfl | assumption | (simp only [*]; done) | omega) 3 rfl rfl ?_
    refine V_iret (st := []) (pc := 71) X hQ dX9_now_71 rfl rfl ?_
    exact z_pi (by unfold c_nowF; simp [*])
  · skip
    refine V_tswIn (pc := 1) X 72 dX9_now_1 e_sw ⟨by decide, by decide⟩ (by decide) (by decide) rfl (by decide) ?_
    refine V_aload_n (pc := 72) X dX9_now_72 rfl (by first | decide | omega | assumption) ?_
    refine V_gz (pc := 73) X dX9_now_73 f_RX9_19 (by first | rfl | assumption | (simp only [*]; done) | omega) 1 rfl ob1 ?_
    refine V_gz (pc := 76) X dX9_now_76 f_RX9_58 (by first | rfl | assumption | (simp only [*]; done) | omega) 0 rfl r30 ?_
    refine V_gz (pc := 79) X dX9_now_79 f_RX9_98 (by first | rfl | assumption | (simp only [*]; done) | omega) 2 rfl r42 ?_
    refine V_gz (pc := 82) X dX9_now_82 f_RX9_132 (by first | rfl | assumption | (simp only [*]; done) | omega) 1 rfl rfl ?_
    refine V_iret (st := []) (pc := 85) X hQ dX9_now_85 rfl rfl ?_
    exact z_pi (by unfold c_nowF; simp [*])
  · skip
    refine V_tswIn (pc := 1) X 86 dX9_now_1 e_sw ⟨by decide, by decide⟩ (by decide) (by decide) rfl (by decide) ?_
    refine V_aload_n (pc := 86) X dX9_now_86 rfl (by first | decide | omega | assumption) ?_
    refine V_gz (pc := 87) X dX9_now_87 f_RX9_19 (by first | rfl | assumption | (simp only [*]; done) | omega) 1 rfl ob1 ?_
    refine V_FV (pc := 90) X dX9_now_90 oX5_box l_RX9_151 eX5_box vX5_box ⟨Nat.le_of_ble_eq_true rfl, Nat.le_of_ble_eq_true rfl⟩ ⟨rfl, rfl⟩ ⟨Nat.le_of_ble_eq_true rfl, Nat.le_of_ble_eq_true rfl⟩ (ct_X5_box hS) rfl (by first | rfl | assumption | (simp only [*]; done) | omega) (by intro q h; cases h; rfl) rfl (by rfl) (by exact Nat.le_of_ble_eq_true rfl) ?_
    refine V_iret (st := []) (pc := 93) X hQ dX9_now_93 rfl rfl ?_
    exact z_pi (by unfold c_nowF; simp [*])
  · skip
    refine V_tswIn (pc := 1) X 94 dX9_now_1 e_sw ⟨by decide, by decide⟩ (by decide) (by decide) rfl (by decide) ?_
    refine V_aload_n (pc := 94) X dX9_now_94 rfl (by first | decide | omega | assumption) ?_
    refine V_gz (pc := 95) X dX9_now_95 f_RX9_19 (by first | rfl | assumption | (simp only [*]; done) | omega) 1 rfl ob1 ?_
    refine V_FS (pc := 98) X dX9_now_98 oX0_leads l_RX9_154 sX0_leads ⟨Nat.le_of_ble_eq_true rfl, Nat.le_of_ble_eq_true rfl⟩ ⟨rfl, rfl⟩ ⟨Nat.le_of_ble_eq_true rfl, Nat.le_of_ble_eq_true rfl⟩ (ct_X0_leads hS) rfl (by rfl) (by exact Nat.le_of_ble_eq_true rfl) ?_
    refine V_iret (st := []) (pc := 101) X hQ dX9_now_101 rfl rfl ?_
    exact z_pi (by unfold c_nowF; simp [*])
  · skip
    refine V_tswIn (pc := 1) X 102 dX9_now_1 e_sw ⟨by decide, by decide⟩ (by decide) (by decide) rfl (by decide) ?_
    refine V_aload_n (pc := 102) X dX9_now_102 rfl (by first | decide | omega | assumption) ?_
    refine V_gz (pc := 103) X dX9_now_103 f_RX9_19 (by first | rfl | assumption | (simp only [*]; done) | omega) 1 rfl ob1 ?_
    refine V_FS (pc := 106) X dX9_now_106 oX0_parts l_RX9_160 sX0_parts ⟨Nat.le_of_ble_eq_true rfl, Nat.le_of_ble_eq_true rfl⟩ ⟨rfl, rfl⟩ ⟨Nat.le_of_ble_eq_true rfl, Nat.le_of_ble_eq_true rfl⟩ (ct_X0_parts hS) rfl (by rfl) (by exact Nat.le_of_ble_eq_true rfl) ?_
    refine V_iret (st := []) (pc := 109) X hQ dX9_now_109 rfl rfl ?_
    exact z_pi (by unfold c_nowF; simp [*])
  · skip
    refine V_tswIn (pc := 1) X 110 dX9_now_1 e_sw ⟨by decide, by decide⟩ (by decide) (by decide) rfl (by decide) ?_
    refine V_aload_n (pc := 110) X dX9_now_110 rfl (by first | decide | omega | assumption) ?_
    refine V_gz (pc := 111) X dX9_now_111 f_RX9_19 (by first | rfl | assumption | (simp only [*]; done) | omega) 1 rfl ob1 ?_
    refine V_FS (pc := 114) X dX9_now_114 oX0_greatestPart l_RX9_163 sX0_greatestPart ⟨Nat.le_of_ble_eq_true rfl, Nat.le_of_ble_eq_true rfl⟩ ⟨rfl, rfl⟩ ⟨Nat.le_of_ble_eq_true rfl, Nat.le_of_ble_eq_true rfl⟩ (ct_X0_greatestPart hS) rfl (by rfl) (by exact Nat.le_of_ble_eq_true rfl) ?_
    refine V_iret (st := []) (pc := 117) X hQ dX9_now_117 rfl rfl ?_
    exact z_pi (by unfold c_nowF; simp [*])
  · skip
    refine V_tswOut (pc := 1) X 118 dX9_now_1 ⟨by omega, by omega⟩ e_sw (by decide) ?_
    refine V_iconst (pc := 118) X dX9_now_118 ?_
    refine V_iret (st := []) (pc := 119) X hQ dX9_now_119 rfl rfl ?_
    exact z_pi (by unfold c_nowF; rw [if_neg (by omega), if_neg (by omega), if_neg (by omega), if_neg (by omega), if_neg (by omega), if_neg (by omega), if_neg (by omega)])
set_option maxHeartbeats 4000000 in
set_option maxRecDepth 100000 in
theorem ct_X9_count {h : z_H} (hO : c_Ob h) {pl mo : Int} (hS : c_Sc h pl mo) {w : Int} (hw9 : z_R w) : z_Ct mX9_count 107 [(2, 0), (0, w)] h (z_pure (0, c_countF h pl w) h) := by
  refine z_mk (L := [(2, 0), (0, w)]) oX9_count.2.2.2.2 (Nat.le_of_ble_eq_true rfl) rfl ?_
  intro Γ X hQ
  obtain ⟨ob0, ob1, ob2, ob3, ob4, ob5, ob6, ob7, r320⟩ := id hO
  obtain ⟨r30, r31, r42, ⟨kp, rp0, rp1, kp1, kp2, hw, hh, hs, hgl, hpi⟩, ⟨km, rm0, km1, hbr, hmi, hse, hbf⟩⟩ := id hS
  obtain ⟨hwa, hwb⟩ := hw9
  refine V_iload_n (pc := 0) X dX9_count_0 rfl ?_
  rcases (show w = 0 ∨ w = 1 ∨ w = 2 ∨ w = 3 ∨ w = 4 ∨ w = 5 ∨ (w < 0 ∨ 5 < w) by omega) with e_sw | e_sw | e_sw | e_sw | e_sw | e_sw | e_sw
  · skip
    refine V_tswIn (pc := 1) X 40 dX9_count_1 e_sw ⟨by decide, by decide⟩ (by decide) (by decide) rfl (by decide) ?_
    refine V_aload_n (pc := 40) X dX9_count_40 rfl (by first | decide | omega | assumption) ?_
    refine V_gz (pc := 41) X dX9_count_41 f_RX9_19 (by first | rfl | assumption | (simp only [*]; done) | omega) 1 rfl ob1 ?_
    refine V_gz (pc := 44) X dX9_count_44 f_RX9_62 (by first | rfl | assumption | (simp only [*]; done) | omega) 1 rfl r31 ?_
    refine V_gz (pc := 47) X dX9_count_47 f_RX9_255 (by first | rfl | assumption | (simp only [*]; done) | omega) 2 rfl rfl ?_
    refine V_iret (st := []) (pc := 50) X hQ dX9_count_50 rfl rfl ?_
    exact z_pi (by unfold c_countF; simp [*])
  · skip
    refine V_tswIn (pc := 1) X 51 dX9_count_1 e_sw ⟨by decide, by decide⟩ (by decide) (by decide) rfl (by decide) ?_
    refine V_aload_n (pc := 51) X dX9_count_51 rfl (by first | decide | omega | assumption) ?_
    refine V_gz (pc := 52) X dX9_count_52 f_RX9_19 (by first | rfl | assumption | (simp only [*]; done) | omega) 1 rfl ob1 ?_
    refine V_gz (pc := 55) X dX9_count_55 f_RX9_62 (by first | rfl | assumption | (simp only [*]; done) | omega) 1 rfl r31 ?_
    refine V_gz (pc := 58) X dX9_count_58 f_RX9_258 (by first | rfl | assumption | (simp only [*]; done) | omega) 3 rfl rfl ?_
    refine V_iret (st := []) (pc := 61) X hQ dX9_count_61 rfl rfl ?_
    exact z_pi (by unfold c_countF; simp [*])
  · skip
    refine V_tswIn (pc := 1) X 62 dX9_count_1 e_sw ⟨by decide, by decide⟩ (by decide) (by decide) rfl (by decide) ?_
    refine V_aload_n (pc := 62) X dX9_count_62 rfl (by first | decide | omega | assumption) ?_
    refine V_gz (pc := 63) X dX9_count_63 f_RX9_19 (by first | rfl | assumption | (simp only [*]; done) | omega) 1 rfl ob1 ?_
    refine V_gz (pc := 66) X dX9_count_66 f_RX9_62 (by first | rfl | assumption | (simp only [*]; done) | omega) 1 rfl r31 ?_
    refine V_gz (pc := 69) X dX9_count_69 f_RX9_261 (by first | rfl | assumption | (simp only [*]; done) | omega) 4 rfl rfl ?_
    refine V_iret (st := []) (pc := 72) X hQ dX9_count_72 rfl rfl ?_
    exact z_pi (by unfold c_countF; simp [*])
  · skip
    refine V_tswIn (pc := 1) X 73 dX9_count_1 e_sw ⟨by decide, by decide⟩ (by decide) (by decide) rfl (by decide) ?_
    refine V_aload_n (pc := 73) X dX9_count_73 rfl (by first | decide | omega | assumption) ?_
    refine V_gz (pc := 74) X dX9_count_74 f_RX9_40 (by first | rfl | assumption | (simp only [*]; done) | omega) 4 rfl ob4 ?_
    refine V_gz (pc := 77) X dX9_count_77 f_RX9_84 (by first | rfl | assumption | (simp only [*]; done) | omega) 2 rfl rfl ?_
    refine V_iret (st := []) (pc := 80) X hQ dX9_count_80 rfl rfl ?_
    exact z_pi (by unfold c_countF; simp [*])
  · skip
    refine V_tswIn (pc := 1) X 81 dX9_count_1 e_sw ⟨by decide, by decide⟩ (by decide) (by decide) rfl (by decide) ?_
    refine V_aload_n (pc := 81) X dX9_count_81 rfl (by first | decide | omega | assumption) ?_
    refine V_gz (pc := 82) X dX9_count_82 f_RX9_19 (by first | rfl | assumption | (simp only [*]; done) | omega) 1 rfl ob1 ?_
    refine V_gz (pc := 85) X dX9_count_85 f_RX9_58 (by first | rfl | assumption | (simp only [*]; done) | omega) 0 rfl r30 ?_
    refine V_gz (pc := 88) X dX9_count_88 f_RX9_145 (by first | rfl | assumption | (simp only [*]; done) | omega) 1 rfl rfl ?_
    refine V_iret (st := []) (pc := 91) X hQ dX9_count_91 rfl rfl ?_
    exact z_pi (by unfold c_countF; simp [*])
  · skip
    refine V_tswIn (pc := 1) X 92 dX9_count_1 e_sw ⟨by decide, by decide⟩ (by decide) (by decide) rfl (by decide) ?_
    refine V_aload_n (pc := 92) X dX9_count_92 rfl (by first | decide | omega | assumption) ?_
    refine V_gz (pc := 93) X dX9_count_93 f_RX9_12 (by first | rfl | assumption | (simp only [*]; done) | omega) 0 rfl ob0 ?_
    refine V_gz (pc := 96) X dX9_count_96 f_RX9_73 (by first | rfl | assumption | (simp only [*]; done) | omega) 1 rfl rfl ?_
    refine V_iret (st := []) (pc := 99) X hQ dX9_count_99 rfl rfl ?_
    exact z_pi (by unfold c_countF; simp [*])
  · skip
    refine V_tswOut (pc := 1) X 100 dX9_count_1 ⟨by omega, by omega⟩ e_sw (by decide) ?_
    refine V_iconst (pc := 100) X dX9_count_100 ?_
    refine V_iret (st := []) (pc := 101) X hQ dX9_count_101 rfl rfl ?_
    exact z_pi (by unfold c_countF; rw [if_neg (by omega), if_neg (by omega), if_neg (by omega), if_neg (by omega), if_neg (by omega), if_neg (by omega)])
set_option maxHeartbeats 4000000 in
set_option maxRecDepth 100000 in
theorem ct_X9_trace {h : z_H} (hO : c_Ob h) : z_Ct mX9_trace 107 [(2, 0)] h (z_pure (1, h 0 8) h) := by
  refine z_mk (L := [(2, 0)]) oX9_trace.2.2.2.2 (Nat.le_of_ble_eq_true rfl) rfl ?_
  intro Γ X hQ
  obtain ⟨ob0, ob1, ob2, ob3, ob4, ob5, ob6, ob7, r320⟩ := id hO
  refine V_aload_n (pc := 0) X dX9_trace_0 rfl (by first | decide | omega | assumption) ?_
  refine V_gz (pc := 1) X dX9_trace_1 f_RX9_262 (by first | rfl | assumption | (simp only [*]; done) | omega) 8 rfl rfl ?_
  refine V_lret (st := []) (pc := 4) X hQ dX9_trace_4 rfl rfl ?_
  exact ⟨rfl, rfl⟩
