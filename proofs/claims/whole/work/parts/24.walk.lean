/-! Walk -/
set_option maxHeartbeats 4000000 in
set_option maxRecDepth 100000 in
theorem ct_X7_better {h : z_H} (r320 : h 32 0 = 33) (hst : ∀ i, 0 ≤ i → i < 756 → 0 ≤ h 33 i ∧ h 33 i ≤ 8) {a b k : Int} (ha : 0 ≤ a ∧ a < 84) (hb : 0 ≤ b ∧ b < 84) (h0 : 0 ≤ k) (h1 : k ≤ 8) : z_Ct mX7_better 107 [(2, 32), (0, a), (0, b), (0, k)] h (z_pure (0, w_bet (fun t => h 33 (k * 84 + t)) a b) h) := by
  refine z_mk (L := [(2, 32), (0, a), (0, b), (0, k), (9, 0), (9, 0)]) oX7_better.2.2.2.2 (Nat.le_of_ble_eq_true rfl) rfl ?_
  intro Γ X hQ
  have g1 := hst (k * 84 + a) (by omega) (by omega)
  have g2 := hst (k * 84 + b) (by omega) (by omega)
  refine V_aload_n (pc := 0) X dX7_better_0 rfl (by first | decide | omega | assumption) ?_
  refine V_gz (pc := 1) X dX7_better_1 f_RX7_9 (by first | rfl | assumption | (simp only [*]; done) | omega) 0 rfl r320 ?_
  refine V_iload_n (pc := 4) X dX7_better_4 rfl ?_
  refine V_bipush (pc := 5) X dX7_better_5 (by decide) ?_
  refine V_imul (pc := 7) X dX7_better_7 ?_
  refine V_iload_n (pc := 8) X dX7_better_8 rfl ?_
  refine V_iadd (pc := 9) X dX7_better_9 ?_
  refine V_iald (pc := 10) X dX7_better_10 (by first | rfl | assumption | (simp only [*]; done) | omega) (by omega) (by omega) (by decide) ?_
  refine V_istore (pc := 11) X dX7_better_11 (by exact Nat.le_of_ble_eq_true rfl) rfl ?_
  refine V_aload_n (pc := 13) X dX7_better_13 rfl (by first | decide | omega | assumption) ?_
  refine V_gz (pc := 14) X dX7_better_14 f_RX7_9 (by first | rfl | assumption | (simp only [*]; done) | omega) 0 rfl r320 ?_
  refine V_iload_n (pc := 17) X dX7_better_17 rfl ?_
  refine V_bipush (pc := 18) X dX7_better_18 (by decide) ?_
  refine V_imul (pc := 20) X dX7_better_20 ?_
  refine V_iload_n (pc := 21) X dX7_better_21 rfl ?_
  refine V_iadd (pc := 22) X dX7_better_22 ?_
  refine V_iald (pc := 23) X dX7_better_23 (by first | rfl | assumption | (simp only [*]; done) | omega) (by omega) (by omega) (by decide) ?_
  refine V_istore (pc := 24) X dX7_better_24 (by exact Nat.le_of_ble_eq_true rfl) rfl ?_
  refine V_iload (pc := 26) X dX7_better_26 rfl ?_
  refine V_iload (pc := 28) X dX7_better_28 rfl ?_
  refine V_icmp_ne (pc := 30) X 39 dX7_better_30 (by decide) ⟨by omega, by omega⟩ ⟨by omega, by omega⟩ (fun c_30 => ?_) (fun c_30 => ?_)
  · skip
    refine V_iload (pc := 39) X dX7_better_39 rfl ?_
    refine V_iload (pc := 41) X dX7_better_41 rfl ?_
    refine V_icmp_le (pc := 43) X 50 dX7_better_43 (by decide) ⟨by omega, by omega⟩ ⟨by omega, by omega⟩ (fun c_43 => ?_) (fun c_43 => ?_)
    · skip
      refine V_iload_n (pc := 50) X dX7_better_50 rfl ?_
      refine V_iret (st := []) (pc := 51) X hQ dX7_better_51 rfl rfl ?_
      exact z_pi (by unfold w_bet; rw [if_neg c_30]; first | rw [if_pos c_43] | rw [if_neg c_43])
    · skip
      refine V_iload_n (pc := 46) X dX7_better_46 rfl ?_
      refine V_goto (pc := 47) X 51 dX7_better_47 (by decide) ?_
      refine V_iret (st := []) (pc := 51) X hQ dX7_better_51 rfl rfl ?_
      exact z_pi (by unfold w_bet; rw [if_neg c_30]; first | rw [if_pos c_43] | rw [if_neg c_43])
  · skip
    refine V_iload_n (pc := 33) X dX7_better_33 rfl ?_
    refine V_iload_n (pc := 34) X dX7_better_34 rfl ?_
    refine V_mmin (pc := 35) X dX7_better_35 lm_RX7_28 ⟨Nat.le_of_ble_eq_true rfl, Nat.le_of_ble_eq_true rfl⟩ ⟨Nat.le_of_ble_eq_true rfl, Nat.le_of_ble_eq_true rfl⟩ ⟨by omega, by omega⟩ ⟨by omega, by omega⟩ ?_
    refine V_iret (st := []) (pc := 38) X hQ dX7_better_38 rfl rfl ?_
    exact z_pi (by unfold w_bet; rw [if_pos c_30])
set_option maxHeartbeats 4000000 in
set_option maxRecDepth 100000 in
theorem ct_X7_onward {h : z_H} (r320 : h 32 0 = 33) (hst : ∀ i, 0 ≤ i → i < 756 → 0 ≤ h 33 i ∧ h 33 i ≤ 8) {t k : Int} (ht : 0 ≤ t ∧ t < 84) (h0 : 0 ≤ k) (h1 : k ≤ 7) : z_Ct mX7_onward 107 [(2, 32), (0, t), (0, k)] h (z_pure (0, w_onw (fun t' => h 33 ((k + 1) * 84 + t')) t) h) := by
  refine z_mk (L := [(2, 32), (0, t), (0, k), (9, 0), (9, 0)]) oX7_onward.2.2.2.2 (Nat.le_of_ble_eq_true rfl) rfl ?_
  intro Γ X hQ
  have w1 := w_s1_rng (row := (fun t' => h 33 ((k + 1) * 84 + t'))) (t := t) ht
  have w2 := w_s2_rng (row := (fun t' => h 33 ((k + 1) * 84 + t'))) (t := t) ht
  have w3 := w_s3_rng (row := (fun t' => h 33 ((k + 1) * 84 + t'))) (t := t) ht
  refine V_iload_n (pc := 0) X dX7_onward_0 rfl ?_
  refine V_bipush (pc := 1) X dX7_onward_1 (by decide) ?_
  refine V_iremN (pc := 3) X dX7_onward_3 (by omega) (by omega) (by omega) (by omega) ?_
  refine V_istore_n (pc := 4) X dX7_onward_4 (by exact Nat.le_of_ble_eq_true rfl) rfl ?_
  refine V_iload_n (pc := 5) X dX7_onward_5 rfl ?_
  refine V_istore (pc := 6) X dX7_onward_6 (by exact Nat.le_of_ble_eq_true rfl) rfl ?_
  refine V_joinL 29 4 (fun z => z = w_s1 (fun t' => h 33 ((k + 1) * 84 + t')) t) (fun J => ?_) (fun z hz => ?_)
  · skip
    refine V_iload_n (pc := 8) X dX7_onward_8 rfl ?_
    refine V_bipush (pc := 9) X dX7_onward_9 (by decide) ?_
    refine V_icmp_lt (pc := 11) X 29 dX7_onward_11 (by decide) ⟨by omega, by omega⟩ ⟨by omega, by omega⟩ (fun c_11 => ?_) (fun c_11 => ?_)
    · skip
      exact J _ (by unfold w_s1; split <;> first | rfl | (exfalso; omega))
    · skip
      refine V_aload_n (pc := 14) X dX7_onward_14 rfl (by first | decide | omega | assumption) ?_
      refine V_iload (pc := 15) X dX7_onward_15 rfl ?_
      refine V_iload_n (pc := 17) X dX7_onward_17 rfl ?_
      refine V_bipush (pc := 18) X dX7_onward_18 (by decide) ?_
      refine V_isub (pc := 20) X dX7_onward_20 ?_
      refine V_iload_n (pc := 21) X dX7_onward_21 rfl ?_
      refine V_iconst (pc := 22) X dX7_onward_22 ?_
      refine V_iadd (pc := 23) X dX7_onward_23 ?_
      refine V_FV (pc := 24) X dX7_onward_24 oX7_better l_RX7_24 eX7_better vX7_better ⟨Nat.le_of_ble_eq_true rfl, Nat.le_of_ble_eq_true rfl⟩ ⟨rfl, rfl⟩ ⟨Nat.le_of_ble_eq_true rfl, Nat.le_of_ble_eq_true rfl⟩ (ct_X7_better r320 hst ⟨by omega, by omega⟩ ⟨by omega, by omega⟩ (by omega) (by omega)) rfl (by first | rfl | assumption | (simp only [*]; done) | omega) (by intro q h; cases h; rfl) rfl (by rfl) (by exact Nat.le_of_ble_eq_true rfl) ?_
      refine V_istore (pc := 27) X dX7_onward_27 (by exact Nat.le_of_ble_eq_true rfl) rfl ?_
      exact J _ (by unfold w_s1; split <;> first | rfl | (exfalso; omega))
  · skip
    subst hz
    refine V_joinL 47 4 (fun z => z = w_s2 (fun t' => h 33 ((k + 1) * 84 + t')) t) (fun J => ?_) (fun z hz => ?_)
    · skip
      refine V_iload_n (pc := 29) X dX7_onward_29 rfl ?_
      refine V_if_le (pc := 30) X 47 dX7_onward_30 (by decide) ⟨by omega, by omega⟩ (fun c_30 => ?_) (fun c_30 => ?_)
      · skip
        exact J _ (by unfold w_s2; split <;> first | rfl | (exfalso; omega))
      · skip
        refine V_aload_n (pc := 33) X dX7_onward_33 rfl (by first | decide | omega | assumption) ?_
        refine V_iload (pc := 34) X dX7_onward_34 rfl ?_
        refine V_iload_n (pc := 36) X dX7_onward_36 rfl ?_
        refine V_iconst (pc := 37) X dX7_onward_37 ?_
        refine V_isub (pc := 38) X dX7_onward_38 ?_
        refine V_iload_n (pc := 39) X dX7_onward_39 rfl ?_
        refine V_iconst (pc := 40) X dX7_onward_40 ?_
        refine V_iadd (pc := 41) X dX7_onward_41 ?_
        refine V_FV (pc := 42) X dX7_onward_42 oX7_better l_RX7_24 eX7_better vX7_better ⟨Nat.le_of_ble_eq_true rfl, Nat.le_of_ble_eq_true rfl⟩ ⟨rfl, rfl⟩ ⟨Nat.le_of_ble_eq_true rfl, Nat.le_of_ble_eq_true rfl⟩ (ct_X7_better r320 hst ⟨by omega, by omega⟩ ⟨by omega, by omega⟩ (by omega) (by omega)) rfl (by first | rfl | assumption | (simp only [*]; done) | omega) (by intro q h; cases h; rfl) rfl (by rfl) (by exact Nat.le_of_ble_eq_true rfl) ?_
        refine V_istore (pc := 45) X dX7_onward_45 (by exact Nat.le_of_ble_eq_true rfl) rfl ?_
        exact J _ (by unfold w_s2; split <;> first | rfl | (exfalso; omega))
    · skip
      subst hz
      refine V_joinL 67 4 (fun z => z = w_s3 (fun t' => h 33 ((k + 1) * 84 + t')) t) (fun J => ?_) (fun z hz => ?_)
      · skip
        refine V_iload_n (pc := 47) X dX7_onward_47 rfl ?_
        refine V_bipush (pc := 48) X dX7_onward_48 (by decide) ?_
        refine V_icmp_ge (pc := 50) X 67 dX7_onward_50 (by decide) ⟨by omega, by omega⟩ ⟨by omega, by omega⟩ (fun c_50 => ?_) (fun c_50 => ?_)
        · skip
          exact J _ (by unfold w_s3; split <;> first | rfl | (exfalso; omega))
        · skip
          refine V_aload_n (pc := 53) X dX7_onward_53 rfl (by first | decide | omega | assumption) ?_
          refine V_iload (pc := 54) X dX7_onward_54 rfl ?_
          refine V_iload_n (pc := 56) X dX7_onward_56 rfl ?_
          refine V_iconst (pc := 57) X dX7_onward_57 ?_
          refine V_iadd (pc := 58) X dX7_onward_58 ?_
          refine V_iload_n (pc := 59) X dX7_onward_59 rfl ?_
          refine V_iconst (pc := 60) X dX7_onward_60 ?_
          refine V_iadd (pc := 61) X dX7_onward_61 ?_
          refine V_FV (pc := 62) X dX7_onward_62 oX7_better l_RX7_24 eX7_better vX7_better ⟨Nat.le_of_ble_eq_true rfl, Nat.le_of_ble_eq_true rfl⟩ ⟨rfl, rfl⟩ ⟨Nat.le_of_ble_eq_true rfl, Nat.le_of_ble_eq_true rfl⟩ (ct_X7_better r320 hst ⟨by omega, by omega⟩ ⟨by omega, by omega⟩ (by omega) (by omega)) rfl (by first | rfl | assumption | (simp only [*]; done) | omega) (by intro q h; cases h; rfl) rfl (by rfl) (by exact Nat.le_of_ble_eq_true rfl) ?_
          refine V_istore (pc := 65) X dX7_onward_65 (by exact Nat.le_of_ble_eq_true rfl) rfl ?_
          exact J _ (by unfold w_s3; split <;> first | rfl | (exfalso; omega))
      · skip
        subst hz
        refine V_iload_n (pc := 67) X dX7_onward_67 rfl ?_
        refine V_bipush (pc := 68) X dX7_onward_68 (by decide) ?_
        refine V_iadd (pc := 70) X dX7_onward_70 ?_
        refine V_bipush (pc := 71) X dX7_onward_71 (by decide) ?_
        refine V_icmp_ge (pc := 73) X 91 dX7_onward_73 (by decide) ⟨by omega, by omega⟩ ⟨by omega, by omega⟩ (fun c_73 => ?_) (fun c_73 => ?_)
        · skip
          refine V_iload (pc := 91) X dX7_onward_91 rfl ?_
          refine V_iret (st := []) (pc := 93) X hQ dX7_onward_93 rfl rfl ?_
          exact z_pi (by unfold w_onw; split <;> first | rfl | (exfalso; omega))
        · skip
          refine V_aload_n (pc := 76) X dX7_onward_76 rfl (by first | decide | omega | assumption) ?_
          refine V_iload (pc := 77) X dX7_onward_77 rfl ?_
          refine V_iload_n (pc := 79) X dX7_onward_79 rfl ?_
          refine V_bipush (pc := 80) X dX7_onward_80 (by decide) ?_
          refine V_iadd (pc := 82) X dX7_onward_82 ?_
          refine V_iload_n (pc := 83) X dX7_onward_83 rfl ?_
          refine V_iconst (pc := 84) X dX7_onward_84 ?_
          refine V_iadd (pc := 85) X dX7_onward_85 ?_
          refine V_FV (pc := 86) X dX7_onward_86 oX7_better l_RX7_24 eX7_better vX7_better ⟨Nat.le_of_ble_eq_true rfl, Nat.le_of_ble_eq_true rfl⟩ ⟨rfl, rfl⟩ ⟨Nat.le_of_ble_eq_true rfl, Nat.le_of_ble_eq_true rfl⟩ (ct_X7_better r320 hst ⟨by omega, by omega⟩ ⟨by omega, by omega⟩ (by omega) (by omega)) rfl (by first | rfl | assumption | (simp only [*]; done) | omega) (by intro q h; cases h; rfl) rfl (by rfl) (by exact Nat.le_of_ble_eq_true rfl) ?_
          refine V_istore (pc := 89) X dX7_onward_89 (by exact Nat.le_of_ble_eq_true rfl) rfl ?_
          refine V_iload (pc := 91) X dX7_onward_91 rfl ?_
          refine V_iret (st := []) (pc := 93) X hQ dX7_onward_93 rfl rfl ?_
          exact z_pi (by unfold w_onw; split <;> first | rfl | (exfalso; omega))
set_option maxHeartbeats 4000000 in
set_option maxRecDepth 100000 in
theorem ct_X7_tileAfter {h : z_H} (r320 : h 32 0 = 33) (hst : ∀ i, 0 ≤ i → i < 756 → 0 ≤ h 33 i ∧ h 33 i ≤ 8) {t k : Int} {n : Nat} (ht : 0 ≤ t ∧ t < 84) (h0 : 0 ≤ k) (h1 : k + n ≤ 8) : z_Ct mX7_tileAfter 107 [(2, 32), (0, t), (0, k), (0, (n : Int))] h (z_pure (0, w_after h k t n) h) := by
  refine z_mk (L := [(2, 32), (0, t), (0, k), (0, (n : Int)), (9, 0), (9, 0)]) oX7_tileAfter.2.2.2.2 (Nat.le_of_ble_eq_true rfl) rfl ?_
  intro Γ X hQ
  refine V_iload_n (pc := 0) X dX7_tileAfter_0 rfl ?_
  refine V_istore (pc := 1) X dX7_tileAfter_1 (by exact Nat.le_of_ble_eq_true rfl) rfl ?_
  refine V_iconst (pc := 3) X dX7_tileAfter_3 ?_
  refine V_istore (pc := 4) X dX7_tileAfter_4 (by exact Nat.le_of_ble_eq_true rfl) rfl ?_
  have lp_6 : ∀ (m : Nat) (i : Nat), n - i < m → i ≤ n → z_V Γ (107, 0, 0) 6 [(2, 32), (0, t), (0, k), (0, (n : Int)), (0, w_after h k t i), (0, (i : Int))] [] h := by
    intro m
    induction m with
    | zero => intro i hm; exact absurd hm (Nat.not_lt_zero _)
    | succ m ih_6 =>
      intro i hm hi1
      have hwa := w_after_rng (h := h) (k := k) ht i
      refine V_iload (pc := 6) X dX7_tileAfter_6 rfl ?_
      refine V_iload_n (pc := 8) X dX7_tileAfter_8 rfl ?_
      refine V_icmp_ge (pc := 9) X 30 dX7_tileAfter_9 (by decide) ⟨by omega, by omega⟩ ⟨by omega, by omega⟩ (fun c_9 => ?_) (fun c_9 => ?_)
      · skip
        refine V_iload (pc := 30) X dX7_tileAfter_30 rfl ?_
        refine V_iret (st := []) (pc := 32) X hQ dX7_tileAfter_32 rfl rfl ?_
        exact z_pi (by (obtain rfl : i = n := by omega); rfl)
      · skip
        refine V_aload_n (pc := 12) X dX7_tileAfter_12 rfl (by first | decide | omega | assumption) ?_
        refine V_iload (pc := 13) X dX7_tileAfter_13 rfl ?_
        refine V_iload_n (pc := 15) X dX7_tileAfter_15 rfl ?_
        refine V_iload (pc := 16) X dX7_tileAfter_16 rfl ?_
        refine V_iadd (pc := 18) X dX7_tileAfter_18 ?_
        refine V_FV (pc := 19) X dX7_tileAfter_19 oX7_onward l_RX7_21 eX7_onward vX7_onward ⟨Nat.le_of_ble_eq_true rfl, Nat.le_of_ble_eq_true rfl⟩ ⟨rfl, rfl⟩ ⟨Nat.le_of_ble_eq_true rfl, Nat.le_of_ble_eq_true rfl⟩ (ct_X7_onward r320 hst ⟨by omega, by omega⟩ (by omega) (by omega)) rfl (by first | rfl | assumption | (simp only [*]; done) | omega) (by intro q h; cases h; rfl) rfl (by rfl) (by exact Nat.le_of_ble_eq_true rfl) ?_
        refine V_istore (pc := 22) X dX7_tileAfter_22 (by exact Nat.le_of_ble_eq_true rfl) rfl ?_
        refine V_iinc (pc := 24) X dX7_tileAfter_24 rfl rfl ?_
        refine V_goto (pc := 27) X 6 dX7_tileAfter_27 (by decide) ?_
        exact ih_6 (i + 1) (by omega) (by omega)
  exact lp_6 _ 0 (Nat.lt_succ_self _) (Nat.zero_le _)
set_option maxHeartbeats 4000000 in
set_option maxRecDepth 100000 in
theorem ct_X7_hoursFrom {h : z_H} (r320 : h 32 0 = 33) (hst : ∀ i, 0 ≤ i → i < 756 → 0 ≤ h 33 i ∧ h 33 i ≤ 8) {pl mo : Int} (hS : c_Sc h pl mo) (h8 : ∀ u, 0 ≤ u → u < 84 → h 33 (8 * 84 + u) = 0) {t c : Int} {k : Nat} (h0 : 0 ≤ t) (h1 : t < 84) (hk : k < 8) (hc : 0 ≤ c ∧ c < 8) : z_Ct mX7_hoursFrom 107 [(2, 32), (2, 3), (0, t), (0, (k : Int)), (0, c)] h (fun r h2 => r = some (0, w_S (w_lt h pl mo c) (8 - k) t) ∧ ∃ f : Int → Int, h2 = w_H h f ∧ (∀ i, 0 ≤ i → i < 756 → 0 ≤ f i ∧ f i ≤ 8) ∧ ∀ kk : Nat, k ≤ kk → kk ≤ 8 → ∀ u, 0 ≤ u → u < 84 → f (kk * 84 + u) = w_S (w_lt h pl mo c) (8 - kk) u) := by
  refine z_mk (L := [(2, 32), (2, 3), (0, t), (0, (k : Int)), (0, c), (9, 0), (9, 0), (9, 0)]) oX7_hoursFrom.2.2.2.2 (Nat.le_of_ble_eq_true rfl) rfl ?_
  intro Γ X hQ
  refine V_bipush (pc := 0) X dX7_hoursFrom_0 (by decide) ?_
  refine V_istore (pc := 2) X dX7_hoursFrom_2 (by exact Nat.le_of_ble_eq_true rfl) rfl ?_
  have lp_4 : ∀ (m : Nat) (hh : Nat) (f : Int → Int), hh < m → k ≤ hh → hh ≤ 8 → (∀ i, 0 ≤ i → i < 756 → 0 ≤ f i ∧ f i ≤ 8) → (∀ kk : Nat, hh ≤ kk → kk ≤ 8 → ∀ u, 0 ≤ u → u < 84 → f (kk * 84 + u) = w_S (w_lt h pl mo c) (8 - kk) u) → z_V Γ (107, 0, 0) 4 [(2, 32), (2, 3), (0, t), (0, (k : Int)), (0, c), (0, (hh : Int) - 1), (9, 0), (9, 0)] [] (w_H h f) := by
    intro m
    induction m with
    | zero => intro hh f hm; exact absurd hm (Nat.not_lt_zero _)
    | succ m ih_4 =>
      intro hh f hm hh0 hh1 hf hr
      have r320f : w_H h f 32 0 = 33 := by rw [w_H_ne h f (by decide)]; exact r320
      refine V_iload (pc := 4) X dX7_hoursFrom_4 rfl ?_
      refine V_iload_n (pc := 6) X dX7_hoursFrom_6 rfl ?_
      refine V_icmp_lt (pc := 7) X 100 dX7_hoursFrom_7 (by decide) ⟨by omega, by omega⟩ ⟨by omega, by omega⟩ (fun c_7 => ?_) (fun c_7 => ?_)
      · skip
        refine V_aload_n (pc := 100) X dX7_hoursFrom_100 rfl (by first | decide | omega | assumption) ?_
        refine V_gz (pc := 101) X dX7_hoursFrom_101 f_RX7_9 (by first | rfl | assumption | (simp only [*]; done) | omega) 0 rfl r320f ?_
        refine V_iload_n (pc := 104) X dX7_hoursFrom_104 rfl ?_
        refine V_bipush (pc := 105) X dX7_hoursFrom_105 (by decide) ?_
        refine V_imul (pc := 107) X dX7_hoursFrom_107 ?_
        refine V_iload_n (pc := 108) X dX7_hoursFrom_108 rfl ?_
        refine V_iadd (pc := 109) X dX7_hoursFrom_109 ?_
        obtain rfl : hh = k := by omega
        refine V_iald (pc := 110) X dX7_hoursFrom_110 (by first | rfl | assumption | (simp only [*]; done) | omega) (by omega) (by omega) (by decide) ?_
        refine V_iret (st := []) (pc := 111) X hQ dX7_hoursFrom_111 rfl rfl ?_
        exact ⟨by rw [w_H_at, hr hh (by omega) (by omega) t h0 h1], f, rfl, hf, hr⟩
      · skip
        obtain ⟨j, rfl⟩ : ∃ j, hh = j + 1 := ⟨hh - 1, by omega⟩
        refine V_loc (show _ = [(2, 32), (2, 3), (0, t), (0, (k : Int)), (0, c), (0, (j : Int)), (9, 0), (9, 0)] from by simp) ?_
        refine V_iconst (pc := 10) X dX7_hoursFrom_10 ?_
        refine V_istore (pc := 11) X dX7_hoursFrom_11 (by exact Nat.le_of_ble_eq_true rfl) rfl ?_
        have lp_13 : ∀ (m : Nat) (u : Nat) (g : Int → Int), 84 - u < m → u ≤ 84 → (∀ i, 0 ≤ i → i < 756 → 0 ≤ g i ∧ g i ≤ 8) → (∀ kk : Nat, j + 1 ≤ kk → kk ≤ 8 → ∀ u, 0 ≤ u → u < 84 → g (kk * 84 + u) = w_S (w_lt h pl mo c) (8 - kk) u) → (∀ v, 0 ≤ v → v < (u : Int) → g (j * 84 + v) = w_S (w_lt h pl mo c) (8 - j) v) → z_V Γ (107, 0, 0) 13 [(2, 32), (2, 3), (0, t), (0, (k : Int)), (0, c), (0, (j : Int)), (0, (u : Int)), (9, 0)] [] (w_H h g) := by
          intro m
          induction m with
          | zero => intro u g hm; exact absurd hm (Nat.not_lt_zero _)
          | succ m ih_13 =>
            intro u g hm hu hg hrr hrow
            have E := w_H_eq (f := g) hS
            have hS1 := E.sc hS
            have r320g : w_H h g 32 0 = 33 := by rw [w_H_ne h g (by decide)]; exact r320
            have hstg : ∀ i, 0 ≤ i → i < 756 → 0 ≤ w_H h g 33 i ∧ w_H h g 33 i ≤ 8 := fun i q1 q2 => by rw [w_H_at]; exact hg i q1 q2
            have hwo := w_onw_rng (row := fun t' => w_H h g 33 (((j : Int) + 1) * 84 + t')) (t := (u : Int))
            have hli := c_light_rng (t := (u : Int)) (k := (j : Int)) hS
            have han := z_and_rngL (x := c_light h pl mo u j) (y := c) (by omega) (by omega)
            refine V_iload (pc := 13) X dX7_hoursFrom_13 rfl ?_
            refine V_bipush (pc := 15) X dX7_hoursFrom_15 (by decide) ?_
            refine V_icmp_ge (pc := 17) X 94 dX7_hoursFrom_17 (by decide) ⟨by omega, by omega⟩ ⟨by omega, by omega⟩ (fun c_17 => ?_) (fun c_17 => ?_)
            · skip
              have hu84 : u = 84 := by omega
              have hrr2 : ∀ kk : Nat, j ≤ kk → kk ≤ 8 → ∀ u, 0 ≤ u → u < 84 → g (kk * 84 + u) = w_S (w_lt h pl mo c) (8 - kk) u := fun kk q1 q2 w q3 q4 => by
                by_cases e : kk = j
                · rw [e]; exact hrow w q3 (by omega)
                · exact hrr kk (by omega) q2 w q3 q4
              refine V_iinc (pc := 94) X dX7_hoursFrom_94 rfl rfl ?_
              refine V_goto (pc := 97) X 4 dX7_hoursFrom_97 (by decide) ?_
              refine V_fgt 6 (V_fgt 7 ?_)
              refine V_loc (show _ = [(2, 32), (2, 3), (0, t), (0, (k : Int)), (0, c), (0, (j : Int) - 1), (9, 0), (9, 0)] from rfl) ?_
              exact ih_4 j g (by omega) (by omega) (by omega) hg hrr2
            · skip
              refine V_aload_n (pc := 20) X dX7_hoursFrom_20 rfl (by first | decide | omega | assumption) ?_
              refine V_iload (pc := 21) X dX7_hoursFrom_21 rfl ?_
              refine V_iload (pc := 23) X dX7_hoursFrom_23 rfl ?_
              refine V_FV (pc := 25) X dX7_hoursFrom_25 oX5_lightOf l_RX7_15 eX5_lightOf vX5_lightOf ⟨Nat.le_of_ble_eq_true rfl, Nat.le_of_ble_eq_true rfl⟩ ⟨rfl, rfl⟩ ⟨Nat.le_of_ble_eq_true rfl, Nat.le_of_ble_eq_true rfl⟩ (ct_X5_lightOf hS1 (by omega) (by omega) (by omega) (by omega)) rfl (by first | rfl | assumption | (simp only [*]; done) | omega) (by intro q h; cases h; rfl) rfl (by rfl) (by exact Nat.le_of_ble_eq_true rfl) ?_
              rw [E.light]
              refine V_iload (pc := 28) X dX7_hoursFrom_28 rfl ?_
              refine V_iand (pc := 30) X dX7_hoursFrom_30 ?_
              refine V_iload (pc := 31) X dX7_hoursFrom_31 rfl ?_
              refine V_icmp_ne (pc := 33) X 40 dX7_hoursFrom_33 (by decide) ⟨by omega, by omega⟩ ⟨by omega, by omega⟩ (fun c_33 => ?_) (fun c_33 => ?_)
              · skip
                refine V_iconst (pc := 40) X dX7_hoursFrom_40 ?_
                refine V_istore (pc := 41) X dX7_hoursFrom_41 (by exact Nat.le_of_ble_eq_true rfl) rfl ?_
                refine V_aload_n (pc := 43) X dX7_hoursFrom_43 rfl (by first | decide | omega | assumption) ?_
                refine V_gz (pc := 44) X dX7_hoursFrom_44 f_RX7_9 (by first | rfl | assumption | (simp only [*]; done) | omega) 0 rfl r320g ?_
                refine V_iload (pc := 47) X dX7_hoursFrom_47 rfl ?_
                refine V_bipush (pc := 49) X dX7_hoursFrom_49 (by decide) ?_
                refine V_imul (pc := 51) X dX7_hoursFrom_51 ?_
                refine V_iload (pc := 52) X dX7_hoursFrom_52 rfl ?_
                refine V_iadd (pc := 54) X dX7_hoursFrom_54 ?_
                refine V_iload (pc := 55) X dX7_hoursFrom_55 rfl ?_
                refine V_if_eq (pc := 57) X 86 dX7_hoursFrom_57 (by decide) ⟨by omega, by omega⟩ (fun c_57 => ?_) (fun c_57 => absurd c_57 (by decide))
                refine V_iconst (pc := 86) X dX7_hoursFrom_86 ?_
                refine V_top (fun v hv => ?_)
                refine V_iast (pc := 87) X dX7_hoursFrom_87 (by first | rfl | assumption | (simp only [*]; done) | omega) (by omega) (by omega) (by decide) ?_
                rw [w_H_st]
                refine V_iinc (pc := 88) X dX7_hoursFrom_88 rfl rfl ?_
                refine V_goto (pc := 91) X 13 dX7_hoursFrom_91 (by decide) ?_
                have hv2 : v = w_S (w_lt h pl mo c) (8 - j) u := by
                  first
                    | exact hv.trans (w_stepB (by omega) c_33)
                    | exact hv.trans (w_stepA (by omega) ⟨by omega, by omega⟩ c_33 hrr)
                refine V_fgt 7 (ih_13 (u + 1) (fun r => if r = (j : Int) * 84 + u then v else g r) (by omega) (by omega) (fun i q1 q2 => ?_) (fun kk q1 q2 w q3 q4 => ?_) (fun w q1 q2 => ?_))
                · have := w_S_rng (w_lt h pl mo c) (8 - j) u
                  have := hg i q1 q2
                  split <;> omega
                · rw [if_neg (by omega)]
                  exact hrr kk q1 q2 w q3 q4
                · by_cases e : w = u
                  · rw [if_pos (by omega), hv2, e]
                  · rw [if_neg (by omega)]
                    exact hrow w q1 (by omega)
              · skip
                refine V_iconst (pc := 36) X dX7_hoursFrom_36 ?_
                refine V_goto (pc := 37) X 41 dX7_hoursFrom_37 (by decide) ?_
                refine V_istore (pc := 41) X dX7_hoursFrom_41 (by exact Nat.le_of_ble_eq_true rfl) rfl ?_
                refine V_aload_n (pc := 43) X dX7_hoursFrom_43 rfl (by first | decide | omega | assumption) ?_
                refine V_gz (pc := 44) X dX7_hoursFrom_44 f_RX7_9 (by first | rfl | assumption | (simp only [*]; done) | omega) 0 rfl r320g ?_
                refine V_iload (pc := 47) X dX7_hoursFrom_47 rfl ?_
                refine V_bipush (pc := 49) X dX7_hoursFrom_49 (by decide) ?_
                refine V_imul (pc := 51) X dX7_hoursFrom_51 ?_
                refine V_iload (pc := 52) X dX7_hoursFrom_52 rfl ?_
                refine V_iadd (pc := 54) X dX7_hoursFrom_54 ?_
                refine V_iload (pc := 55) X dX7_hoursFrom_55 rfl ?_
                refine V_if_eq (pc := 57) X 86 dX7_hoursFrom_57 (by decide) ⟨by omega, by omega⟩ (fun c_57 => absurd c_57 (by decide)) (fun c_57 => ?_)
                refine V_iconst (pc := 60) X dX7_hoursFrom_60 ?_
                refine V_aload_n (pc := 61) X dX7_hoursFrom_61 rfl (by first | decide | omega | assumption) ?_
                refine V_gz (pc := 62) X dX7_hoursFrom_62 f_RX7_9 (by first | rfl | assumption | (simp only [*]; done) | omega) 0 rfl r320g ?_
                refine V_iload (pc := 65) X dX7_hoursFrom_65 rfl ?_
                refine V_iconst (pc := 67) X dX7_hoursFrom_67 ?_
                refine V_iadd (pc := 68) X dX7_hoursFrom_68 ?_
                refine V_bipush (pc := 69) X dX7_hoursFrom_69 (by decide) ?_
                refine V_imul (pc := 71) X dX7_hoursFrom_71 ?_
                refine V_aload_n (pc := 72) X dX7_hoursFrom_72 rfl (by first | decide | omega | assumption) ?_
                refine V_iload (pc := 73) X dX7_hoursFrom_73 rfl ?_
                refine V_iload (pc := 75) X dX7_hoursFrom_75 rfl ?_
                refine V_FV (pc := 77) X dX7_hoursFrom_77 oX7_onward l_RX7_21 eX7_onward vX7_onward ⟨Nat.le_of_ble_eq_true rfl, Nat.le_of_ble_eq_true rfl⟩ ⟨rfl, rfl⟩ ⟨Nat.le_of_ble_eq_true rfl, Nat.le_of_ble_eq_true rfl⟩ (ct_X7_onward r320g hstg ⟨by omega, by omega⟩ (by omega) (by omega)) rfl (by first | rfl | assumption | (simp only [*]; done) | omega) (by intro q h; cases h; rfl) rfl (by rfl) (by exact Nat.le_of_ble_eq_true rfl) ?_
                refine V_iadd (pc := 80) X dX7_hoursFrom_80 ?_
                have hwo := hwo (by omega)
                refine V_iald (pc := 81) X dX7_hoursFrom_81 (by first | rfl | assumption | (simp only [*]; done) | omega) (by omega) (by omega) (by decide) ?_
                refine V_iadd (pc := 82) X dX7_hoursFrom_82 ?_
                refine V_goto (pc := 83) X 87 dX7_hoursFrom_83 (by decide) ?_
                refine V_top (fun v hv => ?_)
                refine V_iast (pc := 87) X dX7_hoursFrom_87 (by first | rfl | assumption | (simp only [*]; done) | omega) (by omega) (by omega) (by decide) ?_
                rw [w_H_st]
                refine V_iinc (pc := 88) X dX7_hoursFrom_88 rfl rfl ?_
                refine V_goto (pc := 91) X 13 dX7_hoursFrom_91 (by decide) ?_
                have hv2 : v = w_S (w_lt h pl mo c) (8 - j) u := by
                  first
                    | exact hv.trans (w_stepB (by omega) c_33)
                    | exact hv.trans (w_stepA (by omega) ⟨by omega, by omega⟩ c_33 hrr)
                refine V_fgt 7 (ih_13 (u + 1) (fun r => if r = (j : Int) * 84 + u then v else g r) (by omega) (by omega) (fun i q1 q2 => ?_) (fun kk q1 q2 w q3 q4 => ?_) (fun w q1 q2 => ?_))
                · have := w_S_rng (w_lt h pl mo c) (8 - j) u
                  have := hg i q1 q2
                  split <;> omega
                · rw [if_neg (by omega)]
                  exact hrr kk q1 q2 w q3 q4
                · by_cases e : w = u
                  · rw [if_pos (by omega), hv2, e]
                  · rw [if_neg (by omega)]
                    exact hrow w q1 (by omega)
        exact lp_13 _ 0 f (Nat.lt_succ_self _) (by omega) hf hr (fun v g1 g2 => by omega)
  exact lp_4 _ 8 (h 33) (Nat.lt_succ_self _) (by omega) (by omega) hst (fun kk g1 g2 u g3 g4 => by (obtain rfl : kk = 8 := by omega); exact h8 u g3 g4)
