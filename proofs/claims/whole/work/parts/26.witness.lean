/-! Witness -/
set_option maxHeartbeats 4000000 in
set_option maxRecDepth 100000 in
theorem ct_X8_bitOf {n : Nat} {h : z_H} {s p : Int} (h0 : 0 ≤ s) (h1 : s < 2097152) (hp : -1 ≤ p ∧ p < 20) : z_Ct mX8_bitOf n [(2, 34), (0, s), (0, p)] h (z_pure (0, c_bitOf s p) h) := by
  refine z_mk (L := [(2, 34), (0, s), (0, p)]) oX8_bitOf.2.2.2.2 (Nat.le_of_ble_eq_true rfl) rfl ?_
  intro Γ X hQ
  refine V_iload_n (pc := 0) X dX8_bitOf_0 rfl ?_
  refine V_iconst (pc := 1) X dX8_bitOf_1 ?_
  refine V_icmp_ne (pc := 2) X 9 dX8_bitOf_2 (by decide) ⟨by omega, by omega⟩ ⟨by omega, by omega⟩ (fun c_2 => ?_) (fun c_2 => ?_)
  · skip
    refine V_iload_n (pc := 9) X dX8_bitOf_9 rfl ?_
    refine V_iload_n (pc := 10) X dX8_bitOf_10 rfl ?_
    refine V_ishr (pc := 11) X dX8_bitOf_11 ?_
    refine V_iconst (pc := 12) X dX8_bitOf_12 ?_
    refine V_iand (pc := 13) X dX8_bitOf_13 ?_
    rw [z_bitb (by omega) (by omega) (by omega) (by omega)]
    refine V_iret (st := []) (pc := 14) X hQ dX8_bitOf_14 rfl rfl ?_
    exact z_pi (by simp [c_bitOf, *])
  · skip
    refine V_iconst (pc := 5) X dX8_bitOf_5 ?_
    refine V_goto (pc := 6) X 14 dX8_bitOf_6 (by decide) ?_
    refine V_iret (st := []) (pc := 14) X hQ dX8_bitOf_14 rfl rfl ?_
    exact z_pi (by simp [c_bitOf, *])
set_option maxHeartbeats 4000000 in
set_option maxRecDepth 100000 in
theorem ct_X8_agrees {h : z_H} {pl mo : Int} (hS : c_Sc h pl mo) (hI : c_Wi h) {q v : Int} (hq : -1 ≤ q ∧ q < 20) (hv : 0 ≤ v ∧ v < 8) : z_Ct mX8_agrees 107 [(2, 34), (2, 3), (0, q), (0, v)] h (z_pure (0, z_b (c_agr h pl mo q v)) h) := by
  refine z_mk (L := [(2, 34), (2, 3), (0, q), (0, v), (9, 0)]) oX8_agrees.2.2.2.2 (Nat.le_of_ble_eq_true rfl) rfl ?_
  intro Γ X hQ
  obtain ⟨r30, r31, r42, ⟨kp, rp0, rp1, kp1, kp2, hw, hh, hs, hgl, hpi⟩, ⟨km, rm0, km1, hbr, hmi, hse, hbf⟩⟩ := id hS
  obtain ⟨r340, r341, hsn, hpc⟩ := id hI
  refine V_iconst (pc := 0) X dX8_agrees_0 ?_
  refine V_istore (pc := 1) X dX8_agrees_1 (by exact Nat.le_of_ble_eq_true rfl) rfl ?_
  have lp_3 : ∀ (m : Nat) (i : Int), (h 34 2 - i).toNat < m → 0 ≤ i → i ≤ h 34 2 → (∀ k : Int, 0 ≤ k → k < i → c_agP h pl mo q v k = true) → z_V Γ (107, 0, 0) 3 [(2, 34), (2, 3), (0, q), (0, v), (0, i)] [] h := by
    intro m
    induction m with
    | zero => intro i hm; exact absurd hm (Nat.not_lt_zero _)
    | succ m ih_3 =>
      intro i hm hi0 hi1 hk
      refine V_iload (pc := 3) X dX8_agrees_3 rfl ?_
      refine V_aload_n (pc := 5) X dX8_agrees_5 rfl (by first | decide | omega | assumption) ?_
      refine V_gz (pc := 6) X dX8_agrees_6 f_RX8_18 (by first | rfl | assumption | (simp only [*]; done) | omega) 2 rfl rfl ?_
      refine V_icmp_ge (pc := 9) X 56 dX8_agrees_9 (by decide) ⟨by omega, by omega⟩ ⟨by omega, by omega⟩ (fun c_9 => ?_) (fun c_9 => ?_)
      · skip
        refine V_iconst (pc := 56) X dX8_agrees_56 ?_
        refine V_zret (st := []) (pc := 57) X hQ dX8_agrees_57 rfl (by omega) rfl ?_
        exact z_pi (by rw [show c_agr h pl mo q v = true from z_all_true (fun k g1 g2 => hk k g1 (by omega))]; rfl)
      · skip
        have hpi2 := hpc i (by omega) (by omega)
        have hlr := c_lightIf_rng (t := h 35 i / 8) (k := h 35 i % 8) (q := q) (v := v) hS (by omega) (by omega)
        refine V_aload_n (pc := 12) X dX8_agrees_12 rfl (by first | decide | omega | assumption) ?_
        refine V_aload_n (pc := 13) X dX8_agrees_13 rfl (by first | decide | omega | assumption) ?_
        refine V_gz (pc := 14) X dX8_agrees_14 f_RX8_11 (by first | rfl | assumption | (simp only [*]; done) | omega) 0 rfl r340 ?_
        refine V_iload (pc := 17) X dX8_agrees_17 rfl ?_
        refine V_iald (pc := 19) X dX8_agrees_19 (by first | rfl | assumption | (simp only [*]; done) | omega) (by omega) (by omega) (by decide) ?_
        refine V_bipush (pc := 20) X dX8_agrees_20 (by decide) ?_
        refine V_idivN (pc := 22) X dX8_agrees_22 (by omega) (by omega) (by omega) (by omega) ?_
        refine V_aload_n (pc := 23) X dX8_agrees_23 rfl (by first | decide | omega | assumption) ?_
        refine V_gz (pc := 24) X dX8_agrees_24 f_RX8_11 (by first | rfl | assumption | (simp only [*]; done) | omega) 0 rfl r340 ?_
        refine V_iload (pc := 27) X dX8_agrees_27 rfl ?_
        refine V_iald (pc := 29) X dX8_agrees_29 (by first | rfl | assumption | (simp only [*]; done) | omega) (by omega) (by omega) (by decide) ?_
        refine V_bipush (pc := 30) X dX8_agrees_30 (by decide) ?_
        refine V_iremN (pc := 32) X dX8_agrees_32 (by omega) (by omega) (by omega) (by omega) ?_
        refine V_iload_n (pc := 33) X dX8_agrees_33 rfl ?_
        refine V_iload_n (pc := 34) X dX8_agrees_34 rfl ?_
        refine V_FV (pc := 35) X dX8_agrees_35 oX5_lightIf l_RX8_22 eX5_lightIf vX5_lightIf ⟨Nat.le_of_ble_eq_true rfl, Nat.le_of_ble_eq_true rfl⟩ ⟨rfl, rfl⟩ ⟨Nat.le_of_ble_eq_true rfl, Nat.le_of_ble_eq_true rfl⟩ (ct_X5_lightIf hS (by omega) (by omega) (by omega) (by omega) ⟨by omega, by omega⟩) rfl (by first | rfl | assumption | (simp only [*]; done) | omega) (by intro q h; cases h; rfl) rfl (by rfl) (by exact Nat.le_of_ble_eq_true rfl) ?_
        refine V_aload_n (pc := 38) X dX8_agrees_38 rfl (by first | decide | omega | assumption) ?_
        refine V_gz (pc := 39) X dX8_agrees_39 f_RX8_15 (by first | rfl | assumption | (simp only [*]; done) | omega) 1 rfl r341 ?_
        refine V_iload (pc := 42) X dX8_agrees_42 rfl ?_
        refine V_iald (pc := 44) X dX8_agrees_44 (by first | rfl | assumption | (simp only [*]; done) | omega) (by omega) (by omega) (by decide) ?_
        refine V_icmp_eq (pc := 45) X 50 dX8_agrees_45 (by decide) ⟨by omega, by omega⟩ ⟨by omega, by omega⟩ (fun c_45 => ?_) (fun c_45 => ?_)
        · skip
          refine V_iinc (pc := 50) X dX8_agrees_50 rfl rfl ?_
          refine V_goto (pc := 53) X 3 dX8_agrees_53 (by decide) ?_
          refine ih_3 (i + 1) (by omega) (by omega) (by omega) (fun k g1 g2 => ?_)
          by_cases e : k = i
          · rw [e]; exact decide_eq_true c_45
          · exact hk k g1 (by omega)
        · skip
          refine V_iconst (pc := 48) X dX8_agrees_48 ?_
          refine V_zret (st := []) (pc := 49) X hQ dX8_agrees_49 rfl (by omega) rfl ?_
          exact z_pi (by rw [show c_agr h pl mo q v = false from z_all_false (i := i) hi0 (decide_eq_false c_45) (by omega)]; rfl)
  exact lp_3 _ 0 (Nat.lt_succ_self _) (by decide) (by omega) (by intro k h1 h2; omega)
set_option maxHeartbeats 4000000 in
set_option maxRecDepth 100000 in
theorem ct_X8_suspected {h : z_H} {pl mo : Int} (hS : c_Sc h pl mo) (hI : c_Wi h) : z_Ct mX8_suspected 107 [(2, 34), (2, 3)] h (z_pure (0, ((c_sus h pl mo : Nat) : Int)) h) := by
  refine z_mk (L := [(2, 34), (2, 3), (9, 0), (9, 0)]) oX8_suspected.2.2.2.2 (Nat.le_of_ble_eq_true rfl) rfl ?_
  intro Γ X hQ
  obtain ⟨r30, r31, r42, ⟨kp, rp0, rp1, kp1, kp2, hw, hh, hs, hgl, hpi⟩, ⟨km, rm0, km1, hbr, hmi, hse, hbf⟩⟩ := id hS
  obtain ⟨r340, r341, hsn, hpc⟩ := id hI
  refine V_joinS 16 (fun z => ∃ Bn : Nat, z = (Bn : Int) ∧ (Bn = 0 ∨ Bn = 1048576) ∧ Bn = if c_agr h pl mo (-1) 0 then 2 ^ 20 else 0) (fun J => ?_) (fun z hz => ?_)
  · skip
    refine V_aload_n (pc := 0) X dX8_suspected_0 rfl (by first | decide | omega | assumption) ?_
    refine V_aload_n (pc := 1) X dX8_suspected_1 rfl (by first | decide | omega | assumption) ?_
    refine V_iconst (pc := 2) X dX8_suspected_2 ?_
    refine V_iconst (pc := 3) X dX8_suspected_3 ?_
    refine V_FV (pc := 4) X dX8_suspected_4 oX8_agrees l_RX8_28 eX8_agrees vX8_agrees ⟨Nat.le_of_ble_eq_true rfl, Nat.le_of_ble_eq_true rfl⟩ ⟨rfl, rfl⟩ ⟨Nat.le_of_ble_eq_true rfl, Nat.le_of_ble_eq_true rfl⟩ (ct_X8_agrees hS hI ⟨by omega, by omega⟩ ⟨by omega, by omega⟩) rfl (by first | rfl | assumption | (simp only [*]; done) | omega) (by intro q h; cases h; rfl) rfl (by rfl) (by exact Nat.le_of_ble_eq_true rfl) ?_
    refine V_bif_eq (pc := 7) X 15 dX8_suspected_7 (by decide)  (fun c_7 => ?_) (fun c_7 => ?_)
    · skip
      refine V_iconst (pc := 15) X dX8_suspected_15 ?_
      exact J _ (by first | exact ⟨1048576, rfl, Or.inr rfl, by simp [*]⟩ | exact ⟨0, rfl, Or.inl rfl, by simp [*]⟩)
    · skip
      refine V_ldc (pc := 10) X (1048576) dX8_suspected_10 c_RX8_32 (by decide) ?_
      refine V_goto (pc := 12) X 16 dX8_suspected_12 (by decide) ?_
      exact J _ (by first | exact ⟨1048576, rfl, Or.inr rfl, by simp [*]⟩ | exact ⟨0, rfl, Or.inl rfl, by simp [*]⟩)
  · skip
    obtain ⟨Bn, rfl, hBn, hBe⟩ := hz
    refine V_istore_n (pc := 16) X dX8_suspected_16 (by exact Nat.le_of_ble_eq_true rfl) rfl ?_
    refine V_iconst (pc := 17) X dX8_suspected_17 ?_
    refine V_istore_n (pc := 18) X dX8_suspected_18 (by exact Nat.le_of_ble_eq_true rfl) rfl ?_
    have lp_19 : ∀ (m : Nat) (i : Nat), 20 - i < m → i ≤ 20 → z_V Γ (107, 0, 0) 19 [(2, 34), (2, 3), (0, ((z_set (c_susP h pl mo) i + Bn : Nat) : Int)), (0, (i : Int))] [] h := by
      intro m
      induction m with
      | zero => intro i hm; exact absurd hm (Nat.not_lt_zero _)
      | succ m ih_19 =>
        intro i hm hi1
        refine V_iload_n (pc := 19) X dX8_suspected_19 rfl ?_
        refine V_bipush (pc := 20) X dX8_suspected_20 (by decide) ?_
        refine V_icmp_ge (pc := 22) X 64 dX8_suspected_22 (by decide) ⟨by omega, by omega⟩ ⟨by omega, by omega⟩ (fun c_22 => ?_) (fun c_22 => ?_)
        · skip
          refine V_iload_n (pc := 64) X dX8_suspected_64 rfl ?_
          refine V_iret (st := []) (pc := 65) X hQ dX8_suspected_65 rfl rfl ?_
          exact z_pi (by (obtain rfl : i = 20 := by omega); rw [hBe]; rfl)
        · skip
          refine V_aload_n (pc := 25) X dX8_suspected_25 rfl (by first | decide | omega | assumption) ?_
          refine V_iload_n (pc := 26) X dX8_suspected_26 rfl ?_
          refine V_FV (pc := 27) X dX8_suspected_27 oX5_hasPane l_RX8_33 eX5_hasPane vX5_hasPane ⟨Nat.le_of_ble_eq_true rfl, Nat.le_of_ble_eq_true rfl⟩ ⟨rfl, rfl⟩ ⟨Nat.le_of_ble_eq_true rfl, Nat.le_of_ble_eq_true rfl⟩ (ct_X5_hasPane hS (by omega) (by omega)) rfl (by first | rfl | assumption | (simp only [*]; done) | omega) (by intro q h; cases h; rfl) rfl (by rfl) (by exact Nat.le_of_ble_eq_true rfl) ?_
          refine V_bif_eq (pc := 30) X 58 dX8_suspected_30 (by decide)  (fun c_30 => ?_) (fun c_30 => ?_)
          · skip
            refine V_iinc (pc := 58) X dX8_suspected_58 rfl rfl ?_
            refine V_goto (pc := 61) X 19 dX8_suspected_61 (by decide) ?_
            first
              | (have q := c_49.symm.trans c_49
                 refine V_loc ?_ (ih_19 (i + 1) (by omega) (by omega)); show [_, _, _, _] = [_, _, _, _]; rw [← z_set_orB (by omega) hBn (by simp [c_susP, show ¬ i = 20 by omega, *])]; simp; done)
              | (refine V_loc ?_ (ih_19 (i + 1) (by omega) (by omega)); show [_, _, _, _] = [_, _, _, _]; rw [z_set_no (by simp [c_susP, show ¬ i = 20 by omega, *])]; simp; done)
          · skip
            refine V_aload_n (pc := 33) X dX8_suspected_33 rfl (by first | decide | omega | assumption) ?_
            refine V_iload_n (pc := 34) X dX8_suspected_34 rfl ?_
            refine V_FV (pc := 35) X dX8_suspected_35 oX5_isBroken l_RX8_37 eX5_isBroken vX5_isBroken ⟨Nat.le_of_ble_eq_true rfl, Nat.le_of_ble_eq_true rfl⟩ ⟨rfl, rfl⟩ ⟨Nat.le_of_ble_eq_true rfl, Nat.le_of_ble_eq_true rfl⟩ (ct_X5_isBroken hS (by omega) (by omega)) rfl (by first | rfl | assumption | (simp only [*]; done) | omega) (by intro q h; cases h; rfl) rfl (by rfl) (by exact Nat.le_of_ble_eq_true rfl) ?_
            refine V_bif_ne (pc := 38) X 58 dX8_suspected_38 (by decide)  (fun c_38 => ?_) (fun c_38 => ?_)
            · skip
              refine V_iinc (pc := 58) X dX8_suspected_58 rfl rfl ?_
              refine V_goto (pc := 61) X 19 dX8_suspected_61 (by decide) ?_
              first
                | (have q := c_49.symm.trans c_49
                   refine V_loc ?_ (ih_19 (i + 1) (by omega) (by omega)); show [_, _, _, _] = [_, _, _, _]; rw [← z_set_orB (by omega) hBn (by simp [c_susP, show ¬ i = 20 by omega, *])]; simp; done)
                | (refine V_loc ?_ (ih_19 (i + 1) (by omega) (by omega)); show [_, _, _, _] = [_, _, _, _]; rw [z_set_no (by simp [c_susP, show ¬ i = 20 by omega, *])]; simp; done)
            · skip
              refine V_aload_n (pc := 41) X dX8_suspected_41 rfl (by first | decide | omega | assumption) ?_
              refine V_aload_n (pc := 42) X dX8_suspected_42 rfl (by first | decide | omega | assumption) ?_
              refine V_iload_n (pc := 43) X dX8_suspected_43 rfl ?_
              refine V_bipush (pc := 44) X dX8_suspected_44 (by decide) ?_
              refine V_FV (pc := 46) X dX8_suspected_46 oX8_agrees l_RX8_28 eX8_agrees vX8_agrees ⟨Nat.le_of_ble_eq_true rfl, Nat.le_of_ble_eq_true rfl⟩ ⟨rfl, rfl⟩ ⟨Nat.le_of_ble_eq_true rfl, Nat.le_of_ble_eq_true rfl⟩ (ct_X8_agrees hS hI ⟨by omega, by omega⟩ ⟨by omega, by omega⟩) rfl (by first | rfl | assumption | (simp only [*]; done) | omega) (by intro q h; cases h; rfl) rfl (by rfl) (by exact Nat.le_of_ble_eq_true rfl) ?_
              refine V_bif_eq (pc := 49) X 58 dX8_suspected_49 (by decide)  (fun c_49 => ?_) (fun c_49 => ?_)
              · skip
                refine V_iinc (pc := 58) X dX8_suspected_58 rfl rfl ?_
                refine V_goto (pc := 61) X 19 dX8_suspected_61 (by decide) ?_
                first
                  | (have q := c_49.symm.trans c_49
                     refine V_loc ?_ (ih_19 (i + 1) (by omega) (by omega)); show [_, _, _, _] = [_, _, _, _]; rw [← z_set_orB (by omega) hBn (by simp [c_susP, show ¬ i = 20 by omega, *])]; simp; done)
                  | (refine V_loc ?_ (ih_19 (i + 1) (by omega) (by omega)); show [_, _, _, _] = [_, _, _, _]; rw [z_set_no (by simp [c_susP, show ¬ i = 20 by omega, *])]; simp; done)
              · skip
                refine V_iload_n (pc := 52) X dX8_suspected_52 rfl ?_
                refine V_iconst (pc := 53) X dX8_suspected_53 ?_
                refine V_iload_n (pc := 54) X dX8_suspected_54 rfl ?_
                refine V_ishl (pc := 55) X dX8_suspected_55 ?_
                refine V_ior (pc := 56) X dX8_suspected_56 ?_
                refine V_istore_n (pc := 57) X dX8_suspected_57 (by exact Nat.le_of_ble_eq_true rfl) rfl ?_
                refine V_iinc (pc := 58) X dX8_suspected_58 rfl rfl ?_
                refine V_goto (pc := 61) X 19 dX8_suspected_61 (by decide) ?_
                first
                  | (have q := c_49.symm.trans c_49
                     refine V_loc ?_ (ih_19 (i + 1) (by omega) (by omega)); show [_, _, _, _] = [_, _, _, _]; rw [← z_set_orB (by omega) hBn (by simp [c_susP, show ¬ i = 20 by omega, *])]; simp; done)
                  | (refine V_loc ?_ (ih_19 (i + 1) (by omega) (by omega)); show [_, _, _, _] = [_, _, _, _]; rw [z_set_no (by simp [c_susP, show ¬ i = 20 by omega, *])]; simp; done)
    refine V_loc (show _ = [(2, 34), (2, 3), (0, ((z_set (c_susP h pl mo) 0 + Bn : Nat) : Int)), (0, ((0 : Nat) : Int))] from by rw [show z_set (c_susP h pl mo) 0 + Bn = Bn from Nat.zero_add Bn]; rfl) ?_
    exact lp_19 _ 0 (Nat.lt_succ_self _) (by decide)
set_option maxHeartbeats 4000000 in
set_option maxRecDepth 100000 in
theorem ct_X8_glassesOf {h : z_H} {pl mo : Int} (hS : c_Sc h pl mo) (hI : c_Wi h) {p : Int} (h0 : 0 ≤ p) (h1 : p < 20) : z_Ct mX8_glassesOf 107 [(2, 34), (2, 3), (0, p)] h (z_pure (0, ((c_gls h pl mo p : Nat) : Int)) h) := by
  refine z_mk (L := [(2, 34), (2, 3), (0, p), (9, 0), (9, 0), (9, 0)]) oX8_glassesOf.2.2.2.2 (Nat.le_of_ble_eq_true rfl) rfl ?_
  intro Γ X hQ
  obtain ⟨r30, r31, r42, ⟨kp, rp0, rp1, kp1, kp2, hw, hh, hs, hgl, hpi⟩, ⟨km, rm0, km1, hbr, hmi, hse, hbf⟩⟩ := id hS
  obtain ⟨r340, r341, hsn, hpc⟩ := id hI
  refine V_aload_n (pc := 0) X dX8_glassesOf_0 rfl (by first | decide | omega | assumption) ?_
  refine V_gz (pc := 1) X dX8_glassesOf_1 f_RX8_40 (by first | rfl | assumption | (simp only [*]; done) | omega) 1 rfl r31 ?_
  refine V_gz (pc := 4) X dX8_glassesOf_4 f_RX8_44 (by first | rfl | assumption | (simp only [*]; done) | omega) 1 rfl rp1 ?_
  refine V_aload_n (pc := 7) X dX8_glassesOf_7 rfl (by first | decide | omega | assumption) ?_
  refine V_gz (pc := 8) X dX8_glassesOf_8 f_RX8_49 (by first | rfl | assumption | (simp only [*]; done) | omega) 0 rfl r30 ?_
  refine V_gz (pc := 11) X dX8_glassesOf_11 f_RX8_53 (by first | rfl | assumption | (simp only [*]; done) | omega) 2 rfl r42 ?_
  refine V_gz (pc := 14) X dX8_glassesOf_14 f_RX8_59 (by first | rfl | assumption | (simp only [*]; done) | omega) 0 rfl rm0 ?_
  refine V_iload_n (pc := 17) X dX8_glassesOf_17 rfl ?_
  have hbp := hbf p (by omega) (by omega)
  have hpp := hpi (h (mo + 1) p) (by omega) (by omega)
  refine V_iald (pc := 18) X dX8_glassesOf_18 (by first | rfl | assumption | (simp only [*]; done) | omega) (by omega) (by omega) (by decide) ?_
  refine V_iald (pc := 19) X dX8_glassesOf_19 (by first | rfl | assumption | (simp only [*]; done) | omega) (by omega) (by omega) (by decide) ?_
  refine V_istore_n (pc := 20) X dX8_glassesOf_20 (by exact Nat.le_of_ble_eq_true rfl) rfl ?_
  refine V_iconst (pc := 21) X dX8_glassesOf_21 ?_
  refine V_istore (pc := 22) X dX8_glassesOf_22 (by exact Nat.le_of_ble_eq_true rfl) rfl ?_
  refine V_iconst (pc := 24) X dX8_glassesOf_24 ?_
  refine V_istore (pc := 25) X dX8_glassesOf_25 (by exact Nat.le_of_ble_eq_true rfl) rfl ?_
  have lp_27 : ∀ (m : Nat) (i : Nat), 8 - i < m → i ≤ 8 → z_V Γ (107, 0, 0) 27 [(2, 34), (2, 3), (0, p), (0, h (pl + 2) (h (mo + 1) p)), (0, ((z_set (fun c => c_agr h pl mo p (z_and (c : Int) (h (pl + 2) (h (mo + 1) p)))) i : Nat) : Int)), (0, (i : Int))] [] h := by
    intro m
    induction m with
    | zero => intro i hm; exact absurd hm (Nat.not_lt_zero _)
    | succ m ih_27 =>
      intro i hm hi1
      have hir := z_and_rngL (x := (i : Int)) (y := h (pl + 2) (h (mo + 1) p)) (by omega) (by omega)
      refine V_iload (pc := 27) X dX8_glassesOf_27 rfl ?_
      refine V_bipush (pc := 29) X dX8_glassesOf_29 (by decide) ?_
      refine V_icmp_ge (pc := 31) X 62 dX8_glassesOf_31 (by decide) ⟨by omega, by omega⟩ ⟨by omega, by omega⟩ (fun c_31 => ?_) (fun c_31 => ?_)
      · skip
        refine V_iload (pc := 62) X dX8_glassesOf_62 rfl ?_
        refine V_iret (st := []) (pc := 64) X hQ dX8_glassesOf_64 rfl rfl ?_
        exact z_pi (by (obtain rfl : i = 8 := by omega); rfl)
      · skip
        refine V_aload_n (pc := 34) X dX8_glassesOf_34 rfl (by first | decide | omega | assumption) ?_
        refine V_aload_n (pc := 35) X dX8_glassesOf_35 rfl (by first | decide | omega | assumption) ?_
        refine V_iload_n (pc := 36) X dX8_glassesOf_36 rfl ?_
        refine V_iload (pc := 37) X dX8_glassesOf_37 rfl ?_
        refine V_iload_n (pc := 39) X dX8_glassesOf_39 rfl ?_
        refine V_iand (pc := 40) X dX8_glassesOf_40 ?_
        refine V_FV (pc := 41) X dX8_glassesOf_41 oX8_agrees l_RX8_28 eX8_agrees vX8_agrees ⟨Nat.le_of_ble_eq_true rfl, Nat.le_of_ble_eq_true rfl⟩ ⟨rfl, rfl⟩ ⟨Nat.le_of_ble_eq_true rfl, Nat.le_of_ble_eq_true rfl⟩ (ct_X8_agrees hS hI ⟨by omega, by omega⟩ ⟨by omega, by omega⟩) rfl (by first | rfl | assumption | (simp only [*]; done) | omega) (by intro q h; cases h; rfl) rfl (by rfl) (by exact Nat.le_of_ble_eq_true rfl) ?_
        refine V_bif_eq (pc := 44) X 56 dX8_glassesOf_44 (by decide)  (fun c_44 => ?_) (fun c_44 => ?_)
        · skip
          refine V_iinc (pc := 56) X dX8_glassesOf_56 rfl rfl ?_
          refine V_goto (pc := 59) X 27 dX8_glassesOf_59 (by decide) ?_
          first
            | (refine V_loc ?_ (ih_27 (i + 1) (by omega) (by omega)); show [_, _, _, _, _, _] = [_, _, _, _, _, _]; rw [← z_set_or (P := fun c => c_agr h pl mo p (z_and (c : Int) (h (pl + 2) (h (mo + 1) p)))) (n := i) (by omega) c_44]; rfl)
            | (refine V_loc ?_ (ih_27 (i + 1) (by omega) (by omega)); show [_, _, _, _, _, _] = [_, _, _, _, _, _]; rw [z_set_no (P := fun c => c_agr h pl mo p (z_and (c : Int) (h (pl + 2) (h (mo + 1) p)))) (n := i) c_44]; rfl)
        · skip
          refine V_iload (pc := 47) X dX8_glassesOf_47 rfl ?_
          refine V_iconst (pc := 49) X dX8_glassesOf_49 ?_
          refine V_iload (pc := 50) X dX8_glassesOf_50 rfl ?_
          refine V_ishl (pc := 52) X dX8_glassesOf_52 ?_
          refine V_ior (pc := 53) X dX8_glassesOf_53 ?_
          refine V_istore (pc := 54) X dX8_glassesOf_54 (by exact Nat.le_of_ble_eq_true rfl) rfl ?_
          refine V_iinc (pc := 56) X dX8_glassesOf_56 rfl rfl ?_
          refine V_goto (pc := 59) X 27 dX8_glassesOf_59 (by decide) ?_
          first
            | (refine V_loc ?_ (ih_27 (i + 1) (by omega) (by omega)); show [_, _, _, _, _, _] = [_, _, _, _, _, _]; rw [← z_set_or (P := fun c => c_agr h pl mo p (z_and (c : Int) (h (pl + 2) (h (mo + 1) p)))) (n := i) (by omega) c_44]; rfl)
            | (refine V_loc ?_ (ih_27 (i + 1) (by omega) (by omega)); show [_, _, _, _, _, _] = [_, _, _, _, _, _]; rw [z_set_no (P := fun c => c_agr h pl mo p (z_and (c : Int) (h (pl + 2) (h (mo + 1) p)))) (n := i) c_44]; rfl)
  exact lp_27 _ 0 (Nat.lt_succ_self _) (by decide)
set_option maxHeartbeats 4000000 in
set_option maxRecDepth 100000 in
theorem ct_X8_mostAlike {h : z_H} {pl mo : Int} (hS : c_Sc h pl mo) {s t k : Int} (hs0 : 0 ≤ s) (hs1 : s < 2097152) (h0 : 0 ≤ t) (h1 : t < 84) (h2 : 0 ≤ k) (h3 : k < 8) : z_Ct mX8_mostAlike 107 [(2, 34), (2, 3), (0, s), (0, t), (0, k)] h (z_pure (0, c_most h pl mo s t k) h) := by
  refine z_mk (L := [(2, 34), (2, 3), (0, s), (0, t), (0, k), (9, 0), (9, 0)]) oX8_mostAlike.2.2.2.2 (Nat.le_of_ble_eq_true rfl) rfl ?_
  intro Γ X hQ
  obtain ⟨r30, r31, r42, ⟨kp, rp0, rp1, kp1, kp2, hw, hh, hs, hgl, hpi⟩, ⟨km, rm0, km1, hbr, hmi, hse, hbf⟩⟩ := id hS
  have g1 := c_own_rng (t := t) (k := k) hS
  have g2 := c_mir_rng (t := t) (k := k) hS
  have hpp := z_pop_rng s
  have b1 := c_bitOf_rng s (c_own h pl mo t k)
  have b2 := c_bitOf_rng s (c_mir h pl mo t k)
  have hli := c_light_rng (t := t) (k := k) hS
  refine V_iload_n (pc := 0) X dX8_mostAlike_0 rfl ?_
  refine V_FS (pc := 1) X dX8_mostAlike_1 oJ6_bitCount_0f7a4 l_RX8_68 sJ6_bitCount_0f7a4 ⟨Nat.le_of_ble_eq_true rfl, Nat.le_of_ble_eq_true rfl⟩ ⟨rfl, rfl⟩ ⟨Nat.le_of_ble_eq_true rfl, Nat.le_of_ble_eq_true rfl⟩ (ct_J6_bitCount_0f7a4 (by omega) (by omega)) rfl (by rfl) (by exact Nat.le_of_ble_eq_true rfl) ?_
  refine V_istore (pc := 4) X dX8_mostAlike_4 (by exact Nat.le_of_ble_eq_true rfl) rfl ?_
  refine V_aload_n (pc := 6) X dX8_mostAlike_6 rfl (by first | decide | omega | assumption) ?_
  refine V_iload_n (pc := 7) X dX8_mostAlike_7 rfl ?_
  refine V_iload (pc := 8) X dX8_mostAlike_8 rfl ?_
  refine V_FV (pc := 10) X dX8_mostAlike_10 oX5_lightOf l_RX8_74 eX5_lightOf vX5_lightOf ⟨Nat.le_of_ble_eq_true rfl, Nat.le_of_ble_eq_true rfl⟩ ⟨rfl, rfl⟩ ⟨Nat.le_of_ble_eq_true rfl, Nat.le_of_ble_eq_true rfl⟩ (ct_X5_lightOf hS (by omega) (by omega) (by omega) (by omega)) rfl (by first | rfl | assumption | (simp only [*]; done) | omega) (by intro q h; cases h; rfl) rfl (by rfl) (by exact Nat.le_of_ble_eq_true rfl) ?_
  refine V_bipush (pc := 13) X dX8_mostAlike_13 (by decide) ?_
  refine V_icmp_ne (pc := 15) X 21 dX8_mostAlike_15 (by decide) ⟨by omega, by omega⟩ ⟨by omega, by omega⟩ (fun c_15 => ?_) (fun c_15 => ?_)
  · skip
    refine V_aload_n (pc := 21) X dX8_mostAlike_21 rfl (by first | decide | omega | assumption) ?_
    refine V_iload_n (pc := 22) X dX8_mostAlike_22 rfl ?_
    refine V_aload_n (pc := 23) X dX8_mostAlike_23 rfl (by first | decide | omega | assumption) ?_
    refine V_iload_n (pc := 24) X dX8_mostAlike_24 rfl ?_
    refine V_iload (pc := 25) X dX8_mostAlike_25 rfl ?_
    refine V_FV (pc := 27) X dX8_mostAlike_27 oX5_paneByItself l_RX8_78 eX5_paneByItself vX5_paneByItself ⟨Nat.le_of_ble_eq_true rfl, Nat.le_of_ble_eq_true rfl⟩ ⟨rfl, rfl⟩ ⟨Nat.le_of_ble_eq_true rfl, Nat.le_of_ble_eq_true rfl⟩ (ct_X5_paneByItself hS (by omega) (by omega) (by omega) (by omega)) rfl (by first | rfl | assumption | (simp only [*]; done) | omega) (by intro q h; cases h; rfl) rfl (by rfl) (by exact Nat.le_of_ble_eq_true rfl) ?_
    refine V_FV (pc := 30) X dX8_mostAlike_30 oX8_bitOf l_RX8_81 eX8_bitOf vX8_bitOf ⟨Nat.le_of_ble_eq_true rfl, Nat.le_of_ble_eq_true rfl⟩ ⟨rfl, rfl⟩ ⟨Nat.le_of_ble_eq_true rfl, Nat.le_of_ble_eq_true rfl⟩ (ct_X8_bitOf (by omega) (by omega) ⟨by omega, by omega⟩) rfl (by first | rfl | assumption | (simp only [*]; done) | omega) (by intro q h; cases h; rfl) rfl (by rfl) (by exact Nat.le_of_ble_eq_true rfl) ?_
    refine V_aload_n (pc := 33) X dX8_mostAlike_33 rfl (by first | decide | omega | assumption) ?_
    refine V_iload_n (pc := 34) X dX8_mostAlike_34 rfl ?_
    refine V_aload_n (pc := 35) X dX8_mostAlike_35 rfl (by first | decide | omega | assumption) ?_
    refine V_iload_n (pc := 36) X dX8_mostAlike_36 rfl ?_
    refine V_iload (pc := 37) X dX8_mostAlike_37 rfl ?_
    refine V_FV (pc := 39) X dX8_mostAlike_39 oX5_paneByMirror l_RX8_84 eX5_paneByMirror vX5_paneByMirror ⟨Nat.le_of_ble_eq_true rfl, Nat.le_of_ble_eq_true rfl⟩ ⟨rfl, rfl⟩ ⟨Nat.le_of_ble_eq_true rfl, Nat.le_of_ble_eq_true rfl⟩ (ct_X5_paneByMirror hS (by omega) (by omega) (by omega) (by omega)) rfl (by first | rfl | assumption | (simp only [*]; done) | omega) (by intro q h; cases h; rfl) rfl (by rfl) (by exact Nat.le_of_ble_eq_true rfl) ?_
    refine V_FV (pc := 42) X dX8_mostAlike_42 oX8_bitOf l_RX8_81 eX8_bitOf vX8_bitOf ⟨Nat.le_of_ble_eq_true rfl, Nat.le_of_ble_eq_true rfl⟩ ⟨rfl, rfl⟩ ⟨Nat.le_of_ble_eq_true rfl, Nat.le_of_ble_eq_true rfl⟩ (ct_X8_bitOf (by omega) (by omega) ⟨by omega, by omega⟩) rfl (by first | rfl | assumption | (simp only [*]; done) | omega) (by intro q h; cases h; rfl) rfl (by rfl) (by exact Nat.le_of_ble_eq_true rfl) ?_
    refine V_iadd (pc := 45) X dX8_mostAlike_45 ?_
    refine V_istore (pc := 46) X dX8_mostAlike_46 (by exact Nat.le_of_ble_eq_true rfl) rfl ?_
    refine V_iload (pc := 48) X dX8_mostAlike_48 rfl ?_
    refine V_iload (pc := 50) X dX8_mostAlike_50 rfl ?_
    refine V_iload (pc := 52) X dX8_mostAlike_52 rfl ?_
    refine V_isub (pc := 54) X dX8_mostAlike_54 ?_
    refine V_mmax (pc := 55) X dX8_mostAlike_55 lm_RX8_87 ⟨Nat.le_of_ble_eq_true rfl, Nat.le_of_ble_eq_true rfl⟩ ⟨Nat.le_of_ble_eq_true rfl, Nat.le_of_ble_eq_true rfl⟩ ⟨by omega, by omega⟩ ⟨by omega, by omega⟩ ?_
    refine V_iret (st := []) (pc := 58) X hQ dX8_mostAlike_58 rfl rfl ?_
    exact z_pi (by unfold c_most c_clr; first | rw [if_pos c_15] | rw [if_neg c_15])
  · skip
    refine V_iload (pc := 18) X dX8_mostAlike_18 rfl ?_
    refine V_iret (st := []) (pc := 20) X hQ dX8_mostAlike_20 rfl rfl ?_
    exact z_pi (by unfold c_most c_clr; first | rw [if_pos c_15] | rw [if_neg c_15])
set_option maxHeartbeats 4000000 in
set_option maxRecDepth 100000 in
theorem ct_X8_bestPlace {h : z_H} {pl mo : Int} (hS : c_Sc h pl mo) {s : Int} (hs0 : 0 ≤ s) (hs1 : s < 2097152) : z_Ct mX8_bestPlace 107 [(2, 34), (2, 3), (0, s)] h (z_pure (0, if s = 0 then -9 else (c_best h pl mo s 672).1) h) := by
  refine z_mk (L := [(2, 34), (2, 3), (0, s), (9, 0), (9, 0), (9, 0), (9, 0)]) oX8_bestPlace.2.2.2.2 (Nat.le_of_ble_eq_true rfl) rfl ?_
  intro Γ X hQ
  obtain ⟨r30, r31, r42, ⟨kp, rp0, rp1, kp1, kp2, hw, hh, hs, hgl, hpi⟩, ⟨km, rm0, km1, hbr, hmi, hse, hbf⟩⟩ := id hS
  refine V_iload_n (pc := 0) X dX8_bestPlace_0 rfl ?_
  refine V_if_ne (pc := 1) X 7 dX8_bestPlace_1 (by decide) ⟨by omega, by omega⟩ (fun c_1 => ?_) (fun c_1 => ?_)
  · skip
    refine V_bipush (pc := 7) X dX8_bestPlace_7 (by decide) ?_
    refine V_istore_n (pc := 9) X dX8_bestPlace_9 (by exact Nat.le_of_ble_eq_true rfl) rfl ?_
    refine V_bipush (pc := 10) X dX8_bestPlace_10 (by decide) ?_
    refine V_istore (pc := 12) X dX8_bestPlace_12 (by exact Nat.le_of_ble_eq_true rfl) rfl ?_
    refine V_iconst (pc := 14) X dX8_bestPlace_14 ?_
    refine V_istore (pc := 15) X dX8_bestPlace_15 (by exact Nat.le_of_ble_eq_true rfl) rfl ?_
    have lp_17 : ∀ (m : Nat) (i : Nat), 672 - i < m → i ≤ 672 → z_V Γ (107, 0, 0) 17 [(2, 34), (2, 3), (0, s), (0, (c_best h pl mo s i).1), (0, (c_best h pl mo s i).2), (0, (i : Int)), (9, 0)] [] h := by
      intro m
      induction m with
      | zero => intro i hm; exact absurd hm (Nat.not_lt_zero _)
      | succ m ih_17 =>
        intro i hm hi1
        have hbr2 := c_best_rng h pl mo s i hi1
        have hmr := c_most_rng h pl mo s ((i : Int) / 8) ((i : Int) % 8)
        refine V_iload (pc := 17) X dX8_bestPlace_17 rfl ?_
        refine V_sipush (pc := 19) X dX8_bestPlace_19 (by decide) ?_
        refine V_icmp_ge (pc := 22) X 63 dX8_bestPlace_22 (by decide) ⟨by omega, by omega⟩ ⟨by omega, by omega⟩ (fun c_22 => ?_) (fun c_22 => ?_)
        · skip
          refine V_iload_n (pc := 63) X dX8_bestPlace_63 rfl ?_
          refine V_iret (st := []) (pc := 64) X hQ dX8_bestPlace_64 rfl rfl ?_
          exact z_pi (by (obtain rfl : i = 672 := by omega); rw [if_neg c_1])
        · skip
          refine V_aload_n (pc := 25) X dX8_bestPlace_25 rfl (by first | decide | omega | assumption) ?_
          refine V_aload_n (pc := 26) X dX8_bestPlace_26 rfl (by first | decide | omega | assumption) ?_
          refine V_iload_n (pc := 27) X dX8_bestPlace_27 rfl ?_
          refine V_iload (pc := 28) X dX8_bestPlace_28 rfl ?_
          refine V_bipush (pc := 30) X dX8_bestPlace_30 (by decide) ?_
          refine V_idivN (pc := 32) X dX8_bestPlace_32 (by omega) (by omega) (by omega) (by omega) ?_
          refine V_iload (pc := 33) X dX8_bestPlace_33 rfl ?_
          refine V_bipush (pc := 35) X dX8_bestPlace_35 (by decide) ?_
          refine V_iremN (pc := 37) X dX8_bestPlace_37 (by omega) (by omega) (by omega) (by omega) ?_
          refine V_FV (pc := 38) X dX8_bestPlace_38 oX8_mostAlike l_RX8_64 eX8_mostAlike vX8_mostAlike ⟨Nat.le_of_ble_eq_true rfl, Nat.le_of_ble_eq_true rfl⟩ ⟨rfl, rfl⟩ ⟨Nat.le_of_ble_eq_true rfl, Nat.le_of_ble_eq_true rfl⟩ (ct_X8_mostAlike hS (by omega) (by omega) (by omega) (by omega) (by omega) (by omega)) rfl (by first | rfl | assumption | (simp only [*]; done) | omega) (by intro q h; cases h; rfl) rfl (by rfl) (by exact Nat.le_of_ble_eq_true rfl) ?_
          refine V_istore (pc := 41) X dX8_bestPlace_41 (by exact Nat.le_of_ble_eq_true rfl) rfl ?_
          refine V_iload (pc := 43) X dX8_bestPlace_43 rfl ?_
          refine V_iload (pc := 45) X dX8_bestPlace_45 rfl ?_
          refine V_icmp_ge (pc := 47) X 57 dX8_bestPlace_47 (by decide) ⟨by omega, by omega⟩ ⟨by omega, by omega⟩ (fun c_47 => ?_) (fun c_47 => ?_)
          · skip
            refine V_iinc (pc := 57) X dX8_bestPlace_57 rfl rfl ?_
            refine V_goto (pc := 60) X 17 dX8_bestPlace_60 (by decide) ?_
            refine V_fgt 6 (V_loc ?_ (ih_17 (i + 1) (by omega) (by omega)))
            show [_, _, _, _, _, _, _] = [_, _, _, _, _, _, _]
            first
              | (rw [show c_best h pl mo s (i + 1) = c_best h pl mo s i from z_amin_no (Or.inr c_47)]; rfl)
              | (rw [show c_best h pl mo s (i + 1) = _ from z_amin_yes rfl (Int.not_le.mp c_47)]; rfl)
          · skip
            refine V_iload (pc := 50) X dX8_bestPlace_50 rfl ?_
            refine V_istore (pc := 52) X dX8_bestPlace_52 (by exact Nat.le_of_ble_eq_true rfl) rfl ?_
            refine V_iload (pc := 54) X dX8_bestPlace_54 rfl ?_
            refine V_istore_n (pc := 56) X dX8_bestPlace_56 (by exact Nat.le_of_ble_eq_true rfl) rfl ?_
            refine V_iinc (pc := 57) X dX8_bestPlace_57 rfl rfl ?_
            refine V_goto (pc := 60) X 17 dX8_bestPlace_60 (by decide) ?_
            refine V_fgt 6 (V_loc ?_ (ih_17 (i + 1) (by omega) (by omega)))
            show [_, _, _, _, _, _, _] = [_, _, _, _, _, _, _]
            first
              | (rw [show c_best h pl mo s (i + 1) = c_best h pl mo s i from z_amin_no (Or.inr c_47)]; rfl)
              | (rw [show c_best h pl mo s (i + 1) = _ from z_amin_yes rfl (Int.not_le.mp c_47)]; rfl)
    exact lp_17 _ 0 (Nat.lt_succ_self _) (by decide)
  · skip
    refine V_bipush (pc := 4) X dX8_bestPlace_4 (by decide) ?_
    refine V_iret (st := []) (pc := 6) X hQ dX8_bestPlace_6 rfl rfl ?_
    exact z_pi (by rw [if_pos c_1])
set_option maxHeartbeats 4000000 in
set_option maxRecDepth 100000 in
theorem ct_X8_add {h : z_H} (hI : c_Wi h) {a c : Int} : z_Ct mX8_add 107 [(2, 34), (0, a), (0, c)] h (fun r h2 => r = some (0, if h 34 2 < 6 then 1 else 0) ∧ h2 = if h 34 2 < 6 then c_seen h a c else h) := by
  refine z_mk (L := [(2, 34), (0, a), (0, c)]) oX8_add.2.2.2.2 (Nat.le_of_ble_eq_true rfl) rfl ?_
  intro Γ X hQ
  obtain ⟨r340, r341, hsn, hpc⟩ := id hI
  refine V_aload_n (pc := 0) X dX8_add_0 rfl (by first | decide | omega | assumption) ?_
  refine V_gz (pc := 1) X dX8_add_1 f_RX8_18 (by first | rfl | assumption | (simp only [*]; done) | omega) 2 rfl rfl ?_
  refine V_bipush (pc := 4) X dX8_add_4 (by decide) ?_
  refine V_icmp_lt (pc := 6) X 11 dX8_add_6 (by decide) ⟨by omega, by omega⟩ ⟨by omega, by omega⟩ (fun c_6 => ?_) (fun c_6 => ?_)
  · skip
    refine V_aload_n (pc := 11) X dX8_add_11 rfl (by first | decide | omega | assumption) ?_
    refine V_gz (pc := 12) X dX8_add_12 f_RX8_11 (by first | rfl | assumption | (simp only [*]; done) | omega) 0 rfl r340 ?_
    refine V_aload_n (pc := 15) X dX8_add_15 rfl (by first | decide | omega | assumption) ?_
    refine V_gz (pc := 16) X dX8_add_16 f_RX8_18 (by first | rfl | assumption | (simp only [*]; done) | omega) 2 rfl rfl ?_
    refine V_iload_n (pc := 19) X dX8_add_19 rfl ?_
    refine V_iast (pc := 20) X dX8_add_20 (by first | rfl | assumption | (simp only [*]; done) | omega) (by omega) (by omega) (by decide) ?_
    refine V_aload_n (pc := 21) X dX8_add_21 rfl (by first | decide | omega | assumption) ?_
    refine V_gz (pc := 22) X dX8_add_22 f_RX8_15 (by first | rfl | assumption | (simp only [*]; done) | omega) 1 rfl r341 ?_
    refine V_aload_n (pc := 25) X dX8_add_25 rfl (by first | decide | omega | assumption) ?_
    refine V_gz (pc := 26) X dX8_add_26 f_RX8_18 (by first | rfl | assumption | (simp only [*]; done) | omega) 2 rfl (show _ = h 34 2 from rfl) ?_
    refine V_iload_n (pc := 29) X dX8_add_29 rfl ?_
    refine V_iast (pc := 30) X dX8_add_30 (by first | rfl | assumption | (simp only [*]; done) | omega) (by omega) (by omega) (by decide) ?_
    refine V_aload_n (pc := 31) X dX8_add_31 rfl (by first | decide | omega | assumption) ?_
    refine V_dup (pc := 32) X dX8_add_32 (Nat.ne_of_beq_eq_false rfl) ?_
    refine V_gz (pc := 33) X dX8_add_33 f_RX8_18 (by first | rfl | assumption | (simp only [*]; done) | omega) 2 rfl (show _ = h 34 2 from rfl) ?_
    refine V_iconst (pc := 36) X dX8_add_36 ?_
    refine V_iadd (pc := 37) X dX8_add_37 ?_
    refine V_pz (pc := 38) X dX8_add_38 f_RX8_18 (by first | rfl | assumption | (simp only [*]; done) | omega) (fun b => z_fitI b _) 2 rfl ?_
    refine V_iconst (pc := 41) X dX8_add_41 ?_
    refine V_zret (st := []) (pc := 42) X hQ dX8_add_42 rfl (by omega) rfl ?_
    exact ⟨by rw [if_pos (by omega)], by rw [if_pos (by omega)]; rfl⟩
  · skip
    refine V_iconst (pc := 9) X dX8_add_9 ?_
    refine V_zret (st := []) (pc := 10) X hQ dX8_add_10 rfl (by omega) rfl ?_
    exact ⟨by rw [if_neg (by omega)], by rw [if_neg (by omega)]⟩
