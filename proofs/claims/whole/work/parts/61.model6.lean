/-! PaneLightModel, 6: suspects, glasses -/
set_option maxHeartbeats 4000000 in
set_option maxRecDepth 100000 in
theorem ct_X10_suspects {h : z_H} (hO : r_Ob h) (hP : r_Pl h) (hT : r_Mt (h 92)) (hG : r_Sg h) : z_Ct mX10_suspects 107 [(2, 89)] h (fun r h2 => ∃ A : Int → Int, r = some (0, ((r_sus h : Nat) : Int)) ∧ h2 = z_rw h 93 A) := by
  refine z_mk (L := [(2, 89), (9, 0), (9, 0)]) oX10_suspects.2.2.2.2 (Nat.le_of_ble_eq_true rfl) rfl ?_
  intro Γ X hQ
  obtain ⟨rb2, rb3, rb5, rb6, rb7, rb9, rb10, rb11, rb12, rb13, rb15, rb25, rb26, rb30, rb31, rb32, rb33⟩ := id hO
  obtain ⟨⟨hw1, hw2⟩, ⟨hh1, hh2⟩, ⟨hs1, hs2⟩, hgl, hco⟩ := id hP
  obtain ⟨tw, ⟨tb1, tb2⟩, ⟨tm1, tm2⟩, ⟨ts1, ts2⟩⟩ := id hT
  have kc : z_kd 107 92 = (1, 11) := rfl
  obtain ⟨⟨sg1, sg2⟩, hsg⟩ := id hG
  refine V_iconst (pc := 0) X dX10_suspects_0 ?_
  refine V_istore_n (pc := 1) X dX10_suspects_1 (by exact Nat.le_of_ble_eq_true rfl) rfl ?_
  refine V_iconst (pc := 2) X dX10_suspects_2 ?_
  refine V_istore_n (pc := 3) X dX10_suspects_3 (by exact Nat.le_of_ble_eq_true rfl) rfl ?_
  have lp_4 : ∀ (m : Nat) (i : Nat) (A : Int → Int), 21 - i < m → i ≤ 21 → z_V Γ (107, 0, 0) 4 [(2, 89), (0, ((z_set (r_susP h) i : Nat) : Int)), (0, (i : Int))] [] (z_rw h 93 A) := by
    intro m
    induction m with
    | zero => intro i A hm; exact absurd hm (Nat.not_lt_zero _)
    | succ m ih_4 =>
      intro i A hm hi1
      have hOA : r_Ob (z_rw h 93 A) := hO.rw_ (by decide)
      have hPA : r_Pl (z_rw h 93 A) := hP.rw_ (by decide) (by decide) (by decide)
      have hTA : r_Mt ((z_rw h 93 A) 92) := by rw [z_rw_ne _ _ (by decide)]; exact hT
      have hmA : r_may (z_rw h 93 A) (i : Int) = r_may h (i : Int) := by unfold r_may r_isP; rw [z_rw_ne _ _ (show (89 : Int) ≠ 93 by decide), z_rw_ne _ _ (show (92 : Int) ≠ 93 by decide)]
      refine V_iload_n (pc := 4) X dX10_suspects_4 rfl ?_
      refine V_bipush (pc := 5) X dX10_suspects_5 (by decide) ?_
      refine V_icmp_ge (pc := 7) X 50 dX10_suspects_7 (by decide) ⟨by omega, by omega⟩ ⟨by omega, by omega⟩ (fun c_7 => ?_) (fun c_7 => ?_)
      · skip
        refine V_iload_n (pc := 50) X dX10_suspects_50 rfl ?_
        refine V_iret (st := []) (pc := 51) X hQ dX10_suspects_51 rfl rfl ?_
        exact ⟨A, by (obtain rfl : i = 21 := by omega); rfl, rfl⟩
      · skip
        refine V_aload_n (pc := 10) X dX10_suspects_10 rfl (by first | decide | omega | assumption) ?_
        refine V_iload_n (pc := 11) X dX10_suspects_11 rfl ?_
        refine V_FV (pc := 12) X dX10_suspects_12 oX10_mayBe l_RX10_269 eX10_mayBe vX10_mayBe ⟨Nat.le_of_ble_eq_true rfl, Nat.le_of_ble_eq_true rfl⟩ ⟨rfl, rfl⟩ ⟨Nat.le_of_ble_eq_true rfl, Nat.le_of_ble_eq_true rfl⟩ (ct_X10_mayBe hOA hPA hTA (by omega) (by omega)) rfl (by first | rfl | assumption | (simp only [*]; done) | omega) (by intro q h; cases h; rfl) rfl (by rfl) (by exact Nat.le_of_ble_eq_true rfl) ?_
        refine V_bif_eq (pc := 15) X 44 dX10_suspects_15 (by decide)  (fun c_15 => ?_) (fun c_15 => ?_)
        · skip
          refine V_iinc (pc := 44) X dX10_suspects_44 rfl rfl ?_
          refine V_goto (pc := 47) X 4 dX10_suspects_47 (by decide) ?_
          first
            | (refine V_loc ?_ (ih_4 (i + 1) _ (by omega) (by omega)); show [_, _, _] = [_, _, _]; rw [z_set_no (P := r_susP h) (n := i) (by unfold r_susP; rw [← hmA, c_15]; rfl)]; rfl)
            | (refine V_loc ?_ (ih_4 (i + 1) _ (by omega) (by omega)); show [_, _, _] = [_, _, _]; rw [← z_set_or (P := r_susP h) (n := i) (by omega) (by unfold r_susP; rw [← hmA, c_15, ← hso, c_32]; rfl)]; rfl)
            | (refine V_loc ?_ (ih_4 (i + 1) _ (by omega) (by omega)); show [_, _, _] = [_, _, _]; rw [z_set_no (P := r_susP h) (n := i) (by unfold r_susP; rw [← hmA, c_15, ← hso, c_32]; rfl), z_or_0 (by have := z_set_lt (r_susP h) i; have h2 : (2 : Nat) ^ i ≤ 2 ^ 21 := Nat.pow_le_pow_right (by decide) (by omega); omega)]; rfl)
        · skip
          refine V_aload_n (pc := 18) X dX10_suspects_18 rfl (by first | decide | omega | assumption) ?_
          refine V_iload_n (pc := 19) X dX10_suspects_19 rfl ?_
          refine V_CV (pc := 20) X dX10_suspects_20 oX10_layBroken l_RX10_272 eX10_layBroken vX10_layBroken ⟨Nat.le_of_ble_eq_true rfl, Nat.le_of_ble_eq_true rfl⟩ ⟨rfl, rfl⟩ ⟨Nat.le_of_ble_eq_true rfl, Nat.le_of_ble_eq_true rfl⟩ (ct_X10_layBroken hOA hPA hTA (by omega) (by omega)) rfl (by first | rfl | assumption | (simp only [*]; done) | omega) (by intro q h; cases h; rfl) rfl (by rfl) (by exact Nat.le_of_ble_eq_true rfl) (fun r h1 hp => ?_)
          obtain ⟨rfl, rfl⟩ := hp
          rw [show r_lb (z_rw h 93 A) (i : Int) = z_rw h 93 (r_lbT (z_rw h 93 A) (i : Int)) from z_rw_twice _ _ _ _]
          have hOB : r_Ob (z_rw h 93 (r_lbT (z_rw h 93 A) (i : Int))) := hO.rw_ (by decide)
          have hPB : r_Pl (z_rw h 93 (r_lbT (z_rw h 93 A) (i : Int))) := hP.rw_ (by decide) (by decide) (by decide)
          have hTB : r_Mt (z_rw h 93 (r_lbT (z_rw h 93 A) (i : Int)) 93) := by rw [z_rw_at]; exact r_lbT_mt hTA (by omega)
          have hGB : r_Sg (z_rw h 93 (r_lbT (z_rw h 93 A) (i : Int))) := by unfold r_Sg; rw [z_rw_ne _ _ (show (89 : Int) ≠ 93 by decide), z_rw_ne _ _ (show (99 : Int) ≠ 93 by decide)]; exact hG
          have hso : r_so (z_rw h 93 (r_lbT (z_rw h 93 A) (i : Int))) (z_rw h 93 (r_lbT (z_rw h 93 A) (i : Int)) 93) = r_so h (r_brP (h 92) (i : Int)) := by rw [z_rw_at]; exact r_so_cg (r_Same.rw93 h _) hP (r_lbT_te h A (i : Int)) (by rw [z_rw_ne _ _ (by decide)]) (z_rw_ne _ _ (by decide))
          refine V_iload_n (pc := 23) X dX10_suspects_23 rfl ?_
          refine V_aload_n (pc := 24) X dX10_suspects_24 rfl (by first | decide | omega | assumption) ?_
          refine V_aload_n (pc := 25) X dX10_suspects_25 rfl (by first | decide | omega | assumption) ?_
          refine V_gz (pc := 26) X dX10_suspects_26 f_RX10_26 (by first | rfl | assumption | (simp only [*]; done) | omega) 6 rfl (show _ = (93 : Int) from by first | exact rb6 | ((repeat (first | rw [z_st_at] | rw [z_st_slot _ (by decide)] | rw [z_st_cell _ (by decide)] | rw [z_rw_ne _ _ (by decide)] | rw [r_rem_s (by decide)] | rw [r_rem_c (by decide) (by decide)] | rw [r_cp_ne (by decide)])); exact rb6)) ?_
          refine V_FV (pc := 29) X dX10_suspects_29 oX10_isSo l_RX10_275 eX10_isSo vX10_isSo ⟨Nat.le_of_ble_eq_true rfl, Nat.le_of_ble_eq_true rfl⟩ ⟨rfl, rfl⟩ ⟨Nat.le_of_ble_eq_true rfl, Nat.le_of_ble_eq_true rfl⟩ (ct_X10_isSo hOB hPB rfl hTB hGB) rfl (by first | rfl | assumption | (simp only [*]; done) | omega) (by intro q h; cases h; rfl) rfl (by rfl) (by exact Nat.le_of_ble_eq_true rfl) ?_
          refine V_bif_eq (pc := 32) X 41 dX10_suspects_32 (by decide)  (fun c_32 => ?_) (fun c_32 => ?_)
          · skip
            refine V_iconst (pc := 41) X dX10_suspects_41 ?_
            refine V_ior (pc := 42) X dX10_suspects_42 ?_
            refine V_istore_n (pc := 43) X dX10_suspects_43 (by exact Nat.le_of_ble_eq_true rfl) rfl ?_
            refine V_iinc (pc := 44) X dX10_suspects_44 rfl rfl ?_
            refine V_goto (pc := 47) X 4 dX10_suspects_47 (by decide) ?_
            first
              | (refine V_loc ?_ (ih_4 (i + 1) _ (by omega) (by omega)); show [_, _, _] = [_, _, _]; rw [z_set_no (P := r_susP h) (n := i) (by unfold r_susP; rw [← hmA, c_15]; rfl)]; rfl)
              | (refine V_loc ?_ (ih_4 (i + 1) _ (by omega) (by omega)); show [_, _, _] = [_, _, _]; rw [← z_set_or (P := r_susP h) (n := i) (by omega) (by unfold r_susP; rw [← hmA, c_15, ← hso, c_32]; rfl)]; rfl)
              | (refine V_loc ?_ (ih_4 (i + 1) _ (by omega) (by omega)); show [_, _, _] = [_, _, _]; rw [z_set_no (P := r_susP h) (n := i) (by unfold r_susP; rw [← hmA, c_15, ← hso, c_32]; rfl), z_or_0 (by have := z_set_lt (r_susP h) i; have h2 : (2 : Nat) ^ i ≤ 2 ^ 21 := Nat.pow_le_pow_right (by decide) (by omega); omega)]; rfl)
          · skip
            refine V_iconst (pc := 35) X dX10_suspects_35 ?_
            refine V_iload_n (pc := 36) X dX10_suspects_36 rfl ?_
            refine V_ishl (pc := 37) X dX10_suspects_37 ?_
            refine V_goto (pc := 38) X 42 dX10_suspects_38 (by decide) ?_
            refine V_ior (pc := 42) X dX10_suspects_42 ?_
            refine V_istore_n (pc := 43) X dX10_suspects_43 (by exact Nat.le_of_ble_eq_true rfl) rfl ?_
            refine V_iinc (pc := 44) X dX10_suspects_44 rfl rfl ?_
            refine V_goto (pc := 47) X 4 dX10_suspects_47 (by decide) ?_
            first
              | (refine V_loc ?_ (ih_4 (i + 1) _ (by omega) (by omega)); show [_, _, _] = [_, _, _]; rw [z_set_no (P := r_susP h) (n := i) (by unfold r_susP; rw [← hmA, c_15]; rfl)]; rfl)
              | (refine V_loc ?_ (ih_4 (i + 1) _ (by omega) (by omega)); show [_, _, _] = [_, _, _]; rw [← z_set_or (P := r_susP h) (n := i) (by omega) (by unfold r_susP; rw [← hmA, c_15, ← hso, c_32]; rfl)]; rfl)
              | (refine V_loc ?_ (ih_4 (i + 1) _ (by omega) (by omega)); show [_, _, _] = [_, _, _]; rw [z_set_no (P := r_susP h) (n := i) (by unfold r_susP; rw [← hmA, c_15, ← hso, c_32]; rfl), z_or_0 (by have := z_set_lt (r_susP h) i; have h2 : (2 : Nat) ^ i ≤ 2 ^ 21 := Nat.pow_le_pow_right (by decide) (by omega); omega)]; rfl)
  refine V_heap (h' := z_rw h 93 (h 93)) (z_rw_same h 93).symm ?_
  exact lp_4 _ 0 (h 93) (Nat.lt_succ_self _) (by decide)
set_option maxHeartbeats 4000000 in
set_option maxRecDepth 100000 in
theorem ct_X10_glasses {h : z_H} (hO : r_Ob h) (hP : r_Pl h) (hT : r_Mt (h 92)) (hG : r_Sg h) {x y : Int} (hx : z_R x) (hy : z_R y) : z_Ct mX10_glasses 107 [(2, 89), (0, x), (0, y)] h (fun r h2 => (r_isP h x y = false ∧ r = some (0, -1) ∧ h2 = h) ∨ (r_isP h x y = true ∧ ∃ A : Int → Int, r = some (0, ((r_gls h (4 * x + y) : Nat) : Int)) ∧ h2 = z_rw h 93 A)) := by
  refine z_mk (L := [(2, 89), (0, x), (0, y), (9, 0), (9, 0), (9, 0), (9, 0)]) oX10_glasses.2.2.2.2 (Nat.le_of_ble_eq_true rfl) rfl ?_
  intro Γ X hQ
  obtain ⟨rb2, rb3, rb5, rb6, rb7, rb9, rb10, rb11, rb12, rb13, rb15, rb25, rb26, rb30, rb31, rb32, rb33⟩ := id hO
  obtain ⟨⟨hw1, hw2⟩, ⟨hh1, hh2⟩, ⟨hs1, hs2⟩, hgl, hco⟩ := id hP
  obtain ⟨tw, ⟨tb1, tb2⟩, ⟨tm1, tm2⟩, ⟨ts1, ts2⟩⟩ := id hT
  have kc : z_kd 107 92 = (1, 11) := rfl
  obtain ⟨⟨sg1, sg2⟩, hsg⟩ := id hG
  obtain ⟨hx1, hx2⟩ := hx
  obtain ⟨hy1, hy2⟩ := hy
  refine V_aload_n (pc := 0) X dX10_glasses_0 rfl (by first | decide | omega | assumption) ?_
  refine V_iload_n (pc := 1) X dX10_glasses_1 rfl ?_
  refine V_iload_n (pc := 2) X dX10_glasses_2 rfl ?_
  refine V_FV (pc := 3) X dX10_glasses_3 oX10_isPane l_RX10_183 eX10_isPane vX10_isPane ⟨Nat.le_of_ble_eq_true rfl, Nat.le_of_ble_eq_true rfl⟩ ⟨rfl, rfl⟩ ⟨Nat.le_of_ble_eq_true rfl, Nat.le_of_ble_eq_true rfl⟩ (ct_X10_isPane hO hP ⟨by omega, by omega⟩ ⟨by omega, by omega⟩) rfl (by first | rfl | assumption | (simp only [*]; done) | omega) (by intro q h; cases h; rfl) rfl (by rfl) (by exact Nat.le_of_ble_eq_true rfl) ?_
  refine V_bif_ne (pc := 6) X 11 dX10_glasses_6 (by decide)  (fun c_6 => ?_) (fun c_6 => ?_)
  · skip
    have qp := of_decide_eq_true c_6
    refine V_iconst (pc := 11) X dX10_glasses_11 ?_
    refine V_iload_n (pc := 12) X dX10_glasses_12 rfl ?_
    refine V_imul (pc := 13) X dX10_glasses_13 ?_
    refine V_iload_n (pc := 14) X dX10_glasses_14 rfl ?_
    refine V_iadd (pc := 15) X dX10_glasses_15 ?_
    refine V_istore_n (pc := 16) X dX10_glasses_16 (by exact Nat.le_of_ble_eq_true rfl) rfl ?_
    refine V_aload_n (pc := 17) X dX10_glasses_17 rfl (by first | decide | omega | assumption) ?_
    refine V_gz (pc := 18) X dX10_glasses_18 f_RX10_23 (by first | rfl | assumption | (simp only [*]; done) | omega) 5 rfl (show _ = (92 : Int) from by first | exact rb5 | ((repeat (first | rw [z_st_at] | rw [z_st_slot _ (by decide)] | rw [z_st_cell _ (by decide)] | rw [z_rw_ne _ _ (by decide)] | rw [r_rem_s (by decide)] | rw [r_rem_c (by decide) (by decide)] | rw [r_cp_ne (by decide)])); exact rb5)) ?_
    refine V_iconst (pc := 21) X dX10_glasses_21 ?_
    refine V_aload_n (pc := 22) X dX10_glasses_22 rfl (by first | decide | omega | assumption) ?_
    refine V_gz (pc := 23) X dX10_glasses_23 f_RX10_26 (by first | rfl | assumption | (simp only [*]; done) | omega) 6 rfl (show _ = (93 : Int) from by first | exact rb6 | ((repeat (first | rw [z_st_at] | rw [z_st_slot _ (by decide)] | rw [z_st_cell _ (by decide)] | rw [z_rw_ne _ _ (by decide)] | rw [r_rem_s (by decide)] | rw [r_rem_c (by decide) (by decide)] | rw [r_cp_ne (by decide)])); exact rb6)) ?_
    refine V_iconst (pc := 26) X dX10_glasses_26 ?_
    refine V_bipush (pc := 27) X dX10_glasses_27 (by decide) ?_
    refine V_CS (pc := 29) X dX10_glasses_29 oX10_copies l_RX10_162 sX10_copies ⟨Nat.le_of_ble_eq_true rfl, Nat.le_of_ble_eq_true rfl⟩ ⟨rfl, rfl⟩ ⟨Nat.le_of_ble_eq_true rfl, Nat.le_of_ble_eq_true rfl⟩ (ct_X10_copies (NA := 11) (NB := 11) rfl rfl (by decide) (by decide) (by decide) (by decide) (by decide) (by decide) (by decide) (by decide)) rfl (by rfl) (by exact Nat.le_of_ble_eq_true rfl) (fun r h1 hp => ?_)
    obtain ⟨rfl, rfl⟩ := hp
    rw [r_cp_asd]
    refine V_aload_n (pc := 32) X dX10_glasses_32 rfl (by first | decide | omega | assumption) ?_
    refine V_gz (pc := 33) X dX10_glasses_33 f_RX10_26 (by first | rfl | assumption | (simp only [*]; done) | omega) 6 rfl (show _ = (93 : Int) from by first | exact rb6 | ((repeat (first | rw [z_st_at] | rw [z_st_slot _ (by decide)] | rw [z_st_cell _ (by decide)] | rw [z_rw_ne _ _ (by decide)] | rw [r_rem_s (by decide)] | rw [r_rem_c (by decide) (by decide)] | rw [r_cp_ne (by decide)])); exact rb6)) ?_
    refine V_bipush (pc := 36) X dX10_glasses_36 (by decide) ?_
    refine V_dup2 (pc := 38) X dX10_glasses_38 (Nat.ne_of_beq_eq_false rfl) (Nat.ne_of_beq_eq_false rfl) ?_
    refine V_iald (pc := 39) X dX10_glasses_39 (by first | rfl | assumption | (simp only [*]; done) | omega) (by omega) (by omega) (by decide) ?_
    rw [z_rw_at]
    refine V_iconst (pc := 40) X dX10_glasses_40 ?_
    refine V_iload_n (pc := 41) X dX10_glasses_41 rfl ?_
    refine V_ishl (pc := 42) X dX10_glasses_42 ?_
    refine V_iconst (pc := 43) X dX10_glasses_43 ?_
    refine V_ixor (pc := 44) X dX10_glasses_44 ?_
    refine V_iand (pc := 45) X dX10_glasses_45 ?_
    refine V_iast (pc := 46) X dX10_glasses_46 (by first | rfl | assumption | (simp only [*]; done) | omega) (by omega) (by omega) (by decide) ?_
    rw [z_rw_st]
    refine V_heap (h' := z_rw h 93 (r_mnR (r_asd h) (4 * x + y))) rfl ?_
    refine V_aload_n (pc := 47) X dX10_glasses_47 rfl (by first | decide | omega | assumption) ?_
    refine V_gz (pc := 48) X dX10_glasses_48 f_RX10_16 (by first | rfl | assumption | (simp only [*]; done) | omega) 2 rfl (show _ = (90 : Int) from by first | exact rb2 | ((repeat (first | rw [z_st_at] | rw [z_st_slot _ (by decide)] | rw [z_st_cell _ (by decide)] | rw [z_rw_ne _ _ (by decide)] | rw [r_rem_s (by decide)] | rw [r_rem_c (by decide) (by decide)] | rw [r_cp_ne (by decide)])); exact rb2)) ?_
    refine V_iload_n (pc := 51) X dX10_glasses_51 rfl ?_
    refine V_iald (pc := 52) X dX10_glasses_52 (by first | rfl | assumption | (simp only [*]; done) | omega) (by omega) (by omega) (by decide) ?_
    rw [z_rw_ne _ _ (show (90 : Int) ≠ 93 by decide)]
    refine V_istore (pc := 53) X dX10_glasses_53 (by exact Nat.le_of_ble_eq_true rfl) rfl ?_
    refine V_iconst (pc := 55) X dX10_glasses_55 ?_
    refine V_istore (pc := 56) X dX10_glasses_56 (by exact Nat.le_of_ble_eq_true rfl) rfl ?_
    refine V_iconst (pc := 58) X dX10_glasses_58 ?_
    refine V_istore (pc := 59) X dX10_glasses_59 (by exact Nat.le_of_ble_eq_true rfl) rfl ?_
    have lp_61 : ∀ (m : Nat) (i : Nat) (v : Int), 8 - i < m → i ≤ 8 → z_V Γ (107, 0, 0) 61 [(2, 89), (0, x), (0, y), (0, (4 * x + y)), (0, h 90 (4 * x + y)), (0, ((z_set (fun c : Nat => r_so (z_st h 90 (4 * x + y) (c : Int)) (r_mnR (h 92) (4 * x + y))) i : Nat) : Int)), (0, (i : Int))] [] (z_st (z_rw h 93 (r_mnR (r_asd h) (4 * x + y))) 90 (4 * x + y) v) := by
      intro m
      induction m with
      | zero => intro i v hm; exact absurd hm (Nat.not_lt_zero _)
      | succ m ih_61 =>
        intro i v hm hi1
        refine V_iload (pc := 61) X dX10_glasses_61 rfl ?_
        refine V_bipush (pc := 63) X dX10_glasses_63 (by decide) ?_
        refine V_icmp_ge (pc := 65) X 106 dX10_glasses_65 (by decide) ⟨by omega, by omega⟩ ⟨by omega, by omega⟩ (fun c_65 => ?_) (fun c_65 => ?_)
        · skip
          refine V_aload_n (pc := 106) X dX10_glasses_106 rfl (by first | decide | omega | assumption) ?_
          refine V_gz (pc := 107) X dX10_glasses_107 f_RX10_16 (by first | rfl | assumption | (simp only [*]; done) | omega) 2 rfl (show _ = (90 : Int) from by first | exact rb2 | ((repeat (first | rw [z_st_at] | rw [z_st_slot _ (by decide)] | rw [z_st_cell _ (by decide)] | rw [z_rw_ne _ _ (by decide)] | rw [r_rem_s (by decide)] | rw [r_rem_c (by decide) (by decide)] | rw [r_cp_ne (by decide)])); exact rb2)) ?_
          refine V_iload_n (pc := 110) X dX10_glasses_110 rfl ?_
          refine V_iload (pc := 111) X dX10_glasses_111 rfl ?_
          refine V_iast (pc := 113) X dX10_glasses_113 (by first | rfl | assumption | (simp only [*]; done) | omega) (by omega) (by omega) (by decide) ?_
          rw [z_st_twice, z_st_same (z_rw h 93 (r_mnR (r_asd h) (4 * x + y))) (show z_rw h 93 (r_mnR (r_asd h) (4 * x + y)) 90 (4 * x + y) = h 90 (4 * x + y) from by rw [z_rw_ne _ _ (by decide)])]
          refine V_iload (pc := 114) X dX10_glasses_114 rfl ?_
          refine V_iret (st := []) (pc := 116) X hQ dX10_glasses_116 rfl rfl ?_
          exact Or.inr ⟨c_6, (r_mnR (r_asd h) (4 * x + y)), by (obtain rfl : i = 8 := by omega); rfl, rfl⟩
        · skip
          refine V_aload_n (pc := 68) X dX10_glasses_68 rfl (by first | decide | omega | assumption) ?_
          refine V_gz (pc := 69) X dX10_glasses_69 f_RX10_16 (by first | rfl | assumption | (simp only [*]; done) | omega) 2 rfl (show _ = (90 : Int) from by first | exact rb2 | ((repeat (first | rw [z_st_at] | rw [z_st_slot _ (by decide)] | rw [z_st_cell _ (by decide)] | rw [z_rw_ne _ _ (by decide)] | rw [r_rem_s (by decide)] | rw [r_rem_c (by decide) (by decide)] | rw [r_cp_ne (by decide)])); exact rb2)) ?_
          refine V_iload_n (pc := 72) X dX10_glasses_72 rfl ?_
          refine V_iload (pc := 73) X dX10_glasses_73 rfl ?_
          refine V_iast (pc := 75) X dX10_glasses_75 (by first | rfl | assumption | (simp only [*]; done) | omega) (by omega) (by omega) (by decide) ?_
          rw [z_st_twice]
          have hOK : r_Ob (z_st (z_rw h 93 (r_mnR (r_asd h) (4 * x + y))) 90 (4 * x + y) (i : Int)) := (hO.rw_ (by decide)).st (Or.inl (by decide))
          have hPK : r_Pl (z_st (z_rw h 93 (r_mnR (r_asd h) (4 * x + y))) 90 (4 * x + y) (i : Int)) := (hP.rw_ (by decide) (by decide) (by decide)).gl ⟨by omega, by omega⟩
          have hKr : (z_st (z_rw h 93 (r_mnR (r_asd h) (4 * x + y))) 90 (4 * x + y) (i : Int)) 93 = (r_mnR (r_asd h) (4 * x + y)) := by rw [z_st_cell _ (by decide), z_rw_at]
          have hTK : r_Mt ((z_st (z_rw h 93 (r_mnR (r_asd h) (4 * x + y))) 90 (4 * x + y) (i : Int)) 93) := by rw [hKr]; exact (r_asd_mt hT).at8 (z_andnot_20 (r_asd_mt hT).2.1.1 (r_asd_mt hT).2.1.2)
          have hGK : r_Sg (z_st (z_rw h 93 (r_mnR (r_asd h) (4 * x + y))) 90 (4 * x + y) (i : Int)) := by unfold r_Sg; rw [z_st_cell _ (show (89 : Int) ≠ 90 by decide), z_st_cell _ (show (99 : Int) ≠ 90 by decide), z_rw_ne _ _ (show (89 : Int) ≠ 93 by decide), z_rw_ne _ _ (show (99 : Int) ≠ 93 by decide)]; exact hG
          have hso : r_so (z_st (z_rw h 93 (r_mnR (r_asd h) (4 * x + y))) 90 (4 * x + y) (i : Int)) ((z_st (z_rw h 93 (r_mnR (r_asd h) (4 * x + y))) 90 (4 * x + y) (i : Int)) 93) = r_so (z_st h 90 (4 * x + y) (i : Int)) (r_mnR (h 92) (4 * x + y)) := by
            rw [hKr]
            exact r_so_cg (r_Same.gl h _ _ _) (hP.gl ⟨by omega, by omega⟩) (r_mnR_te (r_asd_te h) _) (by rw [z_st_cell _ (by decide), z_st_cell _ (by decide), z_rw_ne _ _ (by decide)]) (by rw [z_st_cell _ (by decide), z_st_cell _ (by decide), z_rw_ne _ _ (by decide)])
          refine V_iload (pc := 76) X dX10_glasses_76 rfl ?_
          refine V_aload_n (pc := 78) X dX10_glasses_78 rfl (by first | decide | omega | assumption) ?_
          refine V_aload_n (pc := 79) X dX10_glasses_79 rfl (by first | decide | omega | assumption) ?_
          refine V_gz (pc := 80) X dX10_glasses_80 f_RX10_26 (by first | rfl | assumption | (simp only [*]; done) | omega) 6 rfl (show _ = (93 : Int) from by first | exact rb6 | ((repeat (first | rw [z_st_at] | rw [z_st_slot _ (by decide)] | rw [z_st_cell _ (by decide)] | rw [z_rw_ne _ _ (by decide)] | rw [r_rem_s (by decide)] | rw [r_rem_c (by decide) (by decide)] | rw [r_cp_ne (by decide)])); exact rb6)) ?_
          refine V_FV (pc := 83) X dX10_glasses_83 oX10_isSo l_RX10_275 eX10_isSo vX10_isSo ⟨Nat.le_of_ble_eq_true rfl, Nat.le_of_ble_eq_true rfl⟩ ⟨rfl, rfl⟩ ⟨Nat.le_of_ble_eq_true rfl, Nat.le_of_ble_eq_true rfl⟩ (ct_X10_isSo hOK hPK rfl hTK hGK) rfl (by first | rfl | assumption | (simp only [*]; done) | omega) (by intro q h; cases h; rfl) rfl (by rfl) (by exact Nat.le_of_ble_eq_true rfl) ?_
          refine V_bif_eq (pc := 86) X 96 dX10_glasses_86 (by decide)  (fun c_86 => ?_) (fun c_86 => ?_)
          · skip
            refine V_iconst (pc := 96) X dX10_glasses_96 ?_
            refine V_ior (pc := 97) X dX10_glasses_97 ?_
            refine V_istore (pc := 98) X dX10_glasses_98 (by exact Nat.le_of_ble_eq_true rfl) rfl ?_
            refine V_iinc (pc := 100) X dX10_glasses_100 rfl rfl ?_
            refine V_goto (pc := 103) X 61 dX10_glasses_103 (by decide) ?_
            first
              | (refine V_loc ?_ (ih_61 (i + 1) _ (by omega) (by omega)); show [_, _, _, _, _, _, _] = [_, _, _, _, _, _, _]; rw [← z_set_or (P := (fun c : Nat => r_so (z_st h 90 (4 * x + y) (c : Int)) (r_mnR (h 92) (4 * x + y)))) (n := i) (by omega) (by rw [← hso]; exact c_86)]; rfl)
              | (refine V_loc ?_ (ih_61 (i + 1) _ (by omega) (by omega)); show [_, _, _, _, _, _, _] = [_, _, _, _, _, _, _]; rw [z_set_no (P := (fun c : Nat => r_so (z_st h 90 (4 * x + y) (c : Int)) (r_mnR (h 92) (4 * x + y)))) (n := i) (by rw [← hso]; exact c_86), z_or_0 (by have := z_set_lt (fun c : Nat => r_so (z_st h 90 (4 * x + y) (c : Int)) (r_mnR (h 92) (4 * x + y))) i; have h2 : (2 : Nat) ^ i ≤ 2 ^ 8 := Nat.pow_le_pow_right (by decide) (by omega); omega)]; rfl)
          · skip
            refine V_iconst (pc := 89) X dX10_glasses_89 ?_
            refine V_iload (pc := 90) X dX10_glasses_90 rfl ?_
            refine V_ishl (pc := 92) X dX10_glasses_92 ?_
            refine V_goto (pc := 93) X 97 dX10_glasses_93 (by decide) ?_
            refine V_ior (pc := 97) X dX10_glasses_97 ?_
            refine V_istore (pc := 98) X dX10_glasses_98 (by exact Nat.le_of_ble_eq_true rfl) rfl ?_
            refine V_iinc (pc := 100) X dX10_glasses_100 rfl rfl ?_
            refine V_goto (pc := 103) X 61 dX10_glasses_103 (by decide) ?_
            first
              | (refine V_loc ?_ (ih_61 (i + 1) _ (by omega) (by omega)); show [_, _, _, _, _, _, _] = [_, _, _, _, _, _, _]; rw [← z_set_or (P := (fun c : Nat => r_so (z_st h 90 (4 * x + y) (c : Int)) (r_mnR (h 92) (4 * x + y)))) (n := i) (by omega) (by rw [← hso]; exact c_86)]; rfl)
              | (refine V_loc ?_ (ih_61 (i + 1) _ (by omega) (by omega)); show [_, _, _, _, _, _, _] = [_, _, _, _, _, _, _]; rw [z_set_no (P := (fun c : Nat => r_so (z_st h 90 (4 * x + y) (c : Int)) (r_mnR (h 92) (4 * x + y)))) (n := i) (by rw [← hso]; exact c_86), z_or_0 (by have := z_set_lt (fun c : Nat => r_so (z_st h 90 (4 * x + y) (c : Int)) (r_mnR (h 92) (4 * x + y))) i; have h2 : (2 : Nat) ^ i ≤ 2 ^ 8 := Nat.pow_le_pow_right (by decide) (by omega); omega)]; rfl)
    refine V_heap (h' := z_st (z_rw h 93 (r_mnR (r_asd h) (4 * x + y))) 90 (4 * x + y) (h 90 (4 * x + y))) (z_st_same _ (by rw [z_rw_ne _ _ (by decide)])).symm ?_
    exact lp_61 _ 0 (h 90 (4 * x + y)) (Nat.lt_succ_self _) (by decide)
  · skip
    refine V_iconst (pc := 9) X dX10_glasses_9 ?_
    refine V_iret (st := []) (pc := 10) X hQ dX10_glasses_10 rfl rfl ?_
    exact Or.inl ⟨c_6, rfl, rfl⟩
