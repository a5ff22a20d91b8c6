/-! PaneLightModel, 12: parts, now -/
set_option maxHeartbeats 4000000 in
set_option maxRecDepth 100000 in
theorem ct_X10_parts {h : z_H} (hO : r_Ob h) (hP : r_Pl h) (hT : r_Mt (h 92)) {gb : Bool} : z_Ct mX10_parts 107 [(2, 89), (0, z_b gb)] h (z_ans (0, if gb = true then (r_pts h).2.2.2 else (r_pts h).2.2.1) (r_2 h (r_pts h).1 (r_pts h).2.1)) := by
  refine z_mk (L := [(2, 89), (0, z_b gb), (9, 0), (9, 0), (9, 0), (9, 0), (9, 0)]) oX10_parts.2.2.2.2 (Nat.le_of_ble_eq_true rfl) rfl ?_
  intro Γ X hQ
  obtain ⟨rb2, rb3, rb5, rb6, rb7, rb9, rb10, rb11, rb12, rb13, rb15, rb25, rb26, rb30, rb31, rb32, rb33⟩ := id hO
  obtain ⟨⟨hw1, hw2⟩, ⟨hh1, hh2⟩, ⟨hs1, hs2⟩, hgl, hco⟩ := id hP
  obtain ⟨tw, ⟨tb1, tb2⟩, ⟨tm1, tm2⟩, ⟨ts1, ts2⟩⟩ := id hT
  have kc : z_kd 107 92 = (1, 11) := rfl
  refine V_aload_n (pc := 0) X dX10_parts_0 rfl (by first | decide | omega | assumption) ?_
  refine V_CV (pc := 1) X dX10_parts_1 oX10_layColours l_RX10_219 eX10_layColours vX10_layColours ⟨Nat.le_of_ble_eq_true rfl, Nat.le_of_ble_eq_true rfl⟩ ⟨rfl, rfl⟩ ⟨Nat.le_of_ble_eq_true rfl, Nat.le_of_ble_eq_true rfl⟩ (ct_X10_layColours hO hP hT) rfl (by first | rfl | assumption | (simp only [*]; done) | omega) (by intro q h; cases h; rfl) rfl (by rfl) (by exact Nat.le_of_ble_eq_true rfl) (fun r h1 hp => ?_)
  obtain ⟨rfl, rfl⟩ := hp
  refine V_iconst (pc := 4) X dX10_parts_4 ?_
  refine V_istore_n (pc := 5) X dX10_parts_5 (by exact Nat.le_of_ble_eq_true rfl) (by first | rfl | ((repeat (refine z_nl_set ?_ (by first | exact (show (0 : Nat) ≠ 1 by decide) | exact (show (2 : Nat) ≠ 1 by decide)))); first | rfl | (simp [z_nl, hz5, hz6]; done) | (simp [z_nl, hw6z]; done) | (simp [z_nl, hz6]; done))) ?_
  refine V_iconst (pc := 6) X dX10_parts_6 ?_
  refine V_istore_n (pc := 7) X dX10_parts_7 (by exact Nat.le_of_ble_eq_true rfl) (by first | rfl | ((repeat (refine z_nl_set ?_ (by first | exact (show (0 : Nat) ≠ 1 by decide) | exact (show (2 : Nat) ≠ 1 by decide)))); first | rfl | (simp [z_nl, hz5, hz6]; done) | (simp [z_nl, hw6z]; done) | (simp [z_nl, hz6]; done))) ?_
  refine V_iconst (pc := 8) X dX10_parts_8 ?_
  refine V_istore (pc := 9) X dX10_parts_9 (by exact Nat.le_of_ble_eq_true rfl) (by first | rfl | ((repeat (refine z_nl_set ?_ (by first | exact (show (0 : Nat) ≠ 1 by decide) | exact (show (2 : Nat) ≠ 1 by decide)))); first | rfl | (simp [z_nl, hz5, hz6]; done) | (simp [z_nl, hw6z]; done) | (simp [z_nl, hz6]; done))) ?_
  have lp_11 : ∀ (m : Nat) (i : Nat) (z5 z6 : Nat × Int), (h 89 0).toNat - i < m → i ≤ (h 89 0).toNat → ¬ z5.1 = 1 → ¬ z6.1 = 1 → z_V Γ (107, 0, 0) 11 [(2, 89), (0, z_b gb), (0, (r_ptX h (r_pt0 h) i).2.2.1), (0, (r_ptX h (r_pt0 h) i).2.2.2), (0, (i : Int)), z5, z6] [] (r_2 h (r_ptX h (r_pt0 h) i).1 (r_ptX h (r_pt0 h) i).2.1) := by
    intro m
    induction m with
    | zero => intro i z5 z6 hm; exact absurd hm (Nat.not_lt_zero _)
    | succ m ih_11 =>
      intro i z5 z6 hm hi1 hz5 hz6
      have hxi : r_cI (r_ptX h (r_pt0 h) i) := r_ptX_ok hP (r_pt0_ok hP) i (by omega)
      refine V_iload (pc := 11) X dX10_parts_11 rfl ?_
      refine V_aload_n (pc := 13) X dX10_parts_13 rfl (by first | decide | omega | assumption) ?_
      refine V_gz (pc := 14) X dX10_parts_14 f_RX10_7 (by first | rfl | assumption | (simp only [*]; done) | omega) 0 rfl (show _ = h 89 0 from by rw [r_2_ne _ _ _ (by decide) (by decide)]) ?_
      refine V_icmp_ge (pc := 17) X 88 dX10_parts_17 (by decide) ⟨by omega, by omega⟩ ⟨by omega, by omega⟩ (fun c_17 => ?_) (fun c_17 => ?_)
      · skip
        obtain rfl : i = (h 89 0).toNat := by omega
        refine V_iload_n (pc := 88) X dX10_parts_88 rfl ?_
        refine V_bif_eq (pc := 89) X 96 dX10_parts_89 (by decide)  (fun c_89 => ?_) (fun c_89 => ?_)
        · skip
          refine V_iload_n (pc := 96) X dX10_parts_96 rfl ?_
          refine V_iret (st := []) (pc := 97) X hQ dX10_parts_97 rfl rfl ?_
          exact ⟨by first | (rw [if_pos c_89]; rfl) | (rw [if_neg (by rw [c_89]; decide)]; rfl), rfl⟩
        · skip
          refine V_iload_n (pc := 92) X dX10_parts_92 rfl ?_
          refine V_goto (pc := 93) X 97 dX10_parts_93 (by decide) ?_
          refine V_iret (st := []) (pc := 97) X hQ dX10_parts_97 rfl rfl ?_
          exact ⟨by first | (rw [if_pos c_89]; rfl) | (rw [if_neg (by rw [c_89]; decide)]; rfl), rfl⟩
      · skip
        refine V_iconst (pc := 20) X dX10_parts_20 ?_
        refine V_istore (pc := 21) X dX10_parts_21 (by exact Nat.le_of_ble_eq_true rfl) (by first | rfl | ((repeat (refine z_nl_set ?_ (by first | exact (show (0 : Nat) ≠ 1 by decide) | exact (show (2 : Nat) ≠ 1 by decide)))); first | rfl | (simp [z_nl, hz5, hz6]; done) | (simp [z_nl, hw6z]; done) | (simp [z_nl, hz6]; done))) ?_
        have lp_23 : ∀ (m : Nat) (j : Nat) (w6 : Nat × Int), (h 89 1).toNat - j < m → j ≤ (h 89 1).toNat → ¬ w6.1 = 1 → z_V Γ (107, 0, 0) 23 [(2, 89), (0, z_b gb), (0, (r_ptY h (i : Int) (r_ptX h (r_pt0 h) i) j).2.2.1), (0, (r_ptY h (i : Int) (r_ptX h (r_pt0 h) i) j).2.2.2), (0, (i : Int)), (0, (j : Int)), w6] [] (r_2 h (r_ptY h (i : Int) (r_ptX h (r_pt0 h) i) j).1 (r_ptY h (i : Int) (r_ptX h (r_pt0 h) i) j).2.1) := by
          intro m
          induction m with
          | zero => intro j w6 hm; exact absurd hm (Nat.not_lt_zero _)
          | succ m ih_23 =>
            intro j w6 hm hj1 hw6z
            have hti : r_cI (r_ptY h (i : Int) (r_ptX h (r_pt0 h) i) j) := r_ptY_ok hP hxi (by omega) (by omega) j (by omega)
            have htm := hti.2
            have hOT : r_Ob (r_2 h (r_ptY h (i : Int) (r_ptX h (r_pt0 h) i) j).1 (r_ptY h (i : Int) (r_ptX h (r_pt0 h) i) j).2.1) := r_2_ob hO _ _
            have hPT : r_Pl (r_2 h (r_ptY h (i : Int) (r_ptX h (r_pt0 h) i) j).1 (r_ptY h (i : Int) (r_ptX h (r_pt0 h) i) j).2.1) := r_2_pl hP _ _
            refine V_iload (pc := 23) X dX10_parts_23 rfl ?_
            refine V_aload_n (pc := 25) X dX10_parts_25 rfl (by first | decide | omega | assumption) ?_
            refine V_gz (pc := 26) X dX10_parts_26 f_RX10_13 (by first | rfl | assumption | (simp only [*]; done) | omega) 1 rfl (show _ = h 89 1 from by rw [r_2_ne _ _ _ (by decide) (by decide)]) ?_
            refine V_icmp_ge (pc := 29) X 82 dX10_parts_29 (by decide) ⟨by omega, by omega⟩ ⟨by omega, by omega⟩ (fun c_29 => ?_) (fun c_29 => ?_)
            · skip
              have enx : r_ptX h (r_pt0 h) (i + 1) = (r_ptY h (i : Int) (r_ptX h (r_pt0 h) i) j) := by
                show r_ptY h (i : Int) (r_ptX h (r_pt0 h) i) (h 89 1).toNat = _
                rw [show (h 89 1).toNat = j by omega]
              refine V_iinc (pc := 82) X dX10_parts_82 rfl (by first | rfl | ((repeat (refine z_nl_set ?_ (by first | exact (show (0 : Nat) ≠ 1 by decide) | exact (show (2 : Nat) ≠ 1 by decide)))); first | rfl | (simp [z_nl, hz5, hz6]; done) | (simp [z_nl, hw6z]; done) | (simp [z_nl, hz6]; done))) ?_
              refine V_goto (pc := 85) X 11 dX10_parts_85 (by decide) ?_
              refine V_loc ?_ (V_heap ?_ (ih_11 (i + 1) (0, (j : Int)) w6 (by omega) (by omega) (show ¬ (0 : Nat) = 1 by decide) hw6z))
              · show [_, _, _, _, _, _, _] = [_, _, _, _, _, _, _]
                rw [enx]
                rfl
              · rw [enx]
            · skip
              refine V_aload_n (pc := 32) X dX10_parts_32 rfl (by first | decide | omega | assumption) ?_
              refine V_gz (pc := 33) X dX10_parts_33 f_RX10_57 (by first | rfl | assumption | (simp only [*]; done) | omega) 30 rfl (show _ = (103 : Int) from by first | exact rb30 | (rw [r_2_ne _ _ _ (by decide) (by decide)]; exact rb30) | ((repeat (first | rw [z_st_at] | rw [z_st_slot _ (by decide)] | rw [z_st_cell _ (by decide)] | rw [z_rw_ne _ _ (by decide)] | rw [r_rem_s (by decide)] | rw [r_rem_c (by decide) (by decide)] | rw [r_cp_ne (by decide)])); exact rb30)) ?_
              refine V_iconst (pc := 36) X dX10_parts_36 ?_
              refine V_iload (pc := 37) X dX10_parts_37 rfl ?_
              refine V_imul (pc := 39) X dX10_parts_39 ?_
              refine V_iload (pc := 40) X dX10_parts_40 rfl ?_
              refine V_iadd (pc := 42) X dX10_parts_42 ?_
              have hpp := hti.1 (4 * (i : Int) + (j : Int)) (by omega) (by omega)
              refine V_iald (pc := 43) X dX10_parts_43 (by first | rfl | assumption | (simp only [*]; done) | omega) (by omega) (by omega) (by decide) ?_
              rw [r_2_3]
              refine V_if_lt (pc := 44) X 76 dX10_parts_44 (by decide) ⟨by omega, by omega⟩ (fun c_44 => ?_) (fun c_44 => ?_)
              · skip
                have ent2 : r_ptY h (i : Int) (r_ptX h (r_pt0 h) i) (j + 1) = (r_ptY h (i : Int) (r_ptX h (r_pt0 h) i) j) := by
                  show r_ptS h (4 * (i : Int) + (j : Int)) (r_ptY h (i : Int) (r_ptX h (r_pt0 h) i) j) = (r_ptY h (i : Int) (r_ptX h (r_pt0 h) i) j)
                  unfold r_ptS
                  rw [if_neg (by omega)]
                refine V_iinc (pc := 76) X dX10_parts_76 rfl (by first | rfl | ((repeat (refine z_nl_set ?_ (by first | exact (show (0 : Nat) ≠ 1 by decide) | exact (show (2 : Nat) ≠ 1 by decide)))); first | rfl | (simp [z_nl, hz5, hz6]; done) | (simp [z_nl, hw6z]; done) | (simp [z_nl, hz6]; done))) ?_
                refine V_goto (pc := 79) X 23 dX10_parts_79 (by decide) ?_
                first
                  | (refine V_loc ?_ (V_heap ?_ (ih_23 (j + 1) (0, (r_pf h (r_ptY h (i : Int) (r_ptX h (r_pt0 h) i) j).1 (r_ptY h (i : Int) (r_ptX h (r_pt0 h) i) j).2.1 (4 * (i : Int) + (j : Int))).2.2) (by omega) (by omega) (show ¬ (0 : Nat) = 1 by decide))); (show [_, _, _, _, _, _, _] = [_, _, _, _, _, _, _]; rw [ent]; rfl); (rw [ent]))
                  | (refine V_loc ?_ (V_heap ?_ (ih_23 (j + 1) w6 (by omega) (by omega) hw6z)); (show [_, _, _, _, _, _, _] = [_, _, _, _, _, _, _]; rw [ent2]; rfl); (rw [ent2]))
              · skip
                refine V_aload_n (pc := 47) X dX10_parts_47 rfl (by first | decide | omega | assumption) ?_
                refine V_iconst (pc := 48) X dX10_parts_48 ?_
                refine V_iload (pc := 49) X dX10_parts_49 rfl ?_
                refine V_imul (pc := 51) X dX10_parts_51 ?_
                refine V_iload (pc := 52) X dX10_parts_52 rfl ?_
                refine V_iadd (pc := 54) X dX10_parts_54 ?_
                refine V_CV (pc := 55) X dX10_parts_55 oX10_partFrom l_RX10_222 eX10_partFrom vX10_partFrom ⟨Nat.le_of_ble_eq_true rfl, Nat.le_of_ble_eq_true rfl⟩ ⟨rfl, rfl⟩ ⟨Nat.le_of_ble_eq_true rfl, Nat.le_of_ble_eq_true rfl⟩ (ct_X10_partFrom hOT hPT (by rw [r_2_3]; exact hti.1) (by omega) (by omega) (by rw [r_2_3]; omega)) rfl (by first | rfl | assumption | (simp only [*]; done) | omega) (by intro q h; cases h; rfl) rfl (by rfl) (by exact Nat.le_of_ble_eq_true rfl) (fun r h1 hp => ?_)
                obtain ⟨rfl, rfl⟩ := hp
                rw [r_pf_2, r_2_2]
                have hpf := (r_pf_ok hP (W := (r_ptY h (i : Int) (r_ptX h (r_pt0 h) i) j).2.1) hti.1 (p := (4 * (i : Int) + (j : Int))) (by omega) (by omega) (by omega)).rng
                have ent : r_ptY h (i : Int) (r_ptX h (r_pt0 h) i) (j + 1) = ((r_pf h (r_ptY h (i : Int) (r_ptX h (r_pt0 h) i) j).1 (r_ptY h (i : Int) (r_ptX h (r_pt0 h) i) j).2.1 (4 * (i : Int) + (j : Int))).1, (r_pf h (r_ptY h (i : Int) (r_ptX h (r_pt0 h) i) j).1 (r_ptY h (i : Int) (r_ptX h (r_pt0 h) i) j).2.1 (4 * (i : Int) + (j : Int))).2.1, (r_ptY h (i : Int) (r_ptX h (r_pt0 h) i) j).2.2.1 + 1, if (r_ptY h (i : Int) (r_ptX h (r_pt0 h) i) j).2.2.2 < (r_pf h (r_ptY h (i : Int) (r_ptX h (r_pt0 h) i) j).1 (r_ptY h (i : Int) (r_ptX h (r_pt0 h) i) j).2.1 (4 * (i : Int) + (j : Int))).2.2 then (r_pf h (r_ptY h (i : Int) (r_ptX h (r_pt0 h) i) j).1 (r_ptY h (i : Int) (r_ptX h (r_pt0 h) i) j).2.1 (4 * (i : Int) + (j : Int))).2.2 else (r_ptY h (i : Int) (r_ptX h (r_pt0 h) i) j).2.2.2) := by
                  show r_ptS h (4 * (i : Int) + (j : Int)) (r_ptY h (i : Int) (r_ptX h (r_pt0 h) i) j) = _
                  unfold r_ptS
                  rw [if_pos (by omega)]
                refine V_istore (pc := 58) X dX10_parts_58 (by exact Nat.le_of_ble_eq_true rfl) (by first | rfl | ((repeat (refine z_nl_set ?_ (by first | exact (show (0 : Nat) ≠ 1 by decide) | exact (show (2 : Nat) ≠ 1 by decide)))); first | rfl | (simp [z_nl, hz5, hz6]; done) | (simp [z_nl, hw6z]; done) | (simp [z_nl, hz6]; done))) ?_
                refine V_iinc (pc := 60) X dX10_parts_60 rfl (by first | rfl | ((repeat (refine z_nl_set ?_ (by first | exact (show (0 : Nat) ≠ 1 by decide) | exact (show (2 : Nat) ≠ 1 by decide)))); first | rfl | (simp [z_nl, hz5, hz6]; done) | (simp [z_nl, hw6z]; done) | (simp [z_nl, hz6]; done))) ?_
                refine V_iload (pc := 63) X dX10_parts_63 rfl ?_
                refine V_iload_n (pc := 65) X dX10_parts_65 rfl ?_
                refine V_icmp_le (pc := 66) X 74 dX10_parts_66 (by decide) ⟨by omega, by omega⟩ ⟨by omega, by omega⟩ (fun c_66 => ?_) (fun c_66 => ?_)
                · skip
                  rw [if_neg (Int.not_lt.mpr c_66)] at ent
                  refine V_iload_n (pc := 74) X dX10_parts_74 rfl ?_
                  refine V_istore_n (pc := 75) X dX10_parts_75 (by exact Nat.le_of_ble_eq_true rfl) (by first | rfl | ((repeat (refine z_nl_set ?_ (by first | exact (show (0 : Nat) ≠ 1 by decide) | exact (show (2 : Nat) ≠ 1 by decide)))); first | rfl | (simp [z_nl, hz5, hz6]; done) | (simp [z_nl, hw6z]; done) | (simp [z_nl, hz6]; done))) ?_
                  refine V_iinc (pc := 76) X dX10_parts_76 rfl (by first | rfl | ((repeat (refine z_nl_set ?_ (by first | exact (show (0 : Nat) ≠ 1 by decide) | exact (show (2 : Nat) ≠ 1 by decide)))); first | rfl | (simp [z_nl, hz5, hz6]; done) | (simp [z_nl, hw6z]; done) | (simp [z_nl, hz6]; done))) ?_
                  refine V_goto (pc := 79) X 23 dX10_parts_79 (by decide) ?_
                  first
                    | (refine V_loc ?_ (V_heap ?_ (ih_23 (j + 1) (0, (r_pf h (r_ptY h (i : Int) (r_ptX h (r_pt0 h) i) j).1 (r_ptY h (i : Int) (r_ptX h (r_pt0 h) i) j).2.1 (4 * (i : Int) + (j : Int))).2.2) (by omega) (by omega) (show ¬ (0 : Nat) = 1 by decide))); (show [_, _, _, _, _, _, _] = [_, _, _, _, _, _, _]; rw [ent]; rfl); (rw [ent]))
                    | (refine V_loc ?_ (V_heap ?_ (ih_23 (j + 1) w6 (by omega) (by omega) hw6z)); (show [_, _, _, _, _, _, _] = [_, _, _, _, _, _, _]; rw [ent2]; rfl); (rw [ent2]))
                · skip
                  rw [if_pos (Int.not_le.mp c_66)] at ent
                  refine V_iload (pc := 69) X dX10_parts_69 rfl ?_
                  refine V_goto (pc := 71) X 75 dX10_parts_71 (by decide) ?_
                  refine V_istore_n (pc := 75) X dX10_parts_75 (by exact Nat.le_of_ble_eq_true rfl) (by first | rfl | ((repeat (refine z_nl_set ?_ (by first | exact (show (0 : Nat) ≠ 1 by decide) | exact (show (2 : Nat) ≠ 1 by decide)))); first | rfl | (simp [z_nl, hz5, hz6]; done) | (simp [z_nl, hw6z]; done) | (simp [z_nl, hz6]; done))) ?_
                  refine V_iinc (pc := 76) X dX10_parts_76 rfl (by first | rfl | ((repeat (refine z_nl_set ?_ (by first | exact (show (0 : Nat) ≠ 1 by decide) | exact (show (2 : Nat) ≠ 1 by decide)))); first | rfl | (simp [z_nl, hz5, hz6]; done) | (simp [z_nl, hw6z]; done) | (simp [z_nl, hz6]; done))) ?_
                  refine V_goto (pc := 79) X 23 dX10_parts_79 (by decide) ?_
                  first
                    | (refine V_loc ?_ (V_heap ?_ (ih_23 (j + 1) (0, (r_pf h (r_ptY h (i : Int) (r_ptX h (r_pt0 h) i) j).1 (r_ptY h (i : Int) (r_ptX h (r_pt0 h) i) j).2.1 (4 * (i : Int) + (j : Int))).2.2) (by omega) (by omega) (show ¬ (0 : Nat) = 1 by decide))); (show [_, _, _, _, _, _, _] = [_, _, _, _, _, _, _]; rw [ent]; rfl); (rw [ent]))
                    | (refine V_loc ?_ (V_heap ?_ (ih_23 (j + 1) w6 (by omega) (by omega) hw6z)); (show [_, _, _, _, _, _, _] = [_, _, _, _, _, _, _]; rw [ent2]; rfl); (rw [ent2]))
        exact lp_23 _ 0 z6 (Nat.lt_succ_self _) (Nat.zero_le _) hz6
  refine V_heap (h' := r_2 h (r_lay h) (h 104)) (r_2_lay h _) ?_
  exact lp_11 _ 0 (9, 0) (9, 0) (Nat.lt_succ_self _) (Nat.zero_le _) (by decide) (by decide)
set_option maxHeartbeats 4000000 in
set_option maxRecDepth 100000 in
theorem ct_X10_now {h : z_H} (hO : r_Ob h) (hP : r_Pl h) (hT : r_Mt (h 92)) {w : Int} (hw9 : z_R w) : z_Ct mX10_now 107 [(2, 89), (0, w)] h (fun r h2 => ∃ P W : Int → Int, r = some (0, r_nowF h w) ∧ h2 = r_2 h P W) := by
  refine z_mk (L := [(2, 89), (0, w)]) oX10_now.2.2.2.2 (Nat.le_of_ble_eq_true rfl) rfl ?_
  intro Γ X hQ
  obtain ⟨rb2, rb3, rb5, rb6, rb7, rb9, rb10, rb11, rb12, rb13, rb15, rb25, rb26, rb30, rb31, rb32, rb33⟩ := id hO
  obtain ⟨⟨hw1, hw2⟩, ⟨hh1, hh2⟩, ⟨hs1, hs2⟩, hgl, hco⟩ := id hP
  obtain ⟨tw, ⟨tb1, tb2⟩, ⟨tm1, tm2⟩, ⟨ts1, ts2⟩⟩ := id hT
  have kc : z_kd 107 92 = (1, 11) := rfl
  obtain ⟨hwa, hwb⟩ := hw9
  refine V_iload_n (pc := 0) X dX10_now_0 rfl ?_
  rcases (show w = 0 ∨ w = 1 ∨ w = 2 ∨ w = 3 ∨ w = 4 ∨ w = 5 ∨ w = 6 ∨ (w < 0 ∨ 6 < w) by omega) with e_sw | e_sw | e_sw | e_sw | e_sw | e_sw | e_sw | e_sw
  · skip
    refine V_tswIn (pc := 1) X 44 dX10_now_1 e_sw ⟨by decide, by decide⟩ (by decide) (by decide) rfl (by decide) ?_
    refine V_aload_n (pc := 44) X dX10_now_44 rfl (by first | decide | omega | assumption) ?_
    refine V_gz (pc := 45) X dX10_now_45 f_RX10_23 (by first | rfl | assumption | (simp only [*]; done) | omega) 5 rfl (show _ = (92 : Int) from by first | exact rb5 | (rw [r_2_ne _ _ _ (by decide) (by decide)]; exact rb5) | ((repeat (first | rw [z_st_at] | rw [z_st_slot _ (by decide)] | rw [z_st_cell _ (by decide)] | rw [z_rw_ne _ _ (by decide)] | rw [r_rem_s (by decide)] | rw [r_rem_c (by decide) (by decide)] | rw [r_cp_ne (by decide)])); exact rb5)) ?_
    refine V_bipush (pc := 48) X dX10_now_48 (by decide) ?_
    refine V_iald (pc := 50) X dX10_now_50 (by first | rfl | assumption | (simp only [*]; done) | omega) (by omega) (by omega) (by decide) ?_
    refine V_iret (st := []) (pc := 51) X hQ dX10_now_51 rfl rfl ?_
    exact ⟨h 103, h 104, by subst e_sw; rfl, (r_2_self h).symm⟩
  · skip
    refine V_tswIn (pc := 1) X 52 dX10_now_1 e_sw ⟨by decide, by decide⟩ (by decide) (by decide) rfl (by decide) ?_
    refine V_aload_n (pc := 52) X dX10_now_52 rfl (by first | decide | omega | assumption) ?_
    refine V_gz (pc := 53) X dX10_now_53 f_RX10_23 (by first | rfl | assumption | (simp only [*]; done) | omega) 5 rfl (show _ = (92 : Int) from by first | exact rb5 | (rw [r_2_ne _ _ _ (by decide) (by decide)]; exact rb5) | ((repeat (first | rw [z_st_at] | rw [z_st_slot _ (by decide)] | rw [z_st_cell _ (by decide)] | rw [z_rw_ne _ _ (by decide)] | rw [r_rem_s (by decide)] | rw [r_rem_c (by decide) (by decide)] | rw [r_cp_ne (by decide)])); exact rb5)) ?_
    refine V_bipush (pc := 56) X dX10_now_56 (by decide) ?_
    refine V_iald (pc := 58) X dX10_now_58 (by first | rfl | assumption | (simp only [*]; done) | omega) (by omega) (by omega) (by decide) ?_
    refine V_iret (st := []) (pc := 59) X hQ dX10_now_59 rfl rfl ?_
    exact ⟨h 103, h 104, by subst e_sw; rfl, (r_2_self h).symm⟩
  · skip
    refine V_tswIn (pc := 1) X 60 dX10_now_1 e_sw ⟨by decide, by decide⟩ (by decide) (by decide) rfl (by decide) ?_
    refine V_aload_n (pc := 60) X dX10_now_60 rfl (by first | decide | omega | assumption) ?_
    refine V_gz (pc := 61) X dX10_now_61 f_RX10_23 (by first | rfl | assumption | (simp only [*]; done) | omega) 5 rfl (show _ = (92 : Int) from by first | exact rb5 | (rw [r_2_ne _ _ _ (by decide) (by decide)]; exact rb5) | ((repeat (first | rw [z_st_at] | rw [z_st_slot _ (by decide)] | rw [z_st_cell _ (by decide)] | rw [z_rw_ne _ _ (by decide)] | rw [r_rem_s (by decide)] | rw [r_rem_c (by decide) (by decide)] | rw [r_cp_ne (by decide)])); exact rb5)) ?_
    refine V_bipush (pc := 64) X dX10_now_64 (by decide) ?_
    refine V_iald (pc := 66) X dX10_now_66 (by first | rfl | assumption | (simp only [*]; done) | omega) (by omega) (by omega) (by decide) ?_
    refine V_iret (st := []) (pc := 67) X hQ dX10_now_67 rfl rfl ?_
    exact ⟨h 103, h 104, by subst e_sw; rfl, (r_2_self h).symm⟩
  · skip
    refine V_tswIn (pc := 1) X 68 dX10_now_1 e_sw ⟨by decide, by decide⟩ (by decide) (by decide) rfl (by decide) ?_
    refine V_aload_n (pc := 68) X dX10_now_68 rfl (by first | decide | omega | assumption) ?_
    refine V_aload_n (pc := 69) X dX10_now_69 rfl (by first | decide | omega | assumption) ?_
    refine V_gz (pc := 70) X dX10_now_70 f_RX10_23 (by first | rfl | assumption | (simp only [*]; done) | omega) 5 rfl (show _ = (92 : Int) from by first | exact rb5 | (rw [r_2_ne _ _ _ (by decide) (by decide)]; exact rb5) | ((repeat (first | rw [z_st_at] | rw [z_st_slot _ (by decide)] | rw [z_st_cell _ (by decide)] | rw [z_rw_ne _ _ (by decide)] | rw [r_rem_s (by decide)] | rw [r_rem_c (by decide) (by decide)] | rw [r_cp_ne (by decide)])); exact rb5)) ?_
    refine V_bipush (pc := 73) X dX10_now_73 (by decide) ?_
    refine V_FV (pc := 75) X dX10_now_75 oX10_sheetsAt l_RX10_175 eX10_sheetsAt vX10_sheetsAt ⟨Nat.le_of_ble_eq_true rfl, Nat.le_of_ble_eq_true rfl⟩ ⟨rfl, rfl⟩ ⟨Nat.le_of_ble_eq_true rfl, Nat.le_of_ble_eq_true rfl⟩ (ct_X10_sheetsAt hO hP kc hT (by omega) (by omega)) rfl (by first | rfl | assumption | (simp only [*]; done) | omega) (by intro q h; cases h; rfl) rfl (by rfl) (by exact Nat.le_of_ble_eq_true rfl) ?_
    refine V_iret (st := []) (pc := 78) X hQ dX10_now_78 rfl rfl ?_
    exact ⟨h 103, h 104, by subst e_sw; rfl, (r_2_self h).symm⟩
  · skip
    refine V_tswIn (pc := 1) X 79 dX10_now_1 e_sw ⟨by decide, by decide⟩ (by decide) (by decide) rfl (by decide) ?_
    refine V_aload_n (pc := 79) X dX10_now_79 rfl (by first | decide | omega | assumption) ?_
    refine V_CV (pc := 80) X dX10_now_80 oX10_leadsNow l_RX10_229 eX10_leadsNow vX10_leadsNow ⟨Nat.le_of_ble_eq_true rfl, Nat.le_of_ble_eq_true rfl⟩ ⟨rfl, rfl⟩ ⟨Nat.le_of_ble_eq_true rfl, Nat.le_of_ble_eq_true rfl⟩ (ct_X10_leadsNow hO hP hT) rfl (by first | rfl | assumption | (simp only [*]; done) | omega) (by intro q h; cases h; rfl) rfl (by rfl) (by exact Nat.le_of_ble_eq_true rfl) (fun r h1 hp => ?_)
    obtain ⟨rfl, rfl⟩ := hp
    rw [r_2_lay]
    refine V_iret (st := []) (pc := 83) X hQ dX10_now_83 rfl rfl ?_
    exact ⟨_, _, by subst e_sw; rfl, rfl⟩
  · skip
    refine V_tswIn (pc := 1) X 84 dX10_now_1 e_sw ⟨by decide, by decide⟩ (by decide) (by decide) rfl (by decide) ?_
    refine V_aload_n (pc := 84) X dX10_now_84 rfl (by first | decide | omega | assumption) ?_
    refine V_iconst (pc := 85) X dX10_now_85 ?_
    refine V_CV (pc := 86) X dX10_now_86 oX10_parts l_RX10_232 eX10_parts vX10_parts ⟨Nat.le_of_ble_eq_true rfl, Nat.le_of_ble_eq_true rfl⟩ ⟨rfl, rfl⟩ ⟨Nat.le_of_ble_eq_true rfl, Nat.le_of_ble_eq_true rfl⟩ (ct_X10_parts (gb := false) hO hP hT) rfl (by first | rfl | assumption | (simp only [*]; done) | omega) (by intro q h; cases h; rfl) rfl (by rfl) (by exact Nat.le_of_ble_eq_true rfl) (fun r h1 hp => ?_)
    obtain ⟨rfl, rfl⟩ := hp
    refine V_iret (st := []) (pc := 89) X hQ dX10_now_89 rfl rfl ?_
    exact ⟨_, _, by subst e_sw; rfl, rfl⟩
  · skip
    refine V_tswIn (pc := 1) X 90 dX10_now_1 e_sw ⟨by decide, by decide⟩ (by decide) (by decide) rfl (by decide) ?_
    refine V_aload_n (pc := 90) X dX10_now_90 rfl (by first | decide | omega | assumption) ?_
    refine V_iconst (pc := 91) X dX10_now_91 ?_
    refine V_CV (pc := 92) X dX10_now_92 oX10_parts l_RX10_232 eX10_parts vX10_parts ⟨Nat.le_of_ble_eq_true rfl, Nat.le_of_ble_eq_true rfl⟩ ⟨rfl, rfl⟩ ⟨Nat.le_of_ble_eq_true rfl, Nat.le_of_ble_eq_true rfl⟩ (ct_X10_parts (gb := true) hO hP hT) rfl (by first | rfl | assumption | (simp only [*]; done) | omega) (by intro q h; cases h; rfl) rfl (by rfl) (by exact Nat.le_of_ble_eq_true rfl) (fun r h1 hp => ?_)
    obtain ⟨rfl, rfl⟩ := hp
    refine V_iret (st := []) (pc := 95) X hQ dX10_now_95 rfl rfl ?_
    exact ⟨_, _, by subst e_sw; rfl, rfl⟩
  · skip
    refine V_tswOut (pc := 1) X 96 dX10_now_1 ⟨by omega, by omega⟩ e_sw (by decide) ?_
    refine V_iconst (pc := 96) X dX10_now_96 ?_
    refine V_iret (st := []) (pc := 97) X hQ dX10_now_97 rfl rfl ?_
    exact ⟨h 103, h 104, by unfold r_nowF; rw [if_neg (by omega), if_neg (by omega), if_neg (by omega), if_neg (by omega), if_neg (by omega), if_neg (by omega), if_neg (by omega)], (r_2_self h).symm⟩
