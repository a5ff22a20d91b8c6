/-! PaneLightModel, 11: parts -/
set_option maxHeartbeats 4000000 in
set_option maxRecDepth 100000 in
theorem ct_X10_partFrom {h : z_H} (hO : r_Ob h) (hP : r_Pl h) (hPt : r_Pt (h 103)) {p : Int} (h0 : 0 ≤ p) (h1 : p < 20) (hcol : 0 ≤ (h 103 p)) : z_Ct mX10_partFrom 107 [(2, 89), (0, p)] h (z_ans (0, (r_pf h (h 103) (h 104) p).2.2) (r_2 h (r_pf h (h 103) (h 104) p).1 (r_pf h (h 103) (h 104) p).2.1)) := by
  refine z_mk (L := [(2, 89), (0, p), (9, 0), (9, 0), (9, 0), (9, 0), (9, 0), (9, 0)]) oX10_partFrom.2.2.2.2 (Nat.le_of_ble_eq_true rfl) rfl ?_
  intro Γ X hQ
  obtain ⟨rb2, rb3, rb5, rb6, rb7, rb9, rb10, rb11, rb12, rb13, rb15, rb25, rb26, rb30, rb31, rb32, rb33⟩ := id hO
  obtain ⟨⟨hw1, hw2⟩, ⟨hh1, hh2⟩, ⟨hs1, hs2⟩, hgl, hco⟩ := id hP
  refine V_aload_n (pc := 0) X dX10_partFrom_0 rfl (by first | decide | omega | assumption) ?_
  refine V_gz (pc := 1) X dX10_partFrom_1 f_RX10_57 (by first | rfl | assumption | (simp only [*]; done) | omega) 30 rfl (show _ = (103 : Int) from by first | exact rb30 | (rw [r_2_ne _ _ _ (by decide) (by decide)]; exact rb30) | ((repeat (first | rw [z_st_at] | rw [z_st_slot _ (by decide)] | rw [z_st_cell _ (by decide)] | rw [z_rw_ne _ _ (by decide)] | rw [r_rem_s (by decide)] | rw [r_rem_c (by decide) (by decide)] | rw [r_cp_ne (by decide)])); exact rb30)) ?_
  refine V_iload_n (pc := 4) X dX10_partFrom_4 rfl ?_
  have hp0 := hPt p h0 h1
  refine V_iald (pc := 5) X dX10_partFrom_5 (by first | rfl | assumption | (simp only [*]; done) | omega) (by omega) (by omega) (by decide) ?_
  refine V_istore_n (pc := 6) X dX10_partFrom_6 (by exact Nat.le_of_ble_eq_true rfl) (by first | rfl | ((repeat (refine z_nl_set ?_ (by first | exact (show (0 : Nat) ≠ 1 by decide) | exact (show (2 : Nat) ≠ 1 by decide)))); first | rfl | (simp [z_nl, hz5, hz6, hz7]; done) | (simp [z_nl, hw6z, hw7z]; done) | (simp [z_nl, hz6, hz7]; done) | (simp [z_nl, hw7z]; done))) ?_
  refine V_iconst (pc := 7) X dX10_partFrom_7 ?_
  refine V_istore_n (pc := 8) X dX10_partFrom_8 (by exact Nat.le_of_ble_eq_true rfl) (by first | rfl | ((repeat (refine z_nl_set ?_ (by first | exact (show (0 : Nat) ≠ 1 by decide) | exact (show (2 : Nat) ≠ 1 by decide)))); first | rfl | (simp [z_nl, hz5, hz6, hz7]; done) | (simp [z_nl, hw6z, hw7z]; done) | (simp [z_nl, hz6, hz7]; done) | (simp [z_nl, hw7z]; done))) ?_
  refine V_aload_n (pc := 9) X dX10_partFrom_9 rfl (by first | decide | omega | assumption) ?_
  refine V_gz (pc := 10) X dX10_partFrom_10 f_RX10_60 (by first | rfl | assumption | (simp only [*]; done) | omega) 31 rfl (show _ = (104 : Int) from by first | exact rb31 | (rw [r_2_ne _ _ _ (by decide) (by decide)]; exact rb31) | ((repeat (first | rw [z_st_at] | rw [z_st_slot _ (by decide)] | rw [z_st_cell _ (by decide)] | rw [z_rw_ne _ _ (by decide)] | rw [r_rem_s (by decide)] | rw [r_rem_c (by decide) (by decide)] | rw [r_cp_ne (by decide)])); exact rb31)) ?_
  refine V_iconst (pc := 13) X dX10_partFrom_13 ?_
  refine V_iload_n (pc := 14) X dX10_partFrom_14 rfl ?_
  refine V_iast (pc := 15) X dX10_partFrom_15 (by first | rfl | assumption | (simp only [*]; done) | omega) (by omega) (by omega) (by decide) ?_
  refine V_heap (h' := r_2 h (h 103) (r_up (h 104) 0 p)) (by rw [← r_2_p4, r_2_self]) ?_
  refine V_aload_n (pc := 16) X dX10_partFrom_16 rfl (by first | decide | omega | assumption) ?_
  refine V_gz (pc := 17) X dX10_partFrom_17 f_RX10_57 (by first | rfl | assumption | (simp only [*]; done) | omega) 30 rfl (show _ = (103 : Int) from by first | exact rb30 | (rw [r_2_ne _ _ _ (by decide) (by decide)]; exact rb30) | ((repeat (first | rw [z_st_at] | rw [z_st_slot _ (by decide)] | rw [z_st_cell _ (by decide)] | rw [z_rw_ne _ _ (by decide)] | rw [r_rem_s (by decide)] | rw [r_rem_c (by decide) (by decide)] | rw [r_cp_ne (by decide)])); exact rb30)) ?_
  refine V_iload_n (pc := 20) X dX10_partFrom_20 rfl ?_
  refine V_iconst (pc := 21) X dX10_partFrom_21 ?_
  refine V_iast (pc := 22) X dX10_partFrom_22 (by first | rfl | assumption | (simp only [*]; done) | omega) (by omega) (by omega) (by decide) ?_
  rw [r_2_p3]
  refine V_iconst (pc := 23) X dX10_partFrom_23 ?_
  refine V_istore (pc := 24) X dX10_partFrom_24 (by exact Nat.le_of_ble_eq_true rfl) (by first | rfl | ((repeat (refine z_nl_set ?_ (by first | exact (show (0 : Nat) ≠ 1 by decide) | exact (show (2 : Nat) ≠ 1 by decide)))); first | rfl | (simp [z_nl, hz5, hz6, hz7]; done) | (simp [z_nl, hw6z, hw7z]; done) | (simp [z_nl, hz6, hz7]; done) | (simp [z_nl, hw7z]; done))) ?_
  have lp_26 : ∀ (m : Nat) (k : Nat) (s : r_B) (z5 z6 z7 : Nat × Int), 21 - k < m → k ≤ 20 → r_bI s → r_bK h (h 103 p) (21 - k) (k : Int) s = (r_pf h (h 103) (h 104) p) → ¬ z5.1 = 1 → ¬ z6.1 = 1 → ¬ z7.1 = 1 → z_V Γ (107, 0, 0) 26 [(2, 89), (0, p), (0, (h 103 p)), (0, s.2.2), (0, (k : Int)), z5, z6, z7] [] (r_2 h s.1 s.2.1) := by
    intro m
    induction m with
    | zero => intro k s z5 z6 z7 hm; exact absurd hm (Nat.not_lt_zero _)
    | succ m ih_26 =>
      intro k s z5 z6 z7 hm hk1 hsI heq hz5 hz6 hz7
      have hsr := hsI.rng
      rw [show 21 - k = (20 - k) + 1 by omega, r_bK] at heq
      refine V_iload (pc := 26) X dX10_partFrom_26 rfl ?_
      refine V_iload_n (pc := 28) X dX10_partFrom_28 rfl ?_
      refine V_icmp_ge (pc := 29) X 174 dX10_partFrom_29 (by decide) ⟨by omega, by omega⟩ ⟨by omega, by omega⟩ (fun c_29 => ?_) (fun c_29 => ?_)
      · skip
        refine V_iload_n (pc := 174) X dX10_partFrom_174 rfl ?_
        refine V_iret (st := []) (pc := 175) X hQ dX10_partFrom_175 rfl rfl ?_
        exact by rw [if_neg (by omega)] at heq; rw [← heq]; exact ⟨rfl, rfl⟩
      · skip
        refine V_iconst (pc := 32) X dX10_partFrom_32 ?_
        refine V_istore (pc := 33) X dX10_partFrom_33 (by exact Nat.le_of_ble_eq_true rfl) (by first | rfl | ((repeat (refine z_nl_set ?_ (by first | exact (show (0 : Nat) ≠ 1 by decide) | exact (show (2 : Nat) ≠ 1 by decide)))); first | rfl | (simp [z_nl, hz5, hz6, hz7]; done) | (simp [z_nl, hw6z, hw7z]; done) | (simp [z_nl, hz6, hz7]; done) | (simp [z_nl, hw7z]; done))) ?_
        have lp_35 : ∀ (m : Nat) (n : Nat) (w6 w7 : Nat × Int), 4 - n < m → n ≤ 4 → ¬ w6.1 = 1 → ¬ w7.1 = 1 → z_V Γ (107, 0, 0) 35 [(2, 89), (0, p), (0, (h 103 p)), (0, (r_bS h (h 103 p) (k : Int) s n).2.2), (0, (k : Int)), (0, (n : Int)), w6, w7] [] (r_2 h (r_bS h (h 103 p) (k : Int) s n).1 (r_bS h (h 103 p) (k : Int) s n).2.1) := by
          intro m
          induction m with
          | zero => intro n w6 w7 hm; exact absurd hm (Nat.not_lt_zero _)
          | succ m ih_35 =>
            intro n w6 w7 hm hn1 hw6z hw7z
            obtain ⟨hbs, hbl⟩ := r_bS_ok hP (col := (h 103 p)) (k := (k : Int)) hcol hsI n
            have hbr := hbs.rng
            have hwk := hbs.2.2.2 (k : Int) (by omega) (by omega)
            have hsx := r_sx_rng (n : Int)
            have hsy := r_sy_rng (n : Int)
            have hOS : r_Ob (r_2 h (r_bS h (h 103 p) (k : Int) s n).1 (r_bS h (h 103 p) (k : Int) s n).2.1) := r_2_ob hO _ _
            have hPS : r_Pl (r_2 h (r_bS h (h 103 p) (k : Int) s n).1 (r_bS h (h 103 p) (k : Int) s n).2.1) := r_2_pl hP _ _
            have hpt := hbs.1
            refine V_iload (pc := 35) X dX10_partFrom_35 rfl ?_
            refine V_iconst (pc := 37) X dX10_partFrom_37 ?_
            refine V_icmp_ge (pc := 38) X 168 dX10_partFrom_38 (by decide) ⟨by omega, by omega⟩ ⟨by omega, by omega⟩ (fun c_38 => ?_) (fun c_38 => ?_)
            · skip
              refine V_iinc (pc := 168) X dX10_partFrom_168 rfl (by first | rfl | ((repeat (refine z_nl_set ?_ (by first | exact (show (0 : Nat) ≠ 1 by decide) | exact (show (2 : Nat) ≠ 1 by decide)))); first | rfl | (simp [z_nl, hz5, hz6, hz7]; done) | (simp [z_nl, hw6z, hw7z]; done) | (simp [z_nl, hz6, hz7]; done) | (simp [z_nl, hw7z]; done))) ?_
              refine V_goto (pc := 171) X 26 dX10_partFrom_171 (by decide) ?_
              obtain rfl : n = 4 := by omega
              refine ih_26 (k + 1) _ (0, ((4 : Nat) : Int)) w6 w7 (by omega) (by omega) hbs ?_ (show ¬ (0 : Nat) = 1 by decide) hw6z hw7z
              rw [if_pos (by omega)] at heq
              rw [← heq, show 21 - (k + 1) = 20 - k by omega]
              rfl
            · skip
              refine V_aload_n (pc := 41) X dX10_partFrom_41 rfl (by first | decide | omega | assumption) ?_
              refine V_gz (pc := 42) X dX10_partFrom_42 f_RX10_60 (by first | rfl | assumption | (simp only [*]; done) | omega) 31 rfl (show _ = (104 : Int) from by first | exact rb31 | (rw [r_2_ne _ _ _ (by decide) (by decide)]; exact rb31) | ((repeat (first | rw [z_st_at] | rw [z_st_slot _ (by decide)] | rw [z_st_cell _ (by decide)] | rw [z_rw_ne _ _ (by decide)] | rw [r_rem_s (by decide)] | rw [r_rem_c (by decide) (by decide)] | rw [r_cp_ne (by decide)])); exact rb31)) ?_
              refine V_iload (pc := 45) X dX10_partFrom_45 rfl ?_
              refine V_iald (pc := 47) X dX10_partFrom_47 (by first | rfl | assumption | (simp only [*]; done) | omega) (by omega) (by omega) (by decide) ?_
              rw [r_2_4]
              refine V_iconst (pc := 48) X dX10_partFrom_48 ?_
              refine V_idivN (pc := 49) X dX10_partFrom_49 (by omega) (by omega) (by omega) (by omega) ?_
              refine V_joinS 70 (fun z => z = r_sx (n : Int)) (fun J => ?_) (fun z1 hz1 => ?_)
              · skip
                refine V_iload (pc := 50) X dX10_partFrom_50 rfl ?_
                refine V_if_ne (pc := 52) X 59 dX10_partFrom_52 (by decide) ⟨by omega, by omega⟩ (fun c_52 => ?_) (fun c_52 => ?_)
                · skip
                  refine V_iload (pc := 59) X dX10_partFrom_59 rfl ?_
                  refine V_iconst (pc := 61) X dX10_partFrom_61 ?_
                  refine V_icmp_ne (pc := 62) X 69 dX10_partFrom_62 (by decide) ⟨by omega, by omega⟩ ⟨by omega, by omega⟩ (fun c_62 => ?_) (fun c_62 => ?_)
                  · skip
                    refine V_iconst (pc := 69) X dX10_partFrom_69 ?_
                    exact J _ (by unfold r_sx; first | (rw [if_pos c_52]; done) | (rw [if_neg c_52, if_pos c_62]; done) | (rw [if_neg c_52, if_neg c_62]))
                  · skip
                    refine V_iconst (pc := 65) X dX10_partFrom_65 ?_
                    refine V_goto (pc := 66) X 70 dX10_partFrom_66 (by decide) ?_
                    exact J _ (by unfold r_sx; first | (rw [if_pos c_52]; done) | (rw [if_neg c_52, if_pos c_62]; done) | (rw [if_neg c_52, if_neg c_62]))
                · skip
                  refine V_iconst (pc := 55) X dX10_partFrom_55 ?_
                  refine V_goto (pc := 56) X 70 dX10_partFrom_56 (by decide) ?_
                  exact J _ (by unfold r_sx; first | (rw [if_pos c_52]; done) | (rw [if_neg c_52, if_pos c_62]; done) | (rw [if_neg c_52, if_neg c_62]))
              · skip
                subst hz1
                refine V_iadd (pc := 70) X dX10_partFrom_70 ?_
                refine V_istore (pc := 71) X dX10_partFrom_71 (by exact Nat.le_of_ble_eq_true rfl) (by first | rfl | ((repeat (refine z_nl_set ?_ (by first | exact (show (0 : Nat) ≠ 1 by decide) | exact (show (2 : Nat) ≠ 1 by decide)))); first | rfl | (simp [z_nl, hz5, hz6, hz7]; done) | (simp [z_nl, hw6z, hw7z]; done) | (simp [z_nl, hz6, hz7]; done) | (simp [z_nl, hw7z]; done))) ?_
                refine V_aload_n (pc := 73) X dX10_partFrom_73 rfl (by first | decide | omega | assumption) ?_
                refine V_gz (pc := 74) X dX10_partFrom_74 f_RX10_60 (by first | rfl | assumption | (simp only [*]; done) | omega) 31 rfl (show _ = (104 : Int) from by first | exact rb31 | (rw [r_2_ne _ _ _ (by decide) (by decide)]; exact rb31) | ((repeat (first | rw [z_st_at] | rw [z_st_slot _ (by decide)] | rw [z_st_cell _ (by decide)] | rw [z_rw_ne _ _ (by decide)] | rw [r_rem_s (by decide)] | rw [r_rem_c (by decide) (by decide)] | rw [r_cp_ne (by decide)])); exact rb31)) ?_
                refine V_iload (pc := 77) X dX10_partFrom_77 rfl ?_
                refine V_iald (pc := 79) X dX10_partFrom_79 (by first | rfl | assumption | (simp only [*]; done) | omega) (by omega) (by omega) (by decide) ?_
                rw [r_2_4]
                refine V_iconst (pc := 80) X dX10_partFrom_80 ?_
                refine V_iremN (pc := 81) X dX10_partFrom_81 (by omega) (by omega) (by omega) (by omega) ?_
                refine V_joinS 103 (fun z => z = r_sy (n : Int)) (fun J => ?_) (fun z2 hz2 => ?_)
                · skip
                  refine V_iload (pc := 82) X dX10_partFrom_82 rfl ?_
                  refine V_iconst (pc := 84) X dX10_partFrom_84 ?_
                  refine V_icmp_ne (pc := 85) X 92 dX10_partFrom_85 (by decide) ⟨by omega, by omega⟩ ⟨by omega, by omega⟩ (fun c_85 => ?_) (fun c_85 => ?_)
                  · skip
                    refine V_iload (pc := 92) X dX10_partFrom_92 rfl ?_
                    refine V_iconst (pc := 94) X dX10_partFrom_94 ?_
                    refine V_icmp_ne (pc := 95) X 102 dX10_partFrom_95 (by decide) ⟨by omega, by omega⟩ ⟨by omega, by omega⟩ (fun c_95 => ?_) (fun c_95 => ?_)
                    · skip
                      refine V_iconst (pc := 102) X dX10_partFrom_102 ?_
                      exact J _ (by unfold r_sy; first | (rw [if_pos c_85]; done) | (rw [if_neg c_85, if_pos c_95]; done) | (rw [if_neg c_85, if_neg c_95]))
                    · skip
                      refine V_iconst (pc := 98) X dX10_partFrom_98 ?_
                      refine V_goto (pc := 99) X 103 dX10_partFrom_99 (by decide) ?_
                      exact J _ (by unfold r_sy; first | (rw [if_pos c_85]; done) | (rw [if_neg c_85, if_pos c_95]; done) | (rw [if_neg c_85, if_neg c_95]))
                  · skip
                    refine V_iconst (pc := 88) X dX10_partFrom_88 ?_
                    refine V_goto (pc := 89) X 103 dX10_partFrom_89 (by decide) ?_
                    exact J _ (by unfold r_sy; first | (rw [if_pos c_85]; done) | (rw [if_neg c_85, if_pos c_95]; done) | (rw [if_neg c_85, if_neg c_95]))
                · skip
                  subst hz2
                  refine V_iadd (pc := 103) X dX10_partFrom_103 ?_
                  refine V_istore (pc := 104) X dX10_partFrom_104 (by exact Nat.le_of_ble_eq_true rfl) (by first | rfl | ((repeat (refine z_nl_set ?_ (by first | exact (show (0 : Nat) ≠ 1 by decide) | exact (show (2 : Nat) ≠ 1 by decide)))); first | rfl | (simp [z_nl, hz5, hz6, hz7]; done) | (simp [z_nl, hw6z, hw7z]; done) | (simp [z_nl, hz6, hz7]; done) | (simp [z_nl, hw7z]; done))) ?_
                  refine V_aload_n (pc := 106) X dX10_partFrom_106 rfl (by first | decide | omega | assumption) ?_
                  refine V_iload (pc := 107) X dX10_partFrom_107 rfl ?_
                  refine V_iload (pc := 109) X dX10_partFrom_109 rfl ?_
                  refine V_FV (pc := 111) X dX10_partFrom_111 oX10_isPane l_RX10_183 eX10_isPane vX10_isPane ⟨Nat.le_of_ble_eq_true rfl, Nat.le_of_ble_eq_true rfl⟩ ⟨rfl, rfl⟩ ⟨Nat.le_of_ble_eq_true rfl, Nat.le_of_ble_eq_true rfl⟩ (ct_X10_isPane hOS hPS ⟨by omega, by omega⟩ ⟨by omega, by omega⟩) rfl (by first | rfl | assumption | (simp only [*]; done) | omega) (by intro q h; cases h; rfl) rfl (by rfl) (by exact Nat.le_of_ble_eq_true rfl) ?_
                  rw [r_2_isP]
                  refine V_bif_eq (pc := 114) X 162 dX10_partFrom_114 (by decide)  (fun c_114 => ?_) (fun c_114 => ?_)
                  · skip
                    have ent : r_bS h (h 103 p) (k : Int) s (n + 1) = (r_bS h (h 103 p) (k : Int) s n) := by
                      rw [r_bS, if_neg (fun g => by rw [c_114] at g; exact absurd g.1 (by decide))]
                    refine V_iinc (pc := 162) X dX10_partFrom_162 rfl (by first | rfl | ((repeat (refine z_nl_set ?_ (by first | exact (show (0 : Nat) ≠ 1 by decide) | exact (show (2 : Nat) ≠ 1 by decide)))); first | rfl | (simp [z_nl, hz5, hz6, hz7]; done) | (simp [z_nl, hw6z, hw7z]; done) | (simp [z_nl, hz6, hz7]; done) | (simp [z_nl, hw7z]; done))) ?_
                    refine V_goto (pc := 165) X 35 dX10_partFrom_165 (by decide) ?_
                    refine V_loc ?_ (V_heap ?_ (ih_35 (n + 1) (0, ((r_bS h (h 103 p) (k : Int) s n).2.1 (k : Int) / 4 + r_sx (n : Int))) (0, ((r_bS h (h 103 p) (k : Int) s n).2.1 (k : Int) % 4 + r_sy (n : Int))) (by omega) (by omega) (show ¬ (0 : Nat) = 1 by decide) (show ¬ (0 : Nat) = 1 by decide)))
                    · show [_, _, _, _, _, _, _, _] = [_, _, _, _, _, _, _, _]
                      rw [ent]
                      rfl
                    · rw [ent]
                  · skip
                    have qp := of_decide_eq_true c_114
                    have hpu := hpt (4 * ((r_bS h (h 103 p) (k : Int) s n).2.1 (k : Int) / 4 + r_sx (n : Int)) + ((r_bS h (h 103 p) (k : Int) s n).2.1 (k : Int) % 4 + r_sy (n : Int))) (by omega) (by omega)
                    refine V_aload_n (pc := 117) X dX10_partFrom_117 rfl (by first | decide | omega | assumption) ?_
                    refine V_gz (pc := 118) X dX10_partFrom_118 f_RX10_57 (by first | rfl | assumption | (simp only [*]; done) | omega) 30 rfl (show _ = (103 : Int) from by first | exact rb30 | (rw [r_2_ne _ _ _ (by decide) (by decide)]; exact rb30) | ((repeat (first | rw [z_st_at] | rw [z_st_slot _ (by decide)] | rw [z_st_cell _ (by decide)] | rw [z_rw_ne _ _ (by decide)] | rw [r_rem_s (by decide)] | rw [r_rem_c (by decide) (by decide)] | rw [r_cp_ne (by decide)])); exact rb30)) ?_
                    refine V_iconst (pc := 121) X dX10_partFrom_121 ?_
                    refine V_iload (pc := 122) X dX10_partFrom_122 rfl ?_
                    refine V_imul (pc := 124) X dX10_partFrom_124 ?_
                    refine V_iload (pc := 125) X dX10_partFrom_125 rfl ?_
                    refine V_iadd (pc := 127) X dX10_partFrom_127 ?_
                    refine V_iald (pc := 128) X dX10_partFrom_128 (by first | rfl | assumption | (simp only [*]; done) | omega) (by omega) (by omega) (by decide) ?_
                    rw [r_2_3]
                    refine V_iload_n (pc := 129) X dX10_partFrom_129 rfl ?_
                    refine V_icmp_ne (pc := 130) X 162 dX10_partFrom_130 (by decide) ⟨by omega, by omega⟩ ⟨by omega, by omega⟩ (fun c_130 => ?_) (fun c_130 => ?_)
                    · skip
                      have ent : r_bS h (h 103 p) (k : Int) s (n + 1) = (r_bS h (h 103 p) (k : Int) s n) := by
                        rw [r_bS, if_neg (fun g => c_130 g.2)]
                      refine V_iinc (pc := 162) X dX10_partFrom_162 rfl (by first | rfl | ((repeat (refine z_nl_set ?_ (by first | exact (show (0 : Nat) ≠ 1 by decide) | exact (show (2 : Nat) ≠ 1 by decide)))); first | rfl | (simp [z_nl, hz5, hz6, hz7]; done) | (simp [z_nl, hw6z, hw7z]; done) | (simp [z_nl, hz6, hz7]; done) | (simp [z_nl, hw7z]; done))) ?_
                      refine V_goto (pc := 165) X 35 dX10_partFrom_165 (by decide) ?_
                      refine V_loc ?_ (V_heap ?_ (ih_35 (n + 1) (0, ((r_bS h (h 103 p) (k : Int) s n).2.1 (k : Int) / 4 + r_sx (n : Int))) (0, ((r_bS h (h 103 p) (k : Int) s n).2.1 (k : Int) % 4 + r_sy (n : Int))) (by omega) (by omega) (show ¬ (0 : Nat) = 1 by decide) (show ¬ (0 : Nat) = 1 by decide)))
                      · show [_, _, _, _, _, _, _, _] = [_, _, _, _, _, _, _, _]
                        rw [ent]
                        rfl
                      · rw [ent]
                    · skip
                      have ent : r_bS h (h 103 p) (k : Int) s (n + 1) = (r_up (r_bS h (h 103 p) (k : Int) s n).1 (4 * ((r_bS h (h 103 p) (k : Int) s n).2.1 (k : Int) / 4 + r_sx (n : Int)) + ((r_bS h (h 103 p) (k : Int) s n).2.1 (k : Int) % 4 + r_sy (n : Int))) (-1), r_up (r_bS h (h 103 p) (k : Int) s n).2.1 (r_bS h (h 103 p) (k : Int) s n).2.2 (4 * ((r_bS h (h 103 p) (k : Int) s n).2.1 (k : Int) / 4 + r_sx (n : Int)) + ((r_bS h (h 103 p) (k : Int) s n).2.1 (k : Int) % 4 + r_sy (n : Int))), (r_bS h (h 103 p) (k : Int) s n).2.2 + 1) := by
                        rw [r_bS, if_pos ⟨c_114, c_130⟩]
                      have hlt := (hbs.add hP hcol c_114 c_130).2
                      refine V_aload_n (pc := 133) X dX10_partFrom_133 rfl (by first | decide | omega | assumption) ?_
                      refine V_gz (pc := 134) X dX10_partFrom_134 f_RX10_57 (by first | rfl | assumption | (simp only [*]; done) | omega) 30 rfl (show _ = (103 : Int) from by first | exact rb30 | (rw [r_2_ne _ _ _ (by decide) (by decide)]; exact rb30) | ((repeat (first | rw [z_st_at] | rw [z_st_slot _ (by decide)] | rw [z_st_cell _ (by decide)] | rw [z_rw_ne _ _ (by decide)] | rw [r_rem_s (by decide)] | rw [r_rem_c (by decide) (by decide)] | rw [r_cp_ne (by decide)])); exact rb30)) ?_
                      refine V_iconst (pc := 137) X dX10_partFrom_137 ?_
                      refine V_iload (pc := 138) X dX10_partFrom_138 rfl ?_
                      refine V_imul (pc := 140) X dX10_partFrom_140 ?_
                      refine V_iload (pc := 141) X dX10_partFrom_141 rfl ?_
                      refine V_iadd (pc := 143) X dX10_partFrom_143 ?_
                      refine V_iconst (pc := 144) X dX10_partFrom_144 ?_
                      refine V_iast (pc := 145) X dX10_partFrom_145 (by first | rfl | assumption | (simp only [*]; done) | omega) (by omega) (by omega) (by decide) ?_
                      rw [r_2_p3]
                      refine V_aload_n (pc := 146) X dX10_partFrom_146 rfl (by first | decide | omega | assumption) ?_
                      refine V_gz (pc := 147) X dX10_partFrom_147 f_RX10_60 (by first | rfl | assumption | (simp only [*]; done) | omega) 31 rfl (show _ = (104 : Int) from by first | exact rb31 | (rw [r_2_ne _ _ _ (by decide) (by decide)]; exact rb31) | ((repeat (first | rw [z_st_at] | rw [z_st_slot _ (by decide)] | rw [z_st_cell _ (by decide)] | rw [z_rw_ne _ _ (by decide)] | rw [r_rem_s (by decide)] | rw [r_rem_c (by decide) (by decide)] | rw [r_cp_ne (by decide)])); exact rb31)) ?_
                      refine V_iload_n (pc := 150) X dX10_partFrom_150 rfl ?_
                      refine V_iconst (pc := 151) X dX10_partFrom_151 ?_
                      refine V_iload (pc := 152) X dX10_partFrom_152 rfl ?_
                      refine V_imul (pc := 154) X dX10_partFrom_154 ?_
                      refine V_iload (pc := 155) X dX10_partFrom_155 rfl ?_
                      refine V_iadd (pc := 157) X dX10_partFrom_157 ?_
                      refine V_iast (pc := 158) X dX10_partFrom_158 (by first | rfl | assumption | (simp only [*]; done) | omega) (by omega) (by omega) (by decide) ?_
                      rw [r_2_p4]
                      refine V_iinc (pc := 159) X dX10_partFrom_159 rfl (by first | rfl | ((repeat (refine z_nl_set ?_ (by first | exact (show (0 : Nat) ≠ 1 by decide) | exact (show (2 : Nat) ≠ 1 by decide)))); first | rfl | (simp [z_nl, hz5, hz6, hz7]; done) | (simp [z_nl, hw6z, hw7z]; done) | (simp [z_nl, hz6, hz7]; done) | (simp [z_nl, hw7z]; done))) ?_
                      refine V_iinc (pc := 162) X dX10_partFrom_162 rfl (by first | rfl | ((repeat (refine z_nl_set ?_ (by first | exact (show (0 : Nat) ≠ 1 by decide) | exact (show (2 : Nat) ≠ 1 by decide)))); first | rfl | (simp [z_nl, hz5, hz6, hz7]; done) | (simp [z_nl, hw6z, hw7z]; done) | (simp [z_nl, hz6, hz7]; done) | (simp [z_nl, hw7z]; done))) ?_
                      refine V_goto (pc := 165) X 35 dX10_partFrom_165 (by decide) ?_
                      refine V_loc ?_ (V_heap ?_ (ih_35 (n + 1) (0, ((r_bS h (h 103 p) (k : Int) s n).2.1 (k : Int) / 4 + r_sx (n : Int))) (0, ((r_bS h (h 103 p) (k : Int) s n).2.1 (k : Int) % 4 + r_sy (n : Int))) (by omega) (by omega) (show ¬ (0 : Nat) = 1 by decide) (show ¬ (0 : Nat) = 1 by decide)))
                      · show [_, _, _, _, _, _, _, _] = [_, _, _, _, _, _, _, _]
                        rw [ent]
                        rfl
                      · rw [ent]
        exact lp_35 _ 0 z6 z7 (Nat.lt_succ_self _) (by decide) hz6 hz7
  exact lp_26 _ 0 (r_up (h 103) p (-1), r_up (h 104) 0 p, 1) (9, 0) (9, 0) (9, 0) (Nat.lt_succ_self _) (by decide) (r_pf_in (h := h) hPt h0 h1 hcol) rfl (by decide) (by decide) (by decide)
