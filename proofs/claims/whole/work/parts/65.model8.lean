/-! PaneLightModel, 8: child -/
set_option maxHeartbeats 4000000 in
set_option maxRecDepth 100000 in
theorem ct_X10_nextTile {h : z_H} (hO : r_Ob h) {f : Int → Int} {t k : Int} (h0 : 0 ≤ t) (h1 : t < 84) (k0 : 0 ≤ k) (k1 : k < 8) (hf : ∀ u, 0 ≤ u → u < 84 → h 105 (9 * u + k + 1) = f u ∧ 0 ≤ f u ∧ f u ≤ 8) : z_Ct mX10_nextTile 107 [(2, 89), (0, t), (0, k)] h (z_pure (0, r_nt f t) h) := by
  refine z_mk (L := [(2, 89), (0, t), (0, k), (9, 0), (9, 0), (9, 0), (9, 0)]) oX10_nextTile.2.2.2.2 (Nat.le_of_ble_eq_true rfl) rfl ?_
  intro Γ X hQ
  obtain ⟨rb2, rb3, rb5, rb6, rb7, rb9, rb10, rb11, rb12, rb13, rb15, rb25, rb26, rb30, rb31, rb32, rb33⟩ := id hO
  refine V_bipush (pc := 0) X dX10_nextTile_0 (by decide) ?_
  refine V_istore_n (pc := 2) X dX10_nextTile_2 (by exact Nat.le_of_ble_eq_true rfl) (by first | rfl | ((repeat (refine z_nl_set ?_ (by first | exact (show (0 : Nat) ≠ 1 by decide) | exact (show (2 : Nat) ≠ 1 by decide)))); first | rfl | (simp [z_nl, hz5, hz6]; done))) ?_
  refine V_iconst (pc := 3) X dX10_nextTile_3 ?_
  refine V_istore (pc := 4) X dX10_nextTile_4 (by exact Nat.le_of_ble_eq_true rfl) (by first | rfl | ((repeat (refine z_nl_set ?_ (by first | exact (show (0 : Nat) ≠ 1 by decide) | exact (show (2 : Nat) ≠ 1 by decide)))); first | rfl | (simp [z_nl, hz5, hz6]; done))) ?_
  have lp_6 : ∀ (m : Nat) (i : Nat) (z5 z6 : Nat × Int), 5 - i < m → i ≤ 5 → ¬ z5.1 = 1 → ¬ z6.1 = 1 → z_V Γ (107, 0, 0) 6 [(2, 89), (0, t), (0, k), (0, (r_ntN f t i)), (0, (i : Int)), z5, z6] [] h := by
    intro m
    induction m with
    | zero => intro i z5 z6 hm; exact absurd hm (Nat.not_lt_zero _)
    | succ m ih_6 =>
      intro i z5 z6 hm hi1 hz5 hz6
      have hbr := r_ntN_rng (f := f) (t := t) i
      have hdx := r_dx_rng (i : Int)
      have hdy := r_dy_rng (i : Int)
      refine V_iload (pc := 6) X dX10_nextTile_6 rfl ?_
      refine V_iconst (pc := 8) X dX10_nextTile_8 ?_
      refine V_icmp_ge (pc := 9) X 134 dX10_nextTile_9 (by decide) ⟨by omega, by omega⟩ ⟨by omega, by omega⟩ (fun c_9 => ?_) (fun c_9 => ?_)
      · skip
        refine V_iload_n (pc := 134) X dX10_nextTile_134 rfl ?_
        refine V_iret (st := []) (pc := 135) X hQ dX10_nextTile_135 rfl rfl ?_
        exact z_pi (by unfold r_nt; rw [show i = 5 by omega])
      · skip
        refine V_iload_n (pc := 12) X dX10_nextTile_12 rfl ?_
        refine V_bipush (pc := 13) X dX10_nextTile_13 (by decide) ?_
        refine V_idivN (pc := 15) X dX10_nextTile_15 (by omega) (by omega) (by omega) (by omega) ?_
        refine V_joinS 36 (fun z => z = r_dx (i : Int)) (fun J => ?_) (fun z1 hz1 => ?_)
        · skip
          refine V_iload (pc := 16) X dX10_nextTile_16 rfl ?_
          refine V_if_ne (pc := 18) X 25 dX10_nextTile_18 (by decide) ⟨by omega, by omega⟩ (fun c_18 => ?_) (fun c_18 => ?_)
          · skip
            refine V_iload (pc := 25) X dX10_nextTile_25 rfl ?_
            refine V_iconst (pc := 27) X dX10_nextTile_27 ?_
            refine V_icmp_ne (pc := 28) X 35 dX10_nextTile_28 (by decide) ⟨by omega, by omega⟩ ⟨by omega, by omega⟩ (fun c_28 => ?_) (fun c_28 => ?_)
            · skip
              refine V_iconst (pc := 35) X dX10_nextTile_35 ?_
              exact J _ (by unfold r_dx; first | (rw [if_pos c_18]; done) | (rw [if_neg c_18, if_pos c_28]; done) | (rw [if_neg c_18, if_neg c_28]))
            · skip
              refine V_iconst (pc := 31) X dX10_nextTile_31 ?_
              refine V_goto (pc := 32) X 36 dX10_nextTile_32 (by decide) ?_
              exact J _ (by unfold r_dx; first | (rw [if_pos c_18]; done) | (rw [if_neg c_18, if_pos c_28]; done) | (rw [if_neg c_18, if_neg c_28]))
          · skip
            refine V_iconst (pc := 21) X dX10_nextTile_21 ?_
            refine V_goto (pc := 22) X 36 dX10_nextTile_22 (by decide) ?_
            exact J _ (by unfold r_dx; first | (rw [if_pos c_18]; done) | (rw [if_neg c_18, if_pos c_28]; done) | (rw [if_neg c_18, if_neg c_28]))
        · skip
          subst hz1
          refine V_iadd (pc := 36) X dX10_nextTile_36 ?_
          refine V_istore (pc := 37) X dX10_nextTile_37 (by exact Nat.le_of_ble_eq_true rfl) (by first | rfl | ((repeat (refine z_nl_set ?_ (by first | exact (show (0 : Nat) ≠ 1 by decide) | exact (show (2 : Nat) ≠ 1 by decide)))); first | rfl | (simp [z_nl, hz5, hz6]; done))) ?_
          refine V_iload_n (pc := 39) X dX10_nextTile_39 rfl ?_
          refine V_bipush (pc := 40) X dX10_nextTile_40 (by decide) ?_
          refine V_iremN (pc := 42) X dX10_nextTile_42 (by omega) (by omega) (by omega) (by omega) ?_
          refine V_joinS 64 (fun z => z = r_dy (i : Int)) (fun J => ?_) (fun z2 hz2 => ?_)
          · skip
            refine V_iload (pc := 43) X dX10_nextTile_43 rfl ?_
            refine V_iconst (pc := 45) X dX10_nextTile_45 ?_
            refine V_icmp_ne (pc := 46) X 53 dX10_nextTile_46 (by decide) ⟨by omega, by omega⟩ ⟨by omega, by omega⟩ (fun c_46 => ?_) (fun c_46 => ?_)
            · skip
              refine V_iload (pc := 53) X dX10_nextTile_53 rfl ?_
              refine V_iconst (pc := 55) X dX10_nextTile_55 ?_
              refine V_icmp_ne (pc := 56) X 63 dX10_nextTile_56 (by decide) ⟨by omega, by omega⟩ ⟨by omega, by omega⟩ (fun c_56 => ?_) (fun c_56 => ?_)
              · skip
                refine V_iconst (pc := 63) X dX10_nextTile_63 ?_
                exact J _ (by unfold r_dy; first | (rw [if_pos c_46]; done) | (rw [if_neg c_46, if_pos c_56]; done) | (rw [if_neg c_46, if_neg c_56]))
              · skip
                refine V_iconst (pc := 59) X dX10_nextTile_59 ?_
                refine V_goto (pc := 60) X 64 dX10_nextTile_60 (by decide) ?_
                exact J _ (by unfold r_dy; first | (rw [if_pos c_46]; done) | (rw [if_neg c_46, if_pos c_56]; done) | (rw [if_neg c_46, if_neg c_56]))
            · skip
              refine V_iconst (pc := 49) X dX10_nextTile_49 ?_
              refine V_goto (pc := 50) X 64 dX10_nextTile_50 (by decide) ?_
              exact J _ (by unfold r_dy; first | (rw [if_pos c_46]; done) | (rw [if_neg c_46, if_pos c_56]; done) | (rw [if_neg c_46, if_neg c_56]))
          · skip
            subst hz2
            refine V_iadd (pc := 64) X dX10_nextTile_64 ?_
            refine V_istore (pc := 65) X dX10_nextTile_65 (by exact Nat.le_of_ble_eq_true rfl) (by first | rfl | ((repeat (refine z_nl_set ?_ (by first | exact (show (0 : Nat) ≠ 1 by decide) | exact (show (2 : Nat) ≠ 1 by decide)))); first | rfl | (simp [z_nl, hz5, hz6]; done))) ?_
            refine V_iload (pc := 67) X dX10_nextTile_67 rfl ?_
            refine V_iload (pc := 69) X dX10_nextTile_69 rfl ?_
            refine V_FS (pc := 71) X dX10_nextTile_71 oX10_isTile l_RX10_237 sX10_isTile ⟨Nat.le_of_ble_eq_true rfl, Nat.le_of_ble_eq_true rfl⟩ ⟨rfl, rfl⟩ ⟨Nat.le_of_ble_eq_true rfl, Nat.le_of_ble_eq_true rfl⟩ (ct_X10_isTile ⟨by omega, by omega⟩ ⟨by omega, by omega⟩) rfl (by rfl) (by exact Nat.le_of_ble_eq_true rfl) ?_
            refine V_bif_eq (pc := 74) X 128 dX10_nextTile_74 (by decide)  (fun c_74 => ?_) (fun c_74 => ?_)
            · skip
              have ent2 : r_ntN f t (i + 1) = (r_ntN f t i) := by
                rw [r_ntN, if_neg (fun g => by rw [c_74] at g; exact absurd g.1 (by decide))]
              refine V_iinc (pc := 128) X dX10_nextTile_128 rfl (by first | rfl | ((repeat (refine z_nl_set ?_ (by first | exact (show (0 : Nat) ≠ 1 by decide) | exact (show (2 : Nat) ≠ 1 by decide)))); first | rfl | (simp [z_nl, hz5, hz6]; done))) ?_
              refine V_goto (pc := 131) X 6 dX10_nextTile_131 (by decide) ?_
              first
                | (refine V_loc ?_ (ih_6 (i + 1) (0, (t / 7 + r_dx (i : Int))) (0, (t % 7 + r_dy (i : Int))) (by omega) (by omega) (show ¬ (0 : Nat) = 1 by decide) (show ¬ (0 : Nat) = 1 by decide)); show [_, _, _, _, _, _, _] = [_, _, _, _, _, _, _]; rw [ent]; rfl)
                | (refine V_loc ?_ (ih_6 (i + 1) (0, (t / 7 + r_dx (i : Int))) (0, (t % 7 + r_dy (i : Int))) (by omega) (by omega) (show ¬ (0 : Nat) = 1 by decide) (show ¬ (0 : Nat) = 1 by decide)); show [_, _, _, _, _, _, _] = [_, _, _, _, _, _, _]; rw [ent2]; rfl)
            · skip
              have htl := of_decide_eq_true c_74
              have hfu := hf (7 * (t / 7 + r_dx (i : Int)) + (t % 7 + r_dy (i : Int))) (by omega) (by omega)
              refine V_iload_n (pc := 77) X dX10_nextTile_77 rfl ?_
              refine V_bipush (pc := 78) X dX10_nextTile_78 (by decide) ?_
              refine V_icmp_eq (pc := 80) X 119 dX10_nextTile_80 (by decide) ⟨by omega, by omega⟩ ⟨by omega, by omega⟩ (fun c_80 => ?_) (fun c_80 => ?_)
              · skip
                have ent : r_ntN f t (i + 1) = (7 * (t / 7 + r_dx (i : Int)) + (t % 7 + r_dy (i : Int))) := by
                  rw [r_ntN, if_pos]
                  refine ⟨c_74, ?_⟩
                  first
                    | exact Or.inl c_80
                    | exact Or.inr (Int.not_le.mp c_116)
                refine V_bipush (pc := 119) X dX10_nextTile_119 (by decide) ?_
                refine V_iload (pc := 121) X dX10_nextTile_121 rfl ?_
                refine V_imul (pc := 123) X dX10_nextTile_123 ?_
                refine V_iload (pc := 124) X dX10_nextTile_124 rfl ?_
                refine V_iadd (pc := 126) X dX10_nextTile_126 ?_
                refine V_istore_n (pc := 127) X dX10_nextTile_127 (by exact Nat.le_of_ble_eq_true rfl) (by first | rfl | ((repeat (refine z_nl_set ?_ (by first | exact (show (0 : Nat) ≠ 1 by decide) | exact (show (2 : Nat) ≠ 1 by decide)))); first | rfl | (simp [z_nl, hz5, hz6]; done))) ?_
                refine V_iinc (pc := 128) X dX10_nextTile_128 rfl (by first | rfl | ((repeat (refine z_nl_set ?_ (by first | exact (show (0 : Nat) ≠ 1 by decide) | exact (show (2 : Nat) ≠ 1 by decide)))); first | rfl | (simp [z_nl, hz5, hz6]; done))) ?_
                refine V_goto (pc := 131) X 6 dX10_nextTile_131 (by decide) ?_
                first
                  | (refine V_loc ?_ (ih_6 (i + 1) (0, (t / 7 + r_dx (i : Int))) (0, (t % 7 + r_dy (i : Int))) (by omega) (by omega) (show ¬ (0 : Nat) = 1 by decide) (show ¬ (0 : Nat) = 1 by decide)); show [_, _, _, _, _, _, _] = [_, _, _, _, _, _, _]; rw [ent]; rfl)
                  | (refine V_loc ?_ (ih_6 (i + 1) (0, (t / 7 + r_dx (i : Int))) (0, (t % 7 + r_dy (i : Int))) (by omega) (by omega) (show ¬ (0 : Nat) = 1 by decide) (show ¬ (0 : Nat) = 1 by decide)); show [_, _, _, _, _, _, _] = [_, _, _, _, _, _, _]; rw [ent2]; rfl)
              · skip
                refine V_aload_n (pc := 83) X dX10_nextTile_83 rfl (by first | decide | omega | assumption) ?_
                refine V_gz (pc := 84) X dX10_nextTile_84 f_RX10_63 (by first | rfl | assumption | (simp only [*]; done) | omega) 32 rfl (show _ = (105 : Int) from by first | exact rb32 | ((repeat (first | rw [z_st_at] | rw [z_st_slot _ (by decide)] | rw [z_st_cell _ (by decide)] | rw [z_rw_ne _ _ (by decide)] | rw [r_rem_s (by decide)] | rw [r_rem_c (by decide) (by decide)] | rw [r_cp_ne (by decide)])); exact rb32)) ?_
                refine V_bipush (pc := 87) X dX10_nextTile_87 (by decide) ?_
                refine V_bipush (pc := 89) X dX10_nextTile_89 (by decide) ?_
                refine V_iload (pc := 91) X dX10_nextTile_91 rfl ?_
                refine V_imul (pc := 93) X dX10_nextTile_93 ?_
                refine V_iload (pc := 94) X dX10_nextTile_94 rfl ?_
                refine V_iadd (pc := 96) X dX10_nextTile_96 ?_
                refine V_imul (pc := 97) X dX10_nextTile_97 ?_
                refine V_iload_n (pc := 98) X dX10_nextTile_98 rfl ?_
                refine V_iadd (pc := 99) X dX10_nextTile_99 ?_
                refine V_iconst (pc := 100) X dX10_nextTile_100 ?_
                refine V_iadd (pc := 101) X dX10_nextTile_101 ?_
                refine V_iald (pc := 102) X dX10_nextTile_102 (by first | rfl | assumption | (simp only [*]; done) | omega) (by omega) (by omega) (by decide) ?_
                rw [hfu.1]
                have hfb := hf (r_ntN f t i) (by omega) (by omega)
                refine V_aload_n (pc := 103) X dX10_nextTile_103 rfl (by first | decide | omega | assumption) ?_
                refine V_gz (pc := 104) X dX10_nextTile_104 f_RX10_63 (by first | rfl | assumption | (simp only [*]; done) | omega) 32 rfl (show _ = (105 : Int) from by first | exact rb32 | ((repeat (first | rw [z_st_at] | rw [z_st_slot _ (by decide)] | rw [z_st_cell _ (by decide)] | rw [z_rw_ne _ _ (by decide)] | rw [r_rem_s (by decide)] | rw [r_rem_c (by decide) (by decide)] | rw [r_cp_ne (by decide)])); exact rb32)) ?_
                refine V_bipush (pc := 107) X dX10_nextTile_107 (by decide) ?_
                refine V_iload_n (pc := 109) X dX10_nextTile_109 rfl ?_
                refine V_imul (pc := 110) X dX10_nextTile_110 ?_
                refine V_iload_n (pc := 111) X dX10_nextTile_111 rfl ?_
                refine V_iadd (pc := 112) X dX10_nextTile_112 ?_
                refine V_iconst (pc := 113) X dX10_nextTile_113 ?_
                refine V_iadd (pc := 114) X dX10_nextTile_114 ?_
                refine V_iald (pc := 115) X dX10_nextTile_115 (by first | rfl | assumption | (simp only [*]; done) | omega) (by omega) (by omega) (by decide) ?_
                rw [hfb.1]
                refine V_icmp_le (pc := 116) X 128 dX10_nextTile_116 (by decide) ⟨by omega, by omega⟩ ⟨by omega, by omega⟩ (fun c_116 => ?_) (fun c_116 => ?_)
                · skip
                  have ent2 : r_ntN f t (i + 1) = (r_ntN f t i) := by
                    rw [r_ntN, if_neg (fun g => g.2.elim c_80 (fun q => absurd c_116 (Int.not_le.mpr q)))]
                  refine V_iinc (pc := 128) X dX10_nextTile_128 rfl (by first | rfl | ((repeat (refine z_nl_set ?_ (by first | exact (show (0 : Nat) ≠ 1 by decide) | exact (show (2 : Nat) ≠ 1 by decide)))); first | rfl | (simp [z_nl, hz5, hz6]; done))) ?_
                  refine V_goto (pc := 131) X 6 dX10_nextTile_131 (by decide) ?_
                  first
                    | (refine V_loc ?_ (ih_6 (i + 1) (0, (t / 7 + r_dx (i : Int))) (0, (t % 7 + r_dy (i : Int))) (by omega) (by omega) (show ¬ (0 : Nat) = 1 by decide) (show ¬ (0 : Nat) = 1 by decide)); show [_, _, _, _, _, _, _] = [_, _, _, _, _, _, _]; rw [ent]; rfl)
                    | (refine V_loc ?_ (ih_6 (i + 1) (0, (t / 7 + r_dx (i : Int))) (0, (t % 7 + r_dy (i : Int))) (by omega) (by omega) (show ¬ (0 : Nat) = 1 by decide) (show ¬ (0 : Nat) = 1 by decide)); show [_, _, _, _, _, _, _] = [_, _, _, _, _, _, _]; rw [ent2]; rfl)
                · skip
                  have ent : r_ntN f t (i + 1) = (7 * (t / 7 + r_dx (i : Int)) + (t % 7 + r_dy (i : Int))) := by
                    rw [r_ntN, if_pos]
                    refine ⟨c_74, ?_⟩
                    first
                      | exact Or.inl c_80
                      | exact Or.inr (Int.not_le.mp c_116)
                  refine V_bipush (pc := 119) X dX10_nextTile_119 (by decide) ?_
                  refine V_iload (pc := 121) X dX10_nextTile_121 rfl ?_
                  refine V_imul (pc := 123) X dX10_nextTile_123 ?_
                  refine V_iload (pc := 124) X dX10_nextTile_124 rfl ?_
                  refine V_iadd (pc := 126) X dX10_nextTile_126 ?_
                  refine V_istore_n (pc := 127) X dX10_nextTile_127 (by exact Nat.le_of_ble_eq_true rfl) (by first | rfl | ((repeat (refine z_nl_set ?_ (by first | exact (show (0 : Nat) ≠ 1 by decide) | exact (show (2 : Nat) ≠ 1 by decide)))); first | rfl | (simp [z_nl, hz5, hz6]; done))) ?_
                  refine V_iinc (pc := 128) X dX10_nextTile_128 rfl (by first | rfl | ((repeat (refine z_nl_set ?_ (by first | exact (show (0 : Nat) ≠ 1 by decide) | exact (show (2 : Nat) ≠ 1 by decide)))); first | rfl | (simp [z_nl, hz5, hz6]; done))) ?_
                  refine V_goto (pc := 131) X 6 dX10_nextTile_131 (by decide) ?_
                  first
                    | (refine V_loc ?_ (ih_6 (i + 1) (0, (t / 7 + r_dx (i : Int))) (0, (t % 7 + r_dy (i : Int))) (by omega) (by omega) (show ¬ (0 : Nat) = 1 by decide) (show ¬ (0 : Nat) = 1 by decide)); show [_, _, _, _, _, _, _] = [_, _, _, _, _, _, _]; rw [ent]; rfl)
                    | (refine V_loc ?_ (ih_6 (i + 1) (0, (t / 7 + r_dx (i : Int))) (0, (t % 7 + r_dy (i : Int))) (by omega) (by omega) (show ¬ (0 : Nat) = 1 by decide) (show ¬ (0 : Nat) = 1 by decide)); show [_, _, _, _, _, _, _] = [_, _, _, _, _, _, _]; rw [ent2]; rfl)
  exact lp_6 _ 0 (9, 0) (9, 0) (Nat.lt_succ_self _) (by decide) (by decide) (by decide)
set_option maxHeartbeats 4000000 in
set_option maxRecDepth 100000 in
theorem ct_X10_layHours {h : z_H} (hO : r_Ob h) (hP : r_Pl h) (hT : r_Mt (h 92)) {c : Int} (c0 : 0 ≤ c) (c1 : c < 8) : z_Ct mX10_layHours 107 [(2, 89), (0, c)] h (fun r h2 => r = none ∧ ∃ F : Int → Int, (∀ m : Nat, m ≤ 8 → ∀ u, 0 ≤ u → u < 84 → F (9 * u + 8 - (m : Int)) = r_D h c m u) ∧ h2 = z_rw h 105 F) := by
  refine z_mk (L := [(2, 89), (0, c), (9, 0), (9, 0), (9, 0)]) oX10_layHours.2.2.2.2 (Nat.le_of_ble_eq_true rfl) rfl ?_
  intro Γ X hQ
  obtain ⟨rb2, rb3, rb5, rb6, rb7, rb9, rb10, rb11, rb12, rb13, rb15, rb25, rb26, rb30, rb31, rb32, rb33⟩ := id hO
  obtain ⟨⟨hw1, hw2⟩, ⟨hh1, hh2⟩, ⟨hs1, hs2⟩, hgl, hco⟩ := id hP
  obtain ⟨tw, ⟨tb1, tb2⟩, ⟨tm1, tm2⟩, ⟨ts1, ts2⟩⟩ := id hT
  have kc : z_kd 107 92 = (1, 11) := rfl
  refine V_iconst (pc := 0) X dX10_layHours_0 ?_
  refine V_istore_n (pc := 1) X dX10_layHours_1 (by exact Nat.le_of_ble_eq_true rfl) (by first | rfl | ((repeat (refine z_nl_set ?_ (by first | exact (show (0 : Nat) ≠ 1 by decide) | exact (show (2 : Nat) ≠ 1 by decide)))); first | rfl | (simp [z_nl, hz3, hz4]; done) | (simp [z_nl, hz4]; done) | (simp [z_nl, hz5]; done))) ?_
  have lp_2 : ∀ (m : Nat) (t : Int) (F : Int → Int), (84 - t).toNat < m → 0 ≤ t → t ≤ 84 → (∀ u, 0 ≤ u → u < t → F (9 * u + 8) = 0) → z_V Γ (107, 0, 0) 2 [(2, 89), (0, c), (0, t), (9, 0), (9, 0)] [] (z_rw h 105 F) := by
    intro m
    induction m with
    | zero => intro t F hm; exact absurd hm (Nat.not_lt_zero _)
    | succ m ih_2 =>
      intro t F hm ht0 ht1 hF
      refine V_iload_n (pc := 2) X dX10_layHours_2 rfl ?_
      refine V_bipush (pc := 3) X dX10_layHours_3 (by decide) ?_
      refine V_icmp_ge (pc := 5) X 27 dX10_layHours_5 (by decide) ⟨by omega, by omega⟩ ⟨by omega, by omega⟩ (fun c_5 => ?_) (fun c_5 => ?_)
      · skip
        refine V_bipush (pc := 27) X dX10_layHours_27 (by decide) ?_
        refine V_istore_n (pc := 29) X dX10_layHours_29 (by exact Nat.le_of_ble_eq_true rfl) (by first | rfl | ((repeat (refine z_nl_set ?_ (by first | exact (show (0 : Nat) ≠ 1 by decide) | exact (show (2 : Nat) ≠ 1 by decide)))); first | rfl | (simp [z_nl, hz3, hz4]; done) | (simp [z_nl, hz4]; done) | (simp [z_nl, hz5]; done))) ?_
        have lp_30 : ∀ (m : Nat) (n : Nat) (F : Int → Int) (z3 z4 : Nat × Int), 8 - n < m → n ≤ 8 → (∀ m : Nat, m ≤ n → ∀ u, 0 ≤ u → u < 84 → F (9 * u + 8 - (m : Int)) = r_D h c m u) → ¬ z3.1 = 1 → ¬ z4.1 = 1 → z_V Γ (107, 0, 0) 30 [(2, 89), (0, c), (0, 7 - (n : Int)), z3, z4] [] (z_rw h 105 F) := by
          intro m
          induction m with
          | zero => intro n F z3 z4 hm; exact absurd hm (Nat.not_lt_zero _)
          | succ m ih_30 =>
            intro n F z3 z4 hm hn hF hz3 hz4
            refine V_iload_n (pc := 30) X dX10_layHours_30 rfl ?_
            refine V_if_lt (pc := 31) X 113 dX10_layHours_31 (by decide) ⟨by omega, by omega⟩ (fun c_31 => ?_) (fun c_31 => ?_)
            · skip
              refine V_vret (st := []) (pc := 113) X hQ dX10_layHours_113 rfl rfl ?_
              exact ⟨rfl, F, fun m hm u a b => hF m (by omega) u a b, rfl⟩
            · skip
              refine V_iconst (pc := 34) X dX10_layHours_34 ?_
              refine V_istore_n (pc := 35) X dX10_layHours_35 (by exact Nat.le_of_ble_eq_true rfl) (by first | rfl | ((repeat (refine z_nl_set ?_ (by first | exact (show (0 : Nat) ≠ 1 by decide) | exact (show (2 : Nat) ≠ 1 by decide)))); first | rfl | (simp [z_nl, hz3, hz4]; done) | (simp [z_nl, hz4]; done) | (simp [z_nl, hz5]; done))) ?_
              have lp_36 : ∀ (m : Nat) (t : Int) (F2 : Int → Int) (z5 : Nat × Int), (84 - t).toNat < m → 0 ≤ t → t ≤ 84 → (∀ m : Nat, m ≤ n → ∀ u, 0 ≤ u → u < 84 → F2 (9 * u + 8 - (m : Int)) = r_D h c m u) → (∀ u, 0 ≤ u → u < t → F2 (9 * u + 7 - (n : Int)) = r_D h c (n + 1) u) → ¬ z5.1 = 1 → z_V Γ (107, 0, 0) 36 [(2, 89), (0, c), (0, 7 - (n : Int)), (0, t), z5] [] (z_rw h 105 F2) := by
                intro m
                induction m with
                | zero => intro t F2 z5 hm; exact absurd hm (Nat.not_lt_zero _)
                | succ m ih_36 =>
                  intro t F2 z5 hm ht0 ht1 hF1 hF2 hz5
                  have hOE : r_Ob (z_rw h 105 F2) := hO.rw_ (by decide)
                  have hPE : r_Pl (z_rw h 105 F2) := hP.rw_ (by decide) (by decide) (by decide)
                  have h92 : (z_rw h 105 F2) 92 = h 92 := z_rw_ne _ _ (by decide)
                  have hTE : r_Mt ((z_rw h 105 F2) 92) := by rw [h92]; exact hT
                  have hon : ∀ x y k, r_on (z_rw h 105 F2) ((z_rw h 105 F2) 92) x y k = r_on h (h 92) x y k := fun x y k => by rw [h92]; exact r_on_cg (r_Same.rw_ h _ (by decide) (by decide) (by decide)) hP (r_TE.rf _) x y k
                  refine V_iload_n (pc := 36) X dX10_layHours_36 rfl ?_
                  refine V_bipush (pc := 37) X dX10_layHours_37 (by decide) ?_
                  refine V_icmp_ge (pc := 39) X 107 dX10_layHours_39 (by decide) ⟨by omega, by omega⟩ ⟨by omega, by omega⟩ (fun c_39 => ?_) (fun c_39 => ?_)
                  · skip
                    refine V_iinc (pc := 107) X dX10_layHours_107 rfl (by first | rfl | ((repeat (refine z_nl_set ?_ (by first | exact (show (0 : Nat) ≠ 1 by decide) | exact (show (2 : Nat) ≠ 1 by decide)))); first | rfl | (simp [z_nl, hz3, hz4]; done) | (simp [z_nl, hz4]; done) | (simp [z_nl, hz5]; done))) ?_
                    refine V_goto (pc := 110) X 30 dX10_layHours_110 (by decide) ?_
                    refine V_loc ?_ (ih_30 (n + 1) F2 (0, 84) z5 (by omega) (by omega) (fun m hm u a b => ?_) (by show ¬ (0 : Nat) = 1; decide) hz5)
                    · show [_, _, _, _, _] = [_, _, _, _, _]
                      rw [show 7 - ((n + 1 : Nat) : Int) = 7 - (n : Int) + (-1) by omega, show t = 84 by omega]
                    · by_cases e : m = n + 1
                      · subst e
                        rw [show 9 * u + 8 - ((n + 1 : Nat) : Int) = 9 * u + 7 - (n : Int) by omega]
                        exact hF2 u a (by omega)
                      · exact hF1 m (by omega) u a b
                  · skip
                    refine V_joinS 59 (fun z => z = z_b (r_std h c (7 - (n : Int)) t)) (fun J => ?_) (fun z8 hz8 => ?_)
                    · skip
                      refine V_aload_n (pc := 42) X dX10_layHours_42 rfl (by first | decide | omega | assumption) ?_
                      refine V_iload_n (pc := 43) X dX10_layHours_43 rfl ?_
                      refine V_iload_n (pc := 44) X dX10_layHours_44 rfl ?_
                      refine V_FV (pc := 45) X dX10_layHours_45 oX10_lightAt l_RX10_246 eX10_lightAt vX10_lightAt ⟨Nat.le_of_ble_eq_true rfl, Nat.le_of_ble_eq_true rfl⟩ ⟨rfl, rfl⟩ ⟨Nat.le_of_ble_eq_true rfl, Nat.le_of_ble_eq_true rfl⟩ (ct_X10_lightAt hOE hPE hTE (by omega) (by omega) (by omega) (by omega)) rfl (by first | rfl | assumption | (simp only [*]; done) | omega) (by intro q h; cases h; rfl) rfl (by rfl) (by exact Nat.le_of_ble_eq_true rfl) ?_
                      rw [hon]
                      have hlr := r_on_rng hP (T := h 92) (x := t / 7) (y := t % 7) (k := 7 - (n : Int))
                      have har := z_and_rngL (x := (r_on h (h 92) (t / 7) (t % 7) (7 - (n : Int)))) (y := c) hlr.1 (by omega)
                      refine V_iload_n (pc := 48) X dX10_layHours_48 rfl ?_
                      refine V_iand (pc := 49) X dX10_layHours_49 ?_
                      refine V_iload_n (pc := 50) X dX10_layHours_50 rfl ?_
                      refine V_icmp_ne (pc := 51) X 58 dX10_layHours_51 (by decide) ⟨by omega, by omega⟩ ⟨by omega, by omega⟩ (fun c_51 => ?_) (fun c_51 => ?_)
                      · skip
                        refine V_iconst (pc := 58) X dX10_layHours_58 ?_
                        exact J _ (by unfold z_b r_std; first | rw [if_pos (decide_eq_true c_51)] | rw [if_neg (by rw [decide_eq_false c_51]; decide)])
                      · skip
                        refine V_iconst (pc := 54) X dX10_layHours_54 ?_
                        refine V_goto (pc := 55) X 59 dX10_layHours_55 (by decide) ?_
                        exact J _ (by unfold z_b r_std; first | rw [if_pos (decide_eq_true c_51)] | rw [if_neg (by rw [decide_eq_false c_51]; decide)])
                    · skip
                      subst hz8
                      refine V_istore (pc := 59) X dX10_layHours_59 (by exact Nat.le_of_ble_eq_true rfl) (by first | rfl | ((repeat (refine z_nl_set ?_ (by first | exact (show (0 : Nat) ≠ 1 by decide) | exact (show (2 : Nat) ≠ 1 by decide)))); first | rfl | (simp [z_nl, hz3, hz4]; done) | (simp [z_nl, hz4]; done) | (simp [z_nl, hz5]; done))) ?_
                      refine V_aload_n (pc := 61) X dX10_layHours_61 rfl (by first | decide | omega | assumption) ?_
                      refine V_gz (pc := 62) X dX10_layHours_62 f_RX10_63 (by first | rfl | assumption | (simp only [*]; done) | omega) 32 rfl (show _ = (105 : Int) from by first | exact rb32 | ((repeat (first | rw [z_st_at] | rw [z_st_slot _ (by decide)] | rw [z_st_cell _ (by decide)] | rw [z_rw_ne _ _ (by decide)] | rw [r_rem_s (by decide)] | rw [r_rem_c (by decide) (by decide)] | rw [r_cp_ne (by decide)])); exact rb32)) ?_
                      refine V_bipush (pc := 65) X dX10_layHours_65 (by decide) ?_
                      refine V_iload_n (pc := 67) X dX10_layHours_67 rfl ?_
                      refine V_imul (pc := 68) X dX10_layHours_68 ?_
                      refine V_iload_n (pc := 69) X dX10_layHours_69 rfl ?_
                      refine V_iadd (pc := 70) X dX10_layHours_70 ?_
                      refine V_joinS 100 (fun z => z = r_D h c (n + 1) t) (fun J => ?_) (fun z9 hz9 => ?_)
                      · skip
                        refine V_iload (pc := 71) X dX10_layHours_71 rfl ?_
                        refine V_bif_eq (pc := 73) X 99 dX10_layHours_73 (by decide)  (fun c_73 => ?_) (fun c_73 => ?_)
                        · skip
                          refine V_iconst (pc := 99) X dX10_layHours_99 ?_
                          exact J _ (by rw [r_D_s]; first | rw [if_pos c_73] | rw [if_neg (by rw [c_73]; decide)])
                        · skip
                          refine V_iconst (pc := 76) X dX10_layHours_76 ?_
                          refine V_aload_n (pc := 77) X dX10_layHours_77 rfl (by first | decide | omega | assumption) ?_
                          refine V_gz (pc := 78) X dX10_layHours_78 f_RX10_63 (by first | rfl | assumption | (simp only [*]; done) | omega) 32 rfl (show _ = (105 : Int) from by first | exact rb32 | ((repeat (first | rw [z_st_at] | rw [z_st_slot _ (by decide)] | rw [z_st_cell _ (by decide)] | rw [z_rw_ne _ _ (by decide)] | rw [r_rem_s (by decide)] | rw [r_rem_c (by decide) (by decide)] | rw [r_cp_ne (by decide)])); exact rb32)) ?_
                          refine V_bipush (pc := 81) X dX10_layHours_81 (by decide) ?_
                          refine V_aload_n (pc := 83) X dX10_layHours_83 rfl (by first | decide | omega | assumption) ?_
                          refine V_iload_n (pc := 84) X dX10_layHours_84 rfl ?_
                          refine V_iload_n (pc := 85) X dX10_layHours_85 rfl ?_
                          refine V_FV (pc := 86) X dX10_layHours_86 oX10_nextTile l_RX10_258 eX10_nextTile vX10_nextTile ⟨Nat.le_of_ble_eq_true rfl, Nat.le_of_ble_eq_true rfl⟩ ⟨rfl, rfl⟩ ⟨Nat.le_of_ble_eq_true rfl, Nat.le_of_ble_eq_true rfl⟩ (ct_X10_nextTile (f := r_D h c n) hOE (by omega) (by omega) (by omega) (by omega) (fun u a b => ⟨by rw [z_rw_at, show 9 * u + (7 - (n : Int)) + 1 = 9 * u + 8 - (n : Int) by omega]; exact hF1 n (Nat.le_refl n) u a b, (r_D_rng h c n u).1, by have := (r_D_rng h c n u).2; omega⟩)) rfl (by first | rfl | assumption | (simp only [*]; done) | omega) (by intro q h; cases h; rfl) rfl (by rfl) (by exact Nat.le_of_ble_eq_true rfl) ?_
                          have hnt := r_nt_rng (f := r_D h c n) (t := t) (by omega) (by omega)
                          refine V_imul (pc := 89) X dX10_layHours_89 ?_
                          refine V_iload_n (pc := 90) X dX10_layHours_90 rfl ?_
                          refine V_iadd (pc := 91) X dX10_layHours_91 ?_
                          refine V_iconst (pc := 92) X dX10_layHours_92 ?_
                          refine V_iadd (pc := 93) X dX10_layHours_93 ?_
                          refine V_iald (pc := 94) X dX10_layHours_94 (by first | rfl | assumption | (simp only [*]; done) | omega) (by omega) (by omega) (by decide) ?_
                          rw [show (z_rw h 105 F2) 105 (9 * (r_nt (r_D h c n) t) + (7 - (n : Int)) + 1) = r_D h c n (r_nt (r_D h c n) t) from by rw [z_rw_at, show 9 * (r_nt (r_D h c n) t) + (7 - (n : Int)) + 1 = 9 * (r_nt (r_D h c n) t) + 8 - (n : Int) by omega]; exact hF1 n (Nat.le_refl n) _ hnt.1 hnt.2]
                          refine V_iadd (pc := 95) X dX10_layHours_95 ?_
                          refine V_goto (pc := 96) X 100 dX10_layHours_96 (by decide) ?_
                          exact J _ (by rw [r_D_s]; first | rw [if_pos c_73] | rw [if_neg (by rw [c_73]; decide)])
                      · skip
                        subst hz9
                        refine V_iast (pc := 100) X dX10_layHours_100 (by first | rfl | assumption | (simp only [*]; done) | omega) (by omega) (by omega) (by decide) ?_
                        rw [z_rw_st]
                        refine V_iinc (pc := 101) X dX10_layHours_101 rfl (by first | rfl | ((repeat (refine z_nl_set ?_ (by first | exact (show (0 : Nat) ≠ 1 by decide) | exact (show (2 : Nat) ≠ 1 by decide)))); first | rfl | (simp [z_nl, hz3, hz4]; done) | (simp [z_nl, hz4]; done) | (simp [z_nl, hz5]; done))) ?_
                        refine V_goto (pc := 104) X 36 dX10_layHours_104 (by decide) ?_
                        refine V_loc ?_ (ih_36 (t + 1) _ (0, z_b (r_std h c (7 - (n : Int)) t)) (by omega) (by omega) (by omega) (fun m hm u a b => ?_) (fun u a b => ?_) (show ¬ (0 : Nat) = 1 by decide))
                        · rfl
                        · show (if 9 * u + 8 - (m : Int) = 9 * t + (7 - (n : Int)) then r_D h c (n + 1) t else F2 (9 * u + 8 - (m : Int))) = r_D h c m u
                          rw [if_neg (by omega)]
                          exact hF1 m hm u a b
                        · show (if 9 * u + 7 - (n : Int) = 9 * t + (7 - (n : Int)) then r_D h c (n + 1) t else F2 (9 * u + 7 - (n : Int))) = r_D h c (n + 1) u
                          by_cases e : u = t
                          · rw [if_pos (by omega), e]
                          · rw [if_neg (by omega)]
                            exact hF2 u a (by omega)
              exact lp_36 _ 0 F z4 (Nat.lt_succ_self _) (by decide) (by decide) hF (by intro u a b; omega) hz4
        exact lp_30 _ 0 F (9, 0) (9, 0) (Nat.lt_succ_self _) (by decide) (fun m hm u a b => by (obtain rfl : m = 0 := by omega); rw [show 9 * u + 8 - ((0 : Nat) : Int) = 9 * u + 8 by omega]; exact hF u a (by omega)) (by decide) (by decide)
      · skip
        refine V_aload_n (pc := 8) X dX10_layHours_8 rfl (by first | decide | omega | assumption) ?_
        refine V_gz (pc := 9) X dX10_layHours_9 f_RX10_63 (by first | rfl | assumption | (simp only [*]; done) | omega) 32 rfl (show _ = (105 : Int) from by first | exact rb32 | ((repeat (first | rw [z_st_at] | rw [z_st_slot _ (by decide)] | rw [z_st_cell _ (by decide)] | rw [z_rw_ne _ _ (by decide)] | rw [r_rem_s (by decide)] | rw [r_rem_c (by decide) (by decide)] | rw [r_cp_ne (by decide)])); exact rb32)) ?_
        refine V_bipush (pc := 12) X dX10_layHours_12 (by decide) ?_
        refine V_iload_n (pc := 14) X dX10_layHours_14 rfl ?_
        refine V_imul (pc := 15) X dX10_layHours_15 ?_
        refine V_bipush (pc := 16) X dX10_layHours_16 (by decide) ?_
        refine V_iadd (pc := 18) X dX10_layHours_18 ?_
        refine V_iconst (pc := 19) X dX10_layHours_19 ?_
        refine V_iast (pc := 20) X dX10_layHours_20 (by first | rfl | assumption | (simp only [*]; done) | omega) (by omega) (by omega) (by decide) ?_
        rw [z_rw_st]
        refine V_iinc (pc := 21) X dX10_layHours_21 rfl (by first | rfl | ((repeat (refine z_nl_set ?_ (by first | exact (show (0 : Nat) ≠ 1 by decide) | exact (show (2 : Nat) ≠ 1 by decide)))); first | rfl | (simp [z_nl, hz3, hz4]; done) | (simp [z_nl, hz4]; done) | (simp [z_nl, hz5]; done))) ?_
        refine V_goto (pc := 24) X 2 dX10_layHours_24 (by decide) ?_
        exact ih_2 (t + 1) _ (by omega) (by omega) (by omega) (fun u a b => by
          show (if 9 * u + 8 = 9 * t + 8 then (0 : Int) else F (9 * u + 8)) = 0
          by_cases e : u = t
          · rw [if_pos (by omega)]
          · rw [if_neg (by omega)]; exact hF u a (by omega))
  refine V_heap (h' := z_rw h 105 (h 105)) (z_rw_same h 105).symm ?_
  exact lp_2 _ 0 (h 105) (Nat.lt_succ_self _) (by decide) (by decide) (by intro u a b; omega)
set_option maxHeartbeats 4000000 in
set_option maxRecDepth 100000 in
theorem ct_X10_child {h : z_H} (hO : r_Ob h) (hP : r_Pl h) (hT : r_Mt (h 92)) {x y k c j : Int} (hx : z_R x) (hy : z_R y) (hk : z_R k) (hc : z_R c) (hj : z_R j) : z_Ct mX10_child 107 [(2, 89), (0, x), (0, y), (0, k), (0, c), (0, j)] h (fun r h2 => (¬ (c_tile x y = true ∧ c_hour k = true ∧ (1 ≤ c ∧ c ≤ 7) ∧ -1 ≤ j ∧ j ≤ 7) ∧ r = some (0, -1) ∧ h2 = h) ∨ ((c_tile x y = true ∧ c_hour k = true ∧ (1 ≤ c ∧ c ≤ 7) ∧ -1 ≤ j ∧ j ≤ 7) ∧ ∃ F : Int → Int, r = some (0, if j = -1 then (r_D h c (8 - k.toNat) (7 * x + y)) else if j < (r_D h c (8 - k.toNat) (7 * x + y)) then r_go h c k (7 * x + y) j.toNat else -9) ∧ h2 = z_rw h 105 F)) := by
  refine z_mk (L := [(2, 89), (0, x), (0, y), (0, k), (0, c), (0, j), (9, 0), (9, 0), (9, 0)]) oX10_child.2.2.2.2 (Nat.le_of_ble_eq_true rfl) rfl ?_
  intro Γ X hQ
  obtain ⟨rb2, rb3, rb5, rb6, rb7, rb9, rb10, rb11, rb12, rb13, rb15, rb25, rb26, rb30, rb31, rb32, rb33⟩ := id hO
  obtain ⟨⟨hw1, hw2⟩, ⟨hh1, hh2⟩, ⟨hs1, hs2⟩, hgl, hco⟩ := id hP
  obtain ⟨tw, ⟨tb1, tb2⟩, ⟨tm1, tm2⟩, ⟨ts1, ts2⟩⟩ := id hT
  have kc : z_kd 107 92 = (1, 11) := rfl
  obtain ⟨hx1, hx2⟩ := hx
  obtain ⟨hy1, hy2⟩ := hy
  obtain ⟨hk1, hk2⟩ := hk
  obtain ⟨hc1, hc2⟩ := hc
  obtain ⟨hj1, hj2⟩ := hj
  refine V_iload_n (pc := 0) X dX10_child_0 rfl ?_
  refine V_iload_n (pc := 1) X dX10_child_1 rfl ?_
  refine V_FS (pc := 2) X dX10_child_2 oX10_isTile l_RX10_237 sX10_isTile ⟨Nat.le_of_ble_eq_true rfl, Nat.le_of_ble_eq_true rfl⟩ ⟨rfl, rfl⟩ ⟨Nat.le_of_ble_eq_true rfl, Nat.le_of_ble_eq_true rfl⟩ (ct_X10_isTile ⟨by omega, by omega⟩ ⟨by omega, by omega⟩) rfl (by rfl) (by exact Nat.le_of_ble_eq_true rfl) ?_
  refine V_bif_eq (pc := 5) X 43 dX10_child_5 (by decide)  (fun c_5 => ?_) (fun c_5 => ?_)
  · skip
    refine V_iconst (pc := 43) X dX10_child_43 ?_
    refine V_iret (st := []) (pc := 44) X hQ dX10_child_44 rfl rfl ?_
    exact Or.inl ⟨by intro g; obtain ⟨g1, g2, g3, g4, g5⟩ := g; first | (rw [c_5] at g1; exact absurd g1 (by decide)) | (rw [c_12] at g2; exact absurd g2 (by decide)) | (have := of_decide_eq_false c_25; omega) | (have := of_decide_eq_false c_40; omega), rfl, rfl⟩
  · skip
    refine V_iload_n (pc := 8) X dX10_child_8 rfl ?_
    refine V_FS (pc := 9) X dX10_child_9 oX10_isHour l_RX10_240 sX10_isHour ⟨Nat.le_of_ble_eq_true rfl, Nat.le_of_ble_eq_true rfl⟩ ⟨rfl, rfl⟩ ⟨Nat.le_of_ble_eq_true rfl, Nat.le_of_ble_eq_true rfl⟩ (ct_X10_isHour ⟨by omega, by omega⟩) rfl (by rfl) (by exact Nat.le_of_ble_eq_true rfl) ?_
    refine V_bif_eq (pc := 12) X 43 dX10_child_12 (by decide)  (fun c_12 => ?_) (fun c_12 => ?_)
    · skip
      refine V_iconst (pc := 43) X dX10_child_43 ?_
      refine V_iret (st := []) (pc := 44) X hQ dX10_child_44 rfl rfl ?_
      exact Or.inl ⟨by intro g; obtain ⟨g1, g2, g3, g4, g5⟩ := g; first | (rw [c_5] at g1; exact absurd g1 (by decide)) | (rw [c_12] at g2; exact absurd g2 (by decide)) | (have := of_decide_eq_false c_25; omega) | (have := of_decide_eq_false c_40; omega), rfl, rfl⟩
    · skip
      refine V_iload (pc := 15) X dX10_child_15 rfl ?_
      refine V_i2l (pc := 17) X dX10_child_17 ⟨by omega, by omega⟩ ?_
      refine V_lconst (pc := 18) (z := 1) X dX10_child_18 (by decide) ?_
      refine V_ldc2 (pc := 19) X (7) dX10_child_19 c_RX10_170 (by decide) ?_
      refine V_FS (pc := 22) X dX10_child_22 oX10_in l_RX10_81 sX10_in ⟨Nat.le_of_ble_eq_true rfl, Nat.le_of_ble_eq_true rfl⟩ ⟨rfl, rfl⟩ ⟨Nat.le_of_ble_eq_true rfl, Nat.le_of_ble_eq_true rfl⟩ (ct_X10_in ⟨by omega, by omega⟩ ⟨by omega, by omega⟩ ⟨by omega, by omega⟩) rfl (by rfl) (by exact Nat.le_of_ble_eq_true rfl) ?_
      refine V_bif_eq (pc := 25) X 43 dX10_child_25 (by decide)  (fun c_25 => ?_) (fun c_25 => ?_)
      · skip
        refine V_iconst (pc := 43) X dX10_child_43 ?_
        refine V_iret (st := []) (pc := 44) X hQ dX10_child_44 rfl rfl ?_
        exact Or.inl ⟨by intro g; obtain ⟨g1, g2, g3, g4, g5⟩ := g; first | (rw [c_5] at g1; exact absurd g1 (by decide)) | (rw [c_12] at g2; exact absurd g2 (by decide)) | (have := of_decide_eq_false c_25; omega) | (have := of_decide_eq_false c_40; omega), rfl, rfl⟩
      · skip
        refine V_iload (pc := 28) X dX10_child_28 rfl ?_
        refine V_i2l (pc := 30) X dX10_child_30 ⟨by omega, by omega⟩ ?_
        refine V_ldc2 (pc := 31) X (-1) dX10_child_31 c_RX10_261 (by decide) ?_
        refine V_ldc2 (pc := 34) X (7) dX10_child_34 c_RX10_170 (by decide) ?_
        refine V_FS (pc := 37) X dX10_child_37 oX10_in l_RX10_81 sX10_in ⟨Nat.le_of_ble_eq_true rfl, Nat.le_of_ble_eq_true rfl⟩ ⟨rfl, rfl⟩ ⟨Nat.le_of_ble_eq_true rfl, Nat.le_of_ble_eq_true rfl⟩ (ct_X10_in ⟨by omega, by omega⟩ ⟨by omega, by omega⟩ ⟨by omega, by omega⟩) rfl (by rfl) (by exact Nat.le_of_ble_eq_true rfl) ?_
        refine V_bif_ne (pc := 40) X 45 dX10_child_40 (by decide)  (fun c_40 => ?_) (fun c_40 => ?_)
        · skip
          have tb1 := of_decide_eq_true c_5
          have tb2 := of_decide_eq_true c_12
          have tb3 := of_decide_eq_true c_25
          have tb4 := of_decide_eq_true c_40
          refine V_aload_n (pc := 45) X dX10_child_45 rfl (by first | decide | omega | assumption) ?_
          refine V_iload (pc := 46) X dX10_child_46 rfl ?_
          refine V_CV (pc := 48) X dX10_child_48 oX10_layHours l_RX10_263 eX10_layHours vX10_layHours ⟨Nat.le_of_ble_eq_true rfl, Nat.le_of_ble_eq_true rfl⟩ ⟨rfl, rfl⟩ ⟨Nat.le_of_ble_eq_true rfl, Nat.le_of_ble_eq_true rfl⟩ (ct_X10_layHours hO hP hT (by omega) (by omega)) rfl (by first | rfl | assumption | (simp only [*]; done) | omega) (by intro q h; cases h; rfl) rfl (by rfl) (by exact Nat.le_of_ble_eq_true rfl) (fun r h1 hp => ?_)
          obtain ⟨rfl, F, hF, rfl⟩ := hp
          have hOE : r_Ob (z_rw h 105 F) := hO.rw_ (by decide)
          have hmr := r_D_rng h c (8 - k.toNat) (7 * x + y)
          refine V_bipush (pc := 51) X dX10_child_51 (by decide) ?_
          refine V_iload_n (pc := 53) X dX10_child_53 rfl ?_
          refine V_imul (pc := 54) X dX10_child_54 ?_
          refine V_iload_n (pc := 55) X dX10_child_55 rfl ?_
          refine V_iadd (pc := 56) X dX10_child_56 ?_
          refine V_istore (pc := 57) X dX10_child_57 (by exact Nat.le_of_ble_eq_true rfl) rfl ?_
          refine V_aload_n (pc := 59) X dX10_child_59 rfl (by first | decide | omega | assumption) ?_
          refine V_gz (pc := 60) X dX10_child_60 f_RX10_63 (by first | rfl | assumption | (simp only [*]; done) | omega) 32 rfl (show _ = (105 : Int) from by first | exact rb32 | ((repeat (first | rw [z_st_at] | rw [z_st_slot _ (by decide)] | rw [z_st_cell _ (by decide)] | rw [z_rw_ne _ _ (by decide)] | rw [r_rem_s (by decide)] | rw [r_rem_c (by decide) (by decide)] | rw [r_cp_ne (by decide)])); exact rb32)) ?_
          refine V_bipush (pc := 63) X dX10_child_63 (by decide) ?_
          refine V_iload (pc := 65) X dX10_child_65 rfl ?_
          refine V_imul (pc := 67) X dX10_child_67 ?_
          refine V_iload_n (pc := 68) X dX10_child_68 rfl ?_
          refine V_iadd (pc := 69) X dX10_child_69 ?_
          refine V_iald (pc := 70) X dX10_child_70 (by first | rfl | assumption | (simp only [*]; done) | omega) (by omega) (by omega) (by decide) ?_
          rw [show z_rw h 105 F 105 (9 * (7 * x + y) + k) = (r_D h c (8 - k.toNat) (7 * x + y)) from by rw [z_rw_at, ← hF (8 - k.toNat) (by omega) (7 * x + y) (by omega) (by omega)]; congr 1; omega]
          refine V_istore (pc := 71) X dX10_child_71 (by exact Nat.le_of_ble_eq_true rfl) rfl ?_
          refine V_iload (pc := 73) X dX10_child_73 rfl ?_
          refine V_iconst (pc := 75) X dX10_child_75 ?_
          refine V_icmp_ne (pc := 76) X 82 dX10_child_76 (by decide) ⟨by omega, by omega⟩ ⟨by omega, by omega⟩ (fun c_76 => ?_) (fun c_76 => ?_)
          · skip
            refine V_iload (pc := 82) X dX10_child_82 rfl ?_
            refine V_iload (pc := 84) X dX10_child_84 rfl ?_
            refine V_icmp_lt (pc := 86) X 92 dX10_child_86 (by decide) ⟨by omega, by omega⟩ ⟨by omega, by omega⟩ (fun c_86 => ?_) (fun c_86 => ?_)
            · skip
              refine V_iconst (pc := 92) X dX10_child_92 ?_
              refine V_istore (pc := 93) X dX10_child_93 (by exact Nat.le_of_ble_eq_true rfl) rfl ?_
              have lp_95 : ∀ (m : Nat) (e : Nat), (j - (e : Int)).toNat < m → (e : Int) ≤ j → z_V Γ (107, 0, 0) 95 [(2, 89), (0, x), (0, y), (0, k), (0, c), (0, j), (0, r_go h c k (7 * x + y) e), (0, (r_D h c (8 - k.toNat) (7 * x + y))), (0, (e : Int))] [] (z_rw h 105 F) := by
                intro m
                induction m with
                | zero => intro e hm; exact absurd hm (Nat.not_lt_zero _)
                | succ m ih_95 =>
                  intro e hm he1
                  have hgr := r_go_rng (h := h) (c := c) (k := k) (t := (7 * x + y)) (by omega) (by omega) e
                  refine V_iload (pc := 95) X dX10_child_95 rfl ?_
                  refine V_iload (pc := 97) X dX10_child_97 rfl ?_
                  refine V_icmp_ge (pc := 99) X 120 dX10_child_99 (by decide) ⟨by omega, by omega⟩ ⟨by omega, by omega⟩ (fun c_99 => ?_) (fun c_99 => ?_)
                  · skip
                    refine V_iload (pc := 120) X dX10_child_120 rfl ?_
                    refine V_iret (st := []) (pc := 122) X hQ dX10_child_122 rfl rfl ?_
                    exact Or.inr ⟨⟨c_5, c_12, tb3, tb4.1, tb4.2⟩, F, by rw [if_neg c_76, if_pos (by omega), show e = j.toNat by omega], rfl⟩
                  · skip
                    refine V_aload_n (pc := 102) X dX10_child_102 rfl (by first | decide | omega | assumption) ?_
                    refine V_iload (pc := 103) X dX10_child_103 rfl ?_
                    refine V_iload_n (pc := 105) X dX10_child_105 rfl ?_
                    refine V_iload (pc := 106) X dX10_child_106 rfl ?_
                    refine V_iadd (pc := 108) X dX10_child_108 ?_
                    refine V_FV (pc := 109) X dX10_child_109 oX10_nextTile l_RX10_258 eX10_nextTile vX10_nextTile ⟨Nat.le_of_ble_eq_true rfl, Nat.le_of_ble_eq_true rfl⟩ ⟨rfl, rfl⟩ ⟨Nat.le_of_ble_eq_true rfl, Nat.le_of_ble_eq_true rfl⟩ (ct_X10_nextTile (f := r_D h c (7 - (k.toNat + e))) hOE (by omega) (by omega) (by omega) (by omega) (fun u a b => ⟨by rw [z_rw_at, ← hF (7 - (k.toNat + e)) (by omega) u a b]; congr 1; omega, (r_D_rng h c _ u).1, by have := (r_D_rng h c (7 - (k.toNat + e)) u).2; omega⟩)) rfl (by first | rfl | assumption | (simp only [*]; done) | omega) (by intro q h; cases h; rfl) rfl (by rfl) (by exact Nat.le_of_ble_eq_true rfl) ?_
                    refine V_istore (pc := 112) X dX10_child_112 (by exact Nat.le_of_ble_eq_true rfl) rfl ?_
                    refine V_iinc (pc := 114) X dX10_child_114 rfl rfl ?_
                    refine V_goto (pc := 117) X 95 dX10_child_117 (by decide) ?_
                    exact ih_95 (e + 1) (by omega) (by omega)
              exact lp_95 _ 0 (Nat.lt_succ_self _) (by omega)
            · skip
              refine V_bipush (pc := 89) X dX10_child_89 (by decide) ?_
              refine V_iret (st := []) (pc := 91) X hQ dX10_child_91 rfl rfl ?_
              exact Or.inr ⟨⟨c_5, c_12, tb3, tb4.1, tb4.2⟩, F, by rw [if_neg c_76, if_neg c_86], rfl⟩
          · skip
            refine V_iload (pc := 79) X dX10_child_79 rfl ?_
            refine V_iret (st := []) (pc := 81) X hQ dX10_child_81 rfl rfl ?_
            exact Or.inr ⟨⟨c_5, c_12, tb3, tb4.1, tb4.2⟩, F, by rw [if_pos c_76], rfl⟩
        · skip
          refine V_iconst (pc := 43) X dX10_child_43 ?_
          refine V_iret (st := []) (pc := 44) X hQ dX10_child_44 rfl rfl ?_
          exact Or.inl ⟨by intro g; obtain ⟨g1, g2, g3, g4, g5⟩ := g; first | (rw [c_5] at g1; exact absurd g1 (by decide)) | (rw [c_12] at g2; exact absurd g2 (by decide)) | (have := of_decide_eq_false c_25; omega) | (have := of_decide_eq_false c_40; omega), rfl, rfl⟩
