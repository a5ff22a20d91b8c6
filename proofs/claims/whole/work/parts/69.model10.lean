/-! PaneLightModel, 10: leads, paint -/
set_option maxHeartbeats 4000000 in
set_option maxRecDepth 100000 in
theorem ct_X10_layColours {h : z_H} (hO : r_Ob h) (hP : r_Pl h) (hT : r_Mt (h 92)) : z_Ct mX10_layColours 107 [(2, 89)] h (z_void (z_rw h 103 (r_lay h))) := by
  refine z_mk (L := [(2, 89), (9, 0)]) oX10_layColours.2.2.2.2 (Nat.le_of_ble_eq_true rfl) rfl ?_
  intro Γ X hQ
  obtain ⟨rb2, rb3, rb5, rb6, rb7, rb9, rb10, rb11, rb12, rb13, rb15, rb25, rb26, rb30, rb31, rb32, rb33⟩ := id hO
  obtain ⟨⟨hw1, hw2⟩, ⟨hh1, hh2⟩, ⟨hs1, hs2⟩, hgl, hco⟩ := id hP
  obtain ⟨tw, ⟨tb1, tb2⟩, ⟨tm1, tm2⟩, ⟨ts1, ts2⟩⟩ := id hT
  have kc : z_kd 107 92 = (1, 11) := rfl
  refine V_iconst (pc := 0) X dX10_layColours_0 ?_
  refine V_istore_n (pc := 1) X dX10_layColours_1 (by exact Nat.le_of_ble_eq_true rfl) rfl ?_
  have lp_2 : ∀ (m : Nat) (e : Int), (20 - e).toNat < m → 0 ≤ e → e ≤ 20 → z_V Γ (107, 0, 0) 2 [(2, 89), (0, e)] [] (z_rw h 103 (fun r => if 0 ≤ r ∧ r < e then r_cl h r else h 103 r)) := by
    intro m
    induction m with
    | zero => intro e hm; exact absurd hm (Nat.not_lt_zero _)
    | succ m ih_2 =>
      intro e hm he0 he1
      refine V_iload_n (pc := 2) X dX10_layColours_2 rfl ?_
      refine V_bipush (pc := 3) X dX10_layColours_3 (by decide) ?_
      refine V_icmp_ge (pc := 5) X 45 dX10_layColours_5 (by decide) ⟨by omega, by omega⟩ ⟨by omega, by omega⟩ (fun c_5 => ?_) (fun c_5 => ?_)
      · skip
        refine V_vret (st := []) (pc := 45) X hQ dX10_layColours_45 rfl rfl ?_
        exact ⟨rfl, by (obtain rfl : e = 20 := by omega); rfl⟩
      · skip
        refine V_aload_n (pc := 8) X dX10_layColours_8 rfl (by first | decide | omega | assumption) ?_
        refine V_gz (pc := 9) X dX10_layColours_9 f_RX10_57 (by first | rfl | assumption | (simp only [*]; done) | omega) 30 rfl (show _ = (103 : Int) from by first | exact rb30 | ((repeat (first | rw [z_st_at] | rw [z_st_slot _ (by decide)] | rw [z_st_cell _ (by decide)] | rw [z_rw_ne _ _ (by decide)] | rw [r_rem_s (by decide)] | rw [r_rem_c (by decide) (by decide)] | rw [r_cp_ne (by decide)])); exact rb30)) ?_
        refine V_iload_n (pc := 12) X dX10_layColours_12 rfl ?_
        refine V_joinS 38 (fun z => z = r_cl h e) (fun J => ?_) (fun z1 hz1 => ?_)
        · skip
          refine V_aload_n (pc := 13) X dX10_layColours_13 rfl (by first | decide | omega | assumption) ?_
          refine V_gz (pc := 14) X dX10_layColours_14 f_RX10_23 (by first | rfl | assumption | (simp only [*]; done) | omega) 5 rfl (show _ = (92 : Int) from by first | exact rb5 | ((repeat (first | rw [z_st_at] | rw [z_st_slot _ (by decide)] | rw [z_st_cell _ (by decide)] | rw [z_rw_ne _ _ (by decide)] | rw [r_rem_s (by decide)] | rw [r_rem_c (by decide) (by decide)] | rw [r_cp_ne (by decide)])); exact rb5)) ?_
          refine V_bipush (pc := 17) X dX10_layColours_17 (by decide) ?_
          refine V_iald (pc := 19) X dX10_layColours_19 (by first | rfl | assumption | (simp only [*]; done) | omega) (by omega) (by omega) (by decide) ?_
          rw [z_rw_ne _ _ (show (92 : Int) ≠ 103 by decide)]
          refine V_iload_n (pc := 20) X dX10_layColours_20 rfl ?_
          refine V_FS (pc := 21) X dX10_layColours_21 oX10_has l_RX10_172 sX10_has ⟨Nat.le_of_ble_eq_true rfl, Nat.le_of_ble_eq_true rfl⟩ ⟨rfl, rfl⟩ ⟨Nat.le_of_ble_eq_true rfl, Nat.le_of_ble_eq_true rfl⟩ (ct_X10_has (by omega) (by omega) (by omega) (by omega)) rfl (by rfl) (by exact Nat.le_of_ble_eq_true rfl) ?_
          refine V_bif_eq (pc := 24) X 32 dX10_layColours_24 (by decide)  (fun c_24 => ?_) (fun c_24 => ?_)
          · skip
            refine V_aload_n (pc := 32) X dX10_layColours_32 rfl (by first | decide | omega | assumption) ?_
            refine V_gz (pc := 33) X dX10_layColours_33 f_RX10_16 (by first | rfl | assumption | (simp only [*]; done) | omega) 2 rfl (show _ = (90 : Int) from by first | exact rb2 | ((repeat (first | rw [z_st_at] | rw [z_st_slot _ (by decide)] | rw [z_st_cell _ (by decide)] | rw [z_rw_ne _ _ (by decide)] | rw [r_rem_s (by decide)] | rw [r_rem_c (by decide) (by decide)] | rw [r_cp_ne (by decide)])); exact rb2)) ?_
            refine V_iload_n (pc := 36) X dX10_layColours_36 rfl ?_
            refine V_iald (pc := 37) X dX10_layColours_37 (by first | rfl | assumption | (simp only [*]; done) | omega) (by omega) (by omega) (by decide) ?_
            exact J _ (by unfold r_cl; first | (rw [if_pos c_24]; done) | (rw [if_neg (by rw [c_24]; decide), z_rw_ne _ _ (by decide)]))
          · skip
            refine V_bipush (pc := 27) X dX10_layColours_27 (by decide) ?_
            refine V_goto (pc := 29) X 38 dX10_layColours_29 (by decide) ?_
            exact J _ (by unfold r_cl; first | (rw [if_pos c_24]; done) | (rw [if_neg (by rw [c_24]; decide), z_rw_ne _ _ (by decide)]))
        · skip
          subst hz1
          refine V_iast (pc := 38) X dX10_layColours_38 (by first | rfl | assumption | (simp only [*]; done) | omega) (by omega) (by omega) (by decide) ?_
          rw [z_rw_st]
          refine V_iinc (pc := 39) X dX10_layColours_39 rfl rfl ?_
          refine V_goto (pc := 42) X 2 dX10_layColours_42 (by decide) ?_
          refine V_heap ?_ (ih_2 (e + 1) (by omega) (by omega) (by omega))
          congr 1
          funext r
          by_cases g : r = e
          · rw [if_pos g, if_pos (by omega), g]
          · rw [if_neg g]
            by_cases g2 : 0 ≤ r ∧ r < e
            · rw [if_pos g2, if_pos (by omega)]
            · rw [if_neg g2, if_neg (by omega)]
  refine V_heap (h' := z_rw h 103 (fun r => if 0 ≤ r ∧ r < 0 then r_cl h r else h 103 r)) (by rw [show (fun r => if 0 ≤ r ∧ r < 0 then r_cl h r else h 103 r) = h 103 from by funext r; rw [if_neg (by omega)]]; exact (z_rw_same h 103).symm) ?_
  exact lp_2 _ 0 (Nat.lt_succ_self _) (by decide) (by decide)
set_option maxHeartbeats 4000000 in
set_option maxRecDepth 100000 in
theorem ct_X10_unlike {h : z_H} (hO : r_Ob h) (hP : r_Pl h) (hPt : r_Pt (h 103)) {x y u v : Int} (x0 : 0 ≤ x) (x1 : x < 5) (y0 : 0 ≤ y) (y1 : y < 4) (u0 : -1 ≤ u) (u1 : u ≤ 5) (v0 : -1 ≤ v) (v1 : v ≤ 4) : z_Ct mX10_unlike 107 [(2, 89), (0, x), (0, y), (0, u), (0, v)] h (z_pure (0, z_b (r_unl h (h 103) x y u v)) h) := by
  refine z_mk (L := [(2, 89), (0, x), (0, y), (0, u), (0, v)]) oX10_unlike.2.2.2.2 (Nat.le_of_ble_eq_true rfl) rfl ?_
  intro Γ X hQ
  obtain ⟨rb2, rb3, rb5, rb6, rb7, rb9, rb10, rb11, rb12, rb13, rb15, rb25, rb26, rb30, rb31, rb32, rb33⟩ := id hO
  obtain ⟨⟨hw1, hw2⟩, ⟨hh1, hh2⟩, ⟨hs1, hs2⟩, hgl, hco⟩ := id hP
  refine V_aload_n (pc := 0) X dX10_unlike_0 rfl (by first | decide | omega | assumption) ?_
  refine V_iload_n (pc := 1) X dX10_unlike_1 rfl ?_
  refine V_iload (pc := 2) X dX10_unlike_2 rfl ?_
  refine V_FV (pc := 4) X dX10_unlike_4 oX10_isPane l_RX10_183 eX10_isPane vX10_isPane ⟨Nat.le_of_ble_eq_true rfl, Nat.le_of_ble_eq_true rfl⟩ ⟨rfl, rfl⟩ ⟨Nat.le_of_ble_eq_true rfl, Nat.le_of_ble_eq_true rfl⟩ (ct_X10_isPane hO hP ⟨by omega, by omega⟩ ⟨by omega, by omega⟩) rfl (by first | rfl | assumption | (simp only [*]; done) | omega) (by intro q h; cases h; rfl) rfl (by rfl) (by exact Nat.le_of_ble_eq_true rfl) ?_
  refine V_bif_eq (pc := 7) X 38 dX10_unlike_7 (by decide)  (fun c_7 => ?_) (fun c_7 => ?_)
  · skip
    refine V_iconst (pc := 38) X dX10_unlike_38 ?_
    refine V_zret (st := []) (pc := 39) X hQ dX10_unlike_39 rfl (by omega) rfl ?_
    exact z_pi (by unfold r_unl; first | (rw [c_7]; rfl) | (rw [c_7, decide_eq_true c_31]; rfl) | (rw [c_7, decide_eq_false c_31]; rfl))
  · skip
    have qp := of_decide_eq_true c_7
    have hp1 := hPt (4 * x + y) (by omega) (by omega)
    have hp2 := hPt (4 * u + v) (by omega) (by omega)
    refine V_aload_n (pc := 10) X dX10_unlike_10 rfl (by first | decide | omega | assumption) ?_
    refine V_gz (pc := 11) X dX10_unlike_11 f_RX10_57 (by first | rfl | assumption | (simp only [*]; done) | omega) 30 rfl (show _ = (103 : Int) from by first | exact rb30 | ((repeat (first | rw [z_st_at] | rw [z_st_slot _ (by decide)] | rw [z_st_cell _ (by decide)] | rw [z_rw_ne _ _ (by decide)] | rw [r_rem_s (by decide)] | rw [r_rem_c (by decide) (by decide)] | rw [r_cp_ne (by decide)])); exact rb30)) ?_
    refine V_iconst (pc := 14) X dX10_unlike_14 ?_
    refine V_iload_n (pc := 15) X dX10_unlike_15 rfl ?_
    refine V_imul (pc := 16) X dX10_unlike_16 ?_
    refine V_iload_n (pc := 17) X dX10_unlike_17 rfl ?_
    refine V_iadd (pc := 18) X dX10_unlike_18 ?_
    refine V_iald (pc := 19) X dX10_unlike_19 (by first | rfl | assumption | (simp only [*]; done) | omega) (by omega) (by omega) (by decide) ?_
    refine V_aload_n (pc := 20) X dX10_unlike_20 rfl (by first | decide | omega | assumption) ?_
    refine V_gz (pc := 21) X dX10_unlike_21 f_RX10_57 (by first | rfl | assumption | (simp only [*]; done) | omega) 30 rfl (show _ = (103 : Int) from by first | exact rb30 | ((repeat (first | rw [z_st_at] | rw [z_st_slot _ (by decide)] | rw [z_st_cell _ (by decide)] | rw [z_rw_ne _ _ (by decide)] | rw [r_rem_s (by decide)] | rw [r_rem_c (by decide) (by decide)] | rw [r_cp_ne (by decide)])); exact rb30)) ?_
    refine V_iconst (pc := 24) X dX10_unlike_24 ?_
    refine V_iload_n (pc := 25) X dX10_unlike_25 rfl ?_
    refine V_imul (pc := 26) X dX10_unlike_26 ?_
    refine V_iload (pc := 27) X dX10_unlike_27 rfl ?_
    refine V_iadd (pc := 29) X dX10_unlike_29 ?_
    refine V_iald (pc := 30) X dX10_unlike_30 (by first | rfl | assumption | (simp only [*]; done) | omega) (by omega) (by omega) (by decide) ?_
    refine V_icmp_eq (pc := 31) X 38 dX10_unlike_31 (by decide) ⟨by omega, by omega⟩ ⟨by omega, by omega⟩ (fun c_31 => ?_) (fun c_31 => ?_)
    · skip
      refine V_iconst (pc := 38) X dX10_unlike_38 ?_
      refine V_zret (st := []) (pc := 39) X hQ dX10_unlike_39 rfl (by omega) rfl ?_
      exact z_pi (by unfold r_unl; first | (rw [c_7]; rfl) | (rw [c_7, decide_eq_true c_31]; rfl) | (rw [c_7, decide_eq_false c_31]; rfl))
    · skip
      refine V_iconst (pc := 34) X dX10_unlike_34 ?_
      refine V_goto (pc := 35) X 39 dX10_unlike_35 (by decide) ?_
      refine V_zret (st := []) (pc := 39) X hQ dX10_unlike_39 rfl (by omega) rfl ?_
      exact z_pi (by unfold r_unl; first | (rw [c_7]; rfl) | (rw [c_7, decide_eq_true c_31]; rfl) | (rw [c_7, decide_eq_false c_31]; rfl))
set_option maxHeartbeats 4000000 in
set_option maxRecDepth 100000 in
theorem ct_X10_leads {h : z_H} (hO : r_Ob h) (hP : r_Pl h) (hPt : r_Pt (h 103)) : z_Ct mX10_leads 107 [(2, 89)] h (z_pure (0, r_leads h (h 103)) h) := by
  refine z_mk (L := [(2, 89), (9, 0), (9, 0), (9, 0)]) oX10_leads.2.2.2.2 (Nat.le_of_ble_eq_true rfl) rfl ?_
  intro Γ X hQ
  obtain ⟨rb2, rb3, rb5, rb6, rb7, rb9, rb10, rb11, rb12, rb13, rb15, rb25, rb26, rb30, rb31, rb32, rb33⟩ := id hO
  obtain ⟨⟨hw1, hw2⟩, ⟨hh1, hh2⟩, ⟨hs1, hs2⟩, hgl, hco⟩ := id hP
  refine V_iconst (pc := 0) X dX10_leads_0 ?_
  refine V_istore_n (pc := 1) X dX10_leads_1 (by exact Nat.le_of_ble_eq_true rfl) (by first | rfl | ((repeat (refine z_nl_set ?_ (by first | exact (show (0 : Nat) ≠ 1 by decide) | exact (show (2 : Nat) ≠ 1 by decide)))); first | rfl | (simp [z_nl, hz3]; done))) ?_
  refine V_iconst (pc := 2) X dX10_leads_2 ?_
  refine V_istore_n (pc := 3) X dX10_leads_3 (by exact Nat.le_of_ble_eq_true rfl) (by first | rfl | ((repeat (refine z_nl_set ?_ (by first | exact (show (0 : Nat) ≠ 1 by decide) | exact (show (2 : Nat) ≠ 1 by decide)))); first | rfl | (simp [z_nl, hz3]; done))) ?_
  have lp_4 : ∀ (m : Nat) (i : Nat) (z3 : Nat × Int), (h 89 0).toNat - i < m → i ≤ (h 89 0).toNat → ¬ z3.1 = 1 → z_V Γ (107, 0, 0) 4 [(2, 89), (0, (r_ldX h (h 103) i)), (0, (i : Int)), z3] [] h := by
    intro m
    induction m with
    | zero => intro i z3 hm; exact absurd hm (Nat.not_lt_zero _)
    | succ m ih_4 =>
      intro i z3 hm hi1 hz3
      have hxr := r_ldX_rng hP (h 103) i
      refine V_iload_n (pc := 4) X dX10_leads_4 rfl ?_
      refine V_aload_n (pc := 5) X dX10_leads_5 rfl (by first | decide | omega | assumption) ?_
      refine V_gz (pc := 6) X dX10_leads_6 f_RX10_7 (by first | rfl | assumption | (simp only [*]; done) | omega) 0 rfl rfl ?_
      refine V_icmp_ge (pc := 9) X 76 dX10_leads_9 (by decide) ⟨by omega, by omega⟩ ⟨by omega, by omega⟩ (fun c_9 => ?_) (fun c_9 => ?_)
      · skip
        refine V_iload_n (pc := 76) X dX10_leads_76 rfl ?_
        refine V_iret (st := []) (pc := 77) X hQ dX10_leads_77 rfl rfl ?_
        exact z_pi (by unfold r_leads; rw [show i = (h 89 0).toNat by omega])
      · skip
        refine V_iconst (pc := 12) X dX10_leads_12 ?_
        refine V_istore_n (pc := 13) X dX10_leads_13 (by exact Nat.le_of_ble_eq_true rfl) (by first | rfl | ((repeat (refine z_nl_set ?_ (by first | exact (show (0 : Nat) ≠ 1 by decide) | exact (show (2 : Nat) ≠ 1 by decide)))); first | rfl | (simp [z_nl, hz3]; done))) ?_
        have lp_14 : ∀ (m : Nat) (j : Nat), (h 89 1).toNat - j < m → j ≤ (h 89 1).toNat → z_V Γ (107, 0, 0) 14 [(2, 89), (0, (r_ldX h (h 103) i) + (r_ldY h (h 103) (i : Int) j)), (0, (i : Int)), (0, (j : Int))] [] h := by
          intro m
          induction m with
          | zero => intro j hm; exact absurd hm (Nat.not_lt_zero _)
          | succ m ih_14 =>
            intro j hm hj1
            have hyr := r_ldY_rng h (h 103) (i : Int) j
            refine V_iload_n (pc := 14) X dX10_leads_14 rfl ?_
            refine V_aload_n (pc := 15) X dX10_leads_15 rfl (by first | decide | omega | assumption) ?_
            refine V_gz (pc := 16) X dX10_leads_16 f_RX10_13 (by first | rfl | assumption | (simp only [*]; done) | omega) 1 rfl rfl ?_
            refine V_icmp_ge (pc := 19) X 70 dX10_leads_19 (by decide) ⟨by omega, by omega⟩ ⟨by omega, by omega⟩ (fun c_19 => ?_) (fun c_19 => ?_)
            · skip
              refine V_iinc (pc := 70) X dX10_leads_70 rfl (by first | rfl | ((repeat (refine z_nl_set ?_ (by first | exact (show (0 : Nat) ≠ 1 by decide) | exact (show (2 : Nat) ≠ 1 by decide)))); first | rfl | (simp [z_nl, hz3]; done))) ?_
              refine V_goto (pc := 73) X 4 dX10_leads_73 (by decide) ?_
              refine V_loc ?_ (ih_4 (i + 1) (0, (j : Int)) (by omega) (by omega) (show ¬ (0 : Nat) = 1 by decide))
              show [_, _, _, _] = [_, _, _, _]
              rw [show r_ldX h (h 103) (i + 1) = (r_ldX h (h 103) i) + (r_ldY h (h 103) (i : Int) j) from by show (r_ldX h (h 103) i) + r_ldY h (h 103) (i : Int) (h 89 1).toNat = _; rw [show (h 89 1).toNat = j by omega]]
              rfl
            · skip
              refine V_iload_n (pc := 22) X dX10_leads_22 rfl ?_
              refine V_joinS 41 (fun z => z = z_b (r_unl h (h 103) (i : Int) (j : Int) ((i : Int) + 1) (j : Int))) (fun J => ?_) (fun z1 hz1 => ?_)
              · skip
                refine V_aload_n (pc := 23) X dX10_leads_23 rfl (by first | decide | omega | assumption) ?_
                refine V_iload_n (pc := 24) X dX10_leads_24 rfl ?_
                refine V_iload_n (pc := 25) X dX10_leads_25 rfl ?_
                refine V_iload_n (pc := 26) X dX10_leads_26 rfl ?_
                refine V_iconst (pc := 27) X dX10_leads_27 ?_
                refine V_iadd (pc := 28) X dX10_leads_28 ?_
                refine V_iload_n (pc := 29) X dX10_leads_29 rfl ?_
                refine V_FV (pc := 30) X dX10_leads_30 oX10_unlike l_RX10_215 eX10_unlike vX10_unlike ⟨Nat.le_of_ble_eq_true rfl, Nat.le_of_ble_eq_true rfl⟩ ⟨rfl, rfl⟩ ⟨Nat.le_of_ble_eq_true rfl, Nat.le_of_ble_eq_true rfl⟩ (ct_X10_unlike hO hP hPt (by omega) (by omega) (by omega) (by omega) (by omega) (by omega) (by omega) (by omega)) rfl (by first | rfl | assumption | (simp only [*]; done) | omega) (by intro q h; cases h; rfl) rfl (by rfl) (by exact Nat.le_of_ble_eq_true rfl) ?_
                refine V_bif_eq (pc := 33) X 40 dX10_leads_33 (by decide)  (fun c_33 => ?_) (fun c_33 => ?_)
                · skip
                  refine V_iconst (pc := 40) X dX10_leads_40 ?_
                  exact J _ (by rw [c_33]; rfl)
                · skip
                  refine V_iconst (pc := 36) X dX10_leads_36 ?_
                  refine V_goto (pc := 37) X 41 dX10_leads_37 (by decide) ?_
                  exact J _ (by rw [c_33]; rfl)
              · skip
                subst hz1
                refine V_iadd (pc := 41) X dX10_leads_41 ?_
                refine V_istore_n (pc := 42) X dX10_leads_42 (by exact Nat.le_of_ble_eq_true rfl) (by first | rfl | ((repeat (refine z_nl_set ?_ (by first | exact (show (0 : Nat) ≠ 1 by decide) | exact (show (2 : Nat) ≠ 1 by decide)))); first | rfl | (simp [z_nl, hz3]; done))) ?_
                refine V_iload_n (pc := 43) X dX10_leads_43 rfl ?_
                refine V_joinS 62 (fun z => z = z_b (r_unl h (h 103) (i : Int) (j : Int) (i : Int) ((j : Int) + 1))) (fun J => ?_) (fun z2 hz2 => ?_)
                · skip
                  refine V_aload_n (pc := 44) X dX10_leads_44 rfl (by first | decide | omega | assumption) ?_
                  refine V_iload_n (pc := 45) X dX10_leads_45 rfl ?_
                  refine V_iload_n (pc := 46) X dX10_leads_46 rfl ?_
                  refine V_iload_n (pc := 47) X dX10_leads_47 rfl ?_
                  refine V_iload_n (pc := 48) X dX10_leads_48 rfl ?_
                  refine V_iconst (pc := 49) X dX10_leads_49 ?_
                  refine V_iadd (pc := 50) X dX10_leads_50 ?_
                  refine V_FV (pc := 51) X dX10_leads_51 oX10_unlike l_RX10_215 eX10_unlike vX10_unlike ⟨Nat.le_of_ble_eq_true rfl, Nat.le_of_ble_eq_true rfl⟩ ⟨rfl, rfl⟩ ⟨Nat.le_of_ble_eq_true rfl, Nat.le_of_ble_eq_true rfl⟩ (ct_X10_unlike hO hP hPt (by omega) (by omega) (by omega) (by omega) (by omega) (by omega) (by omega) (by omega)) rfl (by first | rfl | assumption | (simp only [*]; done) | omega) (by intro q h; cases h; rfl) rfl (by rfl) (by exact Nat.le_of_ble_eq_true rfl) ?_
                  refine V_bif_eq (pc := 54) X 61 dX10_leads_54 (by decide)  (fun c_54 => ?_) (fun c_54 => ?_)
                  · skip
                    refine V_iconst (pc := 61) X dX10_leads_61 ?_
                    exact J _ (by rw [c_54]; rfl)
                  · skip
                    refine V_iconst (pc := 57) X dX10_leads_57 ?_
                    refine V_goto (pc := 58) X 62 dX10_leads_58 (by decide) ?_
                    exact J _ (by rw [c_54]; rfl)
                · skip
                  subst hz2
                  refine V_iadd (pc := 62) X dX10_leads_62 ?_
                  refine V_istore_n (pc := 63) X dX10_leads_63 (by exact Nat.le_of_ble_eq_true rfl) (by first | rfl | ((repeat (refine z_nl_set ?_ (by first | exact (show (0 : Nat) ≠ 1 by decide) | exact (show (2 : Nat) ≠ 1 by decide)))); first | rfl | (simp [z_nl, hz3]; done))) ?_
                  refine V_iinc (pc := 64) X dX10_leads_64 rfl (by first | rfl | ((repeat (refine z_nl_set ?_ (by first | exact (show (0 : Nat) ≠ 1 by decide) | exact (show (2 : Nat) ≠ 1 by decide)))); first | rfl | (simp [z_nl, hz3]; done))) ?_
                  refine V_goto (pc := 67) X 14 dX10_leads_67 (by decide) ?_
                  refine V_loc ?_ (ih_14 (j + 1) (by omega) (by omega))
                  show [_, _, _, _] = [_, _, _, _]
                  rw [show (r_ldX h (h 103) i) + r_ldY h (h 103) (i : Int) (j + 1) = (r_ldX h (h 103) i) + (r_ldY h (h 103) (i : Int) j) + z_b (r_unl h (h 103) (i : Int) (j : Int) ((i : Int) + 1) (j : Int)) + z_b (r_unl h (h 103) (i : Int) (j : Int) (i : Int) ((j : Int) + 1)) from by show (r_ldX h (h 103) i) + ((r_ldY h (h 103) (i : Int) j) + (z_b (r_unl h (h 103) (i : Int) (j : Int) ((i : Int) + 1) (j : Int)) + z_b (r_unl h (h 103) (i : Int) (j : Int) (i : Int) ((j : Int) + 1)))) = _; omega]
                  rfl
        refine V_loc (show _ = [(2, 89), (0, (r_ldX h (h 103) i) + (r_ldY h (h 103) (i : Int) 0)), (0, (i : Int)), (0, ((0 : Nat) : Int))] from by rw [show r_ldY h (h 103) (i : Int) 0 = 0 from rfl, Int.add_zero]; rfl) ?_
        exact lp_14 _ 0 (Nat.lt_succ_self _) (Nat.zero_le _)
  exact lp_4 _ 0 (9, 0) (Nat.lt_succ_self _) (Nat.zero_le _) (by decide)
set_option maxHeartbeats 4000000 in
set_option maxRecDepth 100000 in
theorem ct_X10_leadsNow {h : z_H} (hO : r_Ob h) (hP : r_Pl h) (hT : r_Mt (h 92)) : z_Ct mX10_leadsNow 107 [(2, 89)] h (z_ans (0, r_leads h (r_lay h)) (z_rw h 103 (r_lay h))) := by
  refine z_mk (L := [(2, 89)]) oX10_leadsNow.2.2.2.2 (Nat.le_of_ble_eq_true rfl) rfl ?_
  intro Γ X hQ
  obtain ⟨rb2, rb3, rb5, rb6, rb7, rb9, rb10, rb11, rb12, rb13, rb15, rb25, rb26, rb30, rb31, rb32, rb33⟩ := id hO
  obtain ⟨⟨hw1, hw2⟩, ⟨hh1, hh2⟩, ⟨hs1, hs2⟩, hgl, hco⟩ := id hP
  obtain ⟨tw, ⟨tb1, tb2⟩, ⟨tm1, tm2⟩, ⟨ts1, ts2⟩⟩ := id hT
  have kc : z_kd 107 92 = (1, 11) := rfl
  refine V_aload_n (pc := 0) X dX10_leadsNow_0 rfl (by first | decide | omega | assumption) ?_
  refine V_CV (pc := 1) X dX10_leadsNow_1 oX10_layColours l_RX10_219 eX10_layColours vX10_layColours ⟨Nat.le_of_ble_eq_true rfl, Nat.le_of_ble_eq_true rfl⟩ ⟨rfl, rfl⟩ ⟨Nat.le_of_ble_eq_true rfl, Nat.le_of_ble_eq_true rfl⟩ (ct_X10_layColours hO hP hT) rfl (by first | rfl | assumption | (simp only [*]; done) | omega) (by intro q h; cases h; rfl) rfl (by rfl) (by exact Nat.le_of_ble_eq_true rfl) (fun r h1 hp => ?_)
  obtain ⟨rfl, rfl⟩ := hp
  have hOL : r_Ob (z_rw h 103 (r_lay h)) := hO.rw_ (by decide)
  have hPL : r_Pl (z_rw h 103 (r_lay h)) := hP.rw_ (by decide) (by decide) (by decide)
  have hpt0 := r_lay_pt hP
  refine V_aload_n (pc := 4) X dX10_leadsNow_4 rfl (by first | decide | omega | assumption) ?_
  refine V_FV (pc := 5) X dX10_leadsNow_5 oX10_leads l_RX10_225 eX10_leads vX10_leads ⟨Nat.le_of_ble_eq_true rfl, Nat.le_of_ble_eq_true rfl⟩ ⟨rfl, rfl⟩ ⟨Nat.le_of_ble_eq_true rfl, Nat.le_of_ble_eq_true rfl⟩ (ct_X10_leads hOL hPL (by rw [z_rw_at]; exact hpt0)) rfl (by first | rfl | assumption | (simp only [*]; done) | omega) (by intro q h; cases h; rfl) rfl (by rfl) (by exact Nat.le_of_ble_eq_true rfl) ?_
  refine V_iret (st := []) (pc := 8) X hQ dX10_leadsNow_8 rfl rfl ?_
  exact ⟨by rw [z_rw_at, r_leads_cg (r_Same.rw_ h _ (by decide) (by decide) (by decide))], rfl⟩
set_option maxHeartbeats 4000000 in
set_option maxRecDepth 100000 in
theorem ct_X10_paint {h : z_H} (hO : r_Ob h) (hP : r_Pl h) (hT : r_Mt (h 92)) {w : Int} (hw9 : z_R w) : z_Ct mX10_paint 107 [(2, 89), (0, w)] h (fun r h2 => (¬ (0 ≤ w ∧ w ≤ 1) ∧ r = some (0, -1) ∧ h2 = h) ∨ ((0 ≤ w ∧ w ≤ 1) ∧ r = some (0, r_paintF h w) ∧ h2 = z_rw h 103 (r_lay h))) := by
  refine z_mk (L := [(2, 89), (0, w), (9, 0), (9, 0), (9, 0), (9, 0), (9, 0), (9, 0), (9, 0), (9, 0)]) oX10_paint.2.2.2.2 (Nat.le_of_ble_eq_true rfl) rfl ?_
  intro Γ X hQ
  obtain ⟨rb2, rb3, rb5, rb6, rb7, rb9, rb10, rb11, rb12, rb13, rb15, rb25, rb26, rb30, rb31, rb32, rb33⟩ := id hO
  obtain ⟨⟨hw1, hw2⟩, ⟨hh1, hh2⟩, ⟨hs1, hs2⟩, hgl, hco⟩ := id hP
  obtain ⟨tw, ⟨tb1, tb2⟩, ⟨tm1, tm2⟩, ⟨ts1, ts2⟩⟩ := id hT
  have kc : z_kd 107 92 = (1, 11) := rfl
  obtain ⟨hwa, hwb⟩ := hw9
  refine V_iload_n (pc := 0) X dX10_paint_0 rfl ?_
  refine V_i2l (pc := 1) X dX10_paint_1 ⟨by omega, by omega⟩ ?_
  refine V_lconst (pc := 2) (z := 0) X dX10_paint_2 (by decide) ?_
  refine V_lconst (pc := 3) (z := 1) X dX10_paint_3 (by decide) ?_
  refine V_FS (pc := 4) X dX10_paint_4 oX10_in l_RX10_81 sX10_in ⟨Nat.le_of_ble_eq_true rfl, Nat.le_of_ble_eq_true rfl⟩ ⟨rfl, rfl⟩ ⟨Nat.le_of_ble_eq_true rfl, Nat.le_of_ble_eq_true rfl⟩ (ct_X10_in ⟨by omega, by omega⟩ ⟨by omega, by omega⟩ ⟨by omega, by omega⟩) rfl (by rfl) (by exact Nat.le_of_ble_eq_true rfl) ?_
  refine V_bif_ne (pc := 7) X 12 dX10_paint_7 (by decide)  (fun c_7 => ?_) (fun c_7 => ?_)
  · skip
    have tb4 := of_decide_eq_true c_7
    refine V_aload_n (pc := 12) X dX10_paint_12 rfl (by first | decide | omega | assumption) ?_
    refine V_CV (pc := 13) X dX10_paint_13 oX10_layColours l_RX10_219 eX10_layColours vX10_layColours ⟨Nat.le_of_ble_eq_true rfl, Nat.le_of_ble_eq_true rfl⟩ ⟨rfl, rfl⟩ ⟨Nat.le_of_ble_eq_true rfl, Nat.le_of_ble_eq_true rfl⟩ (ct_X10_layColours hO hP hT) rfl (by first | rfl | assumption | (simp only [*]; done) | omega) (by intro q h; cases h; rfl) rfl (by rfl) (by exact Nat.le_of_ble_eq_true rfl) (fun r h1 hp => ?_)
    obtain ⟨rfl, rfl⟩ := hp
    have hOL : r_Ob (z_rw h 103 (r_lay h)) := hO.rw_ (by decide)
    have hPL : r_Pl (z_rw h 103 (r_lay h)) := hP.rw_ (by decide) (by decide) (by decide)
    have hpt0 := r_lay_pt hP
    refine V_bipush (pc := 16) X dX10_paint_16 (by decide) ?_
    refine V_istore_n (pc := 18) X dX10_paint_18 (by exact Nat.le_of_ble_eq_true rfl) (by first | rfl | ((repeat (refine z_nl_set ?_ (by first | exact (show (0 : Nat) ≠ 1 by decide) | exact (show (2 : Nat) ≠ 1 by decide)))); first | rfl | (simp [z_nl, hz5, hz6, hz7, hz8, hz9]; done) | (simp [z_nl, hw6z, hw7z, hw8z, hw9z]; done) | (simp [z_nl, hw7z, hw8z, hw9z]; done) | (simp [z_nl, hw8z, hw9z]; done) | (simp [z_nl, hw9z]; done) | (simp [z_nl, hz9]; done))) ?_
    refine V_ldc (pc := 19) X (1000000) dX10_paint_19 c_RX10_236 (by decide) ?_
    refine V_istore_n (pc := 21) X dX10_paint_21 (by exact Nat.le_of_ble_eq_true rfl) (by first | rfl | ((repeat (refine z_nl_set ?_ (by first | exact (show (0 : Nat) ≠ 1 by decide) | exact (show (2 : Nat) ≠ 1 by decide)))); first | rfl | (simp [z_nl, hz5, hz6, hz7, hz8, hz9]; done) | (simp [z_nl, hw6z, hw7z, hw8z, hw9z]; done) | (simp [z_nl, hw7z, hw8z, hw9z]; done) | (simp [z_nl, hw8z, hw9z]; done) | (simp [z_nl, hw9z]; done) | (simp [z_nl, hz9]; done))) ?_
    refine V_iconst (pc := 22) X dX10_paint_22 ?_
    refine V_istore (pc := 23) X dX10_paint_23 (by exact Nat.le_of_ble_eq_true rfl) (by first | rfl | ((repeat (refine z_nl_set ?_ (by first | exact (show (0 : Nat) ≠ 1 by decide) | exact (show (2 : Nat) ≠ 1 by decide)))); first | rfl | (simp [z_nl, hz5, hz6, hz7, hz8, hz9]; done) | (simp [z_nl, hw6z, hw7z, hw8z, hw9z]; done) | (simp [z_nl, hw7z, hw8z, hw9z]; done) | (simp [z_nl, hw8z, hw9z]; done) | (simp [z_nl, hw9z]; done) | (simp [z_nl, hz9]; done))) ?_
    have lp_25 : ∀ (m : Nat) (i : Nat) (z5 z6 z7 z8 z9 : Nat × Int), (h 89 0).toNat - i < m → i ≤ (h 89 0).toNat → ¬ z5.1 = 1 → ¬ z6.1 = 1 → ¬ z7.1 = 1 → ¬ z8.1 = 1 → ¬ z9.1 = 1 → z_V Γ (107, 0, 0) 25 [(2, 89), (0, w), (0, (r_pX h (r_lay h) i).1), (0, (r_pX h (r_lay h) i).2), (0, (i : Int)), z5, z6, z7, z8, z9] [] (z_rw h 103 (r_lay h)) := by
      intro m
      induction m with
      | zero => intro i z5 z6 z7 z8 z9 hm; exact absurd hm (Nat.not_lt_zero _)
      | succ m ih_25 =>
        intro i z5 z6 z7 z8 z9 hm hi1 hz5 hz6 hz7 hz8 hz9
        have hsx : r_2ok (r_pX h (r_lay h) i) := r_pX_ok hP (P := r_lay h) i (by omega)
        obtain ⟨⟨sx1, sx2⟩, ⟨sx3, sx4⟩⟩ := id hsx
        refine V_iload (pc := 25) X dX10_paint_25 rfl ?_
        refine V_aload_n (pc := 27) X dX10_paint_27 rfl (by first | decide | omega | assumption) ?_
        refine V_gz (pc := 28) X dX10_paint_28 f_RX10_7 (by first | rfl | assumption | (simp only [*]; done) | omega) 0 rfl (show _ = h 89 0 from by first | rfl | (repeat (first | rw [z_st_at] | rw [z_st_slot _ (by decide)] | rw [z_st_cell _ (by decide)] | rw [z_rw_ne _ _ (by decide)] | rw [r_rem_s (by decide)] | rw [r_rem_c (by decide) (by decide)] | rw [r_cp_ne (by decide)]))) ?_
        refine V_icmp_ge (pc := 31) X 160 dX10_paint_31 (by decide) ⟨by omega, by omega⟩ ⟨by omega, by omega⟩ (fun c_31 => ?_) (fun c_31 => ?_)
        · skip
          obtain rfl : i = (h 89 0).toNat := by omega
          refine V_iload_n (pc := 160) X dX10_paint_160 rfl ?_
          refine V_if_ne (pc := 161) X 168 dX10_paint_161 (by decide) ⟨by omega, by omega⟩ (fun c_161 => ?_) (fun c_161 => ?_)
          · skip
            refine V_iload_n (pc := 168) X dX10_paint_168 rfl ?_
            refine V_iret (st := []) (pc := 169) X hQ dX10_paint_169 rfl rfl ?_
            exact Or.inr ⟨⟨tb4.1, tb4.2⟩, by unfold r_paintF; first | rw [if_pos c_161] | rw [if_neg c_161], rfl⟩
          · skip
            refine V_iload_n (pc := 164) X dX10_paint_164 rfl ?_
            refine V_goto (pc := 165) X 169 dX10_paint_165 (by decide) ?_
            refine V_iret (st := []) (pc := 169) X hQ dX10_paint_169 rfl rfl ?_
            exact Or.inr ⟨⟨tb4.1, tb4.2⟩, by unfold r_paintF; first | rw [if_pos c_161] | rw [if_neg c_161], rfl⟩
        · skip
          refine V_iconst (pc := 34) X dX10_paint_34 ?_
          refine V_istore (pc := 35) X dX10_paint_35 (by exact Nat.le_of_ble_eq_true rfl) (by first | rfl | ((repeat (refine z_nl_set ?_ (by first | exact (show (0 : Nat) ≠ 1 by decide) | exact (show (2 : Nat) ≠ 1 by decide)))); first | rfl | (simp [z_nl, hz5, hz6, hz7, hz8, hz9]; done) | (simp [z_nl, hw6z, hw7z, hw8z, hw9z]; done) | (simp [z_nl, hw7z, hw8z, hw9z]; done) | (simp [z_nl, hw8z, hw9z]; done) | (simp [z_nl, hw9z]; done) | (simp [z_nl, hz9]; done))) ?_
          have lp_37 : ∀ (m : Nat) (j : Nat) (w6 w7 w8 w9 : Nat × Int), (h 89 1).toNat - j < m → j ≤ (h 89 1).toNat → ¬ w6.1 = 1 → ¬ w7.1 = 1 → ¬ w8.1 = 1 → ¬ w9.1 = 1 → z_V Γ (107, 0, 0) 37 [(2, 89), (0, w), (0, (r_pY h (r_lay h) (i : Int) (r_pX h (r_lay h) i) j).1), (0, (r_pY h (r_lay h) (i : Int) (r_pX h (r_lay h) i) j).2), (0, (i : Int)), (0, (j : Int)), w6, w7, w8, w9] [] (z_rw h 103 (r_lay h)) := by
            intro m
            induction m with
            | zero => intro j w6 w7 w8 w9 hm; exact absurd hm (Nat.not_lt_zero _)
            | succ m ih_37 =>
              intro j w6 w7 w8 w9 hm hj1 hw6z hw7z hw8z hw9z
              have hsy : r_2ok (r_pY h (r_lay h) (i : Int) (r_pX h (r_lay h) i) j) := r_pY_ok hP (P := r_lay h) hsx (by omega) (by omega) j (by omega)
              refine V_iload (pc := 37) X dX10_paint_37 rfl ?_
              refine V_aload_n (pc := 39) X dX10_paint_39 rfl (by first | decide | omega | assumption) ?_
              refine V_gz (pc := 40) X dX10_paint_40 f_RX10_13 (by first | rfl | assumption | (simp only [*]; done) | omega) 1 rfl (show _ = h 89 1 from by first | rfl | (repeat (first | rw [z_st_at] | rw [z_st_slot _ (by decide)] | rw [z_st_cell _ (by decide)] | rw [z_rw_ne _ _ (by decide)] | rw [r_rem_s (by decide)] | rw [r_rem_c (by decide) (by decide)] | rw [r_cp_ne (by decide)]))) ?_
              refine V_icmp_ge (pc := 43) X 154 dX10_paint_43 (by decide) ⟨by omega, by omega⟩ ⟨by omega, by omega⟩ (fun c_43 => ?_) (fun c_43 => ?_)
              · skip
                refine V_iinc (pc := 154) X dX10_paint_154 rfl (by first | rfl | ((repeat (refine z_nl_set ?_ (by first | exact (show (0 : Nat) ≠ 1 by decide) | exact (show (2 : Nat) ≠ 1 by decide)))); first | rfl | (simp [z_nl, hz5, hz6, hz7, hz8, hz9]; done) | (simp [z_nl, hw6z, hw7z, hw8z, hw9z]; done) | (simp [z_nl, hw7z, hw8z, hw9z]; done) | (simp [z_nl, hw8z, hw9z]; done) | (simp [z_nl, hw9z]; done) | (simp [z_nl, hz9]; done))) ?_
                refine V_goto (pc := 157) X 25 dX10_paint_157 (by decide) ?_
                refine V_loc ?_ (ih_25 (i + 1) (0, (j : Int)) w6 w7 w8 w9 (by omega) (by omega) (show ¬ (0 : Nat) = 1 by decide) hw6z hw7z hw8z hw9z)
                show [_, _, _, _, _, _, _, _, _, _] = [_, _, _, _, _, _, _, _, _, _]
                rw [show r_pX h (r_lay h) (i + 1) = (r_pY h (r_lay h) (i : Int) (r_pX h (r_lay h) i) j) from by show r_pY h (r_lay h) (i : Int) (r_pX h (r_lay h) i) (h 89 1).toNat = _; rw [show (h 89 1).toNat = j by omega]]
                rfl
              · skip
                refine V_iconst (pc := 46) X dX10_paint_46 ?_
                refine V_iload (pc := 47) X dX10_paint_47 rfl ?_
                refine V_imul (pc := 49) X dX10_paint_49 ?_
                refine V_iload (pc := 50) X dX10_paint_50 rfl ?_
                refine V_iadd (pc := 52) X dX10_paint_52 ?_
                refine V_istore (pc := 53) X dX10_paint_53 (by exact Nat.le_of_ble_eq_true rfl) (by first | rfl | ((repeat (refine z_nl_set ?_ (by first | exact (show (0 : Nat) ≠ 1 by decide) | exact (show (2 : Nat) ≠ 1 by decide)))); first | rfl | (simp [z_nl, hz5, hz6, hz7, hz8, hz9]; done) | (simp [z_nl, hw6z, hw7z, hw8z, hw9z]; done) | (simp [z_nl, hw7z, hw8z, hw9z]; done) | (simp [z_nl, hw8z, hw9z]; done) | (simp [z_nl, hw9z]; done) | (simp [z_nl, hz9]; done))) ?_
                refine V_aload_n (pc := 55) X dX10_paint_55 rfl (by first | decide | omega | assumption) ?_
                refine V_gz (pc := 56) X dX10_paint_56 f_RX10_57 (by first | rfl | assumption | (simp only [*]; done) | omega) 30 rfl (show _ = (103 : Int) from by first | exact rb30 | ((repeat (first | rw [z_st_at] | rw [z_st_slot _ (by decide)] | rw [z_st_cell _ (by decide)] | rw [z_rw_ne _ _ (by decide)] | rw [r_rem_s (by decide)] | rw [r_rem_c (by decide) (by decide)] | rw [r_cp_ne (by decide)])); exact rb30)) ?_
                refine V_iload (pc := 59) X dX10_paint_59 rfl ?_
                refine V_iald (pc := 61) X dX10_paint_61 (by first | rfl | assumption | (simp only [*]; done) | omega) (by omega) (by omega) (by decide) ?_
                rw [z_rw_at]
                refine V_istore (pc := 62) X dX10_paint_62 (by exact Nat.le_of_ble_eq_true rfl) (by first | rfl | ((repeat (refine z_nl_set ?_ (by first | exact (show (0 : Nat) ≠ 1 by decide) | exact (show (2 : Nat) ≠ 1 by decide)))); first | rfl | (simp [z_nl, hz5, hz6, hz7, hz8, hz9]; done) | (simp [z_nl, hw6z, hw7z, hw8z, hw9z]; done) | (simp [z_nl, hw7z, hw8z, hw9z]; done) | (simp [z_nl, hw8z, hw9z]; done) | (simp [z_nl, hw9z]; done) | (simp [z_nl, hz9]; done))) ?_
                refine V_iconst (pc := 64) X dX10_paint_64 ?_
                refine V_istore (pc := 65) X dX10_paint_65 (by exact Nat.le_of_ble_eq_true rfl) (by first | rfl | ((repeat (refine z_nl_set ?_ (by first | exact (show (0 : Nat) ≠ 1 by decide) | exact (show (2 : Nat) ≠ 1 by decide)))); first | rfl | (simp [z_nl, hz5, hz6, hz7, hz8, hz9]; done) | (simp [z_nl, hw6z, hw7z, hw8z, hw9z]; done) | (simp [z_nl, hw7z, hw8z, hw9z]; done) | (simp [z_nl, hw8z, hw9z]; done) | (simp [z_nl, hw9z]; done) | (simp [z_nl, hz9]; done))) ?_
                have lp_67 : ∀ (m : Nat) (c : Nat) (v : Int) (z9 : Nat × Int), 8 - c < m → c ≤ 8 → ¬ z9.1 = 1 → z_V Γ (107, 0, 0) 67 [(2, 89), (0, w), (0, (r_pC h (r_lay h) (4 * (i : Int) + (j : Int)) (r_pY h (r_lay h) (i : Int) (r_pX h (r_lay h) i) j) c).1), (0, (r_pC h (r_lay h) (4 * (i : Int) + (j : Int)) (r_pY h (r_lay h) (i : Int) (r_pX h (r_lay h) i) j) c).2), (0, (i : Int)), (0, (j : Int)), (0, (4 * (i : Int) + (j : Int))), (0, r_lay h (4 * (i : Int) + (j : Int))), (0, (c : Int)), z9] [] (z_rw h 103 (r_up (r_lay h) (4 * (i : Int) + (j : Int)) v)) := by
                  intro m
                  induction m with
                  | zero => intro c v z9 hm; exact absurd hm (Nat.not_lt_zero _)
                  | succ m ih_67 =>
                    intro c v z9 hm hc1 hz9
                    obtain ⟨⟨sc1, sc2⟩, ⟨sc3, sc4⟩⟩ := r_pC_ok hP (P := r_lay h) (p := (4 * (i : Int) + (j : Int))) hsy (by omega) (by omega) c hc1
                    have hby := r_by_rng hP (r_lay h) (4 * (i : Int) + (j : Int)) (c : Int)
                    refine V_iload (pc := 67) X dX10_paint_67 rfl ?_
                    refine V_bipush (pc := 69) X dX10_paint_69 (by decide) ?_
                    refine V_icmp_ge (pc := 71) X 139 dX10_paint_71 (by decide) ⟨by omega, by omega⟩ ⟨by omega, by omega⟩ (fun c_71 => ?_) (fun c_71 => ?_)
                    · skip
                      obtain rfl : c = 8 := by omega
                      refine V_aload_n (pc := 139) X dX10_paint_139 rfl (by first | decide | omega | assumption) ?_
                      refine V_gz (pc := 140) X dX10_paint_140 f_RX10_57 (by first | rfl | assumption | (simp only [*]; done) | omega) 30 rfl (show _ = (103 : Int) from by first | exact rb30 | ((repeat (first | rw [z_st_at] | rw [z_st_slot _ (by decide)] | rw [z_st_cell _ (by decide)] | rw [z_rw_ne _ _ (by decide)] | rw [r_rem_s (by decide)] | rw [r_rem_c (by decide) (by decide)] | rw [r_cp_ne (by decide)])); exact rb30)) ?_
                      refine V_iload (pc := 143) X dX10_paint_143 rfl ?_
                      refine V_iload (pc := 145) X dX10_paint_145 rfl ?_
                      refine V_iast (pc := 147) X dX10_paint_147 (by first | rfl | assumption | (simp only [*]; done) | omega) (by omega) (by omega) (by decide) ?_
                      rw [z_rw_st, r_up_up, r_up_same]
                      refine V_iinc (pc := 148) X dX10_paint_148 rfl (by first | rfl | ((repeat (refine z_nl_set ?_ (by first | exact (show (0 : Nat) ≠ 1 by decide) | exact (show (2 : Nat) ≠ 1 by decide)))); first | rfl | (simp [z_nl, hz5, hz6, hz7, hz8, hz9]; done) | (simp [z_nl, hw6z, hw7z, hw8z, hw9z]; done) | (simp [z_nl, hw7z, hw8z, hw9z]; done) | (simp [z_nl, hw8z, hw9z]; done) | (simp [z_nl, hw9z]; done) | (simp [z_nl, hz9]; done))) ?_
                      refine V_goto (pc := 151) X 37 dX10_paint_151 (by decide) ?_
                      refine V_loc ?_ (ih_37 (j + 1) (0, (4 * (i : Int) + (j : Int))) (0, r_lay h (4 * (i : Int) + (j : Int))) (0, 8) z9 (by omega) (by omega) (show ¬ (0 : Nat) = 1 by decide) (show ¬ (0 : Nat) = 1 by decide) (show ¬ (0 : Nat) = 1 by decide) hz9)
                      show [_, _, _, _, _, _, _, _, _, _] = [_, _, _, _, _, _, _, _, _, _]
                      rw [show r_pY h (r_lay h) (i : Int) (r_pX h (r_lay h) i) (j + 1) = (r_pC h (r_lay h) (4 * (i : Int) + (j : Int)) (r_pY h (r_lay h) (i : Int) (r_pX h (r_lay h) i) j) 8) from rfl]
                      rfl
                    · skip
                      refine V_aload_n (pc := 74) X dX10_paint_74 rfl (by first | decide | omega | assumption) ?_
                      refine V_gz (pc := 75) X dX10_paint_75 f_RX10_57 (by first | rfl | assumption | (simp only [*]; done) | omega) 30 rfl (show _ = (103 : Int) from by first | exact rb30 | ((repeat (first | rw [z_st_at] | rw [z_st_slot _ (by decide)] | rw [z_st_cell _ (by decide)] | rw [z_rw_ne _ _ (by decide)] | rw [r_rem_s (by decide)] | rw [r_rem_c (by decide) (by decide)] | rw [r_cp_ne (by decide)])); exact rb30)) ?_
                      refine V_iload (pc := 78) X dX10_paint_78 rfl ?_
                      refine V_iload (pc := 80) X dX10_paint_80 rfl ?_
                      refine V_iast (pc := 82) X dX10_paint_82 (by first | rfl | assumption | (simp only [*]; done) | omega) (by omega) (by omega) (by decide) ?_
                      rw [z_rw_st, r_up_up]
                      have hOV : r_Ob (z_rw h 103 (r_up (r_lay h) (4 * (i : Int) + (j : Int)) (c : Int))) := hO.rw_ (by decide)
                      have hPV : r_Pl (z_rw h 103 (r_up (r_lay h) (4 * (i : Int) + (j : Int)) (c : Int))) := hP.rw_ (by decide) (by decide) (by decide)
                      have hlr := hpt0 (4 * (i : Int) + (j : Int)) (by omega) (by omega)
                      refine V_joinS 99 (fun z => z = (r_by h (r_lay h) (4 * (i : Int) + (j : Int)) (c : Int))) (fun J => ?_) (fun z1 hz1 => ?_)
                      · skip
                        refine V_iload (pc := 83) X dX10_paint_83 rfl ?_
                        refine V_iload (pc := 85) X dX10_paint_85 rfl ?_
                        refine V_icmp_ne (pc := 87) X 95 dX10_paint_87 (by decide) ⟨by omega, by omega⟩ ⟨by omega, by omega⟩ (fun c_87 => ?_) (fun c_87 => ?_)
                        · skip
                          refine V_aload_n (pc := 95) X dX10_paint_95 rfl (by first | decide | omega | assumption) ?_
                          refine V_FV (pc := 96) X dX10_paint_96 oX10_leads l_RX10_225 eX10_leads vX10_leads ⟨Nat.le_of_ble_eq_true rfl, Nat.le_of_ble_eq_true rfl⟩ ⟨rfl, rfl⟩ ⟨Nat.le_of_ble_eq_true rfl, Nat.le_of_ble_eq_true rfl⟩ (ct_X10_leads hOV hPV (by rw [z_rw_at]; exact hpt0.up ⟨by omega, by omega⟩)) rfl (by first | rfl | assumption | (simp only [*]; done) | omega) (by intro q h; cases h; rfl) rfl (by rfl) (by exact Nat.le_of_ble_eq_true rfl) ?_
                          exact J _ (by unfold r_by; first | (rw [if_pos c_87]; done) | (rw [if_neg c_87, z_rw_at, r_leads_cg (r_Same.rw_ h _ (by decide) (by decide) (by decide))]))
                        · skip
                          refine V_ldc (pc := 90) X (1000000) dX10_paint_90 c_RX10_236 (by decide) ?_
                          refine V_goto (pc := 92) X 99 dX10_paint_92 (by decide) ?_
                          exact J _ (by unfold r_by; first | (rw [if_pos c_87]; done) | (rw [if_neg c_87, z_rw_at, r_leads_cg (r_Same.rw_ h _ (by decide) (by decide) (by decide))]))
                      · skip
                        subst hz1
                        refine V_istore (pc := 99) X dX10_paint_99 (by exact Nat.le_of_ble_eq_true rfl) (by first | rfl | ((repeat (refine z_nl_set ?_ (by first | exact (show (0 : Nat) ≠ 1 by decide) | exact (show (2 : Nat) ≠ 1 by decide)))); first | rfl | (simp [z_nl, hz5, hz6, hz7, hz8, hz9]; done) | (simp [z_nl, hw6z, hw7z, hw8z, hw9z]; done) | (simp [z_nl, hw7z, hw8z, hw9z]; done) | (simp [z_nl, hw8z, hw9z]; done) | (simp [z_nl, hw9z]; done) | (simp [z_nl, hz9]; done))) ?_
                        refine V_iload (pc := 101) X dX10_paint_101 rfl ?_
                        refine V_iload_n (pc := 103) X dX10_paint_103 rfl ?_
                        refine V_icmp_ge (pc := 104) X 118 dX10_paint_104 (by decide) ⟨by omega, by omega⟩ ⟨by omega, by omega⟩ (fun c_104 => ?_) (fun c_104 => ?_)
                        · skip
                          refine V_iload_n (pc := 118) X dX10_paint_118 rfl ?_
                          refine V_istore_n (pc := 119) X dX10_paint_119 (by exact Nat.le_of_ble_eq_true rfl) (by first | rfl | ((repeat (refine z_nl_set ?_ (by first | exact (show (0 : Nat) ≠ 1 by decide) | exact (show (2 : Nat) ≠ 1 by decide)))); first | rfl | (simp [z_nl, hz5, hz6, hz7, hz8, hz9]; done) | (simp [z_nl, hw6z, hw7z, hw8z, hw9z]; done) | (simp [z_nl, hw7z, hw8z, hw9z]; done) | (simp [z_nl, hw8z, hw9z]; done) | (simp [z_nl, hw9z]; done) | (simp [z_nl, hz9]; done))) ?_
                          refine V_iload (pc := 120) X dX10_paint_120 rfl ?_
                          refine V_iload_n (pc := 122) X dX10_paint_122 rfl ?_
                          refine V_icmp_ge (pc := 123) X 131 dX10_paint_123 (by decide) ⟨by omega, by omega⟩ ⟨by omega, by omega⟩ (fun c_123 => ?_) (fun c_123 => ?_)
                          · skip
                            refine V_iload_n (pc := 131) X dX10_paint_131 rfl ?_
                            refine V_istore_n (pc := 132) X dX10_paint_132 (by exact Nat.le_of_ble_eq_true rfl) (by first | rfl | ((repeat (refine z_nl_set ?_ (by first | exact (show (0 : Nat) ≠ 1 by decide) | exact (show (2 : Nat) ≠ 1 by decide)))); first | rfl | (simp [z_nl, hz5, hz6, hz7, hz8, hz9]; done) | (simp [z_nl, hw6z, hw7z, hw8z, hw9z]; done) | (simp [z_nl, hw7z, hw8z, hw9z]; done) | (simp [z_nl, hw8z, hw9z]; done) | (simp [z_nl, hw9z]; done) | (simp [z_nl, hz9]; done))) ?_
                            refine V_iinc (pc := 133) X dX10_paint_133 rfl (by first | rfl | ((repeat (refine z_nl_set ?_ (by first | exact (show (0 : Nat) ≠ 1 by decide) | exact (show (2 : Nat) ≠ 1 by decide)))); first | rfl | (simp [z_nl, hz5, hz6, hz7, hz8, hz9]; done) | (simp [z_nl, hw6z, hw7z, hw8z, hw9z]; done) | (simp [z_nl, hw7z, hw8z, hw9z]; done) | (simp [z_nl, hw8z, hw9z]; done) | (simp [z_nl, hw9z]; done) | (simp [z_nl, hz9]; done))) ?_
                            refine V_goto (pc := 136) X 67 dX10_paint_136 (by decide) ?_
                            have hy : (r_by h (r_lay h) (4 * (i : Int) + (j : Int)) (c : Int)) < (r_pC h (r_lay h) (4 * (i : Int) + (j : Int)) (r_pY h (r_lay h) (i : Int) (r_pX h (r_lay h) i) j) c).2 → (r_pC h (r_lay h) (4 * (i : Int) + (j : Int)) (r_pY h (r_lay h) (i : Int) (r_pX h (r_lay h) i) j) (c + 1)) = (8 * (4 * (i : Int) + (j : Int)) + (c : Int), (r_by h (r_lay h) (4 * (i : Int) + (j : Int)) (c : Int))) := fun hq => if_pos hq
                            have hn : ¬ (r_by h (r_lay h) (4 * (i : Int) + (j : Int)) (c : Int)) < (r_pC h (r_lay h) (4 * (i : Int) + (j : Int)) (r_pY h (r_lay h) (i : Int) (r_pX h (r_lay h) i) j) c).2 → (r_pC h (r_lay h) (4 * (i : Int) + (j : Int)) (r_pY h (r_lay h) (i : Int) (r_pX h (r_lay h) i) j) (c + 1)) = (r_pC h (r_lay h) (4 * (i : Int) + (j : Int)) (r_pY h (r_lay h) (i : Int) (r_pX h (r_lay h) i) j) c) := fun hq => if_neg hq
                            first
                              | exact absurd c_104 c_123
                              | exact absurd c_123 c_104
                              | (refine V_loc ?_ (ih_67 (c + 1) (c : Int) (0, (r_by h (r_lay h) (4 * (i : Int) + (j : Int)) (c : Int))) (by omega) (by omega) (show ¬ (0 : Nat) = 1 by decide)); show [_, _, _, _, _, _, _, _, _, _] = [_, _, _, _, _, _, _, _, _, _]; rw [hy (Int.not_le.mp c_104)]; rfl)
                              | (refine V_loc ?_ (ih_67 (c + 1) (c : Int) (0, (r_by h (r_lay h) (4 * (i : Int) + (j : Int)) (c : Int))) (by omega) (by omega) (show ¬ (0 : Nat) = 1 by decide)); show [_, _, _, _, _, _, _, _, _, _] = [_, _, _, _, _, _, _, _, _, _]; rw [hn (Int.not_lt.mpr c_104)]; rfl)
                          · skip
                            refine V_iload (pc := 126) X dX10_paint_126 rfl ?_
                            refine V_goto (pc := 128) X 132 dX10_paint_128 (by decide) ?_
                            refine V_istore_n (pc := 132) X dX10_paint_132 (by exact Nat.le_of_ble_eq_true rfl) (by first | rfl | ((repeat (refine z_nl_set ?_ (by first | exact (show (0 : Nat) ≠ 1 by decide) | exact (show (2 : Nat) ≠ 1 by decide)))); first | rfl | (simp [z_nl, hz5, hz6, hz7, hz8, hz9]; done) | (simp [z_nl, hw6z, hw7z, hw8z, hw9z]; done) | (simp [z_nl, hw7z, hw8z, hw9z]; done) | (simp [z_nl, hw8z, hw9z]; done) | (simp [z_nl, hw9z]; done) | (simp [z_nl, hz9]; done))) ?_
                            refine V_iinc (pc := 133) X dX10_paint_133 rfl (by first | rfl | ((repeat (refine z_nl_set ?_ (by first | exact (show (0 : Nat) ≠ 1 by decide) | exact (show (2 : Nat) ≠ 1 by decide)))); first | rfl | (simp [z_nl, hz5, hz6, hz7, hz8, hz9]; done) | (simp [z_nl, hw6z, hw7z, hw8z, hw9z]; done) | (simp [z_nl, hw7z, hw8z, hw9z]; done) | (simp [z_nl, hw8z, hw9z]; done) | (simp [z_nl, hw9z]; done) | (simp [z_nl, hz9]; done))) ?_
                            refine V_goto (pc := 136) X 67 dX10_paint_136 (by decide) ?_
                            have hy : (r_by h (r_lay h) (4 * (i : Int) + (j : Int)) (c : Int)) < (r_pC h (r_lay h) (4 * (i : Int) + (j : Int)) (r_pY h (r_lay h) (i : Int) (r_pX h (r_lay h) i) j) c).2 → (r_pC h (r_lay h) (4 * (i : Int) + (j : Int)) (r_pY h (r_lay h) (i : Int) (r_pX h (r_lay h) i) j) (c + 1)) = (8 * (4 * (i : Int) + (j : Int)) + (c : Int), (r_by h (r_lay h) (4 * (i : Int) + (j : Int)) (c : Int))) := fun hq => if_pos hq
                            have hn : ¬ (r_by h (r_lay h) (4 * (i : Int) + (j : Int)) (c : Int)) < (r_pC h (r_lay h) (4 * (i : Int) + (j : Int)) (r_pY h (r_lay h) (i : Int) (r_pX h (r_lay h) i) j) c).2 → (r_pC h (r_lay h) (4 * (i : Int) + (j : Int)) (r_pY h (r_lay h) (i : Int) (r_pX h (r_lay h) i) j) (c + 1)) = (r_pC h (r_lay h) (4 * (i : Int) + (j : Int)) (r_pY h (r_lay h) (i : Int) (r_pX h (r_lay h) i) j) c) := fun hq => if_neg hq
                            first
                              | exact absurd c_104 c_123
                              | exact absurd c_123 c_104
                              | (refine V_loc ?_ (ih_67 (c + 1) (c : Int) (0, (r_by h (r_lay h) (4 * (i : Int) + (j : Int)) (c : Int))) (by omega) (by omega) (show ¬ (0 : Nat) = 1 by decide)); show [_, _, _, _, _, _, _, _, _, _] = [_, _, _, _, _, _, _, _, _, _]; rw [hy (Int.not_le.mp c_104)]; rfl)
                              | (refine V_loc ?_ (ih_67 (c + 1) (c : Int) (0, (r_by h (r_lay h) (4 * (i : Int) + (j : Int)) (c : Int))) (by omega) (by omega) (show ¬ (0 : Nat) = 1 by decide)); show [_, _, _, _, _, _, _, _, _, _] = [_, _, _, _, _, _, _, _, _, _]; rw [hn (Int.not_lt.mpr c_104)]; rfl)
                        · skip
                          refine V_bipush (pc := 107) X dX10_paint_107 (by decide) ?_
                          refine V_iload (pc := 109) X dX10_paint_109 rfl ?_
                          refine V_imul (pc := 111) X dX10_paint_111 ?_
                          refine V_iload (pc := 112) X dX10_paint_112 rfl ?_
                          refine V_iadd (pc := 114) X dX10_paint_114 ?_
                          refine V_goto (pc := 115) X 119 dX10_paint_115 (by decide) ?_
                          refine V_istore_n (pc := 119) X dX10_paint_119 (by exact Nat.le_of_ble_eq_true rfl) (by first | rfl | ((repeat (refine z_nl_set ?_ (by first | exact (show (0 : Nat) ≠ 1 by decide) | exact (show (2 : Nat) ≠ 1 by decide)))); first | rfl | (simp [z_nl, hz5, hz6, hz7, hz8, hz9]; done) | (simp [z_nl, hw6z, hw7z, hw8z, hw9z]; done) | (simp [z_nl, hw7z, hw8z, hw9z]; done) | (simp [z_nl, hw8z, hw9z]; done) | (simp [z_nl, hw9z]; done) | (simp [z_nl, hz9]; done))) ?_
                          refine V_iload (pc := 120) X dX10_paint_120 rfl ?_
                          refine V_iload_n (pc := 122) X dX10_paint_122 rfl ?_
                          refine V_icmp_ge (pc := 123) X 131 dX10_paint_123 (by decide) ⟨by omega, by omega⟩ ⟨by omega, by omega⟩ (fun c_123 => ?_) (fun c_123 => ?_)
                          · skip
                            refine V_iload_n (pc := 131) X dX10_paint_131 rfl ?_
                            refine V_istore_n (pc := 132) X dX10_paint_132 (by exact Nat.le_of_ble_eq_true rfl) (by first | rfl | ((repeat (refine z_nl_set ?_ (by first | exact (show (0 : Nat) ≠ 1 by decide) | exact (show (2 : Nat) ≠ 1 by decide)))); first | rfl | (simp [z_nl, hz5, hz6, hz7, hz8, hz9]; done) | (simp [z_nl, hw6z, hw7z, hw8z, hw9z]; done) | (simp [z_nl, hw7z, hw8z, hw9z]; done) | (simp [z_nl, hw8z, hw9z]; done) | (simp [z_nl, hw9z]; done) | (simp [z_nl, hz9]; done))) ?_
                            refine V_iinc (pc := 133) X dX10_paint_133 rfl (by first | rfl | ((repeat (refine z_nl_set ?_ (by first | exact (show (0 : Nat) ≠ 1 by decide) | exact (show (2 : Nat) ≠ 1 by decide)))); first | rfl | (simp [z_nl, hz5, hz6, hz7, hz8, hz9]; done) | (simp [z_nl, hw6z, hw7z, hw8z, hw9z]; done) | (simp [z_nl, hw7z, hw8z, hw9z]; done) | (simp [z_nl, hw8z, hw9z]; done) | (simp [z_nl, hw9z]; done) | (simp [z_nl, hz9]; done))) ?_
                            refine V_goto (pc := 136) X 67 dX10_paint_136 (by decide) ?_
                            have hy : (r_by h (r_lay h) (4 * (i : Int) + (j : Int)) (c : Int)) < (r_pC h (r_lay h) (4 * (i : Int) + (j : Int)) (r_pY h (r_lay h) (i : Int) (r_pX h (r_lay h) i) j) c).2 → (r_pC h (r_lay h) (4 * (i : Int) + (j : Int)) (r_pY h (r_lay h) (i : Int) (r_pX h (r_lay h) i) j) (c + 1)) = (8 * (4 * (i : Int) + (j : Int)) + (c : Int), (r_by h (r_lay h) (4 * (i : Int) + (j : Int)) (c : Int))) := fun hq => if_pos hq
                            have hn : ¬ (r_by h (r_lay h) (4 * (i : Int) + (j : Int)) (c : Int)) < (r_pC h (r_lay h) (4 * (i : Int) + (j : Int)) (r_pY h (r_lay h) (i : Int) (r_pX h (r_lay h) i) j) c).2 → (r_pC h (r_lay h) (4 * (i : Int) + (j : Int)) (r_pY h (r_lay h) (i : Int) (r_pX h (r_lay h) i) j) (c + 1)) = (r_pC h (r_lay h) (4 * (i : Int) + (j : Int)) (r_pY h (r_lay h) (i : Int) (r_pX h (r_lay h) i) j) c) := fun hq => if_neg hq
                            first
                              | exact absurd c_104 c_123
                              | exact absurd c_123 c_104
                              | (refine V_loc ?_ (ih_67 (c + 1) (c : Int) (0, (r_by h (r_lay h) (4 * (i : Int) + (j : Int)) (c : Int))) (by omega) (by omega) (show ¬ (0 : Nat) = 1 by decide)); show [_, _, _, _, _, _, _, _, _, _] = [_, _, _, _, _, _, _, _, _, _]; rw [hy (Int.not_le.mp c_104)]; rfl)
                              | (refine V_loc ?_ (ih_67 (c + 1) (c : Int) (0, (r_by h (r_lay h) (4 * (i : Int) + (j : Int)) (c : Int))) (by omega) (by omega) (show ¬ (0 : Nat) = 1 by decide)); show [_, _, _, _, _, _, _, _, _, _] = [_, _, _, _, _, _, _, _, _, _]; rw [hn (Int.not_lt.mpr c_104)]; rfl)
                          · skip
                            refine V_iload (pc := 126) X dX10_paint_126 rfl ?_
                            refine V_goto (pc := 128) X 132 dX10_paint_128 (by decide) ?_
                            refine V_istore_n (pc := 132) X dX10_paint_132 (by exact Nat.le_of_ble_eq_true rfl) (by first | rfl | ((repeat (refine z_nl_set ?_ (by first | exact (show (0 : Nat) ≠ 1 by decide) | exact (show (2 : Nat) ≠ 1 by decide)))); first | rfl | (simp [z_nl, hz5, hz6, hz7, hz8, hz9]; done) | (simp [z_nl, hw6z, hw7z, hw8z, hw9z]; done) | (simp [z_nl, hw7z, hw8z, hw9z]; done) | (simp [z_nl, hw8z, hw9z]; done) | (simp [z_nl, hw9z]; done) | (simp [z_nl, hz9]; done))) ?_
                            refine V_iinc (pc := 133) X dX10_paint_133 rfl (by first | rfl | ((repeat (refine z_nl_set ?_ (by first | exact (show (0 : Nat) ≠ 1 by decide) | exact (show (2 : Nat) ≠ 1 by decide)))); first | rfl | (simp [z_nl, hz5, hz6, hz7, hz8, hz9]; done) | (simp [z_nl, hw6z, hw7z, hw8z, hw9z]; done) | (simp [z_nl, hw7z, hw8z, hw9z]; done) | (simp [z_nl, hw8z, hw9z]; done) | (simp [z_nl, hw9z]; done) | (simp [z_nl, hz9]; done))) ?_
                            refine V_goto (pc := 136) X 67 dX10_paint_136 (by decide) ?_
                            have hy : (r_by h (r_lay h) (4 * (i : Int) + (j : Int)) (c : Int)) < (r_pC h (r_lay h) (4 * (i : Int) + (j : Int)) (r_pY h (r_lay h) (i : Int) (r_pX h (r_lay h) i) j) c).2 → (r_pC h (r_lay h) (4 * (i : Int) + (j : Int)) (r_pY h (r_lay h) (i : Int) (r_pX h (r_lay h) i) j) (c + 1)) = (8 * (4 * (i : Int) + (j : Int)) + (c : Int), (r_by h (r_lay h) (4 * (i : Int) + (j : Int)) (c : Int))) := fun hq => if_pos hq
                            have hn : ¬ (r_by h (r_lay h) (4 * (i : Int) + (j : Int)) (c : Int)) < (r_pC h (r_lay h) (4 * (i : Int) + (j : Int)) (r_pY h (r_lay h) (i : Int) (r_pX h (r_lay h) i) j) c).2 → (r_pC h (r_lay h) (4 * (i : Int) + (j : Int)) (r_pY h (r_lay h) (i : Int) (r_pX h (r_lay h) i) j) (c + 1)) = (r_pC h (r_lay h) (4 * (i : Int) + (j : Int)) (r_pY h (r_lay h) (i : Int) (r_pX h (r_lay h) i) j) c) := fun hq => if_neg hq
                            first
                              | exact absurd c_104 c_123
                              | exact absurd c_123 c_104
                              | (refine V_loc ?_ (ih_67 (c + 1) (c : Int) (0, (r_by h (r_lay h) (4 * (i : Int) + (j : Int)) (c : Int))) (by omega) (by omega) (show ¬ (0 : Nat) = 1 by decide)); show [_, _, _, _, _, _, _, _, _, _] = [_, _, _, _, _, _, _, _, _, _]; rw [hy (Int.not_le.mp c_104)]; rfl)
                              | (refine V_loc ?_ (ih_67 (c + 1) (c : Int) (0, (r_by h (r_lay h) (4 * (i : Int) + (j : Int)) (c : Int))) (by omega) (by omega) (show ¬ (0 : Nat) = 1 by decide)); show [_, _, _, _, _, _, _, _, _, _] = [_, _, _, _, _, _, _, _, _, _]; rw [hn (Int.not_lt.mpr c_104)]; rfl)
                refine V_heap (h' := (z_rw h 103 (r_up (r_lay h) (4 * (i : Int) + (j : Int)) (r_lay h (4 * (i : Int) + (j : Int)))))) (by rw [r_up_same]) ?_
                exact lp_67 _ 0 (r_lay h (4 * (i : Int) + (j : Int))) w9 (Nat.lt_succ_self _) (by decide) hw9z
          exact lp_37 _ 0 z6 z7 z8 z9 (Nat.lt_succ_self _) (Nat.zero_le _) hz6 hz7 hz8 hz9
    exact lp_25 _ 0 (9, 0) (9, 0) (9, 0) (9, 0) (9, 0) (Nat.lt_succ_self _) (Nat.zero_le _) (by decide) (by decide) (by decide) (by decide) (by decide)
  · skip
    refine V_iconst (pc := 10) X dX10_paint_10 ?_
    refine V_iret (st := []) (pc := 11) X hQ dX10_paint_11 rfl rfl ?_
    exact Or.inl ⟨by intro g; have := of_decide_eq_false c_7; omega, rfl, rfl⟩
