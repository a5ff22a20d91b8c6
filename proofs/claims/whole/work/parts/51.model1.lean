/-! PaneLightModel, 1 -/
set_option maxHeartbeats 4000000 in
set_option maxRecDepth 100000 in
theorem ct_X10_in {n : Nat} {h : z_H} {v lo hi : Int} (h1 : z_RL v) (h2 : z_RL lo) (h3 : z_RL hi) : z_Ct mX10_in n [(1, v), (1, lo), (1, hi)] h (z_pure (0, z_b (r_in v lo hi)) h) := by
  refine z_mk (L := [(1, v), (9, 0), (1, lo), (9, 0), (1, hi), (9, 0)]) oX10_in.2.2.2.2 (Nat.le_of_ble_eq_true rfl) rfl ?_
  intro Γ X hQ
  obtain ⟨v1, v2⟩ := h1
  obtain ⟨l1, l2⟩ := h2
  obtain ⟨u1, u2⟩ := h3
  refine V_lload_n (pc := 0) X dX10_in_0 rfl ?_
  refine V_lload_n (pc := 1) X dX10_in_1 rfl ?_
  refine V_lcmp (pc := 2) X dX10_in_2 ⟨by omega, by omega⟩ ⟨by omega, by omega⟩ ?_
  refine V_if_lt (pc := 3) X 17 dX10_in_3 (by decide) (z_cmp_R _ _) (fun c_3 => ?_) (fun c_3 => ?_)
  · skip
    have d1 : v < lo := z_cmp_lt.mp (by omega)
    refine V_iconst (pc := 17) X dX10_in_17 ?_
    refine V_zret (st := []) (pc := 18) X hQ dX10_in_18 rfl (by omega) rfl ?_
    exact z_pi (by unfold z_b r_in; first | (rw [if_pos (decide_eq_true (by omega))]) | (rw [if_neg (by simp; omega)]))
  · skip
    have d1 : lo ≤ v := z_cmp_ge.mp (by omega)
    refine V_lload_n (pc := 6) X dX10_in_6 rfl ?_
    refine V_lload (pc := 7) X dX10_in_7 rfl ?_
    refine V_lcmp (pc := 9) X dX10_in_9 ⟨by omega, by omega⟩ ⟨by omega, by omega⟩ ?_
    refine V_if_gt (pc := 10) X 17 dX10_in_10 (by decide) (z_cmp_R _ _) (fun c_10 => ?_) (fun c_10 => ?_)
    · skip
      have d2 : hi < v := z_cmp_gt.mp (by omega)
      refine V_iconst (pc := 17) X dX10_in_17 ?_
      refine V_zret (st := []) (pc := 18) X hQ dX10_in_18 rfl (by omega) rfl ?_
      exact z_pi (by unfold z_b r_in; first | (rw [if_pos (decide_eq_true (by omega))]) | (rw [if_neg (by simp; omega)]))
    · skip
      have d2 : v ≤ hi := z_cmp_le.mp (by omega)
      refine V_iconst (pc := 13) X dX10_in_13 ?_
      refine V_goto (pc := 14) X 18 dX10_in_14 (by decide) ?_
      refine V_zret (st := []) (pc := 18) X hQ dX10_in_18 rfl (by omega) rfl ?_
      exact z_pi (by unfold z_b r_in; first | (rw [if_pos (decide_eq_true (by omega))]) | (rw [if_neg (by simp; omega)]))
set_option maxHeartbeats 4000000 in
set_option maxRecDepth 100000 in
theorem ct_X10_has {n : Nat} {h : z_H} {x i : Int} (h0 : 0 ≤ x) (h1 : x < 2147483648) (h2 : 0 ≤ i) (h3 : i < 31) : z_Ct mX10_has n [(0, x), (0, i)] h (z_pure (0, z_b (tb x i)) h) := by
  refine z_mk (L := [(0, x), (0, i)]) oX10_has.2.2.2.2 (Nat.le_of_ble_eq_true rfl) rfl ?_
  intro Γ X hQ
  refine V_iload_n (pc := 0) X dX10_has_0 rfl ?_
  refine V_iload_n (pc := 1) X dX10_has_1 rfl ?_
  refine V_ishr (pc := 2) X dX10_has_2 ?_
  refine V_iconst (pc := 3) X dX10_has_3 ?_
  refine V_iand (pc := 4) X dX10_has_4 ?_
  rw [z_bitb h0 h1 h2 h3]
  refine V_iconst (pc := 5) X dX10_has_5 ?_
  refine V_icmp_ne (pc := 6) X 13 dX10_has_6 (by decide) (z_b_rng _) ⟨by omega, by omega⟩ (fun c_6 => ?_) (fun c_6 => ?_)
  · skip
    refine V_iconst (pc := 13) X dX10_has_13 ?_
    refine V_zret (st := []) (pc := 14) X hQ dX10_has_14 rfl (by omega) rfl ?_
    exact z_pi (by first | exact c_6.symm | (rcases z_b_01 (tb x i) with g | g; exact g.symm; exact absurd g c_6))
  · skip
    refine V_iconst (pc := 9) X dX10_has_9 ?_
    refine V_goto (pc := 10) X 14 dX10_has_10 (by decide) ?_
    refine V_zret (st := []) (pc := 14) X hQ dX10_has_14 rfl (by omega) rfl ?_
    exact z_pi (by first | exact c_6.symm | (rcases z_b_01 (tb x i) with g | g; exact g.symm; exact absurd g c_6))
set_option maxHeartbeats 4000000 in
set_option maxRecDepth 100000 in
theorem ct_X10_bits {n0 : Nat} {h : z_H} {x : Int} (h0 : 0 ≤ x) (h1 : x < 2147483648) : z_Ct mX10_bits n0 [(0, x)] h (z_pure (0, z_pop x) h) := by
  refine z_mk (L := [(0, x), (9, 0), (9, 0)]) oX10_bits.2.2.2.2 (Nat.le_of_ble_eq_true rfl) rfl ?_
  intro Γ X hQ
  refine V_iconst (pc := 0) X dX10_bits_0 ?_
  refine V_istore_n (pc := 1) X dX10_bits_1 (by exact Nat.le_of_ble_eq_true rfl) rfl ?_
  refine V_iload_n (pc := 2) X dX10_bits_2 rfl ?_
  refine V_istore_n (pc := 3) X dX10_bits_3 (by exact Nat.le_of_ble_eq_true rfl) rfl ?_
  have lp_4 : ∀ (m : Nat) (u n : Int), u.toNat < m → 0 ≤ u → u < 2147483648 → n + z_pop u = z_pop x → z_V Γ (n0, 0, 0) 4 [(0, x), (0, n), (0, u)] [] h := by
    intro m
    induction m with
    | zero => intro u n hm; exact absurd hm (Nat.not_lt_zero _)
    | succ m ih_4 =>
      intro u n hm hu0 hu1 hn
      refine V_iload_n (pc := 4) X dX10_bits_4 rfl ?_
      refine V_if_eq (pc := 5) X 20 dX10_bits_5 (by decide) ⟨by omega, by omega⟩ (fun c_5 => ?_) (fun c_5 => ?_)
      · skip
        refine V_iload_n (pc := 20) X dX10_bits_20 rfl ?_
        refine V_iret (st := []) (pc := 21) X hQ dX10_bits_21 rfl rfl ?_
        exact z_pi (by rw [c_5, z_pop_0] at hn; omega)
      · skip
        refine V_iinc (pc := 8) X dX10_bits_8 rfl rfl ?_
        refine V_iload_n (pc := 11) X dX10_bits_11 rfl ?_
        refine V_iload_n (pc := 12) X dX10_bits_12 rfl ?_
        refine V_iconst (pc := 13) X dX10_bits_13 ?_
        refine V_isub (pc := 14) X dX10_bits_14 ?_
        refine V_iand (pc := 15) X dX10_bits_15 ?_
        refine V_istore_n (pc := 16) X dX10_bits_16 (by exact Nat.le_of_ble_eq_true rfl) rfl ?_
        refine V_goto (pc := 17) X 4 dX10_bits_17 (by decide) ?_
        have st := z_pop_step (u := u) (by omega) hu1
        exact ih_4 (z_and u (u - 1)) (n + 1) (by omega) (by omega) (by omega) (by omega)
  exact lp_4 _ x 0 (Nat.lt_succ_self _) h0 h1 (by omega)
set_option maxHeartbeats 4000000 in
set_option maxRecDepth 100000 in
theorem ct_X10_copies {n NA NB : Nat} {h : z_H} {A B i j m9 : Int} (kA : z_kd n A = (1, NA)) (kB : z_kd n B = (1, NB)) (hne : A ≠ B) (h0 : 0 ≤ i) (h1 : i + m9 ≤ NA) (h2 : 0 ≤ j) (h3 : j + m9 ≤ NB) (h4 : 0 ≤ m9) (hA : NA < 100000) (hB : NB < 100000) : z_Ct mX10_copies n [(2, A), (0, i), (2, B), (0, j), (0, m9)] h (z_void (r_cp h A i B j m9)) := by
  refine z_mk (L := [(2, A), (0, i), (2, B), (0, j), (0, m9), (9, 0)]) oX10_copies.2.2.2.2 (Nat.le_of_ble_eq_true rfl) rfl ?_
  intro Γ X hQ
  have A0 := (z_kd_spec kA (Nat.ne_of_beq_eq_false rfl)).1
  have B0 := (z_kd_spec kB (Nat.ne_of_beq_eq_false rfl)).1
  refine V_iconst (pc := 0) X dX10_copies_0 ?_
  refine V_istore (pc := 1) X dX10_copies_1 (by exact Nat.le_of_ble_eq_true rfl) rfl ?_
  have lp_3 : ∀ (m : Nat) (e : Int), (m9 - e).toNat < m → 0 ≤ e → e ≤ m9 → z_V Γ (n, 0, 0) 3 [(2, A), (0, i), (2, B), (0, j), (0, m9), (0, e)] [] (z_rw h B (fun r => if j ≤ r ∧ r < j + e then h A (i + (r - j)) else h B r)) := by
    intro m
    induction m with
    | zero => intro e hm; exact absurd hm (Nat.not_lt_zero _)
    | succ m ih_3 =>
      intro e hm he0 he1
      refine V_iload (pc := 3) X dX10_copies_3 rfl ?_
      refine V_iload (pc := 5) X dX10_copies_5 rfl ?_
      refine V_icmp_ge (pc := 7) X 28 dX10_copies_7 (by decide) ⟨by omega, by omega⟩ ⟨by omega, by omega⟩ (fun c_7 => ?_) (fun c_7 => ?_)
      · skip
        refine V_vret (st := []) (pc := 28) X hQ dX10_copies_28 rfl rfl ?_
        exact ⟨rfl, by (obtain rfl : e = m9 := by omega); rfl⟩
      · skip
        refine V_aload_n (pc := 10) X dX10_copies_10 rfl (by first | decide | omega | assumption) ?_
        refine V_iload_n (pc := 11) X dX10_copies_11 rfl ?_
        refine V_iload (pc := 12) X dX10_copies_12 rfl ?_
        refine V_iadd (pc := 14) X dX10_copies_14 ?_
        refine V_aload_n (pc := 15) X dX10_copies_15 rfl (by first | decide | omega | assumption) ?_
        refine V_iload_n (pc := 16) X dX10_copies_16 rfl ?_
        refine V_iload (pc := 17) X dX10_copies_17 rfl ?_
        refine V_iadd (pc := 19) X dX10_copies_19 ?_
        refine V_iald (pc := 20) X dX10_copies_20 (by first | rfl | assumption | (simp only [*]; done) | omega) (by omega) (by omega) (by omega) ?_
        rw [z_rw_ne h _ hne]
        refine V_iast (pc := 21) X dX10_copies_21 (by first | rfl | assumption | (simp only [*]; done) | omega) (by omega) (by omega) (by omega) ?_
        rw [z_rw_st]
        refine V_iinc (pc := 22) X dX10_copies_22 rfl rfl ?_
        refine V_goto (pc := 25) X 3 dX10_copies_25 (by decide) ?_
        refine V_heap ?_ (ih_3 (e + 1) (by omega) (by omega) (by omega))
        congr 1
        funext r
        by_cases g : r = j + e
        · rw [if_pos g, if_pos (by omega), g, show i + (j + e - j) = i + e by omega]
        · rw [if_neg g]
          by_cases g2 : j ≤ r ∧ r < j + e
          · rw [if_pos g2, if_pos (by omega)]
          · rw [if_neg g2, if_neg (by omega)]
  refine V_heap (h' := z_rw h B (fun r => if j ≤ r ∧ r < j + 0 then h A (i + (r - j)) else h B r)) (by rw [show (fun r => if j ≤ r ∧ r < j + 0 then h A (i + (r - j)) else h B r) = h B from by funext r; rw [if_neg (by omega)]]; exact (z_rw_same h B).symm) ?_
  exact lp_3 _ 0 (Nat.lt_succ_self _) (by decide) (by omega)
set_option maxHeartbeats 4000000 in
set_option maxRecDepth 100000 in
theorem ct_X10_begins {h : z_H} (hO : r_Ob h) {m1 s1 : Int} : z_Ct mX10_begins 107 [(2, 89), (0, m1), (0, s1)] h (z_void (r_begH h m1 s1)) := by
  refine z_mk (L := [(2, 89), (0, m1), (0, s1), (9, 0)]) oX10_begins.2.2.2.2 (Nat.le_of_ble_eq_true rfl) rfl ?_
  intro Γ X hQ
  obtain ⟨rb2, rb3, rb5, rb6, rb7, rb9, rb10, rb11, rb12, rb13, rb15, rb25, rb26, rb30, rb31, rb32, rb33⟩ := id hO
  refine V_iconst (pc := 0) X dX10_begins_0 ?_
  refine V_istore_n (pc := 1) X dX10_begins_1 (by exact Nat.le_of_ble_eq_true rfl) rfl ?_
  have lp_2 : ∀ (m : Nat) (e : Int), (8 - e).toNat < m → 0 ≤ e → e ≤ 8 → z_V Γ (107, 0, 0) 2 [(2, 89), (0, m1), (0, s1), (0, e)] [] (z_rw h 92 (fun r => if 0 ≤ r ∧ r < e then -9 else h 92 r)) := by
    intro m
    induction m with
    | zero => intro e hm; exact absurd hm (Nat.not_lt_zero _)
    | succ m ih_2 =>
      intro e hm he0 he1
      refine V_iload_n (pc := 2) X dX10_begins_2 rfl ?_
      refine V_bipush (pc := 3) X dX10_begins_3 (by decide) ?_
      refine V_icmp_ge (pc := 5) X 24 dX10_begins_5 (by decide) ⟨by omega, by omega⟩ ⟨by omega, by omega⟩ (fun c_5 => ?_) (fun c_5 => ?_)
      · skip
        refine V_aload_n (pc := 24) X dX10_begins_24 rfl (by first | decide | omega | assumption) ?_
        refine V_gz (pc := 25) X dX10_begins_25 f_RX10_23 (by first | rfl | assumption | (simp only [*]; done) | omega) 5 rfl (show _ = (92 : Int) from by first | exact rb5 | ((repeat (first | rw [z_st_at] | rw [z_st_slot _ (by decide)] | rw [z_st_cell _ (by decide)] | rw [z_rw_ne _ _ (by decide)])); exact rb5)) ?_
        refine V_bipush (pc := 28) X dX10_begins_28 (by decide) ?_
        refine V_iconst (pc := 30) X dX10_begins_30 ?_
        refine V_iast (pc := 31) X dX10_begins_31 (by first | rfl | assumption | (simp only [*]; done) | omega) (by omega) (by omega) (by decide) ?_
        rw [z_rw_st]
        refine V_aload_n (pc := 32) X dX10_begins_32 rfl (by first | decide | omega | assumption) ?_
        refine V_gz (pc := 33) X dX10_begins_33 f_RX10_23 (by first | rfl | assumption | (simp only [*]; done) | omega) 5 rfl (show _ = (92 : Int) from by first | exact rb5 | ((repeat (first | rw [z_st_at] | rw [z_st_slot _ (by decide)] | rw [z_st_cell _ (by decide)] | rw [z_rw_ne _ _ (by decide)])); exact rb5)) ?_
        refine V_bipush (pc := 36) X dX10_begins_36 (by decide) ?_
        refine V_iload_n (pc := 38) X dX10_begins_38 rfl ?_
        refine V_iast (pc := 39) X dX10_begins_39 (by first | rfl | assumption | (simp only [*]; done) | omega) (by omega) (by omega) (by decide) ?_
        rw [z_rw_st]
        refine V_aload_n (pc := 40) X dX10_begins_40 rfl (by first | decide | omega | assumption) ?_
        refine V_gz (pc := 41) X dX10_begins_41 f_RX10_23 (by first | rfl | assumption | (simp only [*]; done) | omega) 5 rfl (show _ = (92 : Int) from by first | exact rb5 | ((repeat (first | rw [z_st_at] | rw [z_st_slot _ (by decide)] | rw [z_st_cell _ (by decide)] | rw [z_rw_ne _ _ (by decide)])); exact rb5)) ?_
        refine V_bipush (pc := 44) X dX10_begins_44 (by decide) ?_
        refine V_iload_n (pc := 46) X dX10_begins_46 rfl ?_
        refine V_iast (pc := 47) X dX10_begins_47 (by first | rfl | assumption | (simp only [*]; done) | omega) (by omega) (by omega) (by decide) ?_
        rw [z_rw_st]
        refine V_heap (h' := z_rw h 92 (r_beg (h 92) m1 s1)) (by
          congr 1
          funext r
          unfold r_beg
          by_cases e10 : r = 10
          · rw [if_pos e10, if_neg (by omega), if_neg (by omega), if_neg (by omega), if_pos e10]
          · rw [if_neg e10, if_neg e10]
            by_cases e9 : r = 9
            · rw [if_pos e9, if_neg (by omega), if_neg (by omega), if_pos e9]
            · rw [if_neg e9, if_neg e9]
              by_cases e8 : r = 8
              · rw [if_pos e8, if_neg (by omega), if_pos e8]
              · rw [if_neg e8, if_neg e8]
                by_cases g : 0 ≤ r ∧ r < e
                · rw [if_pos g, if_pos (by omega)]
                · rw [if_neg g, if_neg (by omega)]) ?_
        refine V_aload_n (pc := 48) X dX10_begins_48 rfl (by first | decide | omega | assumption) ?_
        refine V_iconst (pc := 49) X dX10_begins_49 ?_
        refine V_pz (pc := 50) X dX10_begins_50 f_RX10_73 (by first | rfl | assumption | (simp only [*]; done) | omega) (fun b => z_fitI b _) 8 rfl ?_
        refine V_aload_n (pc := 53) X dX10_begins_53 rfl (by first | decide | omega | assumption) ?_
        refine V_iconst (pc := 54) X dX10_begins_54 ?_
        refine V_pz (pc := 55) X dX10_begins_55 f_RX10_76 (by first | rfl | assumption | (simp only [*]; done) | omega) (fun b => z_fitI b _) 14 rfl ?_
        refine V_aload_n (pc := 58) X dX10_begins_58 rfl (by first | decide | omega | assumption) ?_
        refine V_gz (pc := 59) X dX10_begins_59 f_RX10_41 (by first | rfl | assumption | (simp only [*]; done) | omega) 12 rfl (show _ = (98 : Int) from by first | exact rb12 | ((repeat (first | rw [z_st_at] | rw [z_st_slot _ (by decide)] | rw [z_st_cell _ (by decide)] | rw [z_rw_ne _ _ (by decide)])); exact rb12)) ?_
        refine V_iconst (pc := 62) X dX10_begins_62 ?_
        refine V_iconst (pc := 63) X dX10_begins_63 ?_
        refine V_bast (pc := 64) X dX10_begins_64 (by first | rfl | assumption | (simp only [*]; done) | omega) (by omega) (by omega) (by decide) (by omega) ?_
        refine V_aload_n (pc := 65) X dX10_begins_65 rfl (by first | decide | omega | assumption) ?_
        refine V_gz (pc := 66) X dX10_begins_66 f_RX10_41 (by first | rfl | assumption | (simp only [*]; done) | omega) 12 rfl (show _ = (98 : Int) from by first | exact rb12 | ((repeat (first | rw [z_st_at] | rw [z_st_slot _ (by decide)] | rw [z_st_cell _ (by decide)] | rw [z_rw_ne _ _ (by decide)])); exact rb12)) ?_
        refine V_iconst (pc := 69) X dX10_begins_69 ?_
        refine V_iconst (pc := 70) X dX10_begins_70 ?_
        refine V_bast (pc := 71) X dX10_begins_71 (by first | rfl | assumption | (simp only [*]; done) | omega) (by omega) (by omega) (by decide) (by omega) ?_
        refine V_vret (st := []) (pc := 72) X hQ dX10_begins_72 rfl rfl ?_
        exact ⟨rfl, rfl⟩
      · skip
        refine V_aload_n (pc := 8) X dX10_begins_8 rfl (by first | decide | omega | assumption) ?_
        refine V_gz (pc := 9) X dX10_begins_9 f_RX10_23 (by first | rfl | assumption | (simp only [*]; done) | omega) 5 rfl (show _ = (92 : Int) from by first | exact rb5 | ((repeat (first | rw [z_st_at] | rw [z_st_slot _ (by decide)] | rw [z_st_cell _ (by decide)] | rw [z_rw_ne _ _ (by decide)])); exact rb5)) ?_
        refine V_iconst (pc := 12) X dX10_begins_12 ?_
        refine V_iload_n (pc := 13) X dX10_begins_13 rfl ?_
        refine V_iadd (pc := 14) X dX10_begins_14 ?_
        refine V_bipush (pc := 15) X dX10_begins_15 (by decide) ?_
        refine V_iast (pc := 17) X dX10_begins_17 (by first | rfl | assumption | (simp only [*]; done) | omega) (by omega) (by omega) (by decide) ?_
        rw [z_rw_st]
        refine V_iinc (pc := 18) X dX10_begins_18 rfl rfl ?_
        refine V_goto (pc := 21) X 2 dX10_begins_21 (by decide) ?_
        refine V_heap ?_ (ih_2 (e + 1) (by omega) (by omega) (by omega))
        congr 1
        funext r
        by_cases g : r = 0 + e
        · rw [if_pos g, if_pos (by omega)]
        · rw [if_neg g]
          by_cases g2 : 0 ≤ r ∧ r < e
          · rw [if_pos g2, if_pos (by omega)]
          · rw [if_neg g2, if_neg (by omega)]
  refine V_heap (h' := z_rw h 92 (fun r => if 0 ≤ r ∧ r < 0 then -9 else h 92 r)) (by rw [show (fun r => if 0 ≤ r ∧ r < 0 then -9 else h 92 r) = h 92 from by funext r; rw [if_neg (by omega)]]; exact (z_rw_same h 92).symm) ?_
  exact lp_2 _ 0 (Nat.lt_succ_self _) (by decide) (by decide)
set_option maxHeartbeats 4000000 in
set_option maxRecDepth 100000 in
theorem ct_X10_breaksOn {h : z_H} {c p : Int} (kc : z_kd 107 c = (1, 11)) (hTr : ∀ s, 0 ≤ s → s < 8 → z_R (h c s)) (h0 : 0 ≤ p) (h1 : p < 20) : z_Ct mX10_breaksOn 107 [(2, c), (0, p)] h (z_void (z_rw h c (r_brk (h c) p))) := by
  refine z_mk (L := [(2, c), (0, p), (9, 0)]) oX10_breaksOn.2.2.2.2 (Nat.le_of_ble_eq_true rfl) rfl ?_
  intro Γ X hQ
  have kc0 := (z_kd_spec kc (Nat.ne_of_beq_eq_false rfl)).1
  refine V_iconst (pc := 0) X dX10_breaksOn_0 ?_
  refine V_istore_n (pc := 1) X dX10_breaksOn_1 (by exact Nat.le_of_ble_eq_true rfl) rfl ?_
  have lp_2 : ∀ (m : Nat) (e : Int), (8 - e).toNat < m → 0 ≤ e → e ≤ 8 → z_V Γ (107, 0, 0) 2 [(2, c), (0, p), (0, e)] [] (z_rw h c (fun r => if 0 ≤ r ∧ r < e ∧ h c r = p then -9 else h c r)) := by
    intro m
    induction m with
    | zero => intro e hm; exact absurd hm (Nat.not_lt_zero _)
    | succ m ih_2 =>
      intro e hm he0 he1
      have hre := hTr e
      refine V_iload_n (pc := 2) X dX10_breaksOn_2 rfl ?_
      refine V_bipush (pc := 3) X dX10_breaksOn_3 (by decide) ?_
      refine V_icmp_ge (pc := 5) X 38 dX10_breaksOn_5 (by decide) ⟨by omega, by omega⟩ ⟨by omega, by omega⟩ (fun c_5 => ?_) (fun c_5 => ?_)
      · skip
        refine V_aload_n (pc := 38) X dX10_breaksOn_38 rfl (by first | decide | omega | assumption) ?_
        refine V_bipush (pc := 39) X dX10_breaksOn_39 (by decide) ?_
        refine V_dup2 (pc := 41) X dX10_breaksOn_41 (Nat.ne_of_beq_eq_false rfl) (Nat.ne_of_beq_eq_false rfl) ?_
        refine V_iald (pc := 42) X dX10_breaksOn_42 (by first | rfl | assumption | (simp only [*]; done) | omega) (by omega) (by omega) (by decide) ?_
        rw [show z_rw h c (fun r => if 0 ≤ r ∧ r < e ∧ h c r = p then -9 else h c r) c 8 = h c 8 from by rw [z_rw_at, if_neg (by omega)]]
        refine V_iconst (pc := 43) X dX10_breaksOn_43 ?_
        refine V_iload_n (pc := 44) X dX10_breaksOn_44 rfl ?_
        refine V_ishl (pc := 45) X dX10_breaksOn_45 ?_
        refine V_ior (pc := 46) X dX10_breaksOn_46 ?_
        refine V_iast (pc := 47) X dX10_breaksOn_47 (by first | rfl | assumption | (simp only [*]; done) | omega) (by omega) (by omega) (by decide) ?_
        rw [z_rw_st]
        refine V_vret (st := []) (pc := 48) X hQ dX10_breaksOn_48 rfl rfl ?_
        exact ⟨rfl, by
            congr 1
            funext r
            unfold r_brk
            by_cases e8 : r = 8
            · rw [if_pos e8, if_neg (by omega), if_pos e8]
            · rw [if_neg e8]
              by_cases g : 0 ≤ r ∧ r < e ∧ h c r = p
              · rw [if_pos g, if_pos ⟨g.1, by omega, g.2.2⟩]
              · rw [if_neg g, if_neg (fun q => g ⟨q.1, by omega, q.2.2⟩), if_neg e8]⟩
      · skip
        obtain ⟨hr1, hr2⟩ := hre he0 (by omega)
        have rde : z_rw h c (fun r => if 0 ≤ r ∧ r < e ∧ h c r = p then -9 else h c r) c (0 + e) = h c e := by
          rw [z_rw_at, Int.zero_add, if_neg (by omega)]
        refine V_aload_n (pc := 8) X dX10_breaksOn_8 rfl (by first | decide | omega | assumption) ?_
        refine V_iconst (pc := 9) X dX10_breaksOn_9 ?_
        refine V_iload_n (pc := 10) X dX10_breaksOn_10 rfl ?_
        refine V_iadd (pc := 11) X dX10_breaksOn_11 ?_
        refine V_aload_n (pc := 12) X dX10_breaksOn_12 rfl (by first | decide | omega | assumption) ?_
        refine V_iconst (pc := 13) X dX10_breaksOn_13 ?_
        refine V_iload_n (pc := 14) X dX10_breaksOn_14 rfl ?_
        refine V_iadd (pc := 15) X dX10_breaksOn_15 ?_
        refine V_iald (pc := 16) X dX10_breaksOn_16 (by first | rfl | assumption | (simp only [*]; done) | omega) (by omega) (by omega) (by decide) ?_
        rw [rde]
        refine V_iload_n (pc := 17) X dX10_breaksOn_17 rfl ?_
        refine V_icmp_ne (pc := 18) X 26 dX10_breaksOn_18 (by decide) ⟨by omega, by omega⟩ ⟨by omega, by omega⟩ (fun c_18 => ?_) (fun c_18 => ?_)
        · skip
          refine V_aload_n (pc := 26) X dX10_breaksOn_26 rfl (by first | decide | omega | assumption) ?_
          refine V_iconst (pc := 27) X dX10_breaksOn_27 ?_
          refine V_iload_n (pc := 28) X dX10_breaksOn_28 rfl ?_
          refine V_iadd (pc := 29) X dX10_breaksOn_29 ?_
          refine V_iald (pc := 30) X dX10_breaksOn_30 (by first | rfl | assumption | (simp only [*]; done) | omega) (by omega) (by omega) (by decide) ?_
          rw [rde]
          refine V_iast (pc := 31) X dX10_breaksOn_31 (by first | rfl | assumption | (simp only [*]; done) | omega) (by omega) (by omega) (by decide) ?_
          rw [z_rw_st]
          refine V_iinc (pc := 32) X dX10_breaksOn_32 rfl rfl ?_
          refine V_goto (pc := 35) X 2 dX10_breaksOn_35 (by decide) ?_
          refine V_heap ?_ (ih_2 (e + 1) (by omega) (by omega) (by omega))
          congr 1
          funext r
          rw [Int.zero_add]
          by_cases g : r = e
          · rw [if_pos g, g]
            first
              | (rw [if_pos ⟨by omega, by omega, c_18⟩]; done)
              | (rw [if_neg (fun q => c_18 q.2.2)])
          · rw [if_neg g]
            by_cases g2 : 0 ≤ r ∧ r < e ∧ h c r = p
            · rw [if_pos g2, if_pos ⟨g2.1, by omega, g2.2.2⟩]
            · rw [if_neg g2, if_neg (fun q => g2 ⟨q.1, by omega, q.2.2⟩)]
        · skip
          refine V_bipush (pc := 21) X dX10_breaksOn_21 (by decide) ?_
          refine V_goto (pc := 23) X 31 dX10_breaksOn_23 (by decide) ?_
          refine V_iast (pc := 31) X dX10_breaksOn_31 (by first | rfl | assumption | (simp only [*]; done) | omega) (by omega) (by omega) (by decide) ?_
          rw [z_rw_st]
          refine V_iinc (pc := 32) X dX10_breaksOn_32 rfl rfl ?_
          refine V_goto (pc := 35) X 2 dX10_breaksOn_35 (by decide) ?_
          refine V_heap ?_ (ih_2 (e + 1) (by omega) (by omega) (by omega))
          congr 1
          funext r
          rw [Int.zero_add]
          by_cases g : r = e
          · rw [if_pos g, g]
            first
              | (rw [if_pos ⟨by omega, by omega, c_18⟩]; done)
              | (rw [if_neg (fun q => c_18 q.2.2)])
          · rw [if_neg g]
            by_cases g2 : 0 ≤ r ∧ r < e ∧ h c r = p
            · rw [if_pos g2, if_pos ⟨g2.1, by omega, g2.2.2⟩]
            · rw [if_neg g2, if_neg (fun q => g2 ⟨q.1, by omega, q.2.2⟩)]
  refine V_heap (h' := z_rw h c (fun r => if 0 ≤ r ∧ r < 0 ∧ h c r = p then -9 else h c r)) (by rw [show (fun r => if 0 ≤ r ∧ r < 0 ∧ h c r = p then -9 else h c r) = h c from by funext r; rw [if_neg (by omega)]]; exact (z_rw_same h c).symm) ?_
  exact lp_2 _ 0 (Nat.lt_succ_self _) (by decide) (by decide)
set_option maxHeartbeats 4000000 in
set_option maxRecDepth 100000 in
theorem ct_X10_isPane {h : z_H} (hO : r_Ob h) (hP : r_Pl h) {x y : Int} (hx : z_R x) (hy : z_R y) : z_Ct mX10_isPane 107 [(2, 89), (0, x), (0, y)] h (z_pure (0, z_b (r_isP h x y)) h) := by
  refine z_mk (L := [(2, 89), (0, x), (0, y)]) oX10_isPane.2.2.2.2 (Nat.le_of_ble_eq_true rfl) rfl ?_
  intro Γ X hQ
  obtain ⟨rb2, rb3, rb5, rb6, rb7, rb9, rb10, rb11, rb12, rb13, rb15, rb25, rb26, rb30, rb31, rb32, rb33⟩ := id hO
  obtain ⟨⟨hw1, hw2⟩, ⟨hh1, hh2⟩, ⟨hs1, hs2⟩, hgl, hco⟩ := id hP
  obtain ⟨hx1, hx2⟩ := hx
  obtain ⟨hy1, hy2⟩ := hy
  refine V_iload_n (pc := 0) X dX10_isPane_0 rfl ?_
  refine V_i2l (pc := 1) X dX10_isPane_1 ⟨by omega, by omega⟩ ?_
  refine V_lconst (pc := 2) (z := 0) X dX10_isPane_2 (by decide) ?_
  refine V_aload_n (pc := 3) X dX10_isPane_3 rfl (by first | decide | omega | assumption) ?_
  refine V_gz (pc := 4) X dX10_isPane_4 f_RX10_7 (by first | rfl | assumption | (simp only [*]; done) | omega) 0 rfl rfl ?_
  refine V_iconst (pc := 7) X dX10_isPane_7 ?_
  refine V_isub (pc := 8) X dX10_isPane_8 ?_
  refine V_i2l (pc := 9) X dX10_isPane_9 ⟨by omega, by omega⟩ ?_
  refine V_FS (pc := 10) X dX10_isPane_10 oX10_in l_RX10_81 sX10_in ⟨Nat.le_of_ble_eq_true rfl, Nat.le_of_ble_eq_true rfl⟩ ⟨rfl, rfl⟩ ⟨Nat.le_of_ble_eq_true rfl, Nat.le_of_ble_eq_true rfl⟩ (ct_X10_in ⟨by omega, by omega⟩ ⟨by omega, by omega⟩ ⟨by omega, by omega⟩) rfl (by rfl) (by exact Nat.le_of_ble_eq_true rfl) ?_
  refine V_bif_eq (pc := 13) X 36 dX10_isPane_13 (by decide)  (fun c_13 => ?_) (fun c_13 => ?_)
  · skip
    have d1 := of_decide_eq_false c_13
    refine V_iconst (pc := 36) X dX10_isPane_36 ?_
    refine V_zret (st := []) (pc := 37) X hQ dX10_isPane_37 rfl (by omega) rfl ?_
    exact z_pi (by unfold z_b r_isP; first | (rw [if_pos (decide_eq_true (by omega))]) | (rw [if_neg (by simp; omega)]))
  · skip
    have d1 := of_decide_eq_true c_13
    refine V_iload_n (pc := 16) X dX10_isPane_16 rfl ?_
    refine V_i2l (pc := 17) X dX10_isPane_17 ⟨by omega, by omega⟩ ?_
    refine V_lconst (pc := 18) (z := 0) X dX10_isPane_18 (by decide) ?_
    refine V_aload_n (pc := 19) X dX10_isPane_19 rfl (by first | decide | omega | assumption) ?_
    refine V_gz (pc := 20) X dX10_isPane_20 f_RX10_13 (by first | rfl | assumption | (simp only [*]; done) | omega) 1 rfl rfl ?_
    refine V_iconst (pc := 23) X dX10_isPane_23 ?_
    refine V_isub (pc := 24) X dX10_isPane_24 ?_
    refine V_i2l (pc := 25) X dX10_isPane_25 ⟨by omega, by omega⟩ ?_
    refine V_FS (pc := 26) X dX10_isPane_26 oX10_in l_RX10_81 sX10_in ⟨Nat.le_of_ble_eq_true rfl, Nat.le_of_ble_eq_true rfl⟩ ⟨rfl, rfl⟩ ⟨Nat.le_of_ble_eq_true rfl, Nat.le_of_ble_eq_true rfl⟩ (ct_X10_in ⟨by omega, by omega⟩ ⟨by omega, by omega⟩ ⟨by omega, by omega⟩) rfl (by rfl) (by exact Nat.le_of_ble_eq_true rfl) ?_
    refine V_bif_eq (pc := 29) X 36 dX10_isPane_29 (by decide)  (fun c_29 => ?_) (fun c_29 => ?_)
    · skip
      have d2 := of_decide_eq_false c_29
      refine V_iconst (pc := 36) X dX10_isPane_36 ?_
      refine V_zret (st := []) (pc := 37) X hQ dX10_isPane_37 rfl (by omega) rfl ?_
      exact z_pi (by unfold z_b r_isP; first | (rw [if_pos (decide_eq_true (by omega))]) | (rw [if_neg (by simp; omega)]))
    · skip
      have d2 := of_decide_eq_true c_29
      refine V_iconst (pc := 32) X dX10_isPane_32 ?_
      refine V_goto (pc := 33) X 37 dX10_isPane_33 (by decide) ?_
      refine V_zret (st := []) (pc := 37) X hQ dX10_isPane_37 rfl (by omega) rfl ?_
      exact z_pi (by unfold z_b r_isP; first | (rw [if_pos (decide_eq_true (by omega))]) | (rw [if_neg (by simp; omega)]))
set_option maxHeartbeats 4000000 in
set_option maxRecDepth 100000 in
theorem ct_X10_isSheet {h : z_H} (hO : r_Ob h) (hP : r_Pl h) {s : Int} (hs : z_R s) : z_Ct mX10_isSheet 107 [(2, 89), (0, s)] h (z_pure (0, z_b (decide (0 ≤ s ∧ s < h 89 4))) h) := by
  refine z_mk (L := [(2, 89), (0, s)]) oX10_isSheet.2.2.2.2 (Nat.le_of_ble_eq_true rfl) rfl ?_
  intro Γ X hQ
  obtain ⟨rb2, rb3, rb5, rb6, rb7, rb9, rb10, rb11, rb12, rb13, rb15, rb25, rb26, rb30, rb31, rb32, rb33⟩ := id hO
  obtain ⟨⟨hw1, hw2⟩, ⟨hh1, hh2⟩, ⟨hs1, hs2⟩, hgl, hco⟩ := id hP
  obtain ⟨hsa, hsb⟩ := ‹z_R s›
  refine V_iload_n (pc := 0) X dX10_isSheet_0 rfl ?_
  refine V_i2l (pc := 1) X dX10_isSheet_1 ⟨by omega, by omega⟩ ?_
  refine V_lconst (pc := 2) (z := 0) X dX10_isSheet_2 (by decide) ?_
  refine V_aload_n (pc := 3) X dX10_isSheet_3 rfl (by first | decide | omega | assumption) ?_
  refine V_gz (pc := 4) X dX10_isSheet_4 f_RX10_159 (by first | rfl | assumption | (simp only [*]; done) | omega) 4 rfl rfl ?_
  refine V_iconst (pc := 7) X dX10_isSheet_7 ?_
  refine V_isub (pc := 8) X dX10_isSheet_8 ?_
  refine V_i2l (pc := 9) X dX10_isSheet_9 ⟨by omega, by omega⟩ ?_
  refine V_FS (pc := 10) X dX10_isSheet_10 oX10_in l_RX10_81 sX10_in ⟨Nat.le_of_ble_eq_true rfl, Nat.le_of_ble_eq_true rfl⟩ ⟨rfl, rfl⟩ ⟨Nat.le_of_ble_eq_true rfl, Nat.le_of_ble_eq_true rfl⟩ (ct_X10_in ⟨by omega, by omega⟩ ⟨by omega, by omega⟩ ⟨by omega, by omega⟩) rfl (by rfl) (by exact Nat.le_of_ble_eq_true rfl) ?_
  refine V_zret (st := []) (pc := 13) X hQ dX10_isSheet_13 rfl (z_b_01 _) rfl ?_
  exact z_pi (by unfold r_in; congr 1; exact decide_eq_decide.mpr ⟨fun g => by omega, fun g => by omega⟩)
set_option maxHeartbeats 4000000 in
set_option maxRecDepth 100000 in
theorem ct_X10_isTile {n : Nat} {h : z_H} {x y : Int} (hx : z_R x) (hy : z_R y) : z_Ct mX10_isTile n [(0, x), (0, y)] h (z_pure (0, z_b (c_tile x y)) h) := by
  refine z_mk (L := [(0, x), (0, y)]) oX10_isTile.2.2.2.2 (Nat.le_of_ble_eq_true rfl) rfl ?_
  intro Γ X hQ
  obtain ⟨hx1, hx2⟩ := hx
  obtain ⟨hy1, hy2⟩ := hy
  refine V_iload_n (pc := 0) X dX10_isTile_0 rfl ?_
  refine V_i2l (pc := 1) X dX10_isTile_1 ⟨by omega, by omega⟩ ?_
  refine V_lconst (pc := 2) (z := 0) X dX10_isTile_2 (by decide) ?_
  refine V_ldc2 (pc := 3) X (11) dX10_isTile_3 c_RX10_166 (by decide) ?_
  refine V_FS (pc := 6) X dX10_isTile_6 oX10_in l_RX10_81 sX10_in ⟨Nat.le_of_ble_eq_true rfl, Nat.le_of_ble_eq_true rfl⟩ ⟨rfl, rfl⟩ ⟨Nat.le_of_ble_eq_true rfl, Nat.le_of_ble_eq_true rfl⟩ (ct_X10_in ⟨by omega, by omega⟩ ⟨by omega, by omega⟩ ⟨by omega, by omega⟩) rfl (by rfl) (by exact Nat.le_of_ble_eq_true rfl) ?_
  refine V_bif_eq (pc := 9) X 28 dX10_isTile_9 (by decide)  (fun c_9 => ?_) (fun c_9 => ?_)
  · skip
    have d1 := of_decide_eq_false c_9
    refine V_iconst (pc := 28) X dX10_isTile_28 ?_
    refine V_zret (st := []) (pc := 29) X hQ dX10_isTile_29 rfl (by omega) rfl ?_
    exact z_pi (by unfold z_b c_tile; first | (rw [if_pos (decide_eq_true (by omega))]) | (rw [if_neg (by simp; omega)]))
  · skip
    have d1 := of_decide_eq_true c_9
    refine V_iload_n (pc := 12) X dX10_isTile_12 rfl ?_
    refine V_i2l (pc := 13) X dX10_isTile_13 ⟨by omega, by omega⟩ ?_
    refine V_lconst (pc := 14) (z := 0) X dX10_isTile_14 (by decide) ?_
    refine V_ldc2 (pc := 15) X (6) dX10_isTile_15 c_RX10_168 (by decide) ?_
    refine V_FS (pc := 18) X dX10_isTile_18 oX10_in l_RX10_81 sX10_in ⟨Nat.le_of_ble_eq_true rfl, Nat.le_of_ble_eq_true rfl⟩ ⟨rfl, rfl⟩ ⟨Nat.le_of_ble_eq_true rfl, Nat.le_of_ble_eq_true rfl⟩ (ct_X10_in ⟨by omega, by omega⟩ ⟨by omega, by omega⟩ ⟨by omega, by omega⟩) rfl (by rfl) (by exact Nat.le_of_ble_eq_true rfl) ?_
    refine V_bif_eq (pc := 21) X 28 dX10_isTile_21 (by decide)  (fun c_21 => ?_) (fun c_21 => ?_)
    · skip
      have d2 := of_decide_eq_false c_21
      refine V_iconst (pc := 28) X dX10_isTile_28 ?_
      refine V_zret (st := []) (pc := 29) X hQ dX10_isTile_29 rfl (by omega) rfl ?_
      exact z_pi (by unfold z_b c_tile; first | (rw [if_pos (decide_eq_true (by omega))]) | (rw [if_neg (by simp; omega)]))
    · skip
      have d2 := of_decide_eq_true c_21
      refine V_iconst (pc := 24) X dX10_isTile_24 ?_
      refine V_goto (pc := 25) X 29 dX10_isTile_25 (by decide) ?_
      refine V_zret (st := []) (pc := 29) X hQ dX10_isTile_29 rfl (by omega) rfl ?_
      exact z_pi (by unfold z_b c_tile; first | (rw [if_pos (decide_eq_true (by omega))]) | (rw [if_neg (by simp; omega)]))
set_option maxHeartbeats 4000000 in
set_option maxRecDepth 100000 in
theorem ct_X10_isHour {n : Nat} {h : z_H} {x : Int} (hx : z_R x) : z_Ct mX10_isHour n [(0, x)] h (z_pure (0, z_b (c_hour x)) h) := by
  refine z_mk (L := [(0, x)]) oX10_isHour.2.2.2.2 (Nat.le_of_ble_eq_true rfl) rfl ?_
  intro Γ X hQ
  obtain ⟨hx1, hx2⟩ := hx
  refine V_iload_n (pc := 0) X dX10_isHour_0 rfl ?_
  refine V_i2l (pc := 1) X dX10_isHour_1 ⟨by omega, by omega⟩ ?_
  refine V_lconst (pc := 2) (z := 0) X dX10_isHour_2 (by decide) ?_
  refine V_ldc2 (pc := 3) X (7) dX10_isHour_3 c_RX10_170 (by decide) ?_
  refine V_FS (pc := 6) X dX10_isHour_6 oX10_in l_RX10_81 sX10_in ⟨Nat.le_of_ble_eq_true rfl, Nat.le_of_ble_eq_true rfl⟩ ⟨rfl, rfl⟩ ⟨Nat.le_of_ble_eq_true rfl, Nat.le_of_ble_eq_true rfl⟩ (ct_X10_in ⟨by omega, by omega⟩ ⟨by omega, by omega⟩ ⟨by omega, by omega⟩) rfl (by rfl) (by exact Nat.le_of_ble_eq_true rfl) ?_
  refine V_zret (st := []) (pc := 9) X hQ dX10_isHour_9 rfl (z_b_01 _) rfl ?_
  exact z_pi (by unfold r_in c_hour; congr 1; exact decide_eq_decide.mpr ⟨fun g => by omega, fun g => by omega⟩)
set_option maxHeartbeats 4000000 in
set_option maxRecDepth 100000 in
theorem ct_X10_isColour {n : Nat} {h : z_H} {x : Int} (hx : z_R x) : z_Ct mX10_isColour n [(0, x)] h (z_pure (0, z_b (c_hour x)) h) := by
  refine z_mk (L := [(0, x)]) oX10_isColour.2.2.2.2 (Nat.le_of_ble_eq_true rfl) rfl ?_
  intro Γ X hQ
  obtain ⟨hx1, hx2⟩ := hx
  refine V_iload_n (pc := 0) X dX10_isColour_0 rfl ?_
  refine V_i2l (pc := 1) X dX10_isColour_1 ⟨by omega, by omega⟩ ?_
  refine V_lconst (pc := 2) (z := 0) X dX10_isColour_2 (by decide) ?_
  refine V_ldc2 (pc := 3) X (7) dX10_isColour_3 c_RX10_170 (by decide) ?_
  refine V_FS (pc := 6) X dX10_isColour_6 oX10_in l_RX10_81 sX10_in ⟨Nat.le_of_ble_eq_true rfl, Nat.le_of_ble_eq_true rfl⟩ ⟨rfl, rfl⟩ ⟨Nat.le_of_ble_eq_true rfl, Nat.le_of_ble_eq_true rfl⟩ (ct_X10_in ⟨by omega, by omega⟩ ⟨by omega, by omega⟩ ⟨by omega, by omega⟩) rfl (by rfl) (by exact Nat.le_of_ble_eq_true rfl) ?_
  refine V_zret (st := []) (pc := 9) X hQ dX10_isColour_9 rfl (z_b_01 _) rfl ?_
  exact z_pi (by unfold r_in c_hour; congr 1; exact decide_eq_decide.mpr ⟨fun g => by omega, fun g => by omega⟩)
set_option maxHeartbeats 4000000 in
set_option maxRecDepth 100000 in
theorem ct_X10_sheetsAt {h : z_H} (hO : r_Ob h) (hP : r_Pl h) {c : Int} (kc : z_kd 107 c = (1, 11)) (hT : r_Mt (h c)) {p : Int} (h0 : -9 ≤ p) (h1 : p < 20) : z_Ct mX10_sheetsAt 107 [(2, 89), (2, c), (0, p)] h (z_pure (0, ((r_at h (h c) p : Nat) : Int)) h) := by
  refine z_mk (L := [(2, 89), (2, c), (0, p), (9, 0), (9, 0)]) oX10_sheetsAt.2.2.2.2 (Nat.le_of_ble_eq_true rfl) rfl ?_
  intro Γ X hQ
  obtain ⟨rb2, rb3, rb5, rb6, rb7, rb9, rb10, rb11, rb12, rb13, rb15, rb25, rb26, rb30, rb31, rb32, rb33⟩ := id hO
  obtain ⟨⟨hw1, hw2⟩, ⟨hh1, hh2⟩, ⟨hs1, hs2⟩, hgl, hco⟩ := id hP
  obtain ⟨tw, ⟨tb1, tb2⟩, ⟨tm1, tm2⟩, ⟨ts1, ts2⟩⟩ := id hT
  have kc0 := (z_kd_spec kc (Nat.ne_of_beq_eq_false rfl)).1
  refine V_iconst (pc := 0) X dX10_sheetsAt_0 ?_
  refine V_istore_n (pc := 1) X dX10_sheetsAt_1 (by exact Nat.le_of_ble_eq_true rfl) rfl ?_
  refine V_iconst (pc := 2) X dX10_sheetsAt_2 ?_
  refine V_istore (pc := 3) X dX10_sheetsAt_3 (by exact Nat.le_of_ble_eq_true rfl) rfl ?_
  have lp_5 : ∀ (m : Nat) (i : Nat), (h 89 4).toNat - i < m → i ≤ (h 89 4).toNat → z_V Γ (107, 0, 0) 5 [(2, 89), (2, c), (0, p), (0, ((z_set (fun s => decide (h c (s : Int) = p)) i : Nat) : Int)), (0, (i : Int))] [] h := by
    intro m
    induction m with
    | zero => intro i hm; exact absurd hm (Nat.not_lt_zero _)
    | succ m ih_5 =>
      intro i hm hi1
      refine V_iload (pc := 5) X dX10_sheetsAt_5 rfl ?_
      refine V_aload_n (pc := 7) X dX10_sheetsAt_7 rfl (by first | decide | omega | assumption) ?_
      refine V_gz (pc := 8) X dX10_sheetsAt_8 f_RX10_159 (by first | rfl | assumption | (simp only [*]; done) | omega) 4 rfl rfl ?_
      refine V_icmp_ge (pc := 11) X 41 dX10_sheetsAt_11 (by decide) ⟨by omega, by omega⟩ ⟨by omega, by omega⟩ (fun c_11 => ?_) (fun c_11 => ?_)
      · skip
        refine V_iload_n (pc := 41) X dX10_sheetsAt_41 rfl ?_
        refine V_iret (st := []) (pc := 42) X hQ dX10_sheetsAt_42 rfl rfl ?_
        exact z_pi (by unfold r_at; rw [show i = (h 89 4).toNat by omega])
      · skip
        refine V_iload_n (pc := 14) X dX10_sheetsAt_14 rfl ?_
        refine V_aload_n (pc := 15) X dX10_sheetsAt_15 rfl (by first | decide | omega | assumption) ?_
        refine V_iconst (pc := 16) X dX10_sheetsAt_16 ?_
        refine V_iload (pc := 17) X dX10_sheetsAt_17 rfl ?_
        refine V_iadd (pc := 19) X dX10_sheetsAt_19 ?_
        have twi := tw (0 + (i : Int)) (by omega) (by omega)
        refine V_iald (pc := 20) X dX10_sheetsAt_20 (by first | rfl | assumption | (simp only [*]; done) | omega) (by omega) (by omega) (by decide) ?_
        refine V_iload_n (pc := 21) X dX10_sheetsAt_21 rfl ?_
        refine V_icmp_ne (pc := 22) X 32 dX10_sheetsAt_22 (by decide) ⟨by omega, by omega⟩ ⟨by omega, by omega⟩ (fun c_22 => ?_) (fun c_22 => ?_)
        · skip
          refine V_iconst (pc := 32) X dX10_sheetsAt_32 ?_
          refine V_ior (pc := 33) X dX10_sheetsAt_33 ?_
          refine V_istore_n (pc := 34) X dX10_sheetsAt_34 (by exact Nat.le_of_ble_eq_true rfl) rfl ?_
          refine V_iinc (pc := 35) X dX10_sheetsAt_35 rfl rfl ?_
          refine V_goto (pc := 38) X 5 dX10_sheetsAt_38 (by decide) ?_
          first
            | (refine V_loc ?_ (ih_5 (i + 1) (by omega) (by omega)); show [_, _, _, _, _] = [_, _, _, _, _]; rw [← z_set_or (P := (fun s => decide (h c (s : Int) = p))) (n := i) (by omega) (decide_eq_true (by rw [Int.zero_add] at c_22; exact c_22))]; rfl)
            | (refine V_loc ?_ (ih_5 (i + 1) (by omega) (by omega)); show [_, _, _, _, _] = [_, _, _, _, _]; rw [z_set_no (P := (fun s => decide (h c (s : Int) = p))) (n := i) (decide_eq_false (by rw [Int.zero_add] at c_22; exact c_22)), z_or_0 (by have := z_set_lt (fun s => decide (h c (s : Int) = p)) i; have h2 : (2 : Nat) ^ i ≤ 2 ^ 8 := Nat.pow_le_pow_right (by decide) (by omega); omega)]; rfl)
        · skip
          refine V_iconst (pc := 25) X dX10_sheetsAt_25 ?_
          refine V_iload (pc := 26) X dX10_sheetsAt_26 rfl ?_
          refine V_ishl (pc := 28) X dX10_sheetsAt_28 ?_
          refine V_goto (pc := 29) X 33 dX10_sheetsAt_29 (by decide) ?_
          refine V_ior (pc := 33) X dX10_sheetsAt_33 ?_
          refine V_istore_n (pc := 34) X dX10_sheetsAt_34 (by exact Nat.le_of_ble_eq_true rfl) rfl ?_
          refine V_iinc (pc := 35) X dX10_sheetsAt_35 rfl rfl ?_
          refine V_goto (pc := 38) X 5 dX10_sheetsAt_38 (by decide) ?_
          first
            | (refine V_loc ?_ (ih_5 (i + 1) (by omega) (by omega)); show [_, _, _, _, _] = [_, _, _, _, _]; rw [← z_set_or (P := (fun s => decide (h c (s : Int) = p))) (n := i) (by omega) (decide_eq_true (by rw [Int.zero_add] at c_22; exact c_22))]; rfl)
            | (refine V_loc ?_ (ih_5 (i + 1) (by omega) (by omega)); show [_, _, _, _, _] = [_, _, _, _, _]; rw [z_set_no (P := (fun s => decide (h c (s : Int) = p))) (n := i) (decide_eq_false (by rw [Int.zero_add] at c_22; exact c_22)), z_or_0 (by have := z_set_lt (fun s => decide (h c (s : Int) = p)) i; have h2 : (2 : Nat) ^ i ≤ 2 ^ 8 := Nat.pow_le_pow_right (by decide) (by omega); omega)]; rfl)
  exact lp_5 _ 0 (Nat.lt_succ_self _) (Nat.zero_le _)
set_option maxHeartbeats 4000000 in
set_option maxRecDepth 100000 in
theorem ct_X10_through {h : z_H} (hO : r_Ob h) (hP : r_Pl h) {x : Int} (h0 : 0 ≤ x) (h1 : x < 2147483648) : z_Ct mX10_through 107 [(2, 89), (0, x)] h (z_pure (0, r_th h x) h) := by
  refine z_mk (L := [(2, 89), (0, x), (9, 0), (9, 0)]) oX10_through.2.2.2.2 (Nat.le_of_ble_eq_true rfl) rfl ?_
  intro Γ X hQ
  obtain ⟨rb2, rb3, rb5, rb6, rb7, rb9, rb10, rb11, rb12, rb13, rb15, rb25, rb26, rb30, rb31, rb32, rb33⟩ := id hO
  obtain ⟨⟨hw1, hw2⟩, ⟨hh1, hh2⟩, ⟨hs1, hs2⟩, hgl, hco⟩ := id hP
  refine V_bipush (pc := 0) X dX10_through_0 (by decide) ?_
  refine V_istore_n (pc := 2) X dX10_through_2 (by exact Nat.le_of_ble_eq_true rfl) rfl ?_
  refine V_iconst (pc := 3) X dX10_through_3 ?_
  refine V_istore_n (pc := 4) X dX10_through_4 (by exact Nat.le_of_ble_eq_true rfl) rfl ?_
  have lp_5 : ∀ (m : Nat) (i : Nat), (h 89 4).toNat - i < m → i ≤ (h 89 4).toNat → z_V Γ (107, 0, 0) 5 [(2, 89), (0, x), (0, r_thr h x i), (0, (i : Int))] [] h := by
    intro m
    induction m with
    | zero => intro i hm; exact absurd hm (Nat.not_lt_zero _)
    | succ m ih_5 =>
      intro i hm hi1
      refine V_iload_n (pc := 5) X dX10_through_5 rfl ?_
      refine V_aload_n (pc := 6) X dX10_through_6 rfl (by first | decide | omega | assumption) ?_
      refine V_gz (pc := 7) X dX10_through_7 f_RX10_159 (by first | rfl | assumption | (simp only [*]; done) | omega) 4 rfl rfl ?_
      refine V_icmp_ge (pc := 10) X 41 dX10_through_10 (by decide) ⟨by omega, by omega⟩ ⟨by omega, by omega⟩ (fun c_10 => ?_) (fun c_10 => ?_)
      · skip
        refine V_iload_n (pc := 41) X dX10_through_41 rfl ?_
        refine V_iret (st := []) (pc := 42) X hQ dX10_through_42 rfl rfl ?_
        exact z_pi (by unfold r_th; rw [show i = (h 89 4).toNat by omega])
      · skip
        refine V_iload_n (pc := 13) X dX10_through_13 rfl ?_
        refine V_iload_n (pc := 14) X dX10_through_14 rfl ?_
        refine V_iload_n (pc := 15) X dX10_through_15 rfl ?_
        refine V_FS (pc := 16) X dX10_through_16 oX10_has l_RX10_172 sX10_has ⟨Nat.le_of_ble_eq_true rfl, Nat.le_of_ble_eq_true rfl⟩ ⟨rfl, rfl⟩ ⟨Nat.le_of_ble_eq_true rfl, Nat.le_of_ble_eq_true rfl⟩ (ct_X10_has (by omega) (by omega) (by omega) (by omega)) rfl (by rfl) (by exact Nat.le_of_ble_eq_true rfl) ?_
        refine V_bif_eq (pc := 19) X 31 dX10_through_19 (by decide)  (fun c_19 => ?_) (fun c_19 => ?_)
        · skip
          refine V_bipush (pc := 31) X dX10_through_31 (by decide) ?_
          refine V_iand (pc := 33) X dX10_through_33 ?_
          refine V_istore_n (pc := 34) X dX10_through_34 (by exact Nat.le_of_ble_eq_true rfl) rfl ?_
          refine V_iinc (pc := 35) X dX10_through_35 rfl rfl ?_
          refine V_goto (pc := 38) X 5 dX10_through_38 (by decide) ?_
          first
            | (refine V_loc ?_ (ih_5 (i + 1) (by omega) (by omega)); show [_, _, _, _] = [_, _, _, _]; rw [r_thr, if_pos c_19]; rfl)
            | (refine V_loc ?_ (ih_5 (i + 1) (by omega) (by omega)); show [_, _, _, _] = [_, _, _, _]; rw [r_thr, if_neg (by rw [c_19]; decide)]; rfl)
        · skip
          refine V_aload_n (pc := 22) X dX10_through_22 rfl (by first | decide | omega | assumption) ?_
          refine V_gz (pc := 23) X dX10_through_23 f_RX10_20 (by first | rfl | assumption | (simp only [*]; done) | omega) 3 rfl (show _ = (91 : Int) from by first | exact rb3 | ((repeat (first | rw [z_st_at] | rw [z_st_slot _ (by decide)] | rw [z_st_cell _ (by decide)] | rw [z_rw_ne _ _ (by decide)])); exact rb3)) ?_
          refine V_iload_n (pc := 26) X dX10_through_26 rfl ?_
          refine V_iald (pc := 27) X dX10_through_27 (by first | rfl | assumption | (simp only [*]; done) | omega) (by omega) (by omega) (by decide) ?_
          refine V_goto (pc := 28) X 33 dX10_through_28 (by decide) ?_
          refine V_iand (pc := 33) X dX10_through_33 ?_
          refine V_istore_n (pc := 34) X dX10_through_34 (by exact Nat.le_of_ble_eq_true rfl) rfl ?_
          refine V_iinc (pc := 35) X dX10_through_35 rfl rfl ?_
          refine V_goto (pc := 38) X 5 dX10_through_38 (by decide) ?_
          first
            | (refine V_loc ?_ (ih_5 (i + 1) (by omega) (by omega)); show [_, _, _, _] = [_, _, _, _]; rw [r_thr, if_pos c_19]; rfl)
            | (refine V_loc ?_ (ih_5 (i + 1) (by omega) (by omega)); show [_, _, _, _] = [_, _, _, _]; rw [r_thr, if_neg (by rw [c_19]; decide)]; rfl)
  exact lp_5 _ 0 (Nat.lt_succ_self _) (Nat.zero_le _)
set_option maxHeartbeats 4000000 in
set_option maxRecDepth 100000 in
theorem ct_X10_lets {h : z_H} (hO : r_Ob h) (hP : r_Pl h) {c : Int} (kc : z_kd 107 c = (1, 11)) (hT : r_Mt (h c)) {p : Int} (h0 : 0 ≤ p) (h1 : p < 20) : z_Ct mX10_lets 107 [(2, 89), (2, c), (0, p)] h (z_pure (0, r_lets h (h c) p) h) := by
  refine z_mk (L := [(2, 89), (2, c), (0, p)]) oX10_lets.2.2.2.2 (Nat.le_of_ble_eq_true rfl) rfl ?_
  intro Γ X hQ
  obtain ⟨rb2, rb3, rb5, rb6, rb7, rb9, rb10, rb11, rb12, rb13, rb15, rb25, rb26, rb30, rb31, rb32, rb33⟩ := id hO
  obtain ⟨⟨hw1, hw2⟩, ⟨hh1, hh2⟩, ⟨hs1, hs2⟩, hgl, hco⟩ := id hP
  obtain ⟨tw, ⟨tb1, tb2⟩, ⟨tm1, tm2⟩, ⟨ts1, ts2⟩⟩ := id hT
  have kc0 := (z_kd_spec kc (Nat.ne_of_beq_eq_false rfl)).1
  refine V_aload_n (pc := 0) X dX10_lets_0 rfl (by first | decide | omega | assumption) ?_
  refine V_bipush (pc := 1) X dX10_lets_1 (by decide) ?_
  refine V_iald (pc := 3) X dX10_lets_3 (by first | rfl | assumption | (simp only [*]; done) | omega) (by omega) (by omega) (by decide) ?_
  refine V_iload_n (pc := 4) X dX10_lets_4 rfl ?_
  refine V_FS (pc := 5) X dX10_lets_5 oX10_has l_RX10_172 sX10_has ⟨Nat.le_of_ble_eq_true rfl, Nat.le_of_ble_eq_true rfl⟩ ⟨rfl, rfl⟩ ⟨Nat.le_of_ble_eq_true rfl, Nat.le_of_ble_eq_true rfl⟩ (ct_X10_has (by omega) (by omega) (by omega) (by omega)) rfl (by rfl) (by exact Nat.le_of_ble_eq_true rfl) ?_
  refine V_bif_eq (pc := 8) X 16 dX10_lets_8 (by decide)  (fun c_8 => ?_) (fun c_8 => ?_)
  · skip
    refine V_aload_n (pc := 16) X dX10_lets_16 rfl (by first | decide | omega | assumption) ?_
    refine V_gz (pc := 17) X dX10_lets_17 f_RX10_16 (by first | rfl | assumption | (simp only [*]; done) | omega) 2 rfl (show _ = (90 : Int) from by first | exact rb2 | ((repeat (first | rw [z_st_at] | rw [z_st_slot _ (by decide)] | rw [z_st_cell _ (by decide)] | rw [z_rw_ne _ _ (by decide)])); exact rb2)) ?_
    refine V_iload_n (pc := 20) X dX10_lets_20 rfl ?_
    refine V_iald (pc := 21) X dX10_lets_21 (by first | rfl | assumption | (simp only [*]; done) | omega) (by omega) (by omega) (by decide) ?_
    refine V_aload_n (pc := 22) X dX10_lets_22 rfl (by first | decide | omega | assumption) ?_
    refine V_aload_n (pc := 23) X dX10_lets_23 rfl (by first | decide | omega | assumption) ?_
    refine V_aload_n (pc := 24) X dX10_lets_24 rfl (by first | decide | omega | assumption) ?_
    refine V_iload_n (pc := 25) X dX10_lets_25 rfl ?_
    refine V_FV (pc := 26) X dX10_lets_26 oX10_sheetsAt l_RX10_175 eX10_sheetsAt vX10_sheetsAt ⟨Nat.le_of_ble_eq_true rfl, Nat.le_of_ble_eq_true rfl⟩ ⟨rfl, rfl⟩ ⟨Nat.le_of_ble_eq_true rfl, Nat.le_of_ble_eq_true rfl⟩ (ct_X10_sheetsAt hO hP kc hT (by omega) (by omega)) rfl (by first | rfl | assumption | (simp only [*]; done) | omega) (by intro q h; cases h; rfl) rfl (by rfl) (by exact Nat.le_of_ble_eq_true rfl) ?_
    have hal := r_at_lt hP (h c) p
    refine V_FV (pc := 29) X dX10_lets_29 oX10_through l_RX10_179 eX10_through vX10_through ⟨Nat.le_of_ble_eq_true rfl, Nat.le_of_ble_eq_true rfl⟩ ⟨rfl, rfl⟩ ⟨Nat.le_of_ble_eq_true rfl, Nat.le_of_ble_eq_true rfl⟩ (ct_X10_through hO hP (by omega) (by omega)) rfl (by first | rfl | assumption | (simp only [*]; done) | omega) (by intro q h; cases h; rfl) rfl (by rfl) (by exact Nat.le_of_ble_eq_true rfl) ?_
    refine V_iand (pc := 32) X dX10_lets_32 ?_
    refine V_iret (st := []) (pc := 33) X hQ dX10_lets_33 rfl rfl ?_
    exact z_pi (by unfold r_lets; first | (rw [if_pos c_8]; done) | (rw [if_neg (by rw [c_8]; decide)]))
  · skip
    refine V_bipush (pc := 11) X dX10_lets_11 (by decide) ?_
    refine V_goto (pc := 13) X 33 dX10_lets_13 (by decide) ?_
    refine V_iret (st := []) (pc := 33) X hQ dX10_lets_33 rfl rfl ?_
    exact z_pi (by unfold r_lets; first | (rw [if_pos c_8]; done) | (rw [if_neg (by rw [c_8]; decide)]))
set_option maxHeartbeats 4000000 in
set_option maxRecDepth 100000 in
theorem ct_X10_paneAt {h : z_H} (hO : r_Ob h) (hP : r_Pl h) {c : Int} (kc : z_kd 107 c = (1, 11)) (hT : r_Mt (h c)) {x y k : Int} {tn : Bool} (x0 : 0 ≤ x) (x1 : x < 12) (y0 : 0 ≤ y) (y1 : y < 7) (k0 : 0 ≤ k) (k1 : k < 8) : z_Ct mX10_paneAt 107 [(2, 89), (2, c), (0, x), (0, y), (0, k), (0, z_b tn)] h (z_pure (0, r_pn h (h c) x y k tn) h) := by
  refine z_mk (L := [(2, 89), (2, c), (0, x), (0, y), (0, k), (0, z_b tn), (9, 0), (9, 0), (9, 0), (9, 0)]) oX10_paneAt.2.2.2.2 (Nat.le_of_ble_eq_true rfl) rfl ?_
  intro Γ X hQ
  obtain ⟨rb2, rb3, rb5, rb6, rb7, rb9, rb10, rb11, rb12, rb13, rb15, rb25, rb26, rb30, rb31, rb32, rb33⟩ := id hO
  obtain ⟨⟨hw1, hw2⟩, ⟨hh1, hh2⟩, ⟨hs1, hs2⟩, hgl, hco⟩ := id hP
  obtain ⟨tw, ⟨tb1, tb2⟩, ⟨tm1, tm2⟩, ⟨ts1, ts2⟩⟩ := id hT
  have kc0 := (z_kd_spec kc (Nat.ne_of_beq_eq_false rfl)).1
  refine V_joinL 21 6 (fun z => z = r_col (h c) x tn) (fun J => ?_) (fun z hz => ?_)
  · skip
    refine V_iload (pc := 0) X dX10_paneAt_0 rfl ?_
    refine V_bif_eq (pc := 2) X 18 dX10_paneAt_2 (by decide)  (fun c_2 => ?_) (fun c_2 => ?_)
    · skip
      refine V_iload_n (pc := 18) X dX10_paneAt_18 rfl ?_
      refine V_istore (pc := 19) X dX10_paneAt_19 (by exact Nat.le_of_ble_eq_true rfl) rfl ?_
      exact J _ (by unfold r_col; first | (rw [if_pos c_2]; done) | (rw [if_neg (by rw [c_2]; decide)]))
    · skip
      refine V_iconst (pc := 5) X dX10_paneAt_5 ?_
      refine V_aload_n (pc := 6) X dX10_paneAt_6 rfl (by first | decide | omega | assumption) ?_
      refine V_bipush (pc := 7) X dX10_paneAt_7 (by decide) ?_
      refine V_iald (pc := 9) X dX10_paneAt_9 (by first | rfl | assumption | (simp only [*]; done) | omega) (by omega) (by omega) (by decide) ?_
      refine V_imul (pc := 10) X dX10_paneAt_10 ?_
      refine V_iconst (pc := 11) X dX10_paneAt_11 ?_
      refine V_isub (pc := 12) X dX10_paneAt_12 ?_
      refine V_iload_n (pc := 13) X dX10_paneAt_13 rfl ?_
      refine V_isub (pc := 14) X dX10_paneAt_14 ?_
      refine V_goto (pc := 15) X 19 dX10_paneAt_15 (by decide) ?_
      refine V_istore (pc := 19) X dX10_paneAt_19 (by exact Nat.le_of_ble_eq_true rfl) rfl ?_
      exact J _ (by unfold r_col; first | (rw [if_pos c_2]; done) | (rw [if_neg (by rw [c_2]; decide)]))
  · skip
    subst hz
    have hcr : -20 ≤ r_col (h c) x tn ∧ r_col (h c) x tn ≤ 40 := by unfold r_col; split <;> omega
    refine V_iload (pc := 21) X dX10_paneAt_21 rfl ?_
    refine V_iload (pc := 23) X dX10_paneAt_23 rfl ?_
    refine V_isub (pc := 25) X dX10_paneAt_25 ?_
    refine V_istore (pc := 26) X dX10_paneAt_26 (by exact Nat.le_of_ble_eq_true rfl) rfl ?_
    refine V_iload_n (pc := 28) X dX10_paneAt_28 rfl ?_
    refine V_aload_n (pc := 29) X dX10_paneAt_29 rfl (by first | decide | omega | assumption) ?_
    refine V_bipush (pc := 30) X dX10_paneAt_30 (by decide) ?_
    refine V_iald (pc := 32) X dX10_paneAt_32 (by first | rfl | assumption | (simp only [*]; done) | omega) (by omega) (by omega) (by decide) ?_
    refine V_isub (pc := 33) X dX10_paneAt_33 ?_
    refine V_istore (pc := 34) X dX10_paneAt_34 (by exact Nat.le_of_ble_eq_true rfl) rfl ?_
    refine V_aload_n (pc := 36) X dX10_paneAt_36 rfl (by first | decide | omega | assumption) ?_
    refine V_iload (pc := 37) X dX10_paneAt_37 rfl ?_
    refine V_iload (pc := 39) X dX10_paneAt_39 rfl ?_
    refine V_FV (pc := 41) X dX10_paneAt_41 oX10_isPane l_RX10_183 eX10_isPane vX10_isPane ⟨Nat.le_of_ble_eq_true rfl, Nat.le_of_ble_eq_true rfl⟩ ⟨rfl, rfl⟩ ⟨Nat.le_of_ble_eq_true rfl, Nat.le_of_ble_eq_true rfl⟩ (ct_X10_isPane hO hP ⟨by omega, by omega⟩ ⟨by omega, by omega⟩) rfl (by first | rfl | assumption | (simp only [*]; done) | omega) (by intro q h; cases h; rfl) rfl (by rfl) (by exact Nat.le_of_ble_eq_true rfl) ?_
    refine V_bif_eq (pc := 44) X 77 dX10_paneAt_44 (by decide)  (fun c_44 => ?_) (fun c_44 => ?_)
    · skip
      refine V_iconst (pc := 77) X dX10_paneAt_77 ?_
      refine V_istore (pc := 78) X dX10_paneAt_78 (by exact Nat.le_of_ble_eq_true rfl) rfl ?_
      refine V_iload (pc := 80) X dX10_paneAt_80 rfl ?_
      refine V_if_eq (pc := 82) X 95 dX10_paneAt_82 (by decide) ⟨by omega, by omega⟩ (fun c_82 => ?_) (fun c_82 => absurd c_82 (by decide))
      refine V_bipush (pc := 95) X dX10_paneAt_95 (by decide) ?_
      refine V_iret (st := []) (pc := 97) X hQ dX10_paneAt_97 rfl rfl ?_
      exact z_pi (by unfold r_pn; first | (rw [if_pos ⟨c_44, by rw [if_pos c_49]; omega⟩]; done) | (rw [if_pos ⟨c_44, by rw [if_neg (by rw [c_49]; decide)]; omega⟩]; done) | (rw [if_neg (fun g => by rw [c_44] at g; exact absurd g.1 (by decide))]; done) | (rw [if_neg (fun g => by rw [if_pos c_49] at g; omega)]; done) | (rw [if_neg (fun g => by rw [if_neg (by rw [c_49]; decide)] at g; omega)]))
    · skip
      refine V_iload (pc := 47) X dX10_paneAt_47 rfl ?_
      refine V_bif_eq (pc := 49) X 64 dX10_paneAt_49 (by decide)  (fun c_49 => ?_) (fun c_49 => ?_)
      · skip
        refine V_iload (pc := 64) X dX10_paneAt_64 rfl ?_
        refine V_aload_n (pc := 66) X dX10_paneAt_66 rfl (by first | decide | omega | assumption) ?_
        refine V_bipush (pc := 67) X dX10_paneAt_67 (by decide) ?_
        refine V_iald (pc := 69) X dX10_paneAt_69 (by first | rfl | assumption | (simp only [*]; done) | omega) (by omega) (by omega) (by decide) ?_
        refine V_icmp_ge (pc := 70) X 77 dX10_paneAt_70 (by decide) ⟨by omega, by omega⟩ ⟨by omega, by omega⟩ (fun c_70 => ?_) (fun c_70 => ?_)
        · skip
          refine V_iconst (pc := 77) X dX10_paneAt_77 ?_
          refine V_istore (pc := 78) X dX10_paneAt_78 (by exact Nat.le_of_ble_eq_true rfl) rfl ?_
          refine V_iload (pc := 80) X dX10_paneAt_80 rfl ?_
          refine V_if_eq (pc := 82) X 95 dX10_paneAt_82 (by decide) ⟨by omega, by omega⟩ (fun c_82 => ?_) (fun c_82 => absurd c_82 (by decide))
          refine V_bipush (pc := 95) X dX10_paneAt_95 (by decide) ?_
          refine V_iret (st := []) (pc := 97) X hQ dX10_paneAt_97 rfl rfl ?_
          exact z_pi (by unfold r_pn; first | (rw [if_pos ⟨c_44, by rw [if_pos c_49]; omega⟩]; done) | (rw [if_pos ⟨c_44, by rw [if_neg (by rw [c_49]; decide)]; omega⟩]; done) | (rw [if_neg (fun g => by rw [c_44] at g; exact absurd g.1 (by decide))]; done) | (rw [if_neg (fun g => by rw [if_pos c_49] at g; omega)]; done) | (rw [if_neg (fun g => by rw [if_neg (by rw [c_49]; decide)] at g; omega)]))
        · skip
          refine V_iconst (pc := 73) X dX10_paneAt_73 ?_
          refine V_goto (pc := 74) X 78 dX10_paneAt_74 (by decide) ?_
          refine V_istore (pc := 78) X dX10_paneAt_78 (by exact Nat.le_of_ble_eq_true rfl) rfl ?_
          refine V_iload (pc := 80) X dX10_paneAt_80 rfl ?_
          refine V_if_eq (pc := 82) X 95 dX10_paneAt_82 (by decide) ⟨by omega, by omega⟩ (fun c_82 => absurd c_82 (by decide)) (fun c_82 => ?_)
          refine V_iconst (pc := 85) X dX10_paneAt_85 ?_
          refine V_iload (pc := 86) X dX10_paneAt_86 rfl ?_
          refine V_imul (pc := 88) X dX10_paneAt_88 ?_
          refine V_iload (pc := 89) X dX10_paneAt_89 rfl ?_
          refine V_iadd (pc := 91) X dX10_paneAt_91 ?_
          refine V_goto (pc := 92) X 97 dX10_paneAt_92 (by decide) ?_
          refine V_iret (st := []) (pc := 97) X hQ dX10_paneAt_97 rfl rfl ?_
          exact z_pi (by unfold r_pn; first | (rw [if_pos ⟨c_44, by rw [if_pos c_49]; omega⟩]; done) | (rw [if_pos ⟨c_44, by rw [if_neg (by rw [c_49]; decide)]; omega⟩]; done) | (rw [if_neg (fun g => by rw [c_44] at g; exact absurd g.1 (by decide))]; done) | (rw [if_neg (fun g => by rw [if_pos c_49] at g; omega)]; done) | (rw [if_neg (fun g => by rw [if_neg (by rw [c_49]; decide)] at g; omega)]))
      · skip
        refine V_iload (pc := 52) X dX10_paneAt_52 rfl ?_
        refine V_aload_n (pc := 54) X dX10_paneAt_54 rfl (by first | decide | omega | assumption) ?_
        refine V_bipush (pc := 55) X dX10_paneAt_55 (by decide) ?_
        refine V_iald (pc := 57) X dX10_paneAt_57 (by first | rfl | assumption | (simp only [*]; done) | omega) (by omega) (by omega) (by decide) ?_
        refine V_icmp_lt (pc := 58) X 77 dX10_paneAt_58 (by decide) ⟨by omega, by omega⟩ ⟨by omega, by omega⟩ (fun c_58 => ?_) (fun c_58 => ?_)
        · skip
          refine V_iconst (pc := 77) X dX10_paneAt_77 ?_
          refine V_istore (pc := 78) X dX10_paneAt_78 (by exact Nat.le_of_ble_eq_true rfl) rfl ?_
          refine V_iload (pc := 80) X dX10_paneAt_80 rfl ?_
          refine V_if_eq (pc := 82) X 95 dX10_paneAt_82 (by decide) ⟨by omega, by omega⟩ (fun c_82 => ?_) (fun c_82 => absurd c_82 (by decide))
          refine V_bipush (pc := 95) X dX10_paneAt_95 (by decide) ?_
          refine V_iret (st := []) (pc := 97) X hQ dX10_paneAt_97 rfl rfl ?_
          exact z_pi (by unfold r_pn; first | (rw [if_pos ⟨c_44, by rw [if_pos c_49]; omega⟩]; done) | (rw [if_pos ⟨c_44, by rw [if_neg (by rw [c_49]; decide)]; omega⟩]; done) | (rw [if_neg (fun g => by rw [c_44] at g; exact absurd g.1 (by decide))]; done) | (rw [if_neg (fun g => by rw [if_pos c_49] at g; omega)]; done) | (rw [if_neg (fun g => by rw [if_neg (by rw [c_49]; decide)] at g; omega)]))
        · skip
          refine V_goto (pc := 61) X 73 dX10_paneAt_61 (by decide) ?_
          refine V_iconst (pc := 73) X dX10_paneAt_73 ?_
          refine V_goto (pc := 74) X 78 dX10_paneAt_74 (by decide) ?_
          refine V_istore (pc := 78) X dX10_paneAt_78 (by exact Nat.le_of_ble_eq_true rfl) rfl ?_
          refine V_iload (pc := 80) X dX10_paneAt_80 rfl ?_
          refine V_if_eq (pc := 82) X 95 dX10_paneAt_82 (by decide) ⟨by omega, by omega⟩ (fun c_82 => absurd c_82 (by decide)) (fun c_82 => ?_)
          refine V_iconst (pc := 85) X dX10_paneAt_85 ?_
          refine V_iload (pc := 86) X dX10_paneAt_86 rfl ?_
          refine V_imul (pc := 88) X dX10_paneAt_88 ?_
          refine V_iload (pc := 89) X dX10_paneAt_89 rfl ?_
          refine V_iadd (pc := 91) X dX10_paneAt_91 ?_
          refine V_goto (pc := 92) X 97 dX10_paneAt_92 (by decide) ?_
          refine V_iret (st := []) (pc := 97) X hQ dX10_paneAt_97 rfl rfl ?_
          exact z_pi (by unfold r_pn; first | (rw [if_pos ⟨c_44, by rw [if_pos c_49]; omega⟩]; done) | (rw [if_pos ⟨c_44, by rw [if_neg (by rw [c_49]; decide)]; omega⟩]; done) | (rw [if_neg (fun g => by rw [c_44] at g; exact absurd g.1 (by decide))]; done) | (rw [if_neg (fun g => by rw [if_pos c_49] at g; omega)]; done) | (rw [if_neg (fun g => by rw [if_neg (by rw [c_49]; decide)] at g; omega)]))
set_option maxHeartbeats 4000000 in
set_option maxRecDepth 100000 in
theorem ct_X10_lightOn {h : z_H} (hO : r_Ob h) (hP : r_Pl h) {c : Int} (kc : z_kd 107 c = (1, 11)) (hT : r_Mt (h c)) {x y k : Int} (x0 : 0 ≤ x) (x1 : x < 12) (y0 : 0 ≤ y) (y1 : y < 7) (k0 : 0 ≤ k) (k1 : k < 8) : z_Ct mX10_lightOn 107 [(2, 89), (2, c), (0, x), (0, y), (0, k)] h (z_pure (0, r_on h (h c) x y k) h) := by
  refine z_mk (L := [(2, 89), (2, c), (0, x), (0, y), (0, k), (9, 0), (9, 0)]) oX10_lightOn.2.2.2.2 (Nat.le_of_ble_eq_true rfl) rfl ?_
  intro Γ X hQ
  obtain ⟨rb2, rb3, rb5, rb6, rb7, rb9, rb10, rb11, rb12, rb13, rb15, rb25, rb26, rb30, rb31, rb32, rb33⟩ := id hO
  obtain ⟨⟨hw1, hw2⟩, ⟨hh1, hh2⟩, ⟨hs1, hs2⟩, hgl, hco⟩ := id hP
  obtain ⟨tw, ⟨tb1, tb2⟩, ⟨tm1, tm2⟩, ⟨ts1, ts2⟩⟩ := id hT
  have kc0 := (z_kd_spec kc (Nat.ne_of_beq_eq_false rfl)).1
  refine V_aload_n (pc := 0) X dX10_lightOn_0 rfl (by first | decide | omega | assumption) ?_
  refine V_aload_n (pc := 1) X dX10_lightOn_1 rfl (by first | decide | omega | assumption) ?_
  refine V_iload_n (pc := 2) X dX10_lightOn_2 rfl ?_
  refine V_iload_n (pc := 3) X dX10_lightOn_3 rfl ?_
  refine V_iload (pc := 4) X dX10_lightOn_4 rfl ?_
  refine V_iconst (pc := 6) X dX10_lightOn_6 ?_
  refine V_FV (pc := 7) X dX10_lightOn_7 oX10_paneAt l_RX10_186 eX10_paneAt vX10_paneAt ⟨Nat.le_of_ble_eq_true rfl, Nat.le_of_ble_eq_true rfl⟩ ⟨rfl, rfl⟩ ⟨Nat.le_of_ble_eq_true rfl, Nat.le_of_ble_eq_true rfl⟩ (ct_X10_paneAt hO hP kc hT (tn := false) (by omega) (by omega) (by omega) (by omega) (by omega) (by omega)) rfl (by first | rfl | assumption | (simp only [*]; done) | omega) (by intro q h; cases h; rfl) rfl (by rfl) (by exact Nat.le_of_ble_eq_true rfl) ?_
  have p1 := r_pn_rng hP (T := h c) (x := x) (y := y) (k := k) (tn := false)
  refine V_istore (pc := 10) X dX10_lightOn_10 (by exact Nat.le_of_ble_eq_true rfl) rfl ?_
  refine V_aload_n (pc := 12) X dX10_lightOn_12 rfl (by first | decide | omega | assumption) ?_
  refine V_aload_n (pc := 13) X dX10_lightOn_13 rfl (by first | decide | omega | assumption) ?_
  refine V_iload_n (pc := 14) X dX10_lightOn_14 rfl ?_
  refine V_iload_n (pc := 15) X dX10_lightOn_15 rfl ?_
  refine V_iload (pc := 16) X dX10_lightOn_16 rfl ?_
  refine V_iconst (pc := 18) X dX10_lightOn_18 ?_
  refine V_FV (pc := 19) X dX10_lightOn_19 oX10_paneAt l_RX10_186 eX10_paneAt vX10_paneAt ⟨Nat.le_of_ble_eq_true rfl, Nat.le_of_ble_eq_true rfl⟩ ⟨rfl, rfl⟩ ⟨Nat.le_of_ble_eq_true rfl, Nat.le_of_ble_eq_true rfl⟩ (ct_X10_paneAt hO hP kc hT (tn := true) (by omega) (by omega) (by omega) (by omega) (by omega) (by omega)) rfl (by first | rfl | assumption | (simp only [*]; done) | omega) (by intro q h; cases h; rfl) rfl (by rfl) (by exact Nat.le_of_ble_eq_true rfl) ?_
  have p2 := r_pn_rng hP (T := h c) (x := x) (y := y) (k := k) (tn := true)
  refine V_istore (pc := 22) X dX10_lightOn_22 (by exact Nat.le_of_ble_eq_true rfl) rfl ?_
  refine V_iload (pc := 24) X dX10_lightOn_24 rfl ?_
  refine V_bipush (pc := 26) X dX10_lightOn_26 (by decide) ?_
  refine V_icmp_ne (pc := 28) X 35 dX10_lightOn_28 (by decide) ⟨by omega, by omega⟩ ⟨by omega, by omega⟩ (fun c_28 => ?_) (fun c_28 => ?_)
  · skip
    refine V_aload_n (pc := 35) X dX10_lightOn_35 rfl (by first | decide | omega | assumption) ?_
    refine V_aload_n (pc := 36) X dX10_lightOn_36 rfl (by first | decide | omega | assumption) ?_
    refine V_iload (pc := 37) X dX10_lightOn_37 rfl ?_
    refine V_FV (pc := 39) X dX10_lightOn_39 oX10_lets l_RX10_190 eX10_lets vX10_lets ⟨Nat.le_of_ble_eq_true rfl, Nat.le_of_ble_eq_true rfl⟩ ⟨rfl, rfl⟩ ⟨Nat.le_of_ble_eq_true rfl, Nat.le_of_ble_eq_true rfl⟩ (ct_X10_lets hO hP kc hT (by omega) (by omega)) rfl (by first | rfl | assumption | (simp only [*]; done) | omega) (by intro q h; cases h; rfl) rfl (by rfl) (by exact Nat.le_of_ble_eq_true rfl) ?_
    refine V_iload (pc := 42) X dX10_lightOn_42 rfl ?_
    refine V_bipush (pc := 44) X dX10_lightOn_44 (by decide) ?_
    refine V_icmp_ne (pc := 46) X 53 dX10_lightOn_46 (by decide) ⟨by omega, by omega⟩ ⟨by omega, by omega⟩ (fun c_46 => ?_) (fun c_46 => ?_)
    · skip
      refine V_aload_n (pc := 53) X dX10_lightOn_53 rfl (by first | decide | omega | assumption) ?_
      refine V_aload_n (pc := 54) X dX10_lightOn_54 rfl (by first | decide | omega | assumption) ?_
      refine V_iload (pc := 55) X dX10_lightOn_55 rfl ?_
      refine V_FV (pc := 57) X dX10_lightOn_57 oX10_lets l_RX10_190 eX10_lets vX10_lets ⟨Nat.le_of_ble_eq_true rfl, Nat.le_of_ble_eq_true rfl⟩ ⟨rfl, rfl⟩ ⟨Nat.le_of_ble_eq_true rfl, Nat.le_of_ble_eq_true rfl⟩ (ct_X10_lets hO hP kc hT (by omega) (by omega)) rfl (by first | rfl | assumption | (simp only [*]; done) | omega) (by intro q h; cases h; rfl) rfl (by rfl) (by exact Nat.le_of_ble_eq_true rfl) ?_
      refine V_ior (pc := 60) X dX10_lightOn_60 ?_
      refine V_iret (st := []) (pc := 61) X hQ dX10_lightOn_61 rfl rfl ?_
      exact z_pi (by unfold r_on r_ln; first | (rw [if_pos c_28, if_pos c_46]; done) | (rw [if_pos c_28, if_neg c_46]; done) | (rw [if_neg c_28, if_pos c_46]; done) | (rw [if_neg c_28, if_neg c_46]))
    · skip
      refine V_iconst (pc := 49) X dX10_lightOn_49 ?_
      refine V_goto (pc := 50) X 60 dX10_lightOn_50 (by decide) ?_
      refine V_ior (pc := 60) X dX10_lightOn_60 ?_
      refine V_iret (st := []) (pc := 61) X hQ dX10_lightOn_61 rfl rfl ?_
      exact z_pi (by unfold r_on r_ln; first | (rw [if_pos c_28, if_pos c_46]; done) | (rw [if_pos c_28, if_neg c_46]; done) | (rw [if_neg c_28, if_pos c_46]; done) | (rw [if_neg c_28, if_neg c_46]))
  · skip
    refine V_iconst (pc := 31) X dX10_lightOn_31 ?_
    refine V_goto (pc := 32) X 42 dX10_lightOn_32 (by decide) ?_
    refine V_iload (pc := 42) X dX10_lightOn_42 rfl ?_
    refine V_bipush (pc := 44) X dX10_lightOn_44 (by decide) ?_
    refine V_icmp_ne (pc := 46) X 53 dX10_lightOn_46 (by decide) ⟨by omega, by omega⟩ ⟨by omega, by omega⟩ (fun c_46 => ?_) (fun c_46 => ?_)
    · skip
      refine V_aload_n (pc := 53) X dX10_lightOn_53 rfl (by first | decide | omega | assumption) ?_
      refine V_aload_n (pc := 54) X dX10_lightOn_54 rfl (by first | decide | omega | assumption) ?_
      refine V_iload (pc := 55) X dX10_lightOn_55 rfl ?_
      refine V_FV (pc := 57) X dX10_lightOn_57 oX10_lets l_RX10_190 eX10_lets vX10_lets ⟨Nat.le_of_ble_eq_true rfl, Nat.le_of_ble_eq_true rfl⟩ ⟨rfl, rfl⟩ ⟨Nat.le_of_ble_eq_true rfl, Nat.le_of_ble_eq_true rfl⟩ (ct_X10_lets hO hP kc hT (by omega) (by omega)) rfl (by first | rfl | assumption | (simp only [*]; done) | omega) (by intro q h; cases h; rfl) rfl (by rfl) (by exact Nat.le_of_ble_eq_true rfl) ?_
      refine V_ior (pc := 60) X dX10_lightOn_60 ?_
      refine V_iret (st := []) (pc := 61) X hQ dX10_lightOn_61 rfl rfl ?_
      exact z_pi (by unfold r_on r_ln; first | (rw [if_pos c_28, if_pos c_46]; done) | (rw [if_pos c_28, if_neg c_46]; done) | (rw [if_neg c_28, if_pos c_46]; done) | (rw [if_neg c_28, if_neg c_46]))
    · skip
      refine V_iconst (pc := 49) X dX10_lightOn_49 ?_
      refine V_goto (pc := 50) X 60 dX10_lightOn_50 (by decide) ?_
      refine V_ior (pc := 60) X dX10_lightOn_60 ?_
      refine V_iret (st := []) (pc := 61) X hQ dX10_lightOn_61 rfl rfl ?_
      exact z_pi (by unfold r_on r_ln; first | (rw [if_pos c_28, if_pos c_46]; done) | (rw [if_pos c_28, if_neg c_46]; done) | (rw [if_neg c_28, if_pos c_46]; done) | (rw [if_neg c_28, if_neg c_46]))
set_option maxHeartbeats 4000000 in
set_option maxRecDepth 100000 in
theorem ct_X10_lightAt {h : z_H} (hO : r_Ob h) (hP : r_Pl h) (hT : r_Mt (h 92)) {t k : Int} (t0 : 0 ≤ t) (t1 : t < 84) (k0 : 0 ≤ k) (k1 : k < 8) : z_Ct mX10_lightAt 107 [(2, 89), (0, t), (0, k)] h (z_pure (0, r_on h (h 92) (t / 7) (t % 7) k) h) := by
  refine z_mk (L := [(2, 89), (0, t), (0, k)]) oX10_lightAt.2.2.2.2 (Nat.le_of_ble_eq_true rfl) rfl ?_
  intro Γ X hQ
  obtain ⟨rb2, rb3, rb5, rb6, rb7, rb9, rb10, rb11, rb12, rb13, rb15, rb25, rb26, rb30, rb31, rb32, rb33⟩ := id hO
  obtain ⟨⟨hw1, hw2⟩, ⟨hh1, hh2⟩, ⟨hs1, hs2⟩, hgl, hco⟩ := id hP
  have kc : z_kd 107 92 = (1, 11) := rfl
  refine V_aload_n (pc := 0) X dX10_lightAt_0 rfl (by first | decide | omega | assumption) ?_
  refine V_aload_n (pc := 1) X dX10_lightAt_1 rfl (by first | decide | omega | assumption) ?_
  refine V_gz (pc := 2) X dX10_lightAt_2 f_RX10_23 (by first | rfl | assumption | (simp only [*]; done) | omega) 5 rfl (show _ = (92 : Int) from by first | exact rb5 | ((repeat (first | rw [z_st_at] | rw [z_st_slot _ (by decide)] | rw [z_st_cell _ (by decide)] | rw [z_rw_ne _ _ (by decide)])); exact rb5)) ?_
  refine V_iload_n (pc := 5) X dX10_lightAt_5 rfl ?_
  refine V_bipush (pc := 6) X dX10_lightAt_6 (by decide) ?_
  refine V_idivN (pc := 8) X dX10_lightAt_8 (by omega) (by omega) (by omega) (by omega) ?_
  refine V_iload_n (pc := 9) X dX10_lightAt_9 rfl ?_
  refine V_bipush (pc := 10) X dX10_lightAt_10 (by decide) ?_
  refine V_iremN (pc := 12) X dX10_lightAt_12 (by omega) (by omega) (by omega) (by omega) ?_
  refine V_iload_n (pc := 13) X dX10_lightAt_13 rfl ?_
  refine V_FV (pc := 14) X dX10_lightAt_14 oX10_lightOn l_RX10_193 eX10_lightOn vX10_lightOn ⟨Nat.le_of_ble_eq_true rfl, Nat.le_of_ble_eq_true rfl⟩ ⟨rfl, rfl⟩ ⟨Nat.le_of_ble_eq_true rfl, Nat.le_of_ble_eq_true rfl⟩ (ct_X10_lightOn hO hP kc hT (by omega) (by omega) (by omega) (by omega) (by omega) (by omega)) rfl (by first | rfl | assumption | (simp only [*]; done) | omega) (by intro q h; cases h; rfl) rfl (by rfl) (by exact Nat.le_of_ble_eq_true rfl) ?_
  refine V_iret (st := []) (pc := 17) X hQ dX10_lightAt_17 rfl rfl ?_
  exact z_pi (rfl)
