/-! Reader -/
set_option maxHeartbeats 4000000 in
set_option maxRecDepth 100000 in
theorem ct_X4_letters {h : z_H} {T : Int → Int} {N : Int} (hR : c_Rd h T N) {s o v : Int} (h0 : 0 ≤ s) (h1 : s < N) : z_Ct mX4_letters 107 [(2, 1)] (c_tk h (s, s, o, v)) (z_void (c_tk h (t_go isL T N s, s, if t_go isL T N s - s = 1 then 1 else 4, T s))) := by
  refine z_mk (L := [(2, 1)]) oX4_letters.2.2.2.2 (Nat.le_of_ble_eq_true rfl) rfl ?_
  intro Γ X hQ
  obtain ⟨r10, r11, r2, hN, hT⟩ := id hR
  refine V_aload_n (pc := 0) X dX4_letters_0 rfl (by first | decide | omega | assumption) ?_
  refine V_aload_n (pc := 1) X dX4_letters_1 rfl (by first | decide | omega | assumption) ?_
  refine V_gz (pc := 2) X dX4_letters_2 f_RX4_11 (by first | rfl | assumption | (simp only [*]; done) | omega) 0 rfl (show _ = (2 : Int) from by rw [c_tk_slot h (s, s, o, v) (by decide) (by decide) (by decide) (by decide)]; exact r10) ?_
  refine V_aload_n (pc := 5) X dX4_letters_5 rfl (by first | decide | omega | assumption) ?_
  refine V_gz (pc := 6) X dX4_letters_6 f_RX4_44 (by first | rfl | assumption | (simp only [*]; done) | omega) 3 rfl (show _ = s from c_tk_3 h (s, s, o, v)) ?_
  refine V_iald (pc := 9) X dX4_letters_9 (by first | rfl | assumption | (simp only [*]; done) | omega) (by omega) (by omega) (by decide) ?_
  rw [show c_tk h (s, s, o, v) 2 (s) = T (s) from by rw [c_tk_cell h (s, s, o, v) (by decide), r2]]
  refine V_pz (pc := 10) X dX4_letters_10 f_RX4_47 (by first | rfl | assumption | (simp only [*]; done) | omega) (fun b => z_fitI b _) 5 rfl ?_
  rw [c_tk_p5]
  have lp_13 : ∀ (m : Nat) (p : Int), (N - p).toNat < m → s ≤ p → p ≤ N → t_go isL T N p = t_go isL T N s → z_V Γ (107, 0, 0) 13 [(2, 1)] [] (c_tk h (p, s, o, T s)) := by
    intro m
    induction m with
    | zero => intro p hm; exact absurd hm (Nat.not_lt_zero _)
    | succ m ih_13 =>
      intro p hm hp0 hp1 he
      refine V_aload_n (pc := 13) X dX4_letters_13 rfl (by first | decide | omega | assumption) ?_
      refine V_gz (pc := 14) X dX4_letters_14 f_RX4_31 (by first | rfl | assumption | (simp only [*]; done) | omega) 2 rfl (show _ = p from c_tk_2 h (p, s, o, T s)) ?_
      refine V_aload_n (pc := 17) X dX4_letters_17 rfl (by first | decide | omega | assumption) ?_
      refine V_gz (pc := 18) X dX4_letters_18 f_RX4_15 (by first | rfl | assumption | (simp only [*]; done) | omega) 1 rfl (show _ = N from by rw [c_tk_slot h (p, s, o, T s) (by decide) (by decide) (by decide) (by decide)]; exact r11) ?_
      refine V_icmp_ge (pc := 21) X 65 dX4_letters_21 (by decide) ⟨by omega, by omega⟩ ⟨by omega, by omega⟩ (fun c_21 => ?_) (fun c_21 => ?_)
      · skip
        have he2 : t_go isL T N s = p := by
          rw [← he]
          first
            | exact t_go_no (Or.inl c_21)
            | exact t_go_no (Or.inr (decide_eq_false (by omega)))
        refine V_aload_n (pc := 65) X dX4_letters_65 rfl (by first | decide | omega | assumption) ?_
        refine V_aload_n (pc := 66) X dX4_letters_66 rfl (by first | decide | omega | assumption) ?_
        refine V_gz (pc := 67) X dX4_letters_67 f_RX4_31 (by first | rfl | assumption | (simp only [*]; done) | omega) 2 rfl (show _ = p from c_tk_2 h (p, s, o, T s)) ?_
        refine V_aload_n (pc := 70) X dX4_letters_70 rfl (by first | decide | omega | assumption) ?_
        refine V_gz (pc := 71) X dX4_letters_71 f_RX4_44 (by first | rfl | assumption | (simp only [*]; done) | omega) 3 rfl (show _ = s from c_tk_3 h (p, s, o, T s)) ?_
        refine V_isub (pc := 74) X dX4_letters_74 ?_
        refine V_iconst (pc := 75) X dX4_letters_75 ?_
        refine V_icmp_ne (pc := 76) X 83 dX4_letters_76 (by decide) ⟨by omega, by omega⟩ ⟨by omega, by omega⟩ (fun c_76 => ?_) (fun c_76 => ?_)
        · skip
          refine V_iconst (pc := 83) X dX4_letters_83 ?_
          refine V_pz (pc := 84) X dX4_letters_84 f_RX4_37 (by first | rfl | assumption | (simp only [*]; done) | omega) (fun b => z_fitI b _) 4 rfl ?_
          rw [c_tk_p4]
          refine V_vret (st := []) (pc := 87) X hQ dX4_letters_87 rfl rfl ?_
          exact ⟨rfl, by rw [he2]; first | rw [if_pos (by omega)] | rw [if_neg (by omega)]⟩
        · skip
          refine V_iconst (pc := 79) X dX4_letters_79 ?_
          refine V_goto (pc := 80) X 84 dX4_letters_80 (by decide) ?_
          refine V_pz (pc := 84) X dX4_letters_84 f_RX4_37 (by first | rfl | assumption | (simp only [*]; done) | omega) (fun b => z_fitI b _) 4 rfl ?_
          rw [c_tk_p4]
          refine V_vret (st := []) (pc := 87) X hQ dX4_letters_87 rfl rfl ?_
          exact ⟨rfl, by rw [he2]; first | rw [if_pos (by omega)] | rw [if_neg (by omega)]⟩
      · skip
        refine V_aload_n (pc := 24) X dX4_letters_24 rfl (by first | decide | omega | assumption) ?_
        refine V_gz (pc := 25) X dX4_letters_25 f_RX4_11 (by first | rfl | assumption | (simp only [*]; done) | omega) 0 rfl (show _ = (2 : Int) from by rw [c_tk_slot h (p, s, o, T s) (by decide) (by decide) (by decide) (by decide)]; exact r10) ?_
        refine V_aload_n (pc := 28) X dX4_letters_28 rfl (by first | decide | omega | assumption) ?_
        refine V_gz (pc := 29) X dX4_letters_29 f_RX4_31 (by first | rfl | assumption | (simp only [*]; done) | omega) 2 rfl (show _ = p from c_tk_2 h (p, s, o, T s)) ?_
        have hTp := hT p (by omega) (by omega)
        refine V_iald (pc := 32) X dX4_letters_32 (by first | rfl | assumption | (simp only [*]; done) | omega) (by omega) (by omega) (by decide) ?_
        rw [show c_tk h (p, s, o, T s) 2 (p) = T (p) from by rw [c_tk_cell h (p, s, o, T s) (by decide), r2]]
        refine V_bipush (pc := 33) X dX4_letters_33 (by decide) ?_
        refine V_icmp_lt (pc := 35) X 65 dX4_letters_35 (by decide) ⟨by omega, by omega⟩ ⟨by omega, by omega⟩ (fun c_35 => ?_) (fun c_35 => ?_)
        · skip
          have he2 : t_go isL T N s = p := by
            rw [← he]
            first
              | exact t_go_no (Or.inl c_21)
              | exact t_go_no (Or.inr (decide_eq_false (by omega)))
          refine V_aload_n (pc := 65) X dX4_letters_65 rfl (by first | decide | omega | assumption) ?_
          refine V_aload_n (pc := 66) X dX4_letters_66 rfl (by first | decide | omega | assumption) ?_
          refine V_gz (pc := 67) X dX4_letters_67 f_RX4_31 (by first | rfl | assumption | (simp only [*]; done) | omega) 2 rfl (show _ = p from c_tk_2 h (p, s, o, T s)) ?_
          refine V_aload_n (pc := 70) X dX4_letters_70 rfl (by first | decide | omega | assumption) ?_
          refine V_gz (pc := 71) X dX4_letters_71 f_RX4_44 (by first | rfl | assumption | (simp only [*]; done) | omega) 3 rfl (show _ = s from c_tk_3 h (p, s, o, T s)) ?_
          refine V_isub (pc := 74) X dX4_letters_74 ?_
          refine V_iconst (pc := 75) X dX4_letters_75 ?_
          refine V_icmp_ne (pc := 76) X 83 dX4_letters_76 (by decide) ⟨by omega, by omega⟩ ⟨by omega, by omega⟩ (fun c_76 => ?_) (fun c_76 => ?_)
          · skip
            refine V_iconst (pc := 83) X dX4_letters_83 ?_
            refine V_pz (pc := 84) X dX4_letters_84 f_RX4_37 (by first | rfl | assumption | (simp only [*]; done) | omega) (fun b => z_fitI b _) 4 rfl ?_
            rw [c_tk_p4]
            refine V_vret (st := []) (pc := 87) X hQ dX4_letters_87 rfl rfl ?_
            exact ⟨rfl, by rw [he2]; first | rw [if_pos (by omega)] | rw [if_neg (by omega)]⟩
          · skip
            refine V_iconst (pc := 79) X dX4_letters_79 ?_
            refine V_goto (pc := 80) X 84 dX4_letters_80 (by decide) ?_
            refine V_pz (pc := 84) X dX4_letters_84 f_RX4_37 (by first | rfl | assumption | (simp only [*]; done) | omega) (fun b => z_fitI b _) 4 rfl ?_
            rw [c_tk_p4]
            refine V_vret (st := []) (pc := 87) X hQ dX4_letters_87 rfl rfl ?_
            exact ⟨rfl, by rw [he2]; first | rw [if_pos (by omega)] | rw [if_neg (by omega)]⟩
        · skip
          refine V_aload_n (pc := 38) X dX4_letters_38 rfl (by first | decide | omega | assumption) ?_
          refine V_gz (pc := 39) X dX4_letters_39 f_RX4_11 (by first | rfl | assumption | (simp only [*]; done) | omega) 0 rfl (show _ = (2 : Int) from by rw [c_tk_slot h (p, s, o, T s) (by decide) (by decide) (by decide) (by decide)]; exact r10) ?_
          refine V_aload_n (pc := 42) X dX4_letters_42 rfl (by first | decide | omega | assumption) ?_
          refine V_gz (pc := 43) X dX4_letters_43 f_RX4_31 (by first | rfl | assumption | (simp only [*]; done) | omega) 2 rfl (show _ = p from c_tk_2 h (p, s, o, T s)) ?_
          refine V_iald (pc := 46) X dX4_letters_46 (by first | rfl | assumption | (simp only [*]; done) | omega) (by omega) (by omega) (by decide) ?_
          rw [show c_tk h (p, s, o, T s) 2 (p) = T (p) from by rw [c_tk_cell h (p, s, o, T s) (by decide), r2]]
          refine V_bipush (pc := 47) X dX4_letters_47 (by decide) ?_
          refine V_icmp_gt (pc := 49) X 65 dX4_letters_49 (by decide) ⟨by omega, by omega⟩ ⟨by omega, by omega⟩ (fun c_49 => ?_) (fun c_49 => ?_)
          · skip
            have he2 : t_go isL T N s = p := by
              rw [← he]
              first
                | exact t_go_no (Or.inl c_21)
                | exact t_go_no (Or.inr (decide_eq_false (by omega)))
            refine V_aload_n (pc := 65) X dX4_letters_65 rfl (by first | decide | omega | assumption) ?_
            refine V_aload_n (pc := 66) X dX4_letters_66 rfl (by first | decide | omega | assumption) ?_
            refine V_gz (pc := 67) X dX4_letters_67 f_RX4_31 (by first | rfl | assumption | (simp only [*]; done) | omega) 2 rfl (show _ = p from c_tk_2 h (p, s, o, T s)) ?_
            refine V_aload_n (pc := 70) X dX4_letters_70 rfl (by first | decide | omega | assumption) ?_
            refine V_gz (pc := 71) X dX4_letters_71 f_RX4_44 (by first | rfl | assumption | (simp only [*]; done) | omega) 3 rfl (show _ = s from c_tk_3 h (p, s, o, T s)) ?_
            refine V_isub (pc := 74) X dX4_letters_74 ?_
            refine V_iconst (pc := 75) X dX4_letters_75 ?_
            refine V_icmp_ne (pc := 76) X 83 dX4_letters_76 (by decide) ⟨by omega, by omega⟩ ⟨by omega, by omega⟩ (fun c_76 => ?_) (fun c_76 => ?_)
            · skip
              refine V_iconst (pc := 83) X dX4_letters_83 ?_
              refine V_pz (pc := 84) X dX4_letters_84 f_RX4_37 (by first | rfl | assumption | (simp only [*]; done) | omega) (fun b => z_fitI b _) 4 rfl ?_
              rw [c_tk_p4]
              refine V_vret (st := []) (pc := 87) X hQ dX4_letters_87 rfl rfl ?_
              exact ⟨rfl, by rw [he2]; first | rw [if_pos (by omega)] | rw [if_neg (by omega)]⟩
            · skip
              refine V_iconst (pc := 79) X dX4_letters_79 ?_
              refine V_goto (pc := 80) X 84 dX4_letters_80 (by decide) ?_
              refine V_pz (pc := 84) X dX4_letters_84 f_RX4_37 (by first | rfl | assumption | (simp only [*]; done) | omega) (fun b => z_fitI b _) 4 rfl ?_
              rw [c_tk_p4]
              refine V_vret (st := []) (pc := 87) X hQ dX4_letters_87 rfl rfl ?_
              exact ⟨rfl, by rw [he2]; first | rw [if_pos (by omega)] | rw [if_neg (by omega)]⟩
          · skip
            refine V_aload_n (pc := 52) X dX4_letters_52 rfl (by first | decide | omega | assumption) ?_
            refine V_dup (pc := 53) X dX4_letters_53 (Nat.ne_of_beq_eq_false rfl) ?_
            refine V_gz (pc := 54) X dX4_letters_54 f_RX4_31 (by first | rfl | assumption | (simp only [*]; done) | omega) 2 rfl (show _ = p from c_tk_2 h (p, s, o, T s)) ?_
            refine V_iconst (pc := 57) X dX4_letters_57 ?_
            refine V_iadd (pc := 58) X dX4_letters_58 ?_
            refine V_pz (pc := 59) X dX4_letters_59 f_RX4_31 (by first | rfl | assumption | (simp only [*]; done) | omega) (fun b => z_fitI b _) 2 rfl ?_
            rw [c_tk_p2]
            refine V_goto (pc := 62) X 13 dX4_letters_62 (by decide) ?_
            exact ih_13 (p + 1) (by omega) (by omega) (by omega) (by rw [← he]; exact (t_go_yes (by omega) (decide_eq_true (by omega))).symm)
  exact lp_13 _ s (Nat.lt_succ_self _) (by omega) (by omega) rfl
set_option maxHeartbeats 4000000 in
set_option maxRecDepth 100000 in
theorem ct_X4_digits {h : z_H} {T : Int → Int} {N : Int} (hR : c_Rd h T N) {s o v : Int} (h0 : 0 ≤ s) (h1 : s < N) (hd : isD (T s) = true) : z_Ct mX4_digits 107 [(2, 1)] (c_tk h (s, s, o, v)) (z_void (c_tk h (t_go isD T N s, s, if 99 < t_acc T s (t_go isD T N s - s).toNat ∨ (T s = 48 ∧ 1 < t_go isD T N s - s) then 4 else 2, t_acc T s (t_go isD T N s - s).toNat))) := by
  refine z_mk (L := [(2, 1), (9, 0)]) oX4_digits.2.2.2.2 (Nat.le_of_ble_eq_true rfl) rfl ?_
  intro Γ X hQ
  obtain ⟨r10, r11, r2, hN, hT⟩ := id hR
  refine V_aload_n (pc := 0) X dX4_digits_0 rfl (by first | decide | omega | assumption) ?_
  refine V_iconst (pc := 1) X dX4_digits_1 ?_
  refine V_pz (pc := 2) X dX4_digits_2 f_RX4_47 (by first | rfl | assumption | (simp only [*]; done) | omega) (fun b => z_fitI b _) 5 rfl ?_
  rw [c_tk_p5]
  have lp_5 : ∀ (m : Nat) (j : Nat), (N - (s + (j : Int))).toNat < m → s + (j : Int) ≤ N → (∀ i : Int, s ≤ i → i < s + j → 48 ≤ T i ∧ T i ≤ 57) → t_go isD T N (s + (j : Int)) = t_go isD T N s → z_V Γ (107, 0, 0) 5 [(2, 1), (9, 0)] [] (c_tk h (s + (j : Int), s, o, t_acc T s j)) := by
    intro m
    induction m with
    | zero => intro j hm; exact absurd hm (Nat.not_lt_zero _)
    | succ m ih_5 =>
      intro j hm hp1 hall he
      refine V_aload_n (pc := 5) X dX4_digits_5 rfl (by first | decide | omega | assumption) ?_
      refine V_gz (pc := 6) X dX4_digits_6 f_RX4_31 (by first | rfl | assumption | (simp only [*]; done) | omega) 2 rfl (show _ = s + (j : Int) from c_tk_2 h (s + (j : Int), s, o, t_acc T s j)) ?_
      refine V_aload_n (pc := 9) X dX4_digits_9 rfl (by first | decide | omega | assumption) ?_
      refine V_gz (pc := 10) X dX4_digits_10 f_RX4_15 (by first | rfl | assumption | (simp only [*]; done) | omega) 1 rfl (show _ = N from by rw [c_tk_slot h (s + (j : Int), s, o, t_acc T s j) (by decide) (by decide) (by decide) (by decide)]; exact r11) ?_
      refine V_icmp_ge (pc := 13) X 97 dX4_digits_13 (by decide) ⟨by omega, by omega⟩ ⟨by omega, by omega⟩ (fun c_13 => ?_) (fun c_13 => ?_)
      · skip
        refine V_aload_n (pc := 97) X dX4_digits_97 rfl (by first | decide | omega | assumption) ?_
        refine V_gz (pc := 98) X dX4_digits_98 f_RX4_11 (by first | rfl | assumption | (simp only [*]; done) | omega) 0 rfl (show _ = (2 : Int) from by rw [c_tk_slot h (s + (j : Int), s, o, t_acc T s j) (by decide) (by decide) (by decide) (by decide)]; exact r10) ?_
        refine V_aload_n (pc := 101) X dX4_digits_101 rfl (by first | decide | omega | assumption) ?_
        refine V_gz (pc := 102) X dX4_digits_102 f_RX4_44 (by first | rfl | assumption | (simp only [*]; done) | omega) 3 rfl (show _ = s from c_tk_3 h (s + (j : Int), s, o, t_acc T s j)) ?_
        have hTs := hT s (by omega) (by omega)
        have hac := t_acc_rng (T := T) (s := s) (n := j) hall
        have he2 : t_go isD T N s = s + (j : Int) := by
          rw [← he]
          first
            | exact t_go_no (Or.inl c_13)
            | exact t_go_no (Or.inr (decide_eq_false (by omega)))
        refine V_iald (pc := 105) X dX4_digits_105 (by first | rfl | assumption | (simp only [*]; done) | omega) (by omega) (by omega) (by decide) ?_
        rw [show c_tk h (s + (j : Int), s, o, t_acc T s j) 2 (s) = T (s) from by rw [c_tk_cell h (s + (j : Int), s, o, t_acc T s j) (by decide), r2]]
        refine V_bipush (pc := 106) X dX4_digits_106 (by decide) ?_
        refine V_icmp_ne (pc := 108) X 128 dX4_digits_108 (by decide) ⟨by omega, by omega⟩ ⟨by omega, by omega⟩ (fun c_108 => ?_) (fun c_108 => ?_)
        · skip
          refine V_iconst (pc := 128) X dX4_digits_128 ?_
          refine V_istore_n (pc := 129) X dX4_digits_129 (by exact Nat.le_of_ble_eq_true rfl) rfl ?_
          refine V_aload_n (pc := 130) X dX4_digits_130 rfl (by first | decide | omega | assumption) ?_
          refine V_aload_n (pc := 131) X dX4_digits_131 rfl (by first | decide | omega | assumption) ?_
          refine V_gz (pc := 132) X dX4_digits_132 f_RX4_47 (by first | rfl | assumption | (simp only [*]; done) | omega) 5 rfl (show _ = t_acc T s j from c_tk_5 h (s + (j : Int), s, o, t_acc T s j)) ?_
          refine V_bipush (pc := 135) X dX4_digits_135 (by decide) ?_
          refine V_icmp_gt (pc := 137) X 144 dX4_digits_137 (by decide) ⟨by omega, by omega⟩ ⟨by omega, by omega⟩ (fun c_137 => ?_) (fun c_137 => ?_)
          · skip
            refine V_iconst (pc := 144) X dX4_digits_144 ?_
            refine V_goto (pc := 145) X 149 dX4_digits_145 (by decide) ?_
            refine V_pz (pc := 149) X dX4_digits_149 f_RX4_37 (by first | rfl | assumption | (simp only [*]; done) | omega) (fun b => z_fitI b _) 4 rfl ?_
            rw [c_tk_p4]
            refine V_vret (st := []) (pc := 152) X hQ dX4_digits_152 rfl rfl ?_
            exact ⟨rfl, by rw [he2, show (s + (j : Int) - s).toNat = j by omega]; first | rw [if_pos (by omega)] | rw [if_neg (by omega)]⟩
          · skip
            refine V_iload_n (pc := 140) X dX4_digits_140 rfl ?_
            refine V_if_eq (pc := 141) X 148 dX4_digits_141 (by decide) ⟨by omega, by omega⟩ (fun c_141 => ?_) (fun c_141 => absurd c_141 (by decide))
            refine V_iconst (pc := 148) X dX4_digits_148 ?_
            refine V_pz (pc := 149) X dX4_digits_149 f_RX4_37 (by first | rfl | assumption | (simp only [*]; done) | omega) (fun b => z_fitI b _) 4 rfl ?_
            rw [c_tk_p4]
            refine V_vret (st := []) (pc := 152) X hQ dX4_digits_152 rfl rfl ?_
            exact ⟨rfl, by rw [he2, show (s + (j : Int) - s).toNat = j by omega]; first | rw [if_pos (by omega)] | rw [if_neg (by omega)]⟩
        · skip
          refine V_aload_n (pc := 111) X dX4_digits_111 rfl (by first | decide | omega | assumption) ?_
          refine V_gz (pc := 112) X dX4_digits_112 f_RX4_31 (by first | rfl | assumption | (simp only [*]; done) | omega) 2 rfl (show _ = s + (j : Int) from c_tk_2 h (s + (j : Int), s, o, t_acc T s j)) ?_
          refine V_aload_n (pc := 115) X dX4_digits_115 rfl (by first | decide | omega | assumption) ?_
          refine V_gz (pc := 116) X dX4_digits_116 f_RX4_44 (by first | rfl | assumption | (simp only [*]; done) | omega) 3 rfl (show _ = s from c_tk_3 h (s + (j : Int), s, o, t_acc T s j)) ?_
          refine V_isub (pc := 119) X dX4_digits_119 ?_
          refine V_iconst (pc := 120) X dX4_digits_120 ?_
          refine V_icmp_le (pc := 121) X 128 dX4_digits_121 (by decide) ⟨by omega, by omega⟩ ⟨by omega, by omega⟩ (fun c_121 => ?_) (fun c_121 => ?_)
          · skip
            refine V_iconst (pc := 128) X dX4_digits_128 ?_
            refine V_istore_n (pc := 129) X dX4_digits_129 (by exact Nat.le_of_ble_eq_true rfl) rfl ?_
            refine V_aload_n (pc := 130) X dX4_digits_130 rfl (by first | decide | omega | assumption) ?_
            refine V_aload_n (pc := 131) X dX4_digits_131 rfl (by first | decide | omega | assumption) ?_
            refine V_gz (pc := 132) X dX4_digits_132 f_RX4_47 (by first | rfl | assumption | (simp only [*]; done) | omega) 5 rfl (show _ = t_acc T s j from c_tk_5 h (s + (j : Int), s, o, t_acc T s j)) ?_
            refine V_bipush (pc := 135) X dX4_digits_135 (by decide) ?_
            refine V_icmp_gt (pc := 137) X 144 dX4_digits_137 (by decide) ⟨by omega, by omega⟩ ⟨by omega, by omega⟩ (fun c_137 => ?_) (fun c_137 => ?_)
            · skip
              refine V_iconst (pc := 144) X dX4_digits_144 ?_
              refine V_goto (pc := 145) X 149 dX4_digits_145 (by decide) ?_
              refine V_pz (pc := 149) X dX4_digits_149 f_RX4_37 (by first | rfl | assumption | (simp only [*]; done) | omega) (fun b => z_fitI b _) 4 rfl ?_
              rw [c_tk_p4]
              refine V_vret (st := []) (pc := 152) X hQ dX4_digits_152 rfl rfl ?_
              exact ⟨rfl, by rw [he2, show (s + (j : Int) - s).toNat = j by omega]; first | rw [if_pos (by omega)] | rw [if_neg (by omega)]⟩
            · skip
              refine V_iload_n (pc := 140) X dX4_digits_140 rfl ?_
              refine V_if_eq (pc := 141) X 148 dX4_digits_141 (by decide) ⟨by omega, by omega⟩ (fun c_141 => ?_) (fun c_141 => absurd c_141 (by decide))
              refine V_iconst (pc := 148) X dX4_digits_148 ?_
              refine V_pz (pc := 149) X dX4_digits_149 f_RX4_37 (by first | rfl | assumption | (simp only [*]; done) | omega) (fun b => z_fitI b _) 4 rfl ?_
              rw [c_tk_p4]
              refine V_vret (st := []) (pc := 152) X hQ dX4_digits_152 rfl rfl ?_
              exact ⟨rfl, by rw [he2, show (s + (j : Int) - s).toNat = j by omega]; first | rw [if_pos (by omega)] | rw [if_neg (by omega)]⟩
          · skip
            refine V_iconst (pc := 124) X dX4_digits_124 ?_
            refine V_goto (pc := 125) X 129 dX4_digits_125 (by decide) ?_
            refine V_istore_n (pc := 129) X dX4_digits_129 (by exact Nat.le_of_ble_eq_true rfl) rfl ?_
            refine V_aload_n (pc := 130) X dX4_digits_130 rfl (by first | decide | omega | assumption) ?_
            refine V_aload_n (pc := 131) X dX4_digits_131 rfl (by first | decide | omega | assumption) ?_
            refine V_gz (pc := 132) X dX4_digits_132 f_RX4_47 (by first | rfl | assumption | (simp only [*]; done) | omega) 5 rfl (show _ = t_acc T s j from c_tk_5 h (s + (j : Int), s, o, t_acc T s j)) ?_
            refine V_bipush (pc := 135) X dX4_digits_135 (by decide) ?_
            refine V_icmp_gt (pc := 137) X 144 dX4_digits_137 (by decide) ⟨by omega, by omega⟩ ⟨by omega, by omega⟩ (fun c_137 => ?_) (fun c_137 => ?_)
            · skip
              refine V_iconst (pc := 144) X dX4_digits_144 ?_
              refine V_goto (pc := 145) X 149 dX4_digits_145 (by decide) ?_
              refine V_pz (pc := 149) X dX4_digits_149 f_RX4_37 (by first | rfl | assumption | (simp only [*]; done) | omega) (fun b => z_fitI b _) 4 rfl ?_
              rw [c_tk_p4]
              refine V_vret (st := []) (pc := 152) X hQ dX4_digits_152 rfl rfl ?_
              exact ⟨rfl, by rw [he2, show (s + (j : Int) - s).toNat = j by omega]; first | rw [if_pos (by omega)] | rw [if_neg (by omega)]⟩
            · skip
              refine V_iload_n (pc := 140) X dX4_digits_140 rfl ?_
              refine V_if_eq (pc := 141) X 148 dX4_digits_141 (by decide) ⟨by omega, by omega⟩ (fun c_141 => absurd c_141 (by decide)) (fun c_141 => ?_)
              refine V_iconst (pc := 144) X dX4_digits_144 ?_
              refine V_goto (pc := 145) X 149 dX4_digits_145 (by decide) ?_
              refine V_pz (pc := 149) X dX4_digits_149 f_RX4_37 (by first | rfl | assumption | (simp only [*]; done) | omega) (fun b => z_fitI b _) 4 rfl ?_
              rw [c_tk_p4]
              refine V_vret (st := []) (pc := 152) X hQ dX4_digits_152 rfl rfl ?_
              exact ⟨rfl, by rw [he2, show (s + (j : Int) - s).toNat = j by omega]; first | rw [if_pos (by omega)] | rw [if_neg (by omega)]⟩
      · skip
        refine V_aload_n (pc := 16) X dX4_digits_16 rfl (by first | decide | omega | assumption) ?_
        refine V_gz (pc := 17) X dX4_digits_17 f_RX4_11 (by first | rfl | assumption | (simp only [*]; done) | omega) 0 rfl (show _ = (2 : Int) from by rw [c_tk_slot h (s + (j : Int), s, o, t_acc T s j) (by decide) (by decide) (by decide) (by decide)]; exact r10) ?_
        refine V_aload_n (pc := 20) X dX4_digits_20 rfl (by first | decide | omega | assumption) ?_
        refine V_gz (pc := 21) X dX4_digits_21 f_RX4_31 (by first | rfl | assumption | (simp only [*]; done) | omega) 2 rfl (show _ = s + (j : Int) from c_tk_2 h (s + (j : Int), s, o, t_acc T s j)) ?_
        have hTp := hT (s + (j : Int)) (by omega) (by omega)
        refine V_iald (pc := 24) X dX4_digits_24 (by first | rfl | assumption | (simp only [*]; done) | omega) (by omega) (by omega) (by decide) ?_
        rw [show c_tk h (s + (j : Int), s, o, t_acc T s j) 2 (s + (j : Int)) = T (s + (j : Int)) from by rw [c_tk_cell h (s + (j : Int), s, o, t_acc T s j) (by decide), r2]]
        refine V_bipush (pc := 25) X dX4_digits_25 (by decide) ?_
        refine V_icmp_lt (pc := 27) X 97 dX4_digits_27 (by decide) ⟨by omega, by omega⟩ ⟨by omega, by omega⟩ (fun c_27 => ?_) (fun c_27 => ?_)
        · skip
          refine V_aload_n (pc := 97) X dX4_digits_97 rfl (by first | decide | omega | assumption) ?_
          refine V_gz (pc := 98) X dX4_digits_98 f_RX4_11 (by first | rfl | assumption | (simp only [*]; done) | omega) 0 rfl (show _ = (2 : Int) from by rw [c_tk_slot h (s + (j : Int), s, o, t_acc T s j) (by decide) (by decide) (by decide) (by decide)]; exact r10) ?_
          refine V_aload_n (pc := 101) X dX4_digits_101 rfl (by first | decide | omega | assumption) ?_
          refine V_gz (pc := 102) X dX4_digits_102 f_RX4_44 (by first | rfl | assumption | (simp only [*]; done) | omega) 3 rfl (show _ = s from c_tk_3 h (s + (j : Int), s, o, t_acc T s j)) ?_
          have hTs := hT s (by omega) (by omega)
          have hac := t_acc_rng (T := T) (s := s) (n := j) hall
          have he2 : t_go isD T N s = s + (j : Int) := by
            rw [← he]
            first
              | exact t_go_no (Or.inl c_13)
              | exact t_go_no (Or.inr (decide_eq_false (by omega)))
          refine V_iald (pc := 105) X dX4_digits_105 (by first | rfl | assumption | (simp only [*]; done) | omega) (by omega) (by omega) (by decide) ?_
          rw [show c_tk h (s + (j : Int), s, o, t_acc T s j) 2 (s) = T (s) from by rw [c_tk_cell h (s + (j : Int), s, o, t_acc T s j) (by decide), r2]]
          refine V_bipush (pc := 106) X dX4_digits_106 (by decide) ?_
          refine V_icmp_ne (pc := 108) X 128 dX4_digits_108 (by decide) ⟨by omega, by omega⟩ ⟨by omega, by omega⟩ (fun c_108 => ?_) (fun c_108 => ?_)
          · skip
            refine V_iconst (pc := 128) X dX4_digits_128 ?_
            refine V_istore_n (pc := 129) X dX4_digits_129 (by exact Nat.le_of_ble_eq_true rfl) rfl ?_
            refine V_aload_n (pc := 130) X dX4_digits_130 rfl (by first | decide | omega | assumption) ?_
            refine V_aload_n (pc := 131) X dX4_digits_131 rfl (by first | decide | omega | assumption) ?_
            refine V_gz (pc := 132) X dX4_digits_132 f_RX4_47 (by first | rfl | assumption | (simp only [*]; done) | omega) 5 rfl (show _ = t_acc T s j from c_tk_5 h (s + (j : Int), s, o, t_acc T s j)) ?_
            refine V_bipush (pc := 135) X dX4_digits_135 (by decide) ?_
            refine V_icmp_gt (pc := 137) X 144 dX4_digits_137 (by decide) ⟨by omega, by omega⟩ ⟨by omega, by omega⟩ (fun c_137 => ?_) (fun c_137 => ?_)
            · skip
              refine V_iconst (pc := 144) X dX4_digits_144 ?_
              refine V_goto (pc := 145) X 149 dX4_digits_145 (by decide) ?_
              refine V_pz (pc := 149) X dX4_digits_149 f_RX4_37 (by first | rfl | assumption | (simp only [*]; done) | omega) (fun b => z_fitI b _) 4 rfl ?_
              rw [c_tk_p4]
              refine V_vret (st := []) (pc := 152) X hQ dX4_digits_152 rfl rfl ?_
              exact ⟨rfl, by rw [he2, show (s + (j : Int) - s).toNat = j by omega]; first | rw [if_pos (by omega)] | rw [if_neg (by omega)]⟩
            · skip
              refine V_iload_n (pc := 140) X dX4_digits_140 rfl ?_
              refine V_if_eq (pc := 141) X 148 dX4_digits_141 (by decide) ⟨by omega, by omega⟩ (fun c_141 => ?_) (fun c_141 => absurd c_141 (by decide))
              refine V_iconst (pc := 148) X dX4_digits_148 ?_
              refine V_pz (pc := 149) X dX4_digits_149 f_RX4_37 (by first | rfl | assumption | (simp only [*]; done) | omega) (fun b => z_fitI b _) 4 rfl ?_
              rw [c_tk_p4]
              refine V_vret (st := []) (pc := 152) X hQ dX4_digits_152 rfl rfl ?_
              exact ⟨rfl, by rw [he2, show (s + (j : Int) - s).toNat = j by omega]; first | rw [if_pos (by omega)] | rw [if_neg (by omega)]⟩
          · skip
            refine V_aload_n (pc := 111) X dX4_digits_111 rfl (by first | decide | omega | assumption) ?_
            refine V_gz (pc := 112) X dX4_digits_112 f_RX4_31 (by first | rfl | assumption | (simp only [*]; done) | omega) 2 rfl (show _ = s + (j : Int) from c_tk_2 h (s + (j : Int), s, o, t_acc T s j)) ?_
            refine V_aload_n (pc := 115) X dX4_digits_115 rfl (by first | decide | omega | assumption) ?_
            refine V_gz (pc := 116) X dX4_digits_116 f_RX4_44 (by first | rfl | assumption | (simp only [*]; done) | omega) 3 rfl (show _ = s from c_tk_3 h (s + (j : Int), s, o, t_acc T s j)) ?_
            refine V_isub (pc := 119) X dX4_digits_119 ?_
            refine V_iconst (pc := 120) X dX4_digits_120 ?_
            refine V_icmp_le (pc := 121) X 128 dX4_digits_121 (by decide) ⟨by omega, by omega⟩ ⟨by omega, by omega⟩ (fun c_121 => ?_) (fun c_121 => ?_)
            · skip
              refine V_iconst (pc := 128) X dX4_digits_128 ?_
              refine V_istore_n (pc := 129) X dX4_digits_129 (by exact Nat.le_of_ble_eq_true rfl) rfl ?_
              refine V_aload_n (pc := 130) X dX4_digits_130 rfl (by first | decide | omega | assumption) ?_
              refine V_aload_n (pc := 131) X dX4_digits_131 rfl (by first | decide | omega | assumption) ?_
              refine V_gz (pc := 132) X dX4_digits_132 f_RX4_47 (by first | rfl | assumption | (simp only [*]; done) | omega) 5 rfl (show _ = t_acc T s j from c_tk_5 h (s + (j : Int), s, o, t_acc T s j)) ?_
              refine V_bipush (pc := 135) X dX4_digits_135 (by decide) ?_
              refine V_icmp_gt (pc := 137) X 144 dX4_digits_137 (by decide) ⟨by omega, by omega⟩ ⟨by omega, by omega⟩ (fun c_137 => ?_) (fun c_137 => ?_)
              · skip
                refine V_iconst (pc := 144) X dX4_digits_144 ?_
                refine V_goto (pc := 145) X 149 dX4_digits_145 (by decide) ?_
                refine V_pz (pc := 149) X dX4_digits_149 f_RX4_37 (by first | rfl | assumption | (simp only [*]; done) | omega) (fun b => z_fitI b _) 4 rfl ?_
                rw [c_tk_p4]
                refine V_vret (st := []) (pc := 152) X hQ dX4_digits_152 rfl rfl ?_
                exact ⟨rfl, by rw [he2, show (s + (j : Int) - s).toNat = j by omega]; first | rw [if_pos (by omega)] | rw [if_neg (by omega)]⟩
              · skip
                refine V_iload_n (pc := 140) X dX4_digits_140 rfl ?_
                refine V_if_eq (pc := 141) X 148 dX4_digits_141 (by decide) ⟨by omega, by omega⟩ (fun c_141 => ?_) (fun c_141 => absurd c_141 (by decide))
                refine V_iconst (pc := 148) X dX4_digits_148 ?_
                refine V_pz (pc := 149) X dX4_digits_149 f_RX4_37 (by first | rfl | assumption | (simp only [*]; done) | omega) (fun b => z_fitI b _) 4 rfl ?_
                rw [c_tk_p4]
                refine V_vret (st := []) (pc := 152) X hQ dX4_digits_152 rfl rfl ?_
                exact ⟨rfl, by rw [he2, show (s + (j : Int) - s).toNat = j by omega]; first | rw [if_pos (by omega)] | rw [if_neg (by omega)]⟩
            · skip
              refine V_iconst (pc := 124) X dX4_digits_124 ?_
              refine V_goto (pc := 125) X 129 dX4_digits_125 (by decide) ?_
              refine V_istore_n (pc := 129) X dX4_digits_129 (by exact Nat.le_of_ble_eq_true rfl) rfl ?_
              refine V_aload_n (pc := 130) X dX4_digits_130 rfl (by first | decide | omega | assumption) ?_
              refine V_aload_n (pc := 131) X dX4_digits_131 rfl (by first | decide | omega | assumption) ?_
              refine V_gz (pc := 132) X dX4_digits_132 f_RX4_47 (by first | rfl | assumption | (simp only [*]; done) | omega) 5 rfl (show _ = t_acc T s j from c_tk_5 h (s + (j : Int), s, o, t_acc T s j)) ?_
              refine V_bipush (pc := 135) X dX4_digits_135 (by decide) ?_
              refine V_icmp_gt (pc := 137) X 144 dX4_digits_137 (by decide) ⟨by omega, by omega⟩ ⟨by omega, by omega⟩ (fun c_137 => ?_) (fun c_137 => ?_)
              · skip
                refine V_iconst (pc := 144) X dX4_digits_144 ?_
                refine V_goto (pc := 145) X 149 dX4_digits_145 (by decide) ?_
                refine V_pz (pc := 149) X dX4_digits_149 f_RX4_37 (by first | rfl | assumption | (simp only [*]; done) | omega) (fun b => z_fitI b _) 4 rfl ?_
                rw [c_tk_p4]
                refine V_vret (st := []) (pc := 152) X hQ dX4_digits_152 rfl rfl ?_
                exact ⟨rfl, by rw [he2, show (s + (j : Int) - s).toNat = j by omega]; first | rw [if_pos (by omega)] | rw [if_neg (by omega)]⟩
              · skip
                refine V_iload_n (pc := 140) X dX4_digits_140 rfl ?_
                refine V_if_eq (pc := 141) X 148 dX4_digits_141 (by decide) ⟨by omega, by omega⟩ (fun c_141 => absurd c_141 (by decide)) (fun c_141 => ?_)
                refine V_iconst (pc := 144) X dX4_digits_144 ?_
                refine V_goto (pc := 145) X 149 dX4_digits_145 (by decide) ?_
                refine V_pz (pc := 149) X dX4_digits_149 f_RX4_37 (by first | rfl | assumption | (simp only [*]; done) | omega) (fun b => z_fitI b _) 4 rfl ?_
                rw [c_tk_p4]
                refine V_vret (st := []) (pc := 152) X hQ dX4_digits_152 rfl rfl ?_
                exact ⟨rfl, by rw [he2, show (s + (j : Int) - s).toNat = j by omega]; first | rw [if_pos (by omega)] | rw [if_neg (by omega)]⟩
        · skip
          refine V_aload_n (pc := 30) X dX4_digits_30 rfl (by first | decide | omega | assumption) ?_
          refine V_gz (pc := 31) X dX4_digits_31 f_RX4_11 (by first | rfl | assumption | (simp only [*]; done) | omega) 0 rfl (show _ = (2 : Int) from by rw [c_tk_slot h (s + (j : Int), s, o, t_acc T s j) (by decide) (by decide) (by decide) (by decide)]; exact r10) ?_
          refine V_aload_n (pc := 34) X dX4_digits_34 rfl (by first | decide | omega | assumption) ?_
          refine V_gz (pc := 35) X dX4_digits_35 f_RX4_31 (by first | rfl | assumption | (simp only [*]; done) | omega) 2 rfl (show _ = s + (j : Int) from c_tk_2 h (s + (j : Int), s, o, t_acc T s j)) ?_
          refine V_iald (pc := 38) X dX4_digits_38 (by first | rfl | assumption | (simp only [*]; done) | omega) (by omega) (by omega) (by decide) ?_
          rw [show c_tk h (s + (j : Int), s, o, t_acc T s j) 2 (s + (j : Int)) = T (s + (j : Int)) from by rw [c_tk_cell h (s + (j : Int), s, o, t_acc T s j) (by decide), r2]]
          refine V_bipush (pc := 39) X dX4_digits_39 (by decide) ?_
          refine V_icmp_gt (pc := 41) X 97 dX4_digits_41 (by decide) ⟨by omega, by omega⟩ ⟨by omega, by omega⟩ (fun c_41 => ?_) (fun c_41 => ?_)
          · skip
            refine V_aload_n (pc := 97) X dX4_digits_97 rfl (by first | decide | omega | assumption) ?_
            refine V_gz (pc := 98) X dX4_digits_98 f_RX4_11 (by first | rfl | assumption | (simp only [*]; done) | omega) 0 rfl (show _ = (2 : Int) from by rw [c_tk_slot h (s + (j : Int), s, o, t_acc T s j) (by decide) (by decide) (by decide) (by decide)]; exact r10) ?_
            refine V_aload_n (pc := 101) X dX4_digits_101 rfl (by first | decide | omega | assumption) ?_
            refine V_gz (pc := 102) X dX4_digits_102 f_RX4_44 (by first | rfl | assumption | (simp only [*]; done) | omega) 3 rfl (show _ = s from c_tk_3 h (s + (j : Int), s, o, t_acc T s j)) ?_
            have hTs := hT s (by omega) (by omega)
            have hac := t_acc_rng (T := T) (s := s) (n := j) hall
            have he2 : t_go isD T N s = s + (j : Int) := by
              rw [← he]
              first
                | exact t_go_no (Or.inl c_13)
                | exact t_go_no (Or.inr (decide_eq_false (by omega)))
            refine V_iald (pc := 105) X dX4_digits_105 (by first | rfl | assumption | (simp only [*]; done) | omega) (by omega) (by omega) (by decide) ?_
            rw [show c_tk h (s + (j : Int), s, o, t_acc T s j) 2 (s) = T (s) from by rw [c_tk_cell h (s + (j : Int), s, o, t_acc T s j) (by decide), r2]]
            refine V_bipush (pc := 106) X dX4_digits_106 (by decide) ?_
            refine V_icmp_ne (pc := 108) X 128 dX4_digits_108 (by decide) ⟨by omega, by omega⟩ ⟨by omega, by omega⟩ (fun c_108 => ?_) (fun c_108 => ?_)
            · skip
              refine V_iconst (pc := 128) X dX4_digits_128 ?_
              refine V_istore_n (pc := 129) X dX4_digits_129 (by exact Nat.le_of_ble_eq_true rfl) rfl ?_
              refine V_aload_n (pc := 130) X dX4_digits_130 rfl (by first | decide | omega | assumption) ?_
              refine V_aload_n (pc := 131) X dX4_digits_131 rfl (by first | decide | omega | assumption) ?_
              refine V_gz (pc := 132) X dX4_digits_132 f_RX4_47 (by first | rfl | assumption | (simp only [*]; done) | omega) 5 rfl (show _ = t_acc T s j from c_tk_5 h (s + (j : Int), s, o, t_acc T s j)) ?_
              refine V_bipush (pc := 135) X dX4_digits_135 (by decide) ?_
              refine V_icmp_gt (pc := 137) X 144 dX4_digits_137 (by decide) ⟨by omega, by omega⟩ ⟨by omega, by omega⟩ (fun c_137 => ?_) (fun c_137 => ?_)
              · skip
                refine V_iconst (pc := 144) X dX4_digits_144 ?_
                refine V_goto (pc := 145) X 149 dX4_digits_145 (by decide) ?_
                refine V_pz (pc := 149) X dX4_digits_149 f_RX4_37 (by first | rfl | assumption | (simp only [*]; done) | omega) (fun b => z_fitI b _) 4 rfl ?_
                rw [c_tk_p4]
                refine V_vret (st := []) (pc := 152) X hQ dX4_digits_152 rfl rfl ?_
                exact ⟨rfl, by rw [he2, show (s + (j : Int) - s).toNat = j by omega]; first | rw [if_pos (by omega)] | rw [if_neg (by omega)]⟩
              · skip
                refine V_iload_n (pc := 140) X dX4_digits_140 rfl ?_
                refine V_if_eq (pc := 141) X 148 dX4_digits_141 (by decide) ⟨by omega, by omega⟩ (fun c_141 => ?_) (fun c_141 => absurd c_141 (by decide))
                refine V_iconst (pc := 148) X dX4_digits_148 ?_
                refine V_pz (pc := 149) X dX4_digits_149 f_RX4_37 (by first | rfl | assumption | (simp only [*]; done) | omega) (fun b => z_fitI b _) 4 rfl ?_
                rw [c_tk_p4]
                refine V_vret (st := []) (pc := 152) X hQ dX4_digits_152 rfl rfl ?_
                exact ⟨rfl, by rw [he2, show (s + (j : Int) - s).toNat = j by omega]; first | rw [if_pos (by omega)] | rw [if_neg (by omega)]⟩
            · skip
              refine V_aload_n (pc := 111) X dX4_digits_111 rfl (by first | decide | omega | assumption) ?_
              refine V_gz (pc := 112) X dX4_digits_112 f_RX4_31 (by first | rfl | assumption | (simp only [*]; done) | omega) 2 rfl (show _ = s + (j : Int) from c_tk_2 h (s + (j : Int), s, o, t_acc T s j)) ?_
              refine V_aload_n (pc := 115) X dX4_digits_115 rfl (by first | decide | omega | assumption) ?_
              refine V_gz (pc := 116) X dX4_digits_116 f_RX4_44 (by first | rfl | assumption | (simp only [*]; done) | omega) 3 rfl (show _ = s from c_tk_3 h (s + (j : Int), s, o, t_acc T s j)) ?_
              refine V_isub (pc := 119) X dX4_digits_119 ?_
              refine V_iconst (pc := 120) X dX4_digits_120 ?_
              refine V_icmp_le (pc := 121) X 128 dX4_digits_121 (by decide) ⟨by omega, by omega⟩ ⟨by omega, by omega⟩ (fun c_121 => ?_) (fun c_121 => ?_)
              · skip
                refine V_iconst (pc := 128) X dX4_digits_128 ?_
                refine V_istore_n (pc := 129) X dX4_digits_129 (by exact Nat.le_of_ble_eq_true rfl) rfl ?_
                refine V_aload_n (pc := 130) X dX4_digits_130 rfl (by first | decide | omega | assumption) ?_
                refine V_aload_n (pc := 131) X dX4_digits_131 rfl (by first | decide | omega | assumption) ?_
                refine V_gz (pc := 132) X dX4_digits_132 f_RX4_47 (by first | rfl | assumption | (simp only [*]; done) | omega) 5 rfl (show _ = t_acc T s j from c_tk_5 h (s + (j : Int), s, o, t_acc T s j)) ?_
                refine V_bipush (pc := 135) X dX4_digits_135 (by decide) ?_
                refine V_icmp_gt (pc := 137) X 144 dX4_digits_137 (by decide) ⟨by omega, by omega⟩ ⟨by omega, by omega⟩ (fun c_137 => ?_) (fun c_137 => ?_)
                · skip
                  refine V_iconst (pc := 144) X dX4_digits_144 ?_
                  refine V_goto (pc := 145) X 149 dX4_digits_145 (by decide) ?_
                  refine V_pz (pc := 149) X dX4_digits_149 f_RX4_37 (by first | rfl | assumption | (simp only [*]; done) | omega) (fun b => z_fitI b _) 4 rfl ?_
                  rw [c_tk_p4]
                  refine V_vret (st := []) (pc := 152) X hQ dX4_digits_152 rfl rfl ?_
                  exact ⟨rfl, by rw [he2, show (s + (j : Int) - s).toNat = j by omega]; first | rw [if_pos (by omega)] | rw [if_neg (by omega)]⟩
                · skip
                  refine V_iload_n (pc := 140) X dX4_digits_140 rfl ?_
                  refine V_if_eq (pc := 141) X 148 dX4_digits_141 (by decide) ⟨by omega, by omega⟩ (fun c_141 => ?_) (fun c_141 => absurd c_141 (by decide))
                  refine V_iconst (pc := 148) X dX4_digits_148 ?_
                  refine V_pz (pc := 149) X dX4_digits_149 f_RX4_37 (by first | rfl | assumption | (simp only [*]; done) | omega) (fun b => z_fitI b _) 4 rfl ?_
                  rw [c_tk_p4]
                  refine V_vret (st := []) (pc := 152) X hQ dX4_digits_152 rfl rfl ?_
                  exact ⟨rfl, by rw [he2, show (s + (j : Int) - s).toNat = j by omega]; first | rw [if_pos (by omega)] | rw [if_neg (by omega)]⟩
              · skip
                refine V_iconst (pc := 124) X dX4_digits_124 ?_
                refine V_goto (pc := 125) X 129 dX4_digits_125 (by decide) ?_
                refine V_istore_n (pc := 129) X dX4_digits_129 (by exact Nat.le_of_ble_eq_true rfl) rfl ?_
                refine V_aload_n (pc := 130) X dX4_digits_130 rfl (by first | decide | omega | assumption) ?_
                refine V_aload_n (pc := 131) X dX4_digits_131 rfl (by first | decide | omega | assumption) ?_
                refine V_gz (pc := 132) X dX4_digits_132 f_RX4_47 (by first | rfl | assumption | (simp only [*]; done) | omega) 5 rfl (show _ = t_acc T s j from c_tk_5 h (s + (j : Int), s, o, t_acc T s j)) ?_
                refine V_bipush (pc := 135) X dX4_digits_135 (by decide) ?_
                refine V_icmp_gt (pc := 137) X 144 dX4_digits_137 (by decide) ⟨by omega, by omega⟩ ⟨by omega, by omega⟩ (fun c_137 => ?_) (fun c_137 => ?_)
                · skip
                  refine V_iconst (pc := 144) X dX4_digits_144 ?_
                  refine V_goto (pc := 145) X 149 dX4_digits_145 (by decide) ?_
                  refine V_pz (pc := 149) X dX4_digits_149 f_RX4_37 (by first | rfl | assumption | (simp only [*]; done) | omega) (fun b => z_fitI b _) 4 rfl ?_
                  rw [c_tk_p4]
                  refine V_vret (st := []) (pc := 152) X hQ dX4_digits_152 rfl rfl ?_
                  exact ⟨rfl, by rw [he2, show (s + (j : Int) - s).toNat = j by omega]; first | rw [if_pos (by omega)] | rw [if_neg (by omega)]⟩
                · skip
                  refine V_iload_n (pc := 140) X dX4_digits_140 rfl ?_
                  refine V_if_eq (pc := 141) X 148 dX4_digits_141 (by decide) ⟨by omega, by omega⟩ (fun c_141 => absurd c_141 (by decide)) (fun c_141 => ?_)
                  refine V_iconst (pc := 144) X dX4_digits_144 ?_
                  refine V_goto (pc := 145) X 149 dX4_digits_145 (by decide) ?_
                  refine V_pz (pc := 149) X dX4_digits_149 f_RX4_37 (by first | rfl | assumption | (simp only [*]; done) | omega) (fun b => z_fitI b _) 4 rfl ?_
                  rw [c_tk_p4]
                  refine V_vret (st := []) (pc := 152) X hQ dX4_digits_152 rfl rfl ?_
                  exact ⟨rfl, by rw [he2, show (s + (j : Int) - s).toNat = j by omega]; first | rw [if_pos (by omega)] | rw [if_neg (by omega)]⟩
          · skip
            have hac := t_acc_rng (T := T) (s := s) (n := j) hall
            refine V_aload_n (pc := 44) X dX4_digits_44 rfl (by first | decide | omega | assumption) ?_
            refine V_aload_n (pc := 45) X dX4_digits_45 rfl (by first | decide | omega | assumption) ?_
            refine V_gz (pc := 46) X dX4_digits_46 f_RX4_47 (by first | rfl | assumption | (simp only [*]; done) | omega) 5 rfl (show _ = t_acc T s j from c_tk_5 h (s + (j : Int), s, o, t_acc T s j)) ?_
            refine V_bipush (pc := 49) X dX4_digits_49 (by decide) ?_
            refine V_icmp_le (pc := 51) X 61 dX4_digits_51 (by decide) ⟨by omega, by omega⟩ ⟨by omega, by omega⟩ (fun c_51 => ?_) (fun c_51 => ?_)
            · skip
              refine V_aload_n (pc := 61) X dX4_digits_61 rfl (by first | decide | omega | assumption) ?_
              refine V_gz (pc := 62) X dX4_digits_62 f_RX4_47 (by first | rfl | assumption | (simp only [*]; done) | omega) 5 rfl (show _ = t_acc T s j from c_tk_5 h (s + (j : Int), s, o, t_acc T s j)) ?_
              refine V_bipush (pc := 65) X dX4_digits_65 (by decide) ?_
              refine V_imul (pc := 67) X dX4_digits_67 ?_
              refine V_aload_n (pc := 68) X dX4_digits_68 rfl (by first | decide | omega | assumption) ?_
              refine V_gz (pc := 69) X dX4_digits_69 f_RX4_11 (by first | rfl | assumption | (simp only [*]; done) | omega) 0 rfl (show _ = (2 : Int) from by rw [c_tk_slot h (s + (j : Int), s, o, t_acc T s j) (by decide) (by decide) (by decide) (by decide)]; exact r10) ?_
              refine V_aload_n (pc := 72) X dX4_digits_72 rfl (by first | decide | omega | assumption) ?_
              refine V_gz (pc := 73) X dX4_digits_73 f_RX4_31 (by first | rfl | assumption | (simp only [*]; done) | omega) 2 rfl (show _ = s + (j : Int) from c_tk_2 h (s + (j : Int), s, o, t_acc T s j)) ?_
              refine V_iald (pc := 76) X dX4_digits_76 (by first | rfl | assumption | (simp only [*]; done) | omega) (by omega) (by omega) (by decide) ?_
              rw [show c_tk h (s + (j : Int), s, o, t_acc T s j) 2 (s + (j : Int)) = T (s + (j : Int)) from by rw [c_tk_cell h (s + (j : Int), s, o, t_acc T s j) (by decide), r2]]
              refine V_iadd (pc := 77) X dX4_digits_77 ?_
              refine V_bipush (pc := 78) X dX4_digits_78 (by decide) ?_
              refine V_isub (pc := 80) X dX4_digits_80 ?_
              refine V_pz (pc := 81) X dX4_digits_81 f_RX4_47 (by first | rfl | assumption | (simp only [*]; done) | omega) (fun b => z_fitI b _) 5 rfl ?_
              rw [c_tk_p5]
              refine V_aload_n (pc := 84) X dX4_digits_84 rfl (by first | decide | omega | assumption) ?_
              refine V_dup (pc := 85) X dX4_digits_85 (Nat.ne_of_beq_eq_false rfl) ?_
              refine V_gz (pc := 86) X dX4_digits_86 f_RX4_31 (by first | rfl | assumption | (simp only [*]; done) | omega) 2 rfl (show _ = s + (j : Int) from c_tk_2 _ _) ?_
              refine V_iconst (pc := 89) X dX4_digits_89 ?_
              refine V_iadd (pc := 90) X dX4_digits_90 ?_
              refine V_pz (pc := 91) X dX4_digits_91 f_RX4_31 (by first | rfl | assumption | (simp only [*]; done) | omega) (fun b => z_fitI b _) 2 rfl ?_
              rw [c_tk_p2]
              refine V_goto (pc := 94) X 5 dX4_digits_94 (by decide) ?_
              refine V_heap ?_ (ih_5 (j + 1) (by omega) (by omega) (fun i a b => ?_) ?_)
              · rw [show s + ((j + 1 : Nat) : Int) = s + (j : Int) + 1 by omega, t_acc_succ]
                first
                  | rw [if_neg (Int.not_lt.mpr c_51)]
                  | rw [if_pos (Int.not_le.mp c_51)]
              · by_cases e : i = s + j
                · rw [e]; omega
                · exact hall i a (by omega)
              · rw [← he, show s + ((j + 1 : Nat) : Int) = s + (j : Int) + 1 by omega]
                exact (t_go_yes (by omega) (decide_eq_true (by omega))).symm
            · skip
              refine V_aload_n (pc := 54) X dX4_digits_54 rfl (by first | decide | omega | assumption) ?_
              refine V_gz (pc := 55) X dX4_digits_55 f_RX4_47 (by first | rfl | assumption | (simp only [*]; done) | omega) 5 rfl (show _ = t_acc T s j from c_tk_5 h (s + (j : Int), s, o, t_acc T s j)) ?_
              refine V_goto (pc := 58) X 81 dX4_digits_58 (by decide) ?_
              refine V_pz (pc := 81) X dX4_digits_81 f_RX4_47 (by first | rfl | assumption | (simp only [*]; done) | omega) (fun b => z_fitI b _) 5 rfl ?_
              rw [c_tk_p5]
              refine V_aload_n (pc := 84) X dX4_digits_84 rfl (by first | decide | omega | assumption) ?_
              refine V_dup (pc := 85) X dX4_digits_85 (Nat.ne_of_beq_eq_false rfl) ?_
              refine V_gz (pc := 86) X dX4_digits_86 f_RX4_31 (by first | rfl | assumption | (simp only [*]; done) | omega) 2 rfl (show _ = s + (j : Int) from c_tk_2 _ _) ?_
              refine V_iconst (pc := 89) X dX4_digits_89 ?_
              refine V_iadd (pc := 90) X dX4_digits_90 ?_
              refine V_pz (pc := 91) X dX4_digits_91 f_RX4_31 (by first | rfl | assumption | (simp only [*]; done) | omega) (fun b => z_fitI b _) 2 rfl ?_
              rw [c_tk_p2]
              refine V_goto (pc := 94) X 5 dX4_digits_94 (by decide) ?_
              refine V_heap ?_ (ih_5 (j + 1) (by omega) (by omega) (fun i a b => ?_) ?_)
              · rw [show s + ((j + 1 : Nat) : Int) = s + (j : Int) + 1 by omega, t_acc_succ]
                first
                  | rw [if_neg (Int.not_lt.mpr c_51)]
                  | rw [if_pos (Int.not_le.mp c_51)]
              · by_cases e : i = s + j
                · rw [e]; omega
                · exact hall i a (by omega)
              · rw [← he, show s + ((j + 1 : Nat) : Int) = s + (j : Int) + 1 by omega]
                exact (t_go_yes (by omega) (decide_eq_true (by omega))).symm
  refine V_heap (h' := c_tk h (s + ((0 : Nat) : Int), s, o, t_acc T s 0)) (by rw [show s + ((0 : Nat) : Int) = s from Int.add_zero s]; rfl) ?_
  exact lp_5 _ 0 (Nat.lt_succ_self _) (by simp; omega) (fun i a b => by simp at b; omega) (by rw [show s + ((0 : Nat) : Int) = s from Int.add_zero s])
set_option maxHeartbeats 4000000 in
set_option maxRecDepth 100000 in
theorem ct_X4_step {h : z_H} {T : Int → Int} {N : Int} (hR : c_Rd h T N) {n s0 o v : Int} (h0 : 0 ≤ n) (h1 : n ≤ N) : z_Ct mX4_step 107 [(2, 1)] (c_tk h (n, s0, o, v)) (z_void (c_tk h (t_tok T N n v))) := by
  refine z_mk (L := [(2, 1)]) oX4_step.2.2.2.2 (Nat.le_of_ble_eq_true rfl) rfl ?_
  intro Γ X hQ
  obtain ⟨r10, r11, r2, hN, hT⟩ := id hR
  have lp_0 : ∀ (m : Nat) (p : Int), (N - p).toNat < m → n ≤ p → p ≤ N → t_go isB T N p = t_go isB T N n → z_V Γ (107, 0, 0) 0 [(2, 1)] [] (c_tk h (p, s0, o, v)) := by
    intro m
    induction m with
    | zero => intro p hm; exact absurd hm (Nat.not_lt_zero _)
    | succ m ih_0 =>
      intro p hm hp0 hp1 he
      refine V_aload_n (pc := 0) X dX4_step_0 rfl (by first | decide | omega | assumption) ?_
      refine V_gz (pc := 1) X dX4_step_1 f_RX4_31 (by first | rfl | assumption | (simp only [*]; done) | omega) 2 rfl (show _ = p from c_tk_2 h (p, s0, o, v)) ?_
      refine V_aload_n (pc := 4) X dX4_step_4 rfl (by first | decide | omega | assumption) ?_
      refine V_gz (pc := 5) X dX4_step_5 f_RX4_15 (by first | rfl | assumption | (simp only [*]; done) | omega) 1 rfl (show _ = N from by rw [c_tk_slot h (p, s0, o, v) (by decide) (by decide) (by decide) (by decide)]; exact r11) ?_
      refine V_icmp_ge (pc := 8) X 38 dX4_step_8 (by decide) ⟨by omega, by omega⟩ ⟨by omega, by omega⟩ (fun c_8 => ?_) (fun c_8 => ?_)
      · skip
        have he2 : t_go isB T N n = p := by
          rw [← he]
          first
            | exact t_go_no (Or.inl c_8)
            | exact t_go_no (Or.inr (decide_eq_false c_22))
        refine V_aload_n (pc := 38) X dX4_step_38 rfl (by first | decide | omega | assumption) ?_
        refine V_aload_n (pc := 39) X dX4_step_39 rfl (by first | decide | omega | assumption) ?_
        refine V_gz (pc := 40) X dX4_step_40 f_RX4_31 (by first | rfl | assumption | (simp only [*]; done) | omega) 2 rfl (show _ = p from c_tk_2 h (p, s0, o, v)) ?_
        refine V_pz (pc := 43) X dX4_step_43 f_RX4_44 (by first | rfl | assumption | (simp only [*]; done) | omega) (fun b => z_fitI b _) 3 rfl ?_
        rw [c_tk_p3]
        refine V_aload_n (pc := 46) X dX4_step_46 rfl (by first | decide | omega | assumption) ?_
        refine V_gz (pc := 47) X dX4_step_47 f_RX4_31 (by first | rfl | assumption | (simp only [*]; done) | omega) 2 rfl (show _ = p from c_tk_2 h (p, p, o, v)) ?_
        refine V_aload_n (pc := 50) X dX4_step_50 rfl (by first | decide | omega | assumption) ?_
        refine V_gz (pc := 51) X dX4_step_51 f_RX4_15 (by first | rfl | assumption | (simp only [*]; done) | omega) 1 rfl (show _ = N from by rw [c_tk_slot h (p, p, o, v) (by decide) (by decide) (by decide) (by decide)]; exact r11) ?_
        refine V_icmp_lt (pc := 54) X 65 dX4_step_54 (by decide) ⟨by omega, by omega⟩ ⟨by omega, by omega⟩ (fun c_54 => ?_) (fun c_54 => ?_)
        · skip
          have hTs := hT p (by omega) (by omega)
          refine V_aload_n (pc := 65) X dX4_step_65 rfl (by first | decide | omega | assumption) ?_
          refine V_gz (pc := 66) X dX4_step_66 f_RX4_11 (by first | rfl | assumption | (simp only [*]; done) | omega) 0 rfl (show _ = (2 : Int) from by rw [c_tk_slot h (p, p, o, v) (by decide) (by decide) (by decide) (by decide)]; exact r10) ?_
          refine V_aload_n (pc := 69) X dX4_step_69 rfl (by first | decide | omega | assumption) ?_
          refine V_gz (pc := 70) X dX4_step_70 f_RX4_31 (by first | rfl | assumption | (simp only [*]; done) | omega) 2 rfl (show _ = p from c_tk_2 h (p, p, o, v)) ?_
          refine V_iald (pc := 73) X dX4_step_73 (by first | rfl | assumption | (simp only [*]; done) | omega) (by omega) (by omega) (by decide) ?_
          rw [show c_tk h (p, p, o, v) 2 (p) = T (p) from by rw [c_tk_cell h (p, p, o, v) (by decide), r2]]
          refine V_bipush (pc := 74) X dX4_step_74 (by decide) ?_
          refine V_icmp_lt (pc := 76) X 100 dX4_step_76 (by decide) ⟨by omega, by omega⟩ ⟨by omega, by omega⟩ (fun c_76 => ?_) (fun c_76 => ?_)
          · skip
            refine V_aload_n (pc := 100) X dX4_step_100 rfl (by first | decide | omega | assumption) ?_
            refine V_gz (pc := 101) X dX4_step_101 f_RX4_11 (by first | rfl | assumption | (simp only [*]; done) | omega) 0 rfl (show _ = (2 : Int) from by rw [c_tk_slot h (p, p, o, v) (by decide) (by decide) (by decide) (by decide)]; exact r10) ?_
            refine V_aload_n (pc := 104) X dX4_step_104 rfl (by first | decide | omega | assumption) ?_
            refine V_gz (pc := 105) X dX4_step_105 f_RX4_31 (by first | rfl | assumption | (simp only [*]; done) | omega) 2 rfl (show _ = p from c_tk_2 h (p, p, o, v)) ?_
            refine V_iald (pc := 108) X dX4_step_108 (by first | rfl | assumption | (simp only [*]; done) | omega) (by omega) (by omega) (by decide) ?_
            rw [show c_tk h (p, p, o, v) 2 (p) = T (p) from by rw [c_tk_cell h (p, p, o, v) (by decide), r2]]
            refine V_bipush (pc := 109) X dX4_step_109 (by decide) ?_
            refine V_icmp_lt (pc := 111) X 135 dX4_step_111 (by decide) ⟨by omega, by omega⟩ ⟨by omega, by omega⟩ (fun c_111 => ?_) (fun c_111 => ?_)
            · skip
              have eL : isL (T p) = false := decide_eq_false (by omega)
              have eD : isD (T p) = false := decide_eq_false (by omega)
              have etk : t_tok T N n v = (p + 1, p, if T p = 59 then 3 else 4, v) := by
                unfold t_tok
                rw [he2]
                unfold t_e t_k t_v
                rw [if_neg (show ¬ N ≤ p by omega), if_neg (show ¬ N ≤ p by omega), if_neg (show ¬ N ≤ p by omega), eL, eD]
                rfl
              refine V_aload_n (pc := 135) X dX4_step_135 rfl (by first | decide | omega | assumption) ?_
              refine V_aload_n (pc := 136) X dX4_step_136 rfl (by first | decide | omega | assumption) ?_
              refine V_gz (pc := 137) X dX4_step_137 f_RX4_11 (by first | rfl | assumption | (simp only [*]; done) | omega) 0 rfl (show _ = (2 : Int) from by rw [c_tk_slot h (p, p, o, v) (by decide) (by decide) (by decide) (by decide)]; exact r10) ?_
              refine V_aload_n (pc := 140) X dX4_step_140 rfl (by first | decide | omega | assumption) ?_
              refine V_gz (pc := 141) X dX4_step_141 f_RX4_31 (by first | rfl | assumption | (simp only [*]; done) | omega) 2 rfl (show _ = p from c_tk_2 h (p, p, o, v)) ?_
              refine V_iald (pc := 144) X dX4_step_144 (by first | rfl | assumption | (simp only [*]; done) | omega) (by omega) (by omega) (by decide) ?_
              rw [show c_tk h (p, p, o, v) 2 (p) = T (p) from by rw [c_tk_cell h (p, p, o, v) (by decide), r2]]
              refine V_bipush (pc := 145) X dX4_step_145 (by decide) ?_
              refine V_icmp_ne (pc := 147) X 154 dX4_step_147 (by decide) ⟨by omega, by omega⟩ ⟨by omega, by omega⟩ (fun c_147 => ?_) (fun c_147 => ?_)
              · skip
                rw [if_neg (show ¬ T p = 59 by omega)] at etk
                refine V_iconst (pc := 154) X dX4_step_154 ?_
                refine V_pz (pc := 155) X dX4_step_155 f_RX4_37 (by first | rfl | assumption | (simp only [*]; done) | omega) (fun b => z_fitI b _) 4 rfl ?_
                rw [c_tk_p4]
                refine V_aload_n (pc := 158) X dX4_step_158 rfl (by first | decide | omega | assumption) ?_
                refine V_dup (pc := 159) X dX4_step_159 (Nat.ne_of_beq_eq_false rfl) ?_
                refine V_gz (pc := 160) X dX4_step_160 f_RX4_31 (by first | rfl | assumption | (simp only [*]; done) | omega) 2 rfl (show _ = p from c_tk_2 _ _) ?_
                refine V_iconst (pc := 163) X dX4_step_163 ?_
                refine V_iadd (pc := 164) X dX4_step_164 ?_
                refine V_pz (pc := 165) X dX4_step_165 f_RX4_31 (by first | rfl | assumption | (simp only [*]; done) | omega) (fun b => z_fitI b _) 2 rfl ?_
                rw [c_tk_p2]
                refine V_vret (st := []) (pc := 168) X hQ dX4_step_168 rfl rfl ?_
                exact ⟨rfl, by rw [etk]⟩
              · skip
                rw [if_pos (show T p = 59 by omega)] at etk
                refine V_iconst (pc := 150) X dX4_step_150 ?_
                refine V_goto (pc := 151) X 155 dX4_step_151 (by decide) ?_
                refine V_pz (pc := 155) X dX4_step_155 f_RX4_37 (by first | rfl | assumption | (simp only [*]; done) | omega) (fun b => z_fitI b _) 4 rfl ?_
                rw [c_tk_p4]
                refine V_aload_n (pc := 158) X dX4_step_158 rfl (by first | decide | omega | assumption) ?_
                refine V_dup (pc := 159) X dX4_step_159 (Nat.ne_of_beq_eq_false rfl) ?_
                refine V_gz (pc := 160) X dX4_step_160 f_RX4_31 (by first | rfl | assumption | (simp only [*]; done) | omega) 2 rfl (show _ = p from c_tk_2 _ _) ?_
                refine V_iconst (pc := 163) X dX4_step_163 ?_
                refine V_iadd (pc := 164) X dX4_step_164 ?_
                refine V_pz (pc := 165) X dX4_step_165 f_RX4_31 (by first | rfl | assumption | (simp only [*]; done) | omega) (fun b => z_fitI b _) 2 rfl ?_
                rw [c_tk_p2]
                refine V_vret (st := []) (pc := 168) X hQ dX4_step_168 rfl rfl ?_
                exact ⟨rfl, by rw [etk]⟩
            · skip
              refine V_aload_n (pc := 114) X dX4_step_114 rfl (by first | decide | omega | assumption) ?_
              refine V_gz (pc := 115) X dX4_step_115 f_RX4_11 (by first | rfl | assumption | (simp only [*]; done) | omega) 0 rfl (show _ = (2 : Int) from by rw [c_tk_slot h (p, p, o, v) (by decide) (by decide) (by decide) (by decide)]; exact r10) ?_
              refine V_aload_n (pc := 118) X dX4_step_118 rfl (by first | decide | omega | assumption) ?_
              refine V_gz (pc := 119) X dX4_step_119 f_RX4_31 (by first | rfl | assumption | (simp only [*]; done) | omega) 2 rfl (show _ = p from c_tk_2 h (p, p, o, v)) ?_
              refine V_iald (pc := 122) X dX4_step_122 (by first | rfl | assumption | (simp only [*]; done) | omega) (by omega) (by omega) (by decide) ?_
              rw [show c_tk h (p, p, o, v) 2 (p) = T (p) from by rw [c_tk_cell h (p, p, o, v) (by decide), r2]]
              refine V_bipush (pc := 123) X dX4_step_123 (by decide) ?_
              refine V_icmp_gt (pc := 125) X 135 dX4_step_125 (by decide) ⟨by omega, by omega⟩ ⟨by omega, by omega⟩ (fun c_125 => ?_) (fun c_125 => ?_)
              · skip
                have eL : isL (T p) = false := decide_eq_false (by omega)
                have eD : isD (T p) = false := decide_eq_false (by omega)
                have etk : t_tok T N n v = (p + 1, p, if T p = 59 then 3 else 4, v) := by
                  unfold t_tok
                  rw [he2]
                  unfold t_e t_k t_v
                  rw [if_neg (show ¬ N ≤ p by omega), if_neg (show ¬ N ≤ p by omega), if_neg (show ¬ N ≤ p by omega), eL, eD]
                  rfl
                refine V_aload_n (pc := 135) X dX4_step_135 rfl (by first | decide | omega | assumption) ?_
                refine V_aload_n (pc := 136) X dX4_step_136 rfl (by first | decide | omega | assumption) ?_
                refine V_gz (pc := 137) X dX4_step_137 f_RX4_11 (by first | rfl | assumption | (simp only [*]; done) | omega) 0 rfl (show _ = (2 : Int) from by rw [c_tk_slot h (p, p, o, v) (by decide) (by decide) (by decide) (by decide)]; exact r10) ?_
                refine V_aload_n (pc := 140) X dX4_step_140 rfl (by first | decide | omega | assumption) ?_
                refine V_gz (pc := 141) X dX4_step_141 f_RX4_31 (by first | rfl | assumption | (simp only [*]; done) | omega) 2 rfl (show _ = p from c_tk_2 h (p, p, o, v)) ?_
                refine V_iald (pc := 144) X dX4_step_144 (by first | rfl | assumption | (simp only [*]; done) | omega) (by omega) (by omega) (by decide) ?_
                rw [show c_tk h (p, p, o, v) 2 (p) = T (p) from by rw [c_tk_cell h (p, p, o, v) (by decide), r2]]
                refine V_bipush (pc := 145) X dX4_step_145 (by decide) ?_
                refine V_icmp_ne (pc := 147) X 154 dX4_step_147 (by decide) ⟨by omega, by omega⟩ ⟨by omega, by omega⟩ (fun c_147 => ?_) (fun c_147 => ?_)
                · skip
                  rw [if_neg (show ¬ T p = 59 by omega)] at etk
                  refine V_iconst (pc := 154) X dX4_step_154 ?_
                  refine V_pz (pc := 155) X dX4_step_155 f_RX4_37 (by first | rfl | assumption | (simp only [*]; done) | omega) (fun b => z_fitI b _) 4 rfl ?_
                  rw [c_tk_p4]
                  refine V_aload_n (pc := 158) X dX4_step_158 rfl (by first | decide | omega | assumption) ?_
                  refine V_dup (pc := 159) X dX4_step_159 (Nat.ne_of_beq_eq_false rfl) ?_
                  refine V_gz (pc := 160) X dX4_step_160 f_RX4_31 (by first | rfl | assumption | (simp only [*]; done) | omega) 2 rfl (show _ = p from c_tk_2 _ _) ?_
                  refine V_iconst (pc := 163) X dX4_step_163 ?_
                  refine V_iadd (pc := 164) X dX4_step_164 ?_
                  refine V_pz (pc := 165) X dX4_step_165 f_RX4_31 (by first | rfl | assumption | (simp only [*]; done) | omega) (fun b => z_fitI b _) 2 rfl ?_
                  rw [c_tk_p2]
                  refine V_vret (st := []) (pc := 168) X hQ dX4_step_168 rfl rfl ?_
                  exact ⟨rfl, by rw [etk]⟩
                · skip
                  rw [if_pos (show T p = 59 by omega)] at etk
                  refine V_iconst (pc := 150) X dX4_step_150 ?_
                  refine V_goto (pc := 151) X 155 dX4_step_151 (by decide) ?_
                  refine V_pz (pc := 155) X dX4_step_155 f_RX4_37 (by first | rfl | assumption | (simp only [*]; done) | omega) (fun b => z_fitI b _) 4 rfl ?_
                  rw [c_tk_p4]
                  refine V_aload_n (pc := 158) X dX4_step_158 rfl (by first | decide | omega | assumption) ?_
                  refine V_dup (pc := 159) X dX4_step_159 (Nat.ne_of_beq_eq_false rfl) ?_
                  refine V_gz (pc := 160) X dX4_step_160 f_RX4_31 (by first | rfl | assumption | (simp only [*]; done) | omega) 2 rfl (show _ = p from c_tk_2 _ _) ?_
                  refine V_iconst (pc := 163) X dX4_step_163 ?_
                  refine V_iadd (pc := 164) X dX4_step_164 ?_
                  refine V_pz (pc := 165) X dX4_step_165 f_RX4_31 (by first | rfl | assumption | (simp only [*]; done) | omega) (fun b => z_fitI b _) 2 rfl ?_
                  rw [c_tk_p2]
                  refine V_vret (st := []) (pc := 168) X hQ dX4_step_168 rfl rfl ?_
                  exact ⟨rfl, by rw [etk]⟩
              · skip
                have eL : isL (T p) = false := decide_eq_false (by omega)
                have eD : isD (T p) = true := decide_eq_true (by omega)
                have etk : t_tok T N n v = (t_go isD T N p, p, if 99 < t_acc T p (t_go isD T N p - p).toNat ∨ (T p = 48 ∧ 1 < t_go isD T N p - p) then 4 else 2, t_acc T p (t_go isD T N p - p).toNat) := by
                  unfold t_tok
                  rw [he2]
                  unfold t_e t_k t_v
                  rw [if_neg (show ¬ N ≤ p by omega), if_neg (show ¬ N ≤ p by omega), if_neg (show ¬ N ≤ p by omega), eL, eD]
                  rfl
                refine V_aload_n (pc := 128) X dX4_step_128 rfl (by first | decide | omega | assumption) ?_
                refine V_CV (pc := 129) X dX4_step_129 oX4_digits l_RX4_96 eX4_digits vX4_digits ⟨Nat.le_of_ble_eq_true rfl, Nat.le_of_ble_eq_true rfl⟩ ⟨rfl, rfl⟩ ⟨Nat.le_of_ble_eq_true rfl, Nat.le_of_ble_eq_true rfl⟩ (ct_X4_digits hR (by omega) (by omega) (decide_eq_true (by omega))) rfl (by first | rfl | assumption | (simp only [*]; done) | omega) (by intro q h; cases h; rfl) rfl (by rfl) (by exact Nat.le_of_ble_eq_true rfl) (fun r h1 hp => ?_)
                obtain ⟨rfl, rfl⟩ := hp
                refine V_goto (pc := 132) X 168 dX4_step_132 (by decide) ?_
                refine V_vret (st := []) (pc := 168) X hQ dX4_step_168 rfl rfl ?_
                exact ⟨rfl, by rw [etk]⟩
          · skip
            refine V_aload_n (pc := 79) X dX4_step_79 rfl (by first | decide | omega | assumption) ?_
            refine V_gz (pc := 80) X dX4_step_80 f_RX4_11 (by first | rfl | assumption | (simp only [*]; done) | omega) 0 rfl (show _ = (2 : Int) from by rw [c_tk_slot h (p, p, o, v) (by decide) (by decide) (by decide) (by decide)]; exact r10) ?_
            refine V_aload_n (pc := 83) X dX4_step_83 rfl (by first | decide | omega | assumption) ?_
            refine V_gz (pc := 84) X dX4_step_84 f_RX4_31 (by first | rfl | assumption | (simp only [*]; done) | omega) 2 rfl (show _ = p from c_tk_2 h (p, p, o, v)) ?_
            refine V_iald (pc := 87) X dX4_step_87 (by first | rfl | assumption | (simp only [*]; done) | omega) (by omega) (by omega) (by decide) ?_
            rw [show c_tk h (p, p, o, v) 2 (p) = T (p) from by rw [c_tk_cell h (p, p, o, v) (by decide), r2]]
            refine V_bipush (pc := 88) X dX4_step_88 (by decide) ?_
            refine V_icmp_gt (pc := 90) X 100 dX4_step_90 (by decide) ⟨by omega, by omega⟩ ⟨by omega, by omega⟩ (fun c_90 => ?_) (fun c_90 => ?_)
            · skip
              refine V_aload_n (pc := 100) X dX4_step_100 rfl (by first | decide | omega | assumption) ?_
              refine V_gz (pc := 101) X dX4_step_101 f_RX4_11 (by first | rfl | assumption | (simp only [*]; done) | omega) 0 rfl (show _ = (2 : Int) from by rw [c_tk_slot h (p, p, o, v) (by decide) (by decide) (by decide) (by decide)]; exact r10) ?_
              refine V_aload_n (pc := 104) X dX4_step_104 rfl (by first | decide | omega | assumption) ?_
              refine V_gz (pc := 105) X dX4_step_105 f_RX4_31 (by first | rfl | assumption | (simp only [*]; done) | omega) 2 rfl (show _ = p from c_tk_2 h (p, p, o, v)) ?_
              refine V_iald (pc := 108) X dX4_step_108 (by first | rfl | assumption | (simp only [*]; done) | omega) (by omega) (by omega) (by decide) ?_
              rw [show c_tk h (p, p, o, v) 2 (p) = T (p) from by rw [c_tk_cell h (p, p, o, v) (by decide), r2]]
              refine V_bipush (pc := 109) X dX4_step_109 (by decide) ?_
              refine V_icmp_lt (pc := 111) X 135 dX4_step_111 (by decide) ⟨by omega, by omega⟩ ⟨by omega, by omega⟩ (fun c_111 => ?_) (fun c_111 => ?_)
              · skip
                have eL : isL (T p) = false := decide_eq_false (by omega)
                have eD : isD (T p) = false := decide_eq_false (by omega)
                have etk : t_tok T N n v = (p + 1, p, if T p = 59 then 3 else 4, v) := by
                  unfold t_tok
                  rw [he2]
                  unfold t_e t_k t_v
                  rw [if_neg (show ¬ N ≤ p by omega), if_neg (show ¬ N ≤ p by omega), if_neg (show ¬ N ≤ p by omega), eL, eD]
                  rfl
                refine V_aload_n (pc := 135) X dX4_step_135 rfl (by first | decide | omega | assumption) ?_
                refine V_aload_n (pc := 136) X dX4_step_136 rfl (by first | decide | omega | assumption) ?_
                refine V_gz (pc := 137) X dX4_step_137 f_RX4_11 (by first | rfl | assumption | (simp only [*]; done) | omega) 0 rfl (show _ = (2 : Int) from by rw [c_tk_slot h (p, p, o, v) (by decide) (by decide) (by decide) (by decide)]; exact r10) ?_
                refine V_aload_n (pc := 140) X dX4_step_140 rfl (by first | decide | omega | assumption) ?_
                refine V_gz (pc := 141) X dX4_step_141 f_RX4_31 (by first | rfl | assumption | (simp only [*]; done) | omega) 2 rfl (show _ = p from c_tk_2 h (p, p, o, v)) ?_
                refine V_iald (pc := 144) X dX4_step_144 (by first | rfl | assumption | (simp only [*]; done) | omega) (by omega) (by omega) (by decide) ?_
                rw [show c_tk h (p, p, o, v) 2 (p) = T (p) from by rw [c_tk_cell h (p, p, o, v) (by decide), r2]]
                refine V_bipush (pc := 145) X dX4_step_145 (by decide) ?_
                refine V_icmp_ne (pc := 147) X 154 dX4_step_147 (by decide) ⟨by omega, by omega⟩ ⟨by omega, by omega⟩ (fun c_147 => ?_) (fun c_147 => ?_)
                · skip
                  rw [if_neg (show ¬ T p = 59 by omega)] at etk
                  refine V_iconst (pc := 154) X dX4_step_154 ?_
                  refine V_pz (pc := 155) X dX4_step_155 f_RX4_37 (by first | rfl | assumption | (simp only [*]; done) | omega) (fun b => z_fitI b _) 4 rfl ?_
                  rw [c_tk_p4]
                  refine V_aload_n (pc := 158) X dX4_step_158 rfl (by first | decide | omega | assumption) ?_
                  refine V_dup (pc := 159) X dX4_step_159 (Nat.ne_of_beq_eq_false rfl) ?_
                  refine V_gz (pc := 160) X dX4_step_160 f_RX4_31 (by first | rfl | assumption | (simp only [*]; done) | omega) 2 rfl (show _ = p from c_tk_2 _ _) ?_
                  refine V_iconst (pc := 163) X dX4_step_163 ?_
                  refine V_iadd (pc := 164) X dX4_step_164 ?_
                  refine V_pz (pc := 165) X dX4_step_165 f_RX4_31 (by first | rfl | assumption | (simp only [*]; done) | omega) (fun b => z_fitI b _) 2 rfl ?_
                  rw [c_tk_p2]
                  refine V_vret (st := []) (pc := 168) X hQ dX4_step_168 rfl rfl ?_
                  exact ⟨rfl, by rw [etk]⟩
                · skip
                  rw [if_pos (show T p = 59 by omega)] at etk
                  refine V_iconst (pc := 150) X dX4_step_150 ?_
                  refine V_goto (pc := 151) X 155 dX4_step_151 (by decide) ?_
                  refine V_pz (pc := 155) X dX4_step_155 f_RX4_37 (by first | rfl | assumption | (simp only [*]; done) | omega) (fun b => z_fitI b _) 4 rfl ?_
                  rw [c_tk_p4]
                  refine V_aload_n (pc := 158) X dX4_step_158 rfl (by first | decide | omega | assumption) ?_
                  refine V_dup (pc := 159) X dX4_step_159 (Nat.ne_of_beq_eq_false rfl) ?_
                  refine V_gz (pc := 160) X dX4_step_160 f_RX4_31 (by first | rfl | assumption | (simp only [*]; done) | omega) 2 rfl (show _ = p from c_tk_2 _ _) ?_
                  refine V_iconst (pc := 163) X dX4_step_163 ?_
                  refine V_iadd (pc := 164) X dX4_step_164 ?_
                  refine V_pz (pc := 165) X dX4_step_165 f_RX4_31 (by first | rfl | assumption | (simp only [*]; done) | omega) (fun b => z_fitI b _) 2 rfl ?_
                  rw [c_tk_p2]
                  refine V_vret (st := []) (pc := 168) X hQ dX4_step_168 rfl rfl ?_
                  exact ⟨rfl, by rw [etk]⟩
              · skip
                refine V_aload_n (pc := 114) X dX4_step_114 rfl (by first | decide | omega | assumption) ?_
                refine V_gz (pc := 115) X dX4_step_115 f_RX4_11 (by first | rfl | assumption | (simp only [*]; done) | omega) 0 rfl (show _ = (2 : Int) from by rw [c_tk_slot h (p, p, o, v) (by decide) (by decide) (by decide) (by decide)]; exact r10) ?_
                refine V_aload_n (pc := 118) X dX4_step_118 rfl (by first | decide | omega | assumption) ?_
                refine V_gz (pc := 119) X dX4_step_119 f_RX4_31 (by first | rfl | assumption | (simp only [*]; done) | omega) 2 rfl (show _ = p from c_tk_2 h (p, p, o, v)) ?_
                refine V_iald (pc := 122) X dX4_step_122 (by first | rfl | assumption | (simp only [*]; done) | omega) (by omega) (by omega) (by decide) ?_
                rw [show c_tk h (p, p, o, v) 2 (p) = T (p) from by rw [c_tk_cell h (p, p, o, v) (by decide), r2]]
                refine V_bipush (pc := 123) X dX4_step_123 (by decide) ?_
                refine V_icmp_gt (pc := 125) X 135 dX4_step_125 (by decide) ⟨by omega, by omega⟩ ⟨by omega, by omega⟩ (fun c_125 => ?_) (fun c_125 => ?_)
                · skip
                  have eL : isL (T p) = false := decide_eq_false (by omega)
                  have eD : isD (T p) = false := decide_eq_false (by omega)
                  have etk : t_tok T N n v = (p + 1, p, if T p = 59 then 3 else 4, v) := by
                    unfold t_tok
                    rw [he2]
                    unfold t_e t_k t_v
                    rw [if_neg (show ¬ N ≤ p by omega), if_neg (show ¬ N ≤ p by omega), if_neg (show ¬ N ≤ p by omega), eL, eD]
                    rfl
                  refine V_aload_n (pc := 135) X dX4_step_135 rfl (by first | decide | omega | assumption) ?_
                  refine V_aload_n (pc := 136) X dX4_step_136 rfl (by first | decide | omega | assumption) ?_
                  refine V_gz (pc := 137) X dX4_step_137 f_RX4_11 (by first | rfl | assumption | (simp only [*]; done) | omega) 0 rfl (show _ = (2 : Int) from by rw [c_tk_slot h (p, p, o, v) (by decide) (by decide) (by decide) (by decide)]; exact r10) ?_
                  refine V_aload_n (pc := 140) X dX4_step_140 rfl (by first | decide | omega | assumption) ?_
                  refine V_gz (pc := 141) X dX4_step_141 f_RX4_31 (by first | rfl | assumption | (simp only [*]; done) | omega) 2 rfl (show _ = p from c_tk_2 h (p, p, o, v)) ?_
                  refine V_iald (pc := 144) X dX4_step_144 (by first | rfl | assumption | (simp only [*]; done) | omega) (by omega) (by omega) (by decide) ?_
                  rw [show c_tk h (p, p, o, v) 2 (p) = T (p) from by rw [c_tk_cell h (p, p, o, v) (by decide), r2]]
                  refine V_bipush (pc := 145) X dX4_step_145 (by decide) ?_
                  refine V_icmp_ne (pc := 147) X 154 dX4_step_147 (by decide) ⟨by omega, by omega⟩ ⟨by omega, by omega⟩ (fun c_147 => ?_) (fun c_147 => ?_)
                  · skip
                    rw [if_neg (show ¬ T p = 59 by omega)] at etk
                    refine V_iconst (pc := 154) X dX4_step_154 ?_
                    refine V_pz (pc := 155) X dX4_step_155 f_RX4_37 (by first | rfl | assumption | (simp only [*]; done) | omega) (fun b => z_fitI b _) 4 rfl ?_
                    rw [c_tk_p4]
                    refine V_aload_n (pc := 158) X dX4_step_158 rfl (by first | decide | omega | assumption) ?_
                    refine V_dup (pc := 159) X dX4_step_159 (Nat.ne_of_beq_eq_false rfl) ?_
                    refine V_gz (pc := 160) X dX4_step_160 f_RX4_31 (by first | rfl | assumption | (simp only [*]; done) | omega) 2 rfl (show _ = p from c_tk_2 _ _) ?_
                    refine V_iconst (pc := 163) X dX4_step_163 ?_
                    refine V_iadd (pc := 164) X dX4_step_164 ?_
                    refine V_pz (pc := 165) X dX4_step_165 f_RX4_31 (by first | rfl | assumption | (simp only [*]; done) | omega) (fun b => z_fitI b _) 2 rfl ?_
                    rw [c_tk_p2]
                    refine V_vret (st := []) (pc := 168) X hQ dX4_step_168 rfl rfl ?_
                    exact ⟨rfl, by rw [etk]⟩
                  · skip
                    rw [if_pos (show T p = 59 by omega)] at etk
                    refine V_iconst (pc := 150) X dX4_step_150 ?_
                    refine V_goto (pc := 151) X 155 dX4_step_151 (by decide) ?_
                    refine V_pz (pc := 155) X dX4_step_155 f_RX4_37 (by first | rfl | assumption | (simp only [*]; done) | omega) (fun b => z_fitI b _) 4 rfl ?_
                    rw [c_tk_p4]
                    refine V_aload_n (pc := 158) X dX4_step_158 rfl (by first | decide | omega | assumption) ?_
                    refine V_dup (pc := 159) X dX4_step_159 (Nat.ne_of_beq_eq_false rfl) ?_
                    refine V_gz (pc := 160) X dX4_step_160 f_RX4_31 (by first | rfl | assumption | (simp only [*]; done) | omega) 2 rfl (show _ = p from c_tk_2 _ _) ?_
                    refine V_iconst (pc := 163) X dX4_step_163 ?_
                    refine V_iadd (pc := 164) X dX4_step_164 ?_
                    refine V_pz (pc := 165) X dX4_step_165 f_RX4_31 (by first | rfl | assumption | (simp only [*]; done) | omega) (fun b => z_fitI b _) 2 rfl ?_
                    rw [c_tk_p2]
                    refine V_vret (st := []) (pc := 168) X hQ dX4_step_168 rfl rfl ?_
                    exact ⟨rfl, by rw [etk]⟩
                · skip
                  have eL : isL (T p) = false := decide_eq_false (by omega)
                  have eD : isD (T p) = true := decide_eq_true (by omega)
                  have etk : t_tok T N n v = (t_go isD T N p, p, if 99 < t_acc T p (t_go isD T N p - p).toNat ∨ (T p = 48 ∧ 1 < t_go isD T N p - p) then 4 else 2, t_acc T p (t_go isD T N p - p).toNat) := by
                    unfold t_tok
                    rw [he2]
                    unfold t_e t_k t_v
                    rw [if_neg (show ¬ N ≤ p by omega), if_neg (show ¬ N ≤ p by omega), if_neg (show ¬ N ≤ p by omega), eL, eD]
                    rfl
                  refine V_aload_n (pc := 128) X dX4_step_128 rfl (by first | decide | omega | assumption) ?_
                  refine V_CV (pc := 129) X dX4_step_129 oX4_digits l_RX4_96 eX4_digits vX4_digits ⟨Nat.le_of_ble_eq_true rfl, Nat.le_of_ble_eq_true rfl⟩ ⟨rfl, rfl⟩ ⟨Nat.le_of_ble_eq_true rfl, Nat.le_of_ble_eq_true rfl⟩ (ct_X4_digits hR (by omega) (by omega) (decide_eq_true (by omega))) rfl (by first | rfl | assumption | (simp only [*]; done) | omega) (by intro q h; cases h; rfl) rfl (by rfl) (by exact Nat.le_of_ble_eq_true rfl) (fun r h1 hp => ?_)
                  obtain ⟨rfl, rfl⟩ := hp
                  refine V_goto (pc := 132) X 168 dX4_step_132 (by decide) ?_
                  refine V_vret (st := []) (pc := 168) X hQ dX4_step_168 rfl rfl ?_
                  exact ⟨rfl, by rw [etk]⟩
            · skip
              have eL : isL (T p) = true := decide_eq_true (by omega)
              have etk : t_tok T N n v = (t_go isL T N p, p, if t_go isL T N p - p = 1 then 1 else 4, T p) := by
                unfold t_tok
                rw [he2]
                unfold t_e t_k t_v
                rw [if_neg (show ¬ N ≤ p by omega), if_neg (show ¬ N ≤ p by omega), if_neg (show ¬ N ≤ p by omega), eL]
                rfl
              refine V_aload_n (pc := 93) X dX4_step_93 rfl (by first | decide | omega | assumption) ?_
              refine V_CV (pc := 94) X dX4_step_94 oX4_letters l_RX4_93 eX4_letters vX4_letters ⟨Nat.le_of_ble_eq_true rfl, Nat.le_of_ble_eq_true rfl⟩ ⟨rfl, rfl⟩ ⟨Nat.le_of_ble_eq_true rfl, Nat.le_of_ble_eq_true rfl⟩ (ct_X4_letters hR (by omega) (by omega)) rfl (by first | rfl | assumption | (simp only [*]; done) | omega) (by intro q h; cases h; rfl) rfl (by rfl) (by exact Nat.le_of_ble_eq_true rfl) (fun r h1 hp => ?_)
              obtain ⟨rfl, rfl⟩ := hp
              refine V_goto (pc := 97) X 168 dX4_step_97 (by decide) ?_
              refine V_vret (st := []) (pc := 168) X hQ dX4_step_168 rfl rfl ?_
              exact ⟨rfl, by rw [etk]⟩
        · skip
          have etk : t_tok T N n v = (p, p, 0, v) := by
            unfold t_tok
            rw [he2]
            unfold t_e t_k t_v
            rw [if_pos (show N ≤ p by omega), if_pos (show N ≤ p by omega), if_pos (show N ≤ p by omega)]
          refine V_aload_n (pc := 57) X dX4_step_57 rfl (by first | decide | omega | assumption) ?_
          refine V_iconst (pc := 58) X dX4_step_58 ?_
          refine V_pz (pc := 59) X dX4_step_59 f_RX4_37 (by first | rfl | assumption | (simp only [*]; done) | omega) (fun b => z_fitI b _) 4 rfl ?_
          rw [c_tk_p4]
          refine V_goto (pc := 62) X 168 dX4_step_62 (by decide) ?_
          refine V_vret (st := []) (pc := 168) X hQ dX4_step_168 rfl rfl ?_
          exact ⟨rfl, by rw [etk]⟩
      · skip
        refine V_aload_n (pc := 11) X dX4_step_11 rfl (by first | decide | omega | assumption) ?_
        refine V_gz (pc := 12) X dX4_step_12 f_RX4_11 (by first | rfl | assumption | (simp only [*]; done) | omega) 0 rfl (show _ = (2 : Int) from by rw [c_tk_slot h (p, s0, o, v) (by decide) (by decide) (by decide) (by decide)]; exact r10) ?_
        refine V_aload_n (pc := 15) X dX4_step_15 rfl (by first | decide | omega | assumption) ?_
        refine V_gz (pc := 16) X dX4_step_16 f_RX4_31 (by first | rfl | assumption | (simp only [*]; done) | omega) 2 rfl (show _ = p from c_tk_2 h (p, s0, o, v)) ?_
        have hTp := hT p (by omega) (by omega)
        refine V_iald (pc := 19) X dX4_step_19 (by first | rfl | assumption | (simp only [*]; done) | omega) (by omega) (by omega) (by decide) ?_
        rw [show c_tk h (p, s0, o, v) 2 (p) = T (p) from by rw [c_tk_cell h (p, s0, o, v) (by decide), r2]]
        refine V_bipush (pc := 20) X dX4_step_20 (by decide) ?_
        refine V_icmp_ne (pc := 22) X 38 dX4_step_22 (by decide) ⟨by omega, by omega⟩ ⟨by omega, by omega⟩ (fun c_22 => ?_) (fun c_22 => ?_)
        · skip
          have he2 : t_go isB T N n = p := by
            rw [← he]
            first
              | exact t_go_no (Or.inl c_8)
              | exact t_go_no (Or.inr (decide_eq_false c_22))
          refine V_aload_n (pc := 38) X dX4_step_38 rfl (by first | decide | omega | assumption) ?_
          refine V_aload_n (pc := 39) X dX4_step_39 rfl (by first | decide | omega | assumption) ?_
          refine V_gz (pc := 40) X dX4_step_40 f_RX4_31 (by first | rfl | assumption | (simp only [*]; done) | omega) 2 rfl (show _ = p from c_tk_2 h (p, s0, o, v)) ?_
          refine V_pz (pc := 43) X dX4_step_43 f_RX4_44 (by first | rfl | assumption | (simp only [*]; done) | omega) (fun b => z_fitI b _) 3 rfl ?_
          rw [c_tk_p3]
          refine V_aload_n (pc := 46) X dX4_step_46 rfl (by first | decide | omega | assumption) ?_
          refine V_gz (pc := 47) X dX4_step_47 f_RX4_31 (by first | rfl | assumption | (simp only [*]; done) | omega) 2 rfl (show _ = p from c_tk_2 h (p, p, o, v)) ?_
          refine V_aload_n (pc := 50) X dX4_step_50 rfl (by first | decide | omega | assumption) ?_
          refine V_gz (pc := 51) X dX4_step_51 f_RX4_15 (by first | rfl | assumption | (simp only [*]; done) | omega) 1 rfl (show _ = N from by rw [c_tk_slot h (p, p, o, v) (by decide) (by decide) (by decide) (by decide)]; exact r11) ?_
          refine V_icmp_lt (pc := 54) X 65 dX4_step_54 (by decide) ⟨by omega, by omega⟩ ⟨by omega, by omega⟩ (fun c_54 => ?_) (fun c_54 => ?_)
          · skip
            have hTs := hT p (by omega) (by omega)
            refine V_aload_n (pc := 65) X dX4_step_65 rfl (by first | decide | omega | assumption) ?_
            refine V_gz (pc := 66) X dX4_step_66 f_RX4_11 (by first | rfl | assumption | (simp only [*]; done) | omega) 0 rfl (show _ = (2 : Int) from by rw [c_tk_slot h (p, p, o, v) (by decide) (by decide) (by decide) (by decide)]; exact r10) ?_
            refine V_aload_n (pc := 69) X dX4_step_69 rfl (by first | decide | omega | assumption) ?_
            refine V_gz (pc := 70) X dX4_step_70 f_RX4_31 (by first | rfl | assumption | (simp only [*]; done) | omega) 2 rfl (show _ = p from c_tk_2 h (p, p, o, v)) ?_
            refine V_iald (pc := 73) X dX4_step_73 (by first | rfl | assumption | (simp only [*]; done) | omega) (by omega) (by omega) (by decide) ?_
            rw [show c_tk h (p, p, o, v) 2 (p) = T (p) from by rw [c_tk_cell h (p, p, o, v) (by decide), r2]]
            refine V_bipush (pc := 74) X dX4_step_74 (by decide) ?_
            refine V_icmp_lt (pc := 76) X 100 dX4_step_76 (by decide) ⟨by omega, by omega⟩ ⟨by omega, by omega⟩ (fun c_76 => ?_) (fun c_76 => ?_)
            · skip
              refine V_aload_n (pc := 100) X dX4_step_100 rfl (by first | decide | omega | assumption) ?_
              refine V_gz (pc := 101) X dX4_step_101 f_RX4_11 (by first | rfl | assumption | (simp only [*]; done) | omega) 0 rfl (show _ = (2 : Int) from by rw [c_tk_slot h (p, p, o, v) (by decide) (by decide) (by decide) (by decide)]; exact r10) ?_
              refine V_aload_n (pc := 104) X dX4_step_104 rfl (by first | decide | omega | assumption) ?_
              refine V_gz (pc := 105) X dX4_step_105 f_RX4_31 (by first | rfl | assumption | (simp only [*]; done) | omega) 2 rfl (show _ = p from c_tk_2 h (p, p, o, v)) ?_
              refine V_iald (pc := 108) X dX4_step_108 (by first | rfl | assumption | (simp only [*]; done) | omega) (by omega) (by omega) (by decide) ?_
              rw [show c_tk h (p, p, o, v) 2 (p) = T (p) from by rw [c_tk_cell h (p, p, o, v) (by decide), r2]]
              refine V_bipush (pc := 109) X dX4_step_109 (by decide) ?_
              refine V_icmp_lt (pc := 111) X 135 dX4_step_111 (by decide) ⟨by omega, by omega⟩ ⟨by omega, by omega⟩ (fun c_111 => ?_) (fun c_111 => ?_)
              · skip
                have eL : isL (T p) = false := decide_eq_false (by omega)
                have eD : isD (T p) = false := decide_eq_false (by omega)
                have etk : t_tok T N n v = (p + 1, p, if T p = 59 then 3 else 4, v) := by
                  unfold t_tok
                  rw [he2]
                  unfold t_e t_k t_v
                  rw [if_neg (show ¬ N ≤ p by omega), if_neg (show ¬ N ≤ p by omega), if_neg (show ¬ N ≤ p by omega), eL, eD]
                  rfl
                refine V_aload_n (pc := 135) X dX4_step_135 rfl (by first | decide | omega | assumption) ?_
                refine V_aload_n (pc := 136) X dX4_step_136 rfl (by first | decide | omega | assumption) ?_
                refine V_gz (pc := 137) X dX4_step_137 f_RX4_11 (by first | rfl | assumption | (simp only [*]; done) | omega) 0 rfl (show _ = (2 : Int) from by rw [c_tk_slot h (p, p, o, v) (by decide) (by decide) (by decide) (by decide)]; exact r10) ?_
                refine V_aload_n (pc := 140) X dX4_step_140 rfl (by first | decide | omega | assumption) ?_
                refine V_gz (pc := 141) X dX4_step_141 f_RX4_31 (by first | rfl | assumption | (simp only [*]; done) | omega) 2 rfl (show _ = p from c_tk_2 h (p, p, o, v)) ?_
                refine V_iald (pc := 144) X dX4_step_144 (by first | rfl | assumption | (simp only [*]; done) | omega) (by omega) (by omega) (by decide) ?_
                rw [show c_tk h (p, p, o, v) 2 (p) = T (p) from by rw [c_tk_cell h (p, p, o, v) (by decide), r2]]
                refine V_bipush (pc := 145) X dX4_step_145 (by decide) ?_
                refine V_icmp_ne (pc := 147) X 154 dX4_step_147 (by decide) ⟨by omega, by omega⟩ ⟨by omega, by omega⟩ (fun c_147 => ?_) (fun c_147 => ?_)
                · skip
                  rw [if_neg (show ¬ T p = 59 by omega)] at etk
                  refine V_iconst (pc := 154) X dX4_step_154 ?_
                  refine V_pz (pc := 155) X dX4_step_155 f_RX4_37 (by first | rfl | assumption | (simp only [*]; done) | omega) (fun b => z_fitI b _) 4 rfl ?_
                  rw [c_tk_p4]
                  refine V_aload_n (pc := 158) X dX4_step_158 rfl (by first | decide | omega | assumption) ?_
                  refine V_dup (pc := 159) X dX4_step_159 (Nat.ne_of_beq_eq_false rfl) ?_
                  refine V_gz (pc := 160) X dX4_step_160 f_RX4_31 (by first | rfl | assumption | (simp only [*]; done) | omega) 2 rfl (show _ = p from c_tk_2 _ _) ?_
                  refine V_iconst (pc := 163) X dX4_step_163 ?_
                  refine V_iadd (pc := 164) X dX4_step_164 ?_
                  refine V_pz (pc := 165) X dX4_step_165 f_RX4_31 (by first | rfl | assumption | (simp only [*]; done) | omega) (fun b => z_fitI b _) 2 rfl ?_
                  rw [c_tk_p2]
                  refine V_vret (st := []) (pc := 168) X hQ dX4_step_168 rfl rfl ?_
                  exact ⟨rfl, by rw [etk]⟩
                · skip
                  rw [if_pos (show T p = 59 by omega)] at etk
                  refine V_iconst (pc := 150) X dX4_step_150 ?_
                  refine V_goto (pc := 151) X 155 dX4_step_151 (by decide) ?_
                  refine V_pz (pc := 155) X dX4_step_155 f_RX4_37 (by first | rfl | assumption | (simp only [*]; done) | omega) (fun b => z_fitI b _) 4 rfl ?_
                  rw [c_tk_p4]
                  refine V_aload_n (pc := 158) X dX4_step_158 rfl (by first | decide | omega | assumption) ?_
                  refine V_dup (pc := 159) X dX4_step_159 (Nat.ne_of_beq_eq_false rfl) ?_
                  refine V_gz (pc := 160) X dX4_step_160 f_RX4_31 (by first | rfl | assumption | (simp only [*]; done) | omega) 2 rfl (show _ = p from c_tk_2 _ _) ?_
                  refine V_iconst (pc := 163) X dX4_step_163 ?_
                  refine V_iadd (pc := 164) X dX4_step_164 ?_
                  refine V_pz (pc := 165) X dX4_step_165 f_RX4_31 (by first | rfl | assumption | (simp only [*]; done) | omega) (fun b => z_fitI b _) 2 rfl ?_
                  rw [c_tk_p2]
                  refine V_vret (st := []) (pc := 168) X hQ dX4_step_168 rfl rfl ?_
                  exact ⟨rfl, by rw [etk]⟩
              · skip
                refine V_aload_n (pc := 114) X dX4_step_114 rfl (by first | decide | omega | assumption) ?_
                refine V_gz (pc := 115) X dX4_step_115 f_RX4_11 (by first | rfl | assumption | (simp only [*]; done) | omega) 0 rfl (show _ = (2 : Int) from by rw [c_tk_slot h (p, p, o, v) (by decide) (by decide) (by decide) (by decide)]; exact r10) ?_
                refine V_aload_n (pc := 118) X dX4_step_118 rfl (by first | decide | omega | assumption) ?_
                refine V_gz (pc := 119) X dX4_step_119 f_RX4_31 (by first | rfl | assumption | (simp only [*]; done) | omega) 2 rfl (show _ = p from c_tk_2 h (p, p, o, v)) ?_
                refine V_iald (pc := 122) X dX4_step_122 (by first | rfl | assumption | (simp only [*]; done) | omega) (by omega) (by omega) (by decide) ?_
                rw [show c_tk h (p, p, o, v) 2 (p) = T (p) from by rw [c_tk_cell h (p, p, o, v) (by decide), r2]]
                refine V_bipush (pc := 123) X dX4_step_123 (by decide) ?_
                refine V_icmp_gt (pc := 125) X 135 dX4_step_125 (by decide) ⟨by omega, by omega⟩ ⟨by omega, by omega⟩ (fun c_125 => ?_) (fun c_125 => ?_)
                · skip
                  have eL : isL (T p) = false := decide_eq_false (by omega)
                  have eD : isD (T p) = false := decide_eq_false (by omega)
                  have etk : t_tok T N n v = (p + 1, p, if T p = 59 then 3 else 4, v) := by
                    unfold t_tok
                    rw [he2]
                    unfold t_e t_k t_v
                    rw [if_neg (show ¬ N ≤ p by omega), if_neg (show ¬ N ≤ p by omega), if_neg (show ¬ N ≤ p by omega), eL, eD]
                    rfl
                  refine V_aload_n (pc := 135) X dX4_step_135 rfl (by first | decide | omega | assumption) ?_
                  refine V_aload_n (pc := 136) X dX4_step_136 rfl (by first | decide | omega | assumption) ?_
                  refine V_gz (pc := 137) X dX4_step_137 f_RX4_11 (by first | rfl | assumption | (simp only [*]; done) | omega) 0 rfl (show _ = (2 : Int) from by rw [c_tk_slot h (p, p, o, v) (by decide) (by decide) (by decide) (by decide)]; exact r10) ?_
                  refine V_aload_n (pc := 140) X dX4_step_140 rfl (by first | decide | omega | assumption) ?_
                  refine V_gz (pc := 141) X dX4_step_141 f_RX4_31 (by first | rfl | assumption | (simp only [*]; done) | omega) 2 rfl (show _ = p from c_tk_2 h (p, p, o, v)) ?_
                  refine V_iald (pc := 144) X dX4_step_144 (by first | rfl | assumption | (simp only [*]; done) | omega) (by omega) (by omega) (by decide) ?_
                  rw [show c_tk h (p, p, o, v) 2 (p) = T (p) from by rw [c_tk_cell h (p, p, o, v) (by decide), r2]]
                  refine V_bipush (pc := 145) X dX4_step_145 (by decide) ?_
                  refine V_icmp_ne (pc := 147) X 154 dX4_step_147 (by decide) ⟨by omega, by omega⟩ ⟨by omega, by omega⟩ (fun c_147 => ?_) (fun c_147 => ?_)
                  · skip
                    rw [if_neg (show ¬ T p = 59 by omega)] at etk
                    refine V_iconst (pc := 154) X dX4_step_154 ?_
                    refine V_pz (pc := 155) X dX4_step_155 f_RX4_37 (by first | rfl | assumption | (simp only [*]; done) | omega) (fun b => z_fitI b _) 4 rfl ?_
                    rw [c_tk_p4]
                    refine V_aload_n (pc := 158) X dX4_step_158 rfl (by first | decide | omega | assumption) ?_
                    refine V_dup (pc := 159) X dX4_step_159 (Nat.ne_of_beq_eq_false rfl) ?_
                    refine V_gz (pc := 160) X dX4_step_160 f_RX4_31 (by first | rfl | assumption | (simp only [*]; done) | omega) 2 rfl (show _ = p from c_tk_2 _ _) ?_
                    refine V_iconst (pc := 163) X dX4_step_163 ?_
                    refine V_iadd (pc := 164) X dX4_step_164 ?_
                    refine V_pz (pc := 165) X dX4_step_165 f_RX4_31 (by first | rfl | assumption | (simp only [*]; done) | omega) (fun b => z_fitI b _) 2 rfl ?_
                    rw [c_tk_p2]
                    refine V_vret (st := []) (pc := 168) X hQ dX4_step_168 rfl rfl ?_
                    exact ⟨rfl, by rw [etk]⟩
                  · skip
                    rw [if_pos (show T p = 59 by omega)] at etk
                    refine V_iconst (pc := 150) X dX4_step_150 ?_
                    refine V_goto (pc := 151) X 155 dX4_step_151 (by decide) ?_
                    refine V_pz (pc := 155) X dX4_step_155 f_RX4_37 (by first | rfl | assumption | (simp only [*]; done) | omega) (fun b => z_fitI b _) 4 rfl ?_
                    rw [c_tk_p4]
                    refine V_aload_n (pc := 158) X dX4_step_158 rfl (by first | decide | omega | assumption) ?_
                    refine V_dup (pc := 159) X dX4_step_159 (Nat.ne_of_beq_eq_false rfl) ?_
                    refine V_gz (pc := 160) X dX4_step_160 f_RX4_31 (by first | rfl | assumption | (simp only [*]; done) | omega) 2 rfl (show _ = p from c_tk_2 _ _) ?_
                    refine V_iconst (pc := 163) X dX4_step_163 ?_
                    refine V_iadd (pc := 164) X dX4_step_164 ?_
                    refine V_pz (pc := 165) X dX4_step_165 f_RX4_31 (by first | rfl | assumption | (simp only [*]; done) | omega) (fun b => z_fitI b _) 2 rfl ?_
                    rw [c_tk_p2]
                    refine V_vret (st := []) (pc := 168) X hQ dX4_step_168 rfl rfl ?_
                    exact ⟨rfl, by rw [etk]⟩
                · skip
                  have eL : isL (T p) = false := decide_eq_false (by omega)
                  have eD : isD (T p) = true := decide_eq_true (by omega)
                  have etk : t_tok T N n v = (t_go isD T N p, p, if 99 < t_acc T p (t_go isD T N p - p).toNat ∨ (T p = 48 ∧ 1 < t_go isD T N p - p) then 4 else 2, t_acc T p (t_go isD T N p - p).toNat) := by
                    unfold t_tok
                    rw [he2]
                    unfold t_e t_k t_v
                    rw [if_neg (show ¬ N ≤ p by omega), if_neg (show ¬ N ≤ p by omega), if_neg (show ¬ N ≤ p by omega), eL, eD]
                    rfl
                  refine V_aload_n (pc := 128) X dX4_step_128 rfl (by first | decide | omega | assumption) ?_
                  refine V_CV (pc := 129) X dX4_step_129 oX4_digits l_RX4_96 eX4_digits vX4_digits ⟨Nat.le_of_ble_eq_true rfl, Nat.le_of_ble_eq_true rfl⟩ ⟨rfl, rfl⟩ ⟨Nat.le_of_ble_eq_true rfl, Nat.le_of_ble_eq_true rfl⟩ (ct_X4_digits hR (by omega) (by omega) (decide_eq_true (by omega))) rfl (by first | rfl | assumption | (simp only [*]; done) | omega) (by intro q h; cases h; rfl) rfl (by rfl) (by exact Nat.le_of_ble_eq_true rfl) (fun r h1 hp => ?_)
                  obtain ⟨rfl, rfl⟩ := hp
                  refine V_goto (pc := 132) X 168 dX4_step_132 (by decide) ?_
                  refine V_vret (st := []) (pc := 168) X hQ dX4_step_168 rfl rfl ?_
                  exact ⟨rfl, by rw [etk]⟩
            · skip
              refine V_aload_n (pc := 79) X dX4_step_79 rfl (by first | decide | omega | assumption) ?_
              refine V_gz (pc := 80) X dX4_step_80 f_RX4_11 (by first | rfl | assumption | (simp only [*]; done) | omega) 0 rfl (show _ = (2 : Int) from by rw [c_tk_slot h (p, p, o, v) (by decide) (by decide) (by decide) (by decide)]; exact r10) ?_
              refine V_aload_n (pc := 83) X dX4_step_83 rfl (by first | decide | omega | assumption) ?_
              refine V_gz (pc := 84) X dX4_step_84 f_RX4_31 (by first | rfl | assumption | (simp only [*]; done) | omega) 2 rfl (show _ = p from c_tk_2 h (p, p, o, v)) ?_
              refine V_iald (pc := 87) X dX4_step_87 (by first | rfl | assumption | (simp only [*]; done) | omega) (by omega) (by omega) (by decide) ?_
              rw [show c_tk h (p, p, o, v) 2 (p) = T (p) from by rw [c_tk_cell h (p, p, o, v) (by decide), r2]]
              refine V_bipush (pc := 88) X dX4_step_88 (by decide) ?_
              refine V_icmp_gt (pc := 90) X 100 dX4_step_90 (by decide) ⟨by omega, by omega⟩ ⟨by omega, by omega⟩ (fun c_90 => ?_) (fun c_90 => ?_)
              · skip
                refine V_aload_n (pc := 100) X dX4_step_100 rfl (by first | decide | omega | assumption) ?_
                refine V_gz (pc := 101) X dX4_step_101 f_RX4_11 (by first | rfl | assumption | (simp only [*]; done) | omega) 0 rfl (show _ = (2 : Int) from by rw [c_tk_slot h (p, p, o, v) (by decide) (by decide) (by decide) (by decide)]; exact r10) ?_
                refine V_aload_n (pc := 104) X dX4_step_104 rfl (by first | decide | omega | assumption) ?_
                refine V_gz (pc := 105) X dX4_step_105 f_RX4_31 (by first | rfl | assumption | (simp only [*]; done) | omega) 2 rfl (show _ = p from c_tk_2 h (p, p, o, v)) ?_
                refine V_iald (pc := 108) X dX4_step_108 (by first | rfl | assumption | (simp only [*]; done) | omega) (by omega) (by omega) (by decide) ?_
                rw [show c_tk h (p, p, o, v) 2 (p) = T (p) from by rw [c_tk_cell h (p, p, o, v) (by decide), r2]]
                refine V_bipush (pc := 109) X dX4_step_109 (by decide) ?_
                refine V_icmp_lt (pc := 111) X 135 dX4_step_111 (by decide) ⟨by omega, by omega⟩ ⟨by omega, by omega⟩ (fun c_111 => ?_) (fun c_111 => ?_)
                · skip
                  have eL : isL (T p) = false := decide_eq_false (by omega)
                  have eD : isD (T p) = false := decide_eq_false (by omega)
                  have etk : t_tok T N n v = (p + 1, p, if T p = 59 then 3 else 4, v) := by
                    unfold t_tok
                    rw [he2]
                    unfold t_e t_k t_v
                    rw [if_neg (show ¬ N ≤ p by omega), if_neg (show ¬ N ≤ p by omega), if_neg (show ¬ N ≤ p by omega), eL, eD]
                    rfl
                  refine V_aload_n (pc := 135) X dX4_step_135 rfl (by first | decide | omega | assumption) ?_
                  refine V_aload_n (pc := 136) X dX4_step_136 rfl (by first | decide | omega | assumption) ?_
                  refine V_gz (pc := 137) X dX4_step_137 f_RX4_11 (by first | rfl | assumption | (simp only [*]; done) | omega) 0 rfl (show _ = (2 : Int) from by rw [c_tk_slot h (p, p, o, v) (by decide) (by decide) (by decide) (by decide)]; exact r10) ?_
                  refine V_aload_n (pc := 140) X dX4_step_140 rfl (by first | decide | omega | assumption) ?_
                  refine V_gz (pc := 141) X dX4_step_141 f_RX4_31 (by first | rfl | assumption | (simp only [*]; done) | omega) 2 rfl (show _ = p from c_tk_2 h (p, p, o, v)) ?_
                  refine V_iald (pc := 144) X dX4_step_144 (by first | rfl | assumption | (simp only [*]; done) | omega) (by omega) (by omega) (by decide) ?_
                  rw [show c_tk h (p, p, o, v) 2 (p) = T (p) from by rw [c_tk_cell h (p, p, o, v) (by decide), r2]]
                  refine V_bipush (pc := 145) X dX4_step_145 (by decide) ?_
                  refine V_icmp_ne (pc := 147) X 154 dX4_step_147 (by decide) ⟨by omega, by omega⟩ ⟨by omega, by omega⟩ (fun c_147 => ?_) (fun c_147 => ?_)
                  · skip
                    rw [if_neg (show ¬ T p = 59 by omega)] at etk
                    refine V_iconst (pc := 154) X dX4_step_154 ?_
                    refine V_pz (pc := 155) X dX4_step_155 f_RX4_37 (by first | rfl | assumption | (simp only [*]; done) | omega) (fun b => z_fitI b _) 4 rfl ?_
                    rw [c_tk_p4]
                    refine V_aload_n (pc := 158) X dX4_step_158 rfl (by first | decide | omega | assumption) ?_
                    refine V_dup (pc := 159) X dX4_step_159 (Nat.ne_of_beq_eq_false rfl) ?_
                    refine V_gz (pc := 160) X dX4_step_160 f_RX4_31 (by first | rfl | assumption | (simp only [*]; done) | omega) 2 rfl (show _ = p from c_tk_2 _ _) ?_
                    refine V_iconst (pc := 163) X dX4_step_163 ?_
                    refine V_iadd (pc := 164) X dX4_step_164 ?_
                    refine V_pz (pc := 165) X dX4_step_165 f_RX4_31 (by first | rfl | assumption | (simp only [*]; done) | omega) (fun b => z_fitI b _) 2 rfl ?_
                    rw [c_tk_p2]
                    refine V_vret (st := []) (pc := 168) X hQ dX4_step_168 rfl rfl ?_
                    exact ⟨rfl, by rw [etk]⟩
                  · skip
                    rw [if_pos (show T p = 59 by omega)] at etk
                    refine V_iconst (pc := 150) X dX4_step_150 ?_
                    refine V_goto (pc := 151) X 155 dX4_step_151 (by decide) ?_
                    refine V_pz (pc := 155) X dX4_step_155 f_RX4_37 (by first | rfl | assumption | (simp only [*]; done) | omega) (fun b => z_fitI b _) 4 rfl ?_
                    rw [c_tk_p4]
                    refine V_aload_n (pc := 158) X dX4_step_158 rfl (by first | decide | omega | assumption) ?_
                    refine V_dup (pc := 159) X dX4_step_159 (Nat.ne_of_beq_eq_false rfl) ?_
                    refine V_gz (pc := 160) X dX4_step_160 f_RX4_31 (by first | rfl | assumption | (simp only [*]; done) | omega) 2 rfl (show _ = p from c_tk_2 _ _) ?_
                    refine V_iconst (pc := 163) X dX4_step_163 ?_
                    refine V_iadd (pc := 164) X dX4_step_164 ?_
                    refine V_pz (pc := 165) X dX4_step_165 f_RX4_31 (by first | rfl | assumption | (simp only [*]; done) | omega) (fun b => z_fitI b _) 2 rfl ?_
                    rw [c_tk_p2]
                    refine V_vret (st := []) (pc := 168) X hQ dX4_step_168 rfl rfl ?_
                    exact ⟨rfl, by rw [etk]⟩
                · skip
                  refine V_aload_n (pc := 114) X dX4_step_114 rfl (by first | decide | omega | assumption) ?_
                  refine V_gz (pc := 115) X dX4_step_115 f_RX4_11 (by first | rfl | assumption | (simp only [*]; done) | omega) 0 rfl (show _ = (2 : Int) from by rw [c_tk_slot h (p, p, o, v) (by decide) (by decide) (by decide) (by decide)]; exact r10) ?_
                  refine V_aload_n (pc := 118) X dX4_step_118 rfl (by first | decide | omega | assumption) ?_
                  refine V_gz (pc := 119) X dX4_step_119 f_RX4_31 (by first | rfl | assumption | (simp only [*]; done) | omega) 2 rfl (show _ = p from c_tk_2 h (p, p, o, v)) ?_
                  refine V_iald (pc := 122) X dX4_step_122 (by first | rfl | assumption | (simp only [*]; done) | omega) (by omega) (by omega) (by decide) ?_
                  rw [show c_tk h (p, p, o, v) 2 (p) = T (p) from by rw [c_tk_cell h (p, p, o, v) (by decide), r2]]
                  refine V_bipush (pc := 123) X dX4_step_123 (by decide) ?_
                  refine V_icmp_gt (pc := 125) X 135 dX4_step_125 (by decide) ⟨by omega, by omega⟩ ⟨by omega, by omega⟩ (fun c_125 => ?_) (fun c_125 => ?_)
                  · skip
                    have eL : isL (T p) = false := decide_eq_false (by omega)
                    have eD : isD (T p) = false := decide_eq_false (by omega)
                    have etk : t_tok T N n v = (p + 1, p, if T p = 59 then 3 else 4, v) := by
                      unfold t_tok
                      rw [he2]
                      unfold t_e t_k t_v
                      rw [if_neg (show ¬ N ≤ p by omega), if_neg (show ¬ N ≤ p by omega), if_neg (show ¬ N ≤ p by omega), eL, eD]
                      rfl
                    refine V_aload_n (pc := 135) X dX4_step_135 rfl (by first | decide | omega | assumption) ?_
                    refine V_aload_n (pc := 136) X dX4_step_136 rfl (by first | decide | omega | assumption) ?_
                    refine V_gz (pc := 137) X dX4_step_137 f_RX4_11 (by first | rfl | assumption | (simp only [*]; done) | omega) 0 rfl (show _ = (2 : Int) from by rw [c_tk_slot h (p, p, o, v) (by decide) (by decide) (by decide) (by decide)]; exact r10) ?_
                    refine V_aload_n (pc := 140) X dX4_step_140 rfl (by first | decide | omega | assumption) ?_
                    refine V_gz (pc := 141) X dX4_step_141 f_RX4_31 (by first | rfl | assumption | (simp only [*]; done) | omega) 2 rfl (show _ = p from c_tk_2 h (p, p, o, v)) ?_
                    refine V_iald (pc := 144) X dX4_step_144 (by first | rfl | assumption | (simp only [*]; done) | omega) (by omega) (by omega) (by decide) ?_
                    rw [show c_tk h (p, p, o, v) 2 (p) = T (p) from by rw [c_tk_cell h (p, p, o, v) (by decide), r2]]
                    refine V_bipush (pc := 145) X dX4_step_145 (by decide) ?_
                    refine V_icmp_ne (pc := 147) X 154 dX4_step_147 (by decide) ⟨by omega, by omega⟩ ⟨by omega, by omega⟩ (fun c_147 => ?_) (fun c_147 => ?_)
                    · skip
                      rw [if_neg (show ¬ T p = 59 by omega)] at etk
                      refine V_iconst (pc := 154) X dX4_step_154 ?_
                      refine V_pz (pc := 155) X dX4_step_155 f_RX4_37 (by first | rfl | assumption | (simp only [*]; done) | omega) (fun b => z_fitI b _) 4 rfl ?_
                      rw [c_tk_p4]
                      refine V_aload_n (pc := 158) X dX4_step_158 rfl (by first | decide | omega | assumption) ?_
                      refine V_dup (pc := 159) X dX4_step_159 (Nat.ne_of_beq_eq_false rfl) ?_
                      refine V_gz (pc := 160) X dX4_step_160 f_RX4_31 (by first | rfl | assumption | (simp only [*]; done) | omega) 2 rfl (show _ = p from c_tk_2 _ _) ?_
                      refine V_iconst (pc := 163) X dX4_step_163 ?_
                      refine V_iadd (pc := 164) X dX4_step_164 ?_
                      refine V_pz (pc := 165) X dX4_step_165 f_RX4_31 (by first | rfl | assumption | (simp only [*]; done) | omega) (fun b => z_fitI b _) 2 rfl ?_
                      rw [c_tk_p2]
                      refine V_vret (st := []) (pc := 168) X hQ dX4_step_168 rfl rfl ?_
                      exact ⟨rfl, by rw [etk]⟩
                    · skip
                      rw [if_pos (show T p = 59 by omega)] at etk
                      refine V_iconst (pc := 150) X dX4_step_150 ?_
                      refine V_goto (pc := 151) X 155 dX4_step_151 (by decide) ?_
                      refine V_pz (pc := 155) X dX4_step_155 f_RX4_37 (by first | rfl | assumption | (simp only [*]; done) | omega) (fun b => z_fitI b _) 4 rfl ?_
                      rw [c_tk_p4]
                      refine V_aload_n (pc := 158) X dX4_step_158 rfl (by first | decide | omega | assumption) ?_
                      refine V_dup (pc := 159) X dX4_step_159 (Nat.ne_of_beq_eq_false rfl) ?_
                      refine V_gz (pc := 160) X dX4_step_160 f_RX4_31 (by first | rfl | assumption | (simp only [*]; done) | omega) 2 rfl (show _ = p from c_tk_2 _ _) ?_
                      refine V_iconst (pc := 163) X dX4_step_163 ?_
                      refine V_iadd (pc := 164) X dX4_step_164 ?_
                      refine V_pz (pc := 165) X dX4_step_165 f_RX4_31 (by first | rfl | assumption | (simp only [*]; done) | omega) (fun b => z_fitI b _) 2 rfl ?_
                      rw [c_tk_p2]
                      refine V_vret (st := []) (pc := 168) X hQ dX4_step_168 rfl rfl ?_
                      exact ⟨rfl, by rw [etk]⟩
                  · skip
                    have eL : isL (T p) = false := decide_eq_false (by omega)
                    have eD : isD (T p) = true := decide_eq_true (by omega)
                    have etk : t_tok T N n v = (t_go isD T N p, p, if 99 < t_acc T p (t_go isD T N p - p).toNat ∨ (T p = 48 ∧ 1 < t_go isD T N p - p) then 4 else 2, t_acc T p (t_go isD T N p - p).toNat) := by
                      unfold t_tok
                      rw [he2]
                      unfold t_e t_k t_v
                      rw [if_neg (show ¬ N ≤ p by omega), if_neg (show ¬ N ≤ p by omega), if_neg (show ¬ N ≤ p by omega), eL, eD]
                      rfl
                    refine V_aload_n (pc := 128) X dX4_step_128 rfl (by first | decide | omega | assumption) ?_
                    refine V_CV (pc := 129) X dX4_step_129 oX4_digits l_RX4_96 eX4_digits vX4_digits ⟨Nat.le_of_ble_eq_true rfl, Nat.le_of_ble_eq_true rfl⟩ ⟨rfl, rfl⟩ ⟨Nat.le_of_ble_eq_true rfl, Nat.le_of_ble_eq_true rfl⟩ (ct_X4_digits hR (by omega) (by omega) (decide_eq_true (by omega))) rfl (by first | rfl | assumption | (simp only [*]; done) | omega) (by intro q h; cases h; rfl) rfl (by rfl) (by exact Nat.le_of_ble_eq_true rfl) (fun r h1 hp => ?_)
                    obtain ⟨rfl, rfl⟩ := hp
                    refine V_goto (pc := 132) X 168 dX4_step_132 (by decide) ?_
                    refine V_vret (st := []) (pc := 168) X hQ dX4_step_168 rfl rfl ?_
                    exact ⟨rfl, by rw [etk]⟩
              · skip
                have eL : isL (T p) = true := decide_eq_true (by omega)
                have etk : t_tok T N n v = (t_go isL T N p, p, if t_go isL T N p - p = 1 then 1 else 4, T p) := by
                  unfold t_tok
                  rw [he2]
                  unfold t_e t_k t_v
                  rw [if_neg (show ¬ N ≤ p by omega), if_neg (show ¬ N ≤ p by omega), if_neg (show ¬ N ≤ p by omega), eL]
                  rfl
                refine V_aload_n (pc := 93) X dX4_step_93 rfl (by first | decide | omega | assumption) ?_
                refine V_CV (pc := 94) X dX4_step_94 oX4_letters l_RX4_93 eX4_letters vX4_letters ⟨Nat.le_of_ble_eq_true rfl, Nat.le_of_ble_eq_true rfl⟩ ⟨rfl, rfl⟩ ⟨Nat.le_of_ble_eq_true rfl, Nat.le_of_ble_eq_true rfl⟩ (ct_X4_letters hR (by omega) (by omega)) rfl (by first | rfl | assumption | (simp only [*]; done) | omega) (by intro q h; cases h; rfl) rfl (by rfl) (by exact Nat.le_of_ble_eq_true rfl) (fun r h1 hp => ?_)
                obtain ⟨rfl, rfl⟩ := hp
                refine V_goto (pc := 97) X 168 dX4_step_97 (by decide) ?_
                refine V_vret (st := []) (pc := 168) X hQ dX4_step_168 rfl rfl ?_
                exact ⟨rfl, by rw [etk]⟩
          · skip
            have etk : t_tok T N n v = (p, p, 0, v) := by
              unfold t_tok
              rw [he2]
              unfold t_e t_k t_v
              rw [if_pos (show N ≤ p by omega), if_pos (show N ≤ p by omega), if_pos (show N ≤ p by omega)]
            refine V_aload_n (pc := 57) X dX4_step_57 rfl (by first | decide | omega | assumption) ?_
            refine V_iconst (pc := 58) X dX4_step_58 ?_
            refine V_pz (pc := 59) X dX4_step_59 f_RX4_37 (by first | rfl | assumption | (simp only [*]; done) | omega) (fun b => z_fitI b _) 4 rfl ?_
            rw [c_tk_p4]
            refine V_goto (pc := 62) X 168 dX4_step_62 (by decide) ?_
            refine V_vret (st := []) (pc := 168) X hQ dX4_step_168 rfl rfl ?_
            exact ⟨rfl, by rw [etk]⟩
        · skip
          refine V_aload_n (pc := 25) X dX4_step_25 rfl (by first | decide | omega | assumption) ?_
          refine V_dup (pc := 26) X dX4_step_26 (Nat.ne_of_beq_eq_false rfl) ?_
          refine V_gz (pc := 27) X dX4_step_27 f_RX4_31 (by first | rfl | assumption | (simp only [*]; done) | omega) 2 rfl (show _ = p from c_tk_2 h (p, s0, o, v)) ?_
          refine V_iconst (pc := 30) X dX4_step_30 ?_
          refine V_iadd (pc := 31) X dX4_step_31 ?_
          refine V_pz (pc := 32) X dX4_step_32 f_RX4_31 (by first | rfl | assumption | (simp only [*]; done) | omega) (fun b => z_fitI b _) 2 rfl ?_
          rw [c_tk_p2]
          refine V_goto (pc := 35) X 0 dX4_step_35 (by decide) ?_
          exact ih_0 (p + 1) (by omega) (by omega) (by omega) (by rw [← he]; exact (t_go_yes (by omega) (decide_eq_true (by omega))).symm)
  exact lp_0 _ n (Nat.lt_succ_self _) (by omega) (by omega) rfl
