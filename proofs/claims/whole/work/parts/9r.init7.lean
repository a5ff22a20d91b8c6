/-! WHERE ALL BEGINS, 2 -/
section INIT
variable {h k : z_H}
theorem y_n17_c (k : z_H) {q : Int} (hq : q < 89) : r_n17 k q = k q := by
  rw [r_n17_c (by omega) (by omega), r_n16_c (by omega) (by omega), r_n15_c (by omega) (by omega), r_n14_c (by omega) (by omega), r_n13_c (by omega) (by omega), r_n12_c (by omega) (by omega), r_n11_c (by omega) (by omega), r_n10_c (by omega) (by omega), r_n9_c (by omega) (by omega), r_n8_c (by omega) (by omega), r_n7_c (by omega) (by omega), r_n6_c (by omega) (by omega), r_n5_c (by omega) (by omega), r_n4_c (by omega) (by omega), r_n3_c (by omega) (by omega), r_n2_c (by omega) (by omega), r_n1_c (by omega) (by omega), r_n0, z_st_cell _ (by omega), z_st_cell _ (by omega)]
theorem y_n17_s (k : z_H) {j : Int} (hj : r_mut j = true) : r_n17 k 89 j = r_n0 k 89 j := by
  have hx : j = 0 ∨ j = 1 ∨ j = 4 ∨ j = 8 ∨ j = 14 ∨ (16 ≤ j ∧ j ≤ 24) ∨ (27 ≤ j ∧ j ≤ 29) := of_decide_eq_true hj
  rw [r_n17_s (by omega), r_n16_s (by omega), r_n15_s (by omega), r_n14_s (by omega), r_n13_s (by omega), r_n12_s (by omega), r_n11_s (by omega), r_n10_s (by omega), r_n9_s (by omega), r_n8_s (by omega), r_n7_s (by omega), r_n6_s (by omega), r_n5_s (by omega), r_n4_s (by omega), r_n3_s (by omega), r_n2_s (by omega), r_n1_s (by omega)]
theorem y_n17_100 (k : z_H) (r : Int) : r_n17 k 100 r = 0 := by
  rw [r_n17_c (by decide) (by decide), r_n16_c (by decide) (by decide), r_n15_c (by decide) (by decide), r_n14_c (by decide) (by decide), r_n13_c (by decide) (by decide), r_n12_c (by decide) (by decide), r_n11_n]
  rfl
theorem y_n17_102 (k : z_H) (r : Int) : r_n17 k 102 r = 0 := by
  rw [r_n17_c (by decide) (by decide), r_n16_c (by decide) (by decide), r_n15_c (by decide) (by decide), r_n14_c (by decide) (by decide), r_n13_n]
  rfl
theorem y_n17_91 (k : z_H) (r : Int) : r_n17 k 91 r = 0 := by
  rw [r_n17_c (by decide) (by decide), r_n16_c (by decide) (by decide), r_n15_c (by decide) (by decide), r_n14_c (by decide) (by decide), r_n13_c (by decide) (by decide), r_n12_c (by decide) (by decide), r_n11_c (by decide) (by decide), r_n10_c (by decide) (by decide), r_n9_c (by decide) (by decide), r_n8_c (by decide) (by decide), r_n7_c (by decide) (by decide), r_n6_c (by decide) (by decide), r_n5_c (by decide) (by decide), r_n4_c (by decide) (by decide), r_n3_c (by decide) (by decide), r_n2_n]
  rfl
theorem y_Pl {K : Nat} {X : z_H} (kk : z_kd 107 (K : Int) = (0, 2)) (k1 : z_kd 107 ((K : Int) + 1) = (1, 20)) (k2 : z_kd 107 ((K : Int) + 2) = (1, 256)) (e : ∀ q, q = (K : Int) ∨ q = (K : Int) + 1 ∨ q = (K : Int) + 2 → k q = c_P3 X K q) : c_Pl k (K : Int) := by
  obtain ⟨a, b, c, d, f, g, i, j, l, m⟩ := y_pl (k := X) (K := K)
  unfold c_Pl
  rw [e _ (Or.inl rfl), e _ (Or.inr (Or.inl rfl)), e _ (Or.inr (Or.inr rfl))]
  refine ⟨kk, b, c, k1, k2, by rw [d]; omega, by rw [f]; omega, by rw [g]; omega, fun p p0 p1 => by rw [a p p0 p1]; omega, fun p p0 p1 => ?_⟩
  by_cases w : p = 0
  · rw [w, l]; omega
  · rw [m p w]; omega
theorem y_k41 : ∀ j : Nat, j < 11 → z_kd 107 (41 + 2 + 2 * (j : Int)) = (0, 1) := by decide +kernel
theorem y_k65 : ∀ j : Nat, j < 11 → z_kd 107 (65 + 2 + 2 * (j : Int)) = (0, 1) := by decide +kernel
theorem y_k4 : ∀ j : Nat, j < 11 → z_kd 107 (4 + 2 + 2 * (j : Int)) = (0, 1) := by decide +kernel
theorem z_kd_mom2 {m : Int} (h : z_kd 107 m = (0, 1)) : ∃ j : Int, 0 ≤ j ∧ j < 11 ∧ (m = 4 + 2 + 2 * j ∨ m = 41 + 2 + 2 * j ∨ m = 65 + 2 + 2 * j) := by
  have h3 := z_kd_spec h (Nat.ne_of_beq_eq_false rfl)
  have hall : ∀ k : Nat, k < 107 → z_kd 107 (k : Int) = (0, 1) → (6 ≤ k ∧ k ≤ 26 ∧ k % 2 = 0) ∨ (43 ≤ k ∧ k ≤ 63 ∧ k % 2 = 1) ∨ (67 ≤ k ∧ k ≤ 87 ∧ k % 2 = 1) := by decide +kernel
  have h4 := hall m.toNat h3.2.1 (by rw [h3.2.2]; exact h)
  have h5 : (m.toNat : Int) = m := h3.2.2
  rcases h4 with w | w | w
  · exact ⟨((m.toNat - 6) / 2 : Nat), by omega, by omega, by omega⟩
  · exact ⟨((m.toNat - 43) / 2 : Nat), by omega, by omega, by omega⟩
  · exact ⟨((m.toNat - 67) / 2 : Nat), by omega, by omega, by omega⟩
theorem y_N (v : y_C (z_nw h 0 (0, 8)) k) : v_N (y_R (z_nw k 89 (0, 9))) := by
  obtain ⟨hO, ⟨k30, k31⟩, ⟨k06, k07, k08⟩, ⟨k340, k341, k342⟩, ⟨k10, k11, k15⟩, k2, ⟨k310, k311⟩, k33, s4, s41, s65, ⟨k62, k63, k7⟩, -, ⟨X28, P28⟩, ⟨X38, P38⟩⟩ := y_cells v
  generalize hg : y_R (z_nw k 89 (0, 9)) = g
  have gc : ∀ q, q < 89 → g q = k q := fun q hq => by rw [← hg, y_R, m_beg_c _ _ _ (by omega) (by omega) (by omega), z_rw_ne _ _ (by omega), y_n17_c _ hq, z_nw_ne _ (by omega)]
  have gq : ∀ q, 91 ≤ q → q ≠ 92 → q ≠ 98 → g q = r_n17 (z_nw k 89 (0, 9)) q := fun q h1 h2 h3 => by rw [← hg, y_R, m_beg_c _ _ _ (by omega) h2 h3, z_rw_ne _ _ (by omega)]
  have gs : ∀ j, j ≠ 8 → j ≠ 14 → g 89 j = r_n17 (z_nw k 89 (0, 9)) 89 j := fun j h1 h2 => by rw [← hg, y_R, m_beg_s _ _ _ h1 h2, z_rw_ne _ _ (by decide)]
  have g8 : g 89 8 = 0 ∧ g 89 14 = 0 ∧ g 98 0 = 0 ∧ g 98 1 = 0 := by rw [← hg]; exact m_beg_8 _ _ _
  have gd : ∀ j, r_mut j = true → j ≠ 0 → j ≠ 1 → j ≠ 8 → j ≠ 14 → g 89 j = z_dv (0, 9) j := fun j hj h0 h1 h2 h3 => by rw [gs j h2 h3, y_n17_s _ hj, r_n0, z_st_slot _ h1, z_st_slot _ h0, z_nw_is _ (by decide)]
  have g0 : g 89 0 = 5 := by rw [gs 0 (by decide) (by decide), y_n17_s _ (by decide), r_n0, z_st_slot _ (by decide), z_st_at]
  have g1 : g 89 1 = 4 := by rw [gs 1 (by decide) (by decide), y_n17_s _ (by decide), r_n0, z_st_at]
  have g4 : g 89 4 = 0 := by rw [gd 4 (by decide) (by decide) (by decide) (by decide) (by decide)]; rfl
  have g16 : g 89 16 = 0 := by rw [gd 16 (by decide) (by decide) (by decide) (by decide) (by decide)]; rfl
  have g17 : g 89 17 = 0 := by rw [gd 17 (by decide) (by decide) (by decide) (by decide) (by decide)]; rfl
  have g90 : ∀ p, 0 ≤ p → p < 20 → g 90 p = 7 := fun p p0 p1 => by
    rw [← hg, y_R, m_beg_c _ _ _ (by decide) (by decide) (by decide), z_rw_at]
    exact if_pos ⟨p0, p1⟩
  have g91 : ∀ p, g 91 p = 0 := fun p => by rw [gq 91 (by decide) (by decide) (by decide)]; exact y_n17_91 _ _
  have g100 : ∀ p, g 100 p = 0 := fun p => by rw [gq 100 (by decide) (by decide) (by decide)]; exact y_n17_100 _ _
  have g102 : ∀ p, g 102 p = 0 := fun p => by rw [gq 102 (by decide) (by decide) (by decide)]; exact y_n17_102 _ _
  have g92 : g 92 = r_beg (z_rw (r_n17 (z_nw k 89 (0, 9))) 90 (fun r => if 0 ≤ r ∧ r < 20 then 7 else r_n17 (z_nw k 89 (0, 9)) 90 r) 92) 12 0 := by rw [← hg, y_R, m_beg_92]
  have T8 : g 92 8 = 0 := by rw [g92]; rfl
  have T9 : g 92 9 = 12 := by rw [g92]; rfl
  have T10 : g 92 10 = 0 := by rw [g92]; rfl
  have Ts : ∀ s, 0 ≤ s → s < 8 → g 92 s = -9 := fun s s0 s1 => by
    rw [g92]
    unfold r_beg
    rw [if_pos ⟨s0, s1⟩]
  have hrob : r_Ob g := (r_new_ob (z_nw k 89 (0, 9))).to (fun j hj => by
    have hx : ¬ (j = 0 ∨ j = 1 ∨ j = 4 ∨ j = 8 ∨ j = 14 ∨ (16 ≤ j ∧ j ≤ 24) ∨ (27 ≤ j ∧ j ≤ 29)) := of_decide_eq_false hj
    exact gs j (by omega) (by omega))
  have rp : r_Pl g := ⟨by rw [g0]; omega, by rw [g1]; omega, by rw [g4]; omega, fun p p0 p1 => by rw [g90 p p0 p1]; omega, fun p _ _ => by rw [g91]; omega⟩
  have m4 : y_M g 4 := by
    obtain ⟨a, b, c, d, e⟩ := s4
    refine ⟨by rw [gc 4 (by decide)]; exact a, by rw [gc 4 (by decide)]; exact b, by rw [gc 4 (by decide)]; exact c, fun j j0 j1 => by rw [gc (4 + 1) (by decide)]; exact d j j0 j1, fun j j0 j1 => by rw [gc _ (by omega)]; exact e j j0 j1⟩
  have m41 : y_M g 41 := by
    obtain ⟨a, b, c, d, e⟩ := s41
    refine ⟨by rw [gc 41 (by decide)]; exact a, by rw [gc 41 (by decide)]; exact b, by rw [gc 41 (by decide)]; exact c, fun j j0 j1 => by rw [gc (41 + 1) (by decide)]; exact d j j0 j1, fun j j0 j1 => by rw [gc _ (by omega)]; exact e j j0 j1⟩
  have m65 : y_M g 65 := by
    obtain ⟨a, b, c, d, e⟩ := s65
    refine ⟨by rw [gc 65 (by decide)]; exact a, by rw [gc 65 (by decide)]; exact b, by rw [gc 65 (by decide)]; exact c, fun j j0 j1 => by rw [gc (65 + 1) (by decide)]; exact d j j0 j1, fun j j0 j1 => by rw [gc _ (by omega)]; exact e j j0 j1⟩
  have hO' : c_Ob g := by
    unfold c_Ob
    rw [gc 0 (by decide), gc 37 (by decide), gc 32 (by decide)]
    exact hO
  have p28 : c_Pl g ((28 : Nat) : Int) := y_Pl (K := 28) (X := X28) rfl rfl rfl (fun q hq => by rw [gc q (by omega)]; exact P28 q (by omega))
  have p38 : c_Pl g ((38 : Nat) : Int) := y_Pl (K := 38) (X := X38) rfl rfl rfl (fun q hq => by rw [gc q (by omega)]; exact P38 q (by omega))
  obtain ⟨q1, q2, q3, q4, q5, q6, q7, q8, q9, q10⟩ := y_pl (k := X28) (K := 28)
  have e28 : ∀ q, q = 28 ∨ q = 29 ∨ q = 30 → g q = c_P3 X28 28 q := fun q hq => by rw [gc q (by omega), P28 q hq]
  refine ⟨⟨hO', by rw [gc 3 (by decide)]; exact k30, by rw [gc 3 (by decide), gc 0 (by decide)]; exact Or.inl ⟨k31, k06⟩, p28, p38, by rw [gc 34 (by decide)]; exact k340, by rw [gc 34 (by decide)]; exact k341, hrob, rp⟩, ⟨⟨by rw [gc 1 (by decide)]; exact k10, rfl, rfl, by rw [gc 1 (by decide), k11]; omega, fun i _ _ => by rw [gc 2 (by decide), k2]; omega⟩, by rw [gc 1 (by decide), k15]; omega, by funext r; rw [gc 2 (by decide), k2, g100], by rw [gc 1 (by decide), k11, g16]⟩, ⟨⟨Or.inl (by rw [gc 31 (by decide)]; exact k310), by show 0 ≤ g 31 1; rw [gc 31 (by decide), k311]; omega, by show g 31 1 ≤ 62; rw [gc 31 (by decide), k311]; omega⟩, fun i _ _ => by rw [gc 33 (by decide), k33]; omega, fun u _ _ => by rw [gc 33 (by decide), k33], fun i _ _ => by rw [g102]; omega, by rw [gc 0 (by decide), k08, g17]⟩, ⟨⟨by rw [g8.2.1]; omega, fun i i0 i1 => by rw [g8.2.1] at i1; omega⟩, by rw [gc 34 (by decide), k342, g8.2.1], fun i i0 i1 => by rw [g8.2.1] at i1; omega⟩, ⟨m4.st rfl rfl y_k4, m41.st rfl rfl y_k41, m65.st rfl rfl y_k65, fun m hm => ?_, fun m hm => ?_⟩, ?_, ⟨by rw [m4.2.1, g8.1], fun i i0 i1 => by rw [m4.2.1] at i1; omega, ?_⟩, ⟨by rw [gc 0 (by decide), k07]; omega, fun i i0 i1 => Or.inl ⟨by rw [gc 0 (by decide), k07, tb_0], ?_⟩⟩⟩
  · obtain ⟨j, j0, j1, w | w | w⟩ := z_kd_mom2 hm
    · rw [w, (m4.2.2.2.2 j j0 j1).1]; omega
    · rw [w, (m41.2.2.2.2 j j0 j1).1]; omega
    · rw [w, (m65.2.2.2.2 j j0 j1).1]; omega
  · obtain ⟨j, j0, j1, w | w | w⟩ := z_kd_mom2 hm
    · rw [w, (m4.2.2.2.2 j j0 j1).2]; omega
    · rw [w, (m41.2.2.2.2 j j0 j1).2]; omega
    · rw [w, (m65.2.2.2.2 j j0 j1).2]; omega
  · rw [gc 3 (by decide), k31]
    refine ⟨by rw [e28 28 (by omega), g0]; exact q4, by rw [e28 28 (by omega), g1]; exact q5, by rw [e28 28 (by omega), g4]; exact q6, fun p p0 p1 => ?_, fun a ha => ?_⟩
    · rw [g90 p p0 p1, show (28 : Int) + 1 = 29 from rfl, e28 29 (by omega)]
      exact q1 p p0 p1
    · rw [g4] at ha
      have ha0 : a = 0 := by
        have : a < 2 ^ (0 : Int).toNat := ha
        have e : (2 : Nat) ^ (0 : Int).toNat = 1 := rfl
        omega
      subst ha0
      unfold r_th
      rw [g4, show (28 : Int) + 2 = 30 from rfl, e28 30 (by omega)]
      exact q9
  · rw [m4.2.2.1]
    refine ⟨?_, ?_, ?_, fun p p0 p1 => ?_, ⟨fun s s0 s1 => Or.inl (Ts s s0 s1), by rw [T8]; omega, by rw [T9]; omega, by rw [T10]; omega⟩, fun s s0 s1 z => absurd (Ts s s0 s1) z, fun s s0 s1 => Ts s (by rw [g4] at s0; exact s0) s1⟩
    · rw [T8]; exact (m4.2.2.2.2 0 (by decide) (by decide)).2
    · rw [T9, gc _ (by decide)]; exact k62
    · rw [T10, gc _ (by decide)]; exact k63
    · rw [gc _ (by decide), show (4 : Int) + 2 + 1 = 7 from rfl, k7 p p0 p1]
      unfold r_at
      rw [g4]
      rfl
  · have : i = 0 ∨ i = 1 := by omega
    rcases this with rfl | rfl
    · exact g8.2.2.1
    · exact g8.2.2.2
end INIT
