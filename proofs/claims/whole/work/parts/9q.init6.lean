/-! WHERE ALL BEGINS -/
def y_C (h h2 : z_H) : Prop := ∃ H H2 H3 : z_H, c_N6 (z_nw (z_nw (c_n1 h) 3 (0, 4)) 4 (0, 5)) H 4 11 ∧ c_N6 (z_nw (c_n7 H) 41 (0, 5)) H2 41 11 ∧ c_N6 (z_nw (c_n8 H2) 65 (0, 5)) H3 65 11 ∧ h2 = c_srsH (c_n9 H3) 4 28 6
def y_R (h : z_H) : z_H := r_begH (z_rw (r_n17 h) 90 (fun r => if 0 ≤ r ∧ r < 20 then 7 else r_n17 h 90 r)) 12 0
/-- a story's moments at the beginning -/
def y_M (k : z_H) (K : Int) : Prop := k K 0 = K + 1 ∧ k K 1 = 0 ∧ k K 2 = K + 2 ∧ (∀ j, 0 ≤ j → j < 11 → k (K + 1) j = K + 2 + 2 * j) ∧ ∀ j, 0 ≤ j → j < 11 → k (K + 2 + 2 * j) 0 = K + 3 + 2 * j ∧ k (K + 2 + 2 * j) 1 = 0
theorem y_M.st {k : z_H} {K : Int} (v : y_M k K) (k5 : z_kd 107 K = (0, 5)) (k3 : z_kd 107 (K + 1) = (3, 11)) (km : ∀ j : Nat, j < 11 → z_kd 107 (K + 2 + 2 * (j : Int)) = (0, 1)) : c_St k K := by
  obtain ⟨a, b, c, d, e⟩ := v
  refine ⟨k5, a, k3, fun i i0 i1 => ?_, fun i j i0 i1 j0 j1 q => ?_, by rw [b]; omega, by rw [c, b, d 0 (by decide) (by decide)]; omega⟩
  · have := km i.toNat (by omega)
    rw [Int.toNat_of_nonneg i0] at this
    rw [d i i0 i1]
    exact ⟨this, by omega, by omega⟩
  · rw [d i i0 i1, d j j0 j1] at q
    omega
theorem y_pl {k : z_H} {K : Nat} : (∀ p, 0 ≤ p → p < 20 → c_P3 k K ((K : Int) + 1) p = 7) ∧ c_P3 k K (K : Int) 0 = (K : Int) + 1 ∧ c_P3 k K (K : Int) 1 = (K : Int) + 2 ∧ c_P3 k K (K : Int) 2 = 5 ∧ c_P3 k K (K : Int) 3 = 4 ∧ c_P3 k K (K : Int) 4 = 0 ∧ c_P3 k K (K : Int) 5 = 12 ∧ c_P3 k K (K : Int) 6 = 0 ∧ c_P3 k K ((K : Int) + 2) 0 = 7 ∧ ∀ p, p ≠ 0 → c_P3 k K ((K : Int) + 2) p = 0 := by
  unfold c_P3 c_rstH
  refine ⟨fun p p0 p1 => ?_, ?_, ?_, ?_, ?_, ?_, ?_, ?_, ?_, fun p hp => ?_⟩
  · rw [z_st_cell _ (by omega), z_st_cell _ (by omega), z_st_cell _ (by omega), z_st_cell _ (by omega), z_rw_at]
    exact if_pos ⟨p0, by omega⟩
  · rw [z_st_slot _ (by decide), z_st_slot _ (by decide), z_st_slot _ (by decide), z_st_cell _ (by omega), z_rw_ne _ _ (by omega), z_st_slot _ (by decide), z_st_slot _ (by decide), z_st_slot _ (by decide), z_nw_ne _ (by omega), z_st_at]
    omega
  · rw [z_st_slot _ (by decide), z_st_slot _ (by decide), z_st_slot _ (by decide), z_st_cell _ (by omega), z_rw_ne _ _ (by omega), z_st_slot _ (by decide), z_st_slot _ (by decide), z_st_at]
    omega
  · rw [z_st_slot _ (by decide), z_st_slot _ (by decide), z_st_slot _ (by decide), z_st_cell _ (by omega), z_rw_ne _ _ (by omega), z_st_slot _ (by decide), z_st_at]
  · rw [z_st_slot _ (by decide), z_st_slot _ (by decide), z_st_slot _ (by decide), z_st_cell _ (by omega), z_rw_ne _ _ (by omega), z_st_at]
  · rw [z_st_slot _ (by decide), z_st_slot _ (by decide), z_st_at]
  · rw [z_st_slot _ (by decide), z_st_at]
  · rw [z_st_at]
  · rw [z_st_cell _ (by omega), z_st_cell _ (by omega), z_st_cell _ (by omega), z_st_at]
  · rw [z_st_cell _ (by omega), z_st_cell _ (by omega), z_st_cell _ (by omega), z_st_slot _ hp, z_rw_ne _ _ (by omega), z_st_cell _ (by omega), z_st_cell _ (by omega), z_st_cell _ (by omega), z_nw_is _ (by omega)]
    rfl
section INIT
variable {h k : z_H}
/-- the class's cells at the beginning -/
theorem y_cells (v : y_C (z_nw h 0 (0, 8)) k) : c_Ob k ∧ (k 3 0 = 4 ∧ k 3 1 = 28) ∧ (k 0 6 = 38 ∧ k 0 7 = 0 ∧ k 0 8 = 0) ∧ (k 34 0 = 35 ∧ k 34 1 = 36 ∧ k 34 2 = 0) ∧ (k 1 0 = 2 ∧ k 1 1 = 0 ∧ k 1 5 = 0) ∧ (∀ r, k 2 r = 0) ∧ (k 31 0 = 0 ∧ k 31 1 = 0) ∧ (∀ r, k 33 r = 0) ∧ y_M k 4 ∧ y_M k 41 ∧ y_M k 65 ∧ (k 6 2 = 12 ∧ k 6 3 = 0 ∧ ∀ p, 0 ≤ p → p < 20 → k 7 p = 0) ∧ (∀ q, q = 28 ∨ q = 29 ∨ q = 30 → k q = c_P3 (z_nw (z_st (z_st k 4 2 6) 3 0 4) 28 (0, 2)) 28 q ∨ True) ∧ (∃ X : z_H, ∀ q, q = 28 ∨ q = 29 ∨ q = 30 → k q = c_P3 X 28 q) ∧ ∃ X : z_H, ∀ q, q = 38 ∨ q = 39 ∨ q = 40 → k q = c_P3 X 38 q := by
  obtain ⟨H, H2, H3, ⟨a1, a2, a3, a4, a5⟩, ⟨b1, b2, b3, b4, b5⟩, ⟨c1, c2, c3, c4, c5⟩, e⟩ := v
  have t1 : ∀ q : Int, q ≠ 4 → q ≠ 6 → q ≠ 7 → q ≠ 37 → q ≠ 65 → k q = H3 q := fun q h1 h2 h3 h4 h5 => by rw [e, c_srs_cell h1 h2 (by omega), c_n9, z_st_cell _ h4, z_st_cell _ h5]
  have t2 : ∀ q : Int, q < 65 → q ≠ 4 → q ≠ 6 → q ≠ 7 → q ≠ 37 → q ≠ 41 → k q = H2 q := fun q h0 h1 h2 h3 h4 h5 => by rw [t1 q h1 h2 h3 h4 (by omega), c1 q (by omega), z_nw_ne _ (by omega), c_n8, z_st_cell _ h4, z_st_cell _ h5]
  have t3 : ∀ q : Int, q < 41 → q ≠ 4 → q ≠ 6 → q ≠ 7 → q ≠ 37 → k q = c_n7 H q := fun q h0 h1 h2 h3 h4 => by rw [t2 q (by omega) h1 h2 h3 h4 (by omega), b1 q (by omega), z_nw_ne _ (by omega)]
  have t4 : ∀ q : Int, q ≠ 0 → q < 28 → q ≠ 3 → q ≠ 4 → q ≠ 6 → q ≠ 7 → k q = H q := fun q h0 h1 h2 h3 h4 h5 => by rw [t3 q (by omega) h3 h4 h5 (by omega), c_n7_S5 h0 (by omega), c_S5_ne h2 h3 h1]
  have k0 : k 0 = c_n7 H 0 := t3 0 (by decide) (by decide) (by decide) (by decide) (by decide)
  have s0 : ∀ j, j ≠ 0 → H 0 j = z_dv (0, 8) j := fun j hj => by
    rw [a1 0 (by decide), z_nw_ne _ (by decide), z_nw_ne _ (by decide), c_n1, z_st_slot _ hj, z_st_cell _ (by decide), z_nw_ne _ (by decide), z_nw_ne _ (by decide), z_nw_is _ (by decide)]
  have u0 : ∀ j, j ≠ 1 → c_n2 H 0 j = H 0 j := fun j hj => by
    unfold c_n2
    rw [z_st_slot _ hj, c_S5_ne (by decide) (by decide) (by decide)]
  have k0j : ∀ j, j ≠ 1 → j ≠ 2 → j ≠ 3 → j ≠ 4 → j ≠ 5 → j ≠ 6 → k 0 j = H 0 j := fun j x1 x2 x3 x4 x5 x6 => by rw [k0, c_n7_0 x6, c_n6_0 x5, c_n5_0 x4, c_n4_0 x3, c_n3_0 x2, u0 j x1]
  have k1 : ∀ j, j ≠ 0 → k 1 j = z_dv (0, 3) j := fun j hj => by
    rw [t4 1 (by decide) (by decide) (by decide) (by decide) (by decide) (by decide), a1 1 (by decide), z_nw_ne _ (by decide), z_nw_ne _ (by decide), c_n1, z_st_cell _ (by decide), z_st_slot _ hj, z_nw_ne _ (by decide), z_nw_is _ (by decide)]
  have k34 : ∀ j, j ≠ 0 → j ≠ 1 → k 34 j = z_dv (0, 7) j := fun j hj hi => by
    rw [t3 34 (by decide) (by decide) (by decide) (by decide) (by decide), c_n7_lo (by decide) (by decide), c_n6_lo (by decide) (by decide), c_n5, z_st_cell _ (by decide), z_st_slot _ hi, z_nw_ne _ (by decide), z_st_slot _ hj, z_nw_ne _ (by decide), z_nw_is _ (by decide)]
  have k31 : ∀ j, k 31 j = z_dv (0, 0) j := fun j => by
    rw [t3 31 (by decide) (by decide) (by decide) (by decide) (by decide), c_n7_lo (by decide) (by decide), c_n6_lo (by decide) (by decide), c_n5_lo (by decide) (by decide), c_n4_lo (by decide) (by decide), c_n3, z_st_cell _ (by decide), z_nw_is _ (by decide)]
  have k33 : ∀ j, k 33 j = 0 := fun j => by
    rw [t3 33 (by decide) (by decide) (by decide) (by decide) (by decide), c_n7_lo (by decide) (by decide), c_n6_lo (by decide) (by decide), c_n5_lo (by decide) (by decide), c_n4, z_st_cell _ (by decide), z_st_cell _ (by decide), z_nw_is _ (by decide)]
    rfl
  have k4 : ∀ j, j ≠ 1 → j ≠ 2 → k 4 j = H 4 j := fun j hj hi => by
    rw [e, c_srsH, z_st_cell _ (by decide), z_st_cell _ (by decide), z_st_cell _ (by decide), z_rw_ne _ _ (by decide), z_st_slot _ hi, z_st_slot _ hj, c_n9, z_st_cell _ (by decide), z_st_cell _ (by decide), c1 4 (by decide), z_nw_ne _ (by decide), c_n8, z_st_cell _ (by decide), z_st_cell _ (by decide), b1 4 (by decide), z_nw_ne _ (by decide), c_n7_S5 (by decide) (by decide), c_S5, z_st_cell _ (by decide), c_P3_ne (by decide) (by decide) (by decide), z_nw_ne _ (by decide), z_st_cell _ (by decide), z_st_slot _ hi]
  have P28 : ∀ q, q = 28 ∨ q = 29 ∨ q = 30 → k q = c_P3 (z_nw (z_st (z_st H 4 2 6) 3 0 4) 28 (0, 2)) 28 q := fun q hq => by
    rw [t3 q (by omega) (by omega) (by omega) (by omega) (by omega), c_n7_S5 (by omega) (by omega), c_S5, z_st_cell _ (by omega)]
  have P38 : ∀ q, q = 38 ∨ q = 39 ∨ q = 40 → k q = c_P3 (z_nw (c_n6 H) 38 (0, 2)) 38 q := fun q hq => by
    rw [t3 q (by omega) (by omega) (by omega) (by omega) (by omega), c_n7, z_st_cell _ (by omega)]
  have n28 : c_n9 H3 28 = k 28 := by
    rw [e, c_srs_cell (by decide) (by decide) (by decide)]
  have p28 := y_pl (k := z_nw (z_st (z_st H 4 2 6) 3 0 4) 28 (0, 2)) (K := 28)
  have k285 : k 28 5 = 12 ∧ k 28 6 = 0 := by
    rw [P28 28 (Or.inl rfl)]
    exact ⟨p28.2.2.2.2.2.2.1, p28.2.2.2.2.2.2.2.1⟩
  refine ⟨⟨?_, ?_, ?_, ?_, ?_, ?_, ?_, ?_, ?_⟩, ⟨?_, ?_⟩, ⟨?_, ?_, ?_⟩, ⟨?_, ?_, ?_⟩, ⟨?_, ?_, ?_⟩, fun r => ?_, ⟨?_, ?_⟩, k33, ⟨?_, ?_, ?_, fun j j0 j1 => ?_, fun j j0 j1 => ?_⟩, ⟨?_, ?_, ?_, fun j j0 j1 => ?_, fun j j0 j1 => ?_⟩, ⟨?_, ?_, ?_, fun j j0 j1 => ?_, fun j j0 j1 => ?_⟩, ⟨?_, ?_, fun p p0 p1 => ?_⟩, fun _ _ => Or.inr trivial, ⟨_, P28⟩, ⟨_, P38⟩⟩
  · rw [k0j 0 (by decide) (by decide) (by decide) (by decide) (by decide) (by decide), a1 0 (by decide), z_nw_ne _ (by decide), z_nw_ne _ (by decide), c_n1, z_st_at]
  · rw [k0]; exact c_n7_01 H
  · rw [k0, c_n7_0 (by decide), c_n6_0 (by decide), c_n5_0 (by decide), c_n4_0 (by decide)]; exact z_st_at _ _ _ _
  · rw [k0, c_n7_0 (by decide), c_n6_0 (by decide), c_n5_0 (by decide)]; exact z_st_at _ _ _ _
  · rw [k0, c_n7_0 (by decide), c_n6_0 (by decide)]; exact z_st_at _ _ _ _
  · rw [k0]; exact c_n7_05 H
  · rw [e, c_srs_cell (by decide) (by decide) (by decide), c_n9, z_st_slot _ (by decide), z_st_cell _ (by decide), c1 37 (by decide), z_nw_ne _ (by decide), c_n8, z_st_at]
  · rw [e, c_srs_cell (by decide) (by decide) (by decide), c_n9, z_st_at]
  · rw [t3 32 (by decide) (by decide) (by decide) (by decide) (by decide), c_n7_lo (by decide) (by decide), c_n6_lo (by decide) (by decide), c_n5_lo (by decide) (by decide), c_n4, z_st_cell _ (by decide), z_st_at]
  · rw [t3 3 (by decide) (by decide) (by decide) (by decide) (by decide), c_n7_S5 (by decide) (by decide), c_S5_30]
  · rw [t3 3 (by decide) (by decide) (by decide) (by decide) (by decide), c_n7_S5 (by decide) (by decide), c_S5_31]
  · rw [k0, c_n7, z_st_at]
  · rw [k0j 7 (by decide) (by decide) (by decide) (by decide) (by decide) (by decide), s0 7 (by decide)]; rfl
  · rw [k0j 8 (by decide) (by decide) (by decide) (by decide) (by decide) (by decide), s0 8 (by decide)]; rfl
  · rw [t3 34 (by decide) (by decide) (by decide) (by decide) (by decide), c_n7_lo (by decide) (by decide), c_n6_lo (by decide) (by decide), c_n5, z_st_cell _ (by decide), z_st_slot _ (by decide), z_nw_ne _ (by decide), z_st_at]
  · rw [t3 34 (by decide) (by decide) (by decide) (by decide) (by decide), c_n7_lo (by decide) (by decide), c_n6_lo (by decide) (by decide), c_n5, z_st_cell _ (by decide), z_st_at]
  · rw [k34 2 (by decide) (by decide)]; rfl
  · rw [t4 1 (by decide) (by decide) (by decide) (by decide) (by decide) (by decide), a1 1 (by decide), z_nw_ne _ (by decide), z_nw_ne _ (by decide), c_n1, z_st_cell _ (by decide), z_st_at]
  · rw [k1 1 (by decide)]; rfl
  · rw [k1 5 (by decide)]; rfl
  · rw [t4 2 (by decide) (by decide) (by decide) (by decide) (by decide) (by decide), a1 2 (by decide), z_nw_ne _ (by decide), z_nw_ne _ (by decide), c_n1, z_st_cell _ (by decide), z_st_cell _ (by decide), z_nw_is _ (by decide)]; rfl
  · rw [k31]; rfl
  · rw [k31]; rfl
  · rw [k4 0 (by decide) (by decide)]; exact a2
  · rw [e, c_srsH, z_st_cell _ (by decide), z_st_cell _ (by decide), z_st_cell _ (by decide), z_rw_ne _ _ (by decide), z_st_slot _ (by decide), z_st_at]
  · rw [e, c_srsH, z_st_cell _ (by decide), z_st_cell _ (by decide), z_st_cell _ (by decide), z_rw_ne _ _ (by decide), z_st_at]; rfl
  · rw [t4 (4 + 1) (by decide) (by decide) (by decide) (by decide) (by decide) (by decide)]; exact a4 j j0 (by omega)
  · by_cases g : j = 0
    · subst g
      have x6 : k (4 + 2 + 2 * 0) 0 = H (4 + 2 + 2 * 0) 0 := by
        show k 6 0 = H 6 0
        rw [e, c_srsH, z_st_slot _ (by decide), z_st_slot _ (by decide), z_st_slot _ (by decide), z_rw_ne _ _ (by decide), z_st_cell _ (by decide), z_st_cell _ (by decide), c_n9, z_st_cell _ (by decide), z_st_cell _ (by decide), c1 6 (by decide), z_nw_ne _ (by decide), c_n8, z_st_cell _ (by decide), z_st_cell _ (by decide), b1 6 (by decide), z_nw_ne _ (by decide), c_n7_S5 (by decide) (by decide), c_S5_ne (by decide) (by decide) (by decide)]
      have y6 : k (4 + 2 + 2 * 0) 1 = 0 := by
        show k 6 1 = 0
        rw [e, c_srsH, z_st_slot _ (by decide), z_st_slot _ (by decide), z_st_at]
      rw [x6, y6]
      exact ⟨(a5 0 (by decide) (by decide)).1, rfl⟩
    · rw [t4 _ (by omega) (by omega) (by omega) (by omega) (by omega) (by omega)]
      exact ⟨(a5 j j0 (by omega)).1, (a5 j j0 (by omega)).2.1⟩
  · rw [t1 41 (by decide) (by decide) (by decide) (by decide) (by decide), c1 41 (by decide), z_nw_ne _ (by decide), c_n8, z_st_cell _ (by decide), z_st_slot _ (by decide)]; exact b2
  · rw [t1 41 (by decide) (by decide) (by decide) (by decide) (by decide), c1 41 (by decide), z_nw_ne _ (by decide), c_n8, z_st_cell _ (by decide), z_st_slot _ (by decide)]
    exact b3.trans (by rw [z_nw_is _ (by decide)]; rfl)
  · rw [t1 41 (by decide) (by decide) (by decide) (by decide) (by decide), c1 41 (by decide), z_nw_ne _ (by decide), c_n8, z_st_cell _ (by decide), z_st_at]; rfl
  · rw [t2 (41 + 1) (by decide) (by decide) (by decide) (by decide) (by decide) (by decide)]; exact b4 j j0 (by omega)
  · rw [t2 _ (by omega) (by omega) (by omega) (by omega) (by omega) (by omega)]
    exact ⟨(b5 j j0 (by omega)).1, (b5 j j0 (by omega)).2.1⟩
  · rw [e, c_srs_cell (by decide) (by decide) (by decide), c_n9, z_st_cell _ (by decide), z_st_slot _ (by decide)]; exact c2
  · rw [e, c_srs_cell (by decide) (by decide) (by decide), c_n9, z_st_cell _ (by decide), z_st_slot _ (by decide)]
    exact c3.trans (by rw [z_nw_is _ (by decide)]; rfl)
  · rw [e, c_srs_cell (by decide) (by decide) (by decide), c_n9, z_st_cell _ (by decide), z_st_at]; rfl
  · rw [t1 (65 + 1) (by decide) (by decide) (by decide) (by decide) (by decide)]; exact c4 j j0 (by omega)
  · rw [t1 _ (by omega) (by omega) (by omega) (by omega) (by omega)]
    exact ⟨(c5 j j0 (by omega)).1, (c5 j j0 (by omega)).2.1⟩
  · rw [e, c_srsH, z_st_slot _ (by decide), z_st_at, n28]; exact k285.1
  · rw [e, c_srsH, z_st_at, n28]; exact k285.2
  · rw [e, c_srsH, z_st_cell _ (by decide), z_st_cell _ (by decide), z_st_cell _ (by decide)]
    show z_rw _ 7 _ 7 p = 0
    rw [z_rw_at]
    exact if_pos ⟨p0, by omega⟩
end INIT
