/-! EACH CALL, 9: the window -/
section OPS
variable {h : z_H}
theorem m_beg_92 (G : z_H) (m s : Int) : r_begH G m s 92 = r_beg (G 92) m s := by
  unfold r_begH
  rw [z_st_cell _ (by decide), z_st_cell _ (by decide), z_st_cell _ (by decide), z_st_cell _ (by decide), z_rw_at]
theorem m_beg_c (G : z_H) (m s : Int) {q : Int} (a : q ≠ 89) (b : q ≠ 92) (c : q ≠ 98) : r_begH G m s q = G q := by
  unfold r_begH
  rw [z_st_cell _ c, z_st_cell _ c, z_st_cell _ a, z_st_cell _ a, z_rw_ne _ _ b]
theorem m_beg_s (G : z_H) (m s : Int) {j : Int} (a : j ≠ 8) (b : j ≠ 14) : r_begH G m s 89 j = G 89 j := by
  unfold r_begH
  rw [z_st_cell _ (by decide), z_st_cell _ (by decide), z_st_slot _ b, z_st_slot _ a, z_rw_ne _ _ (by decide)]
theorem m_beg_8 (G : z_H) (m s : Int) : r_begH G m s 89 8 = 0 ∧ r_begH G m s 89 14 = 0 ∧ r_begH G m s 98 0 = 0 ∧ r_begH G m s 98 1 = 0 := by
  unfold r_begH
  refine ⟨?_, ?_, ?_, ?_⟩
  · rw [z_st_cell _ (by decide), z_st_cell _ (by decide), z_st_slot _ (by decide), z_st_at]
  · rw [z_st_cell _ (by decide), z_st_cell _ (by decide), z_st_at]
  · rw [z_st_slot _ (by decide), z_st_at]
  · rw [z_st_at]
/-- the reference's window told -/
theorem m_win_c (G : z_H) : (∀ q, q ≠ 89 → q ≠ 90 → q ≠ 91 → q ≠ 92 → q ≠ 98 → m_winH G q = G q) ∧ (∀ j, j ≠ 0 → j ≠ 1 → j ≠ 4 → j ≠ 8 → j ≠ 14 → j ≠ 16 → m_winH G 89 j = G 89 j) ∧ m_winH G 89 0 = G 89 23 ∧ m_winH G 89 1 = G 89 24 ∧ m_winH G 89 4 = G 89 27 ∧ m_winH G 89 16 = 0 ∧ m_winH G 89 8 = 0 ∧ m_winH G 89 14 = 0 ∧ m_winH G 98 0 = 0 ∧ m_winH G 98 1 = 0 ∧ (∀ p, 0 ≤ p → p < 20 → m_winH G 90 p = G 101 p) ∧ (∀ p, 0 ≤ p → p < 8 → m_winH G 91 p = G 102 p) ∧ m_winH G 92 = r_beg (G 92) (if G 89 28 = -9 then 12 else G 89 28) (if G 89 29 = -9 then 0 else G 89 29) := by
  have b8 := m_beg_8 (r_cp (r_cp (z_st (z_st (z_st (z_st G 89 16 0) 89 0 (G 89 23)) 89 1 (G 89 24)) 89 4 (G 89 27)) 101 0 90 0 20) 102 0 91 0 8) (if G 89 28 = -9 then 12 else G 89 28) (if G 89 29 = -9 then 0 else G 89 29)
  unfold m_winH
  refine ⟨fun q a b c d e => ?_, fun j a b c d e f => ?_, ?_, ?_, ?_, ?_, b8.1, b8.2.1, b8.2.2.1, b8.2.2.2, fun p p0 p1 => ?_, fun p p0 p1 => ?_, ?_⟩
  · rw [m_beg_c _ _ _ a d e, r_cp_ne c, r_cp_ne b, z_st_cell _ a, z_st_cell _ a, z_st_cell _ a, z_st_cell _ a]
  · rw [m_beg_s _ _ _ d e, r_cp_ne (by decide), r_cp_ne (by decide), z_st_slot _ c, z_st_slot _ b, z_st_slot _ a, z_st_slot _ f]
  · rw [m_beg_s _ _ _ (by decide) (by decide), r_cp_ne (by decide), r_cp_ne (by decide), z_st_slot _ (by decide), z_st_slot _ (by decide), z_st_at]
  · rw [m_beg_s _ _ _ (by decide) (by decide), r_cp_ne (by decide), r_cp_ne (by decide), z_st_slot _ (by decide), z_st_at]
  · rw [m_beg_s _ _ _ (by decide) (by decide), r_cp_ne (by decide), r_cp_ne (by decide), z_st_at]
  · rw [m_beg_s _ _ _ (by decide) (by decide), r_cp_ne (by decide), r_cp_ne (by decide), z_st_slot _ (by decide), z_st_slot _ (by decide), z_st_slot _ (by decide), z_st_at]
  · rw [m_beg_c _ _ _ (by decide) (by decide) (by decide), r_cp_ne (by decide)]
    have := r_cp_at (h := z_st (z_st (z_st (z_st G 89 16 0) 89 0 (G 89 23)) 89 1 (G 89 24)) 89 4 (G 89 27)) (A := 101) (i := 0) (B := 90) (j := 0) (m := 20) p p0 p1
    rw [Int.zero_add] at this
    rw [this, z_st_cell _ (by decide), z_st_cell _ (by decide), z_st_cell _ (by decide), z_st_cell _ (by decide)]
  · rw [m_beg_c _ _ _ (by decide) (by decide) (by decide)]
    have := r_cp_at (h := r_cp (z_st (z_st (z_st (z_st G 89 16 0) 89 0 (G 89 23)) 89 1 (G 89 24)) 89 4 (G 89 27)) 101 0 90 0 20) (A := 102) (i := 0) (B := 91) (j := 0) (m := 8) p p0 p1
    rw [Int.zero_add] at this
    rw [this, r_cp_ne (by decide), z_st_cell _ (by decide), z_st_cell _ (by decide), z_st_cell _ (by decide), z_st_cell _ (by decide)]
  · rw [m_beg_92, r_cp_ne (by decide), r_cp_ne (by decide), z_st_cell _ (by decide), z_st_cell _ (by decide), z_st_cell _ (by decide), z_st_cell _ (by decide)]
/-- the class's window told -/
theorem c_win_c (H : z_H) {pl dr m : Int} (hm : 6 ≤ m ∧ m ≤ 26) : (∀ q, q ≠ 0 → q ≠ 1 → q ≠ 3 → q ≠ 4 → q ≠ 34 → q ≠ m → q ≠ m + 1 → c_winH H pl dr m q = H q) ∧ (∀ j, j ≠ 6 → j ≠ 7 → c_winH H pl dr m 0 j = H 0 j) ∧ c_winH H pl dr m 0 6 = pl ∧ c_winH H pl dr m 0 7 = 0 ∧ (∀ j, j ≠ 1 → c_winH H pl dr m 1 j = H 1 j) ∧ c_winH H pl dr m 1 1 = 0 ∧ (∀ j, j ≠ 1 → c_winH H pl dr m 3 j = H 3 j) ∧ c_winH H pl dr m 3 1 = dr ∧ (∀ j, j ≠ 1 → j ≠ 2 → c_winH H pl dr m 4 j = H 4 j) ∧ c_winH H pl dr m 4 1 = 0 ∧ c_winH H pl dr m 4 2 = m ∧ (∀ j, j ≠ 2 → c_winH H pl dr m 34 j = H 34 j) ∧ c_winH H pl dr m 34 2 = 0 := by
  unfold c_winH c_srsH
  refine ⟨fun q a b c d e f g => ?_, fun j a b => ?_, ?_, ?_, fun j a => ?_, ?_, fun j a => ?_, ?_, fun j a b => ?_, ?_, ?_, fun j a => ?_, ?_⟩
  · rw [z_st_cell _ b, z_st_cell _ e, z_st_cell _ a, z_st_cell _ f, z_st_cell _ f, z_st_cell _ f, z_rw_ne _ _ g, z_st_cell _ d, z_st_cell _ d, z_st_cell _ a, z_st_cell _ c]
  · rw [z_st_cell _ (by decide), z_st_cell _ (by decide), z_st_slot _ b, z_st_cell _ (by omega), z_st_cell _ (by omega), z_st_cell _ (by omega), z_rw_ne _ _ (by omega), z_st_cell _ (by decide), z_st_cell _ (by decide), z_st_slot _ a, z_st_cell _ (by decide)]
  · rw [z_st_cell _ (by decide), z_st_cell _ (by decide), z_st_slot _ (by decide), z_st_cell _ (by omega), z_st_cell _ (by omega), z_st_cell _ (by omega), z_rw_ne _ _ (by omega), z_st_cell _ (by decide), z_st_cell _ (by decide), z_st_at]
  · rw [z_st_cell _ (by decide), z_st_cell _ (by decide), z_st_at]
  · rw [z_st_slot _ a, z_st_cell _ (by decide), z_st_cell _ (by decide), z_st_cell _ (by omega), z_st_cell _ (by omega), z_st_cell _ (by omega), z_rw_ne _ _ (by omega), z_st_cell _ (by decide), z_st_cell _ (by decide), z_st_cell _ (by decide), z_st_cell _ (by decide)]
  · rw [z_st_at]
  · rw [z_st_cell _ (by decide), z_st_cell _ (by decide), z_st_cell _ (by decide), z_st_cell _ (by omega), z_st_cell _ (by omega), z_st_cell _ (by omega), z_rw_ne _ _ (by omega), z_st_cell _ (by decide), z_st_cell _ (by decide), z_st_cell _ (by decide), z_st_slot _ a]
  · rw [z_st_cell _ (by decide), z_st_cell _ (by decide), z_st_cell _ (by decide), z_st_cell _ (by omega), z_st_cell _ (by omega), z_st_cell _ (by omega), z_rw_ne _ _ (by omega), z_st_cell _ (by decide), z_st_cell _ (by decide), z_st_cell _ (by decide), z_st_at]
  · rw [z_st_cell _ (by decide), z_st_cell _ (by decide), z_st_cell _ (by decide), z_st_cell _ (by omega), z_st_cell _ (by omega), z_st_cell _ (by omega), z_rw_ne _ _ (by omega), z_st_slot _ b, z_st_slot _ a, z_st_cell _ (by decide), z_st_cell _ (by decide)]
  · rw [z_st_cell _ (by decide), z_st_cell _ (by decide), z_st_cell _ (by decide), z_st_cell _ (by omega), z_st_cell _ (by omega), z_st_cell _ (by omega), z_rw_ne _ _ (by omega), z_st_slot _ (by decide), z_st_at]
  · rw [z_st_cell _ (by decide), z_st_cell _ (by decide), z_st_cell _ (by decide), z_st_cell _ (by omega), z_st_cell _ (by omega), z_st_cell _ (by omega), z_rw_ne _ _ (by omega), z_st_at]
  · rw [z_st_cell _ (by decide), z_st_slot _ a, z_st_cell _ (by decide), z_st_cell _ (by omega), z_st_cell _ (by omega), z_st_cell _ (by omega), z_rw_ne _ _ (by omega), z_st_cell _ (by decide), z_st_cell _ (by decide), z_st_cell _ (by decide), z_st_cell _ (by decide)]
  · rw [z_st_cell _ (by decide), z_st_at]
theorem c_win_m (H : z_H) {pl dr m : Int} (hm : 6 ≤ m ∧ m ≤ 26) (hdr : dr = 28 ∨ dr = 38) : c_winH H pl dr m m 0 = H m 0 ∧ c_winH H pl dr m m 1 = 0 ∧ c_winH H pl dr m m 2 = H dr 5 ∧ c_winH H pl dr m m 3 = H dr 6 ∧ ∀ p, 0 ≤ p → p < 20 → c_winH H pl dr m (m + 1) p = 0 := by
  have e5 : ∀ j, z_st (z_st H 3 1 dr) 0 6 pl dr j = H dr j := fun j => by rw [z_st_cell _ (by omega), z_st_cell _ (by omega)]
  unfold c_winH c_srsH
  refine ⟨?_, ?_, ?_, ?_, fun p p0 p1 => ?_⟩
  · rw [z_st_cell _ (by omega), z_st_cell _ (by omega), z_st_cell _ (by omega), z_st_slot _ (by decide), z_st_slot _ (by decide), z_st_slot _ (by decide), z_rw_ne _ _ (by omega), z_st_cell _ (by omega), z_st_cell _ (by omega), z_st_cell _ (by omega), z_st_cell _ (by omega)]
  · rw [z_st_cell _ (by omega), z_st_cell _ (by omega), z_st_cell _ (by omega), z_st_slot _ (by decide), z_st_slot _ (by decide), z_st_at]
  · rw [z_st_cell _ (by omega), z_st_cell _ (by omega), z_st_cell _ (by omega), z_st_slot _ (by decide), z_st_at, e5]
  · rw [z_st_cell _ (by omega), z_st_cell _ (by omega), z_st_cell _ (by omega), z_st_at, e5]
  · rw [z_st_cell _ (by omega), z_st_cell _ (by omega), z_st_cell _ (by omega), z_st_cell _ (by omega), z_st_cell _ (by omega), z_st_cell _ (by omega), z_rw_at]
    exact if_pos ⟨p0, by omega⟩
end OPS
