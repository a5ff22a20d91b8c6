/-! THE REFERENCE's window -/
def m_rdF (h : z_H) (T : Int → Int) (N : Int) : Int × Bool × z_H × t_R := m_rdL T N 171 (m_rd0 h) (m_tok T N 0) 0
def m_winH (G : z_H) : z_H := r_begH (r_cp (r_cp (z_st (z_st (z_st (z_st G 89 16 0) 89 0 (G 89 23)) 89 1 (G 89 24)) 89 4 (G 89 27)) 101 0 90 0 20) 102 0 91 0 8) (if G 89 28 = -9 then 12 else G 89 28) (if G 89 29 = -9 then 0 else G 89 29)
theorem m_rd0_ok {h : z_H} {T : Int → Int} {N : Int} (hO : r_Ob h) (hX : r_Tx h T N) (hC : ∀ i, 0 ≤ i → i < 8 → 0 ≤ h 102 i ∧ h 102 i < 8) : m_PR (m_rd0 h) T N := by
  unfold m_rd0
  have hO1 : r_Ob (z_rw (z_st (z_st h 89 23 5) 89 24 4) 101 (fun r => if 0 ≤ r ∧ r < 20 then 7 else h 101 r)) := ((hO.st (Or.inr (by decide))).st (Or.inr (by decide))).rw_ (by decide)
  have hO2 : r_Ob (m_rd0 h) := ((hO1.st (Or.inr (by decide))).st (Or.inr (by decide))).st (Or.inr (by decide))
  obtain ⟨a, b, c, d⟩ := hX
  refine ⟨hO2, ⟨?_, ?_, c, d⟩, ?_, ?_, ?_, ?_, ?_, fun i g0 g1 => ?_, fun i g0 g1 => ?_⟩
  · rw [z_st_cell _ (by decide), z_st_cell _ (by decide), z_st_cell _ (by decide), z_rw_ne _ _ (by decide), z_st_cell _ (by decide), z_st_cell _ (by decide)]; exact a
  · rw [z_st_slot _ (by decide), z_st_slot _ (by decide), z_st_slot _ (by decide), z_rw_ne _ _ (by decide), z_st_slot _ (by decide), z_st_slot _ (by decide)]; exact b
  · rw [z_st_slot _ (by decide), z_st_slot _ (by decide), z_st_slot _ (by decide), z_rw_ne _ _ (by decide), z_st_slot _ (by decide), z_st_at]; decide
  · rw [z_st_slot _ (by decide), z_st_slot _ (by decide), z_st_slot _ (by decide), z_rw_ne _ _ (by decide), z_st_at]; decide
  · rw [z_st_slot _ (by decide), z_st_slot _ (by decide), z_st_at]; decide
  · rw [z_st_slot _ (by decide), z_st_at]; exact Or.inl rfl
  · rw [z_st_at]; exact Or.inl rfl
  · rw [z_st_cell _ (by decide), z_st_cell _ (by decide), z_st_cell _ (by decide), z_rw_at]
    show 0 ≤ (if 0 ≤ i ∧ i < 20 then (7 : Int) else h 101 i) ∧ (if 0 ≤ i ∧ i < 20 then (7 : Int) else h 101 i) < 8
    rw [if_pos ⟨g0, g1⟩]
    decide
  · rw [z_st_cell _ (by decide), z_st_cell _ (by decide), z_st_cell _ (by decide), z_rw_ne _ _ (by decide), z_st_cell _ (by decide), z_st_cell _ (by decide)]; exact hC i g0 g1
