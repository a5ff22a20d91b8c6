/-! EACH CALL, 8: the window told -/
section OPS
variable {h k : z_H}
theorem v_S.fr2 (v : v_S h) (c28 : c_Pl k 28) (c38 : c_Pl k 38) (hpl : (k 3 1 = 28 ∧ k 0 6 = 38) ∨ (k 3 1 = 38 ∧ k 0 6 = 28)) (e30 : k 3 0 = h 3 0) (e32 : k 32 = h 32) (e37 : k 37 = h 37) (h0 : ∀ j, j ≤ 5 → k 0 j = h 0 j) (h34 : ∀ j, j ≤ 1 → k 34 j = h 34 j) (h89 : ∀ j, r_mut j = false → k 89 j = h 89 j) (rp : r_Pl k) : v_S k := by
  obtain ⟨⟨a1, a2, a3, a4, a5, a6, a7, a8, a9⟩, b, c, d, e, f, g, i, j⟩ := v
  refine ⟨⟨?_, ?_, ?_, ?_, ?_, ?_, ?_, ?_, ?_⟩, by rw [e30]; exact b, hpl, c28, c38, ?_, ?_, i.to h89, rp⟩
  · rw [h0 _ (by decide)]; exact a1
  · rw [h0 _ (by decide)]; exact a2
  · rw [h0 _ (by decide)]; exact a3
  · rw [h0 _ (by decide)]; exact a4
  · rw [h0 _ (by decide)]; exact a5
  · rw [h0 _ (by decide)]; exact a6
  · rw [e37]; exact a7
  · rw [e37]; exact a8
  · rw [e32]; exact a9
  · rw [h34 _ (by decide)]; exact f
  · rw [h34 _ (by decide)]; exact g
theorem v_T.fr2 (v : v_T h) (e2 : k 2 = h 2) (e100 : k 100 = h 100) (e0 : k 1 0 = h 1 0) (e1 : k 1 1 = h 1 1) (e5 : 0 ≤ k 1 5 ∧ k 1 5 ≤ 999) (e16 : k 89 16 = h 89 16) : v_T k := by
  obtain ⟨a, b, c, d⟩ := v
  unfold v_T c_Rd
  rw [e2, e100, e0, e1, e16]
  exact ⟨a, e5, c, d⟩
theorem c_Pl.fr {P : Int} (v : c_Pl h P) (e0 : k P = h P) (e1 : k (P + 1) = h (P + 1)) (e2 : k (P + 2) = h (P + 2)) : c_Pl k P := by
  unfold c_Pl
  rw [e0, e1, e2]
  exact v
/-- the reading of both -/
theorem v_rd (v : v_N h) (e89 : ∀ j, r_mut j = false ∨ j = 16 → k 89 j = h 89 j) (e100 : k 100 = h 100) (e102 : k 102 = h 102) : r_Ob k ∧ r_Tx k (h 2) (h 1 1) ∧ (∀ i, 0 ≤ i → i < 8 → 0 ≤ k 102 i ∧ k 102 i < 8) ∧ ((c_rdF h (h 2) (h 1 1) (h 0 6)).1 = (m_rdF k (h 2) (h 1 1)).1 ∧ ((m_rdF k (h 2) (h 1 1)).2.1 = true → g_R (c_rdF h (h 2) (h 1 1) (h 0 6)).2.1 (m_rdF k (h 2) (h 1 1)).2.2.1 (h 0 6) ∧ 0 ≤ (c_rdF h (h 2) (h 1 1) (h 0 6)).1) ∧ ((m_rdF k (h 2) (h 1 1)).2.1 = false → (c_rdF h (h 2) (h 1 1) (h 0 6)).1 < 0)) ∧ m_Out k (m_rdF k (h 2) (h 1 1)).2.2.1 ∧ m_PR (m_rdF k (h 2) (h 1 1)).2.2.1 (h 2) (h 1 1) := by
  obtain ⟨hRd, hv5, ht, hn⟩ := id v.2.1
  obtain ⟨r10, r11, r2, hN, hT⟩ := id hRd
  have hob : r_Ob k := v.rob.to (fun j hj => e89 j (Or.inl hj))
  have hTx : r_Tx k (h 2) (h 1 1) := ⟨by rw [e100, ht], by rw [e89 16 (Or.inr rfl), hn], hN, hT⟩
  have hC : ∀ i, 0 ≤ i → i < 8 → 0 ≤ k 102 i ∧ k 102 i < 8 := by rw [e102]; exact v.2.2.1.2.2.2.1
  have hP := v.1.pl.2.2
  obtain ⟨kp, rp0, rp1, kp1, kp2, hw, hh, hs, hgl, hpi⟩ := id hP
  have p1 : h 0 6 ≠ 1 := fun e => by rw [e] at kp; revert kp; decide
  have q1 : h 0 6 + 1 ≠ 1 := fun e => by rw [e] at kp1; revert kp1; decide
  have q2 : h 0 6 + 2 ≠ 1 := fun e => by rw [e] at kp2; revert kp2; decide
  have m0 := m_rd0_ok hob hTx hC
  have k0 : 0 ≤ ((0 : Int), (0 : Int), (0 : Int), (0 : Int), (0 : Int)).1 ∧ ((0 : Int), (0 : Int), (0 : Int), (0 : Int), (0 : Int)).1 ≤ h 1 1 := ⟨Int.le_refl 0, hN.1⟩
  have hm := m_nx_ok (T := h 2) (N := h 1 1) (q := (0, 0, 0, 0, 0)) hN hT k0
  have hf := m_fwd (T := h 2) (N := h 1 1) (0, 0, 0, 0, 0) k0
  have key := g_rdL p1 q1 q2 171 (c_rd0 h (h 0 6)) (m_rd0 k) (t_tok (h 2) (h 1 1) 0 (h 1 5)) (m_tok (h 2) (h 1 1) 0) 0 (g_R0 p1 q1 q2) (g_tok _ _ _ _) (c_rd0_ok hRd kp rp0 rp1 kp1 kp2 hpi) (t_nx_ok2 (q := (0, 0, 0, h 1 5)) hN hT ⟨by show (0 : Int) ≤ 0; decide, hN.1⟩ hv5) m0 hm (by decide) hm.2.1.1 (fun w => hf.2.2 w)
  obtain ⟨o1, o2⟩ := m_rdL_out 171 (m_rd0 k) (m_tok (h 2) (h 1 1) 0) 0 m0 hm
  exact ⟨hob, hTx, hC, key, (m_rd0_out k).tr o1, o2⟩
end OPS
