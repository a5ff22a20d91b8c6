/-! THE REFERENCE's reading -/
theorem r_tq_c (h : z_H) (q : t_R) {k : Int} (e : k ≠ 89) : r_tq h q k = h k := r_tk_c e
theorem r_tq_s (h : z_H) (q : t_R) {j : Int} (hj : ¬ (18 ≤ j ∧ j ≤ 22)) : r_tq h q 89 j = h 89 j := r_tk_s hj
theorem r_tq_out (h : z_H) (q : t_R) {k j v : Int} (hk : k ≠ 89 ∨ ¬ (18 ≤ j ∧ j ≤ 22)) : z_st (r_tq h q) k j v = r_tq (z_st h k j v) q := r_tk_out h _ _ _ _ _ hk
theorem r_Tx_st {h : z_H} {T : Int → Int} {N k j v : Int} (h1 : k ≠ 100) (h2 : k ≠ 89 ∨ j ≠ 16) (hX : r_Tx h T N) : r_Tx (z_st h k j v) T N := by
  obtain ⟨a, b, c, d⟩ := hX
  exact ⟨by rw [z_st_cell h (fun e => h1 e.symm)]; exact a, by rw [z_st_ne h (fun g => by omega)]; exact b, c, d⟩
def m_szR (T : Int → Int) (N : Int) (H : z_H) (q : t_R) : Bool × z_H × t_R :=
  if m_nm 1 5 (m_nx T N q) = false then (false, H, m_nx T N q)
  else if m_nm 1 4 (m_nx T N (m_nx T N q)) = false then (false, z_st H 89 23 (m_nx T N q).2.2.2.2, m_nx T N (m_nx T N q))
  else (true, z_st (z_st H 89 23 (m_nx T N q).2.2.2.2) 89 24 (m_nx T N (m_nx T N q)).2.2.2.2, m_nx T N (m_nx T N q))
def m_glR (T : Int → Int) (N : Int) (H : z_H) (q : t_R) : Bool × z_H × t_R :=
  if m_nm 0 (H 89 23 - 1) (m_nx T N q) = false then (false, H, m_nx T N q)
  else if m_nm 0 (H 89 24 - 1) (m_nx T N (m_nx T N q)) = false then (false, H, m_nx T N (m_nx T N q))
  else if m_nm 0 7 (m_nx T N (m_nx T N (m_nx T N q))) = false then (false, H, m_nx T N (m_nx T N (m_nx T N q)))
  else (true, z_st H 101 (4 * (m_nx T N q).2.2.2.2 + (m_nx T N (m_nx T N q)).2.2.2.2) (m_nx T N (m_nx T N (m_nx T N q))).2.2.2.2, m_nx T N (m_nx T N (m_nx T N q)))
def m_scR (T : Int → Int) (N : Int) (H : z_H) (q : t_R) : Bool × z_H × t_R :=
  if H 89 27 = 8 then (false, H, q)
  else if m_nm 0 7 (m_nx T N q) = false then (false, H, m_nx T N q)
  else (true, z_st (z_st H 102 (H 89 27) (m_nx T N q).2.2.2.2) 89 27 (H 89 27 + 1), m_nx T N q)
def m_miR (T : Int → Int) (N : Int) (H : z_H) (q : t_R) : Bool × z_H × t_R :=
  if ¬ H 89 28 = -9 then (false, H, q)
  else if m_nm 1 12 (m_nx T N q) = false then (false, H, m_nx T N q)
  else (true, z_st H 89 28 (m_nx T N q).2.2.2.2, m_nx T N q)
def m_seR (T : Int → Int) (N : Int) (H : z_H) (q : t_R) : Bool × z_H × t_R :=
  if ¬ H 89 29 = -9 then (false, H, q)
  else if m_nm 0 3 (m_nx T N q) = false then (false, H, m_nx T N q)
  else (true, z_st H 89 29 (m_nx T N q).2.2.2.2, m_nx T N q)
def m_itR (T : Int → Int) (N : Int) (H : z_H) (q : t_R) (fb : Bool) : Bool × z_H × t_R :=
  if q.2.2.2.1 = 103 then (if fb then m_szR T N H q else (false, H, q))
  else if q.2.2.2.1 = 109 then m_miR T N H q
  else if q.2.2.2.1 = 112 then m_glR T N H q
  else if q.2.2.2.1 = 115 then m_scR T N H q
  else if q.2.2.2.1 = 121 then m_seR T N H q
  else (false, H, q)
/-- what stands while the reference reads -/
def m_PR (H : z_H) (T : Int → Int) (N : Int) : Prop := r_Ob H ∧ r_Tx H T N ∧ (1 ≤ H 89 23 ∧ H 89 23 ≤ 5) ∧ (1 ≤ H 89 24 ∧ H 89 24 ≤ 4) ∧ (0 ≤ H 89 27 ∧ H 89 27 ≤ 8) ∧ (H 89 28 = -9 ∨ (1 ≤ H 89 28 ∧ H 89 28 ≤ 12)) ∧ (H 89 29 = -9 ∨ (0 ≤ H 89 29 ∧ H 89 29 ≤ 3)) ∧ (∀ i, 0 ≤ i → i < 20 → 0 ≤ H 101 i ∧ H 101 i < 8) ∧ ∀ i, 0 ≤ i → i < 8 → 0 ≤ H 102 i ∧ H 102 i < 8
theorem m_nm_of {lo hi : Int} {q : t_R} (h : ¬ m_nm lo hi q = false) : lo ≤ q.2.2.2.2 ∧ q.2.2.2.2 ≤ hi := (of_decide_eq_true (show m_nm lo hi q = true by simpa using h)).2
theorem m_PR.num {H : z_H} {T : Int → Int} {N j v : Int} (h : m_PR H T N) (hj : (j = 23 ∧ 1 ≤ v ∧ v ≤ 5) ∨ (j = 24 ∧ 1 ≤ v ∧ v ≤ 4) ∨ (j = 27 ∧ 0 ≤ v ∧ v ≤ 8) ∨ (j = 28 ∧ 1 ≤ v ∧ v ≤ 12) ∨ (j = 29 ∧ 0 ≤ v ∧ v ≤ 3)) : m_PR (z_st H 89 j v) T N := by
  obtain ⟨hO, hX, a, b, c, d, e, f, g⟩ := h
  have c1 : z_st H 89 j v 101 = H 101 := z_st_cell H (by decide)
  have c2 : z_st H 89 j v 102 = H 102 := z_st_cell H (by decide)
  refine ⟨hO.st (Or.inr (decide_eq_true (by omega))), r_Tx_st (by decide) (Or.inr (by omega)) hX, ?_, ?_, ?_, ?_, ?_, by rw [c1]; exact f, by rw [c2]; exact g⟩
  · by_cases q : j = 23
    · subst q; rw [z_st_at]; omega
    · rw [z_st_slot H (by omega)]; exact a
  · by_cases q : j = 24
    · subst q; rw [z_st_at]; omega
    · rw [z_st_slot H (by omega)]; exact b
  · by_cases q : j = 27
    · subst q; rw [z_st_at]; omega
    · rw [z_st_slot H (by omega)]; exact c
  · by_cases q : j = 28
    · subst q; rw [z_st_at]; omega
    · rw [z_st_slot H (by omega)]; exact d
  · by_cases q : j = 29
    · subst q; rw [z_st_at]; omega
    · rw [z_st_slot H (by omega)]; exact e
theorem m_PR.row {H : z_H} {T : Int → Int} {N k i v : Int} (h : m_PR H T N) (hk : k = 101 ∨ k = 102) (hv : 0 ≤ v ∧ v < 8) : m_PR (z_st H k i v) T N := by
  obtain ⟨hO, hX, a, b, c, d, e, f, g⟩ := h
  have c1 : z_st H k i v 89 = H 89 := z_st_cell H (by omega)
  refine ⟨hO.st (Or.inl (by omega)), r_Tx_st (by omega) (Or.inl (by omega)) hX, by rw [c1]; exact a, by rw [c1]; exact b, by rw [c1]; exact c, by rw [c1]; exact d, by rw [c1]; exact e, fun p h0 h1 => ?_, fun p h0 h1 => ?_⟩
  · by_cases q : 101 = k ∧ p = i
    · obtain ⟨rfl, rfl⟩ := q
      rw [z_st_at]; exact hv
    · rw [z_st_ne H q]; exact f p h0 h1
  · by_cases q : 102 = k ∧ p = i
    · obtain ⟨rfl, rfl⟩ := q
      rw [z_st_at]; exact hv
    · rw [z_st_ne H q]; exact g p h0 h1
theorem m_itR_ok {H : z_H} {T : Int → Int} {N : Int} {q : t_R} {fb : Bool} (h : m_PR H T N) (hq : m_OK N q) : m_PR (m_itR T N H q fb).2.1 T N ∧ m_OK N (m_itR T N H q fb).2.2 := by
  obtain ⟨r2, rN, hN, hT⟩ := id h.2.1
  have k1 := m_nx_ok (T := T) hN hT hq.1
  have k2 := m_nx_ok (T := T) hN hT k1.1
  have k3 := m_nx_ok (T := T) hN hT k2.1
  unfold m_itR
  split
  · split
    · unfold m_szR
      split
      · exact ⟨h, k1⟩
      · split
        · exact ⟨h.num (Or.inl ⟨rfl, m_nm_of (by assumption)⟩), k2⟩
        · exact ⟨(h.num (Or.inl ⟨rfl, m_nm_of (by assumption)⟩)).num (Or.inr (Or.inl ⟨rfl, m_nm_of (by assumption)⟩)), k2⟩
    · exact ⟨h, hq⟩
  split
  · unfold m_miR
    split
    · exact ⟨h, hq⟩
    · split
      · exact ⟨h, k1⟩
      · exact ⟨h.num (Or.inr (Or.inr (Or.inr (Or.inl ⟨rfl, m_nm_of (by assumption)⟩)))), k1⟩
  split
  · unfold m_glR
    split
    · exact ⟨h, k1⟩
    · split
      · exact ⟨h, k2⟩
      · split
        · exact ⟨h, k3⟩
        · rename_i c1 c2 c3
          have b3 := m_nm_of c3
          exact ⟨h.row (Or.inl rfl) ⟨b3.1, by omega⟩, k3⟩
  split
  · unfold m_scR
    split
    · exact ⟨h, hq⟩
    · split
      · exact ⟨h, k1⟩
      · rename_i c1 c2
        have b3 := m_nm_of c2
        have hs := h.2.2.2.2.1
        exact ⟨(h.row (Or.inr rfl) ⟨b3.1, by omega⟩).num (Or.inr (Or.inr (Or.inl ⟨rfl, by omega, by omega⟩))), k1⟩
  split
  · unfold m_seR
    split
    · exact ⟨h, hq⟩
    · split
      · exact ⟨h, k1⟩
      · exact ⟨h.num (Or.inr (Or.inr (Or.inr (Or.inr ⟨rfl, m_nm_of (by assumption)⟩)))), k1⟩
  · exact ⟨h, hq⟩
/-- the reference's loop: its answer, whether all was read, what it has written, where it is -/
def m_rdL (T : Int → Int) (N : Int) : Nat → z_H → t_R → Int → Int × Bool × z_H × t_R
  | 0, H, q, i => (i, true, H, q)
  | f + 1, H, q, i => if q.2.2.1 = 0 then (i, true, H, q) else if ¬ q.2.2.1 = 1 then (-10 - q.2.1, false, H, q) else if (m_itR T N H q (decide (i = 0))).1 = false then (-10 - (m_itR T N H q (decide (i = 0))).2.2.2.1, false, (m_itR T N H q (decide (i = 0))).2.1, (m_itR T N H q (decide (i = 0))).2.2) else if ¬ (m_nx T N (m_itR T N H q (decide (i = 0))).2.2).2.2.1 = 3 then (-10 - (m_nx T N (m_itR T N H q (decide (i = 0))).2.2).2.1, false, (m_itR T N H q (decide (i = 0))).2.1, m_nx T N (m_itR T N H q (decide (i = 0))).2.2) else m_rdL T N f (m_itR T N H q (decide (i = 0))).2.1 (m_nx T N (m_nx T N (m_itR T N H q (decide (i = 0))).2.2)) (i + 1)
def m_rd0 (h : z_H) : z_H := z_st (z_st (z_st (z_rw (z_st (z_st h 89 23 5) 89 24 4) 101 (fun r => if 0 ≤ r ∧ r < 20 then 7 else h 101 r)) 89 27 0) 89 28 (-9)) 89 29 (-9)
/-- where a token ends lies behind where it began -/
theorem m_fwd {T : Int → Int} {N : Int} (q : t_R) (h1 : 0 ≤ q.1 ∧ q.1 ≤ N) : q.1 ≤ (m_nx T N q).2.1 ∧ (m_nx T N q).2.1 ≤ (m_nx T N q).1 ∧ (¬ (m_nx T N q).2.2.1 = 0 → (m_nx T N q).2.1 < (m_nx T N q).1 ∧ (m_nx T N q).2.1 < N) := by
  have s0 := t_go_ge isB T N q.1
  have s1 := t_go_le isB T h1.2
  unfold m_nx m_tok
  show q.1 ≤ t_go isB T N q.1 ∧ t_go isB T N q.1 ≤ t_e T N (t_go isB T N q.1) ∧ (¬ m_k T N (t_go isB T N q.1) = 0 → t_go isB T N q.1 < t_e T N (t_go isB T N q.1) ∧ t_go isB T N q.1 < N)
  generalize t_go isB T N q.1 = s at s0 s1
  have e := t_e_rng (T := T) (N := N) (s := s) (by omega) s1
  refine ⟨s0, e.1, fun hk => ?_⟩
  have hs : s < N := by
    rcases Int.lt_or_le s N with g | g
    · exact g
    · exact absurd (if_pos g) hk
  refine ⟨?_, hs⟩
  unfold t_e
  rw [if_neg (by omega)]
  by_cases hl : isL (T s) = true
  · rw [if_pos hl, t_go_yes hs hl]
    have := t_go_ge isL T N (s + 1)
    omega
  · rw [if_neg hl]
    by_cases hd : isD (T s) = true
    · rw [if_pos hd, t_go_yes hs hd]
      have := t_go_ge isD T N (s + 1)
      omega
    · rw [if_neg hd]
      omega
theorem m_itR_fwd {T : Int → Int} {N : Int} {H : z_H} {q : t_R} {fb : Bool} (hN : 0 ≤ N ∧ N ≤ 170) (hT : ∀ i, 0 ≤ i → i < 170 → 0 ≤ T i ∧ T i ≤ 255) (hq : m_OK N q) : q.1 ≤ (m_itR T N H q fb).2.2.1 := by
  have k1 := m_nx_ok (T := T) hN hT hq.1
  have k2 := m_nx_ok (T := T) hN hT k1.1
  have f1 := m_fwd (T := T) (N := N) q hq.1
  have f2 := m_fwd (T := T) (N := N) (m_nx T N q) k1.1
  have f3 := m_fwd (T := T) (N := N) (m_nx T N (m_nx T N q)) k2.1
  have g1 : q.1 ≤ (m_nx T N q).1 := by omega
  have g2 : q.1 ≤ (m_nx T N (m_nx T N q)).1 := by omega
  have g3 : q.1 ≤ (m_nx T N (m_nx T N (m_nx T N q))).1 := by omega
  unfold m_itR
  split
  · split
    · unfold m_szR
      split
      · exact g1
      · split
        · exact g2
        · exact g2
    · exact Int.le_refl _
  split
  · unfold m_miR
    split
    · exact Int.le_refl _
    · split
      · exact g1
      · exact g1
  split
  · unfold m_glR
    split
    · exact g1
    · split
      · exact g2
      · split
        · exact g3
        · exact g3
  split
  · unfold m_scR
    split
    · exact Int.le_refl _
    · split
      · exact g1
      · exact g1
  split
  · unfold m_seR
    split
    · exact Int.le_refl _
    · split
      · exact g1
      · exact g1
  · exact Int.le_refl _
