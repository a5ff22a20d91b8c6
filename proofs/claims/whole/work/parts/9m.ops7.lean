/-! EACH CALL, 7: the window -/
def m_Out (g h : z_H) : Prop := (∀ q, q ≠ 89 → q ≠ 101 → q ≠ 102 → h q = g q) ∧ ∀ j, ¬ ((23 ≤ j ∧ j ≤ 24) ∨ (27 ≤ j ∧ j ≤ 29)) → h 89 j = g 89 j
theorem m_Out.rf (h : z_H) : m_Out h h := ⟨fun _ _ _ _ => rfl, fun _ _ => rfl⟩
theorem m_Out.tr {f g h : z_H} (a : m_Out f g) (b : m_Out g h) : m_Out f h := ⟨fun q h1 h2 h3 => (b.1 q h1 h2 h3).trans (a.1 q h1 h2 h3), fun j hj => (b.2 j hj).trans (a.2 j hj)⟩
theorem m_Out.st {g h : z_H} {k j v : Int} (a : m_Out g h) (hk : (k = 89 ∧ ((23 ≤ j ∧ j ≤ 24) ∨ (27 ≤ j ∧ j ≤ 29))) ∨ k = 101 ∨ k = 102) : m_Out g (z_st h k j v) := by
  refine ⟨fun q h1 h2 h3 => ?_, fun i hi => ?_⟩
  · rw [z_st_cell h (by omega)]; exact a.1 q h1 h2 h3
  · by_cases e : k = 89
    · subst e; rw [z_st_slot h (by omega)]; exact a.2 i hi
    · rw [z_st_cell h (by omega)]; exact a.2 i hi
theorem m_itR_out {T : Int → Int} {N : Int} {H : z_H} {q : t_R} {fb : Bool} : m_Out H (m_itR T N H q fb).2.1 := by
  have r := m_Out.rf H
  unfold m_itR
  split
  · split
    · unfold m_szR
      split
      · exact r
      · split
        · exact r.st (by omega)
        · exact (r.st (by omega)).st (by omega)
    · exact r
  split
  · unfold m_miR
    split
    · exact r
    · split
      · exact r
      · exact r.st (by omega)
  split
  · unfold m_glR
    split
    · exact r
    · split
      · exact r
      · split
        · exact r
        · exact r.st (by omega)
  split
  · unfold m_scR
    split
    · exact r
    · split
      · exact r
      · exact (r.st (by omega)).st (by omega)
  split
  · unfold m_seR
    split
    · exact r
    · split
      · exact r
      · exact r.st (by omega)
  · exact r
theorem m_rdL_out {T : Int → Int} {N : Int} : ∀ (f : Nat) (H : z_H) (q : t_R) (i : Int), m_PR H T N → m_OK N q → m_Out H (m_rdL T N f H q i).2.2.1 ∧ m_PR (m_rdL T N f H q i).2.2.1 T N
  | 0, H, q, i, h, hq => ⟨m_Out.rf H, h⟩
  | f + 1, H, q, i, h, hq => by
    obtain ⟨hk3, hk4⟩ := m_itR_ok (fb := decide (i = 0)) h hq
    obtain ⟨-, -, hN, hTT⟩ := id h.2.1
    have ho := m_itR_out (T := T) (N := N) (H := H) (q := q) (fb := decide (i = 0))
    rw [m_rdL]
    split
    · exact ⟨m_Out.rf H, h⟩
    · split
      · exact ⟨m_Out.rf H, h⟩
      · split
        · exact ⟨ho, hk3⟩
        · split
          · exact ⟨ho, hk3⟩
          · have k5 := m_nx_ok (T := T) hN hTT hk4.1
            obtain ⟨a, b⟩ := m_rdL_out f _ (m_nx T N (m_nx T N (m_itR T N H q (decide (i = 0))).2.2)) (i + 1) hk3 (m_nx_ok hN hTT k5.1)
            exact ⟨ho.tr a, b⟩
theorem m_rd0_out (h : z_H) : m_Out h (m_rd0 h) := by
  have r := m_Out.rf h
  have r1 := (r.st (k := 89) (j := 23) (v := 5) (by omega)).st (k := 89) (j := 24) (v := 4) (by omega)
  have r2 : m_Out h (z_rw (z_st (z_st h 89 23 5) 89 24 4) 101 (fun r => if 0 ≤ r ∧ r < 20 then 7 else h 101 r)) := ⟨fun q h1 h2 h3 => by rw [z_rw_ne _ _ h2]; exact r1.1 q h1 h2 h3, fun j hj => by rw [z_rw_ne _ _ (by decide)]; exact r1.2 j hj⟩
  unfold m_rd0
  exact ((r2.st (by omega)).st (by omega)).st (by omega)
/-- where both begin -/
theorem g_R0 {h k : z_H} {P : Int} (p1 : P ≠ 1) (q1 : P + 1 ≠ 1) (q2 : P + 2 ≠ 1) : g_R (c_rd0 h P) (m_rd0 k) P := by
  have hP : ∀ i, i ≠ 2 → i ≠ 3 → i ≠ 4 → i ≠ 5 → i ≠ 6 → c_rd0 h P P i = h P i := fun i a b c d e => by
    unfold c_rd0 c_rstH
    rw [z_st_cell _ p1, z_st_cell _ p1, z_st_slot _ e, z_st_slot _ d, z_st_slot _ c, z_st_cell _ (by omega), z_rw_ne _ _ (by omega), z_st_slot _ b, z_st_slot _ a]
  have e2 : c_rd0 h P P 2 = 5 := by
    unfold c_rd0 c_rstH
    rw [z_st_cell _ p1, z_st_cell _ p1, z_st_slot _ (by decide), z_st_slot _ (by decide), z_st_slot _ (by decide), z_st_cell _ (by omega), z_rw_ne _ _ (by omega), z_st_slot _ (by decide), z_st_at]
  have e3 : c_rd0 h P P 3 = 4 := by
    unfold c_rd0 c_rstH
    rw [z_st_cell _ p1, z_st_cell _ p1, z_st_slot _ (by decide), z_st_slot _ (by decide), z_st_slot _ (by decide), z_st_cell _ (by omega), z_rw_ne _ _ (by omega), z_st_at]
  have e4 : c_rd0 h P P 4 = 0 := by
    unfold c_rd0 c_rstH
    rw [z_st_cell _ p1, z_st_cell _ p1, z_st_slot _ (by decide), z_st_slot _ (by decide), z_st_at]
  have e5 : c_rd0 h P P 5 = 12 := by
    unfold c_rd0 c_rstH
    rw [z_st_cell _ p1, z_st_cell _ p1, z_st_slot _ (by decide), z_st_at]
  have e6 : c_rd0 h P P 6 = 0 := by
    unfold c_rd0 c_rstH
    rw [z_st_cell _ p1, z_st_cell _ p1, z_st_at]
  have t6 : c_rd0 h P 1 6 = 0 := by
    unfold c_rd0
    rw [z_st_slot _ (by decide), z_st_at]
  have t7 : c_rd0 h P 1 7 = 0 := by
    unfold c_rd0
    rw [z_st_at]
  have m23 : m_rd0 k 89 23 = 5 := by
    unfold m_rd0
    rw [z_st_slot _ (by decide), z_st_slot _ (by decide), z_st_slot _ (by decide), z_rw_ne _ _ (by decide), z_st_slot _ (by decide), z_st_at]
  have m24 : m_rd0 k 89 24 = 4 := by
    unfold m_rd0
    rw [z_st_slot _ (by decide), z_st_slot _ (by decide), z_st_slot _ (by decide), z_rw_ne _ _ (by decide), z_st_at]
  have m27 : m_rd0 k 89 27 = 0 := by
    unfold m_rd0
    rw [z_st_slot _ (by decide), z_st_slot _ (by decide), z_st_at]
  have m28 : m_rd0 k 89 28 = -9 := by
    unfold m_rd0
    rw [z_st_slot _ (by decide), z_st_at]
  have m29 : m_rd0 k 89 29 = -9 := by
    unfold m_rd0
    rw [z_st_at]
  refine ⟨by rw [e2, m23], by rw [e3, m24], by rw [e4, m27], Or.inl ⟨t6, m28, e5⟩, Or.inl ⟨t7, m29, e6⟩, fun p p0 p1' => ?_, fun a ha => ?_⟩
  · have eA : c_rd0 h P (P + 1) p = 7 := by
      unfold c_rd0 c_rstH
      rw [z_st_cell _ q1, z_st_cell _ q1, z_st_cell _ (by omega), z_st_cell _ (by omega), z_st_cell _ (by omega), z_st_cell _ (by omega), z_rw_at]
      exact if_pos ⟨p0, by omega⟩
    have eB : m_rd0 k 101 p = 7 := by
      unfold m_rd0
      rw [z_st_cell _ (by decide), z_st_cell _ (by decide), z_st_cell _ (by decide), z_rw_at]
      exact if_pos ⟨p0, p1'⟩
    rw [eA, eB]
  · rw [m27] at ha ⊢
    have ha0 : a = 0 := by
      have : a < 2 ^ (0 : Int).toNat := ha
      have e : (2 : Nat) ^ (0 : Int).toNat = 1 := rfl
      omega
    subst ha0
    unfold c_rd0 c_rstH
    rw [z_st_cell _ q2, z_st_cell _ q2, z_st_cell _ (by omega), z_st_cell _ (by omega), z_st_cell _ (by omega)]
    show z_st _ (P + 2) 0 7 (P + 2) 0 = g_thr _ _ 0
    rw [z_st_at]
    rfl
