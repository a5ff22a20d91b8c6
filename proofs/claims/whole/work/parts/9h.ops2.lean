/-! EACH CALL, 2 -/
section OPS
variable {h k : z_H}
/-- all but some cells -/
theorem v_N.chg (v : v_N h) (hc : ∀ q, q ≠ 0 → q ≠ 1 → q ≠ 2 → q ≠ 31 → q ≠ 33 → q ≠ 34 → q ≠ 35 → q ≠ 36 → q ≠ 89 → q ≠ 99 → q ≠ 100 → k q = h q) (h0 : ∀ j, j ≤ 7 → k 0 j = h 0 j) (h34 : ∀ j, j ≤ 1 → k 34 j = h 34 j) (h89 : ∀ j, j ≠ 14 → j ≠ 16 → j ≠ 17 → k 89 j = h 89 j) (vt : v_T k) (vm : v_M k) (vg : v_G k) : v_N k := by
  obtain ⟨s, t, m, g, kk, p, l, i⟩ := v
  have hs := s.2.2.2.2.2.2.2.2.2.2.1
  have hq : ∀ q, (4 ≤ q ∧ q ≤ 30) ∨ q = 3 ∨ q = 32 ∨ (37 ≤ q ∧ q ≤ 88) ∨ (90 ≤ q ∧ q ≤ 98) → k q = h q := fun q w => hc q (by omega) (by omega) (by omega) (by omega) (by omega) (by omega) (by omega) (by omega) (by omega) (by omega) (by omega)
  refine ⟨s.fr (fun q w => hq q (by omega)) (fun j w => h0 j (by omega)) h34 (fun j w => h89 j ?_ ?_ ?_), vt, vm, vg, kk.fr (fun q w => hq q (by omega)), v_plfr s p (fun q w => hq q (by omega)) (fun j w => h89 j (by omega) (by omega) (by omega)), l.fr kk hs (fun q w => hq q (by omega)) (h89 8 (by decide) (by decide) (by decide)) (h89 4 (by decide) (by decide) (by decide)), i.fr kk hs (fun q w => hq q (by omega)) (h0 7 (by decide)) (h89 4 (by decide) (by decide) (by decide))⟩
  · intro e; subst e; revert w; decide
  · intro e; subst e; revert w; decide
  · intro e; subst e; revert w; decide
theorem v_type (v : v_N h) {c : Int} (hc : z_R c) : v_Op mX9_type mX10_type [(0, c)] 0 h := by
  obtain ⟨⟨r10, r11, r2, hN, hT⟩, hv5, ht, hn⟩ := id v.2.1
  refine ⟨_, ct_X9_type v.ob v.2.1.1 hc, fun r h1 hp => ?_⟩
  rcases hp with ⟨a, e1, e2⟩ | ⟨a, ⟨b, e1, e2⟩ | ⟨b, e1, e2⟩⟩
  · refine ⟨_, _, e1, by rw [e2]; exact ct_X10_type v.rob (by rw [← hn]; exact hN) hc, fun r3 h3 hq => ?_⟩
    rcases hq with ⟨-, f1, f2⟩ | ⟨w, -⟩
    · exact ⟨by rw [f1, e1], by rw [f2]; exact v⟩
    · exact absurd w a
  · refine ⟨_, _, e1, by rw [e2]; exact ct_X10_type v.rob (by rw [← hn]; exact hN) hc, fun r3 h3 hq => ?_⟩
    rcases hq with ⟨w, -⟩ | ⟨-, ⟨w, f1, f2⟩ | ⟨w, f1, f2⟩⟩
    · exact absurd a w
    · exact ⟨by rw [f1, e1], by rw [f2]; exact v⟩
    · exact absurd w (by omega)
  · have q89 : h1 89 = h 89 := by rw [e2, z_st_cell _ (by decide), z_st_cell _ (by decide)]
    have q100 : h1 100 = h 100 := by rw [e2, z_st_cell _ (by decide), z_st_cell _ (by decide)]
    have hob : r_Ob h1 := v.rob.to (fun j _ => by rw [q89])
    refine ⟨_, _, e1, ct_X10_type hob (by rw [q89, ← hn]; exact hN) hc, fun r3 h3 hq => ?_⟩
    rcases hq with ⟨w, -⟩ | ⟨-, ⟨w, f1, f2⟩ | ⟨w, f1, f2⟩⟩
    · exact absurd a w
    · exact absurd (show h1 89 16 < 170 by rw [q89, ← hn]; exact b) w
    · have f89 : ∀ j, j ≠ 16 → h3 89 j = h 89 j := fun j hj => by rw [f2, z_st_slot _ hj, z_st_cell _ (by decide), q89]
      have fq : ∀ q, q ≠ 1 → q ≠ 2 → q ≠ 89 → q ≠ 100 → h3 q = h q := fun q a1 a2 a3 a4 => by rw [f2, z_st_cell _ a3, z_st_cell _ a4, e2, z_st_cell _ a1, z_st_cell _ a2]
      have g1 : h3 1 = z_st h 1 1 (h 1 1 + 1) 1 := by
        rw [f2, z_st_cell _ (by decide), z_st_cell _ (by decide), e2]
        funext j
        by_cases w : j = 1
        · rw [w, z_st_at, z_st_at]
        · rw [z_st_slot _ w, z_st_slot _ w, z_st_cell _ (by decide)]
      have g2 : h3 2 = fun r => if r = h 1 1 then c else h 2 r := by
        rw [f2, z_st_cell _ (by decide), z_st_cell _ (by decide), e2, z_st_cell _ (by decide), z_st_row]
      have g100 : h3 100 = fun r => if r = h 1 1 then c else h 100 r := by
        rw [f2, z_st_cell _ (by decide), z_st_row, q89, q100, hn]
      have g16 : h3 89 16 = h 89 16 + 1 := by rw [f2, z_st_at, q89]
      refine ⟨by rw [f1, e1, q89, hn], v.chg (fun q _ a1 a2 _ _ _ _ _ a3 _ a4 => fq q a1 a2 a3 a4) (fun j _ => by rw [fq 0 (by decide) (by decide) (by decide) (by decide)]) (fun j _ => by rw [fq 34 (by decide) (by decide) (by decide) (by decide)]) (fun j _ a1 _ => f89 j a1) ⟨⟨?_, ?_, rfl, ?_, ?_⟩, ?_, ?_, ?_⟩ (v.2.2.1.fr (fq _ (by decide) (by decide) (by decide) (by decide)) (fq _ (by decide) (by decide) (by decide) (by decide)) (fq _ (by decide) (by decide) (by decide) (by decide)) (by rw [fq 0 (by decide) (by decide) (by decide) (by decide)]) (f89 17 (by decide))) (v.2.2.2.1.fr (fq _ (by decide) (by decide) (by decide) (by decide)) (fq _ (by decide) (by decide) (by decide) (by decide)) (fq _ (by decide) (by decide) (by decide) (by decide)) (by rw [fq 34 (by decide) (by decide) (by decide) (by decide)]) (f89 14 (by decide)))⟩
      · rw [g1, z_st_slot _ (by decide)]; exact r10
      · rfl
      · rw [g1, z_st_at]; omega
      · intro i i0 i1
        rw [g2]
        show 0 ≤ (if i = h 1 1 then c else h 2 i) ∧ (if i = h 1 1 then c else h 2 i) ≤ 255
        split
        · exact a
        · exact hT i i0 i1
      · rw [g1, z_st_slot _ (by decide)]; exact hv5
      · rw [g2, g100, ht]
      · rw [g1, z_st_at, g16, hn]
theorem v_clear (v : v_N h) : v_Op mX9_clear mX10_clear [] 0 h := by
  obtain ⟨⟨r10, r11, r2, hN, hT⟩, hv5, ht, hn⟩ := id v.2.1
  refine ⟨_, ct_X9_clear v.ob, fun r h1 hp => ?_⟩
  obtain ⟨e1, e2⟩ := hp
  have q89 : h1 89 = h 89 := by rw [e2, z_st_cell _ (by decide)]
  refine ⟨_, _, e1, ct_X10_clear (v.rob.to (fun j _ => by rw [q89])), fun r3 h3 hq => ?_⟩
  obtain ⟨f1, f2⟩ := hq
  have f89 : ∀ j, j ≠ 16 → h3 89 j = h 89 j := fun j hj => by rw [f2, z_st_slot _ hj, q89]
  have fq : ∀ q, q ≠ 1 → q ≠ 89 → h3 q = h q := fun q a1 a3 => by rw [f2, z_st_cell _ a3, e2, z_st_cell _ a1]
  have g1 : h3 1 = z_st h 1 1 0 1 := by rw [f2, z_st_cell _ (by decide), e2]
  have g16 : h3 89 16 = 0 := by rw [f2, z_st_at]
  refine ⟨by rw [f1, e1, q89, hn], v.chg (fun q _ a1 _ _ _ _ _ _ a3 _ _ => fq q a1 a3) (fun j _ => by rw [fq 0 (by decide) (by decide)]) (fun j _ => by rw [fq 34 (by decide) (by decide)]) (fun j _ a1 _ => f89 j a1) ⟨⟨?_, ?_, rfl, ?_, ?_⟩, ?_, ?_, ?_⟩ (v.2.2.1.fr (fq _ (by decide) (by decide)) (fq _ (by decide) (by decide)) (fq _ (by decide) (by decide)) (by rw [fq 0 (by decide) (by decide)]) (f89 17 (by decide))) (v.2.2.2.1.fr (fq _ (by decide) (by decide)) (fq _ (by decide) (by decide)) (fq _ (by decide) (by decide)) (by rw [fq 34 (by decide) (by decide)]) (f89 14 (by decide)))⟩
  · rw [g1, z_st_slot _ (by decide)]; exact r10
  · rfl
  · rw [g1, z_st_at]; omega
  · rw [fq 2 (by decide) (by decide)]; exact hT
  · rw [g1, z_st_slot _ (by decide)]; exact hv5
  · rw [fq 2 (by decide) (by decide), fq 100 (by decide) (by decide)]; exact ht
  · rw [g1, z_st_at, g16]
theorem v_forget (v : v_N h) : v_Op mX9_forget mX10_forget [] 0 h := by
  obtain ⟨⟨a, b⟩, c, d⟩ := v.sg
  refine ⟨_, ct_X9_forget v.ob, fun r h1 hp => ?_⟩
  obtain ⟨e1, e2⟩ := hp
  have q89 : h1 89 = h 89 := by rw [e2, z_st_cell _ (by decide)]
  refine ⟨_, _, e1, ct_X10_forget (v.rob.to (fun j _ => by rw [q89])), fun r3 h3 hq => ?_⟩
  obtain ⟨f1, f2⟩ := hq
  have f89 : ∀ j, j ≠ 14 → h3 89 j = h 89 j := fun j hj => by rw [f2, z_st_slot _ hj, q89]
  have f34 : ∀ j, j ≠ 2 → h3 34 j = h 34 j := fun j hj => by rw [f2, z_st_cell _ (by decide), e2, z_st_slot _ hj]
  have fq : ∀ q, q ≠ 34 → q ≠ 89 → h3 q = h q := fun q a1 a3 => by rw [f2, z_st_cell _ a3, e2, z_st_cell _ a1]
  have g2 : h3 34 2 = 0 := by rw [f2, z_st_cell _ (by decide), e2, z_st_at]
  have g14 : h3 89 14 = 0 := by rw [f2, z_st_at]
  refine ⟨by rw [f1, e1, q89, c], v.chg (fun q _ _ _ _ _ a1 _ _ a3 _ _ => fq q a1 a3) (fun j _ => by rw [fq 0 (by decide) (by decide)]) (fun j hj => f34 j (by omega)) (fun j a1 _ _ => f89 j a1) (v.2.1.fr (fq _ (by decide) (by decide)) (fq _ (by decide) (by decide)) (fun j _ => by rw [fq 1 (by decide) (by decide)]) (f89 16 (by decide))) (v.2.2.1.fr (fq _ (by decide) (by decide)) (fq _ (by decide) (by decide)) (fq _ (by decide) (by decide)) (by rw [fq 0 (by decide) (by decide)]) (f89 17 (by decide))) ⟨⟨by rw [g14]; omega, fun i i0 i1 => ?_⟩, by rw [g2, g14], fun i i0 i1 => ?_⟩⟩
  · rw [g14] at i1; omega
  · rw [g14] at i1; omega
theorem v_saw (v : v_N h) {x y kk c : Int} (hx : z_R x) (hy : z_R y) (hk : z_R kk) (hc : z_R c) : v_Op mX9_saw mX10_saw [(0, x), (0, y), (0, kk), (0, c)] 0 h := by
  obtain ⟨⟨sa, sb⟩, sc, sd⟩ := v.sg
  refine ⟨_, ct_X9_saw v.ob v.wi hx hy hk hc, fun r h1 hp => ?_⟩
  rcases hp with ⟨a, e1, e2⟩ | ⟨a, ⟨b, e1, e2⟩ | ⟨b, e1, e2⟩⟩
  · refine ⟨_, _, e1, by rw [e2]; exact ct_X10_saw v.rob v.sg.1 hx hy hk hc, fun r3 h3 hq => ?_⟩
    rcases hq with ⟨-, f1, f2⟩ | ⟨w, -⟩
    · exact ⟨by rw [f1, e1], by rw [f2]; exact v⟩
    · exact absurd w a
  · refine ⟨_, _, e1, by rw [e2]; exact ct_X10_saw v.rob v.sg.1 hx hy hk hc, fun r3 h3 hq => ?_⟩
    rcases hq with ⟨w, -⟩ | ⟨-, ⟨w, f1, f2⟩ | ⟨w, f1, f2⟩⟩
    · exact absurd a w
    · exact ⟨by rw [f1, e1], by rw [f2]; exact v⟩
    · exact absurd w (by omega)
  · have q1 : ∀ q, q ≠ 34 → q ≠ 35 → q ≠ 36 → h1 q = h q := fun q a1 a2 a3 => by rw [e2, c_seen, z_st_cell _ a1, z_st_cell _ a3, z_st_cell _ a2]
    have q89 : h1 89 = h 89 := q1 89 (by decide) (by decide) (by decide)
    have q99 : h1 99 = h 99 := q1 99 (by decide) (by decide) (by decide)
    have hsg1 : r_Sg h1 := by unfold r_Sg; rw [q89, q99]; exact v.sg.1
    refine ⟨_, _, e1, ct_X10_saw (v.rob.to (fun j _ => by rw [q89])) hsg1 hx hy hk hc, fun r3 h3 hq => ?_⟩
    rcases hq with ⟨w, -⟩ | ⟨-, ⟨w, f1, f2⟩ | ⟨w, f1, f2⟩⟩
    · exact absurd a w
    · exact absurd (show h1 89 14 < 6 by rw [q89, ← sc]; exact b) w
    · have f89 : ∀ j, j ≠ 14 → h3 89 j = h 89 j := fun j hj => by rw [f2, r_sawH, z_st_slot _ hj, z_st_cell _ (by decide), z_st_cell _ (by decide), z_st_cell _ (by decide), z_st_cell _ (by decide), q89]
      have fq : ∀ q, q ≠ 89 → q ≠ 99 → h3 q = h1 q := fun q a1 a2 => by rw [f2, r_sawH, z_st_cell _ a1, z_st_cell _ a2, z_st_cell _ a2, z_st_cell _ a2, z_st_cell _ a2]
      have fh : ∀ q, q ≠ 34 → q ≠ 35 → q ≠ 36 → q ≠ 89 → q ≠ 99 → h3 q = h q := fun q a1 a2 a3 a4 a5 => by rw [fq q a4 a5, q1 q a1 a2 a3]
      have f34 : ∀ j, j ≠ 2 → h3 34 j = h 34 j := fun j hj => by rw [fq 34 (by decide) (by decide), e2, c_seen, z_st_slot _ hj, z_st_cell _ (by decide), z_st_cell _ (by decide)]
      have g2 : h3 34 2 = h 34 2 + 1 := by rw [fq 34 (by decide) (by decide), e2, c_seen, z_st_at]
      have g14 : h3 89 14 = h 89 14 + 1 := by rw [f2, r_sawH, z_st_at, q89]
      have g35 : h3 35 = fun r => if r = h 34 2 then (7 * x + y) * 8 + kk else h 35 r := by rw [fq 35 (by decide) (by decide), e2, c_seen, z_st_cell _ (by decide), z_st_cell _ (by decide), z_st_row]
      have g36 : h3 36 = fun r => if r = h 34 2 then c else h 36 r := by
        rw [fq 36 (by decide) (by decide), e2, c_seen, z_st_cell _ (by decide), z_st_row, z_st_cell _ (by decide)]
      have g99 : ∀ r, h3 99 r = if r = 4 * h 89 14 + 3 then c else if r = 4 * h 89 14 + 2 then kk else if r = 4 * h 89 14 + 1 then y else if r = 4 * h 89 14 then x else h 99 r := fun r => by
        rw [f2, r_sawH, z_st_cell _ (by decide), z_st_row, z_st_row, z_st_row, z_st_row, q89, q99]
      have gn : ∀ i, 0 ≤ i → i < h 89 14 → h3 99 (4 * i) = h 99 (4 * i) ∧ h3 99 (4 * i + 1) = h 99 (4 * i + 1) ∧ h3 99 (4 * i + 2) = h 99 (4 * i + 2) ∧ h3 99 (4 * i + 3) = h 99 (4 * i + 3) := fun i i0 i1 => by
        refine ⟨?_, ?_, ?_, ?_⟩ <;> rw [g99, if_neg (by omega), if_neg (by omega), if_neg (by omega), if_neg (by omega)]
      have gl : h3 99 (4 * h 89 14) = x ∧ h3 99 (4 * h 89 14 + 1) = y ∧ h3 99 (4 * h 89 14 + 2) = kk ∧ h3 99 (4 * h 89 14 + 3) = c := by
        refine ⟨?_, ?_, ?_, ?_⟩
        · rw [g99, if_neg (by omega), if_neg (by omega), if_neg (by omega), if_pos rfl]
        · rw [g99, if_neg (by omega), if_neg (by omega), if_pos rfl]
        · rw [g99, if_neg (by omega), if_pos rfl]
        · rw [g99, if_pos rfl]
      obtain ⟨t1, t2, t3⟩ := a
      have t1 := of_decide_eq_true t1
      have t2 := of_decide_eq_true t2
      have t3 := of_decide_eq_true t3
      refine ⟨by rw [f1, e1, q89, sc], v.chg (fun q _ _ _ _ _ a1 a2 a3 a4 a5 _ => fh q a1 a2 a3 a4 a5) (fun j _ => by rw [fh 0 (by decide) (by decide) (by decide) (by decide) (by decide)]) (fun j hj => f34 j (by omega)) (fun j a1 _ _ => f89 j a1) (v.2.1.fr (fh _ (by decide) (by decide) (by decide) (by decide) (by decide)) (fh _ (by decide) (by decide) (by decide) (by decide) (by decide)) (fun j _ => by rw [fh 1 (by decide) (by decide) (by decide) (by decide) (by decide)]) (f89 16 (by decide))) (v.2.2.1.fr (fh _ (by decide) (by decide) (by decide) (by decide) (by decide)) (fh _ (by decide) (by decide) (by decide) (by decide) (by decide)) (fh _ (by decide) (by decide) (by decide) (by decide) (by decide)) (by rw [fh 0 (by decide) (by decide) (by decide) (by decide) (by decide)]) (f89 17 (by decide))) ⟨⟨by rw [g14]; omega, fun i i0 i1 => ?_⟩, by rw [g2, g14, sc], fun i i0 i1 => ?_⟩⟩
      · rw [g14] at i1
        by_cases e : i = h 89 14
        · subst e
          rw [gl.1, gl.2.1, gl.2.2.1, gl.2.2.2]
          omega
        · have := gn i i0 (by omega)
          rw [this.1, this.2.1, this.2.2.1, this.2.2.2]
          exact sb i i0 (by omega)
      · rw [g14] at i1
        rw [g35, g36]
        show (if i = h 34 2 then (7 * x + y) * 8 + kk else h 35 i) = _ ∧ (if i = h 34 2 then c else h 36 i) = _
        rw [sc]
        by_cases e : i = h 89 14
        · subst e
          rw [if_pos rfl, if_pos rfl, gl.1, gl.2.1, gl.2.2.1, gl.2.2.2]
          exact ⟨rfl, rfl⟩
        · have := gn i i0 (by omega)
          rw [if_neg e, if_neg e, this.1, this.2.1, this.2.2.1, this.2.2.2]
          exact sd i i0 (by omega)
theorem v_mark (v : v_N h) {w x y : Int} (hw : z_R w) (hx : z_R x) (hy : z_R y) : v_Op mX9_mark mX10_mark [(0, w), (0, x), (0, y)] 0 h := by
  have hpi : ¬ c_paneAt h (h 3 1) x y = -1 ↔ r_isP h x y = true := by
    rw [g_paneAt v.gp]
    by_cases e : r_isP h x y = true
    · have := g_isP v.rpl e
      rw [if_pos e]
      exact ⟨fun _ => e, fun _ => by omega⟩
    · rw [if_neg e]
      exact ⟨fun w => absurd rfl w, fun w => absurd w e⟩
  refine ⟨_, ct_X9_mark v.ob v.sc.1 hw hx hy, fun r h1 hp => ?_⟩
  rcases hp with ⟨a, e1, e2⟩ | ⟨a, e1, e2⟩
  · refine ⟨_, _, e1, by rw [e2]; exact ct_X10_mark v.rob v.rpl v.rmt hw hx hy, fun r3 h3 hq => ?_⟩
    rcases hq with ⟨-, f1, f2⟩ | ⟨w2, -⟩
    · exact ⟨by rw [f1, e1], by rw [f2]; exact v⟩
    · exact absurd ⟨w2.1, w2.2.1, hpi.mpr w2.2.2⟩ a
  · have q0 : ∀ q, q ≠ 0 → h1 q = h q := fun q hq => by rw [e2]; exact z_st_cell _ hq
    have q89 : h1 89 = h 89 := q0 89 (by decide)
    have hpl : r_Pl h1 := v.rpl.to (by rw [q89]) (by rw [q89]) (by rw [q89]) (q0 _ (by decide)) (q0 _ (by decide))
    have hP : r_isP h x y = true := hpi.mp a.2.2
    refine ⟨_, _, e1, ct_X10_mark (v.rob.to (fun j _ => by rw [q89])) hpl (by rw [q0 92 (by decide)]; exact v.rmt) hw hx hy, fun r3 h3 hq => ?_⟩
    rcases hq with ⟨w2, -⟩ | ⟨-, f1, f2⟩
    · exact absurd ⟨a.1, a.2.1, by unfold r_isP; rw [q89]; exact hP⟩ w2
    · have f89 : ∀ j, j ≠ 17 → h3 89 j = h 89 j := fun j hj => by rw [f2, z_st_slot _ hj, q89]
      have f0 : ∀ j, j ≠ 8 → h3 0 j = h 0 j := fun j hj => by rw [f2, z_st_cell _ (by decide), e2, c_tr, z_st_slot _ hj]
      have fq : ∀ q, q ≠ 0 → q ≠ 89 → h3 q = h q := fun q a1 a2 => by rw [f2, z_st_cell _ a2, q0 q a1]
      have hE : r_Same h h1 := ⟨by rw [q89], by rw [q89], by rw [q89], q0 _ (by decide), q0 _ (by decide)⟩
      have hmk : r_markF h1 w x y = r_markF h w x y := by
        unfold r_markF
        rw [q0 92 (by decide), r_lets_cg hE v.rpl (r_TE.rf _), r_at_cg hE v.rpl (r_TE.rf _)]
      refine ⟨?_, v.chg (fun q a1 _ _ _ _ _ _ _ a2 _ _ => fq q a1 a2) (fun j hj => f0 j (by omega)) (fun j _ => by rw [fq 34 (by decide) (by decide)]) (fun j _ _ a1 => f89 j a1) (v.2.1.fr (fq _ (by decide) (by decide)) (fq _ (by decide) (by decide)) (fun j _ => by rw [fq 1 (by decide) (by decide)]) (f89 16 (by decide))) ?_ (v.2.2.2.1.fr (fq _ (by decide) (by decide)) (fq _ (by decide) (by decide)) (fq _ (by decide) (by decide)) (by rw [fq 34 (by decide) (by decide)]) (f89 14 (by decide)))⟩
      · rw [f1, e1, hmk, ← g_markF v.rpl v.gp v.gm hP, g_paneAt v.gp, if_pos hP]
      · obtain ⟨m1, m2, m3, m4, m5⟩ := v.2.2.1
        refine ⟨by rw [fq 31 (by decide) (by decide)]; exact m1, by rw [fq 33 (by decide) (by decide)]; exact m2, by rw [fq 33 (by decide) (by decide)]; exact m3, by rw [fq 102 (by decide) (by decide)]; exact m4, ?_⟩
        rw [f2, z_st_at, z_st_cell _ (by decide), e2, c_tr, z_st_at, z_st_cell _ (by decide), m5]
end OPS
