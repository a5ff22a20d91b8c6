/-! EACH CALL, 5: deeds -/
section OPS
variable {h h1 h2 : z_H}
theorem v_breaks (v : v_N h) {x y : Int} (hx : z_R x) (hy : z_R y) : v_Op mX9_breaks mX10_breaks [(0, x), (0, y)] 0 h := by
  have vk := v.2.2.2.2.1
  obtain ⟨kR, hR, a0, a1, a2, a3, ab, aq⟩ := v_af v
  have hs8 := v.sc.2
  refine ⟨_, ct_X9_breaks v.ob v.sc.1 vk.1 vk.2.2.2.1 hx hy, fun r h1 hp => ?_⟩
  rw [v_pi v] at hp
  have hbr : r_isP h x y = true → c_broken h (h 4 2) (c_paneAt h (h 3 1) x y) = tb (h 92 8) (4 * x + y) := fun e => by
    rw [(v_pt v e).1]
    unfold c_broken
    rw [v.gm.1]
  rcases hp with ⟨a, e1, e2⟩ | ⟨a, b, e1, e2⟩ | ⟨a, b, e1, e2⟩
  · refine ⟨_, _, e1, by rw [e2]; exact ct_X10_breaks v.rob v.rpl v.rmt (v_hU v) hx hy, fun r3 h3 hq => ?_⟩
    rcases hq with ⟨w, f1, f2⟩ | ⟨w, -⟩ | ⟨w, -⟩
    · exact ⟨by rw [f1, e1], by rw [f2]; exact v⟩
    · rw [a] at w; cases w
    · rw [a] at w; cases w
  · refine ⟨_, _, e1, by rw [e2]; exact ct_X10_breaks v.rob v.rpl v.rmt (v_hU v) hx hy, fun r3 h3 hq => ?_⟩
    have a' : r_isP h x y = true := by simpa using a
    rw [hbr a'] at b
    rcases hq with ⟨w, -⟩ | ⟨w, w2, f1, f2⟩ | ⟨w, w2, -⟩
    · exact absurd w a
    · exact ⟨by rw [f1, e1], by rw [f2]; exact v⟩
    · rw [b] at w2; cases w2
  · have a' : r_isP h x y = true := by simpa using a
    rw [hbr a'] at b
    obtain ⟨pe, p0, p1⟩ := v_pt v a'
    rw [pe] at e1 e2
    generalize hpp : 4 * x + y = p at *
    have q1 : ∀ q, (q < 4 ∨ 27 < q) → h1 q = h q := fun q hq => by rw [e2, c_brkH, z_st_cell _ (by omega), z_st_cell _ (by omega), aq q hq]
    have hRf : v_Rf h h1 := ⟨q1 _ (by omega), q1 _ (by omega), q1 _ (by omega), q1 _ (by omega)⟩
    have hh := hRf.ob v
    refine ⟨_, _, e1, ct_X10_breaks hh.1 hh.2.1 hh.2.2.1 hh.2.2.2 hx hy, fun r3 h3 hq => ?_⟩
    rw [hRf.isP, hRf.2.2.2, hpp] at hq
    rcases hq with ⟨w, -⟩ | ⟨w, w2, -⟩ | ⟨w, w2, f1, f2⟩
    · exact absurd w a
    · rw [b] at w2; cases w2
    · have hc2 : ∀ q, q ≠ 92 → h3 q = r_rem h1 q := fun q hq => by rw [f2, r_brkH, z_rw_ne _ _ hq]
      obtain ⟨hB, h4⟩ := v_rm hc2
      have e4 : h3 89 4 = h 89 4 := by rw [h4, hRf.1]
      have g92 : h3 92 = r_brk (h 92) p := by rw [f2, r_brkH, z_rw_at, hRf.2.2.2]
      have gR : ∀ j, j ≠ 1 → h3 (c_advR h 4) j = c_advH h 4 (c_advR h 4) j := fun j hj => by rw [hB _ (by omega) (by omega) (by omega), e2, c_brkH, z_st_slot _ hj, z_st_cell _ (by omega)]
      have gR1 : h3 (c_advR h 4) 1 = z_or (h 92 8) (z_shl 1 p) := by rw [hB _ (by omega) (by omega) (by omega), e2, c_brkH, z_st_at, a1]
      have gr : h3 (c_advR h 4 + 1) = fun q => if q = p then 0 else c_advH h 4 (c_advR h 4 + 1) q := by rw [hB _ (by omega) (by omega) (by omega), e2, c_brkH, z_st_cell _ (by omega), z_st_row]
      refine ⟨?_, v_adv v rfl (fun q b1 b2 => by rw [e2, c_brkH, z_st_cell _ b1, z_st_cell _ b2]) (by rw [e2, c_brkH, z_st_slot _ (by decide), z_st_cell _ (by omega)]; exact a0) hc2 ⟨?_, ?_, ?_, fun q q0 q1 => ?_, ?_, fun t t0 t1 => ?_, fun t t0 t1 => ?_⟩⟩
      · rw [f1, e1, ab p p0 p1]
        have : r_at (r_rem h1) (h 92) p = r_at h (h 92) p := by
          unfold r_at
          rw [r_rem_s (by decide), hRf.1]
        rw [this]
      · rw [gR1, g92, r_brk_8]
      · rw [gR 2 (by decide), a2, g92, r_brk_hi _ _ (by decide)]
      · rw [gR 3 (by decide), a3, g92, r_brk_hi _ _ (by decide)]
      · rw [gr, g92]
        show (if q = p then 0 else c_advH h 4 (c_advR h 4 + 1) q) = _
        by_cases w : q = p
        · rw [if_pos w]
          have : r_at h3 (r_brk (h 92) p) q = 0 := by
            apply Nat.eq_of_testBit_eq
            intro i
            rw [r_at_b, Nat.zero_testBit, e4]
            by_cases k : i < (h 89 4).toNat
            · rw [r_brk_lo _ _ (by omega) (by omega)]
              by_cases k2 : h 92 (i : Int) = p
              · rw [if_pos k2, show decide ((-9 : Int) = q) = false from decide_eq_false (by omega), Bool.and_false]
              · rw [if_neg k2, show decide (h 92 (i : Int) = q) = false from decide_eq_false (fun z => k2 (by rw [z, w])), Bool.and_false]
            · rw [decide_eq_false k, Bool.false_and]
          rw [this]
          rfl
        · rw [if_neg w, ab q q0 q1]
          have : r_at h3 (r_brk (h 92) p) q = r_at h (h 92) q := by
            rw [← r_at_brk v.rpl (h 92) q0 w]
            unfold r_at
            rw [e4]
          rw [this]
      · rw [g92]; exact v.rmt.brk p0 p1
      · rw [g92, r_brk_lo _ _ t0 t1, r_brk_8]
        by_cases k : h 92 t = p
        · rw [if_pos k]; intro z; exact absurd rfl z
        · rw [if_neg k]
          intro z
          have ht := v.rmt.1 t t0 t1
          rw [tb_or v.rmt.2.1.1 v.rmt.2.1.2 p0 p1 (by omega), v.gm.2.2.2.2.2.1 t t0 t1 z, decide_eq_false (fun y => k y.symm)]
          rfl
      · rw [e4] at t0
        rw [g92, r_brk_lo _ _ (by omega) t1, v.gm.2.2.2.2.2.2 t t0 t1]
        split <;> rfl
theorem v_mends (v : v_N h) {x y : Int} (hx : z_R x) (hy : z_R y) : v_Op mX9_mends mX10_mends [(0, x), (0, y)] 0 h := by
  have vk := v.2.2.2.2.1
  obtain ⟨kR, hR, a0, a1, a2, a3, ab, aq⟩ := v_af v
  have hs8 := v.sc.2
  refine ⟨_, ct_X9_mends v.ob v.sc.1 vk.1 vk.2.2.2.1 hx hy, fun r h1 hp => ?_⟩
  rw [v_pi v] at hp
  have hbr : r_isP h x y = true → c_broken h (h 4 2) (c_paneAt h (h 3 1) x y) = tb (h 92 8) (4 * x + y) := fun e => by
    rw [(v_pt v e).1]
    unfold c_broken
    rw [v.gm.1]
  rcases hp with ⟨a, e1, e2⟩ | ⟨a, b, e1, e2⟩ | ⟨a, b, e1, e2⟩
  · refine ⟨_, _, e1, by rw [e2]; exact ct_X10_mends v.rob v.rpl v.rmt (v_hU v) hx hy, fun r3 h3 hq => ?_⟩
    rcases hq with ⟨w, f1, f2⟩ | ⟨w, -⟩ | ⟨w, -⟩
    · exact ⟨by rw [f1, e1], by rw [f2]; exact v⟩
    · rw [a] at w; cases w
    · rw [a] at w; cases w
  · refine ⟨_, _, e1, by rw [e2]; exact ct_X10_mends v.rob v.rpl v.rmt (v_hU v) hx hy, fun r3 h3 hq => ?_⟩
    have a' : r_isP h x y = true := by simpa using a
    rw [hbr a'] at b
    rcases hq with ⟨w, -⟩ | ⟨w, w2, f1, f2⟩ | ⟨w, w2, -⟩
    · exact absurd w a
    · exact ⟨by rw [f1, e1], by rw [f2]; exact v⟩
    · rw [b] at w2; cases w2
  · have a' : r_isP h x y = true := by simpa using a
    rw [hbr a'] at b
    obtain ⟨pe, p0, p1⟩ := v_pt v a'
    rw [pe] at e1 e2
    generalize hpp : 4 * x + y = p at *
    have q1 : ∀ q, (q < 4 ∨ 27 < q) → h1 q = h q := fun q hq => by rw [e2, c_menH, z_st_cell _ (by omega), aq q hq]
    have hRf : v_Rf h h1 := ⟨q1 _ (by omega), q1 _ (by omega), q1 _ (by omega), q1 _ (by omega)⟩
    have hh := hRf.ob v
    refine ⟨_, _, e1, ct_X10_mends hh.1 hh.2.1 hh.2.2.1 hh.2.2.2 hx hy, fun r3 h3 hq => ?_⟩
    rw [hRf.isP, hRf.2.2.2, hRf.2.1, hpp] at hq
    rcases hq with ⟨w, -⟩ | ⟨w, w2, -⟩ | ⟨w, w2, f1, f2⟩
    · exact absurd w a
    · rw [b] at w2; cases w2
    · have hc2 : ∀ q, q ≠ 92 → h3 q = r_rem h1 q := fun q hq => by rw [f2, r_menH, z_st_cell _ hq]
      obtain ⟨hB, h4⟩ := v_rm hc2
      have e4 : h3 89 4 = h 89 4 := by rw [h4, hRf.1]
      have g92 : ∀ r, h3 92 r = if r = 8 then z_and (h 92 8) (z_xor (z_shl 1 p) (-1)) else h 92 r := fun r => by
        rw [f2, r_menH, z_st_row, r_rem_c (by decide) (by decide), hRf.2.2.2]
      have gR : ∀ j, j ≠ 1 → h3 (c_advR h 4) j = c_advH h 4 (c_advR h 4) j := fun j hj => by rw [hB _ (by omega) (by omega) (by omega), e2, c_menH, z_st_slot _ hj]
      have gR1 : h3 (c_advR h 4) 1 = z_and (h 92 8) (z_xor (z_shl 1 p) (-1)) := by rw [hB _ (by omega) (by omega) (by omega), e2, c_menH, z_st_at, a1]
      have gr : h3 (c_advR h 4 + 1) = c_advH h 4 (c_advR h 4 + 1) := by rw [hB _ (by omega) (by omega) (by omega), e2, c_menH, z_st_cell _ (by omega)]
      refine ⟨?_, v_adv v rfl (fun q b1 b2 => by rw [e2, c_menH, z_st_cell _ b1]) (by rw [e2, c_menH, z_st_slot _ (by decide)]; exact a0) hc2 ⟨?_, ?_, ?_, fun q q0 q1 => ?_, ?_, fun t t0 t1 => ?_, fun t t0 t1 => ?_⟩⟩
      · rw [f1, e1, v.gp.2.2.2.1 p p0 p1]
      · rw [gR1, g92, if_pos rfl]
      · rw [gR 2 (by decide), a2, g92, if_neg (by decide)]
      · rw [gR 3 (by decide), a3, g92, if_neg (by decide)]
      · rw [gr, ab q q0 q1]
        have : r_at h3 (h3 92) q = r_at h (h 92) q := by
          unfold r_at
          rw [e4]
          exact z_set_cg (fun s hs => by rw [g92, if_neg (by omega)])
        rw [this]
      · exact v.rmt.at8' (z_andnot_20 v.rmt.2.1.1 v.rmt.2.1.2) g92
      · rw [g92, if_neg (by omega), g92, if_pos rfl]
        intro z
        have ht := v.rmt.1 t t0 t1
        rw [tb_andnot v.rmt.2.1.1 v.rmt.2.1.2 p0 p1 (by omega), v.gm.2.2.2.2.2.1 t t0 t1 z]
        rfl
      · rw [e4] at t0
        rw [g92, if_neg (by omega)]
        exact v.gm.2.2.2.2.2.2 t t0 t1
theorem v_moves (v : v_N h) {x y : Int} (hx : z_R x) (hy : z_R y) : v_Op mX9_moves mX10_moves [(0, x), (0, y)] 0 h := by
  have vk := v.2.2.2.2.1
  obtain ⟨kR, hR, a0, a1, a2, a3, ab, aq⟩ := v_af v
  have hs8 := v.sc.2
  have hpl := v.1.pl.1
  refine ⟨_, ct_X9_moves v.ob v.sc.1 vk.1 vk.2.2.2.1 hx hy, fun r h1 hp => ?_⟩
  rw [v.gm.2.1, v.gm.2.2.1] at hp
  rcases hp with ⟨a, e1, e2⟩ | ⟨a, b, e1, e2⟩ | ⟨a, b, e1, e2⟩
  · refine ⟨_, _, e1, by rw [e2]; exact ct_X10_moves v.rob v.rpl v.rmt (v_hU v) hx hy, fun r3 h3 hq => ?_⟩
    rcases hq with ⟨w, f1, f2⟩ | ⟨w, -⟩ | ⟨w, -⟩
    · exact ⟨by rw [f1, e1], by rw [f2]; exact v⟩
    · exact absurd w a
    · exact absurd w a
  · refine ⟨_, _, e1, by rw [e2]; exact ct_X10_moves v.rob v.rpl v.rmt (v_hU v) hx hy, fun r3 h3 hq => ?_⟩
    rcases hq with ⟨w, -⟩ | ⟨w, w2, f1, f2⟩ | ⟨w, w2, -⟩
    · exact absurd a w
    · exact ⟨by rw [f1, e1], by rw [f2]; exact v⟩
    · exact absurd b w2
  · have q1 : ∀ q, (q < 4 ∨ 27 < q) → h1 q = h q := fun q hq => by rw [e2, c_movH, z_st_cell _ (by omega), z_st_cell _ (by omega), aq q hq]
    have hRf : v_Rf h h1 := ⟨q1 _ (by omega), q1 _ (by omega), q1 _ (by omega), q1 _ (by omega)⟩
    have hh := hRf.ob v
    refine ⟨_, _, e1, ct_X10_moves hh.1 hh.2.1 hh.2.2.1 hh.2.2.2 hx hy, fun r3 h3 hq => ?_⟩
    rw [hRf.2.2.2] at hq
    rcases hq with ⟨w, -⟩ | ⟨w, w2, -⟩ | ⟨w, w2, f1, f2⟩
    · exact absurd a w
    · exact absurd w2 b
    · have hc2 : ∀ q, q ≠ 92 → h3 q = r_rem h1 q := fun q hq => by rw [f2, r_movH, z_st_cell _ hq, z_st_cell _ hq]
      obtain ⟨hB, h4⟩ := v_rm hc2
      have e4 : h3 89 4 = h 89 4 := by rw [h4, hRf.1]
      have g92 : ∀ r, h3 92 r = if r = 10 then y else if r = 9 then x else h 92 r := fun r => by
        rw [f2, r_movH, z_st_row, z_st_row, r_rem_c (by decide) (by decide), hRf.2.2.2]
      have gR : ∀ j, j ≠ 2 → j ≠ 3 → h3 (c_advR h 4) j = c_advH h 4 (c_advR h 4) j := fun j hj hk => by rw [hB _ (by omega) (by omega) (by omega), e2, c_movH, z_st_slot _ hk, z_st_slot _ hj]
      have gR2 : h1 (c_advR h 4) 2 = x := by rw [e2, c_movH, z_st_slot _ (by decide), z_st_at]
      have gR3 : h1 (c_advR h 4) 3 = y := by rw [e2, c_movH, z_st_at]
      have gr : h3 (c_advR h 4 + 1) = c_advH h 4 (c_advR h 4 + 1) := by rw [hB _ (by omega) (by omega) (by omega), e2, c_movH, z_st_cell _ (by omega), z_st_cell _ (by omega)]
      refine ⟨?_, v_adv v rfl (fun q b1 b2 => by rw [e2, c_movH, z_st_cell _ b1, z_st_cell _ b1]) (by rw [e2, c_movH, z_st_slot _ (by decide), z_st_slot _ (by decide)]; exact a0) hc2 ⟨?_, ?_, ?_, fun q q0 q1 => ?_, ?_, fun t t0 t1 => ?_, fun t t0 t1 => ?_⟩⟩
      · rw [f1, e1, ← e2, g_lost hh.2.1 a.1 (by rw [q1 _ (by omega), hRf.1]; exact v.gp.1) (by rw [q1 _ (by omega), hRf.1]; exact v.gp.2.1) gR2]
      · rw [gR 1 (by decide) (by decide), a1, g92, if_neg (by decide), if_neg (by decide)]
      · rw [hB _ (by omega) (by omega) (by omega), gR2, g92, if_neg (by decide), if_pos rfl]
      · rw [hB _ (by omega) (by omega) (by omega), gR3, g92, if_pos rfl]
      · rw [gr, ab q q0 q1]
        have : r_at h3 (h3 92) q = r_at h (h 92) q := by
          unfold r_at
          rw [e4]
          exact z_set_cg (fun s hs => by rw [g92, if_neg (by omega), if_neg (by omega)])
        rw [this]
      · obtain ⟨m1, m2, m3, m4⟩ := v.rmt
        refine ⟨fun t t0 t1 => ?_, ?_, ?_, ?_⟩
        · rw [g92, if_neg (by omega), if_neg (by omega)]; exact m1 t t0 t1
        · rw [g92, if_neg (by decide), if_neg (by decide)]; exact m2
        · rw [g92, if_neg (by decide), if_pos rfl]; omega
        · rw [g92, if_pos rfl]; omega
      · rw [g92, if_neg (by omega), if_neg (by omega), g92, if_neg (by decide), if_neg (by decide)]
        exact v.gm.2.2.2.2.2.1 t t0 t1
      · rw [e4] at t0
        rw [g92, if_neg (by omega), if_neg (by omega)]
        exact v.gm.2.2.2.2.2.2 t t0 t1
theorem v_undo (v : v_N h) : v_Op mX9_undo mX10_undo [] 0 h := by
  obtain ⟨vs, vt, vm, vg, vk, vp, vl, vi⟩ := id v
  have hs := v.sc.2
  refine ⟨_, ct_X9_undo v.ob v.sc.1 vk.1, fun r h1 hp => ?_⟩
  rw [vl.1] at hp
  rcases hp with ⟨a, e1, e2⟩ | ⟨a, e1, e2⟩
  · refine ⟨_, _, e1, by rw [e2]; exact ct_X10_undo v.rob v.rpl v.rmt (v_hU v), fun r3 h3 hq => ?_⟩
    rcases hq with ⟨w, f1, f2⟩ | ⟨w, -⟩
    · exact ⟨by rw [f1, e1], by rw [f2]; exact v⟩
    · exact absurd a w
  · have q1 : ∀ q, q ≠ 4 → h1 q = h q := fun q hq => by rw [e2, c_undH, z_st_cell _ hq, z_st_cell _ hq]
    have hRf : v_Rf h h1 := ⟨q1 _ (by decide), q1 _ (by decide), q1 _ (by decide), q1 _ (by decide)⟩
    have hh := hRf.ob v
    refine ⟨_, _, e1, ct_X10_undo hh.1 hh.2.1 hh.2.2.1 hh.2.2.2, fun r3 h3 hq => ?_⟩
    rw [hRf.1] at hq
    rcases hq with ⟨w, -⟩ | ⟨w, f1, f2⟩
    · exact absurd w a
    · have f89 : ∀ j, j ≠ 8 → h3 89 j = h 89 j := fun j hj => by rw [f2, r_undH, r_cp_ne (by decide), z_st_slot _ hj, hRf.1]
      have f8 : h3 89 8 = h 89 8 - 1 := by rw [f2, r_undH, r_cp_ne (by decide), z_st_at, hRf.1]
      have fq : ∀ q, q ≠ 4 → q ≠ 89 → q ≠ 92 → h3 q = h q := fun q b1 b2 b3 => by rw [f2, r_undH, r_cp_ne b3, z_st_cell _ b2, q1 q b1]
      have f92 : ∀ t, 0 ≤ t → t < 11 → h3 92 t = h 94 (11 * (h 89 8 - 1) + t) := fun t t0 t1 => by
        rw [f2, r_undH, r_cp, z_rw_at]
        show (if 0 ≤ t ∧ t < 0 + 11 then z_st h1 89 8 (h1 89 8 - 1) 94 (11 * (h1 89 8 - 1) + (t - 0)) else _) = _
        rw [if_pos ⟨t0, by omega⟩, z_st_cell _ (by decide), q1 94 (by decide), hRf.1, Int.sub_zero]
      have g4 : ∀ j, j ≠ 1 → j ≠ 2 → h3 4 j = h 4 j := fun j b1 b2 => by rw [f2, r_undH, r_cp_ne (by decide), z_st_cell _ (by decide), e2, c_undH, z_st_slot _ b2, z_st_slot _ b1]
      have g41 : h3 4 1 = h 4 1 - 1 := by rw [f2, r_undH, r_cp_ne (by decide), z_st_cell _ (by decide), e2, c_undH, z_st_slot _ (by decide), z_st_at]
      have g42 : h3 4 2 = h 5 (h 4 1 - 1) := by rw [f2, r_undH, r_cp_ne (by decide), z_st_cell _ (by decide), e2, c_undH, z_st_at]
      have hpst := vk.1.2.2.2.2.2.1
      have eu := vl.1
      have hm1 : 4 + 2 ≤ h 5 (h 4 1 - 1) ∧ h 5 (h 4 1 - 1) ≤ 4 + 22 := vk.1.mo (by omega) (by omega)
      refine ⟨by rw [f1, e1], vs.fr (fun q hq => fq q (by omega) (by omega) (by omega)) (fun j _ => by rw [fq 0 (by decide) (by decide) (by decide)]) (fun j _ => by rw [fq 34 (by decide) (by decide) (by decide)]) (fun j hj => f89 j (fun e => by
          subst e
          rcases hj with w | w | w | w
          · exact absurd w (by decide)
          · exact absurd w (by decide)
          · exact absurd w (by decide)
          · revert w; decide)), vt.fr (fq _ (by decide) (by decide) (by decide)) (fq _ (by decide) (by decide) (by decide)) (fun j _ => by rw [fq 1 (by decide) (by decide) (by decide)]) (f89 16 (by decide)), vm.fr (fq _ (by decide) (by decide) (by decide)) (fq _ (by decide) (by decide) (by decide)) (fq _ (by decide) (by decide) (by decide)) (by rw [fq 0 (by decide) (by decide) (by decide)]) (f89 17 (by decide)), vg.fr (fq _ (by decide) (by decide) (by decide)) (fq _ (by decide) (by decide) (by decide)) (fq _ (by decide) (by decide) (by decide)) (by rw [fq 34 (by decide) (by decide) (by decide)]) (f89 14 (by decide)), ⟨?_, vk.2.1.fr (fq _ (by decide) (by decide) (by decide)) (fq _ (by decide) (by decide) (by decide)), vk.2.2.1.fr (fq _ (by decide) (by decide) (by decide)) (fq _ (by decide) (by decide) (by decide)), fun m hm => ?_, fun m hm => ?_⟩, v_plfr vs vp (fun q hq => fq q (by omega) (by omega) (by omega)) (fun j hj => f89 j (by omega)), ⟨?_, fun i i0 i1 => ?_, ?_⟩, vi.fr vk hs (fun q hq => fq q (by omega) (by omega) (by omega)) (by rw [fq 0 (by decide) (by decide) (by decide)]) (f89 4 (by decide))⟩
      · obtain ⟨s1, s2, s3, s4, s5, s6, s7⟩ := vk.1
        unfold c_St
        rw [show (4 : Int) + 1 = 5 from rfl, fq 5 (by decide) (by decide) (by decide), g41, g42, g4 0 (by decide) (by decide)]
        exact ⟨s1, s2, s3, s4, s5, by omega, rfl⟩
      · have := z_kd_mom hm
        rw [fq m (by omega) (by omega) (by omega)]; exact vk.2.2.2.1 m hm
      · have := z_kd_mom hm
        rw [fq m (by omega) (by omega) (by omega)]; exact vk.2.2.2.2 m hm
      · rw [g41, f8, eu]
      · rw [g41] at i1
        have hm : 4 + 2 ≤ h 5 i ∧ h 5 i ≤ 4 + 22 := vk.1.mo i0 (by omega)
        rw [fq 5 (by decide) (by decide) (by decide), fq 94 (by decide) (by decide) (by decide)]
        exact (vl.2.1 i i0 (by omega)).like hs (c_Like.cells (fq _ (by omega) (by omega) (by omega)) (fq _ (by omega) (by omega) (by omega))) (f89 4 (by decide)) (r_TE.rf _)
      · rw [g42]
        exact (vl.2.1 (h 4 1 - 1) (by omega) (by omega)).like hs (c_Like.cells (fq _ (by omega) (by omega) (by omega)) (fq _ (by omega) (by omega) (by omega))) (f89 4 (by decide)) (fun t t0 t1 => by
          show h3 92 t = h 94 (11 * (h 4 1 - 1) + t)
          rw [f92 t t0 t1, eu])
end OPS
