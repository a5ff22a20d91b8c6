/-! EACH CALL, 4: deeds -/
section OPS
variable {h h1 h2 : z_H}
/-- the new moment, before the deed -/
theorem v_af (v : v_N h) : z_kd 107 (c_advR h 4) = (0, 1) ∧ (6 ≤ c_advR h 4 ∧ c_advR h 4 ≤ 26) ∧ c_advH h 4 (c_advR h 4) 0 = c_advR h 4 + 1 ∧ c_advH h 4 (c_advR h 4) 1 = h 92 8 ∧ c_advH h 4 (c_advR h 4) 2 = h 92 9 ∧ c_advH h 4 (c_advR h 4) 3 = h 92 10 ∧ (∀ p, 0 ≤ p → p < 20 → c_advH h 4 (c_advR h 4 + 1) p = ((r_at h (h 92) p : Nat) : Int)) ∧ ∀ q, (q < 4 ∨ 27 < q) → c_advH h 4 q = h q := by
  obtain ⟨s1, s2, s3, s4, s5, s6, s7, s8⟩ := c_adv_spec v.2.2.2.2.1.1 v.2.2.2.2.1.2.2.2.1
  obtain ⟨l1, l2, l3, l4⟩ := s5
  obtain ⟨m1, m2, m3, mb, -⟩ := v.gm
  exact ⟨s8.1, ⟨by omega, by omega⟩, s2 _ s8.1, l1.trans m1, l2.trans m2, l3.trans m3, fun p a b => (l4 p a b).trans (mb p a b), fun q hq => s7 q (by omega) (by omega) (by omega) (by omega)⟩
theorem v_pi (v : v_N h) (x y : Int) : c_paneAt h (h 3 1) x y = -1 ↔ r_isP h x y = false := by
  rw [g_paneAt v.gp]
  by_cases e : r_isP h x y = true
  · have := g_isP v.rpl e
    rw [if_pos e]
    exact ⟨fun w => by omega, fun w => by rw [e] at w; cases w⟩
  · rw [if_neg e]
    exact ⟨fun _ => by simpa using e, fun _ => rfl⟩
theorem v_pt (v : v_N h) {x y : Int} (e : r_isP h x y = true) : c_paneAt h (h 3 1) x y = 4 * x + y ∧ 0 ≤ 4 * x + y ∧ 4 * x + y < 20 := by
  have := g_isP v.rpl e
  rw [g_paneAt v.gp, if_pos e]
  exact ⟨rfl, this⟩
theorem v_is (v : v_N h) (s : Int) : c_isSh h (h 3 1) s = r_isS h s := by
  unfold c_isSh r_isS
  rw [v.gp.2.2.1]
theorem v_hU (v : v_N h) : 0 ≤ h 89 8 ∧ h 89 8 ≤ 10 := by
  rw [← v.2.2.2.2.2.2.1.1]
  exact v.2.2.2.2.1.1.2.2.2.2.2.1
theorem v_Rf.ob (e : v_Rf h h1) (v : v_N h) : r_Ob h1 ∧ r_Pl h1 ∧ r_Mt (h1 92) ∧ 0 ≤ h1 89 8 ∧ h1 89 8 ≤ 10 := ⟨v.rob.to (fun j _ => by rw [e.1]), v.rpl.to (by rw [e.1]) (by rw [e.1]) (by rw [e.1]) e.2.1 e.2.2.1, by rw [e.2.2.2]; exact v.rmt, by rw [e.1]; exact v_hU v⟩
theorem v_Rf.isS (e : v_Rf h h1) (s : Int) : r_isS h1 s = r_isS h s := by unfold r_isS; rw [e.1]
theorem v_Rf.isP (e : v_Rf h h1) (x y : Int) : r_isP h1 x y = r_isP h x y := by unfold r_isP; rw [e.1]
theorem r_at_b (h : z_H) (T : Int → Int) (p : Int) (i : Nat) : (r_at h T p).testBit i = (decide (i < (h 89 4).toNat) && decide (T (i : Int) = p)) := z_set_bit _ _ _
/-- cells of the end state -/
theorem v_rm (hc : ∀ q, q ≠ 92 → h2 q = r_rem h1 q) : (∀ q, q ≠ 92 → q ≠ 89 → q ≠ 94 → h2 q = h1 q) ∧ h2 89 4 = h1 89 4 := ⟨fun q a b c => by rw [hc q a, r_rem_c b c], by rw [hc 89 (by decide), r_rem_s (by decide)]⟩
theorem v_takes (v : v_N h) {s : Int} (hs : z_R s) : v_Op mX9_takes mX10_takes [(0, s)] 0 h := by
  have vk := v.2.2.2.2.1
  obtain ⟨kR, hR, a0, a1, a2, a3, ab, aq⟩ := v_af v
  have hs8 := v.sc.2
  refine ⟨_, ct_X9_takes v.ob v.sc.1 vk.1 vk.2.2.2.1 hs, fun r h1 hp => ?_⟩
  rcases hp with ⟨a, e1, e2⟩ | ⟨a, b, e1, e2⟩ | ⟨a, b, e1, e2⟩
  · refine ⟨_, _, e1, by rw [e2]; exact ct_X10_takes v.rob v.rpl v.rmt (v_hU v) hs, fun r3 h3 hq => ?_⟩
    rw [v_is v] at a
    rcases hq with ⟨w, f1, f2⟩ | ⟨w, -⟩ | ⟨w, -⟩
    · exact ⟨by rw [f1, e1], by rw [f2]; exact v⟩
    · rw [a] at w; cases w
    · rw [a] at w; cases w
  · refine ⟨_, _, e1, by rw [e2]; exact ct_X10_takes v.rob v.rpl v.rmt (v_hU v) hs, fun r3 h3 hq => ?_⟩
    rw [v_is v] at a
    have sb := of_decide_eq_true a
    rw [g_behind v.rpl v.gm sb.1 sb.2] at b
    rcases hq with ⟨w, -⟩ | ⟨w, w2, f1, f2⟩ | ⟨w, w2, -⟩
    · rw [a] at w; cases w
    · exact ⟨by rw [f1, e1], by rw [f2]; exact v⟩
    · exact absurd b w2
  · rw [v_is v] at a
    have sb := of_decide_eq_true a
    have gb := g_behind v.rpl v.gm sb.1 sb.2
    rw [gb] at b e1 e2
    have hTs : 0 ≤ h 92 s ∧ h 92 s < 20 := by
      rcases v.rmt.1 s sb.1 (by omega) with w | w
      · exact absurd w b
      · exact w
    have q1 : ∀ q, (q < 4 ∨ 27 < q) → h1 q = h q := fun q hq => by rw [e2, c_takH, z_st_cell _ (by omega), aq q hq]
    have hRf : v_Rf h h1 := ⟨q1 _ (by omega), q1 _ (by omega), q1 _ (by omega), q1 _ (by omega)⟩
    have hh := hRf.ob v
    refine ⟨_, _, e1, ct_X10_takes hh.1 hh.2.1 hh.2.2.1 hh.2.2.2 hs, fun r3 h3 hq => ?_⟩
    rw [hRf.isS, hRf.2.2.2] at hq
    rcases hq with ⟨w, -⟩ | ⟨w, w2, -⟩ | ⟨w, w2, f1, f2⟩
    · rw [a] at w; cases w
    · exact absurd w2 b
    · refine ⟨by rw [f1, e1], ?_⟩
      have hc2 : ∀ q, q ≠ 92 → h3 q = r_rem h1 q := fun q hq => by rw [f2, r_layH, z_st_cell _ hq]
      obtain ⟨hB, h4⟩ := v_rm hc2
      have e4 : h3 89 4 = h 89 4 := by rw [h4, hRf.1]
      have g92 : ∀ r, h3 92 r = if r = s then -9 else h 92 r := fun r => by
        rw [f2, r_layH, z_st_row, r_rem_c (by decide) (by decide), hRf.2.2.2]
      have gR : h3 (c_advR h 4) = c_advH h 4 (c_advR h 4) := by rw [hB _ (by omega) (by omega) (by omega), e2, c_takH, z_st_cell _ (by omega)]
      have gr : h3 (c_advR h 4 + 1) = fun q => if q = h 92 s then z_and (c_advH h 4 (c_advR h 4 + 1) (h 92 s)) (z_xor (z_shl 1 s) (-1)) else c_advH h 4 (c_advR h 4 + 1) q := by rw [hB _ (by omega) (by omega) (by omega), e2, c_takH, z_st_row]
      refine v_adv v rfl (fun q b1 b2 => by rw [e2, c_takH, z_st_cell _ b2]) (by rw [e2, c_takH, z_st_cell _ (by omega)]; exact a0) hc2 ⟨?_, ?_, ?_, fun q q0 q1 => ?_, ?_, fun t t0 t1 => ?_, fun t t0 t1 => ?_⟩
      · rw [gR, a1, g92, if_neg (by omega)]
      · rw [gR, a2, g92, if_neg (by omega)]
      · rw [gR, a3, g92, if_neg (by omega)]
      · rw [gr]
        show (if q = h 92 s then z_and (c_advH h 4 (c_advR h 4 + 1) (h 92 s)) (z_xor (z_shl 1 s) (-1)) else c_advH h 4 (c_advR h 4 + 1) q) = _
        by_cases w : q = h 92 s
        · rw [if_pos w, ab _ hTs.1 hTs.2, z_shl1 sb.1 (by omega), z_andnot _ (Nat.lt_of_lt_of_le (r_at_lt v.rpl _ _) (by decide))]
          congr 1
          apply Nat.eq_of_testBit_eq
          intro i
          rw [Nat.testBit_xor, Nat.testBit_and, Nat.testBit_two_pow, r_at_b, r_at_b, e4, g92, w]
          by_cases k : s.toNat = i
          · rw [decide_eq_true k, if_pos (by omega), show decide ((-9 : Int) = h 92 s) = false from decide_eq_false (by omega), Bool.and_true, Bool.and_false]
            cases (decide (i < (h 89 4).toNat) && decide (h 92 (i : Int) = h 92 s)) <;> rfl
          · rw [decide_eq_false k, if_neg (by omega), Bool.and_false, Bool.xor_false]
        · rw [if_neg w, ab q q0 q1]
          congr 1
          apply Nat.eq_of_testBit_eq
          intro i
          rw [r_at_b, r_at_b, e4, g92]
          by_cases k : (i : Int) = s
          · rw [if_pos k, k, show decide ((-9 : Int) = q) = false from decide_eq_false (by omega), show decide (h 92 s = q) = false from decide_eq_false (fun z => w z.symm)]
          · rw [if_neg k]
      · exact v.rmt.put' sb.1 (by omega) (Or.inl rfl) g92
      · rw [g92, g92, if_neg (c := (8 : Int) = s) (by omega)]
        by_cases k : t = s
        · rw [if_pos k]; intro z; exact absurd rfl z
        · rw [if_neg k]; exact v.gm.2.2.2.2.2.1 t t0 t1
      · rw [e4] at t0
        rw [g92]
        split
        · rfl
        · exact v.gm.2.2.2.2.2.2 t t0 t1
theorem v_lays (v : v_N h) {s x y : Int} (hs : z_R s) (hx : z_R x) (hy : z_R y) : v_Op mX9_lays mX10_lays [(0, s), (0, x), (0, y)] 0 h := by
  have vk := v.2.2.2.2.1
  obtain ⟨kR, hR, a0, a1, a2, a3, ab, aq⟩ := v_af v
  have hs8 := v.sc.2
  have hpl := v.1.pl.1
  have hroom : r_isP h x y = true → (c_room h (h 4 2) (c_paneAt h (h 3 1) x y) = 0 ↔ (tb (h 92 8) (4 * x + y) = true ∨ z_pop ((r_at h (h 92) (4 * x + y) : Nat) : Int) = 3)) := fun e => by
    have hp := v_pt v e
    rw [hp.1]
    unfold c_room c_broken
    rw [v.gm.1, v.gm.2.2.2.1 _ hp.2.1 hp.2.2]
    by_cases w : tb (h 92 8) (4 * x + y) = true
    · rw [if_pos (Or.inr w)]; exact ⟨fun _ => Or.inl w, fun _ => rfl⟩
    · rw [if_neg (fun z => z.elim (fun z => by omega) (fun z => w z))]
      exact ⟨fun z => Or.inr (by omega), fun z => z.elim (fun z => absurd z w) (fun z => by omega)⟩
  refine ⟨_, ct_X9_lays v.ob v.sc.1 vk.1 vk.2.2.2.1 hs hx hy, fun r h1 hp => ?_⟩
  rw [v_is v, v_pi v] at hp
  rcases hp with ⟨a, e1, e2⟩ | ⟨a, ap, b, e1, e2⟩ | ⟨a, ap, b, br, e1, e2⟩
  · refine ⟨_, _, e1, by rw [e2]; exact ct_X10_lays v.rob v.rpl v.rmt (v_hU v) hs hx hy, fun r3 h3 hq => ?_⟩
    rcases hq with ⟨w, f1, f2⟩ | ⟨w, w2, -⟩ | ⟨w, w2, -⟩
    · exact ⟨by rw [f1, e1], by rw [f2]; exact v⟩
    · rw [w, w2] at a; rcases a with a | a <;> cases a
    · rw [w, w2] at a; rcases a with a | a <;> cases a
  · refine ⟨_, _, e1, by rw [e2]; exact ct_X10_lays v.rob v.rpl v.rmt (v_hU v) hs hx hy, fun r3 h3 hq => ?_⟩
    have ap' : r_isP h x y = true := by simpa using ap
    have sb := of_decide_eq_true a
    rw [g_behind v.rpl v.gm sb.1 sb.2, hroom ap'] at b
    rcases hq with ⟨w, -⟩ | ⟨w, w2, w3, f1, f2⟩ | ⟨w, w2, w3, w4, w5, -⟩
    · rcases w with w | w
      · rw [a] at w; cases w
      · exact absurd w ap
    · exact ⟨by rw [f1, e1], by rw [f2]; exact v⟩
    · rcases b with b | b | b
      · exact absurd w3 b
      · rw [w4] at b; cases b
      · exact absurd b w5
  · have ap' : r_isP h x y = true := by simpa using ap
    have sb := of_decide_eq_true a
    obtain ⟨pe, p0, p1⟩ := v_pt v ap'
    rw [g_behind v.rpl v.gm sb.1 sb.2] at b
    rw [hroom ap'] at br
    rw [pe] at e1 e2
    have nb : tb (h 92 8) (4 * x + y) = false := by
      cases e : tb (h 92 8) (4 * x + y) with
      | false => rfl
      | true => exact absurd (Or.inl e) br
    have n3 : ¬ z_pop ((r_at h (h 92) (4 * x + y) : Nat) : Int) = 3 := fun e => br (Or.inr e)
    have q1 : ∀ q, (q < 4 ∨ 27 < q) → h1 q = h q := fun q hq => by rw [e2, c_layH, z_st_cell _ (by omega), aq q hq]
    have hRf : v_Rf h h1 := ⟨q1 _ (by omega), q1 _ (by omega), q1 _ (by omega), q1 _ (by omega)⟩
    have hh := hRf.ob v
    refine ⟨_, _, e1, ct_X10_lays hh.1 hh.2.1 hh.2.2.1 hh.2.2.2 hs hx hy, fun r3 h3 hq => ?_⟩
    rw [hRf.isS, hRf.isP, hRf.2.2.2, hRf.at_] at hq
    rcases hq with ⟨w, -⟩ | ⟨w, w2, w3, -⟩ | ⟨w, w2, w3, w4, w5, f1, f2⟩
    · rcases w with w | w
      · rw [a] at w; cases w
      · exact absurd w ap
    · rcases w3 with w3 | w3 | w3
      · exact absurd b w3
      · rw [nb] at w3; cases w3
      · exact absurd w3 n3
    · have hc2 : ∀ q, q ≠ 92 → h3 q = r_rem h1 q := fun q hq => by rw [f2, r_layH, z_st_cell _ hq]
      obtain ⟨hB, h4⟩ := v_rm hc2
      have e4 : h3 89 4 = h 89 4 := by rw [h4, hRf.1]
      have g92 : ∀ r, h3 92 r = if r = s then 4 * x + y else h 92 r := fun r => by
        rw [f2, r_layH, z_st_row, r_rem_c (by decide) (by decide), hRf.2.2.2]
      have gR : h3 (c_advR h 4) = c_advH h 4 (c_advR h 4) := by rw [hB _ (by omega) (by omega) (by omega), e2, c_layH, z_st_cell _ (by omega)]
      have gr : h3 (c_advR h 4 + 1) = fun q => if q = 4 * x + y then z_or (c_advH h 4 (c_advR h 4 + 1) (4 * x + y)) (z_shl 1 s) else c_advH h 4 (c_advR h 4 + 1) q := by rw [hB _ (by omega) (by omega) (by omega), e2, c_layH, z_st_row]
      have gM : g_Mo h3 (c_advR h 4) (h3 92) := by
        refine ⟨?_, ?_, ?_, fun q q0 q1 => ?_, ?_, fun t t0 t1 => ?_, fun t t0 t1 => ?_⟩
        · rw [gR, a1, g92, if_neg (by omega)]
        · rw [gR, a2, g92, if_neg (by omega)]
        · rw [gR, a3, g92, if_neg (by omega)]
        · rw [gr]
          show (if q = 4 * x + y then z_or (c_advH h 4 (c_advR h 4 + 1) (4 * x + y)) (z_shl 1 s) else c_advH h 4 (c_advR h 4 + 1) q) = _
          by_cases w : q = 4 * x + y
          · have hb8 : (2 : Nat) ^ s.toNat < 2 ^ 8 := Nat.pow_lt_pow_right (by decide) (by omega)
            rw [if_pos w, ab _ p0 p1, z_shl1 sb.1 (by omega), z_or_nat (Nat.lt_of_lt_of_le (r_at_lt v.rpl _ _) (by decide)) (by omega)]
            congr 1
            apply Nat.eq_of_testBit_eq
            intro i
            rw [Nat.testBit_or, Nat.testBit_two_pow, r_at_b, r_at_b, e4, g92, w]
            by_cases k : s.toNat = i
            · rw [decide_eq_true k, if_pos (by omega), decide_eq_true (show 4 * x + y = 4 * x + y from rfl), Bool.or_true, Bool.and_true, decide_eq_true (show i < (h 89 4).toNat by omega)]
            · rw [decide_eq_false k, if_neg (by omega), Bool.or_false]
          · rw [if_neg w, ab q q0 q1]
            congr 1
            apply Nat.eq_of_testBit_eq
            intro i
            rw [r_at_b, r_at_b, e4, g92]
            by_cases k : (i : Int) = s
            · rw [if_pos k, k, show decide (4 * x + y = q) = false from decide_eq_false (fun z => w z.symm), show decide (h 92 s = q) = false from decide_eq_false (by omega)]
            · rw [if_neg k]
        · exact v.rmt.put' sb.1 (by omega) (Or.inr ⟨p0, p1⟩) g92
        · rw [g92, g92, if_neg (c := (8 : Int) = s) (by omega)]
          by_cases k : t = s
          · rw [if_pos k]; intro z; exact nb
          · rw [if_neg k]; exact v.gm.2.2.2.2.2.1 t t0 t1
        · rw [e4] at t0
          rw [g92, if_neg (by omega)]
          exact v.gm.2.2.2.2.2.2 t t0 t1
      have v3 : v_N h3 := v_adv v rfl (fun q b1 b2 => by rw [e2, c_layH, z_st_cell _ b2]) (by rw [e2, c_layH, z_st_cell _ (by omega)]; exact a0) hc2 gM
      refine ⟨?_, v3⟩
      have gp3 : g_Pl h3 (h 3 1) := by
        have := v3.gp
        rw [hB 3 (by decide) (by decide) (by decide), q1 3 (by omega)] at this
        exact this
      have hcl : c_lets h1 (h 3 1) (c_advR h 4) (4 * x + y) = c_lets h3 (h 3 1) (c_advR h 4) (4 * x + y) := by
        unfold c_lets c_colour c_broken
        rw [hB (c_advR h 4) (by omega) (by omega) (by omega), hB (c_advR h 4 + 1) (by omega) (by omega) (by omega), hB (h 3 1 + 1) (by omega) (by omega) (by omega), hB (h 3 1 + 2) (by omega) (by omega) (by omega)]
      rw [f1, e1, ← f2, ← e2, hcl, g_lets v3.rpl gp3 gM p0 p1]
end OPS
