/-! CLASS AND REFERENCE: a pane broken -/
theorem tb_or {x p q : Int} (h0 : 0 ≤ x) (h1 : x < 1048576) (p0 : 0 ≤ p) (p1 : p < 20) (q0 : 0 ≤ q) : tb (z_or x (z_shl 1 p)) q = (tb x q || decide (p = q)) := by
  obtain ⟨a, rfl⟩ := Int.eq_ofNat_of_zero_le h0
  have hb : (2 : Nat) ^ p.toNat < 2 ^ 20 := Nat.pow_lt_pow_right (by decide) (by omega)
  rw [z_shl1 p0 (by omega), z_or_nat (by omega) (by omega)]
  unfold tb
  rw [Int.toNat_natCast, Int.toNat_natCast, Nat.testBit_or, Nat.testBit_two_pow]
  congr 1
  exact decide_eq_decide.mpr ⟨fun g => by omega, fun g => by omega⟩
theorem r_brk_8 (T : Int → Int) (p : Int) : r_brk T p 8 = z_or (T 8) (z_shl 1 p) := by
  unfold r_brk
  rw [if_neg (by omega), if_pos rfl]
theorem r_brk_hi (T : Int → Int) (p : Int) {r : Int} (h1 : 8 < r) : r_brk T p r = T r := by
  unfold r_brk
  rw [if_neg (by omega), if_neg (by omega)]
theorem r_brk_lo (T : Int → Int) (p : Int) {s : Int} (h0 : 0 ≤ s) (h1 : s < 8) : r_brk T p s = if T s = p then -9 else T s := by
  unfold r_brk
  by_cases e : T s = p
  · rw [if_pos ⟨h0, h1, e⟩, if_pos e]
  · rw [if_neg (fun g => e g.2.2), if_neg (by omega), if_neg e]
theorem r_at_brk {h : z_H} (hr : r_Pl h) (T : Int → Int) {p q : Int} (q0 : 0 ≤ q) (e : q ≠ p) : r_at h (r_brk T p) q = r_at h T q := by
  unfold r_at
  refine z_set_cg (fun s hs => ?_)
  have hs8 := hr.2.2.1
  rw [r_brk_lo T p (by omega) (by omega)]
  by_cases g : T (s : Int) = p
  · rw [if_pos g]
    exact decide_eq_decide.mpr ⟨fun g2 => by omega, fun g2 => by omega⟩
  · rw [if_neg g]
theorem r_lets_brk {h : z_H} (hr : r_Pl h) {T : Int → Int} (hT : r_Mt T) {p q : Int} (p0 : 0 ≤ p) (p1 : p < 20) (q0 : 0 ≤ q) (q1 : q < 20) : r_lets h (r_brk T p) q = if q = p then 7 else r_lets h T q := by
  unfold r_lets
  rw [r_brk_8, tb_or hT.2.1.1 hT.2.1.2 p0 p1 q0]
  by_cases e : q = p
  · rw [if_pos e, decide_eq_true e.symm, Bool.or_true, if_pos rfl]
  · rw [if_neg e, decide_eq_false (fun g => e g.symm), Bool.or_false, r_at_brk hr T q0 e]
theorem r_pn_brk (h : z_H) (T : Int → Int) (p x y k : Int) (tn : Bool) : r_pn h (r_brk T p) x y k tn = r_pn h T x y k tn := by
  unfold r_pn r_col
  rw [r_brk_hi T p (by decide), r_brk_hi T p (by decide)]
/-- the two panes of a tile's light are never one -/
theorem r_pn_two {h : z_H} {T : Int → Int} {x y k : Int} (h1 : ¬ r_pn h T x y k false = -9) (hr : r_Pl h) : r_pn h T x y k false ≠ r_pn h T x y k true := by
  intro e
  rw [r_pn_f] at h1 e
  rw [r_pn_t] at e
  by_cases g1 : r_isP h (x - k) (y - T 10) = true ∧ x < T 9
  · rw [if_pos g1] at e
    by_cases g2 : r_isP h (2 * T 9 - 1 - x - k) (y - T 10) = true ∧ T 9 ≤ 2 * T 9 - 1 - x
    · rw [if_pos g2] at e
      omega
    · rw [if_neg g2] at e
      have := of_decide_eq_true g1.1
      omega
  · exact h1 (if_neg g1)
theorem r_h1_on {h : z_H} (hr : r_Pl h) {T : Int → Int} (hT : r_Mt T) {p q : Int} {b : Bool} (hp : p = -9 ∨ (0 ≤ p ∧ p < 20)) (hq : q = -9 ∨ (0 ≤ q ∧ q < 20)) : r_ln h (r_h1 T p b) q = if b = true ∧ ¬ p = -9 ∧ q = p then 7 else r_ln h T q := by
  unfold r_h1 r_ln
  by_cases e : b = true ∧ ¬ p = -9
  · rw [if_pos e]
    by_cases g : q = -9
    · rw [if_pos g, if_neg (fun w => e.2 (by omega)), if_pos g]
    · rw [if_neg g, r_lets_brk hr hT (by omega) (by omega) (by omega) (by omega)]
      by_cases w : q = p
      · rw [if_pos w, if_pos ⟨e.1, e.2, w⟩]
      · rw [if_neg w, if_neg (fun z => w z.2.2), if_neg g]
  · rw [if_neg e]
    rw [if_neg (c := b = true ∧ ¬ p = -9 ∧ q = p) (fun z => e ⟨z.1, z.2.1⟩)]
theorem r_h1_pn (h : z_H) (T : Int → Int) (p : Int) (b : Bool) (x y k : Int) (tn : Bool) : r_pn h (r_h1 T p b) x y k tn = r_pn h T x y k tn := by
  unfold r_h1
  split
  · exact r_pn_brk h T p x y k tn
  · rfl
theorem r_h1_mt {T : Int → Int} (hT : r_Mt T) {p : Int} (b : Bool) (hp : p = -9 ∨ (0 ≤ p ∧ p < 20)) : r_Mt (r_h1 T p b) := by
  unfold r_h1
  split
  · rename_i g
    exact hT.brk (by omega) (by omega)
  · exact hT
/-- the light, some panes broken by the hail -/
theorem g_abT {h : z_H} (hr : r_Pl h) (hT : r_Mt (h 92)) (x y k s : Int) : r_on h (r_abT h x y k s) x y k = z_or (if tb s 0 = true ∧ ¬ r_pn h (h 92) x y k false = -9 then 7 else r_ln h (h 92) (r_pn h (h 92) x y k false)) (if tb s 1 = true ∧ ¬ r_pn h (h 92) x y k true = -9 then 7 else r_ln h (h 92) (r_pn h (h 92) x y k true)) := by
  have p1 := r_pn_rng hr (T := h 92) (x := x) (y := y) (k := k) (tn := false)
  have p2 := r_pn_rng hr (T := h 92) (x := x) (y := y) (k := k) (tn := true)
  have hne := r_pn_two (h := h) (T := h 92) (x := x) (y := y) (k := k)
  unfold r_on r_abT
  rw [r_h1_pn, r_h1_pn, r_h1_pn, r_h1_pn]
  generalize r_pn h (h 92) x y k false = o at *
  generalize r_pn h (h 92) x y k true = t at *
  have m1 := r_h1_mt hT (tb s 0) p1
  rw [r_h1_on hr m1 p2 p1, r_h1_on hr m1 p2 p2, r_h1_on hr hT p1 p1, r_h1_on hr hT p1 p2]
  have e1 : (if tb s 1 = true ∧ ¬ t = -9 ∧ o = t then 7 else if tb s 0 = true ∧ ¬ o = -9 ∧ o = o then 7 else r_ln h (h 92) o) = (if tb s 0 = true ∧ ¬ o = -9 then 7 else r_ln h (h 92) o) := by
    by_cases g : tb s 1 = true ∧ ¬ t = -9 ∧ o = t
    · exact absurd g.2.2 (hne (by rw [g.2.2]; exact g.2.1) hr)
    · rw [if_neg g]
      by_cases g2 : tb s 0 = true ∧ ¬ o = -9
      · rw [if_pos ⟨g2.1, g2.2, rfl⟩, if_pos g2]
      · rw [if_neg (fun w => g2 ⟨w.1, w.2.1⟩), if_neg g2]
  have e2 : (if tb s 1 = true ∧ ¬ t = -9 ∧ t = t then 7 else if tb s 0 = true ∧ ¬ o = -9 ∧ t = o then 7 else r_ln h (h 92) t) = (if tb s 1 = true ∧ ¬ t = -9 then 7 else r_ln h (h 92) t) := by
    by_cases g : tb s 1 = true ∧ ¬ t = -9
    · rw [if_pos ⟨g.1, g.2, rfl⟩, if_pos g]
    · rw [if_neg (fun w => g ⟨w.1, w.2.1⟩), if_neg g]
      by_cases g2 : tb s 0 = true ∧ ¬ o = -9 ∧ t = o
      · exact absurd g2.2.2.symm (hne g2.2.1 hr)
      · rw [if_neg g2]
  rw [e1, e2]
