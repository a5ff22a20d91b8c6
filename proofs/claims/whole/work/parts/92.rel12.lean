/-! CLASS AND REFERENCE: the child's next tile, 2 -/
theorem g_nst {f : Int → Int} {c U r : Int} {ok : Bool} (hr : r = if ok = true ∧ (c = -9 ∨ f c < f U) then U else c) (hc : c = -9 ∨ c < U) (hU : ok = true → 0 ≤ U) : (ok = false → r = c) ∧ (ok = true → g_D f r U ∧ ¬ r = -9) ∧ (¬ c = -9 → g_D f r c ∧ ¬ r = -9) ∧ (r = c ∨ (r = U ∧ ok = true)) := by
  by_cases g : ok = true ∧ (c = -9 ∨ f c < f U)
  · rw [if_pos g] at hr
    have := hU g.1
    refine ⟨fun e => ?_, fun _ => ⟨?_, by omega⟩, fun e => ⟨?_, by omega⟩, Or.inr ⟨hr, g.1⟩⟩
    · rw [e] at g; exact absurd g.1 (by decide)
    · rw [hr]; exact g_D.rf f U
    · rw [hr]; exact Or.inl (g.2.resolve_left e)
  · rw [if_neg g] at hr
    refine ⟨fun _ => hr, fun e => ?_, fun e => ⟨?_, by omega⟩, Or.inl hr⟩
    · have h1 : ¬ c = -9 := fun q => g ⟨e, Or.inl q⟩
      have h2 : ¬ f c < f U := fun q => g ⟨e, Or.inr q⟩
      refine ⟨?_, by omega⟩
      rw [hr]
      unfold g_D
      omega
    · rw [hr]; exact g_D.rf f c
theorem g_nt (f : Int → Int) {t : Int} (h0 : 0 ≤ t) (h1 : t < 84) : g_V t (r_nt f t) ∧ ∀ d, g_V t d → g_D f (r_nt f t) d := by
  have step : ∀ (n : Nat) (U : Int) (ok : Bool), 7 * (t / 7 + r_dx (n : Int)) + (t % 7 + r_dy (n : Int)) = U → c_tile (t / 7 + r_dx (n : Int)) (t % 7 + r_dy (n : Int)) = ok → r_ntN f t (n + 1) = if ok = true ∧ (r_ntN f t n = -9 ∨ f (r_ntN f t n) < f U) then U else r_ntN f t n := fun n U ok e1 e2 => by
    rw [r_ntN, e1, e2]
  have a0 : r_ntN f t 0 = -9 := rfl
  have x0 := step 0 (t - 7) (decide (7 ≤ t)) (by show 7 * (t / 7 + -1) + (t % 7 + 0) = t - 7; omega) (by show c_tile (t / 7 + -1) (t % 7 + 0) = _; exact decide_eq_decide.mpr ⟨fun g => by omega, fun g => by omega⟩)
  have x1 := step 1 (t - 1) (decide (0 < t % 7)) (by show 7 * (t / 7 + 0) + (t % 7 + -1) = t - 1; omega) (by show c_tile (t / 7 + 0) (t % 7 + -1) = _; exact decide_eq_decide.mpr ⟨fun g => by omega, fun g => by omega⟩)
  have x2 := step 2 t true (by show 7 * (t / 7 + 0) + (t % 7 + 0) = t; omega) (by show c_tile (t / 7 + 0) (t % 7 + 0) = _; exact decide_eq_true (by omega))
  have x3 := step 3 (t + 1) (decide (t % 7 < 6)) (by show 7 * (t / 7 + 0) + (t % 7 + 1) = t + 1; omega) (by show c_tile (t / 7 + 0) (t % 7 + 1) = _; exact decide_eq_decide.mpr ⟨fun g => by omega, fun g => by omega⟩)
  have x4 := step 4 (t + 7) (decide (t + 7 < 84)) (by show 7 * (t / 7 + 1) + (t % 7 + 0) = t + 7; omega) (by show c_tile (t / 7 + 1) (t % 7 + 0) = _; exact decide_eq_decide.mpr ⟨fun g => by omega, fun g => by omega⟩)
  obtain ⟨-, b1, c1, d1⟩ := g_nst x0 (Or.inl a0) (fun g => by have := of_decide_eq_true g; omega)
  have r1 : r_ntN f t 1 = -9 ∨ (r_ntN f t 1 = t - 7 ∧ 7 ≤ t) := d1.elim (fun e => Or.inl (e.trans a0)) (fun e => Or.inr ⟨e.1, of_decide_eq_true e.2⟩)
  obtain ⟨-, b2, c2, d2⟩ := g_nst x1 (by omega) (fun g => by have := of_decide_eq_true g; omega)
  have r2 : r_ntN f t 2 = r_ntN f t 1 ∨ (r_ntN f t 2 = t - 1 ∧ 0 < t % 7) := d2.elim Or.inl (fun e => Or.inr ⟨e.1, of_decide_eq_true e.2⟩)
  obtain ⟨-, b3, c3, d3⟩ := g_nst x2 (by omega) (fun _ => h0)
  have r3 : r_ntN f t 3 = r_ntN f t 2 ∨ r_ntN f t 3 = t := d3.elim Or.inl (fun e => Or.inr e.1)
  have b3 := b3 rfl
  obtain ⟨-, b4, c4, d4⟩ := g_nst x3 (by omega) (fun g => by omega)
  have r4 : r_ntN f t 4 = r_ntN f t 3 ∨ (r_ntN f t 4 = t + 1 ∧ t % 7 < 6) := d4.elim Or.inl (fun e => Or.inr ⟨e.1, of_decide_eq_true e.2⟩)
  obtain ⟨-, b5, c5, d5⟩ := g_nst x4 (by omega) (fun g => by omega)
  have r5 : r_ntN f t 5 = r_ntN f t 4 ∨ (r_ntN f t 5 = t + 7 ∧ t + 7 < 84) := d5.elim Or.inl (fun e => Or.inr ⟨e.1, of_decide_eq_true e.2⟩)
  have c4 := c4 b3.2
  have c5 := c5 c4.2
  unfold r_nt
  refine ⟨?_, fun d hd => ?_⟩
  · unfold g_V
    have n5 := c5.2
    have n4 := c4.2
    have n3 := b3.2
    clear x0 x1 x2 x3 x4 d1 d2 d3 d4 d5 b1 b2 b4 b5 c1 c2 c3 b3 c4 c5 step
    generalize r_ntN f t 5 = y5 at *
    generalize r_ntN f t 4 = y4 at *
    generalize r_ntN f t 3 = y3 at *
    generalize r_ntN f t 2 = y2 at *
    generalize r_ntN f t 1 = y1 at *
    omega
  · rcases hd with e | ⟨e, c⟩ | ⟨e, c⟩ | ⟨e, c⟩ | ⟨e, c⟩
    · subst e; exact c5.1.tr (c4.1.tr b3.1)
    · subst e
      have q1 := b1 (decide_eq_true c)
      have q2 := c2 q1.2
      have q3 := c3 q2.2
      exact c5.1.tr (c4.1.tr (q3.1.tr (q2.1.tr q1.1)))
    · subst e
      have q2 := b2 (decide_eq_true c)
      have q3 := c3 q2.2
      exact c5.1.tr (c4.1.tr (q3.1.tr q2.1))
    · subst e; exact c5.1.tr (b4 (decide_eq_true c)).1
    · subst e; exact (b5 (decide_eq_true c)).1
theorem g_next (f : Int → Int) {t : Int} (h0 : 0 ≤ t) (h1 : t < 84) : w_onw f t = r_nt f t := ((g_onw f t).2 _ (g_nt f h0 h1).1).eq ((g_nt f h0 h1).2 _ (g_onw f t).1)
