/-! CLASS AND REFERENCE: parts, the greatest -/
theorem z_gr_ge {ok : Int → Bool} {f : Int → Int} {u : Nat} (hu : ok (u : Int) = true) : ∀ {n : Nat}, u < n → f (u : Int) ≤ z_gr ok f n
  | 0, h => by omega
  | n + 1, h => by
    unfold z_gr
    by_cases e : u = n
    · subst e
      rw [if_pos hu]
      split <;> omega
    · have ih := z_gr_ge (f := f) hu (n := n) (by omega)
      split
      · split <;> omega
      · exact ih
/-- both, the first n panes looked at -/
def g_J (h : z_H) (pl mo : Int) (n : Nat) (t : r_C) : Prop := (∀ q : Nat, q < 20 → ((∃ u : Nat, u < n ∧ g_pa h u ∧ g_M h pl mo u q) ∧ t.1 (q : Int) = -1) ∨ ((∀ u : Nat, u < n → g_pa h u → ¬ g_M h pl mo u q) ∧ t.1 (q : Int) = r_lay h (q : Int))) ∧ t.2.2.1 = z_sum (c_ptf h pl mo) n ∧ t.2.2.2 = z_gr (c_has h pl) (fun p => z_pop (c_part h pl mo p)) n
theorem g_low {X : Int} (h0 : 0 ≤ X) (h1 : X < 1048576) {p : Nat} (hp : p < 20) : z_and X (z_shl 1 (p : Int) - 1) = 0 ↔ ∀ u : Nat, u < p → X.toNat.testBit u = false := by
  obtain ⟨x, rfl⟩ := Int.eq_ofNat_of_zero_le h0
  have hb : 1 ≤ (2 : Nat) ^ p := Nat.one_le_two_pow
  rw [z_shl1 (by omega) (by omega), Int.toNat_natCast, show ((2 ^ p : Nat) : Int) - 1 = ((2 ^ p - 1 : Nat) : Int) by omega, z_and_nat _ (by omega), Int.toNat_natCast]
  constructor
  · intro e u hu
    have e2 : x &&& (2 ^ p - 1) = 0 := by omega
    have := congrArg (fun z => z.testBit u) e2
    simp only [Nat.testBit_and, Nat.testBit_two_pow_sub_one, Nat.zero_testBit, decide_eq_true hu, Bool.and_true] at this
    exact this
  · intro hu
    have : x &&& (2 ^ p - 1) = 0 := by
      apply Nat.eq_of_testBit_eq
      intro i
      rw [Nat.testBit_and, Nat.testBit_two_pow_sub_one, Nat.zero_testBit]
      by_cases g : i < p
      · rw [hu i g, Bool.false_and]
      · rw [decide_eq_false g, Bool.and_false]
    rw [this]
    rfl
theorem g_has_pa {h : z_H} {pl : Int} (hp : g_Pl h pl) {p : Nat} (hp2 : p < 20) : c_has h pl (p : Int) = true ↔ g_pa h p := by
  rw [g_has hp _ (by omega)]
  exact ⟨fun e => ⟨hp2, e⟩, fun e => e.2⟩
theorem g_J_skip {h : z_H} {pl mo : Int} (hp : g_Pl h pl) {n : Nat} (hn : n < 20) (g : ¬ g_pa h n) {t : r_C} (hJ : g_J h pl mo n t) : g_J h pl mo (n + 1) t := by
  obtain ⟨a, b, c⟩ := hJ
  have e : ¬ c_has h pl (n : Int) = true := fun w => g ((g_has_pa hp hn).mp w)
  refine ⟨fun q hq => ?_, ?_, ?_⟩
  · rcases a q hq with ⟨⟨u, u1, u2, u3⟩, w⟩ | ⟨w1, w2⟩
    · exact Or.inl ⟨⟨u, by omega, u2, u3⟩, w⟩
    · refine Or.inr ⟨fun u hu gu => ?_, w2⟩
      by_cases k : u = n
      · subst k; exact absurd gu g
      · exact w1 u (by omega) gu
  · rw [z_sum_s, ← b]
    unfold c_ptf
    rw [if_neg (fun w => e w.1), Int.add_zero]
  · rw [c]
    show _ = if c_has h pl (n : Int) = true then _ else _
    rw [if_neg e]
theorem g_J_do {h : z_H} {pl mo : Int} (hr : r_Pl h) (hp : g_Pl h pl) (hm : g_Mo h mo (h 92)) {n : Nat} (g : g_pa h n) {t : r_C} (hJ : g_J h pl mo n t) : g_J h pl mo (n + 1) (r_ptS h (n : Int) t) := by
  obtain ⟨a, b, c⟩ := hJ
  have hn := g.1
  have e := (g_has_pa hp hn).mpr g
  have hrng := c_part_rng h pl mo (n : Int)
  have hlo := g_low hrng.1 hrng.2 hn
  have l0 : 0 ≤ r_lay h (n : Int) := by
    unfold r_lay
    rw [if_pos ⟨by omega, by omega⟩]
    have := hr.2.2.2.1 (n : Int) (by omega) (by omega)
    unfold r_cl
    split <;> omega
  unfold r_ptS
  by_cases k : 0 ≤ t.1 (n : Int)
  · rw [if_pos k]
    have hno : ∀ u : Nat, u < n → g_pa h u → ¬ g_M h pl mo u n := by
      rcases a n hn with ⟨-, w⟩ | ⟨w, -⟩
      · omega
      · exact w
    have hnM : ∀ q : Nat, g_M h pl mo n q → ∀ u : Nat, u < n → g_pa h u → ¬ g_M h pl mo u q := fun q hq u hu gu w => by
      exact hno u hu gu (g_M_in hp hm gu w (g_M_sym hp hm g hq))
    have hM : ∀ q, g_M h pl mo n q → t.1 (q : Int) = r_lay h (q : Int) := fun q hq => by
      have q20 := (g_M2 hp hm g hq).1.1
      rcases a q q20 with ⟨⟨u, u1, u2, u3⟩, -⟩ | ⟨-, w⟩
      · exact absurd u3 (hnM q hq u u1 u2)
      · exact w
    obtain ⟨A, B, C⟩ := g_pf (W := t.2.1) hr hp hm g hM (fun q hq => by
      rcases a q hq with ⟨-, w⟩ | ⟨-, w⟩
      · exact Or.inl w
      · exact Or.inr w)
    refine ⟨fun q hq => ?_, ?_, ?_⟩
    · show ((∃ u : Nat, u < n + 1 ∧ g_pa h u ∧ g_M h pl mo u q) ∧ (r_pf h t.1 t.2.1 (n : Int)).1 (q : Int) = -1) ∨ ((∀ u : Nat, u < n + 1 → g_pa h u → ¬ g_M h pl mo u q) ∧ (r_pf h t.1 t.2.1 (n : Int)).1 (q : Int) = r_lay h (q : Int))
      by_cases w : g_M h pl mo n q
      · exact Or.inl ⟨⟨n, by omega, g, w⟩, A q hq w⟩
      · rw [B q hq w]
        rcases a q hq with ⟨⟨u, u1, u2, u3⟩, v⟩ | ⟨v1, v2⟩
        · exact Or.inl ⟨⟨u, by omega, u2, u3⟩, v⟩
        · refine Or.inr ⟨fun u hu gu => ?_, v2⟩
          by_cases z : u = n
          · subst z; exact w
          · exact v1 u (by omega) gu
    · show t.2.2.1 + 1 = _
      rw [z_sum_s, ← b]
      unfold c_ptf
      rw [if_pos ⟨e, hlo.mpr (fun u hu => by
        cases z : (c_part h pl mo (n : Int)).toNat.testBit u with
        | false => rfl
        | true => exact absurd (g_M_sym hp hm g (show g_M h pl mo n u from z)) (hno u hu (g_M2 hp hm g (show g_M h pl mo n u from z)).1))⟩]
    · show (if t.2.2.2 < (r_pf h t.1 t.2.1 (n : Int)).2.2 then (r_pf h t.1 t.2.1 (n : Int)).2.2 else t.2.2.2) = if c_has h pl (n : Int) = true then _ else _
      rw [if_pos e, C, c]
  · rw [if_neg k]
    obtain ⟨u, u1, u2, u3⟩ : ∃ u : Nat, u < n ∧ g_pa h u ∧ g_M h pl mo u n := by
      rcases a n hn with ⟨w, -⟩ | ⟨-, w⟩
      · exact w
      · omega
    refine ⟨fun q hq => ?_, ?_, ?_⟩
    · rcases a q hq with ⟨⟨v, v1, v2, v3⟩, w⟩ | ⟨w1, w2⟩
      · exact Or.inl ⟨⟨v, by omega, v2, v3⟩, w⟩
      · refine Or.inr ⟨fun v hv gv w => ?_, w2⟩
        by_cases z : v = n
        · subst z
          exact w1 u u1 u2 (g_M_in hp hm u2 u3 w)
        · exact w1 v (by omega) gv w
    · rw [z_sum_s, ← b]
      unfold c_ptf
      rw [if_neg (fun w => by
        have h1 := hlo.mp w.2 u u1
        have h2 : (c_part h pl mo (n : Int)).toNat.testBit u = true := g_M_sym hp hm u2 u3
        rw [h2] at h1
        cases h1), Int.add_zero]
    · show t.2.2.2 = if c_has h pl (n : Int) = true then (if z_gr (c_has h pl) (fun p => z_pop (c_part h pl mo p)) n < z_pop (c_part h pl mo (n : Int)) then _ else _) else _
      have hge := z_gr_ge (ok := c_has h pl) (f := fun p => z_pop (c_part h pl mo p)) (u := u) ((g_has_pa hp u2.1).mpr u2) (n := n) u1
      have hsm := g_M_same hp hm u2 u3
      rw [if_pos e, if_neg (by
        have hge' : z_pop (c_part h pl mo (u : Int)) ≤ z_gr (c_has h pl) (fun p => z_pop (c_part h pl mo p)) n := hge
        omega)]
      exact c
theorem g_ptY {h : z_H} {pl mo : Int} (hr : r_Pl h) (hp : g_Pl h pl) (hm : g_Mo h mo (h 92)) {x : Nat} (hx : (x : Int) < h 89 0) {s : r_C} (hs : g_J h pl mo (4 * x) s) : ∀ n : Nat, n ≤ (h 89 1).toNat → g_J h pl mo (4 * x + n) (r_ptY h (x : Int) s n)
  | 0, _ => hs
  | n + 1, hn => by
    have ih := g_ptY hr hp hm hx hs n (by omega)
    have h4 := hr.2.1
    have hw := hr.1
    have e : g_pa h (4 * x + n) := ⟨by omega, by
      rw [show ((4 * x + n : Nat) : Int) / 4 = (x : Int) by omega, show ((4 * x + n : Nat) : Int) % 4 = (n : Int) by omega]
      exact r_isP_iff.mpr ⟨by omega, hx, by omega, by omega⟩⟩
    have := g_J_do hr hp hm e ih
    rw [show ((4 * x + n : Nat) : Int) = 4 * (x : Int) + (n : Int) by omega] at this
    exact this
theorem g_J_up {h : z_H} {pl mo : Int} (hp : g_Pl h pl) {N : Nat} {t : r_C} (hs : g_J h pl mo N t) : ∀ n : Nat, N + n ≤ 20 → (∀ k : Nat, N ≤ k → k < N + n → ¬ g_pa h k) → g_J h pl mo (N + n) t
  | 0, _, _ => hs
  | n + 1, hn, hk => g_J_skip hp (by omega) (hk (N + n) (by omega) (by omega)) (g_J_up hp hs n (by omega) (fun k a b => hk k a (by omega)))
theorem g_ptX {h : z_H} {pl mo : Int} (hr : r_Pl h) (hp : g_Pl h pl) (hm : g_Mo h mo (h 92)) : ∀ n : Nat, n ≤ (h 89 0).toNat → g_J h pl mo (4 * n) (r_ptX h (r_pt0 h) n)
  | 0, _ => ⟨fun q hq => Or.inr ⟨fun u hu => by omega, rfl⟩, rfl, rfl⟩
  | n + 1, hn => by
    have ih := g_ptX hr hp hm n (by omega)
    have h4 := hr.2.1
    have hw := hr.1
    have := g_ptY hr hp hm (x := n) (by omega) ih (h 89 1).toNat (Nat.le_refl _)
    have up := g_J_up hp this (4 - (h 89 1).toNat) (by omega) (fun k a b g => by
      have := r_isP_iff.mp g.2
      omega)
    rw [show 4 * n + (h 89 1).toNat + (4 - (h 89 1).toNat) = 4 * (n + 1) by omega] at up
    exact up
theorem g_pts {h : z_H} {pl mo : Int} (hr : r_Pl h) (hp : g_Pl h pl) (hm : g_Mo h mo (h 92)) : (r_pts h).2.2.1 = c_parts h pl mo ∧ (r_pts h).2.2.2 = c_great h pl mo := by
  have hw := hr.1
  have key := g_ptX hr hp hm (h 89 0).toNat (Nat.le_refl _)
  have up := g_J_up hp key (20 - 4 * (h 89 0).toNat) (by omega) (fun k a b g => by
    have := r_isP_iff.mp g.2
    omega)
  rw [show 4 * (h 89 0).toNat + (20 - 4 * (h 89 0).toNat) = 20 by omega] at up
  exact up.2
theorem g_nowF {h : z_H} {pl mo : Int} (hr : r_Pl h) (hp : g_Pl h pl) (hm : g_Mo h mo (h 92)) (w : Int) : c_nowF h pl mo w = r_nowF h w := by
  unfold c_nowF r_nowF
  rw [hm.2.1, hm.2.2.1, hm.1, g_box hr hp hm, g_leads hr hp hm, (g_pts hr hp hm).1, (g_pts hr hp hm).2]
