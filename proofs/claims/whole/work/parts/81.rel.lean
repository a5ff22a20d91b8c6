/-! CLASS AND REFERENCE side by side -/
/-- the plan at pl is the reference's window -/
def g_Pl (h : z_H) (pl : Int) : Prop := h pl 2 = h 89 0 ∧ h pl 3 = h 89 1 ∧ h pl 4 = h 89 4 ∧ (∀ p, 0 ≤ p → p < 20 → h (pl + 1) p = h 90 p) ∧ ∀ a : Nat, a < 2 ^ (h 89 4).toNat → h (pl + 2) (a : Int) = r_th h (a : Int)
/-- the moment at m is the row T -/
def g_Mo (h : z_H) (m : Int) (T : Int → Int) : Prop := h m 1 = T 8 ∧ h m 2 = T 9 ∧ h m 3 = T 10 ∧ (∀ p, 0 ≤ p → p < 20 → h (m + 1) p = ((r_at h T p : Nat) : Int)) ∧ r_Mt T ∧ (∀ s, 0 ≤ s → s < 8 → ¬ T s = -9 → tb (T 8) (T s) = false) ∧ ∀ s, h 89 4 ≤ s → s < 8 → T s = -9
theorem z_and_77 : z_and 7 7 = 7 := by decide +kernel
theorem tb_0 (i : Int) : tb 0 i = false := by
  unfold tb
  rw [show (0 : Int).toNat = 0 from rfl, Nat.zero_testBit]
theorem r_thr_0 (h : z_H) : ∀ n, r_thr h 0 n = 7
  | 0 => rfl
  | n + 1 => by
    unfold r_thr
    rw [r_thr_0 h n, if_neg (by rw [tb_0]; decide), z_and_77]
theorem z_set_0 {P : Nat → Bool} : ∀ {n : Nat}, (∀ s, s < n → P s = false) → z_set P n = 0
  | 0, _ => rfl
  | n + 1, h => by
    rw [z_set_no (h n (by omega)), z_set_0 (fun s hs => h s (by omega))]
theorem g_lets {h : z_H} {pl mo : Int} {T : Int → Int} (hr : r_Pl h) (hp : g_Pl h pl) (hm : g_Mo h mo T) {p : Int} (h0 : 0 ≤ p) (h1 : p < 20) : c_lets h pl mo p = r_lets h T p := by
  obtain ⟨p2, p3, p4, pg, pp⟩ := hp
  obtain ⟨m1, m2, m3, mb, mt, mk, mz⟩ := hm
  have hlt := z_set_lt (fun s => decide (T (s : Int) = p)) (h 89 4).toNat
  unfold c_lets c_colour c_broken r_lets
  rw [if_neg (by omega), m1, mb p h0 h1, pp (r_at h T p) hlt]
  by_cases hb : tb (T 8) p = true
  · rw [if_pos hb, if_pos hb]
    have hz : r_at h T p = 0 := z_set_0 (fun s hs => decide_eq_false (fun e => by
      have hs8 := hr.2.2.1
      have := mk (s : Int) (by omega) (by omega) (by omega)
      rw [e, hb] at this
      exact absurd this (by decide)))
    rw [hz]
    show z_and 7 (r_thr h 0 _) = 7
    rw [r_thr_0, z_and_77]
  · rw [if_neg hb, if_neg hb, pg p h0 h1]
/-- which pane: the class says -1 where the reference says -9 -/
def g_p (p : Int) : Int := if p = -9 then -1 else p
theorem r_pn_f (h : z_H) (T : Int → Int) (x y k : Int) : r_pn h T x y k false = if r_isP h (x - k) (y - T 10) = true ∧ x < T 9 then 4 * (x - k) + (y - T 10) else -9 := rfl
theorem g_own {h : z_H} {pl mo : Int} {T : Int → Int} (hp : g_Pl h pl) (hm : g_Mo h mo T) (t k : Int) : c_own h pl mo t k = g_p (r_pn h T (t / 7) (t % 7) k false) := by
  obtain ⟨p2, p3, -⟩ := hp
  obtain ⟨m1, m2, m3, -⟩ := hm
  rw [r_pn_f]
  unfold c_own c_paneAt
  rw [m2, m3, p2, p3]
  by_cases hx : T 9 ≤ t / 7
  · rw [if_pos hx, if_neg (fun g => absurd g.2 (by omega))]
    rfl
  · rw [if_neg hx]
    by_cases hi : 0 ≤ t / 7 - k ∧ t / 7 - k < h 89 0 ∧ 0 ≤ t % 7 - T 10 ∧ t % 7 - T 10 < h 89 1
    · rw [if_pos hi, if_pos ⟨decide_eq_true hi, by omega⟩]
      unfold g_p
      rw [if_neg (by omega)]
    · rw [if_neg hi, if_neg (fun g => hi (of_decide_eq_true g.1))]
      rfl
theorem r_pn_t (h : z_H) (T : Int → Int) (x y k : Int) : r_pn h T x y k true = if r_isP h (2 * T 9 - 1 - x - k) (y - T 10) = true ∧ T 9 ≤ 2 * T 9 - 1 - x then 4 * (2 * T 9 - 1 - x - k) + (y - T 10) else -9 := rfl
theorem g_mir {h : z_H} {pl mo : Int} {T : Int → Int} (hp : g_Pl h pl) (hm : g_Mo h mo T) (t k : Int) : c_mir h pl mo t k = g_p (r_pn h T (t / 7) (t % 7) k true) := by
  obtain ⟨p2, p3, -⟩ := hp
  obtain ⟨m1, m2, m3, -⟩ := hm
  rw [r_pn_t]
  unfold c_mir c_paneAt
  rw [m2, m3, p2, p3]
  by_cases hx : T 9 ≤ t / 7
  · rw [if_pos hx, if_neg (fun g => absurd g.2 (by omega))]
    rfl
  · rw [if_neg hx]
    by_cases hi : 0 ≤ 2 * T 9 - 1 - t / 7 - k ∧ 2 * T 9 - 1 - t / 7 - k < h 89 0 ∧ 0 ≤ t % 7 - T 10 ∧ t % 7 - T 10 < h 89 1
    · rw [if_pos hi, if_pos ⟨decide_eq_true hi, by omega⟩]
      unfold g_p
      rw [if_neg (by omega)]
    · rw [if_neg hi, if_neg (fun g => hi (of_decide_eq_true g.1))]
      rfl
theorem g_ln {h : z_H} {pl mo : Int} {T : Int → Int} (hr : r_Pl h) (hp : g_Pl h pl) (hm : g_Mo h mo T) {p : Int} (h0 : p = -9 ∨ (0 ≤ p ∧ p < 20)) : c_lets h pl mo (g_p p) = r_ln h T p := by
  unfold g_p r_ln
  by_cases e : p = -9
  · rw [if_pos e, if_pos e]
    unfold c_lets
    rw [if_pos rfl]
  · rw [if_neg e, if_neg e]
    exact g_lets hr hp hm (by omega) (by omega)
theorem g_light {h : z_H} {pl mo : Int} {T : Int → Int} (hr : r_Pl h) (hp : g_Pl h pl) (hm : g_Mo h mo T) (t k : Int) : c_light h pl mo t k = r_on h T (t / 7) (t % 7) k := by
  unfold c_light r_on
  rw [g_own hp hm, g_mir hp hm, g_ln hr hp hm (r_pn_rng hr), g_ln hr hp hm (r_pn_rng hr)]
