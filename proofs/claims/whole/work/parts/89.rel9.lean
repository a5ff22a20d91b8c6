/-! CLASS AND REFERENCE: suspects -/
/-- the sights of both -/
def g_Sg (h : z_H) : Prop := h 34 2 = h 89 14 ∧ ∀ i, 0 ≤ i → i < h 89 14 → h 35 i = (7 * h 99 (4 * i) + h 99 (4 * i + 1)) * 8 + h 99 (4 * i + 2) ∧ h 36 i = h 99 (4 * i + 3)
theorem g_ifp {h : z_H} {pl mo : Int} (hr : r_Pl h) (hp : g_Pl h pl) (hm : g_Mo h mo (h 92)) {p q : Int} (p0 : 0 ≤ p) (p1 : p < 20) (hq : q = -9 ∨ (0 ≤ q ∧ q < 20)) : (if g_p q = p then 7 else c_lets h pl mo (g_p q)) = r_ln h (r_brk (h 92) p) q := by
  rw [g_ln hr hp hm hq]
  unfold g_p r_ln
  by_cases e : q = -9
  · rw [if_pos e, if_pos e, if_pos e, if_neg (by omega)]
  · rw [if_neg e, if_neg e, if_neg e, r_lets_brk hr hm.2.2.2.2.1 p0 p1 (by omega) (by omega)]
theorem g_lightIf {h : z_H} {pl mo : Int} (hr : r_Pl h) (hp : g_Pl h pl) (hm : g_Mo h mo (h 92)) {p : Int} (p0 : 0 ≤ p) (p1 : p < 20) (t k : Int) : c_lightIf h pl mo t k p 7 = r_on h (r_brk (h 92) p) (t / 7) (t % 7) k := by
  unfold c_lightIf r_on
  rw [g_own hp hm, g_mir hp hm, r_pn_brk, r_pn_brk, g_ifp hr hp hm p0 p1 (r_pn_rng hr), g_ifp hr hp hm p0 p1 (r_pn_rng hr)]
theorem g_light0 {h : z_H} {pl mo : Int} (t k : Int) : c_lightIf h pl mo t k (-1) 0 = c_light h pl mo t k := by
  have key : ∀ q : Int, (if q = -1 then 0 else c_lets h pl mo q) = c_lets h pl mo q := fun q => by
    by_cases e : q = -1
    · rw [if_pos e]
      unfold c_lets
      rw [if_pos e]
    · rw [if_neg e]
  unfold c_lightIf c_light
  rw [key, key]
theorem g_agr {h : z_H} (hs : g_Sg h) (hG : r_Sg h) {pl mo q v : Int} {T : Int → Int} (e : ∀ t k, c_lightIf h pl mo t k q v = r_on h T (t / 7) (t % 7) k) : c_agr h pl mo q v = r_so h T := by
  unfold c_agr r_so
  rw [hs.1]
  refine z_all_cg (fun i a b => ?_)
  have hb : i < h 89 14 := by have := hG.1; omega
  have h1 := hs.2 i a hb
  have h2 := hG.2 i a hb
  unfold c_agP r_soP
  rw [e, h1.1, h1.2, show ((7 * h 99 (4 * i) + h 99 (4 * i + 1)) * 8 + h 99 (4 * i + 2)) / 8 = 7 * h 99 (4 * i) + h 99 (4 * i + 1) by omega, show ((7 * h 99 (4 * i) + h 99 (4 * i + 1)) * 8 + h 99 (4 * i + 2)) % 8 = h 99 (4 * i + 2) by omega, show (7 * h 99 (4 * i) + h 99 (4 * i + 1)) / 7 = h 99 (4 * i) by omega, show (7 * h 99 (4 * i) + h 99 (4 * i + 1)) % 7 = h 99 (4 * i + 1) by omega]
theorem g_has {h : z_H} {pl : Int} (hp : g_Pl h pl) (p : Int) (h0 : 0 ≤ p) : c_has h pl p = r_isP h (p / 4) (p % 4) := by
  unfold c_has
  rw [g_paneAt hp]
  by_cases g : r_isP h (p / 4) (p % 4) = true
  · rw [if_pos g, g, decide_eq_false (by omega)]
    rfl
  · rw [if_neg g, decide_eq_true rfl]
    have : r_isP h (p / 4) (p % 4) = false := by simpa using g
    rw [this]
    rfl
theorem g_sus {h : z_H} {pl mo : Int} (hr : r_Pl h) (hp : g_Pl h pl) (hm : g_Mo h mo (h 92)) (hs : g_Sg h) (hG : r_Sg h) : c_sus h pl mo = r_sus h := by
  unfold c_sus r_sus
  refine z_set_cg (fun p hp2 => ?_)
  unfold c_susP r_susP r_may r_brP
  by_cases e : p = 20
  · subst e
    rw [if_pos rfl, if_neg (by decide), g_agr hs hG (fun t k => by rw [g_light0]; exact g_light hr hp hm t k)]
    rfl
  · rw [if_neg e, if_pos (by omega), g_agr hs hG (g_lightIf hr hp hm (by omega) (by omega)), g_has hp _ (by omega), decide_eq_false (show ¬ (p : Int) = 20 by omega), Bool.false_or]
    unfold c_broken
    rw [hm.1]
