/-! CLASS AND REFERENCE: glasses -/
theorem tb_andnot {x p q : Int} (h0 : 0 ≤ x) (h1 : x < 1048576) (p0 : 0 ≤ p) (p1 : p < 20) (q0 : 0 ≤ q) : tb (z_and x (z_xor (z_shl 1 p) (-1))) q = (tb x q && !decide (p = q)) := by
  obtain ⟨a, rfl⟩ := Int.eq_ofNat_of_zero_le h0
  rw [z_shl1 p0 (by omega), z_andnot _ (by omega)]
  unfold tb
  rw [Int.toNat_natCast, Int.toNat_natCast, Nat.testBit_xor, Nat.testBit_and, Nat.testBit_two_pow, show decide (p.toNat = q.toNat) = decide (p = q) from decide_eq_decide.mpr ⟨fun g => by omega, fun g => by omega⟩]
  cases a.testBit q.toNat <;> cases decide (p = q) <;> rfl
theorem r_mnR_8 (T : Int → Int) (p : Int) : r_mnR T p 8 = z_and (T 8) (z_xor (z_shl 1 p) (-1)) := if_pos rfl
theorem r_mnR_ne (T : Int → Int) (p : Int) {r : Int} (e : r ≠ 8) : r_mnR T p r = T r := if_neg e
theorem r_at_mn {h h' : z_H} (hr : r_Pl h) (E : h' 89 4 = h 89 4) (T : Int → Int) (p q : Int) : r_at h' (r_mnR T p) q = r_at h T q := by
  unfold r_at
  rw [E]
  have hs8 := hr.2.2.1
  exact z_set_cg (fun s hs => by rw [r_mnR_ne T p (by omega)])
theorem r_th_gl {h h' : z_H} (E : h' 89 4 = h 89 4) (E2 : h' 91 = h 91) (a : Int) : r_th h' a = r_th h a := by
  have : ∀ n, r_thr h' a n = r_thr h a n := by
    intro n
    induction n with
    | zero => rfl
    | succ n ih => unfold r_thr; rw [ih, E2]
  unfold r_th
  rw [E, this]
theorem r_lets_mn {h : z_H} (hr : r_Pl h) {T : Int → Int} (hT : r_Mt T) {p q c : Int} (p0 : 0 ≤ p) (p1 : p < 20) (q0 : 0 ≤ q) : r_lets (z_st h 90 p c) (r_mnR T p) q = if q = p then z_and c (r_th h ((r_at h T p : Nat) : Int)) else r_lets h T q := by
  have E : z_st h 90 p c 89 4 = h 89 4 := by rw [z_st_cell h (by decide)]
  have E2 : z_st h 90 p c 91 = h 91 := z_st_cell h (by decide)
  unfold r_lets
  rw [r_mnR_8, tb_andnot hT.2.1.1 hT.2.1.2 p0 p1 q0, r_at_mn hr E, r_th_gl E E2]
  by_cases e : q = p
  · subst e
    rw [decide_eq_true rfl, if_neg (by simp), if_pos rfl, z_st_at]
  · rw [if_neg e, decide_eq_false (fun g => e g.symm), Bool.not_false, Bool.and_true, z_st_slot h e]
theorem r_pn_mn (h : z_H) (T : Int → Int) (p c x y k : Int) (tn : Bool) : r_pn (z_st h 90 p c) (r_mnR T p) x y k tn = r_pn h T x y k tn := by
  unfold r_pn r_col r_isP
  rw [r_mnR_ne T p (by decide), r_mnR_ne T p (by decide), z_st_cell h (by decide)]
theorem g_ifm {h : z_H} {pl mo : Int} (hr : r_Pl h) (hp : g_Pl h pl) (hm : g_Mo h mo (h 92)) {p q c : Int} (p0 : 0 ≤ p) (p1 : p < 20) (hq : q = -9 ∨ (0 ≤ q ∧ q < 20)) : (if g_p q = p then z_and c (r_th h ((r_at h (h 92) p : Nat) : Int)) else c_lets h pl mo (g_p q)) = r_ln (z_st h 90 p c) (r_mnR (h 92) p) q := by
  rw [g_ln hr hp hm hq]
  unfold g_p r_ln
  by_cases e : q = -9
  · rw [if_pos e, if_pos e, if_pos e, if_neg (by omega)]
  · rw [if_neg e, if_neg e, if_neg e, r_lets_mn hr hm.2.2.2.2.1 p0 p1 (by omega)]
theorem g_agr2 {h h' : z_H} (hs : g_Sg h) (hG : r_Sg h) {pl mo q v : Int} {T : Int → Int} (e14 : h' 89 14 = h 89 14) (e99 : h' 99 = h 99) (e : ∀ t k, c_lightIf h pl mo t k q v = r_on h' T (t / 7) (t % 7) k) : c_agr h pl mo q v = r_so h' T := by
  unfold c_agr r_so
  rw [hs.1, e14]
  refine z_all_cg (fun i a b => ?_)
  have hb : i < h 89 14 := by have := hG.1; omega
  have h1 := hs.2 i a hb
  have h2 := hG.2 i a hb
  unfold c_agP r_soP
  rw [e, e99, h1.1, h1.2, show ((7 * h 99 (4 * i) + h 99 (4 * i + 1)) * 8 + h 99 (4 * i + 2)) / 8 = 7 * h 99 (4 * i) + h 99 (4 * i + 1) by omega, show ((7 * h 99 (4 * i) + h 99 (4 * i + 1)) * 8 + h 99 (4 * i + 2)) % 8 = h 99 (4 * i + 2) by omega, show (7 * h 99 (4 * i) + h 99 (4 * i + 1)) / 7 = h 99 (4 * i) by omega, show (7 * h 99 (4 * i) + h 99 (4 * i + 1)) % 7 = h 99 (4 * i + 1) by omega]
theorem g_gls {h : z_H} {pl mo : Int} (hr : r_Pl h) (hp : g_Pl h pl) (hm : g_Mo h mo (h 92)) (hs : g_Sg h) (hG : r_Sg h) {p : Int} (p0 : 0 ≤ p) (p1 : p < 20) : c_gls h pl mo p = r_gls h p := by
  unfold c_gls r_gls
  refine z_set_cg (fun c _ => ?_)
  have hlt := z_set_lt (fun s => decide (h 92 (s : Int) = p)) (h 89 4).toNat
  rw [hm.2.2.2.1 p p0 p1, hp.2.2.2.2 (r_at h (h 92) p) hlt]
  refine g_agr2 hs hG (by rw [z_st_cell h (by decide)]) (z_st_cell h (by decide)) (fun t k => ?_)
  unfold c_lightIf r_on
  rw [g_own hp hm, g_mir hp hm, r_pn_mn, r_pn_mn, g_ifm hr hp hm p0 p1 (r_pn_rng hr), g_ifm hr hp hm p0 p1 (r_pn_rng hr)]
