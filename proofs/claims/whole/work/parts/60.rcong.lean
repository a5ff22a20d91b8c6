/-! THE REFERENCE: what its answers hang on -/
def r_Same (h h' : z_H) : Prop := h' 89 0 = h 89 0 ∧ h' 89 1 = h 89 1 ∧ h' 89 4 = h 89 4 ∧ h' 90 = h 90 ∧ h' 91 = h 91
def r_TE (T T' : Int → Int) : Prop := ∀ r, 0 ≤ r → r < 11 → T' r = T r
theorem r_TE.rf (T : Int → Int) : r_TE T T := fun _ _ _ => rfl
theorem z_set_cg {P Q : Nat → Bool} : ∀ {n : Nat}, (∀ s, s < n → P s = Q s) → z_set P n = z_set Q n
  | 0, _ => rfl
  | n + 1, h => by
    have ih := z_set_cg (P := P) (Q := Q) (n := n) (fun s hs => h s (by omega))
    apply Nat.eq_of_testBit_eq
    intro i
    rw [z_set_bit, z_set_bit]
    by_cases g : i < n + 1
    · rw [h i g]
    · simp [g]
theorem r_thr_cg {h h' : z_H} (E : r_Same h h') (a : Int) : ∀ n, r_thr h' a n = r_thr h a n
  | 0 => rfl
  | n + 1 => by
    unfold r_thr
    rw [r_thr_cg E a n, E.2.2.2.2]
theorem r_at_cg {h h' : z_H} (E : r_Same h h') (hP : r_Pl h) {T T' : Int → Int} (t : r_TE T T') (p : Int) : r_at h' T' p = r_at h T p := by
  unfold r_at
  rw [E.2.2.1]
  exact z_set_cg (fun s hs => by rw [t (s : Int) (by omega) (by have := hP.2.2.1; omega)])
theorem r_lets_cg {h h' : z_H} (E : r_Same h h') (hP : r_Pl h) {T T' : Int → Int} (t : r_TE T T') (p : Int) : r_lets h' T' p = r_lets h T p := by
  unfold r_lets r_th
  rw [t 8 (by decide) (by decide), r_at_cg E hP t, r_thr_cg E, E.2.2.1, E.2.2.2.1]
theorem r_pn_cg {h h' : z_H} (E : r_Same h h') {T T' : Int → Int} (t : r_TE T T') (x y k : Int) (tn : Bool) : r_pn h' T' x y k tn = r_pn h T x y k tn := by
  unfold r_pn r_col r_isP
  rw [t 9 (by decide) (by decide), t 10 (by decide) (by decide), E.1, E.2.1]
theorem r_on_cg {h h' : z_H} (E : r_Same h h') (hP : r_Pl h) {T T' : Int → Int} (t : r_TE T T') (x y k : Int) : r_on h' T' x y k = r_on h T x y k := by
  unfold r_on r_ln
  rw [r_pn_cg E t, r_pn_cg E t, r_lets_cg E hP t, r_lets_cg E hP t]
theorem z_all_cg {P Q : Int → Bool} : ∀ {n : Nat}, (∀ i : Int, 0 ≤ i → i < n → P i = Q i) → z_all P n = z_all Q n
  | 0, _ => rfl
  | n + 1, h => by
    unfold z_all
    rw [z_all_cg (P := P) (Q := Q) (n := n) (fun i a b => h i a (by omega)), h (n : Int) (by omega) (by omega)]
theorem r_so_cg {h h' : z_H} (E : r_Same h h') (hP : r_Pl h) {T T' : Int → Int} (t : r_TE T T') (e14 : h' 89 14 = h 89 14) (e99 : h' 99 = h 99) : r_so h' T' = r_so h T := by
  unfold r_so
  rw [e14]
  refine z_all_cg (fun i _ _ => ?_)
  unfold r_soP
  rw [e99, r_on_cg E hP t]
theorem r_TE.brk {T T' : Int → Int} (t : r_TE T T') (p : Int) : r_TE (r_brk T p) (r_brk T' p) := fun r a b => by
  unfold r_brk
  rw [t r a b, t 8 (by decide) (by decide)]
theorem r_Same.rw93 (h : z_H) (A : Int → Int) : r_Same h (z_rw h 93 A) := ⟨by rw [z_rw_ne _ _ (by decide)], by rw [z_rw_ne _ _ (by decide)], by rw [z_rw_ne _ _ (by decide)], z_rw_ne _ _ (by decide), z_rw_ne _ _ (by decide)⟩
theorem r_asd_te (h : z_H) : r_TE (h 92) (r_asd h) := fun r a b => by
  unfold r_asd
  rw [if_pos ⟨a, b⟩]
theorem r_asd_te2 (h : z_H) (A : Int → Int) : r_TE (h 92) (r_asd (z_rw h 93 A)) := fun r a b => by
  rw [r_asd_te _ r a b, z_rw_ne _ _ (by decide)]
/-- the row of the moment with pane p broken, if it is one -/
def r_brP (T : Int → Int) (p : Int) : Int → Int := if p < 20 then r_brk T p else T
theorem r_lbT_te (h : z_H) (A : Int → Int) (p : Int) : r_TE (r_brP (h 92) p) (r_lbT (z_rw h 93 A) p) := by
  unfold r_brP r_lbT
  split
  · exact (r_asd_te2 h A).brk p
  · exact r_asd_te2 h A
def r_susP (h : z_H) (p : Nat) : Bool := r_may h (p : Int) && r_so h (r_brP (h 92) (p : Int))
def r_sus (h : z_H) : Nat := z_set (r_susP h) 21
/-- the sheet's glasses -/
def r_mnR (T : Int → Int) (p : Int) : Int → Int := fun r => if r = 8 then z_and (T 8) (z_xor (z_shl 1 p) (-1)) else T r
theorem r_mnR_te {T T' : Int → Int} (t : r_TE T T') (p : Int) : r_TE (r_mnR T p) (r_mnR T' p) := fun r a b => by
  unfold r_mnR
  rw [t r a b, t 8 (by decide) (by decide)]
def r_gls (h : z_H) (p : Int) : Nat := z_set (fun c => r_so (z_st h 90 p (c : Int)) (r_mnR (h 92) p)) 8
theorem r_Pl.gl {h : z_H} {p v : Int} (hP : r_Pl h) (hv : 0 ≤ v ∧ v < 8) : r_Pl (z_st h 90 p v) := by
  obtain ⟨a, b, c, d, e⟩ := hP
  have e1 : z_st h 90 p v 89 = h 89 := z_st_cell h (by decide)
  have e2 : z_st h 90 p v 91 = h 91 := z_st_cell h (by decide)
  refine ⟨by rw [e1]; exact a, by rw [e1]; exact b, by rw [e1]; exact c, fun q g0 g1 => ?_, by rw [e2]; exact e⟩
  by_cases g : q = p
  · subst g; rw [z_st_at]; exact hv
  · rw [z_st_slot h g]; exact d q g0 g1
theorem r_Same.gl (h : z_H) (A : Int → Int) (p v : Int) : r_Same (z_st h 90 p v) (z_st (z_rw h 93 A) 90 p v) := by
  refine ⟨?_, ?_, ?_, ?_, ?_⟩
  · rw [z_st_cell _ (by decide), z_st_cell _ (by decide), z_rw_ne _ _ (by decide)]
  · rw [z_st_cell _ (by decide), z_st_cell _ (by decide), z_rw_ne _ _ (by decide)]
  · rw [z_st_cell _ (by decide), z_st_cell _ (by decide), z_rw_ne _ _ (by decide)]
  · rw [z_st_row, z_st_row, z_rw_ne _ _ (by decide)]
  · rw [z_st_cell _ (by decide), z_st_cell _ (by decide), z_rw_ne _ _ (by decide)]
theorem z_andnot_20 {x p : Int} (h0 : 0 ≤ x) (h1 : x < 1048576) : 0 ≤ z_and x (z_xor (z_shl 1 p) (-1)) ∧ z_and x (z_xor (z_shl 1 p) (-1)) < 1048576 := by
  have := z_and_rngL (x := x) (y := z_xor (z_shl 1 p) (-1)) h0 (by omega)
  omega
/-- the hail -/
def r_h1 (T : Int → Int) (p : Int) (b : Bool) : Int → Int := if b = true ∧ ¬ p = -9 then r_brk T p else T
theorem r_TE.h1 {T T' : Int → Int} (t : r_TE T T') (p : Int) (b : Bool) : r_TE (r_h1 T p b) (r_h1 T' p b) := by
  unfold r_h1
  split
  · exact t.brk p
  · exact t
def r_way (a s : Int) : Int := (if tb s 0 = true then a else 10 - a) * (if tb s 1 = true then a else 10 - a)
def r_abT (h : z_H) (x y k s : Int) : Int → Int := r_h1 (r_h1 (h 92) (r_pn h (h 92) x y k false) (tb s 0)) (r_pn h (h 92) x y k true) (tb s 1)
def r_abF (h : z_H) (x y k a s : Int) : Int := if r_on h (r_abT h x y k s) x y k = 7 then r_way a s else 0
def r_ab (h : z_H) (x y k a : Int) : Nat → Int := z_sum (r_abF h x y k a)
theorem r_way_rng {a s : Int} (h0 : 0 ≤ a) (h1 : a ≤ 10) : 0 ≤ r_way a s ∧ r_way a s ≤ 100 := by
  unfold r_way
  have key : ∀ u v : Int, 0 ≤ u → u ≤ 10 → 0 ≤ v → v ≤ 10 → 0 ≤ u * v ∧ u * v ≤ 100 := fun u v a b c d => by
    have g1 := Int.mul_nonneg a c
    have g2 := Int.mul_le_mul b d c (by decide)
    omega
  exact key _ _ (by split <;> omega) (by split <;> omega) (by split <;> omega) (by split <;> omega)
theorem r_ab_rng {h : z_H} {x y k a : Int} (h0 : 0 ≤ a) (h1 : a ≤ 10) (n : Nat) : 0 ≤ r_ab h x y k a n ∧ r_ab h x y k a n ≤ n * 100 := z_sum_rng (fun s _ _ => by
  have := r_way_rng (a := a) (s := s) h0 h1
  unfold r_abF
  split <;> omega)
