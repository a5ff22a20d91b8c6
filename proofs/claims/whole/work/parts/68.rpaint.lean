/-! THE REFERENCE: leads, paint -/
def r_cl (h : z_H) (r : Int) : Int := if tb (h 92 8) r = true then 7 else h 90 r
def r_lay (h : z_H) : Int → Int := fun r => if 0 ≤ r ∧ r < 20 then r_cl h r else h 103 r
def r_unl (h : z_H) (P : Int → Int) (x y u v : Int) : Bool := r_isP h u v && !decide (P (4 * x + y) = P (4 * u + v))
def r_ldc (h : z_H) (P : Int → Int) (x y : Int) : Int := z_b (r_unl h P x y (x + 1) y) + z_b (r_unl h P x y x (y + 1))
def r_ldY (h : z_H) (P : Int → Int) (x : Int) : Nat → Int := z_sum (fun y => r_ldc h P x y)
def r_ldX (h : z_H) (P : Int → Int) : Nat → Int := z_sum (fun x => r_ldY h P x (h 89 1).toNat)
def r_leads (h : z_H) (P : Int → Int) : Int := r_ldX h P (h 89 0).toNat
theorem z_b_le (b : Bool) : 0 ≤ z_b b ∧ z_b b ≤ 1 := by cases b <;> decide
theorem r_ldY_rng (h : z_H) (P : Int → Int) (x : Int) (n : Nat) : 0 ≤ r_ldY h P x n ∧ r_ldY h P x n ≤ n * 2 := z_sum_rng (fun y _ _ => by
  have a := z_b_le (r_unl h P x y (x + 1) y)
  have b := z_b_le (r_unl h P x y x (y + 1))
  unfold r_ldc
  omega)
theorem r_ldX_rng {h : z_H} (hP : r_Pl h) (P : Int → Int) (n : Nat) : 0 ≤ r_ldX h P n ∧ r_ldX h P n ≤ n * 8 := z_sum_rng (fun x _ _ => by
  have a := r_ldY_rng h P x (h 89 1).toNat
  have := hP.2.1
  omega)
/-- the values of the colours laid out -/
def r_Pt (P : Int → Int) : Prop := ∀ p, 0 ≤ p → p < 20 → -1 ≤ P p ∧ P p < 8
theorem r_lay_pt {h : z_H} (hP : r_Pl h) : r_Pt (r_lay h) := fun p a b => by
  unfold r_lay
  rw [if_pos ⟨a, b⟩]
  have := hP.2.2.2.1 p a b
  unfold r_cl
  split <;> omega
theorem r_leads_cg {h h' : z_H} (E : r_Same h h') (P : Int → Int) : r_leads h' P = r_leads h P := by
  unfold r_leads r_ldX r_ldY r_ldc r_unl r_isP
  rw [E.1, E.2.1]
def r_up (P : Int → Int) (p v : Int) : Int → Int := fun r => if r = p then v else P r
theorem r_Pt.up {P : Int → Int} {p v : Int} (hP : r_Pt P) (hv : -1 ≤ v ∧ v < 8) : r_Pt (r_up P p v) := fun q a b => by
  unfold r_up
  by_cases e : q = p
  · rw [if_pos e]; exact hv
  · rw [if_neg e]; exact hP q a b
theorem r_up_same (P : Int → Int) (p : Int) : r_up P p (P p) = P := by
  funext r
  unfold r_up
  by_cases e : r = p
  · rw [if_pos e, e]
  · rw [if_neg e]
theorem r_up_up (P : Int → Int) (p v w : Int) : (fun r => if r = p then w else r_up P p v r) = r_up P p w := by
  funext r
  unfold r_up
  by_cases e : r = p
  · rw [if_pos e, if_pos e]
  · rw [if_neg e, if_neg e, if_neg e]
def r_by (h : z_H) (P : Int → Int) (p c : Int) : Int := if c = P p then 1000000 else r_leads h (r_up P p c)
def r_pC (h : z_H) (P : Int → Int) (p : Int) (s : Int × Int) : Nat → Int × Int
  | 0 => s
  | c + 1 => if r_by h P p (c : Int) < (r_pC h P p s c).2 then (8 * p + (c : Int), r_by h P p (c : Int)) else r_pC h P p s c
def r_pY (h : z_H) (P : Int → Int) (x : Int) (s : Int × Int) : Nat → Int × Int
  | 0 => s
  | y + 1 => r_pC h P (4 * x + (y : Int)) (r_pY h P x s y) 8
def r_pX (h : z_H) (P : Int → Int) : Nat → Int × Int
  | 0 => (-9, 1000000)
  | x + 1 => r_pY h P (x : Int) (r_pX h P x) (h 89 1).toNat
def r_2ok (s : Int × Int) : Prop := (-9 ≤ s.1 ∧ s.1 < 1000) ∧ (0 ≤ s.2 ∧ s.2 ≤ 1000000)
theorem r_by_rng {h : z_H} (hP : r_Pl h) (P : Int → Int) (p c : Int) : 0 ≤ r_by h P p c ∧ r_by h P p c ≤ 1000000 := by
  have a := r_ldX_rng hP (r_up P p c) (h 89 0).toNat
  have := hP.1
  unfold r_by r_leads
  split <;> omega
theorem r_pC_ok {h : z_H} (hP : r_Pl h) {P : Int → Int} {p : Int} {s : Int × Int} (hs : r_2ok s) (h0 : 0 ≤ p) (h1 : p < 20) : ∀ n : Nat, n ≤ 8 → r_2ok (r_pC h P p s n)
  | 0, _ => hs
  | n + 1, hn => by
    have ih := r_pC_ok (P := P) hP hs h0 h1 n (by omega)
    have hb := r_by_rng hP P p (n : Int)
    unfold r_pC
    split
    · exact ⟨⟨by show -9 ≤ 8 * p + (n : Int); omega, by show 8 * p + (n : Int) < 1000; omega⟩, hb⟩
    · exact ih
theorem r_pY_ok {h : z_H} (hP : r_Pl h) {P : Int → Int} {x : Int} {s : Int × Int} (hs : r_2ok s) (h0 : 0 ≤ x) (h1 : x < 5) : ∀ n : Nat, n ≤ 4 → r_2ok (r_pY h P x s n)
  | 0, _ => hs
  | n + 1, hn => by
    have ih := r_pY_ok (P := P) hP hs h0 h1 n (by omega)
    exact r_pC_ok hP ih (by omega) (by omega) 8 (by decide)
theorem r_pX_ok {h : z_H} (hP : r_Pl h) {P : Int → Int} : ∀ n : Nat, n ≤ 5 → r_2ok (r_pX h P n)
  | 0, _ => ⟨⟨by show (-9 : Int) ≤ -9; decide, by show (-9 : Int) < 1000; decide⟩, ⟨by show (0 : Int) ≤ 1000000; decide, by show (1000000 : Int) ≤ 1000000; decide⟩⟩
  | n + 1, hn => by
    have ih := r_pX_ok (P := P) hP n (by omega)
    have := hP.2.1
    exact r_pY_ok hP ih (by omega) (by omega) (h 89 1).toNat (by omega)
def r_paintF (h : z_H) (w : Int) : Int := if w = 0 then (r_pX h (r_lay h) (h 89 0).toNat).1 else (r_pX h (r_lay h) (h 89 0).toNat).2
