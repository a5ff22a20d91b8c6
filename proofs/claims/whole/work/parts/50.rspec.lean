/-! THE REFERENCE: its cells, its functions over them -/
def r_Ob (h : z_H) : Prop := h 89 2 = 90 ∧ h 89 3 = 91 ∧ h 89 5 = 92 ∧ h 89 6 = 93 ∧ h 89 7 = 94 ∧ h 89 9 = 95 ∧ h 89 10 = 96 ∧ h 89 11 = 97 ∧ h 89 12 = 98 ∧ h 89 13 = 99 ∧ h 89 15 = 100 ∧ h 89 25 = 101 ∧ h 89 26 = 102 ∧ h 89 30 = 103 ∧ h 89 31 = 104 ∧ h 89 32 = 105 ∧ h 89 33 = 106
/-- the numbers that the reference may change in its own cell -/
def r_mut (j : Int) : Bool := decide (j = 0 ∨ j = 1 ∨ j = 4 ∨ j = 8 ∨ j = 14 ∨ (16 ≤ j ∧ j ≤ 24) ∨ (27 ≤ j ∧ j ≤ 29))
theorem r_Ob.to {h h' : z_H} (hO : r_Ob h) (e : ∀ j, r_mut j = false → h' 89 j = h 89 j) : r_Ob h' := by
  obtain ⟨a1, a2, a3, a4, a5, a6, a7, a8, a9, b1, b2, b3, b4, b5, b6, b7, b8⟩ := hO
  exact ⟨(e _ (by decide)).trans a1, (e _ (by decide)).trans a2, (e _ (by decide)).trans a3, (e _ (by decide)).trans a4, (e _ (by decide)).trans a5, (e _ (by decide)).trans a6, (e _ (by decide)).trans a7, (e _ (by decide)).trans a8, (e _ (by decide)).trans a9, (e _ (by decide)).trans b1, (e _ (by decide)).trans b2, (e _ (by decide)).trans b3, (e _ (by decide)).trans b4, (e _ (by decide)).trans b5, (e _ (by decide)).trans b6, (e _ (by decide)).trans b7, (e _ (by decide)).trans b8⟩
theorem r_Ob.st {h : z_H} {k j v : Int} (hO : r_Ob h) (hj : k ≠ 89 ∨ r_mut j = true) : r_Ob (z_st h k j v) := hO.to (fun i hi => z_st_ne h (fun g => by
  rcases hj with e | e
  · exact e g.1.symm
  · rw [g.2, e] at hi; exact absurd hi (by decide)))
theorem r_Ob.rw_ {h : z_H} {k : Int} {f : Int → Int} (hO : r_Ob h) (hk : k ≠ 89) : r_Ob (z_rw h k f) := hO.to (fun i _ => by rw [z_rw_ne h f (fun e => hk e.symm)])
theorem z_cmp_R (x y : Int) : z_R (z_cmp x y) := by
  unfold z_cmp z_R
  split
  · omega
  · split <;> omega
theorem z_cmp_lt {x y : Int} : z_cmp x y < 0 ↔ x < y := by
  unfold z_cmp
  split
  · omega
  · split <;> omega
theorem z_cmp_ge {x y : Int} : 0 ≤ z_cmp x y ↔ y ≤ x := by
  unfold z_cmp
  split
  · omega
  · split <;> omega
theorem z_cmp_gt {x y : Int} : 0 < z_cmp x y ↔ y < x := by
  unfold z_cmp
  split
  · omega
  · split <;> omega
theorem z_cmp_le {x y : Int} : z_cmp x y ≤ 0 ↔ x ≤ y := by
  unfold z_cmp
  split
  · omega
  · split <;> omega
def r_in (v lo hi : Int) : Bool := decide (lo ≤ v ∧ v ≤ hi)
/-- one bit fewer -/
theorem z_ct_low (f : Nat → Bool) : ∀ n, z_ct f (n + 1) = (if f 0 then 1 else 0) + z_ct (fun i => f (i + 1)) n
  | 0 => by simp [z_ct]
  | n + 1 => by
    rw [z_ct, z_ct_low f n, z_ct]
    omega
theorem z_ct_drop : ∀ (n x : Nat), 0 < x → x < 2 ^ n → z_ct (x &&& (x - 1)).testBit n + 1 = z_ct x.testBit n
  | 0, x, h0, h1 => by simp at h1; omega
  | n + 1, x, h0, h1 => by
    rw [z_ct_low, z_ct_low]
    have e1 : (fun i => x.testBit (i + 1)) = (x / 2).testBit := by funext i; exact Nat.testBit_succ x i
    have b0 : (x &&& (x - 1)).testBit 0 = false := by
      rw [Nat.testBit_and, Nat.testBit_zero, Nat.testBit_zero]
      rcases Nat.mod_two_eq_zero_or_one x with g | g
      · simp [g]
      · have : (x - 1) % 2 = 0 := by omega
        simp [this]
    rw [b0, e1, Nat.testBit_zero]
    rcases Nat.mod_two_eq_zero_or_one x with g | g
    · have e2 : (fun i => (x &&& (x - 1)).testBit (i + 1)) = ((x / 2) &&& (x / 2 - 1)).testBit := by
        funext i
        rw [Nat.testBit_and, Nat.testBit_succ, Nat.testBit_succ, Nat.testBit_and, show (x - 1) / 2 = x / 2 - 1 by omega]
      have ih := z_ct_drop n (x / 2) (by omega) (by rw [Nat.pow_succ] at h1; omega)
      rw [e2]
      simp [g]
      omega
    · have e2 : (fun i => (x &&& (x - 1)).testBit (i + 1)) = (x / 2).testBit := by
        funext i
        rw [Nat.testBit_and, Nat.testBit_succ, Nat.testBit_succ, show (x - 1) / 2 = x / 2 by omega, Bool.and_self]
      rw [e2]
      simp [g]
      omega
theorem z_pop_step {u : Int} (h0 : 0 < u) (h1 : u < 2147483648) : 0 ≤ z_and u (u - 1) ∧ z_and u (u - 1) < u ∧ z_pop (z_and u (u - 1)) + 1 = z_pop u := by
  obtain ⟨x, rfl⟩ := Int.eq_ofNat_of_zero_le (show 0 ≤ u by omega)
  have e : z_and (x : Int) ((x : Int) - 1) = ((x &&& (x - 1) : Nat) : Int) := by
    rw [show (x : Int) - 1 = ((x - 1 : Nat) : Int) by omega]
    exact z_and_nat _ (by omega)
  have hle : x &&& (x - 1) ≤ x - 1 := Nat.and_le_right
  have := z_ct_drop 31 x (by omega) (by omega)
  rw [e]
  refine ⟨by omega, by omega, ?_⟩
  unfold z_pop
  rw [Int.toNat_natCast, Int.toNat_natCast]
  omega
theorem z_pop_0 : z_pop 0 = 0 := by decide +kernel
/-- many places of row A copied into row B -/
def r_cp (h : z_H) (A i B j m : Int) : z_H := z_rw h B (fun r => if j ≤ r ∧ r < j + m then h A (i + (r - j)) else h B r)
/-- the reference's beginning -/
def r_beg (T : Int → Int) (m s : Int) : Int → Int := fun r => if 0 ≤ r ∧ r < 8 then -9 else if r = 8 then 0 else if r = 9 then m else if r = 10 then s else T r
def r_begH (h : z_H) (m s : Int) : z_H := z_st (z_st (z_st (z_st (z_rw h 92 (r_beg (h 92) m s)) 89 8 0) 89 14 0) 98 0 0) 98 1 0
/-- a pane of a moment's row broken -/
def r_brk (T : Int → Int) (p : Int) : Int → Int := fun r => if 0 ≤ r ∧ r < 8 ∧ T r = p then -9 else if r = 8 then z_or (T 8) (z_shl 1 p) else T r
/-- the window's numbers -/
def r_Pl (h : z_H) : Prop := (1 ≤ h 89 0 ∧ h 89 0 ≤ 5) ∧ (1 ≤ h 89 1 ∧ h 89 1 ≤ 4) ∧ (0 ≤ h 89 4 ∧ h 89 4 ≤ 8) ∧ (∀ p, 0 ≤ p → p < 20 → 0 ≤ h 90 p ∧ h 90 p < 8) ∧ ∀ p, 0 ≤ p → p < 8 → 0 ≤ h 91 p ∧ h 91 p < 8
/-- a moment's row -/
def r_Mt (T : Int → Int) : Prop := (∀ s, 0 ≤ s → s < 8 → T s = -9 ∨ (0 ≤ T s ∧ T s < 20)) ∧ (0 ≤ T 8 ∧ T 8 < 1048576) ∧ (1 ≤ T 9 ∧ T 9 ≤ 12) ∧ (0 ≤ T 10 ∧ T 10 ≤ 3)
def r_isP (h : z_H) (x y : Int) : Bool := decide (0 ≤ x ∧ x < h 89 0 ∧ 0 ≤ y ∧ y < h 89 1)
def r_at (h : z_H) (T : Int → Int) (p : Int) : Nat := z_set (fun s => decide (T (s : Int) = p)) (h 89 4).toNat
def r_thr (h : z_H) (a : Int) : Nat → Int
  | 0 => 7
  | n + 1 => z_and (r_thr h a n) (if tb a (n : Int) = true then h 91 (n : Int) else 7)
def r_th (h : z_H) (a : Int) : Int := r_thr h a (h 89 4).toNat
def r_lets (h : z_H) (T : Int → Int) (p : Int) : Int := if tb (T 8) p = true then 7 else z_and (h 90 p) (r_th h ((r_at h T p : Nat) : Int))
def r_col (T : Int → Int) (x : Int) (tn : Bool) : Int := if tn = true then 2 * T 9 - 1 - x else x
def r_pn (h : z_H) (T : Int → Int) (x y k : Int) (tn : Bool) : Int := if r_isP h (r_col T x tn - k) (y - T 10) = true ∧ (if tn = true then T 9 ≤ r_col T x tn else r_col T x tn < T 9) then 4 * (r_col T x tn - k) + (y - T 10) else -9
def r_ln (h : z_H) (T : Int → Int) (p : Int) : Int := if p = -9 then 0 else r_lets h T p
def r_on (h : z_H) (T : Int → Int) (x y k : Int) : Int := z_or (r_ln h T (r_pn h T x y k false)) (r_ln h T (r_pn h T x y k true))
theorem r_at_lt {h : z_H} (hP : r_Pl h) (T : Int → Int) (p : Int) : r_at h T p < 256 := by
  have := z_set_lt (fun s => decide (T (s : Int) = p)) (h 89 4).toNat
  have h2 : (2 : Nat) ^ (h 89 4).toNat ≤ 2 ^ 8 := Nat.pow_le_pow_right (by decide) (by have := hP.2.2.1; omega)
  unfold r_at
  omega
theorem r_thr_rng (h : z_H) (a : Int) : ∀ n, 0 ≤ r_thr h a n ∧ r_thr h a n < 8
  | 0 => by unfold r_thr; omega
  | n + 1 => by
    have ih := r_thr_rng h a n
    have := z_and_rngL (x := r_thr h a n) (y := if tb a (n : Int) = true then h 91 (n : Int) else 7) ih.1 (by omega)
    unfold r_thr
    omega
theorem r_lets_rng {h : z_H} (hP : r_Pl h) {T : Int → Int} {p : Int} (h0 : 0 ≤ p) (h1 : p < 20) : 0 ≤ r_lets h T p ∧ r_lets h T p < 8 := by
  unfold r_lets
  split
  · omega
  · have := hP.2.2.2.1 p h0 h1
    have := z_and_rngL (x := h 90 p) (y := r_th h ((r_at h T p : Nat) : Int)) this.1 (by omega)
    omega
theorem r_pn_rng {h : z_H} (hP : r_Pl h) {T : Int → Int} {x y k : Int} {tn : Bool} : r_pn h T x y k tn = -9 ∨ (0 ≤ r_pn h T x y k tn ∧ r_pn h T x y k tn < 20) := by
  unfold r_pn
  rcases Classical.em (r_isP h (r_col T x tn - k) (y - T 10) = true ∧ (if tn = true then T 9 ≤ r_col T x tn else r_col T x tn < T 9)) with g | g
  · rw [if_pos g]
    have := of_decide_eq_true g.1
    obtain ⟨a, b, -⟩ := hP
    omega
  · rw [if_neg g]
    exact Or.inl rfl
theorem r_ln_rng {h : z_H} (hP : r_Pl h) {T : Int → Int} {x y k : Int} {tn : Bool} : 0 ≤ r_ln h T (r_pn h T x y k tn) ∧ r_ln h T (r_pn h T x y k tn) < 8 := by
  unfold r_ln
  split
  · omega
  · have := r_pn_rng hP (T := T) (x := x) (y := y) (k := k) (tn := tn)
    exact r_lets_rng hP (by omega) (by omega)
theorem r_on_rng {h : z_H} (hP : r_Pl h) {T : Int → Int} {x y k : Int} : 0 ≤ r_on h T x y k ∧ r_on h T x y k < 8 := by
  have a := r_ln_rng hP (T := T) (x := x) (y := y) (k := k) (tn := false)
  have b := r_ln_rng hP (T := T) (x := x) (y := y) (k := k) (tn := true)
  exact z_or_rng8 a.1 a.2 b.1 b.2
theorem z_or_0 {a : Nat} (ha : a < 2147483648) : z_or (a : Int) 0 = (a : Int) := by
  have := z_or_nat (a := a) (b := 0) ha (by decide)
  rw [Nat.or_zero] at this
  exact this
