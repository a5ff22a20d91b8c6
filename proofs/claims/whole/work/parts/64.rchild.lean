/-! THE REFERENCE: the child's way -/
def r_dx (i : Int) : Int := if i = 0 then -1 else if i = 4 then 1 else 0
def r_dy (i : Int) : Int := if i = 1 then -1 else if i = 3 then 1 else 0
def r_ntN (f : Int → Int) (t : Int) : Nat → Int
  | 0 => -9
  | n + 1 => if c_tile (t / 7 + r_dx (n : Int)) (t % 7 + r_dy (n : Int)) = true ∧ (r_ntN f t n = -9 ∨ f (r_ntN f t n) < f (7 * (t / 7 + r_dx (n : Int)) + (t % 7 + r_dy (n : Int)))) then 7 * (t / 7 + r_dx (n : Int)) + (t % 7 + r_dy (n : Int)) else r_ntN f t n
def r_nt (f : Int → Int) (t : Int) : Int := r_ntN f t 5
theorem r_dx_rng (i : Int) : -1 ≤ r_dx i ∧ r_dx i ≤ 1 := by
  unfold r_dx
  split
  · omega
  · split <;> omega
theorem r_dy_rng (i : Int) : -1 ≤ r_dy i ∧ r_dy i ≤ 1 := by
  unfold r_dy
  split
  · omega
  · split <;> omega
theorem r_ntN_rng {f : Int → Int} {t : Int} : ∀ n, r_ntN f t n = -9 ∨ (0 ≤ r_ntN f t n ∧ r_ntN f t n < 84)
  | 0 => Or.inl rfl
  | n + 1 => by
    have ih := r_ntN_rng (f := f) (t := t) n
    unfold r_ntN
    split
    · rename_i g
      have := of_decide_eq_true g.1
      omega
    · exact ih
theorem r_nt_rng {f : Int → Int} {t : Int} (h0 : 0 ≤ t) (h1 : t < 84) : 0 ≤ r_nt f t ∧ r_nt f t < 84 := by
  have h3 : r_ntN f t 3 = -9 ∨ (0 ≤ r_ntN f t 3 ∧ r_ntN f t 3 < 84) := r_ntN_rng 3
  have hne3 : ¬ r_ntN f t 3 = -9 := by
    have e2 := r_ntN_rng (f := f) (t := t) 2
    have htl : c_tile (t / 7 + r_dx ((2 : Nat) : Int)) (t % 7 + r_dy ((2 : Nat) : Int)) = true := by
      show c_tile (t / 7 + 0) (t % 7 + 0) = true
      exact decide_eq_true (by omega)
    have hd : 0 ≤ 7 * (t / 7 + r_dx ((2 : Nat) : Int)) + (t % 7 + r_dy ((2 : Nat) : Int)) := by
      show 0 ≤ 7 * (t / 7 + 0) + (t % 7 + 0)
      omega
    rw [r_ntN]
    by_cases g : c_tile (t / 7 + r_dx ((2 : Nat) : Int)) (t % 7 + r_dy ((2 : Nat) : Int)) = true ∧ (r_ntN f t 2 = -9 ∨ f (r_ntN f t 2) < f (7 * (t / 7 + r_dx ((2 : Nat) : Int)) + (t % 7 + r_dy ((2 : Nat) : Int))))
    · rw [if_pos g]
      omega
    · rw [if_neg g]
      intro e
      exact g ⟨htl, Or.inl e⟩
  have key : ∀ n, (0 ≤ r_ntN f t n ∧ r_ntN f t n < 84) → (0 ≤ r_ntN f t (n + 1) ∧ r_ntN f t (n + 1) < 84) := fun n hn => by
    unfold r_ntN
    split
    · rename_i g
      have := of_decide_eq_true g.1
      omega
    · exact hn
  exact key 4 (key 3 (by omega))
def r_std (h : z_H) (c k u : Int) : Bool := decide (z_and (r_on h (h 92) (u / 7) (u % 7) k) c = c)
/-- how long from tile u on, with n hours left -/
def r_D (h : z_H) (c : Int) : Nat → Int → Int
  | 0 => fun _ => 0
  | n + 1 => fun u => if r_std h c (7 - (n : Int)) u = true then 1 + r_D h c n (r_nt (r_D h c n) u) else 0
theorem r_D_rng (h : z_H) (c : Int) : ∀ (n : Nat) (u : Int), 0 ≤ r_D h c n u ∧ r_D h c n u ≤ n
  | 0, u => by unfold r_D; simp
  | n + 1, u => by
    have ih := r_D_rng h c n (r_nt (r_D h c n) u)
    unfold r_D
    split <;> omega
theorem r_Same.rw_ (h : z_H) {k : Int} (A : Int → Int) (h1 : k ≠ 89) (h2 : k ≠ 90) (h3 : k ≠ 91) : r_Same h (z_rw h k A) := ⟨by rw [z_rw_ne _ _ (fun e => h1 e.symm)], by rw [z_rw_ne _ _ (fun e => h1 e.symm)], by rw [z_rw_ne _ _ (fun e => h1 e.symm)], z_rw_ne _ _ (fun e => h2 e.symm), z_rw_ne _ _ (fun e => h3 e.symm)⟩
/-- where the child stands after e hours -/
def r_go (h : z_H) (c k t : Int) : Nat → Int
  | 0 => t
  | e + 1 => r_nt (r_D h c (7 - (k.toNat + e))) (r_go h c k t e)
theorem r_go_rng {h : z_H} {c k t : Int} (h0 : 0 ≤ t) (h1 : t < 84) : ∀ e, 0 ≤ r_go h c k t e ∧ r_go h c k t e < 84
  | 0 => ⟨h0, h1⟩
  | e + 1 => by
    have ih := r_go_rng (h := h) (c := c) (k := k) h0 h1 e
    exact r_nt_rng ih.1 ih.2
theorem r_D_s (h : z_H) (c : Int) (n : Nat) (u : Int) : r_D h c (n + 1) u = if r_std h c (7 - (n : Int)) u = true then 1 + r_D h c n (r_nt (r_D h c n) u) else 0 := rfl
