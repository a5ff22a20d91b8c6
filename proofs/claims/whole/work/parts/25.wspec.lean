/-! Witness: its cells and functions -/
def z_all (P : Int → Bool) : Nat → Bool
  | 0 => true
  | n + 1 => z_all P n && P (n : Int)
theorem z_all_true {P : Int → Bool} : ∀ {n : Nat}, (∀ k : Int, 0 ≤ k → k < n → P k = true) → z_all P n = true
  | 0, _ => rfl
  | n + 1, h => by
    unfold z_all
    rw [z_all_true (fun k h1 h2 => h k h1 (by omega)), h (n : Int) (by omega) (by omega)]
    rfl
theorem z_all_false {P : Int → Bool} {i : Int} (h0 : 0 ≤ i) (hi : P i = false) : ∀ {n : Nat}, i < n → z_all P n = false
  | 0, h => by omega
  | n + 1, h => by
    unfold z_all
    by_cases e : i < n
    · rw [z_all_false h0 hi e]; rfl
    · rw [show (n : Int) = i by omega, hi]; simp
theorem z_all_iff {P : Int → Bool} {n : Nat} : z_all P n = true ↔ ∀ k : Int, 0 ≤ k → k < n → P k = true := by
  constructor
  · intro h k h1 h2
    cases hp : P k with
    | true => rfl
    | false => rw [z_all_false h1 hp h2] at h; cases h
  · exact z_all_true
theorem z_all_congr {P Q : Int → Bool} {n : Nat} (h : ∀ k : Int, 0 ≤ k → k < n → P k = Q k) : z_all P n = z_all Q n := by
  cases hq : z_all Q n with
  | true => exact z_all_true (fun k h1 h2 => by rw [h k h1 h2]; exact z_all_iff.mp hq k h1 h2)
  | false =>
    cases hp : z_all P n with
    | false => rfl
    | true =>
      have := z_all_true (P := Q) (n := n) (fun k h1 h2 => by rw [← h k h1 h2]; exact z_all_iff.mp hp k h1 h2)
      rw [this] at hq; cases hq
def c_Wi (h : z_H) : Prop := h 34 0 = 35 ∧ h 34 1 = 36 ∧ (0 ≤ h 34 2 ∧ h 34 2 ≤ 6) ∧ ∀ i, 0 ≤ i → i < h 34 2 → (0 ≤ h 35 i ∧ h 35 i < 672) ∧ 0 ≤ h 36 i ∧ h 36 i < 8
def c_agP (h : z_H) (pl mo q v i : Int) : Bool := decide (c_lightIf h pl mo (h 35 i / 8) (h 35 i % 8) q v = h 36 i)
def c_agr (h : z_H) (pl mo q v : Int) : Bool := z_all (c_agP h pl mo q v) (h 34 2).toNat
theorem c_lightIf_rng {h : z_H} {pl mo t k q v : Int} (hS : c_Sc h pl mo) (h0 : 0 ≤ v) (h1 : v < 8) : 0 ≤ c_lightIf h pl mo t k q v ∧ c_lightIf h pl mo t k q v < 8 := by
  have g1 := c_own_rng (t := t) (k := k) hS
  have g2 := c_mir_rng (t := t) (k := k) hS
  have l1 := c_lets_rng hS g1.1 g1.2
  have l2 := c_lets_rng hS g2.1 g2.2
  unfold c_lightIf
  apply z_or_rng8
  · split <;> omega
  · split <;> omega
  · split <;> omega
  · split <;> omega
def c_susP (h : z_H) (pl mo : Int) (p : Nat) : Bool := if p = 20 then c_agr h pl mo (-1) 0 else c_has h pl (p : Int) && !c_broken h mo (p : Int) && c_agr h pl mo (p : Int) 7
def c_sus (h : z_H) (pl mo : Int) : Nat := z_set (c_susP h pl mo) 21
theorem z_or_bit {x n : Nat} (h : x.testBit n = false) : x ||| 2 ^ n = x + 2 ^ n := by
  have e1 : x % 2 ^ (n + 1) < 2 ^ n := by
    have hb := Nat.testBit_eq_decide_div_mod_eq (x := x) (i := n)
    rw [h] at hb
    have h2 : ¬ (x / 2 ^ n % 2 = 1) := by simpa using hb.symm
    have h3 : x % 2 ^ (n + 1) / 2 ^ n = x / 2 ^ n % 2 := by rw [Nat.pow_succ, Nat.mod_mul_right_div_self]
    have h4 : x % 2 ^ (n + 1) / 2 ^ n = 0 := by omega
    exact (Nat.div_eq_zero_iff_lt (Nat.two_pow_pos n)).mp h4
  have e2 : 2 ^ (n + 1) * (x / 2 ^ (n + 1)) + x % 2 ^ (n + 1) = x := Nat.div_add_mod x _
  have hp : 2 ^ (n + 1) = 2 ^ n + 2 ^ n := by rw [Nat.pow_succ]; omega
  generalize hA : x / 2 ^ (n + 1) = A at e2
  generalize hB : x % 2 ^ (n + 1) = B at e1 e2
  have f1 : 2 ^ (n + 1) * A + B = 2 ^ (n + 1) * A ||| B := Nat.two_pow_add_eq_or_of_lt (by omega) A
  have f2 : 2 ^ (n + 1) * A + (2 ^ n * 1 + B) = 2 ^ (n + 1) * A ||| (2 ^ n * 1 + B) := Nat.two_pow_add_eq_or_of_lt (by omega) A
  have f3 : 2 ^ n * 1 + B = 2 ^ n * 1 ||| B := Nat.two_pow_add_eq_or_of_lt e1 1
  rw [← e2, f1, Nat.or_assoc, Nat.or_comm B, show (2 : Nat) ^ n ||| B = 2 ^ n * 1 ||| B by rw [Nat.mul_one], ← f3, ← f2, ← f1]
  omega
theorem z_set_orB {P : Nat → Bool} {n B : Nat} (hn : n < 20) (hB : B = 0 ∨ B = 1048576) (hp : P n = true) : z_or ((z_set P n + B : Nat) : Int) (z_shl 1 (n : Int)) = ((z_set P (n + 1) + B : Nat) : Int) := by
  have hl := z_set_lt P n
  have h2 : (2 : Nat) ^ n < 2 ^ 20 := Nat.pow_lt_pow_right (by decide) hn
  have h3 : z_set P n < 2 ^ 20 := Nat.lt_trans hl h2
  rw [show (1 : Int) = ((1 : Nat) : Int) from rfl, z_shl_nat (by omega) (by omega), z_or_nat (by omega) (by omega)]
  congr 1
  rw [Nat.one_mul, z_or_bit]
  · show _ = z_set P n + (if P n = true then 2 ^ n else 0) + B
    rw [if_pos hp]
    omega
  · have e : z_set P n + B = 2 ^ 20 * (B / 2 ^ 20) + z_set P n := by rcases hB with rfl | rfl <;> omega
    rw [e, Nat.two_pow_add_eq_or_of_lt h3, Nat.testBit_or, z_set_bit, Nat.testBit_two_pow_mul]
    simp
    omega
def c_gls (h : z_H) (pl mo p : Int) : Nat := z_set (fun c => c_agr h pl mo p (z_and (c : Int) (h (pl + 2) (h (mo + 1) p)))) 8
def c_bitOf (s p : Int) : Int := if p = -1 then 0 else z_b (tb s p)
theorem c_bitOf_rng (s p : Int) : 0 ≤ c_bitOf s p ∧ c_bitOf s p ≤ 1 := by
  unfold c_bitOf
  have := z_b_01 (tb s p)
  split <;> omega
def c_clr (h : z_H) (pl mo s t k : Int) : Int := c_bitOf s (c_own h pl mo t k) + c_bitOf s (c_mir h pl mo t k)
def c_most (h : z_H) (pl mo s t k : Int) : Int := if c_light h pl mo t k = 7 then z_pop s else if c_clr h pl mo s t k < z_pop s - c_clr h pl mo s t k then z_pop s - c_clr h pl mo s t k else c_clr h pl mo s t k
theorem c_most_rng (h : z_H) (pl mo s t k : Int) : 0 ≤ c_most h pl mo s t k ∧ c_most h pl mo s t k ≤ 31 := by
  have h1 := c_bitOf_rng s (c_own h pl mo t k)
  have h2 := c_bitOf_rng s (c_mir h pl mo t k)
  have h3 := z_pop_rng s
  unfold c_most c_clr
  split
  · omega
  · split <;> omega
def c_best (h : z_H) (pl mo s : Int) (n : Nat) : Int × Int := z_amin (fun _ => true) (fun w => c_most h pl mo s (w / 8) (w % 8)) 22 n
theorem c_best_rng (h : z_H) (pl mo s : Int) : ∀ n : Nat, n ≤ 672 → -9 ≤ (c_best h pl mo s n).1 ∧ (c_best h pl mo s n).1 < 672 ∧ 0 ≤ (c_best h pl mo s n).2 ∧ (c_best h pl mo s n).2 ≤ 31
  | 0, _ => by unfold c_best z_amin; simp
  | n + 1, hn => by
    have ih := c_best_rng h pl mo s n (by omega)
    unfold c_best at ih ⊢
    unfold z_amin
    have h1 := c_most_rng h pl mo s ((n : Int) / 8) ((n : Int) % 8)
    split
    · dsimp only
      omega
    · exact ih
def c_seen (h : z_H) (a c : Int) : z_H := z_st (z_st (z_st h 35 (h 34 2) a) 36 (h 34 2) c) 34 2 (h 34 2 + 1)
