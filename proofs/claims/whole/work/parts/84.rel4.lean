/-! CLASS AND REFERENCE: the box -/
def z_orN (F : Nat → Nat) : Nat → Nat
  | 0 => 0
  | n + 1 => z_orN F n ||| F n
theorem z_orN_lt {F : Nat → Nat} : ∀ {n : Nat}, (∀ p, p < n → F p < 256) → z_orN F n < 256
  | 0, _ => by unfold z_orN; omega
  | n + 1, h => by
    have ih := z_orN_lt (F := F) (n := n) (fun p hp => h p (by omega))
    unfold z_orN
    exact Nat.or_lt_two_pow (n := 8) ih (h n (by omega))
theorem z_orN_no {F : Nat → Nat} {i : Nat} : ∀ {n : Nat}, (∀ p, p < n → (F p).testBit i = false) → (z_orN F n).testBit i = false
  | 0, _ => by unfold z_orN; exact Nat.zero_testBit i
  | n + 1, h => by
    unfold z_orN
    rw [Nat.testBit_or, z_orN_no (n := n) (fun p hp => h p (by omega)), h n (by omega)]
    rfl
theorem z_orN_yes {F : Nat → Nat} {i q : Nat} (hq : (F q).testBit i = true) : ∀ {n : Nat}, q < n → (z_orN F n).testBit i = true
  | 0, h => by omega
  | n + 1, h => by
    unfold z_orN
    rw [Nat.testBit_or]
    by_cases e : q = n
    · subst e
      rw [hq, Bool.or_true]
    · rw [z_orN_yes hq (n := n) (by omega), Bool.true_or]
theorem z_orf_nat {f : Int → Int} {F : Nat → Nat} : ∀ {n : Nat}, (∀ p : Nat, p < n → f (p : Int) = ((F p : Nat) : Int) ∧ F p < 256) → z_orf f n = ((z_orN F n : Nat) : Int)
  | 0, _ => rfl
  | n + 1, h => by
    have hlt := z_orN_lt (F := F) (n := n) (fun p hp => (h p (by omega)).2)
    have hn := h n (by omega)
    unfold z_orf z_orN
    rw [z_orf_nat (F := F) (n := n) (fun p hp => h p (by omega)), hn.1, z_or_nat (by omega) (by omega)]
theorem g_box {h : z_H} {pl mo : Int} {T : Int → Int} (hr : r_Pl h) (hp : g_Pl h pl) (hm : g_Mo h mo T) : c_box h pl mo = ((r_at h T (-9) : Nat) : Int) := by
  have hs8 := hr.2.2.1
  have ho : z_orf (h (mo + 1)) 20 = ((z_orN (fun p => r_at h T (p : Int)) 20 : Nat) : Int) := z_orf_nat (fun p hp2 => ⟨hm.2.2.2.1 (p : Int) (by omega) (by omega), r_at_lt hr T _⟩)
  have h2 : (2 : Nat) ^ (h 89 4).toNat ≤ 2 ^ 8 := Nat.pow_le_pow_right (by decide) (by omega)
  have h1 : 1 ≤ (2 : Nat) ^ (h 89 4).toNat := Nat.one_le_two_pow
  unfold c_box
  rw [hp.2.2.1, z_shl1 hs8.1 (by omega), ho, show ((2 ^ (h 89 4).toNat : Nat) : Int) - 1 = ((2 ^ (h 89 4).toNat - 1 : Nat) : Int) by omega, z_andnot _ (by omega)]
  congr 1
  apply Nat.eq_of_testBit_eq
  intro i
  unfold r_at
  rw [Nat.testBit_xor, Nat.testBit_and, Nat.testBit_two_pow_sub_one, z_set_bit]
  by_cases g : i < (h 89 4).toNat
  · rw [decide_eq_true g]
    rcases hm.2.2.2.2.1.1 (i : Int) (by omega) (by omega) with e | e
    · rw [z_orN_no (fun p hp2 => by
        rw [z_set_bit, decide_eq_true g, Bool.true_and]
        exact decide_eq_false (by omega)), decide_eq_true e]
      rfl
    · rw [z_orN_yes (q := (T (i : Int)).toNat) (by
        rw [z_set_bit, decide_eq_true g, Bool.true_and]
        exact decide_eq_true (by omega)) (by omega), decide_eq_false (show ¬ T (i : Int) = -9 by omega)]
      rfl
  · rw [decide_eq_false g]
    rfl
