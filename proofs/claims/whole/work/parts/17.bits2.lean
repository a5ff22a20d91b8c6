/-! BITS, 2 -/
theorem z_i_bv (x : Int) : z_i x = nI (z_i x).toBitVec.toNat := by
  apply Int32.toBitVec_inj.1
  show (z_i x).toBitVec = BitVec.ofNat 32 (z_i x).toBitVec.toNat
  simp
theorem z_and_m (x : Int) {b : Nat} (hb : b < 2 ^ 31) : z_and x (b : Int) = (((z_i x).toBitVec.toNat &&& b : Nat) : Int) := by
  unfold z_and
  rw [z_i_bv x, z_i_nat, z_nat_and, ← z_i_bv]
  exact nI_toInt (Nat.lt_of_le_of_lt Nat.and_le_right hb)
theorem z_and_mr (x : Int) {b : Nat} (hb : b < 2 ^ 31) : 0 ≤ z_and x (b : Int) ∧ z_and x (b : Int) ≤ b := by
  rw [z_and_m x hb]
  have : (z_i x).toBitVec.toNat &&& b ≤ b := Nat.and_le_right
  omega
theorem z_and_rng {x y : Int} (hy : 0 ≤ y) (hy2 : y < 2147483648) : 0 ≤ z_and x y ∧ z_and x y ≤ y := by
  obtain ⟨b, rfl⟩ := Int.eq_ofNat_of_zero_le hy
  exact z_and_mr x (by omega)
theorem z_and_comm (x y : Int) : z_and x y = z_and y x := by
  unfold z_and
  congr 1
  apply Int32.toBitVec_inj.1
  rw [Int32.toBitVec_and, Int32.toBitVec_and, BitVec.and_comm]
theorem z_and_rngL {x y : Int} (hx : 0 ≤ x) (hx2 : x < 2147483648) : 0 ≤ z_and x y ∧ z_and x y ≤ x := by
  rw [z_and_comm]
  exact z_and_rng hx hx2
theorem z_or_rng8 {x y : Int} (hx : 0 ≤ x) (hx2 : x < 8) (hy : 0 ≤ y) (hy2 : y < 8) : 0 ≤ z_or x y ∧ z_or x y < 8 := by
  obtain ⟨a, rfl⟩ := Int.eq_ofNat_of_zero_le hx
  obtain ⟨b, rfl⟩ := Int.eq_ofNat_of_zero_le hy
  rw [z_or_nat (by omega) (by omega)]
  have : a ||| b < 2 ^ 3 := Nat.or_lt_two_pow (by omega) (by omega)
  omega
theorem z_ct_le (p : Nat → Bool) : ∀ n, z_ct p n ≤ n
  | 0 => Nat.le_refl 0
  | n + 1 => by
    have := z_ct_le p n
    unfold z_ct
    split <;> omega
theorem z_pop_rng (x : Int) : 0 ≤ z_pop x ∧ z_pop x ≤ 31 := by
  have := z_ct_le x.toNat.testBit 31
  unfold z_pop
  omega
theorem z_shl1 {k : Int} (h0 : 0 ≤ k) (h1 : k < 31) : z_shl 1 k = ((2 ^ k.toNat : Nat) : Int) := by
  obtain ⟨b, rfl⟩ := Int.eq_ofNat_of_zero_le h0
  have h2 : (2 : Nat) ^ b < 2 ^ 31 := Nat.pow_lt_pow_right (by decide) (by omega)
  rw [show (1 : Int) = ((1 : Nat) : Int) from rfl, z_shl_nat (by omega) (by omega), Nat.one_mul]
  rfl
theorem z_shl1_rng {k : Int} (h0 : 0 ≤ k) (h1 : k < 31) : 1 ≤ z_shl 1 k ∧ z_shl 1 k < 2147483648 := by
  rw [z_shl1 h0 h1]
  have h2 : (2 : Nat) ^ k.toNat < 2 ^ 31 := Nat.pow_lt_pow_right (by decide) (by omega)
  have h3 : 0 < (2 : Nat) ^ k.toNat := Nat.two_pow_pos _
  omega
/-- the greatest of f over those that are ok, from 0 -/
def z_gr (ok : Int → Bool) (f : Int → Int) : Nat → Int
  | 0 => 0
  | n + 1 => if ok (n : Int) then (if z_gr ok f n < f (n : Int) then f (n : Int) else z_gr ok f n) else z_gr ok f n
theorem z_gr_rng {ok : Int → Bool} {f : Int → Int} {c : Int} (hc : 0 ≤ c) (h : ∀ k, f k ≤ c) : ∀ n, 0 ≤ z_gr ok f n ∧ z_gr ok f n ≤ c
  | 0 => ⟨Int.le_refl 0, hc⟩
  | n + 1 => by
    have := z_gr_rng (ok := ok) hc h n
    have := h (n : Int)
    unfold z_gr
    split
    · split <;> omega
    · omega
