/-! BITS of the coded ints -/
theorem z_i_nat (n : Nat) : z_i (n : Int) = nI n := Int32.ofInt_eq_ofNat
theorem z_nat_and (a b : Nat) : nI a &&& nI b = nI (a &&& b) := by
  apply Int32.toBitVec_inj.1
  show BitVec.ofNat 32 a &&& BitVec.ofNat 32 b = BitVec.ofNat 32 (a &&& b)
  apply BitVec.eq_of_getLsbD_eq
  intro i hi
  simp [hi]
theorem z_nat_or (a b : Nat) : nI a ||| nI b = nI (a ||| b) := by
  apply Int32.toBitVec_inj.1
  show BitVec.ofNat 32 a ||| BitVec.ofNat 32 b = BitVec.ofNat 32 (a ||| b)
  apply BitVec.eq_of_getLsbD_eq
  intro i hi
  simp [hi]
theorem z_and_nat {a : Nat} (b : Nat) (ha : a < 2 ^ 31) : z_and (a : Int) (b : Int) = ((a &&& b : Nat) : Int) := by
  unfold z_and
  rw [z_i_nat, z_i_nat, z_nat_and]
  exact nI_toInt (Nat.lt_of_le_of_lt Nat.and_le_left ha)
theorem z_or_nat {a b : Nat} (ha : a < 2 ^ 31) (hb : b < 2 ^ 31) : z_or (a : Int) (b : Int) = ((a ||| b : Nat) : Int) := by
  unfold z_or
  rw [z_i_nat, z_i_nat, z_nat_or]
  exact nI_toInt (Nat.or_lt_two_pow ha hb)
theorem z_sh_l : ∀ n, n < 32 → ((nI n &&& 31).toBitVec.smod 32).toNat = n := by decide +kernel
theorem z_shl_nat {a k : Nat} (hk : k < 32) (h : a * 2 ^ k < 2 ^ 31) : z_shl (a : Int) (k : Int) = ((a * 2 ^ k : Nat) : Int) := by
  unfold z_shl
  rw [z_i_nat, z_i_nat, pk_shlN _ k (z_sh_l k hk) (by omega)]
  exact nI_toInt h
theorem z_shr_nat {a k : Nat} (hk : k < 32) (h : a < 2 ^ 31) : z_shr (a : Int) (k : Int) = ((a / 2 ^ k : Nat) : Int) := by
  unfold z_shr
  rw [z_i_nat, z_i_nat, pk_shrN h _ k (z_sh_l k hk)]
  exact nI_toInt (Nat.lt_of_le_of_lt (Nat.div_le_self _ _) h)
theorem z_not_bv (x : Int) : (z_i (z_xor x (-1))).toBitVec = ~~~ (z_i x).toBitVec := by
  unfold z_xor
  rw [z_i_of, Int32.toBitVec_xor]
  show (z_i x).toBitVec ^^^ BitVec.allOnes 32 = _
  rw [BitVec.xor_allOnes]
theorem z_andnot {a : Nat} (b : Nat) (ha : a < 2 ^ 31) : z_and (a : Int) (z_xor (b : Int) (-1)) = ((a ^^^ (a &&& b) : Nat) : Int) := by
  have e : z_i (a : Int) &&& z_i (z_xor (b : Int) (-1)) = nI (a ^^^ (a &&& b)) := by
    apply Int32.toBitVec_inj.1
    rw [Int32.toBitVec_and, z_not_bv, z_i_nat, z_i_nat]
    show BitVec.ofNat 32 a &&& ~~~ BitVec.ofNat 32 b = BitVec.ofNat 32 (a ^^^ (a &&& b))
    apply BitVec.eq_of_getLsbD_eq
    intro i hi
    simp [hi]
    cases (BitVec.ofNat 32 a)[i] <;> cases (BitVec.ofNat 32 b)[i] <;> rfl
  unfold z_and
  rw [e]
  exact nI_toInt (Nat.xor_lt_two_pow ha (Nat.lt_of_le_of_lt Nat.and_le_left ha))
/-- bit i of x -/
def tb (x i : Int) : Bool := x.toNat.testBit i.toNat
theorem z_bit {x i : Int} (hx : 0 ≤ x) (hx2 : x < 2147483648) (hi : 0 ≤ i) (hi2 : i < 31) : z_and (z_shr x i) 1 = if tb x i then 1 else 0 := by
  obtain ⟨a, rfl⟩ := Int.eq_ofNat_of_zero_le hx
  obtain ⟨k, rfl⟩ := Int.eq_ofNat_of_zero_le hi
  have ha : a < 2 ^ 31 := by omega
  rw [z_shr_nat (by omega) ha, show (1 : Int) = ((1 : Nat) : Int) from rfl, z_and_nat 1 (Nat.lt_of_le_of_lt (Nat.div_le_self _ _) ha)]
  unfold tb
  rw [Int.toNat_natCast, Int.toNat_natCast, Nat.testBit_eq_decide_div_mod_eq, Nat.and_one_is_mod]
  by_cases h : a / 2 ^ k % 2 = 1
  · rw [h]; simp
  · have h0 : a / 2 ^ k % 2 = 0 := by omega
    rw [h0]; simp
