/-! CLASS AND REFERENCE: the parts of a set in their order -/
def g_nx (R b : Nat) : Nat := (b + 256 - R) &&& R
def g_cu (R : Nat) : Nat → Nat
  | 0 => 0
  | b + 1 => if b &&& R = b then g_nx R (g_cu R b) else g_cu R b
def g_rk (R : Nat) : Nat → Nat
  | 0 => 0
  | b + 1 => if b &&& R = b then g_rk R b + 1 else g_rk R b
def g_ck (R : Nat) : Nat → Nat → Nat → Nat → Bool
  | 0, _, _, c => Nat.beq c (2 ^ z_ct R.testBit 8)
  | n + 1, b, u, c => if Nat.beq (Nat.land b R) b then (Nat.beq u b && g_ck R n (b + 1) (Nat.land (b + 256 - R) R) (c + 1)) else g_ck R n (b + 1) u c
theorem g_ck_all : (List.range 256).all (fun R => g_ck R 256 0 0 0) = true := by decide +kernel
theorem g_ck_ok (R : Nat) : ∀ (n b : Nat), g_ck R n b (g_cu R b) (g_rk R b) = true → (∀ d, b ≤ d → d < b + n → d &&& R = d → g_cu R d = d) ∧ g_rk R (b + n) = 2 ^ z_ct R.testBit 8
  | 0, b, hk => ⟨fun d h1 h2 _ => by omega, Nat.eq_of_beq_eq_true hk⟩
  | n + 1, b, hk => by
    unfold g_ck at hk
    by_cases e : b &&& R = b
    · have e' : Nat.beq (Nat.land b R) b = true := by
        show Nat.beq (b &&& R) b = true
        rw [e]
        exact Nat.beq_refl b
      rw [if_pos e', Bool.and_eq_true] at hk
      have hu : g_cu R b = b := Nat.eq_of_beq_eq_true hk.1
      have e1 : g_cu R (b + 1) = Nat.land (b + 256 - R) R := by
        show (if b &&& R = b then g_nx R (g_cu R b) else g_cu R b) = _
        rw [if_pos e, hu]
        rfl
      have e2 : g_rk R (b + 1) = g_rk R b + 1 := if_pos e
      have ih := g_ck_ok R n (b + 1) (by rw [e1, e2]; exact hk.2)
      refine ⟨fun d h1 h2 h3 => ?_, by rw [show b + (n + 1) = b + 1 + n by omega]; exact ih.2⟩
      by_cases g : d = b
      · rw [g]; exact hu
      · exact ih.1 d (by omega) (by omega) h3
    · have e' : ¬ Nat.beq (Nat.land b R) b = true := fun g => e (Nat.eq_of_beq_eq_true g)
      rw [if_neg e'] at hk
      have e1 : g_cu R (b + 1) = g_cu R b := if_neg e
      have e2 : g_rk R (b + 1) = g_rk R b := if_neg e
      have ih := g_ck_ok R n (b + 1) (by rw [e1, e2]; exact hk)
      refine ⟨fun d h1 h2 h3 => ?_, by rw [show b + (n + 1) = b + 1 + n by omega]; exact ih.2⟩
      by_cases g : d = b
      · subst g; exact absurd h3 e
      · exact ih.1 d (by omega) (by omega) h3
theorem g_sub {R : Nat} (hR : R < 256) : (∀ d, d < 256 → d &&& R = d → g_cu R d = d) ∧ g_rk R 256 = 2 ^ z_ct R.testBit 8 := by
  have h := List.all_eq_true.mp g_ck_all R (List.mem_range.mpr hR)
  have := g_ck_ok R 256 0 h
  exact ⟨fun d h1 h2 => this.1 d (by omega) (by omega) h2, this.2⟩
theorem g_nx_z {R b : Nat} (hR : R < 256) (hb : b ≤ R) : z_and ((b : Int) - (R : Int)) (R : Int) = ((g_nx R b : Nat) : Int) := by
  rw [z_and_m _ (by omega)]
  congr 1
  unfold g_nx z_i
  have e : (Int32.ofInt ((b : Int) - (R : Int))).toBitVec.toNat = (b + 4294967296 - R) % 4294967296 := by
    show (BitVec.ofInt 32 ((b : Int) - (R : Int))).toNat = _
    rw [BitVec.toNat_ofInt]
    omega
  rw [e]
  apply Nat.eq_of_testBit_eq
  intro i
  rw [Nat.testBit_and, Nat.testBit_and]
  by_cases hi : i < 8
  · congr 1
    have m1 : ((b + 4294967296 - R) % 4294967296) % 2 ^ 8 = (b + 256 - R) % 2 ^ 8 := by omega
    have t1 := Nat.testBit_mod_two_pow ((b + 4294967296 - R) % 4294967296) 8 i
    have t2 := Nat.testBit_mod_two_pow (b + 256 - R) 8 i
    rw [m1, t2, decide_eq_true hi, Bool.true_and, Bool.true_and] at t1
    exact t1.symm
  · rw [Nat.testBit_lt_two_pow (x := R) (i := i) (Nat.lt_of_lt_of_le hR (show 2 ^ 8 ≤ 2 ^ i from Nat.pow_le_pow_right (by decide) (by omega))), Bool.and_false, Bool.and_false]
theorem g_cu_le {R : Nat} : ∀ b, g_cu R b ≤ R
  | 0 => Nat.zero_le R
  | b + 1 => by
    unfold g_cu
    split
    · exact Nat.and_le_right
    · exact g_cu_le b
theorem g_mb {R : Nat} (hR : R < 256) : ∀ b : Nat, m_b (R : Int) (g_rk R b) = ((g_cu R b : Nat) : Int)
  | 0 => rfl
  | b + 1 => by
    have ih := g_mb hR b
    unfold g_rk g_cu
    by_cases e : b &&& R = b
    · rw [if_pos e, if_pos e, m_b, ih]
      exact g_nx_z hR (g_cu_le b)
    · rw [if_neg e, if_neg e, ih]
theorem z_xor0 {a b : Nat} : a ^^^ b = 0 ↔ a = b := by
  constructor
  · intro e
    apply Nat.eq_of_testBit_eq
    intro i
    have := congrArg (fun z => z.testBit i) e
    simp only [Nat.testBit_xor, Nat.zero_testBit] at this
    revert this
    cases a.testBit i <;> cases b.testBit i <;> decide
  · intro e
    rw [e, Nat.xor_self]
theorem g_in {a b : Nat} (ha : a < 2147483648) : z_and (a : Int) (z_xor (b : Int) (-1)) = 0 ↔ a &&& b = a := by
  rw [z_andnot b (by omega)]
  constructor
  · intro e
    exact (z_xor0.mp (by omega)).symm
  · intro e
    rw [e, Nat.xor_self]
    rfl
theorem g_in2 {n a b : Nat} (hn : n < 2147483648) (ha : a < 2147483648) : z_and (n : Int) (z_or (a : Int) (z_xor (b : Int) (-1))) = 0 ↔ n &&& (b ^^^ (b &&& a)) = n := by
  have e : z_and (n : Int) (z_or (a : Int) (z_xor (b : Int) (-1))) = ((n ^^^ (n &&& (b ^^^ (b &&& a))) : Nat) : Int) := by
    have e2 : z_i (n : Int) &&& z_i (z_or (a : Int) (z_xor (b : Int) (-1))) = nI (n ^^^ (n &&& (b ^^^ (b &&& a)))) := by
      apply Int32.toBitVec_inj.1
      have e3 : z_i (z_or (a : Int) (z_xor (b : Int) (-1))) = z_i (a : Int) ||| z_i (z_xor (b : Int) (-1)) := by
        unfold z_or
        rw [z_i_of]
      rw [Int32.toBitVec_and, e3, Int32.toBitVec_or, z_not_bv, z_i_nat, z_i_nat, z_i_nat]
      show BitVec.ofNat 32 n &&& (BitVec.ofNat 32 a ||| ~~~ BitVec.ofNat 32 b) = BitVec.ofNat 32 (n ^^^ (n &&& (b ^^^ (b &&& a))))
      apply BitVec.eq_of_getLsbD_eq
      intro i hi
      simp [hi]
      cases (BitVec.ofNat 32 n)[i] <;> cases (BitVec.ofNat 32 a)[i] <;> cases (BitVec.ofNat 32 b)[i] <;> rfl
    show (z_i (n : Int) &&& z_i (z_or (a : Int) (z_xor (b : Int) (-1)))).toInt = _
    rw [e2]
    exact nI_toInt (Nat.xor_lt_two_pow hn (Nat.lt_of_le_of_lt Nat.and_le_left hn))
  rw [e]
  constructor
  · intro e
    exact (z_xor0.mp (by omega)).symm
  · intro e
    rw [e, Nat.xor_self]
    rfl
