/-! the JDK's own methods: bitCount -/
theorem z_sh_u : ∀ n, n < 32 → (((nI n).toUInt32 &&& Int32.toUInt32 31).toBitVec % 32).toNat = n := by decide +kernel
theorem z_ushr_nat {a k : Nat} (hk : k < 32) (h : a < 2 ^ 31) : z_ushr (a : Int) (k : Int) = ((a / 2 ^ k : Nat) : Int) := by
  unfold z_ushr
  rw [z_i_nat, z_i_nat, pk_ushrN (by omega) _ k (z_sh_u k hk)]
  exact nI_toInt (Nat.lt_of_le_of_lt (Nat.div_le_self _ _) h)
theorem z_and_split {a m b M : Nat} (ha : a < 256) (hm : m < 256) : (a + 256 * b) &&& (m + 256 * M) = (a &&& m) + 256 * (b &&& M) := by
  have e1 : a + 256 * b = 2 ^ 8 * b ||| a := by rw [← Nat.two_pow_add_eq_or_of_lt (show a < 2 ^ 8 from ha)]; omega
  have e2 : m + 256 * M = 2 ^ 8 * M ||| m := by rw [← Nat.two_pow_add_eq_or_of_lt (show m < 2 ^ 8 from hm)]; omega
  have ham : a &&& m < 2 ^ 8 := Nat.lt_of_le_of_lt Nat.and_le_left ha
  have e3 : (a &&& m) + 256 * (b &&& M) = 2 ^ 8 * (b &&& M) ||| (a &&& m) := by rw [← Nat.two_pow_add_eq_or_of_lt ham]; omega
  rw [e1, e2, e3]
  apply Nat.eq_of_testBit_eq
  intro i
  simp only [Nat.testBit_and, Nat.testBit_or, Nat.testBit_two_pow_mul]
  by_cases hi : 8 ≤ i
  · have h1 : a.testBit i = false := Nat.testBit_lt_two_pow (Nat.lt_of_lt_of_le ha (Nat.pow_le_pow_right (show 0 < 2 by decide) hi))
    have h2 : m.testBit i = false := Nat.testBit_lt_two_pow (Nat.lt_of_lt_of_le hm (Nat.pow_le_pow_right (show 0 < 2 by decide) hi))
    simp [hi, h1, h2]
  · simp [hi]
def b_1 (a : Nat) : Nat := a - (a / 2 &&& 85)
def b_2 (a : Nat) : Nat := (a &&& 51) + (a / 4 &&& 51)
def b_3 (a : Nat) : Nat := (a + a / 16) &&& 15
def b_p (a : Nat) : Nat := z_ct a.testBit 8
theorem b_t1 : ∀ a, a < 256 → (a / 2 &&& 85) ≤ a ∧ b_1 a < 256 ∧ (a / 2 + 128) &&& 85 = a / 2 &&& 85 := by decide +kernel
theorem b_t2 : ∀ a, a < 256 → (a / 4 + 64) &&& 51 = a / 4 &&& 51 ∧ (a / 4 + 128) &&& 51 = a / 4 &&& 51 ∧ (a / 4 + 192) &&& 51 = a / 4 &&& 51 ∧ b_2 (b_1 a) ≤ 68 ∧ b_2 (b_1 a) % 16 ≤ 4 := by decide +kernel
theorem b_t3 : ∀ a, a < 256 → b_3 (b_2 (b_1 a)) = b_p a ∧ b_p a ≤ 8 := by decide +kernel
theorem b_t4 : ∀ v, v < 69 → ∀ c, c < 5 → (v + v / 16 + c * 16) &&& 15 = b_3 v := by decide +kernel
/-- a step of two bytes: the lower by itself, the rest by itself -/
theorem b_s1 {a b M : Nat} (ha : a < 256) (hb : (b / 2 &&& M) ≤ b) : (a + 256 * b) - ((a + 256 * b) / 2 &&& (85 + 256 * M)) = b_1 a + 256 * (b - (b / 2 &&& M)) ∧ ((a + 256 * b) / 2 &&& (85 + 256 * M)) ≤ a + 256 * b := by
  obtain ⟨t1, t2, t3⟩ := b_t1 a ha
  have e : (a + 256 * b) / 2 = (a / 2 + 128 * (b % 2)) + 256 * (b / 2) := by omega
  rw [e, z_and_split (by omega) (by decide)]
  have e2 : (a / 2 + 128 * (b % 2)) &&& 85 = a / 2 &&& 85 := by
    rcases Nat.mod_two_eq_zero_or_one b with h | h
    · rw [h]; rfl
    · rw [h]; exact t3
  rw [e2]
  unfold b_1
  omega
theorem b_s2 {a b M : Nat} (ha : a < 256) : ((a + 256 * b) &&& (51 + 256 * M)) + ((a + 256 * b) / 4 &&& (51 + 256 * M)) = b_2 a + 256 * ((b &&& M) + (b / 4 &&& M)) := by
  obtain ⟨t1, t2, t3, -, -⟩ := b_t2 a ha
  have e : (a + 256 * b) / 4 = (a / 4 + 64 * (b % 4)) + 256 * (b / 4) := by omega
  rw [e, z_and_split ha (by decide), z_and_split (by omega) (by decide)]
  have e2 : (a / 4 + 64 * (b % 4)) &&& 51 = a / 4 &&& 51 := by
    have : b % 4 = 0 ∨ b % 4 = 1 ∨ b % 4 = 2 ∨ b % 4 = 3 := by omega
    rcases this with h | h | h | h <;> rw [h]
    · rfl
    · exact t1
    · exact t2
    · exact t3
  rw [e2]
  unfold b_2
  omega
theorem b_s3 {v b M : Nat} (hv : v < 69) (hb : b % 16 < 5) : ((v + 256 * b) + (v + 256 * b) / 16) &&& (15 + 256 * M) = b_3 v + 256 * ((b + b / 16) &&& M) := by
  have e : (v + 256 * b) + (v + 256 * b) / 16 = (v + v / 16 + b % 16 * 16) + 256 * (b + b / 16) := by omega
  rw [e, z_and_split (by omega) (by decide), b_t4 v hv _ hb]
theorem b_ct8 {a b : Nat} (ha : a < 256) : ∀ n, z_ct (a + 256 * b).testBit (8 + n) = z_ct a.testBit 8 + z_ct b.testBit n
  | 0 => by
    have e : ∀ i, i < 8 → (a + 256 * b).testBit i = a.testBit i := fun i hi => by
      have e1 : a + 256 * b = 2 ^ 8 * b ||| a := by rw [← Nat.two_pow_add_eq_or_of_lt (show a < 2 ^ 8 from ha)]; omega
      rw [e1, Nat.testBit_or, Nat.testBit_two_pow_mul]
      simp [show ¬ 8 ≤ i by omega]
    simp [z_ct, e]
  | n + 1 => by
    have ih := b_ct8 (b := b) ha n
    have e : (a + 256 * b).testBit (8 + n) = b.testBit n := by
      have e1 : a + 256 * b = 2 ^ 8 * b ||| a := by rw [← Nat.two_pow_add_eq_or_of_lt (show a < 2 ^ 8 from ha)]; omega
      have h1 : a.testBit (8 + n) = false := Nat.testBit_lt_two_pow (Nat.lt_of_lt_of_le ha (Nat.pow_le_pow_right (show 0 < 2 by decide) (show 8 ≤ 8 + n by omega)))
      rw [e1, Nat.testBit_or, Nat.testBit_two_pow_mul, h1]
      simp
    show z_ct (a + 256 * b).testBit (8 + n) + (if (a + 256 * b).testBit (8 + n) = true then 1 else 0) = z_ct a.testBit 8 + (z_ct b.testBit n + if b.testBit n = true then 1 else 0)
    rw [ih, e]
    omega
def b_x1 (x : Nat) : Nat := x - (x / 2 &&& 1431655765)
def b_x2 (y : Nat) : Nat := (y &&& 858993459) + (y / 4 &&& 858993459)
def b_x3 (z : Nat) : Nat := (z + z / 16) &&& 252645135
theorem b_all {x : Nat} (hx : x < 2 ^ 32) : ∃ p0 p1 p2 p3 : Nat, p0 ≤ 8 ∧ p1 ≤ 8 ∧ p2 ≤ 8 ∧ p3 ≤ 8 ∧ b_x3 (b_x2 (b_x1 x)) = p0 + 256 * (p1 + 256 * (p2 + 256 * p3)) ∧ z_ct x.testBit 32 = p0 + (p1 + (p2 + p3)) ∧ (x / 2 &&& 1431655765) ≤ x ∧ b_x1 x < 2 ^ 31 + 2 ^ 31 ∧ b_x2 (b_x1 x) ≤ 1145324612 := by
  obtain ⟨a, b, c, d, ha, hb, hc, hd, rfl⟩ : ∃ a b c d : Nat, a < 256 ∧ b < 256 ∧ c < 256 ∧ d < 256 ∧ x = a + 256 * (b + 256 * (c + 256 * d)) := ⟨x % 256, x / 256 % 256, x / 65536 % 256, x / 16777216, by omega, by omega, by omega, by omega, by omega⟩
  have td := b_t1 d hd
  have s1c := b_s1 (a := c) (b := d) (M := 85) hc td.1
  have s1b := b_s1 (a := b) (b := c + 256 * d) (M := 85 + 256 * 85) hb s1c.2
  have s1a := b_s1 (a := a) (b := b + 256 * (c + 256 * d)) (M := 85 + 256 * (85 + 256 * 85)) ha s1b.2
  have ea := b_t2 a ha
  have eb := b_t2 b hb
  have ec := b_t2 c hc
  have ed := b_t2 d hd
  have x1 : b_x1 (a + 256 * (b + 256 * (c + 256 * d))) = b_1 a + 256 * (b_1 b + 256 * (b_1 c + 256 * b_1 d)) := by
    unfold b_x1
    rw [show (1431655765 : Nat) = 85 + 256 * (85 + 256 * (85 + 256 * 85)) from rfl, s1a.1, s1b.1, s1c.1]
    rfl
  have ta := b_t1 a ha
  have tb' := b_t1 b hb
  have tc := b_t1 c hc
  have x2 : b_x2 (b_x1 (a + 256 * (b + 256 * (c + 256 * d)))) = b_2 (b_1 a) + 256 * (b_2 (b_1 b) + 256 * (b_2 (b_1 c) + 256 * b_2 (b_1 d))) := by
    rw [x1]
    unfold b_x2
    rw [show (858993459 : Nat) = 51 + 256 * (51 + 256 * (51 + 256 * 51)) from rfl, b_s2 ta.2.1, b_s2 tb'.2.1, b_s2 tc.2.1]
    rfl
  have pa := b_t3 a ha
  have pb := b_t3 b hb
  have pc := b_t3 c hc
  have pd := b_t3 d hd
  have x3 : b_x3 (b_x2 (b_x1 (a + 256 * (b + 256 * (c + 256 * d))))) = b_p a + 256 * (b_p b + 256 * (b_p c + 256 * b_p d)) := by
    rw [x2]
    unfold b_x3
    rw [show (252645135 : Nat) = 15 + 256 * (15 + 256 * (15 + 256 * 15)) from rfl, b_s3 (by omega) (by omega), b_s3 (by omega) (by omega), b_s3 (by omega) (by omega), pa.1, pb.1, pc.1]
    rw [show (b_2 (b_1 d) + b_2 (b_1 d) / 16) &&& 15 = b_3 (b_2 (b_1 d)) from rfl, pd.1]
  refine ⟨b_p a, b_p b, b_p c, b_p d, pa.2, pb.2, pc.2, pd.2, x3, ?_, s1a.2, ?_, ?_⟩
  · have e1 := b_ct8 (b := b + 256 * (c + 256 * d)) ha 24
    have e2 := b_ct8 (b := c + 256 * d) hb 16
    have e3 := b_ct8 (b := d) hc 8
    unfold b_p
    rw [show (32 : Nat) = 8 + 24 from rfl, e1, show (24 : Nat) = 8 + 16 from rfl, e2, show (16 : Nat) = 8 + 8 from rfl, e3]
  · rw [x1]; omega
  · rw [x2]; omega
theorem b_ct31 {x : Nat} (hx : x < 2 ^ 31) : z_ct x.testBit 32 = z_ct x.testBit 31 := by
  show z_ct x.testBit 31 + (if x.testBit 31 = true then 1 else 0) = _
  rw [Nat.testBit_lt_two_pow hx]
  rfl
theorem b_end {p0 p1 p2 p3 : Nat} (g0 : p0 ≤ 8) (g1 : p1 ≤ 8) (g2 : p2 ≤ 8) (g3 : p3 ≤ 8) : (p0 + 256 * (p1 + 256 * (p2 + 256 * p3)) + (p0 + 256 * (p1 + 256 * (p2 + 256 * p3))) / 2 ^ 8 + (p0 + 256 * (p1 + 256 * (p2 + 256 * p3)) + (p0 + 256 * (p1 + 256 * (p2 + 256 * p3))) / 2 ^ 8) / 2 ^ 16) % 2 ^ 6 = p0 + (p1 + (p2 + p3)) := by
  have f1 : (p0 + 256 * (p1 + 256 * (p2 + 256 * p3))) / 2 ^ 8 = p1 + 256 * (p2 + 256 * p3) := by omega
  rw [f1]
  have f2 : (p0 + 256 * (p1 + 256 * (p2 + 256 * p3)) + (p1 + 256 * (p2 + 256 * p3))) / 2 ^ 16 = p2 + p3 + 256 * p3 := by omega
  rw [f2]
  omega
set_option maxHeartbeats 4000000 in
set_option maxRecDepth 100000 in
theorem ct_J6_bitCount_0f7a4 {n : Nat} {h : z_H} {xi : Int} (h0 : 0 ≤ xi) (h1 : xi < 2147483648) : z_Ct mJ6_bitCount_0f7a4 n [(0, xi)] h (z_pure (0, z_pop xi) h) := by
  refine z_mk (L := [(0, xi)]) oJ6_bitCount_0f7a4.2.2.2.2 (Nat.le_of_ble_eq_true rfl) rfl ?_
  intro Γ X hQ
  obtain ⟨x, rfl⟩ := Int.eq_ofNat_of_zero_le h0
  have hx : x < 2 ^ 31 := by omega
  obtain ⟨p0, p1, p2, p3, g0, g1, g2, g3, e3, ect, ele, elt, el2⟩ := b_all (x := x) (by omega)
  have epop : z_pop (x : Int) = ((p0 + (p1 + (p2 + p3)) : Nat) : Int) := by unfold z_pop; rw [Int.toNat_natCast, ← b_ct31 hx, ect]
  have hx1 : b_x1 x < 2 ^ 31 := by unfold b_x1; omega
  refine V_iload_n (pc := 0) X dJ6_bitCount_0f7a4_0 rfl ?_
  refine V_iload_n (pc := 1) X dJ6_bitCount_0f7a4_1 rfl ?_
  refine V_iconst (pc := 2) X dJ6_bitCount_0f7a4_2 ?_
  refine V_iushr (pc := 3) X dJ6_bitCount_0f7a4_3 ?_
  rw [show (1 : Int) = ((1 : Nat) : Int) from rfl, z_ushr_nat (by decide) (by omega), show x / 2 ^ 1 = x / 2 from rfl]
  refine V_ldcw (pc := 4) X (1431655765) dJ6_bitCount_0f7a4_4 c_RJ6_265 (by decide) ?_
  refine V_iand (pc := 7) X dJ6_bitCount_0f7a4_7 ?_
  rw [show (1431655765 : Int) = ((1431655765 : Nat) : Int) from rfl, z_and_nat _ (by omega)]
  refine V_isub (pc := 8) X dJ6_bitCount_0f7a4_8 ?_
  rw [show (x : Int) - ((x / 2 &&& 1431655765 : Nat) : Int) = ((b_x1 x : Nat) : Int) from by unfold b_x1; omega]
  refine V_istore_n (pc := 9) X dJ6_bitCount_0f7a4_9 (by exact Nat.le_of_ble_eq_true rfl) rfl ?_
  refine V_iload_n (pc := 10) X dJ6_bitCount_0f7a4_10 rfl ?_
  refine V_ldcw (pc := 11) X (858993459) dJ6_bitCount_0f7a4_11 c_RJ6_266 (by decide) ?_
  refine V_iand (pc := 14) X dJ6_bitCount_0f7a4_14 ?_
  rw [show (858993459 : Int) = ((858993459 : Nat) : Int) from rfl, z_and_nat _ (by omega)]
  refine V_iload_n (pc := 15) X dJ6_bitCount_0f7a4_15 rfl ?_
  refine V_iconst (pc := 16) X dJ6_bitCount_0f7a4_16 ?_
  refine V_iushr (pc := 17) X dJ6_bitCount_0f7a4_17 ?_
  rw [show (2 : Int) = ((2 : Nat) : Int) from rfl, z_ushr_nat (by decide) (by omega), show b_x1 x / 2 ^ 2 = b_x1 x / 4 from rfl]
  refine V_ldcw (pc := 18) X (858993459) dJ6_bitCount_0f7a4_18 c_RJ6_266 (by decide) ?_
  refine V_iand (pc := 21) X dJ6_bitCount_0f7a4_21 ?_
  rw [show (858993459 : Int) = ((858993459 : Nat) : Int) from rfl, z_and_nat _ (by omega)]
  refine V_iadd (pc := 22) X dJ6_bitCount_0f7a4_22 ?_
  rw [show ((b_x1 x &&& 858993459 : Nat) : Int) + ((b_x1 x / 4 &&& 858993459 : Nat) : Int) = ((b_x2 (b_x1 x) : Nat) : Int) from by unfold b_x2; omega]
  refine V_istore_n (pc := 23) X dJ6_bitCount_0f7a4_23 (by exact Nat.le_of_ble_eq_true rfl) rfl ?_
  refine V_iload_n (pc := 24) X dJ6_bitCount_0f7a4_24 rfl ?_
  refine V_iload_n (pc := 25) X dJ6_bitCount_0f7a4_25 rfl ?_
  refine V_iconst (pc := 26) X dJ6_bitCount_0f7a4_26 ?_
  refine V_iushr (pc := 27) X dJ6_bitCount_0f7a4_27 ?_
  rw [show (4 : Int) = ((4 : Nat) : Int) from rfl, z_ushr_nat (by decide) (by omega), show b_x2 (b_x1 x) / 2 ^ 4 = b_x2 (b_x1 x) / 16 from rfl]
  refine V_iadd (pc := 28) X dJ6_bitCount_0f7a4_28 ?_
  rw [show ((b_x2 (b_x1 x) : Nat) : Int) + ((b_x2 (b_x1 x) / 16 : Nat) : Int) = ((b_x2 (b_x1 x) + b_x2 (b_x1 x) / 16 : Nat) : Int) from by omega]
  refine V_ldcw (pc := 29) X (252645135) dJ6_bitCount_0f7a4_29 c_RJ6_267 (by decide) ?_
  refine V_iand (pc := 32) X dJ6_bitCount_0f7a4_32 ?_
  rw [show (252645135 : Int) = ((252645135 : Nat) : Int) from rfl, z_and_nat _ (by omega), show (b_x2 (b_x1 x) + b_x2 (b_x1 x) / 16) &&& 252645135 = b_x3 (b_x2 (b_x1 x)) from rfl, e3]
  refine V_istore_n (pc := 33) X dJ6_bitCount_0f7a4_33 (by exact Nat.le_of_ble_eq_true rfl) rfl ?_
  refine V_iload_n (pc := 34) X dJ6_bitCount_0f7a4_34 rfl ?_
  refine V_iload_n (pc := 35) X dJ6_bitCount_0f7a4_35 rfl ?_
  refine V_bipush (pc := 36) X dJ6_bitCount_0f7a4_36 (by decide) ?_
  refine V_iushr (pc := 38) X dJ6_bitCount_0f7a4_38 ?_
  rw [show (8 : Int) = ((8 : Nat) : Int) from rfl, z_ushr_nat (by decide) (by omega)]
  refine V_iadd (pc := 39) X dJ6_bitCount_0f7a4_39 ?_
  rw [show ∀ u w : Nat, ((u : Nat) : Int) + ((w : Nat) : Int) = ((u + w : Nat) : Int) from fun u w => rfl]
  refine V_istore_n (pc := 40) X dJ6_bitCount_0f7a4_40 (by exact Nat.le_of_ble_eq_true rfl) rfl ?_
  refine V_iload_n (pc := 41) X dJ6_bitCount_0f7a4_41 rfl ?_
  refine V_iload_n (pc := 42) X dJ6_bitCount_0f7a4_42 rfl ?_
  refine V_bipush (pc := 43) X dJ6_bitCount_0f7a4_43 (by decide) ?_
  refine V_iushr (pc := 45) X dJ6_bitCount_0f7a4_45 ?_
  rw [show (16 : Int) = ((16 : Nat) : Int) from rfl, z_ushr_nat (by decide) (by omega)]
  refine V_iadd (pc := 46) X dJ6_bitCount_0f7a4_46 ?_
  rw [show ∀ u w : Nat, ((u : Nat) : Int) + ((w : Nat) : Int) = ((u + w : Nat) : Int) from fun u w => rfl]
  refine V_istore_n (pc := 47) X dJ6_bitCount_0f7a4_47 (by exact Nat.le_of_ble_eq_true rfl) rfl ?_
  refine V_iload_n (pc := 48) X dJ6_bitCount_0f7a4_48 rfl ?_
  refine V_bipush (pc := 49) X dJ6_bitCount_0f7a4_49 (by decide) ?_
  refine V_iand (pc := 51) X dJ6_bitCount_0f7a4_51 ?_
  rw [show (63 : Int) = ((2 ^ 6 - 1 : Nat) : Int) from rfl, z_and_nat _ (by omega), Nat.and_two_pow_sub_one_eq_mod]
  refine V_iret (st := []) (pc := 52) X hQ dJ6_bitCount_0f7a4_52 rfl rfl ?_
  exact z_pi (by rw [epop]; exact congrArg Int.ofNat (b_end g0 g1 g2 g3))
