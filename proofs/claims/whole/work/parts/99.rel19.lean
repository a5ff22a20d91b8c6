/-! CLASS AND REFERENCE: a part, as the class has it -/
def g_bs (X : Nat) : Nat := (X * 2 ^ 4 ||| X / 2 ^ 4) ||| ((X ^^^ (X &&& 559240)) * 2 ^ 1 ||| (X ^^^ (X &&& 69905)) / 2 ^ 1)
def g_st (al X : Nat) : Nat := (X ||| g_bs X) &&& al
def g_it (al p : Nat) : Nat → Nat
  | 0 => 2 ^ p
  | n + 1 => g_st al (g_it al p n)
/-- u beside q -/
def g_ad (u q : Nat) : Prop := u + 4 = q ∨ u = q + 4 ∨ (u + 1 = q ∧ u % 4 ≠ 3) ∨ (u = q + 1 ∧ u % 4 ≠ 0)
theorem g_ad_sym {u q : Nat} (h : g_ad u q) : g_ad q u := by
  unfold g_ad at *
  omega
theorem g_m1 : ∀ i : Nat, i < 20 → Nat.testBit 559240 i = decide (i % 4 = 3) := by decide +kernel
theorem g_m2 : ∀ i : Nat, i < 20 → Nat.testBit 69905 i = decide (i % 4 = 0) := by decide +kernel
theorem g_bit_hi {X i : Nat} (hX : X < 2 ^ 20) (hi : ¬ i < 20) : X.testBit i = false := Nat.testBit_lt_two_pow (Nat.lt_of_lt_of_le hX (Nat.pow_le_pow_right (by decide) (by omega)))
theorem g_bs_bit {X : Nat} (hX : X < 2 ^ 20) (q : Nat) : (g_bs X).testBit q = true ↔ ∃ u, g_ad u q ∧ X.testBit u = true := by
  unfold g_bs
  rw [Nat.testBit_or, Nat.testBit_or, Nat.testBit_or, Nat.testBit_mul_two_pow, Nat.testBit_mul_two_pow, Nat.testBit_div_two_pow, Nat.testBit_div_two_pow, Nat.testBit_xor, Nat.testBit_xor, Nat.testBit_and, Nat.testBit_and]
  constructor
  · intro h
    simp only [Bool.or_eq_true, Bool.and_eq_true, decide_eq_true_eq] at h
    rcases h with (⟨h1, h2⟩ | h2) | (⟨h1, h2⟩ | h2)
    · exact ⟨q - 4, Or.inl (by omega), h2⟩
    · exact ⟨q + 4, Or.inr (Or.inl rfl), h2⟩
    · have hb : X.testBit (q - 1) = true := by revert h2; cases X.testBit (q - 1) <;> simp
      have hl : q - 1 < 20 := Classical.byContradiction (fun g => by rw [g_bit_hi hX g] at hb; cases hb)
      rw [hb, g_m1 _ hl] at h2
      refine ⟨q - 1, Or.inr (Or.inr (Or.inl ⟨by omega, fun g => ?_⟩)), hb⟩
      rw [decide_eq_true g] at h2
      exact absurd h2 (by decide)
    · have hb : X.testBit (q + 1) = true := by revert h2; cases X.testBit (q + 1) <;> simp
      have hl : q + 1 < 20 := Classical.byContradiction (fun g => by rw [g_bit_hi hX g] at hb; cases hb)
      rw [hb, g_m2 _ hl] at h2
      refine ⟨q + 1, Or.inr (Or.inr (Or.inr ⟨rfl, fun g => ?_⟩)), hb⟩
      rw [decide_eq_true g] at h2
      exact absurd h2 (by decide)
  · rintro ⟨u, hu, hb⟩
    have hl : u < 20 := Classical.byContradiction (fun g => by rw [g_bit_hi hX g] at hb; cases hb)
    simp only [Bool.or_eq_true, Bool.and_eq_true, decide_eq_true_eq]
    rcases hu with e | e | ⟨e, e2⟩ | ⟨e, e2⟩
    · exact Or.inl (Or.inl ⟨by omega, by rw [show q - 4 = u by omega]; exact hb⟩)
    · exact Or.inl (Or.inr (by rw [← e]; exact hb))
    · refine Or.inr (Or.inl ⟨by omega, ?_⟩)
      rw [show q - 1 = u by omega, hb, g_m1 u hl, decide_eq_false e2]
      rfl
    · refine Or.inr (Or.inr ?_)
      rw [← e, hb, g_m2 u hl, decide_eq_false e2]
      rfl
theorem g_it_lt {al p : Nat} (ha : al < 2 ^ 20) (hp : p < 20) : ∀ n, g_it al p n < 2 ^ 20
  | 0 => Nat.pow_lt_pow_right (by decide) hp
  | n + 1 => Nat.lt_of_le_of_lt (Nat.and_le_right) ha
theorem g_it_s {al p : Nat} (ha : al < 2 ^ 20) (hp : p < 20) (n q : Nat) : (g_it al p (n + 1)).testBit q = true ↔ ((g_it al p n).testBit q = true ∨ ∃ u, g_ad u q ∧ (g_it al p n).testBit u = true) ∧ al.testBit q = true := by
  show ((g_it al p n ||| g_bs (g_it al p n)) &&& al).testBit q = true ↔ _
  rw [Nat.testBit_and, Nat.testBit_or, Bool.and_eq_true, Bool.or_eq_true, g_bs_bit (g_it_lt ha hp n)]
theorem g_it_al {al p : Nat} (ha : al < 2 ^ 20) (hp : p < 20) (hap : al.testBit p = true) : ∀ n q, (g_it al p n).testBit q = true → al.testBit q = true
  | 0, q, h => by
    have : (2 ^ p).testBit q = true := h
    rw [Nat.testBit_two_pow] at this
    rw [← of_decide_eq_true this]; exact hap
  | n + 1, q, h => ((g_it_s ha hp n q).mp h).2
theorem g_it_up {al p : Nat} (ha : al < 2 ^ 20) (hp : p < 20) (hap : al.testBit p = true) (n q : Nat) (h : (g_it al p n).testBit q = true) : (g_it al p (n + 1)).testBit q = true := (g_it_s ha hp n q).mpr ⟨Or.inl h, g_it_al ha hp hap n q h⟩
theorem g_it_p {al p : Nat} (ha : al < 2 ^ 20) (hp : p < 20) (hap : al.testBit p = true) : ∀ n, (g_it al p n).testBit p = true
  | 0 => by show (2 ^ p).testBit p = true; rw [Nat.testBit_two_pow]; exact decide_eq_true rfl
  | n + 1 => g_it_up ha hp hap n p (g_it_p ha hp hap n)
theorem g_it_min {al p : Nat} (ha : al < 2 ^ 20) (hp : p < 20) {S : Nat → Prop} (h0 : S p) (hc : ∀ u q, S u → g_ad u q → al.testBit q = true → S q) : ∀ n q, (g_it al p n).testBit q = true → S q
  | 0, q, h => by
    have : (2 ^ p).testBit q = true := h
    rw [Nat.testBit_two_pow] at this
    rw [← of_decide_eq_true this]; exact h0
  | n + 1, q, h => by
    obtain ⟨g | ⟨u, gu, gb⟩, ga⟩ := (g_it_s ha hp n q).mp h
    · exact g_it_min ha hp h0 hc n q g
    · exact hc u q (g_it_min ha hp h0 hc n u gb) gu ga
theorem z_ct_le2 {f g : Nat → Bool} : ∀ {n : Nat}, (∀ i, i < n → f i = true → g i = true) → z_ct f n ≤ z_ct g n
  | 0, _ => Nat.le_refl 0
  | n + 1, h => by
    have ih := z_ct_le2 (f := f) (g := g) (n := n) (fun i hi => h i (by omega))
    unfold z_ct
    cases e : f n with
    | true => rw [h n (by omega) e]; simp; exact ih
    | false => simp; omega
theorem z_ct_lt2 {f g : Nat → Bool} {q : Nat} (h1 : f q = false) (h2 : g q = true) : ∀ {n : Nat}, q < n → (∀ i, i < n → f i = true → g i = true) → z_ct f n + 1 ≤ z_ct g n
  | 0, h, _ => by omega
  | n + 1, h, hm => by
    unfold z_ct
    by_cases e : q = n
    · subst e
      have := z_ct_le2 (f := f) (g := g) (n := q) (fun i hi => hm i (by omega))
      rw [h1, h2]
      simp
      exact this
    · have ih := z_ct_lt2 h1 h2 (n := n) (by omega) (fun i hi => hm i (by omega))
      cases e2 : f n with
      | true => rw [hm n (by omega) e2]; simp; omega
      | false => simp; omega
theorem z_ct_full {f : Nat → Bool} : ∀ {n : Nat}, n ≤ z_ct f n → ∀ i, i < n → f i = true
  | 0, _, i, hi => by omega
  | n + 1, h, i, hi => by
    have h1 := z_ct_le f n
    unfold z_ct at h
    cases e : f n with
    | true =>
      rw [e] at h
      by_cases g : i = n
      · rw [g]; exact e
      · exact z_ct_full (n := n) (by simp at h; omega) i (by omega)
    | false =>
      rw [e] at h
      simp at h
      omega
theorem g_it_grow {al p : Nat} (ha : al < 2 ^ 20) (hp : p < 20) (hap : al.testBit p = true) : ∀ n, g_it al p (n + 1) = g_it al p n ∨ n + 1 ≤ z_ct (g_it al p n).testBit 20
  | 0 => Or.inr (by
    have := z_ct_lt2 (f := fun _ => false) (g := (g_it al p 0).testBit) (q := p) rfl (g_it_p ha hp hap 0) (n := 20) hp (fun i _ h => by cases h)
    omega)
  | n + 1 => by
    rcases g_it_grow ha hp hap n with e | e
    · exact Or.inl (congrArg (g_st al) e)
    · by_cases g : g_it al p (n + 1) = g_it al p n
      · exact Or.inl (congrArg (g_st al) g)
      · have : ∃ q, (g_it al p n).testBit q = false ∧ (g_it al p (n + 1)).testBit q = true := Classical.byContradiction (fun w => g (Nat.eq_of_testBit_eq (fun i => by
          cases e1 : (g_it al p n).testBit i with
          | true => exact g_it_up ha hp hap n i e1
          | false =>
            cases e2 : (g_it al p (n + 1)).testBit i with
            | false => rfl
            | true => exact absurd ⟨i, e1, e2⟩ w)))
        obtain ⟨q, q1, q2⟩ := this
        have hq : q < 20 := Classical.byContradiction (fun w => by rw [g_bit_hi (g_it_lt ha hp _) w] at q2; cases q2)
        have := z_ct_lt2 q1 q2 (n := 20) hq (fun i _ h => g_it_up ha hp hap n i h)
        exact Or.inr (by omega)
theorem g_it_fix {al p : Nat} (ha : al < 2 ^ 20) (hp : p < 20) (hap : al.testBit p = true) : g_it al p 20 = g_it al p 19 := by
  rcases g_it_grow ha hp hap 19 with e | e
  · exact e
  · apply Nat.eq_of_testBit_eq
    intro i
    by_cases hi : i < 20
    · have h1 := z_ct_full e i hi
      rw [h1]
      exact g_it_up ha hp hap 19 i h1
    · rw [g_bit_hi (g_it_lt ha hp _) hi, g_bit_hi (g_it_lt ha hp _) hi]
theorem g_it_cl {al p : Nat} (ha : al < 2 ^ 20) (hp : p < 20) (hap : al.testBit p = true) {u q : Nat} (hu : (g_it al p 19).testBit u = true) (had : g_ad u q) (hq : al.testBit q = true) : (g_it al p 19).testBit q = true := by
  rw [← g_it_fix ha hp hap]
  exact (g_it_s ha hp 19 q).mpr ⟨Or.inr ⟨u, had, hu⟩, hq⟩
theorem g_not1 : z_xor ((559240 : Nat) : Int) (-1) = -559241 ∧ z_xor ((69905 : Nat) : Int) (-1) = -69906 := by decide +kernel
theorem g_beside {X : Nat} (hX : X < 2 ^ 20) : c_beside (X : Int) = ((g_bs X : Nat) : Int) ∧ g_bs X < 2 ^ 24 := by
  have h1 : X ^^^ (X &&& 559240) < 2 ^ 20 := Nat.xor_lt_two_pow hX (Nat.lt_of_le_of_lt Nat.and_le_left hX)
  have h2 : X ^^^ (X &&& 69905) < 2 ^ 20 := Nat.xor_lt_two_pow hX (Nat.lt_of_le_of_lt Nat.and_le_left hX)
  have b1 : X * 2 ^ 4 ||| X / 2 ^ 4 < 2 ^ 24 := Nat.or_lt_two_pow (by omega) (by omega)
  have b2 : (X ^^^ (X &&& 559240)) * 2 ^ 1 ||| (X ^^^ (X &&& 69905)) / 2 ^ 1 < 2 ^ 24 := Nat.or_lt_two_pow (by omega) (by omega)
  refine ⟨?_, Nat.or_lt_two_pow b1 b2⟩
  unfold c_beside g_bs
  have k4 : (4 : Int) = ((4 : Nat) : Int) := rfl
  have k1 : (1 : Int) = ((1 : Nat) : Int) := rfl
  rw [← g_not1.1, ← g_not1.2, z_andnot 559240 (by omega), z_andnot 69905 (by omega), k4, k1, z_shl_nat (by decide) (by omega), z_shr_nat (by decide) (by omega), z_shl_nat (by decide) (by omega), z_shr_nat (by decide) (by omega), z_or_nat (by omega) (by omega), z_or_nat (by omega) (by omega), z_or_nat (by omega) (by omega)]
theorem g_partN {h : z_H} {pl mo : Int} {p : Nat} (hp : p < 20) : ∀ n, c_partN h pl mo (p : Int) n = ((g_it (c_alike h pl mo (c_colour h pl mo (p : Int))) p n : Nat) : Int)
  | 0 => by
    show z_shl 1 (p : Int) = _
    rw [z_shl1 (by omega) (by omega), Int.toNat_natCast]
    rfl
  | n + 1 => by
    have ih := g_partN (h := h) (pl := pl) (mo := mo) hp n
    have ha : c_alike h pl mo (c_colour h pl mo (p : Int)) < 2 ^ 20 := z_set_lt _ 20
    have hl := g_it_lt ha hp n
    have hb := g_beside hl
    unfold c_partN
    rw [ih, hb.1, z_or_nat (by omega) (by omega), z_and_nat _ (Nat.lt_of_lt_of_le (Nat.or_lt_two_pow (n := 24) (by omega) hb.2) (by decide))]
    rfl
