/-! fields by whole numbers -/
theorem V_gz {Γ : z_C} {M : z_M} {a : Nat × Nat × Nat} {pc : Nat} {L st : List (Nat × Int)} {h : z_H} {idx ci j t : Nat} {fin : Bool} {k v : Int} (X : z_Ok Γ M) (d : decode M.2.1 pc = .ok (.getfield idx, 3)) (f : z_F M.1.cls idx ci j t fin) (hk : z_kd a.1 k = (0, ci)) (jz : Int) (ej : (j : Int) = jz) (hv : h k jz = v) (kk : z_V Γ a (pc + 3) L ((t, v) :: st) h) : z_V Γ a pc L ((2, k) :: st) h := V_get X d f hk (by rw [ej]; exact hv) kk
theorem V_pz {Γ : z_C} {M : z_M} {a : Nat × Nat × Nat} {pc : Nat} {L st : List (Nat × Int)} {h : z_H} {idx ci j t : Nat} {k v : Int} (X : z_Ok Γ M) (d : decode M.2.1 pc = .ok (.putfield idx, 3)) (f : z_F M.1.cls idx ci j t false) (hk : z_kd a.1 k = (0, ci)) (hf : z_Fit (z_ty ci j) t v) (jz : Int) (ej : (j : Int) = jz) (kk : z_V Γ a (pc + 3) L st (z_st h k jz v)) : z_V Γ a pc L ((t, v) :: (2, k) :: st) h := V_put X d f hk hf (by rw [ej]; exact kk)
theorem V_pFz {Γ : z_C} {M : z_M} {a : Nat × Nat × Nat} {pc : Nat} {L st : List (Nat × Int)} {h : z_H} {idx ci j t : Nat} {k v : Int} (X : z_Ok Γ M) (d : decode M.2.1 pc = .ok (.putfield idx, 3)) (f : z_F M.1.cls idx ci j t true) (hin : M.1.name = "<init>") (hdc : ∀ C T, vwCl[ci]? = some (C, T, z_nf ci) → C = M.1.cls) (hk : z_kd a.1 k = (0, ci)) (hf : z_Fit (z_ty ci j) t v) (jz : Int) (ej : (j : Int) = jz) (kk : z_V Γ a (pc + 3) L st (z_st h k jz v)) : z_V Γ a pc L ((t, v) :: (2, k) :: st) h := V_putF X d f hin hdc hk hf (by rw [ej]; exact kk)
/-- a truth value as an int -/
def z_b (b : Bool) : Int := if b then 1 else 0
theorem z_b_rng (b : Bool) : z_R (z_b b) := by cases b <;> exact ⟨by decide, by decide⟩
theorem z_b_01 (b : Bool) : z_b b = 0 ∨ z_b b = 1 := by cases b <;> decide
theorem z_b_0 {b : Bool} : z_b b = 0 ↔ b = false := by cases b <;> decide
theorem z_b_1 {b : Bool} : z_b b = 1 ↔ b = true := by cases b <;> decide
theorem z_b_n0 {b : Bool} : ¬ z_b b = 0 ↔ b = true := by cases b <;> decide
theorem V_bif_eq {Γ : z_C} {M : z_M} {a : Nat × Nat × Nat} {pc : Nat} {L st : List (Nat × Int)} {h : z_H} {b : Bool} {off : Int} (X : z_Ok Γ M) (tgt : Nat) (d : decode M.2.1 pc = .ok (.ifCond .eq off, 3)) (ht : (pc : Int) + off = (tgt : Int)) (kt : b = false → z_V Γ a tgt L st h) (kf : b = true → z_V Γ a (pc + 3) L st h) : z_V Γ a pc L ((0, z_b b) :: st) h := V_if_eq X tgt d ht (z_b_rng b) (fun q => kt (z_b_0.mp q)) (fun q => kf (z_b_n0.mp q))
theorem V_bif_ne {Γ : z_C} {M : z_M} {a : Nat × Nat × Nat} {pc : Nat} {L st : List (Nat × Int)} {h : z_H} {b : Bool} {off : Int} (X : z_Ok Γ M) (tgt : Nat) (d : decode M.2.1 pc = .ok (.ifCond .ne off, 3)) (ht : (pc : Int) + off = (tgt : Int)) (kt : b = true → z_V Γ a tgt L st h) (kf : b = false → z_V Γ a (pc + 3) L st h) : z_V Γ a pc L ((0, z_b b) :: st) h := V_if_ne X tgt d ht (z_b_rng b) (fun q => kt (z_b_n0.mp q)) (fun q => kf (z_b_0.mp q))
theorem V_idivN {Γ : z_C} {M : z_M} {a : Nat × Nat × Nat} {pc : Nat} {L st : List (Nat × Int)} {h : z_H} {x z : Int} (X : z_Ok Γ M) (d : decode M.2.1 pc = .ok (.idiv, 1)) (h1 : 0 ≤ x) (h2 : x < 2147483648) (h3 : 0 < z) (h4 : z < 2147483648) (k : z_V Γ a (pc + 1) L ((0, x / z) :: st) h) : z_V Γ a pc L ((0, z) :: (0, x) :: st) h := V_idiv X d ⟨by omega, h2⟩ ⟨by omega, h4⟩ (by omega) (by omega) (by rw [Int.tdiv_eq_ediv_of_nonneg h1]; exact k)
theorem V_iremN {Γ : z_C} {M : z_M} {a : Nat × Nat × Nat} {pc : Nat} {L st : List (Nat × Int)} {h : z_H} {x z : Int} (X : z_Ok Γ M) (d : decode M.2.1 pc = .ok (.irem, 1)) (h1 : 0 ≤ x) (h2 : x < 2147483648) (h3 : 0 < z) (h4 : z < 2147483648) (k : z_V Γ a (pc + 1) L ((0, x % z) :: st) h) : z_V Γ a pc L ((0, z) :: (0, x) :: st) h := V_irem X d ⟨by omega, h2⟩ ⟨by omega, h4⟩ (by omega) (by omega) (by rw [Int.tmod_eq_emod_of_nonneg h1]; exact k)
/-- the bit of a set, as the machine tests it -/
theorem z_bitb {x i : Int} (hx : 0 ≤ x) (hx2 : x < 2147483648) (hi : 0 ≤ i) (hi2 : i < 31) : z_and (z_shr x i) 1 = z_b (tb x i) := z_bit hx hx2 hi hi2
/-- how many of the first n -/
def z_ct (p : Nat → Bool) : Nat → Nat
  | 0 => 0
  | n + 1 => z_ct p n + if p n then 1 else 0
def z_pop (x : Int) : Int := ((z_ct x.toNat.testBit 31 : Nat) : Int)
/-- the first of the first n, or -9 -/
def z_find (P : Int → Bool) : Nat → Int
  | 0 => -9
  | n + 1 => if z_find P n = -9 then (if P (n : Int) then (n : Int) else -9) else z_find P n
theorem z_find_none {P : Int → Bool} : ∀ {n : Nat}, (∀ k : Int, 0 ≤ k → k < n → P k = false) → z_find P n = -9
  | 0, _ => rfl
  | n + 1, h => by
    have e : z_find P n = -9 := z_find_none (fun k h1 h2 => h k h1 (by omega))
    unfold z_find
    rw [if_pos e, h (n : Int) (by omega) (by omega)]
    rfl
theorem z_find_some {P : Int → Bool} {i : Int} (h0 : 0 ≤ i) (hi : P i = true) (hk : ∀ k : Int, 0 ≤ k → k < i → P k = false) : ∀ {n : Nat}, i < n → z_find P n = i
  | 0, h => by omega
  | n + 1, h => by
    unfold z_find
    by_cases e : i < n
    · rw [z_find_some h0 hi hk e, if_neg (by omega)]
    · have e2 : i = n := by omega
      rw [z_find_none (fun k h1 h2 => hk k h1 (by omega)), if_pos rfl, ← e2, if_pos hi]
theorem z_find_spec (P : Int → Bool) (n : Nat) : (z_find P n = -9 ∧ ∀ k : Int, 0 ≤ k → k < n → P k = false) ∨ (0 ≤ z_find P n ∧ z_find P n < n ∧ P (z_find P n) = true ∧ ∀ k : Int, 0 ≤ k → k < z_find P n → P k = false) := by
  induction n with
  | zero => exact Or.inl ⟨rfl, fun k h1 h2 => by omega⟩
  | succ n ih =>
    unfold z_find
    rcases ih with ⟨h1, h2⟩ | ⟨h1, h2, h3, h4⟩
    · rw [if_pos h1]
      cases hp : P (n : Int) with
      | false =>
        refine Or.inl ⟨rfl, fun k h3 h4 => ?_⟩
        by_cases e : k = n
        · rw [e]; exact hp
        · exact h2 k h3 (by omega)
      | true => exact Or.inr ⟨by simp, by simp; omega, hp, fun k h3 h4 => h2 k h3 (by simpa using h4)⟩
    · rw [if_neg (by omega)]
      exact Or.inr ⟨h1, by omega, h3, h4⟩
/-! calls, the stack told behind the contract -/
theorem V_CV {Γ : z_C} {M : z_M} {a : Nat × Nat × Nat} {pc : Nat} {L st S : List (Nat × Int)} {h : z_H} {N : z_M} {na : Nat} {as : List (Nat × Int)} {idx : Nat} {k : Int} {ci : Nat} {P : Option (Nat × Int) → z_H → Prop} (X : z_Ok Γ M) (d : decode M.2.1 pc = .ok (.invokevirtual idx, 3)) (hM : z_MOk N na) (hl : Cond.methodLink M.1.cls idx N.1 ∈ z_gw) (hi : Cond.instanceMethod N.1 ∈ z_gw) (hs : Cond.selects N.1.cls N.1 N.1 ∈ z_gw) (hR : N.2.2.2.2.1 + 1 ≤ M.2.2.2.2.1 ∧ 8 + (N.2.2.1 + 11) + N.2.2.2.2.2.1 ≤ M.2.2.2.2.2.1) (hz : N.2.2.2.2.2.2.1 = 0 ∧ N.2.2.2.2.2.2.2 = 0) (hcs : a.2.1 ≤ M.2.2.2.2.2.2.1 ∧ a.2.2 ≤ M.2.2.2.2.2.2.2) (hC : z_Ct N a.1 ((2, k) :: as) h P) (hst : S = as.reverse ++ (2, k) :: st) (hk : z_kd a.1 k = (0, ci)) (hci : ∀ q, vwCl[ci]? = some q → q.1 = N.1.cls) (hcv : (vwCl[ci]?).isSome = true) (hn : as.length = na) (hw : z_wd st ≤ 8) (kk : ∀ r h', P r h' → z_V Γ a (pc + 3) L (r.toList ++ st) h') : z_V Γ a pc L S h := by
  subst hst
  exact V_cV X d hM hl hi hs hR hz hcs hk hci hcv hn hw hC kk
theorem V_CS {Γ : z_C} {M : z_M} {a : Nat × Nat × Nat} {pc : Nat} {L st S : List (Nat × Int)} {h : z_H} {N : z_M} {na : Nat} {as : List (Nat × Int)} {idx : Nat} {P : Option (Nat × Int) → z_H → Prop} (X : z_Ok Γ M) (d : decode M.2.1 pc = .ok (.invokestatic idx, 3)) (hM : z_MOk N na) (hl : Cond.methodLink M.1.cls idx N.1 ∈ z_gw) (hs : Cond.static N.1 ∈ z_gw) (hR : N.2.2.2.2.1 + 1 ≤ M.2.2.2.2.1 ∧ 8 + (N.2.2.1 + 11) + N.2.2.2.2.2.1 ≤ M.2.2.2.2.2.1) (hz : N.2.2.2.2.2.2.1 = 0 ∧ N.2.2.2.2.2.2.2 = 0) (hcs : a.2.1 ≤ M.2.2.2.2.2.2.1 ∧ a.2.2 ≤ M.2.2.2.2.2.2.2) (hC : z_Ct N a.1 as h P) (hst : S = as.reverse ++ st) (hn : as.length = na) (hw : z_wd st ≤ 8) (kk : ∀ r h', P r h' → z_V Γ a (pc + 3) L (r.toList ++ st) h') : z_V Γ a pc L S h := by
  subst hst
  exact V_cS X d hM hl hs hR hz hcs hn hw hC kk
theorem V_FV {Γ : z_C} {M : z_M} {a : Nat × Nat × Nat} {pc : Nat} {L st S : List (Nat × Int)} {h : z_H} {N : z_M} {na : Nat} {as : List (Nat × Int)} {idx : Nat} {k : Int} {ci : Nat} {v : Nat × Int} (X : z_Ok Γ M) (d : decode M.2.1 pc = .ok (.invokevirtual idx, 3)) (hM : z_MOk N na) (hl : Cond.methodLink M.1.cls idx N.1 ∈ z_gw) (hi : Cond.instanceMethod N.1 ∈ z_gw) (hs : Cond.selects N.1.cls N.1 N.1 ∈ z_gw) (hR : N.2.2.2.2.1 + 1 ≤ M.2.2.2.2.1 ∧ 8 + (N.2.2.1 + 11) + N.2.2.2.2.2.1 ≤ M.2.2.2.2.2.1) (hz : N.2.2.2.2.2.2.1 = 0 ∧ N.2.2.2.2.2.2.2 = 0) (hcs : a.2.1 ≤ M.2.2.2.2.2.2.1 ∧ a.2.2 ≤ M.2.2.2.2.2.2.2) (hC : z_Ct N a.1 ((2, k) :: as) h (z_pure v h)) (hst : S = as.reverse ++ (2, k) :: st) (hk : z_kd a.1 k = (0, ci)) (hci : ∀ q, vwCl[ci]? = some q → q.1 = N.1.cls) (hcv : (vwCl[ci]?).isSome = true) (hn : as.length = na) (hw : z_wd st ≤ 8) (kk : z_V Γ a (pc + 3) L (v :: st) h) : z_V Γ a pc L S h := by
  subst hst
  exact V_fV X d hM hl hi hs hR hz hcs hk hci hcv hn hw hC kk
theorem V_FS {Γ : z_C} {M : z_M} {a : Nat × Nat × Nat} {pc : Nat} {L st S : List (Nat × Int)} {h : z_H} {N : z_M} {na : Nat} {as : List (Nat × Int)} {idx : Nat} {v : Nat × Int} (X : z_Ok Γ M) (d : decode M.2.1 pc = .ok (.invokestatic idx, 3)) (hM : z_MOk N na) (hl : Cond.methodLink M.1.cls idx N.1 ∈ z_gw) (hs : Cond.static N.1 ∈ z_gw) (hR : N.2.2.2.2.1 + 1 ≤ M.2.2.2.2.1 ∧ 8 + (N.2.2.1 + 11) + N.2.2.2.2.2.1 ≤ M.2.2.2.2.2.1) (hz : N.2.2.2.2.2.2.1 = 0 ∧ N.2.2.2.2.2.2.2 = 0) (hcs : a.2.1 ≤ M.2.2.2.2.2.2.1 ∧ a.2.2 ≤ M.2.2.2.2.2.2.2) (hC : z_Ct N a.1 as h (z_pure v h)) (hst : S = as.reverse ++ st) (hn : as.length = na) (hw : z_wd st ≤ 8) (kk : z_V Γ a (pc + 3) L (v :: st) h) : z_V Γ a pc L S h := by
  subst hst
  exact V_fS X d hM hl hs hR hz hcs hn hw hC kk
theorem V_CI {Γ : z_C} {M : z_M} {a : Nat × Nat × Nat} {pc : Nat} {L st S : List (Nat × Int)} {h : z_H} {N : z_M} {na : Nat} {as : List (Nat × Int)} {idx : Nat} {k : Int} {P : Option (Nat × Int) → z_H → Prop} (X : z_Ok Γ M) (d : decode M.2.1 pc = .ok (.invokespecial idx, 3)) (hM : z_MOk N na) (hl : Cond.methodLink M.1.cls idx N.1 ∈ z_gw) (hi : Cond.instanceMethod N.1 ∈ z_gw) (hin : N.1.name = "<init>") (hrn : N.2.2.2.1 = none) (hR : N.2.2.2.2.1 + 1 ≤ M.2.2.2.2.1 ∧ 8 + (N.2.2.1 + 11) + N.2.2.2.2.2.1 ≤ M.2.2.2.2.2.1) (hcs : a.2.1 + N.2.2.2.2.2.2.1 ≤ M.2.2.2.2.2.2.1 ∧ a.2.2 + N.2.2.2.2.2.2.2 ≤ M.2.2.2.2.2.2.2) (hC : z_Ct N a.1 ((2, k) :: as) h P) (hst : S = as.reverse ++ (2, k) :: st) (hk0 : 0 ≤ k) (hn : as.length = na) (hw : z_wd st ≤ 8) (kk : ∀ r h', P r h' → z_V Γ (a.1 + N.2.2.2.2.2.2.1, a.2.1 + N.2.2.2.2.2.2.1, a.2.2 + N.2.2.2.2.2.2.2) (pc + 3) L (r.toList ++ st) h') : z_V Γ a pc L S h := by
  subst hst
  exact V_callI X d hM hl hi hin hrn hR hcs hk0 hn hw hC kk
theorem V_CN {Γ : z_C} {M : z_M} {a : Nat × Nat × Nat} {pc : Nat} {L st S : List (Nat × Int)} {h : z_H} {N : z_M} {na : Nat} {as : List (Nat × Int)} {idx : Nat} {k : Int} {P : Option (Nat × Int) → z_H → Prop} (X : z_Ok Γ M) (d : decode M.2.1 pc = .ok (.invokespecial idx, 3)) (hM : z_MOk N na) (hl : Cond.methodLinkNest M.1.cls idx N.1 RX9 ∈ z_nest) (hi : Cond.instanceMethod N.1 ∈ z_gw) (hin : N.1.name = "<init>") (hrn : N.2.2.2.1 = none) (hR : N.2.2.2.2.1 + 1 ≤ M.2.2.2.2.1 ∧ 8 + (N.2.2.1 + 11) + N.2.2.2.2.2.1 ≤ M.2.2.2.2.2.1) (hcs : a.2.1 + N.2.2.2.2.2.2.1 ≤ M.2.2.2.2.2.2.1 ∧ a.2.2 + N.2.2.2.2.2.2.2 ≤ M.2.2.2.2.2.2.2) (hC : z_Ct N a.1 ((2, k) :: as) h P) (hst : S = as.reverse ++ (2, k) :: st) (hk0 : 0 ≤ k) (hn : as.length = na) (hw : z_wd st ≤ 8) (kk : ∀ r h', P r h' → z_V Γ (a.1 + N.2.2.2.2.2.2.1, a.2.1 + N.2.2.2.2.2.2.1, a.2.2 + N.2.2.2.2.2.2.2) (pc + 3) L (r.toList ++ st) h') : z_V Γ a pc L S h := by
  subst hst
  exact V_callN X d hM hl hi hin hrn hR hcs hk0 hn hw hC kk
/-- a place of the locals that is not needed any more -/
theorem V_fgt {Γ : z_C} {a : Nat × Nat × Nat} {pc : Nat} {L st : List (Nat × Int)} {h : z_H} (i : Nat) (k : z_V Γ a pc (L.set i (9, 0)) st h) : z_V Γ a pc L st h := by
  obtain ⟨p, l, e, R, s, m, args, below, meth, c, Q, D, ca, base⟩ := Γ
  obtain ⟨n, cells, slots⟩ := a
  intro H locs ls hW hS hL
  refine k H locs ls hW hS ⟨hL.1, by rw [List.length_set]; exact hL.2.1, hL.2.2.1, fun j q hq h9 => ?_⟩
  by_cases e : i = j
  · subst e
    by_cases hl : i < L.length
    · rw [List.getElem?_set_self hl] at hq
      cases hq
      exact absurd rfl h9
    · rw [List.getElem?_eq_none (by rw [List.length_set]; omega)] at hq
      cases hq
  · rw [List.getElem?_set_ne e] at hq
    exact hL.2.2.2 j q hq h9
/-- f 0 + f 1 + .. -/
def z_sum (f : Int → Int) : Nat → Int
  | 0 => 0
  | n + 1 => z_sum f n + f (n : Int)
theorem z_sum_rng {f : Int → Int} {c : Int} : ∀ {n : Nat}, (∀ k : Int, 0 ≤ k → k < n → 0 ≤ f k ∧ f k ≤ c) → 0 ≤ z_sum f n ∧ z_sum f n ≤ n * c
  | 0, _ => by simp [z_sum]
  | n + 1, h => by
    have h1 := z_sum_rng (n := n) (fun k a b => h k a (by omega))
    have h2 := h (n : Int) (by omega) (by omega)
    show 0 ≤ z_sum f n + f n ∧ z_sum f n + f n ≤ ((n + 1 : Nat) : Int) * c
    have e : ((n + 1 : Nat) : Int) * c = n * c + c := by rw [Int.natCast_add, Int.add_mul]; simp
    omega
/-- the first of the least, below lim: (which, or -9; how little) -/
def z_amin (ok : Int → Bool) (f : Int → Int) (lim : Int) : Nat → Int × Int
  | 0 => (-9, lim)
  | n + 1 => if ok (n : Int) = true ∧ f (n : Int) < (z_amin ok f lim n).2 then ((n : Int), f (n : Int)) else z_amin ok f lim n
/-- the set of those below n, as a number -/
def z_set (P : Nat → Bool) : Nat → Nat
  | 0 => 0
  | n + 1 => z_set P n + if P n then 2 ^ n else 0
theorem z_set_lt (P : Nat → Bool) : ∀ n, z_set P n < 2 ^ n
  | 0 => by simp [z_set]
  | n + 1 => by
    have := z_set_lt P n
    unfold z_set
    rw [Nat.pow_succ]
    split <;> omega
theorem z_set_bit (P : Nat → Bool) (i : Nat) : ∀ n, (z_set P n).testBit i = (decide (i < n) && P i)
  | 0 => by simp [z_set]
  | n + 1 => by
    have ih := z_set_bit P i n
    have hl := z_set_lt P n
    unfold z_set
    by_cases hp : P n = true
    · have e : z_set P n + 2 ^ n = 2 ^ n ||| z_set P n := by
        have := Nat.two_pow_add_eq_or_of_lt hl 1
        rw [Nat.mul_one] at this
        omega
      rw [if_pos hp, e, Nat.testBit_or, Nat.testBit_two_pow, ih]
      by_cases e2 : n = i
      · subst e2
        simp [hp]
      · have : (decide (i < n) : Bool) = decide (i < n + 1) := by
          by_cases h : i < n
          · simp [h, Nat.lt_succ_of_lt h]
          · have : ¬ i < n + 1 := by omega
            simp [h, this]
        rw [this]
        simp [e2]
    · rw [if_neg hp, Nat.add_zero, ih]
      by_cases e : i = n
      · subst e
        simp [Bool.eq_false_iff.mpr hp]
      · have : (decide (i < n) : Bool) = decide (i < n + 1) := by
          by_cases h : i < n
          · simp [h, Nat.lt_succ_of_lt h]
          · have : ¬ i < n + 1 := by omega
            simp [h, this]
        rw [this]
theorem z_set_or {P : Nat → Bool} {n : Nat} (hn : n < 31) (hp : P n = true) : z_or ((z_set P n : Nat) : Int) (z_shl 1 (n : Int)) = ((z_set P (n + 1) : Nat) : Int) := by
  have hl := z_set_lt P n
  have h2 : (2 : Nat) ^ n < 2 ^ 31 := Nat.pow_lt_pow_right (by decide) hn
  rw [show (1 : Int) = ((1 : Nat) : Int) from rfl, z_shl_nat (by omega) (by omega), z_or_nat (by omega) (by omega)]
  congr 1
  have e : z_set P n + 2 ^ n = 2 ^ n ||| z_set P n := by
    have := Nat.two_pow_add_eq_or_of_lt hl 1
    rw [Nat.mul_one] at this
    omega
  show z_set P n ||| 1 * 2 ^ n = z_set P n + if P n = true then 2 ^ n else 0
  rw [if_pos hp, Nat.one_mul, e, Nat.or_comm]
theorem z_set_no {P : Nat → Bool} {n : Nat} (hp : P n = false) : z_set P (n + 1) = z_set P n := by
  show z_set P n + (if P n = true then 2 ^ n else 0) = _
  rw [hp]
  rfl
theorem z_amin_yes {ok : Int → Bool} {f : Int → Int} {lim : Int} {n : Nat} (h1 : ok (n : Int) = true) (h2 : f (n : Int) < (z_amin ok f lim n).2) : z_amin ok f lim (n + 1) = ((n : Int), f (n : Int)) := if_pos ⟨h1, h2⟩
theorem z_amin_no {ok : Int → Bool} {f : Int → Int} {lim : Int} {n : Nat} (h : ok (n : Int) = false ∨ (z_amin ok f lim n).2 ≤ f (n : Int)) : z_amin ok f lim (n + 1) = z_amin ok f lim n := if_neg (fun q => by
  rcases h with h | h
  · rw [h] at q; exact absurd q.1 (by decide)
  · have := q.2; omega)
