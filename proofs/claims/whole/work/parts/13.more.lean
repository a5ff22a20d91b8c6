/-! THE CALCULUS, 7: calls that make nothing; Math -/
/-- a callee that answers v and leaves all as it is -/
def z_pure (v : Nat × Int) (h : z_H) : Option (Nat × Int) → z_H → Prop := fun r h' => r = some v ∧ h' = h
theorem z_pi {x v : Int} {h : z_H} (e : x = v) : z_pure (0, v) h (some (0, x)) h := ⟨by rw [e], rfl⟩
/-- a callee that answers nothing and leaves h2 -/
def z_void (h2 : z_H) : Option (Nat × Int) → z_H → Prop := fun r h' => r = none ∧ h' = h2
/-- a callee that answers v and leaves h2 -/
def z_ans (v : Nat × Int) (h2 : z_H) : Option (Nat × Int) → z_H → Prop := fun r h' => r = some v ∧ h' = h2
theorem V_cV {Γ : z_C} {M : z_M} {a : Nat × Nat × Nat} {pc : Nat} {L st : List (Nat × Int)} {h : z_H} {N : z_M} {na : Nat} {as : List (Nat × Int)} {idx : Nat} {k : Int} {ci : Nat} {P : Option (Nat × Int) → z_H → Prop} (X : z_Ok Γ M) (d : decode M.2.1 pc = .ok (.invokevirtual idx, 3)) (hM : z_MOk N na) (hl : Cond.methodLink M.1.cls idx N.1 ∈ z_gw) (hi : Cond.instanceMethod N.1 ∈ z_gw) (hs : Cond.selects N.1.cls N.1 N.1 ∈ z_gw) (hR : N.2.2.2.2.1 + 1 ≤ M.2.2.2.2.1 ∧ 8 + (N.2.2.1 + 11) + N.2.2.2.2.2.1 ≤ M.2.2.2.2.2.1) (hz : N.2.2.2.2.2.2.1 = 0 ∧ N.2.2.2.2.2.2.2 = 0) (hcs : a.2.1 ≤ M.2.2.2.2.2.2.1 ∧ a.2.2 ≤ M.2.2.2.2.2.2.2) (hk : z_kd a.1 k = (0, ci)) (hci : ∀ q, vwCl[ci]? = some q → q.1 = N.1.cls) (hcv : (vwCl[ci]?).isSome = true) (hn : as.length = na) (hw : z_wd st ≤ 8) (hC : z_Ct N a.1 ((2, k) :: as) h P) (kk : ∀ r h', P r h' → z_V Γ a (pc + 3) L (r.toList ++ st) h') : z_V Γ a pc L (as.reverse ++ (2, k) :: st) h := by
  obtain ⟨n, cells, slots⟩ := a
  obtain ⟨y', cc', nL', ret', fr', lo', rc', rs'⟩ := N
  obtain ⟨hz1, hz2⟩ := hz
  have hz1 : rc' = 0 := hz1
  have hz2 : rs' = 0 := hz2
  subst hz1
  subst hz2
  exact V_callV X d hM hl hi hs hR hcs hk hci hcv hn hw hC kk
theorem V_cS {Γ : z_C} {M : z_M} {a : Nat × Nat × Nat} {pc : Nat} {L st : List (Nat × Int)} {h : z_H} {N : z_M} {na : Nat} {as : List (Nat × Int)} {idx : Nat} {P : Option (Nat × Int) → z_H → Prop} (X : z_Ok Γ M) (d : decode M.2.1 pc = .ok (.invokestatic idx, 3)) (hM : z_MOk N na) (hl : Cond.methodLink M.1.cls idx N.1 ∈ z_gw) (hs : Cond.static N.1 ∈ z_gw) (hR : N.2.2.2.2.1 + 1 ≤ M.2.2.2.2.1 ∧ 8 + (N.2.2.1 + 11) + N.2.2.2.2.2.1 ≤ M.2.2.2.2.2.1) (hz : N.2.2.2.2.2.2.1 = 0 ∧ N.2.2.2.2.2.2.2 = 0) (hcs : a.2.1 ≤ M.2.2.2.2.2.2.1 ∧ a.2.2 ≤ M.2.2.2.2.2.2.2) (hn : as.length = na) (hw : z_wd st ≤ 8) (hC : z_Ct N a.1 as h P) (kk : ∀ r h', P r h' → z_V Γ a (pc + 3) L (r.toList ++ st) h') : z_V Γ a pc L (as.reverse ++ st) h := by
  obtain ⟨n, cells, slots⟩ := a
  obtain ⟨y', cc', nL', ret', fr', lo', rc', rs'⟩ := N
  obtain ⟨hz1, hz2⟩ := hz
  have hz1 : rc' = 0 := hz1
  have hz2 : rs' = 0 := hz2
  subst hz1
  subst hz2
  exact V_callS X d hM hl hs hR hcs hn hw hC kk
theorem V_fV {Γ : z_C} {M : z_M} {a : Nat × Nat × Nat} {pc : Nat} {L st : List (Nat × Int)} {h : z_H} {N : z_M} {na : Nat} {as : List (Nat × Int)} {idx : Nat} {k : Int} {ci : Nat} {v : Nat × Int} (X : z_Ok Γ M) (d : decode M.2.1 pc = .ok (.invokevirtual idx, 3)) (hM : z_MOk N na) (hl : Cond.methodLink M.1.cls idx N.1 ∈ z_gw) (hi : Cond.instanceMethod N.1 ∈ z_gw) (hs : Cond.selects N.1.cls N.1 N.1 ∈ z_gw) (hR : N.2.2.2.2.1 + 1 ≤ M.2.2.2.2.1 ∧ 8 + (N.2.2.1 + 11) + N.2.2.2.2.2.1 ≤ M.2.2.2.2.2.1) (hz : N.2.2.2.2.2.2.1 = 0 ∧ N.2.2.2.2.2.2.2 = 0) (hcs : a.2.1 ≤ M.2.2.2.2.2.2.1 ∧ a.2.2 ≤ M.2.2.2.2.2.2.2) (hk : z_kd a.1 k = (0, ci)) (hci : ∀ q, vwCl[ci]? = some q → q.1 = N.1.cls) (hcv : (vwCl[ci]?).isSome = true) (hn : as.length = na) (hw : z_wd st ≤ 8) (hC : z_Ct N a.1 ((2, k) :: as) h (z_pure v h)) (kk : z_V Γ a (pc + 3) L (v :: st) h) : z_V Γ a pc L (as.reverse ++ (2, k) :: st) h := by
  refine V_cV X d hM hl hi hs hR hz hcs hk hci hcv hn hw hC (fun r h' hp => ?_)
  obtain ⟨rfl, rfl⟩ := hp
  exact kk
theorem V_fS {Γ : z_C} {M : z_M} {a : Nat × Nat × Nat} {pc : Nat} {L st : List (Nat × Int)} {h : z_H} {N : z_M} {na : Nat} {as : List (Nat × Int)} {idx : Nat} {v : Nat × Int} (X : z_Ok Γ M) (d : decode M.2.1 pc = .ok (.invokestatic idx, 3)) (hM : z_MOk N na) (hl : Cond.methodLink M.1.cls idx N.1 ∈ z_gw) (hs : Cond.static N.1 ∈ z_gw) (hR : N.2.2.2.2.1 + 1 ≤ M.2.2.2.2.1 ∧ 8 + (N.2.2.1 + 11) + N.2.2.2.2.2.1 ≤ M.2.2.2.2.2.1) (hz : N.2.2.2.2.2.2.1 = 0 ∧ N.2.2.2.2.2.2.2 = 0) (hcs : a.2.1 ≤ M.2.2.2.2.2.2.1 ∧ a.2.2 ≤ M.2.2.2.2.2.2.2) (hn : as.length = na) (hw : z_wd st ≤ 8) (hC : z_Ct N a.1 as h (z_pure v h)) (kk : z_V Γ a (pc + 3) L (v :: st) h) : z_V Γ a pc L (as.reverse ++ st) h := by
  refine V_cS X d hM hl hs hR hz hcs hn hw hC (fun r h' hp => ?_)
  obtain ⟨rfl, rfl⟩ := hp
  exact kk
theorem c_mmax : Cond.code Lib.Math.max.name Lib.Math.max.code 2 (some .int) ∈ z_gw := z_mem 466 (by decide +kernel) (by decide +kernel)
theorem s_mmax : Cond.static Lib.Math.max.name ∈ z_gw := z_mem 465 (by decide +kernel) (by decide +kernel)
theorem V_mmax {Γ : z_C} {M : z_M} {a : Nat × Nat × Nat} {pc : Nat} {L st : List (Nat × Int)} {h : z_H} {idx : Nat} {x z : Int} (X : z_Ok Γ M) (d : decode M.2.1 pc = .ok (.invokestatic idx, 3)) (hl : Cond.methodLink M.1.cls idx Lib.Math.max.name ∈ z_gw) (hR : 1 ≤ M.2.2.2.2.1 ∧ z_wd st + 13 ≤ M.2.2.2.2.2.1) (hcs : a.2.1 ≤ M.2.2.2.2.2.2.1 ∧ a.2.2 ≤ M.2.2.2.2.2.2.2) (h1 : z_R x) (h2 : z_R z) (kk : z_V Γ a (pc + 3) L ((0, if x < z then z else x) :: st) h) : z_V Γ a pc L ((0, z) :: (0, x) :: st) h := by
  obtain ⟨p, l, e, R, s, m, args, below, meth, c, Q, D, ca, base⟩ := Γ
  obtain ⟨y, cc, nL, ret, fr, lo, rc, rs⟩ := M
  obtain ⟨n, cells, slots⟩ := a
  obtain ⟨hx, hb, hml, hown, hts, hlk, hrt, hfr, hlo, hrc, hrs, hK, hbs, hnm⟩ := X
  intro H locs ls hW hS hL
  have g := kk H locs ls hW hS hL
  refine va_mmax hx hb hL.1.symm hown (hts _ hl) (hts _ s_mmax) (hts _ (z_mem 55 (by decide +kernel) (by decide +kernel))) (hts _ c_mmax) (by rw [hfr]; exact hR.1) (by rw [z_wd_eq, hlo]; exact hR.2) (by rw [hrc]; exact hcs.1) (by rw [hrs]; exact hcs.2) d ?_
  by_cases q : x < z
  · rw [if_pos ((z_i_lt h1 h2).mpr q)]
    rw [if_pos q] at g
    exact g
  · rw [if_neg (fun w => q ((z_i_lt h1 h2).mp w))]
    rw [if_neg q] at g
    exact g
theorem c_mmin : Cond.code Lib.Math.min.name Lib.Math.min.code 2 (some .int) ∈ z_gw := z_mem 596 (by decide +kernel) (by decide +kernel)
theorem s_mmin : Cond.static Lib.Math.min.name ∈ z_gw := z_mem 595 (by decide +kernel) (by decide +kernel)
theorem V_mmin {Γ : z_C} {M : z_M} {a : Nat × Nat × Nat} {pc : Nat} {L st : List (Nat × Int)} {h : z_H} {idx : Nat} {x z : Int} (X : z_Ok Γ M) (d : decode M.2.1 pc = .ok (.invokestatic idx, 3)) (hl : Cond.methodLink M.1.cls idx Lib.Math.min.name ∈ z_gw) (hR : 1 ≤ M.2.2.2.2.1 ∧ z_wd st + 13 ≤ M.2.2.2.2.2.1) (hcs : a.2.1 ≤ M.2.2.2.2.2.2.1 ∧ a.2.2 ≤ M.2.2.2.2.2.2.2) (h1 : z_R x) (h2 : z_R z) (kk : z_V Γ a (pc + 3) L ((0, if z < x then z else x) :: st) h) : z_V Γ a pc L ((0, z) :: (0, x) :: st) h := by
  obtain ⟨p, l, e, R, s, m, args, below, meth, c, Q, D, ca, base⟩ := Γ
  obtain ⟨y, cc, nL, ret, fr, lo, rc, rs⟩ := M
  obtain ⟨n, cells, slots⟩ := a
  obtain ⟨hx, hb, hml, hown, hts, hlk, hrt, hfr, hlo, hrc, hrs, hK, hbs, hnm⟩ := X
  intro H locs ls hW hS hL
  have g := kk H locs ls hW hS hL
  refine va_mmin hx hb hL.1.symm hown (hts _ hl) (hts _ s_mmin) (hts _ (z_mem 55 (by decide +kernel) (by decide +kernel))) (hts _ c_mmin) (by rw [hfr]; exact hR.1) (by rw [z_wd_eq, hlo]; exact hR.2) (by rw [hrc]; exact hcs.1) (by rw [hrs]; exact hcs.2) d ?_
  by_cases q : z < x
  · rw [if_pos ((z_i_lt h2 h1).mpr q)]
    rw [if_pos q] at g
    exact g
  · rw [if_neg (fun w => q ((z_i_lt h2 h1).mp w))]
    rw [if_neg q] at g
    exact g
theorem lm_RX0_48 : Cond.methodLink RX0 48 Lib.Math.max.name ∈ z_gw := z_mem 517 (by decide +kernel) (by decide +kernel)
theorem lm_RX5_74 : Cond.methodLink RX5 74 Lib.Math.max.name ∈ z_gw := z_mem 464 (by decide +kernel) (by decide +kernel)
theorem lm_RX7_28 : Cond.methodLink RX7 28 Lib.Math.min.name ∈ z_gw := z_mem 594 (by decide +kernel) (by decide +kernel)
theorem lm_RX8_87 : Cond.methodLink RX8 87 Lib.Math.max.name ∈ z_gw := z_mem 687 (by decide +kernel) (by decide +kernel)
