/-! CLASS AND REFERENCE: hail -/
theorem z_or_7N : ∀ x : Nat, x < 8 → z_or 7 (x : Int) = 7 ∧ z_or (x : Int) 7 = 7 := by decide +kernel
theorem z_or_7l {x : Int} (h0 : 0 ≤ x) (h1 : x < 8) : z_or 7 x = 7 := by
  obtain ⟨a, rfl⟩ := Int.eq_ofNat_of_zero_le h0
  exact (z_or_7N a (by omega)).1
theorem z_or_7r {x : Int} (h0 : 0 ≤ x) (h1 : x < 8) : z_or x 7 = 7 := by
  obtain ⟨a, rfl⟩ := Int.eq_ofNat_of_zero_le h0
  exact (z_or_7N a (by omega)).2
theorem g_waysN : ∀ a : Nat, a ≤ 10 → (0 : Int) + (10 - (a : Int)) * (10 - (a : Int)) + (a : Int) * (10 - (a : Int)) + (10 - (a : Int)) * (a : Int) + (a : Int) * (a : Int) = 100 ∧ (0 : Int) + 0 + (a : Int) * (10 - (a : Int)) + 0 + (a : Int) * (a : Int) = 100 - 10 * (10 - (a : Int)) ∧ (0 : Int) + 0 + 0 + (10 - (a : Int)) * (a : Int) + (a : Int) * (a : Int) = 100 - 100 * (10 - (a : Int)) / 10 ∧ (0 : Int) + 0 + (a : Int) * (10 - (a : Int)) + (10 - (a : Int)) * (a : Int) + (a : Int) * (a : Int) = 100 - 10 * (10 - (a : Int)) * (10 - (a : Int)) / 10 := by decide
theorem g_ab {h : z_H} {pl mo : Int} (hr : r_Pl h) (hp : g_Pl h pl) (hm : g_Mo h mo (h 92)) {x y k a : Int} (g : c_tile x y = true) (a0 : 0 ≤ a) (a1 : a ≤ 10) : c_clr100 h pl mo (7 * x + y) k a = r_ab h x y k a 4 := by
  have ht := g_tile g
  have hT := hm.2.2.2.2.1
  have p1 := r_pn_rng hr (T := h 92) (x := x) (y := y) (k := k) (tn := false)
  have p2 := r_pn_rng hr (T := h 92) (x := x) (y := y) (k := k) (tn := true)
  have l1 := r_ln_rng hr (T := h 92) (x := x) (y := y) (k := k) (tn := false)
  have l2 := r_ln_rng hr (T := h 92) (x := x) (y := y) (k := k) (tn := true)
  have hw := g_waysN a.toNat (by omega)
  rw [Int.toNat_of_nonneg a0] at hw
  have hF : ∀ s, r_abF h x y k a s = if z_or (if tb s 0 = true ∧ ¬ r_pn h (h 92) x y k false = -9 then 7 else r_ln h (h 92) (r_pn h (h 92) x y k false)) (if tb s 1 = true ∧ ¬ r_pn h (h 92) x y k true = -9 then 7 else r_ln h (h 92) (r_pn h (h 92) x y k true)) = 7 then r_way a s else 0 := fun s => by
    unfold r_abF
    rw [g_abT hr hT]
  have w0 : r_way a 0 = (10 - a) * (10 - a) := rfl
  have w1 : r_way a 1 = a * (10 - a) := rfl
  have w2 : r_way a 2 = (10 - a) * a := rfl
  have w3 : r_way a 3 = a * a := rfl
  have f0 := hF 0
  have f1 := hF 1
  have f2 := hF 2
  have f3 := hF 3
  rw [show tb 0 0 = false from rfl, show tb 0 1 = false from rfl, w0] at f0
  rw [show tb 1 0 = true from rfl, show tb 1 1 = false from rfl, w1] at f1
  rw [show tb 2 0 = false from rfl, show tb 2 1 = true from rfl, w2] at f2
  rw [show tb 3 0 = true from rfl, show tb 3 1 = true from rfl, w3] at f3
  have hs : r_ab h x y k a 4 = 0 + r_abF h x y k a 0 + r_abF h x y k a 1 + r_abF h x y k a 2 + r_abF h x y k a 3 := rfl
  unfold c_clr100
  rw [hs, g_light hr hp hm, g_own hp hm, g_mir hp hm, ht.1, ht.2]
  unfold r_on g_p
  generalize r_ln h (h 92) (r_pn h (h 92) x y k false) = u at *
  generalize r_ln h (h 92) (r_pn h (h 92) x y k true) = v at *
  generalize r_pn h (h 92) x y k false = o at *
  generalize r_pn h (h 92) x y k true = t at *
  have ff : ¬ (false = true) := by decide
  rw [if_neg (c := false = true ∧ ¬ o = -9) (fun q => ff q.1), if_neg (c := false = true ∧ ¬ t = -9) (fun q => ff q.1)] at f0
  rw [if_neg (c := false = true ∧ ¬ t = -9) (fun q => ff q.1)] at f1
  rw [if_neg (c := false = true ∧ ¬ o = -9) (fun q => ff q.1)] at f2
  by_cases ho : o = -9
  · rw [if_neg (c := true = true ∧ ¬ o = -9) (fun q => q.2 ho)] at f1 f3
    by_cases hz : t = -9
    · rw [if_neg (c := true = true ∧ ¬ t = -9) (fun q => q.2 hz)] at f2 f3
      by_cases h7 : z_or u v = 7
      · rw [if_pos h7] at f0 f1 f2 f3 ⊢
        rw [f0, f1, f2, f3]; exact hw.1.symm
      · rw [if_neg h7] at f0 f1 f2 f3 ⊢
        rw [f0, f1, f2, f3, if_pos ho, if_pos hz, if_pos rfl, if_pos rfl]; rfl
    · rw [if_pos (c := true = true ∧ ¬ t = -9) ⟨rfl, hz⟩, if_pos (z_or_7r l1.1 l1.2)] at f2 f3
      by_cases h7 : z_or u v = 7
      · rw [if_pos h7] at f0 f1 ⊢
        rw [f0, f1, f2, f3]; exact hw.1.symm
      · rw [if_neg h7] at f0 f1 ⊢
        rw [f0, f1, f2, f3, if_pos ho, if_neg hz, if_neg (show ¬ t = -1 by omega), if_pos rfl]; exact hw.2.2.1.symm
  · rw [if_pos (c := true = true ∧ ¬ o = -9) ⟨rfl, ho⟩] at f1 f3
    rw [if_pos (z_or_7l l2.1 l2.2)] at f1
    by_cases hz : t = -9
    · rw [if_neg (c := true = true ∧ ¬ t = -9) (fun q => q.2 hz)] at f2 f3
      rw [if_pos (z_or_7l l2.1 l2.2)] at f3
      by_cases h7 : z_or u v = 7
      · rw [if_pos h7] at f0 f2 ⊢
        rw [f0, f1, f2, f3]; exact hw.1.symm
      · rw [if_neg h7] at f0 f2 ⊢
        rw [f0, f1, f2, f3, if_neg ho, if_pos hz, if_pos rfl, if_neg (show ¬ o = -1 by omega)]; exact hw.2.1.symm
    · rw [if_pos (c := true = true ∧ ¬ t = -9) ⟨rfl, hz⟩] at f2 f3
      rw [if_pos (z_or_7r l1.1 l1.2)] at f2
      rw [if_pos (z_or_7l (by decide) (by decide))] at f3
      by_cases h7 : z_or u v = 7
      · rw [if_pos h7] at f0 ⊢
        rw [f0, f1, f2, f3]; exact hw.1.symm
      · rw [if_neg h7] at f0 ⊢
        rw [f0, f1, f2, f3, if_neg ho, if_neg hz, if_neg (show ¬ t = -1 by omega), if_neg (show ¬ o = -1 by omega)]; exact hw.2.2.2.symm
