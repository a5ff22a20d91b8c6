/-! CLASS AND REFERENCE: sheets -/
theorem tb_at (h : z_H) (T : Int → Int) (p : Int) {s : Int} (h0 : 0 ≤ s) (h1 : s < h 89 4) : tb ((r_at h T p : Nat) : Int) s = decide (T s = p) := by
  unfold tb r_at
  rw [Int.toNat_natCast, z_set_bit, show decide (s.toNat < (h 89 4).toNat) = true from decide_eq_true (by omega), Bool.true_and, Int.toNat_of_nonneg h0]
theorem g_behind {h : z_H} {mo : Int} {T : Int → Int} (hr : r_Pl h) (hm : g_Mo h mo T) {s : Int} (h0 : 0 ≤ s) (h1 : s < h 89 4) : c_behind h mo s = T s := by
  have hP : ∀ p : Int, 0 ≤ p → p < 20 → tb (h (mo + 1) p) s = decide (T s = p) := fun p a b => by
    rw [hm.2.2.2.1 p a b]
    exact tb_at h T p h0 h1
  have hs8 := hr.2.2.1
  unfold c_behind
  rcases hm.2.2.2.2.1.1 s h0 (by omega) with e | e
  · rw [e]
    refine z_find_none (fun k a b => ?_)
    rw [hP k a (by omega)]
    exact decide_eq_false (by omega)
  · refine z_find_some e.1 ?_ (fun k a b => ?_) (by omega)
    · rw [hP _ e.1 e.2]
      exact decide_eq_true rfl
    · rw [hP k a (by omega)]
      exact decide_eq_false (by omega)
theorem z_and_7 : ∀ x : Nat, x < 8 → z_and 7 (x : Int) = (x : Int) ∧ z_and (x : Int) 7 = (x : Int) := by decide +kernel
theorem z_and_7l {x : Int} (h0 : 0 ≤ x) (h1 : x < 8) : z_and 7 x = x := by
  obtain ⟨a, rfl⟩ := Int.eq_ofNat_of_zero_le h0
  exact (z_and_7 a (by omega)).1
theorem z_and_7r {x : Int} (h0 : 0 ≤ x) (h1 : x < 8) : z_and x 7 = x := by
  obtain ⟨a, rfl⟩ := Int.eq_ofNat_of_zero_le h0
  exact (z_and_7 a (by omega)).2
theorem tb_pow {s : Nat} (i : Nat) : tb ((2 ^ s : Nat) : Int) (i : Int) = decide (s = i) := by
  unfold tb
  rw [Int.toNat_natCast, Int.toNat_natCast, Nat.testBit_two_pow]
theorem r_thr_bit {h : z_H} (hr : r_Pl h) {s : Nat} (hs : s < 8) : ∀ n : Nat, r_thr h ((2 ^ s : Nat) : Int) n = if s < n then h 91 (s : Int) else 7
  | 0 => by rw [if_neg (by omega)]; rfl
  | n + 1 => by
    have hc := hr.2.2.2.2 (s : Int) (by omega) (by omega)
    unfold r_thr
    rw [r_thr_bit hr hs n, tb_pow]
    by_cases e : s = n
    · subst e
      rw [if_neg (by omega), if_pos (decide_eq_true rfl), if_pos (by omega), z_and_7l hc.1 hc.2]
    · rw [if_neg (show ¬ decide (s = n) = true by simpa using e)]
      by_cases g : s < n
      · rw [if_pos g, if_pos (by omega), z_and_7r hc.1 hc.2]
      · rw [if_neg g, if_neg (by omega), z_and_77]
theorem g_sheetF {h : z_H} {pl mo : Int} (hr : r_Pl h) (hp : g_Pl h pl) (hm : g_Mo h mo (h 92)) (s w : Int) : c_sheetF h pl mo s w = r_sheetF h s w := by
  unfold c_sheetF r_sheetF c_isSh r_isS
  rw [hp.2.2.1]
  have hs8 := hr.2.2.1
  by_cases g : 0 ≤ s ∧ s < h 89 4
  · rw [if_neg (by rw [decide_eq_true g]; decide)]
    by_cases e0 : w = 0
    · rw [if_pos e0, if_pos ⟨decide_eq_true g, by omega, by omega⟩, if_pos e0, z_shl1 g.1 (by omega), hp.2.2.2.2 (2 ^ s.toNat) (Nat.pow_lt_pow_right (by decide) (by omega))]
      unfold r_th
      rw [r_thr_bit hr (by omega), if_pos (by omega), Int.toNat_of_nonneg g.1]
    · rw [if_neg e0]
      by_cases e1 : w = 1
      · rw [if_pos e1, if_pos ⟨decide_eq_true g, by omega, by omega⟩, if_neg e0]
        exact g_behind hr hm g.1 g.2
      · rw [if_neg e1, if_neg (fun q => by omega)]
  · rw [if_pos (decide_eq_false g), if_neg (fun q => g (of_decide_eq_true q.1))]
