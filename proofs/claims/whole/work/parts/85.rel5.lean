/-! CLASS AND REFERENCE: lost, mark -/
theorem g_lostN (H m : Int) (h1 : 1 ≤ m) : ∀ n : Nat, z_sum (fun x => if m ≤ x ∧ 2 * m - 1 - x < 0 then H else 0) n = H * (if 0 < (n : Int) - 2 * m then (n : Int) - 2 * m else 0)
  | 0 => by
    rw [if_neg (by omega), Int.mul_zero]
    rfl
  | n + 1 => by
    rw [z_sum, g_lostN H m h1 n]
    by_cases g : 2 * m ≤ (n : Int)
    · rw [if_pos (show m ≤ (n : Int) ∧ 2 * m - 1 - (n : Int) < 0 by omega), if_pos (show 0 < ((n + 1 : Nat) : Int) - 2 * m by omega), show (if 0 < (n : Int) - 2 * m then (n : Int) - 2 * m else 0) = (n : Int) - 2 * m from by split <;> omega, show ((n + 1 : Nat) : Int) - 2 * m = (n : Int) - 2 * m + 1 by omega, Int.mul_add, Int.mul_one]
    · rw [if_neg (show ¬ (m ≤ (n : Int) ∧ 2 * m - 1 - (n : Int) < 0) by omega), if_neg (show ¬ 0 < (n : Int) - 2 * m by omega), if_neg (show ¬ 0 < ((n + 1 : Nat) : Int) - 2 * m by omega), Int.mul_zero]
      rfl
theorem g_lost {h h' : z_H} {pl mo m : Int} (hr : r_Pl h) (h1 : 1 ≤ m) (e2 : h' pl 2 = h 89 0) (e3 : h' pl 3 = h 89 1) (em : h' mo 2 = m) : c_lost h' pl mo = r_lost h m := by
  unfold c_lost r_lost
  rw [e2, e3, em, g_lostN _ m h1, Int.toNat_of_nonneg (by have := hr.1; omega)]
theorem g_markF {h : z_H} {pl mo : Int} (hr : r_Pl h) (hp : g_Pl h pl) (hm : g_Mo h mo (h 92)) {x y : Int} (g : r_isP h x y = true) (w : Int) : c_markF h pl mo w (4 * x + y) = r_markF h w x y := by
  have hb := g_isP hr g
  have hq := of_decide_eq_true g
  have h4 := hr.2.1
  unfold c_markF r_markF
  rw [g_lets hr hp hm hb.1 hb.2, hm.2.2.2.1 _ hb.1 hb.2, hm.2.1, show (4 * x + y) % 4 = y by omega]
  by_cases e3 : w = 3
  · subst e3
    rw [if_neg (by decide), if_neg (by decide), if_neg (by decide), if_pos rfl, if_neg (by decide), if_neg (by decide), if_neg (by decide), if_pos rfl, Int.mul_comm]
  · rw [if_neg e3, if_neg e3]
