/-! the JDK's own methods -/
theorem ct_J6_bitCount_0f7a4 {n : Nat} {h : z_H} {x : Int} (h0 : 0 ≤ x) (h1 : x < 2147483648) : z_Ct mJ6_bitCount_0f7a4 n [(0, x)] h (z_pure (0, z_pop x) h) := by
  sorry
