/-! CLASS AND REFERENCE: the divisor -/
theorem g_gd {u g : Int} (h0 : 0 ≤ u) (hg : c_gd u g) : g = r_gc u := by
  obtain ⟨g1, g2, ⟨d1, d2⟩, hm⟩ := hg
  have hr := r_gc_rng u
  obtain ⟨a, rfl⟩ := Int.eq_ofNat_of_zero_le h0
  obtain ⟨n, rfl⟩ := Int.eq_ofNat_of_zero_le (show 0 ≤ g by omega)
  have e1 : 100 % n = 0 := by
    have : ((100 % n : Nat) : Int) = 0 := by rw [Int.natCast_emod]; exact d1
    omega
  have e2 : a % n = 0 := by
    have : ((a % n : Nat) : Int) = 0 := by rw [Int.natCast_emod]; exact d2
    omega
  have hle : n ≤ Nat.gcd a 100 := Nat.le_of_dvd (Nat.gcd_pos_of_pos_right _ (by decide)) (Nat.dvd_gcd (Nat.dvd_of_mod_eq_zero e2) (Nat.dvd_of_mod_eq_zero e1))
  have hG : r_gc (a : Int) = ((Nat.gcd a 100 : Nat) : Int) := by
    unfold r_gc
    rw [Int.toNat_natCast]
  rw [hG] at hr ⊢
  by_cases e : n = Nat.gcd a 100
  · rw [← e]
  · exfalso
    refine hm ((Nat.gcd a 100 : Nat) : Int) (by omega) hr.2 ⟨?_, ?_⟩
    · have := Nat.mod_eq_zero_of_dvd (Nat.gcd_dvd_right a 100)
      rw [show (100 : Int) = ((100 : Nat) : Int) from rfl, ← Int.natCast_emod, this]
      rfl
    · have := Nat.mod_eq_zero_of_dvd (Nat.gcd_dvd_left a 100)
      rw [← Int.natCast_emod, this]
      rfl
