/-! new objects -/
theorem z_nw_ne (h : z_H) {n : Nat} {kd : Nat × Nat} {q : Int} (e : q ≠ (n : Int)) : z_nw h n kd q = h q := by
  funext r
  unfold z_nw
  rw [if_neg e]
theorem z_nw_is (h : z_H) {n : Nat} {kd : Nat × Nat} {q : Int} (e : q = (n : Int)) : z_nw h n kd q = z_dv kd := by
  rw [e, z_nw_at]
/-- a new story's moments -/
def c_N6 (h H : z_H) (K i : Nat) : Prop := (∀ q : Int, q < K → H q = h q) ∧ H (K : Int) 0 = (K : Int) + 1 ∧ H (K : Int) 1 = h (K : Int) 1 ∧ (∀ j : Int, 0 ≤ j → j < i → H ((K : Int) + 1) j = (K : Int) + 2 + 2 * j) ∧ ∀ j : Int, 0 ≤ j → j < i → H ((K : Int) + 2 + 2 * j) 0 = (K : Int) + 3 + 2 * j ∧ H ((K : Int) + 2 + 2 * j) 1 = 0 ∧ H ((K : Int) + 2 + 2 * j) 2 = 0 ∧ H ((K : Int) + 2 + 2 * j) 3 = 0 ∧ ∀ p, H ((K : Int) + 3 + 2 * j) p = 0
def c_N6s (H : z_H) (K i : Nat) : z_H := z_st (z_st (z_nw (z_nw H (K + 2 + 2 * i) (0, 1)) (K + 2 + 2 * i + 1) (1, 20)) ((K + 2 + 2 * i : Nat) : Int) 0 ((K + 2 + 2 * i + 1 : Nat) : Int)) ((K : Int) + 1) (i : Int) ((K + 2 + 2 * i : Nat) : Int)
theorem c_N6_step {h H : z_H} {K i : Nat} (hh : c_N6 h H K i) : c_N6 h (c_N6s H K i) K (i + 1) := by
  obtain ⟨a, b, c, d, e⟩ := hh
  have old : ∀ q : Int, q < (K : Int) + 2 + 2 * i → q ≠ (K : Int) + 1 → c_N6s H K i q = H q := fun q h1 h2 => by
    unfold c_N6s
    rw [z_st_cell _ h2, z_st_cell _ (by omega), z_nw_ne _ (by omega), z_nw_ne _ (by omega)]
  refine ⟨fun q hq => ?_, ?_, ?_, fun j h0 h1 => ?_, fun j h0 h1 => ?_⟩
  · rw [old q (by omega) (by omega)]; exact a q hq
  · rw [old _ (by omega) (by omega)]; exact b
  · rw [old _ (by omega) (by omega)]; exact c
  · by_cases g : j = (i : Int)
    · subst g
      unfold c_N6s
      rw [z_st_at]
      omega
    · unfold c_N6s
      rw [z_st_slot _ g, z_st_cell _ (by omega), z_nw_ne _ (by omega), z_nw_ne _ (by omega)]
      exact d j h0 (by omega)
  · by_cases g : j = (i : Int)
    · subst g
      unfold c_N6s
      rw [z_st_cell _ (show (K : Int) + 2 + 2 * (i : Int) ≠ (K : Int) + 1 by omega), show (K : Int) + 2 + 2 * (i : Int) = ((K + 2 + 2 * i : Nat) : Int) by omega, z_st_at, z_st_slot _ (by decide), z_st_slot _ (by decide), z_st_slot _ (by decide), z_nw_ne _ (by omega), z_nw_at]
      refine ⟨by omega, rfl, rfl, rfl, fun p => ?_⟩
      rw [z_st_cell _ (by omega), z_st_cell _ (by omega), z_nw_is _ (by omega)]
      rfl
    · rw [old _ (by omega) (by omega), old ((K : Int) + 3 + 2 * j) (by omega) (by omega)]
      exact e j h0 (by omega)
