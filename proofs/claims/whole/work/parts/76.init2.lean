/-! new objects, 2 -/
def c_P3 (h : z_H) (K : Nat) : z_H := c_rstH (z_st (z_nw (z_st (z_nw h (K + 1) (1, 20)) (K : Int) 0 ((K + 1 : Nat) : Int)) (K + 2) (1, 256)) (K : Int) 1 ((K + 2 : Nat) : Int)) (K : Int)
theorem c_rst_ne {h : z_H} {P q : Int} (h0 : q ≠ P) (h1 : q ≠ P + 1) (h2 : q ≠ P + 2) : c_rstH h P q = h q := by
  unfold c_rstH
  rw [z_st_cell _ h0, z_st_cell _ h0, z_st_cell _ h0, z_st_cell _ h2, z_rw_ne _ _ h1, z_st_cell _ h0, z_st_cell _ h0]
theorem c_P3_ne {h : z_H} {K : Nat} {q : Int} (h0 : q ≠ (K : Int)) (h1 : q ≠ (K : Int) + 1) (h2 : q ≠ (K : Int) + 2) : c_P3 h K q = h q := by
  unfold c_P3
  rw [c_rst_ne h0 h1 h2, z_st_cell _ h0, z_nw_ne _ (by omega), z_st_cell _ h0, z_nw_ne _ (by omega)]
/-- a new scene over a new story -/
def c_S5 (H : z_H) : z_H := z_st (c_P3 (z_nw (z_st (z_st H 4 2 6) 3 0 4) 28 (0, 2)) 28) 3 1 28
