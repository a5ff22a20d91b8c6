/-! new objects, 4: PaneLight -/
def c_n1 (h : z_H) : z_H := z_st (z_st (z_nw (z_nw h 1 (0, 3)) 2 (1, 170)) 1 0 2) 0 0 1
def c_n2 (H : z_H) : z_H := z_st (c_S5 H) 0 1 3
def c_n3 (H : z_H) : z_H := z_st (z_nw (c_n2 H) 31 (0, 0)) 0 2 31
def c_n4 (H : z_H) : z_H := z_st (z_st (z_nw (z_nw (c_n3 H) 32 (0, 6)) 33 (1, 756)) 32 0 33) 0 3 32
def c_n5 (H : z_H) : z_H := z_st (z_st (z_nw (z_st (z_nw (z_nw (c_n4 H) 34 (0, 7)) 35 (1, 6)) 34 0 35) 36 (1, 6)) 34 1 36) 0 4 34
def c_n6 (H : z_H) : z_H := z_st (z_nw (c_n5 H) 37 (4, 2)) 0 5 37
def c_n7 (H : z_H) : z_H := z_st (c_P3 (z_nw (c_n6 H) 38 (0, 2)) 38) 0 6 38
def c_n8 (H : z_H) : z_H := z_st (z_st H 41 2 43) 37 0 41
def c_n9 (H : z_H) : z_H := z_st (z_st H 65 2 67) 37 1 65
theorem c_n3_lo {H : z_H} {q : Int} (h0 : q ≠ 0) (h1 : q < 31) : c_n3 H q = c_S5 H q := by
  unfold c_n3 c_n2
  rw [z_st_cell _ h0, z_nw_ne _ (by omega), z_st_cell _ h0]
theorem c_n4_lo {H : z_H} {q : Int} (h0 : q ≠ 0) (h1 : q < 32) : c_n4 H q = c_n3 H q := by
  unfold c_n4
  rw [z_st_cell _ h0, z_st_cell _ (by omega), z_nw_ne _ (by omega), z_nw_ne _ (by omega)]
theorem c_n5_lo {H : z_H} {q : Int} (h0 : q ≠ 0) (h1 : q < 34) : c_n5 H q = c_n4 H q := by
  unfold c_n5
  rw [z_st_cell _ h0, z_st_cell _ (by omega), z_nw_ne _ (by omega), z_st_cell _ (by omega), z_nw_ne _ (by omega), z_nw_ne _ (by omega)]
theorem c_n6_lo {H : z_H} {q : Int} (h0 : q ≠ 0) (h1 : q < 37) : c_n6 H q = c_n5 H q := by
  unfold c_n6
  rw [z_st_cell _ h0, z_nw_ne _ (by omega)]
theorem c_n7_lo {H : z_H} {q : Int} (h0 : q ≠ 0) (h1 : q < 38) : c_n7 H q = c_n6 H q := by
  unfold c_n7
  rw [z_st_cell _ h0, c_P3_ne (by omega) (by omega) (by omega), z_nw_ne _ (by omega)]
theorem c_n7_S5 {H : z_H} {q : Int} (h0 : q ≠ 0) (h1 : q < 31) : c_n7 H q = c_S5 H q := by
  rw [c_n7_lo h0 (by omega), c_n6_lo h0 (by omega), c_n5_lo h0 (by omega), c_n4_lo h0 (by omega), c_n3_lo h0 h1]
/-- the object's own slots -/
theorem c_n7_0 {H : z_H} {j : Int} (h6 : j ≠ 6) : c_n7 H 0 j = c_n6 H 0 j := by
  unfold c_n7
  rw [z_st_slot _ h6, c_P3_ne (by decide) (by decide) (by decide), z_nw_ne _ (by decide)]
theorem c_n6_0 {H : z_H} {j : Int} (h6 : j ≠ 5) : c_n6 H 0 j = c_n5 H 0 j := by
  unfold c_n6
  rw [z_st_slot _ h6, z_nw_ne _ (by decide)]
theorem c_n5_0 {H : z_H} {j : Int} (h6 : j ≠ 4) : c_n5 H 0 j = c_n4 H 0 j := by
  unfold c_n5
  rw [z_st_slot _ h6, z_st_cell _ (by decide), z_nw_ne _ (by decide), z_st_cell _ (by decide), z_nw_ne _ (by decide), z_nw_ne _ (by decide)]
theorem c_n4_0 {H : z_H} {j : Int} (h6 : j ≠ 3) : c_n4 H 0 j = c_n3 H 0 j := by
  unfold c_n4
  rw [z_st_slot _ h6, z_st_cell _ (by decide), z_nw_ne _ (by decide), z_nw_ne _ (by decide)]
theorem c_n3_0 {H : z_H} {j : Int} (h6 : j ≠ 2) : c_n3 H 0 j = c_n2 H 0 j := by
  unfold c_n3
  rw [z_st_slot _ h6, z_nw_ne _ (by decide)]
theorem c_n7_05 (H : z_H) : c_n7 H 0 5 = 37 := by
  rw [c_n7_0 (by decide)]
  exact z_st_at _ _ _ _
theorem c_n7_01 (H : z_H) : c_n7 H 0 1 = 3 := by
  rw [c_n7_0 (by decide), c_n6_0 (by decide), c_n5_0 (by decide), c_n4_0 (by decide), c_n3_0 (by decide)]
  exact z_st_at _ _ _ _
theorem c_S5_31 (H : z_H) : c_S5 H 3 1 = 28 := z_st_at _ _ _ _
theorem c_S5_30 (H : z_H) : c_S5 H 3 0 = 4 := by
  unfold c_S5
  rw [z_st_slot _ (by decide), c_P3_ne (by decide) (by decide) (by decide), z_nw_ne _ (by decide), z_st_at]
theorem c_S5_ne {H : z_H} {q : Int} (h0 : q ≠ 3) (h1 : q ≠ 4) (h2 : q < 28) : c_S5 H q = H q := by
  unfold c_S5
  rw [z_st_cell _ h0, c_P3_ne (by omega) (by omega) (by omega), z_nw_ne _ (by omega), z_st_cell _ h0, z_st_cell _ h1]
theorem c_S5_40 (H : z_H) : c_S5 H 4 0 = H 4 0 := by
  unfold c_S5
  rw [z_st_cell _ (by decide), c_P3_ne (by decide) (by decide) (by decide), z_nw_ne _ (by decide), z_st_cell _ (by decide), z_st_slot _ (by decide)]
