/-! constructors, 3: the reference -/
def r_n0 (h : z_H) : z_H := z_st (z_st h 89 0 5) 89 1 4
def r_n1 (h : z_H) : z_H := z_st (z_nw (r_n0 h) 90 (1, 20)) 89 2 90
theorem r_n1_s {h : z_H} {i : Int} (e : i ≠ 2) : r_n1 h 89 i = r_n0 h 89 i := by
  unfold r_n1
  rw [z_st_slot _ e, z_nw_ne _ (by decide)]
theorem r_n1_j (h : z_H) : r_n1 h 89 2 = 90 := z_st_at _ _ _ _
theorem r_n1_c {h : z_H} {q : Int} (e1 : q ≠ 89) (e2 : q ≠ 90) : r_n1 h q = r_n0 h q := by
  unfold r_n1
  rw [z_st_cell _ e1, z_nw_ne _ e2]
theorem r_n1_n (h : z_H) : r_n1 h 90 = z_dv (1, 20) := by
  unfold r_n1
  rw [z_st_cell _ (by decide), z_nw_is _ (by decide)]
def r_n2 (h : z_H) : z_H := z_st (z_nw (r_n1 h) 91 (1, 8)) 89 3 91
theorem r_n2_s {h : z_H} {i : Int} (e : i ≠ 3) : r_n2 h 89 i = r_n1 h 89 i := by
  unfold r_n2
  rw [z_st_slot _ e, z_nw_ne _ (by decide)]
theorem r_n2_j (h : z_H) : r_n2 h 89 3 = 91 := z_st_at _ _ _ _
theorem r_n2_c {h : z_H} {q : Int} (e1 : q ≠ 89) (e2 : q ≠ 91) : r_n2 h q = r_n1 h q := by
  unfold r_n2
  rw [z_st_cell _ e1, z_nw_ne _ e2]
theorem r_n2_n (h : z_H) : r_n2 h 91 = z_dv (1, 8) := by
  unfold r_n2
  rw [z_st_cell _ (by decide), z_nw_is _ (by decide)]
def r_n3 (h : z_H) : z_H := z_st (z_nw (r_n2 h) 92 (1, 11)) 89 5 92
theorem r_n3_s {h : z_H} {i : Int} (e : i ≠ 5) : r_n3 h 89 i = r_n2 h 89 i := by
  unfold r_n3
  rw [z_st_slot _ e, z_nw_ne _ (by decide)]
theorem r_n3_j (h : z_H) : r_n3 h 89 5 = 92 := z_st_at _ _ _ _
theorem r_n3_c {h : z_H} {q : Int} (e1 : q ≠ 89) (e2 : q ≠ 92) : r_n3 h q = r_n2 h q := by
  unfold r_n3
  rw [z_st_cell _ e1, z_nw_ne _ e2]
theorem r_n3_n (h : z_H) : r_n3 h 92 = z_dv (1, 11) := by
  unfold r_n3
  rw [z_st_cell _ (by decide), z_nw_is _ (by decide)]
def r_n4 (h : z_H) : z_H := z_st (z_nw (r_n3 h) 93 (1, 11)) 89 6 93
theorem r_n4_s {h : z_H} {i : Int} (e : i ≠ 6) : r_n4 h 89 i = r_n3 h 89 i := by
  unfold r_n4
  rw [z_st_slot _ e, z_nw_ne _ (by decide)]
theorem r_n4_j (h : z_H) : r_n4 h 89 6 = 93 := z_st_at _ _ _ _
theorem r_n4_c {h : z_H} {q : Int} (e1 : q ≠ 89) (e2 : q ≠ 93) : r_n4 h q = r_n3 h q := by
  unfold r_n4
  rw [z_st_cell _ e1, z_nw_ne _ e2]
theorem r_n4_n (h : z_H) : r_n4 h 93 = z_dv (1, 11) := by
  unfold r_n4
  rw [z_st_cell _ (by decide), z_nw_is _ (by decide)]
def r_n5 (h : z_H) : z_H := z_st (z_nw (r_n4 h) 94 (1, 110)) 89 7 94
theorem r_n5_s {h : z_H} {i : Int} (e : i ≠ 7) : r_n5 h 89 i = r_n4 h 89 i := by
  unfold r_n5
  rw [z_st_slot _ e, z_nw_ne _ (by decide)]
theorem r_n5_j (h : z_H) : r_n5 h 89 7 = 94 := z_st_at _ _ _ _
theorem r_n5_c {h : z_H} {q : Int} (e1 : q ≠ 89) (e2 : q ≠ 94) : r_n5 h q = r_n4 h q := by
  unfold r_n5
  rw [z_st_cell _ e1, z_nw_ne _ e2]
theorem r_n5_n (h : z_H) : r_n5 h 94 = z_dv (1, 110) := by
  unfold r_n5
  rw [z_st_cell _ (by decide), z_nw_is _ (by decide)]
def r_n6 (h : z_H) : z_H := z_st (z_nw (r_n5 h) 95 (1, 22)) 89 9 95
theorem r_n6_s {h : z_H} {i : Int} (e : i ≠ 9) : r_n6 h 89 i = r_n5 h 89 i := by
  unfold r_n6
  rw [z_st_slot _ e, z_nw_ne _ (by decide)]
theorem r_n6_j (h : z_H) : r_n6 h 89 9 = 95 := z_st_at _ _ _ _
theorem r_n6_c {h : z_H} {q : Int} (e1 : q ≠ 89) (e2 : q ≠ 95) : r_n6 h q = r_n5 h q := by
  unfold r_n6
  rw [z_st_cell _ e1, z_nw_ne _ e2]
theorem r_n6_n (h : z_H) : r_n6 h 95 = z_dv (1, 22) := by
  unfold r_n6
  rw [z_st_cell _ (by decide), z_nw_is _ (by decide)]
def r_n7 (h : z_H) : z_H := z_st (z_nw (r_n6 h) 96 (1, 220)) 89 10 96
theorem r_n7_s {h : z_H} {i : Int} (e : i ≠ 10) : r_n7 h 89 i = r_n6 h 89 i := by
  unfold r_n7
  rw [z_st_slot _ e, z_nw_ne _ (by decide)]
theorem r_n7_j (h : z_H) : r_n7 h 89 10 = 96 := z_st_at _ _ _ _
theorem r_n7_c {h : z_H} {q : Int} (e1 : q ≠ 89) (e2 : q ≠ 96) : r_n7 h q = r_n6 h q := by
  unfold r_n7
  rw [z_st_cell _ e1, z_nw_ne _ e2]
theorem r_n7_n (h : z_H) : r_n7 h 96 = z_dv (1, 220) := by
  unfold r_n7
  rw [z_st_cell _ (by decide), z_nw_is _ (by decide)]
def r_n8 (h : z_H) : z_H := z_st (z_nw (r_n7 h) 97 (1, 2)) 89 11 97
theorem r_n8_s {h : z_H} {i : Int} (e : i ≠ 11) : r_n8 h 89 i = r_n7 h 89 i := by
  unfold r_n8
  rw [z_st_slot _ e, z_nw_ne _ (by decide)]
theorem r_n8_j (h : z_H) : r_n8 h 89 11 = 97 := z_st_at _ _ _ _
theorem r_n8_c {h : z_H} {q : Int} (e1 : q ≠ 89) (e2 : q ≠ 97) : r_n8 h q = r_n7 h q := by
  unfold r_n8
  rw [z_st_cell _ e1, z_nw_ne _ e2]
theorem r_n8_n (h : z_H) : r_n8 h 97 = z_dv (1, 2) := by
  unfold r_n8
  rw [z_st_cell _ (by decide), z_nw_is _ (by decide)]
def r_n9 (h : z_H) : z_H := z_st (z_nw (r_n8 h) 98 (2, 2)) 89 12 98
theorem r_n9_s {h : z_H} {i : Int} (e : i ≠ 12) : r_n9 h 89 i = r_n8 h 89 i := by
  unfold r_n9
  rw [z_st_slot _ e, z_nw_ne _ (by decide)]
theorem r_n9_j (h : z_H) : r_n9 h 89 12 = 98 := z_st_at _ _ _ _
theorem r_n9_c {h : z_H} {q : Int} (e1 : q ≠ 89) (e2 : q ≠ 98) : r_n9 h q = r_n8 h q := by
  unfold r_n9
  rw [z_st_cell _ e1, z_nw_ne _ e2]
theorem r_n9_n (h : z_H) : r_n9 h 98 = z_dv (2, 2) := by
  unfold r_n9
  rw [z_st_cell _ (by decide), z_nw_is _ (by decide)]
def r_n10 (h : z_H) : z_H := z_st (z_nw (r_n9 h) 99 (1, 24)) 89 13 99
theorem r_n10_s {h : z_H} {i : Int} (e : i ≠ 13) : r_n10 h 89 i = r_n9 h 89 i := by
  unfold r_n10
  rw [z_st_slot _ e, z_nw_ne _ (by decide)]
theorem r_n10_j (h : z_H) : r_n10 h 89 13 = 99 := z_st_at _ _ _ _
theorem r_n10_c {h : z_H} {q : Int} (e1 : q ≠ 89) (e2 : q ≠ 99) : r_n10 h q = r_n9 h q := by
  unfold r_n10
  rw [z_st_cell _ e1, z_nw_ne _ e2]
theorem r_n10_n (h : z_H) : r_n10 h 99 = z_dv (1, 24) := by
  unfold r_n10
  rw [z_st_cell _ (by decide), z_nw_is _ (by decide)]
def r_n11 (h : z_H) : z_H := z_st (z_nw (r_n10 h) 100 (1, 170)) 89 15 100
theorem r_n11_s {h : z_H} {i : Int} (e : i ≠ 15) : r_n11 h 89 i = r_n10 h 89 i := by
  unfold r_n11
  rw [z_st_slot _ e, z_nw_ne _ (by decide)]
theorem r_n11_j (h : z_H) : r_n11 h 89 15 = 100 := z_st_at _ _ _ _
theorem r_n11_c {h : z_H} {q : Int} (e1 : q ≠ 89) (e2 : q ≠ 100) : r_n11 h q = r_n10 h q := by
  unfold r_n11
  rw [z_st_cell _ e1, z_nw_ne _ e2]
theorem r_n11_n (h : z_H) : r_n11 h 100 = z_dv (1, 170) := by
  unfold r_n11
  rw [z_st_cell _ (by decide), z_nw_is _ (by decide)]
def r_n12 (h : z_H) : z_H := z_st (z_nw (r_n11 h) 101 (1, 20)) 89 25 101
theorem r_n12_s {h : z_H} {i : Int} (e : i ≠ 25) : r_n12 h 89 i = r_n11 h 89 i := by
  unfold r_n12
  rw [z_st_slot _ e, z_nw_ne _ (by decide)]
theorem r_n12_j (h : z_H) : r_n12 h 89 25 = 101 := z_st_at _ _ _ _
theorem r_n12_c {h : z_H} {q : Int} (e1 : q ≠ 89) (e2 : q ≠ 101) : r_n12 h q = r_n11 h q := by
  unfold r_n12
  rw [z_st_cell _ e1, z_nw_ne _ e2]
theorem r_n12_n (h : z_H) : r_n12 h 101 = z_dv (1, 20) := by
  unfold r_n12
  rw [z_st_cell _ (by decide), z_nw_is _ (by decide)]
def r_n13 (h : z_H) : z_H := z_st (z_nw (r_n12 h) 102 (1, 8)) 89 26 102
theorem r_n13_s {h : z_H} {i : Int} (e : i ≠ 26) : r_n13 h 89 i = r_n12 h 89 i := by
  unfold r_n13
  rw [z_st_slot _ e, z_nw_ne _ (by decide)]
theorem r_n13_j (h : z_H) : r_n13 h 89 26 = 102 := z_st_at _ _ _ _
theorem r_n13_c {h : z_H} {q : Int} (e1 : q ≠ 89) (e2 : q ≠ 102) : r_n13 h q = r_n12 h q := by
  unfold r_n13
  rw [z_st_cell _ e1, z_nw_ne _ e2]
theorem r_n13_n (h : z_H) : r_n13 h 102 = z_dv (1, 8) := by
  unfold r_n13
  rw [z_st_cell _ (by decide), z_nw_is _ (by decide)]
def r_n14 (h : z_H) : z_H := z_st (z_nw (r_n13 h) 103 (1, 20)) 89 30 103
theorem r_n14_s {h : z_H} {i : Int} (e : i ≠ 30) : r_n14 h 89 i = r_n13 h 89 i := by
  unfold r_n14
  rw [z_st_slot _ e, z_nw_ne _ (by decide)]
theorem r_n14_j (h : z_H) : r_n14 h 89 30 = 103 := z_st_at _ _ _ _
theorem r_n14_c {h : z_H} {q : Int} (e1 : q ≠ 89) (e2 : q ≠ 103) : r_n14 h q = r_n13 h q := by
  unfold r_n14
  rw [z_st_cell _ e1, z_nw_ne _ e2]
theorem r_n14_n (h : z_H) : r_n14 h 103 = z_dv (1, 20) := by
  unfold r_n14
  rw [z_st_cell _ (by decide), z_nw_is _ (by decide)]
def r_n15 (h : z_H) : z_H := z_st (z_nw (r_n14 h) 104 (1, 20)) 89 31 104
theorem r_n15_s {h : z_H} {i : Int} (e : i ≠ 31) : r_n15 h 89 i = r_n14 h 89 i := by
  unfold r_n15
  rw [z_st_slot _ e, z_nw_ne _ (by decide)]
theorem r_n15_j (h : z_H) : r_n15 h 89 31 = 104 := z_st_at _ _ _ _
theorem r_n15_c {h : z_H} {q : Int} (e1 : q ≠ 89) (e2 : q ≠ 104) : r_n15 h q = r_n14 h q := by
  unfold r_n15
  rw [z_st_cell _ e1, z_nw_ne _ e2]
theorem r_n15_n (h : z_H) : r_n15 h 104 = z_dv (1, 20) := by
  unfold r_n15
  rw [z_st_cell _ (by decide), z_nw_is _ (by decide)]
def r_n16 (h : z_H) : z_H := z_st (z_nw (r_n15 h) 105 (1, 756)) 89 32 105
theorem r_n16_s {h : z_H} {i : Int} (e : i ≠ 32) : r_n16 h 89 i = r_n15 h 89 i := by
  unfold r_n16
  rw [z_st_slot _ e, z_nw_ne _ (by decide)]
theorem r_n16_j (h : z_H) : r_n16 h 89 32 = 105 := z_st_at _ _ _ _
theorem r_n16_c {h : z_H} {q : Int} (e1 : q ≠ 89) (e2 : q ≠ 105) : r_n16 h q = r_n15 h q := by
  unfold r_n16
  rw [z_st_cell _ e1, z_nw_ne _ e2]
theorem r_n16_n (h : z_H) : r_n16 h 105 = z_dv (1, 756) := by
  unfold r_n16
  rw [z_st_cell _ (by decide), z_nw_is _ (by decide)]
def r_n17 (h : z_H) : z_H := z_st (z_nw (r_n16 h) 106 (1, 8)) 89 33 106
theorem r_n17_s {h : z_H} {i : Int} (e : i ≠ 33) : r_n17 h 89 i = r_n16 h 89 i := by
  unfold r_n17
  rw [z_st_slot _ e, z_nw_ne _ (by decide)]
theorem r_n17_j (h : z_H) : r_n17 h 89 33 = 106 := z_st_at _ _ _ _
theorem r_n17_c {h : z_H} {q : Int} (e1 : q ≠ 89) (e2 : q ≠ 106) : r_n17 h q = r_n16 h q := by
  unfold r_n17
  rw [z_st_cell _ e1, z_nw_ne _ e2]
theorem r_n17_n (h : z_H) : r_n17 h 106 = z_dv (1, 8) := by
  unfold r_n17
  rw [z_st_cell _ (by decide), z_nw_is _ (by decide)]
theorem r_nw_2 (h : z_H) : r_n17 h 89 2 = 90 := by
  rw [r_n17_s (by decide), r_n16_s (by decide), r_n15_s (by decide), r_n14_s (by decide), r_n13_s (by decide), r_n12_s (by decide), r_n11_s (by decide), r_n10_s (by decide), r_n9_s (by decide), r_n8_s (by decide), r_n7_s (by decide), r_n6_s (by decide), r_n5_s (by decide), r_n4_s (by decide), r_n3_s (by decide), r_n2_s (by decide)]
  exact r_n1_j h
theorem r_nw_3 (h : z_H) : r_n17 h 89 3 = 91 := by
  rw [r_n17_s (by decide), r_n16_s (by decide), r_n15_s (by decide), r_n14_s (by decide), r_n13_s (by decide), r_n12_s (by decide), r_n11_s (by decide), r_n10_s (by decide), r_n9_s (by decide), r_n8_s (by decide), r_n7_s (by decide), r_n6_s (by decide), r_n5_s (by decide), r_n4_s (by decide), r_n3_s (by decide)]
  exact r_n2_j h
theorem r_nw_5 (h : z_H) : r_n17 h 89 5 = 92 := by
  rw [r_n17_s (by decide), r_n16_s (by decide), r_n15_s (by decide), r_n14_s (by decide), r_n13_s (by decide), r_n12_s (by decide), r_n11_s (by decide), r_n10_s (by decide), r_n9_s (by decide), r_n8_s (by decide), r_n7_s (by decide), r_n6_s (by decide), r_n5_s (by decide), r_n4_s (by decide)]
  exact r_n3_j h
theorem r_nw_6 (h : z_H) : r_n17 h 89 6 = 93 := by
  rw [r_n17_s (by decide), r_n16_s (by decide), r_n15_s (by decide), r_n14_s (by decide), r_n13_s (by decide), r_n12_s (by decide), r_n11_s (by decide), r_n10_s (by decide), r_n9_s (by decide), r_n8_s (by decide), r_n7_s (by decide), r_n6_s (by decide), r_n5_s (by decide)]
  exact r_n4_j h
theorem r_nw_7 (h : z_H) : r_n17 h 89 7 = 94 := by
  rw [r_n17_s (by decide), r_n16_s (by decide), r_n15_s (by decide), r_n14_s (by decide), r_n13_s (by decide), r_n12_s (by decide), r_n11_s (by decide), r_n10_s (by decide), r_n9_s (by decide), r_n8_s (by decide), r_n7_s (by decide), r_n6_s (by decide)]
  exact r_n5_j h
theorem r_nw_9 (h : z_H) : r_n17 h 89 9 = 95 := by
  rw [r_n17_s (by decide), r_n16_s (by decide), r_n15_s (by decide), r_n14_s (by decide), r_n13_s (by decide), r_n12_s (by decide), r_n11_s (by decide), r_n10_s (by decide), r_n9_s (by decide), r_n8_s (by decide), r_n7_s (by decide)]
  exact r_n6_j h
theorem r_nw_10 (h : z_H) : r_n17 h 89 10 = 96 := by
  rw [r_n17_s (by decide), r_n16_s (by decide), r_n15_s (by decide), r_n14_s (by decide), r_n13_s (by decide), r_n12_s (by decide), r_n11_s (by decide), r_n10_s (by decide), r_n9_s (by decide), r_n8_s (by decide)]
  exact r_n7_j h
theorem r_nw_11 (h : z_H) : r_n17 h 89 11 = 97 := by
  rw [r_n17_s (by decide), r_n16_s (by decide), r_n15_s (by decide), r_n14_s (by decide), r_n13_s (by decide), r_n12_s (by decide), r_n11_s (by decide), r_n10_s (by decide), r_n9_s (by decide)]
  exact r_n8_j h
theorem r_nw_12 (h : z_H) : r_n17 h 89 12 = 98 := by
  rw [r_n17_s (by decide), r_n16_s (by decide), r_n15_s (by decide), r_n14_s (by decide), r_n13_s (by decide), r_n12_s (by decide), r_n11_s (by decide), r_n10_s (by decide)]
  exact r_n9_j h
theorem r_nw_13 (h : z_H) : r_n17 h 89 13 = 99 := by
  rw [r_n17_s (by decide), r_n16_s (by decide), r_n15_s (by decide), r_n14_s (by decide), r_n13_s (by decide), r_n12_s (by decide), r_n11_s (by decide)]
  exact r_n10_j h
theorem r_nw_15 (h : z_H) : r_n17 h 89 15 = 100 := by
  rw [r_n17_s (by decide), r_n16_s (by decide), r_n15_s (by decide), r_n14_s (by decide), r_n13_s (by decide), r_n12_s (by decide)]
  exact r_n11_j h
theorem r_nw_25 (h : z_H) : r_n17 h 89 25 = 101 := by
  rw [r_n17_s (by decide), r_n16_s (by decide), r_n15_s (by decide), r_n14_s (by decide), r_n13_s (by decide)]
  exact r_n12_j h
theorem r_nw_26 (h : z_H) : r_n17 h 89 26 = 102 := by
  rw [r_n17_s (by decide), r_n16_s (by decide), r_n15_s (by decide), r_n14_s (by decide)]
  exact r_n13_j h
theorem r_nw_30 (h : z_H) : r_n17 h 89 30 = 103 := by
  rw [r_n17_s (by decide), r_n16_s (by decide), r_n15_s (by decide)]
  exact r_n14_j h
theorem r_nw_31 (h : z_H) : r_n17 h 89 31 = 104 := by
  rw [r_n17_s (by decide), r_n16_s (by decide)]
  exact r_n15_j h
theorem r_nw_32 (h : z_H) : r_n17 h 89 32 = 105 := by
  rw [r_n17_s (by decide)]
  exact r_n16_j h
theorem r_nw_33 (h : z_H) : r_n17 h 89 33 = 106 := by
  exact r_n17_j h
theorem r_new_ob (h : z_H) : r_Ob (r_n17 h) := ⟨r_nw_2 h, r_nw_3 h, r_nw_5 h, r_nw_6 h, r_nw_7 h, r_nw_9 h, r_nw_10 h, r_nw_11 h, r_nw_12 h, r_nw_13 h, r_nw_15 h, r_nw_25 h, r_nw_26 h, r_nw_30 h, r_nw_31 h, r_nw_32 h, r_nw_33 h⟩
set_option maxHeartbeats 4000000 in
set_option maxRecDepth 100000 in
theorem ct_X10_init {h : z_H} : z_Ct mX10_init 90 [(2, 89)] h (z_void (r_begH (z_rw (r_n17 h) 90 (fun r => if 0 ≤ r ∧ r < 20 then 7 else r_n17 h 90 r)) 12 0)) := by
  refine z_mk (L := [(2, 89), (9, 0)]) oX10_init.2.2.2.2 (Nat.le_of_ble_eq_true rfl) rfl ?_
  intro Γ X hQ
  have hRB := r_new_ob h
  refine V_aload_n (pc := 0) X dX10_init_0 rfl (by first | decide | omega | assumption) ?_
  refine V_objI (pc := 1) X dX10_init_1 (by first | decide | omega | assumption) l_RX10_1 eObj oObj ⟨Nat.le_of_ble_eq_true rfl, Nat.le_of_ble_eq_true rfl⟩ ?_
  refine V_aload_n (pc := 4) X dX10_init_4 rfl (by first | decide | omega | assumption) ?_
  refine V_iconst (pc := 5) X dX10_init_5 ?_
  refine V_pz (pc := 6) X dX10_init_6 f_RX10_7 (by first | rfl | assumption | (simp only [*]; done) | omega) (fun b => z_fitI b _) 0 rfl ?_
  refine V_aload_n (pc := 9) X dX10_init_9 rfl (by first | decide | omega | assumption) ?_
  refine V_iconst (pc := 10) X dX10_init_10 ?_
  refine V_pz (pc := 11) X dX10_init_11 f_RX10_13 (by first | rfl | assumption | (simp only [*]; done) | omega) (fun b => z_fitI b _) 1 rfl ?_
  refine V_heap (h' := r_n0 h) rfl ?_
  refine V_aload_n (pc := 14) X dX10_init_14 rfl (by first | decide | omega | assumption) ?_
  refine V_bipush (pc := 15) X dX10_init_15 (by decide) ?_
  refine V_newI (pc := 17) X dX10_init_17 aInt rfl (by decide) rfl ⟨by decide, by decide⟩ ?_
  refine V_pFz (pc := 19) X dX10_init_19 f_RX10_16 rfl (by intro C T h; cases h; rfl) (by first | rfl | assumption | (simp only [*]; done) | omega) (fun b => z_fitR b _ rfl) 2 rfl ?_
  refine V_heap (h' := r_n1 h) rfl ?_
  refine V_aload_n (pc := 22) X dX10_init_22 rfl (by first | decide | omega | assumption) ?_
  refine V_bipush (pc := 23) X dX10_init_23 (by decide) ?_
  refine V_newI (pc := 25) X dX10_init_25 aInt rfl (by decide) rfl ⟨by decide, by decide⟩ ?_
  refine V_pFz (pc := 27) X dX10_init_27 f_RX10_20 rfl (by intro C T h; cases h; rfl) (by first | rfl | assumption | (simp only [*]; done) | omega) (fun b => z_fitR b _ rfl) 3 rfl ?_
  refine V_heap (h' := r_n2 h) rfl ?_
  refine V_aload_n (pc := 30) X dX10_init_30 rfl (by first | decide | omega | assumption) ?_
  refine V_bipush (pc := 31) X dX10_init_31 (by decide) ?_
  refine V_newI (pc := 33) X dX10_init_33 aInt rfl (by decide) rfl ⟨by decide, by decide⟩ ?_
  refine V_pFz (pc := 35) X dX10_init_35 f_RX10_23 rfl (by intro C T h; cases h; rfl) (by first | rfl | assumption | (simp only [*]; done) | omega) (fun b => z_fitR b _ rfl) 5 rfl ?_
  refine V_heap (h' := r_n3 h) rfl ?_
  refine V_aload_n (pc := 38) X dX10_init_38 rfl (by first | decide | omega | assumption) ?_
  refine V_bipush (pc := 39) X dX10_init_39 (by decide) ?_
  refine V_newI (pc := 41) X dX10_init_41 aInt rfl (by decide) rfl ⟨by decide, by decide⟩ ?_
  refine V_pFz (pc := 43) X dX10_init_43 f_RX10_26 rfl (by intro C T h; cases h; rfl) (by first | rfl | assumption | (simp only [*]; done) | omega) (fun b => z_fitR b _ rfl) 6 rfl ?_
  refine V_heap (h' := r_n4 h) rfl ?_
  refine V_aload_n (pc := 46) X dX10_init_46 rfl (by first | decide | omega | assumption) ?_
  refine V_bipush (pc := 47) X dX10_init_47 (by decide) ?_
  refine V_newI (pc := 49) X dX10_init_49 aInt rfl (by decide) rfl ⟨by decide, by decide⟩ ?_
  refine V_pFz (pc := 51) X dX10_init_51 f_RX10_29 rfl (by intro C T h; cases h; rfl) (by first | rfl | assumption | (simp only [*]; done) | omega) (fun b => z_fitR b _ rfl) 7 rfl ?_
  refine V_heap (h' := r_n5 h) rfl ?_
  refine V_aload_n (pc := 54) X dX10_init_54 rfl (by first | decide | omega | assumption) ?_
  refine V_bipush (pc := 55) X dX10_init_55 (by decide) ?_
  refine V_newI (pc := 57) X dX10_init_57 aInt rfl (by decide) rfl ⟨by decide, by decide⟩ ?_
  refine V_pFz (pc := 59) X dX10_init_59 f_RX10_32 rfl (by intro C T h; cases h; rfl) (by first | rfl | assumption | (simp only [*]; done) | omega) (fun b => z_fitR b _ rfl) 9 rfl ?_
  refine V_heap (h' := r_n6 h) rfl ?_
  refine V_aload_n (pc := 62) X dX10_init_62 rfl (by first | decide | omega | assumption) ?_
  refine V_sipush (pc := 63) X dX10_init_63 (by decide) ?_
  refine V_newI (pc := 66) X dX10_init_66 aInt rfl (by decide) rfl ⟨by decide, by decide⟩ ?_
  refine V_pFz (pc := 68) X dX10_init_68 f_RX10_35 rfl (by intro C T h; cases h; rfl) (by first | rfl | assumption | (simp only [*]; done) | omega) (fun b => z_fitR b _ rfl) 10 rfl ?_
  refine V_heap (h' := r_n7 h) rfl ?_
  refine V_aload_n (pc := 71) X dX10_init_71 rfl (by first | decide | omega | assumption) ?_
  refine V_iconst (pc := 72) X dX10_init_72 ?_
  refine V_newI (pc := 73) X dX10_init_73 aInt rfl (by decide) rfl ⟨by decide, by decide⟩ ?_
  refine V_pFz (pc := 75) X dX10_init_75 f_RX10_38 rfl (by intro C T h; cases h; rfl) (by first | rfl | assumption | (simp only [*]; done) | omega) (fun b => z_fitR b _ rfl) 11 rfl ?_
  refine V_heap (h' := r_n8 h) rfl ?_
  refine V_aload_n (pc := 78) X dX10_init_78 rfl (by first | decide | omega | assumption) ?_
  refine V_iconst (pc := 79) X dX10_init_79 ?_
  refine V_newZ (pc := 80) X dX10_init_80 aBoo rfl (by decide) rfl ⟨by decide, by decide⟩ ?_
  refine V_pFz (pc := 82) X dX10_init_82 f_RX10_41 rfl (by intro C T h; cases h; rfl) (by first | rfl | assumption | (simp only [*]; done) | omega) (fun b => z_fitR b _ rfl) 12 rfl ?_
  refine V_heap (h' := r_n9 h) rfl ?_
  refine V_aload_n (pc := 85) X dX10_init_85 rfl (by first | decide | omega | assumption) ?_
  refine V_bipush (pc := 86) X dX10_init_86 (by decide) ?_
  refine V_newI (pc := 88) X dX10_init_88 aInt rfl (by decide) rfl ⟨by decide, by decide⟩ ?_
  refine V_pFz (pc := 90) X dX10_init_90 f_RX10_45 rfl (by intro C T h; cases h; rfl) (by first | rfl | assumption | (simp only [*]; done) | omega) (fun b => z_fitR b _ rfl) 13 rfl ?_
  refine V_heap (h' := r_n10 h) rfl ?_
  refine V_aload_n (pc := 93) X dX10_init_93 rfl (by first | decide | omega | assumption) ?_
  refine V_sipush (pc := 94) X dX10_init_94 (by decide) ?_
  refine V_newI (pc := 97) X dX10_init_97 aInt rfl (by decide) rfl ⟨by decide, by decide⟩ ?_
  refine V_pFz (pc := 99) X dX10_init_99 f_RX10_48 rfl (by intro C T h; cases h; rfl) (by first | rfl | assumption | (simp only [*]; done) | omega) (fun b => z_fitR b _ rfl) 15 rfl ?_
  refine V_heap (h' := r_n11 h) rfl ?_
  refine V_aload_n (pc := 102) X dX10_init_102 rfl (by first | decide | omega | assumption) ?_
  refine V_bipush (pc := 103) X dX10_init_103 (by decide) ?_
  refine V_newI (pc := 105) X dX10_init_105 aInt rfl (by decide) rfl ⟨by decide, by decide⟩ ?_
  refine V_pFz (pc := 107) X dX10_init_107 f_RX10_51 rfl (by intro C T h; cases h; rfl) (by first | rfl | assumption | (simp only [*]; done) | omega) (fun b => z_fitR b _ rfl) 25 rfl ?_
  refine V_heap (h' := r_n12 h) rfl ?_
  refine V_aload_n (pc := 110) X dX10_init_110 rfl (by first | decide | omega | assumption) ?_
  refine V_bipush (pc := 111) X dX10_init_111 (by decide) ?_
  refine V_newI (pc := 113) X dX10_init_113 aInt rfl (by decide) rfl ⟨by decide, by decide⟩ ?_
  refine V_pFz (pc := 115) X dX10_init_115 f_RX10_54 rfl (by intro C T h; cases h; rfl) (by first | rfl | assumption | (simp only [*]; done) | omega) (fun b => z_fitR b _ rfl) 26 rfl ?_
  refine V_heap (h' := r_n13 h) rfl ?_
  refine V_aload_n (pc := 118) X dX10_init_118 rfl (by first | decide | omega | assumption) ?_
  refine V_bipush (pc := 119) X dX10_init_119 (by decide) ?_
  refine V_newI (pc := 121) X dX10_init_121 aInt rfl (by decide) rfl ⟨by decide, by decide⟩ ?_
  refine V_pFz (pc := 123) X dX10_init_123 f_RX10_57 rfl (by intro C T h; cases h; rfl) (by first | rfl | assumption | (simp only [*]; done) | omega) (fun b => z_fitR b _ rfl) 30 rfl ?_
  refine V_heap (h' := r_n14 h) rfl ?_
  refine V_aload_n (pc := 126) X dX10_init_126 rfl (by first | decide | omega | assumption) ?_
  refine V_bipush (pc := 127) X dX10_init_127 (by decide) ?_
  refine V_newI (pc := 129) X dX10_init_129 aInt rfl (by decide) rfl ⟨by decide, by decide⟩ ?_
  refine V_pFz (pc := 131) X dX10_init_131 f_RX10_60 rfl (by intro C T h; cases h; rfl) (by first | rfl | assumption | (simp only [*]; done) | omega) (fun b => z_fitR b _ rfl) 31 rfl ?_
  refine V_heap (h' := r_n15 h) rfl ?_
  refine V_aload_n (pc := 134) X dX10_init_134 rfl (by first | decide | omega | assumption) ?_
  refine V_sipush (pc := 135) X dX10_init_135 (by decide) ?_
  refine V_newI (pc := 138) X dX10_init_138 aInt rfl (by decide) rfl ⟨by decide, by decide⟩ ?_
  refine V_pFz (pc := 140) X dX10_init_140 f_RX10_63 rfl (by intro C T h; cases h; rfl) (by first | rfl | assumption | (simp only [*]; done) | omega) (fun b => z_fitR b _ rfl) 32 rfl ?_
  refine V_heap (h' := r_n16 h) rfl ?_
  refine V_aload_n (pc := 143) X dX10_init_143 rfl (by first | decide | omega | assumption) ?_
  refine V_bipush (pc := 144) X dX10_init_144 (by decide) ?_
  refine V_newI (pc := 146) X dX10_init_146 aInt rfl (by decide) rfl ⟨by decide, by decide⟩ ?_
  refine V_pFz (pc := 148) X dX10_init_148 f_RX10_66 rfl (by intro C T h; cases h; rfl) (by first | rfl | assumption | (simp only [*]; done) | omega) (fun b => z_fitR b _ rfl) 33 rfl ?_
  refine V_heap (h' := r_n17 h) rfl ?_
  refine V_iconst (pc := 151) X dX10_init_151 ?_
  refine V_istore_n (pc := 152) X dX10_init_152 (by exact Nat.le_of_ble_eq_true rfl) rfl ?_
  have lp_153 : ∀ (m : Nat) (e : Int), (20 - e).toNat < m → 0 ≤ e → e ≤ 20 → z_V Γ (107, 17, 1432) 153 [(2, 89), (0, e)] [] (z_rw (r_n17 h) 90 (fun r => if 0 ≤ r ∧ r < e then 7 else r_n17 h 90 r)) := by
    intro m
    induction m with
    | zero => intro e hm; exact absurd hm (Nat.not_lt_zero _)
    | succ m ih_153 =>
      intro e hm he0 he1
      refine V_iload_n (pc := 153) X dX10_init_153 rfl ?_
      refine V_bipush (pc := 154) X dX10_init_154 (by decide) ?_
      refine V_icmp_ge (pc := 156) X 173 dX10_init_156 (by decide) ⟨by omega, by omega⟩ ⟨by omega, by omega⟩ (fun c_156 => ?_) (fun c_156 => ?_)
      · skip
        obtain rfl : e = 20 := by omega
        refine V_aload_n (pc := 173) X dX10_init_173 rfl (by first | decide | omega | assumption) ?_
        refine V_bipush (pc := 174) X dX10_init_174 (by decide) ?_
        refine V_iconst (pc := 176) X dX10_init_176 ?_
        refine V_CV (pc := 177) X dX10_init_177 oX10_begins l_RX10_69 eX10_begins vX10_begins ⟨Nat.le_of_ble_eq_true rfl, Nat.le_of_ble_eq_true rfl⟩ ⟨rfl, rfl⟩ ⟨Nat.le_of_ble_eq_true rfl, Nat.le_of_ble_eq_true rfl⟩ (ct_X10_begins (hRB.rw_ (by decide))) rfl (by first | rfl | assumption | (simp only [*]; done) | omega) (by intro q h; cases h; rfl) rfl (by rfl) (by exact Nat.le_of_ble_eq_true rfl) (fun r h1 hp => ?_)
        obtain ⟨rfl, rfl⟩ := hp
        refine V_vret (st := []) (pc := 180) X hQ dX10_init_180 rfl rfl ?_
        exact ⟨rfl, rfl⟩
      · skip
        refine V_aload_n (pc := 159) X dX10_init_159 rfl (by first | decide | omega | assumption) ?_
        refine V_gz (pc := 160) X dX10_init_160 f_RX10_16 (by first | rfl | assumption | (simp only [*]; done) | omega) 2 rfl (show _ = (90 : Int) from by rw [z_rw_ne _ _ (by decide)]; exact hRB.1) ?_
        refine V_iload_n (pc := 163) X dX10_init_163 rfl ?_
        refine V_bipush (pc := 164) X dX10_init_164 (by decide) ?_
        refine V_iast (pc := 166) X dX10_init_166 (by first | rfl | assumption | (simp only [*]; done) | omega) (by omega) (by omega) (by decide) ?_
        rw [z_rw_st]
        refine V_iinc (pc := 167) X dX10_init_167 rfl rfl ?_
        refine V_goto (pc := 170) X 153 dX10_init_170 (by decide) ?_
        refine V_heap ?_ (ih_153 (e + 1) (by omega) (by omega) (by omega))
        congr 1
        funext r
        by_cases g : r = e
        · rw [if_pos g, if_pos (by omega)]
        · rw [if_neg g]
          by_cases g2 : 0 ≤ r ∧ r < e
          · rw [if_pos g2, if_pos (by omega)]
          · rw [if_neg g2, if_neg (by omega)]
  refine V_heap (h' := z_rw (r_n17 h) 90 (fun r => if 0 ≤ r ∧ r < 0 then 7 else r_n17 h 90 r)) (by rw [show (fun r => if 0 ≤ r ∧ r < 0 then 7 else r_n17 h 90 r) = r_n17 h 90 from by funext r; rw [if_neg (by omega)]]; exact (z_rw_same (r_n17 h) 90).symm) ?_
  exact lp_153 _ 0 (Nat.lt_succ_self _) (by decide) (by decide)
