/-! THE CALCULUS, 1: coded values, one world of cells -/
def z_i (z : Int) : Int32 := Int32.ofInt z
def z_l (z : Int) : Int64 := Int64.ofInt z
def z_on (base : Nat) (z : Int) : Option Nat := if z < 0 then none else some (base + z.toNat)
def z_v (base : Nat) (c : Nat × Int) : Value := match c.1 with
  | 0 => .int (z_i c.2)
  | 1 => .long (z_l c.2)
  | _ => va_rf (z_on base c.2)
def z_tag : FieldType → Nat
  | .long => 1
  | .object _ => 2
  | .array _ => 2
  | _ => 0
def z_ty (ci : Nat) : Nat → FieldType := match ci with
  | 0 => tyX1
  | 1 => tyX2
  | 2 => tyX3
  | 3 => tyX4
  | 4 => tyX5
  | 5 => tyX6
  | 6 => tyX7
  | 7 => tyX8
  | 8 => tyX9
  | _ => tyX10
def z_nf (ci : Nat) : Nat := match ci with
  | 0 => 4
  | 1 => 4
  | 2 => 7
  | 3 => 8
  | 4 => 2
  | 5 => 3
  | 6 => 1
  | 7 => 3
  | 8 => 9
  | _ => 34
/-- the kinds of the cells in the order in which they are made: (0, c) an object, (1, n) ints, (2, n) booleans, (3, n) Moments, (4, n) Stories -/
def z_kt : List (List (Nat × Nat)) := [
  [(0, 8), (0, 3), (1, 170), (0, 4), (0, 5), (3, 11), (0, 1), (1, 20), (0, 1), (1, 20)],
  [(0, 1), (1, 20), (0, 1), (1, 20), (0, 1), (1, 20), (0, 1), (1, 20), (0, 1), (1, 20)],
  [(0, 1), (1, 20), (0, 1), (1, 20), (0, 1), (1, 20), (0, 1), (1, 20), (0, 2), (1, 20)],
  [(1, 256), (0, 0), (0, 6), (1, 756), (0, 7), (1, 6), (1, 6), (4, 2), (0, 2), (1, 20)],
  [(1, 256), (0, 5), (3, 11), (0, 1), (1, 20), (0, 1), (1, 20), (0, 1), (1, 20), (0, 1)],
  [(1, 20), (0, 1), (1, 20), (0, 1), (1, 20), (0, 1), (1, 20), (0, 1), (1, 20), (0, 1)],
  [(1, 20), (0, 1), (1, 20), (0, 1), (1, 20), (0, 5), (3, 11), (0, 1), (1, 20), (0, 1)],
  [(1, 20), (0, 1), (1, 20), (0, 1), (1, 20), (0, 1), (1, 20), (0, 1), (1, 20), (0, 1)],
  [(1, 20), (0, 1), (1, 20), (0, 1), (1, 20), (0, 1), (1, 20), (0, 1), (1, 20), (0, 9)],
  [(1, 20), (1, 8), (1, 11), (1, 11), (1, 110), (1, 22), (1, 220), (1, 2), (2, 2), (1, 24)],
  [(1, 170), (1, 20), (1, 8), (1, 20), (1, 20), (1, 756), (1, 8)]]
def z_kd (n : Nat) (k : Int) : Nat × Nat := if k < 0 then (9, 0) else if n ≤ k.toNat then (9, 0) else (z_kt.getD (k.toNat / 10) []).getD (k.toNat % 10) (9, 0)
def z_fs (base ci : Nat) (f : Int → Int) : List Value := (List.range (z_nf ci)).map fun j => z_v base (z_tag (z_ty ci j), f j)
def z_e (ca : Nat → ClassId) (base : Nat) (kd : Nat × Nat) (f : Int → Int) : va_E := match kd.1 with
  | 0 => .inr (kd.2, z_fs base kd.2 f)
  | 1 => .inl (ca 1, kd.2, .inl fun j => z_i (f j))
  | 2 => .inl (ca 2, kd.2, .inl fun j => z_i (f j))
  | 3 => .inl (ca 3, kd.2, .inr (.inr (.inr (.inr fun j => z_on base (f j)))))
  | _ => .inl (ca 4, kd.2, .inr (.inr (.inr (.inr fun j => z_on base (f j)))))
def z_w (ca : Nat → ClassId) (base n : Nat) (h : Int → Int → Int) : va_W := (List.range n).map fun k => (base + k, z_e ca base (z_kd n (k : Int)) (h (k : Int)))
/-- one place written -/
def z_st (h : Int → Int → Int) (k j v : Int) : Int → Int → Int := fun q r => if q = k then (if r = j then v else h k r) else h q r
def z_R (x : Int) : Prop := -2147483648 ≤ x ∧ x < 2147483648
theorem z_i_add (x y : Int) : z_i x + z_i y = z_i (x + y) := (Int32.ofInt_add x y).symm
theorem z_i_sub (x y : Int) : z_i x - z_i y = z_i (x - y) := (Int32.ofInt_sub x y).symm
theorem z_i_mul (x y : Int) : z_i x * z_i y = z_i (x * y) := (Int32.ofInt_mul x y).symm
theorem z_i_to {x : Int} (h : z_R x) : (z_i x).toInt = x := Int32.toInt_ofInt_of_le h.1 h.2
theorem z_i_of (x : Int32) : z_i x.toInt = x := Int32.ofInt_toInt x
theorem z_i_eq {x y : Int} (hx : z_R x) (hy : z_R y) : z_i x = z_i y ↔ x = y := by
  rw [← Int32.toInt_inj, z_i_to hx, z_i_to hy]
theorem z_i_lt {x y : Int} (hx : z_R x) (hy : z_R y) : z_i x < z_i y ↔ x < y := by
  rw [Int32.lt_iff_toInt_lt, z_i_to hx, z_i_to hy]
theorem z_i_le {x y : Int} (hx : z_R x) (hy : z_R y) : z_i x ≤ z_i y ↔ x ≤ y := by
  rw [Int32.le_iff_toInt_le, z_i_to hx, z_i_to hy]
theorem z_R0 : z_R 0 := ⟨by decide, by decide⟩
theorem z_i_0 : z_i 0 = 0 := rfl
theorem z_i_div {x y : Int} (hx : z_R x) (hy : z_R y) (h : y ≠ 0) (hm : y ≠ -1) : z_i x / z_i y = z_i (x.tdiv y) := by
  apply Int32.toInt_inj.mp
  have e1 : z_i y ≠ -1 := fun q => hm ((z_i_eq hy ⟨by decide, by decide⟩).mp (q.trans rfl))
  rw [Int32.toInt_div_of_ne_right _ _ e1, z_i_to hx, z_i_to hy, z_i_to]
  have h1 : (x.tdiv y).natAbs ≤ x.natAbs := by rw [Int.natAbs_tdiv]; exact Nat.div_le_self _ _
  have h3 : x = -2147483648 → 2 ≤ y.natAbs ∨ y = 1 := by intro; omega
  refine ⟨?_, ?_⟩
  · obtain ⟨a, b⟩ := hx; omega
  · obtain ⟨a, b⟩ := hx
    by_cases hz : x = -2147483648
    · rcases h3 hz with q | q
      · have : (x.tdiv y).natAbs ≤ x.natAbs / 2 := by
          rw [Int.natAbs_tdiv]; exact Nat.div_le_div_left q (by decide)
        omega
      · subst q; rw [Int.tdiv_one]; exact b
    · omega
theorem z_i_rem {x y : Int} (hx : z_R x) (hy : z_R y) (h : y ≠ 0) (hm : y ≠ -1) : z_i x - z_i x / z_i y * z_i y = z_i (x.tmod y) := by
  rw [z_i_div hx hy h hm, z_i_mul, z_i_sub]
  congr 1
  have := Int.tmod_add_mul_tdiv x y
  rw [Int.mul_comm]
  omega
theorem z_in {i : Int} {n : Nat} (h0 : 0 ≤ i) (h1 : i < n) (hn : n < 2147483648) : vp_in (z_i i) n ∧ (z_i i).toNatClampNeg = i.toNat ∧ ((i.toNat : Nat) : Int) = i := by
  have hr : z_R i := ⟨by omega, by omega⟩
  have e := z_i_to hr
  refine ⟨vp_in_iff.mpr (by rw [e]; exact ⟨h0, h1⟩), ?_, by omega⟩
  show (z_i i).toInt.toNat = i.toNat
  rw [e]
theorem z_v_ref {base : Nat} {k : Int} (hk : 0 ≤ k) : z_v base (2, k) = .ref (base + k.toNat) := by
  show va_rf (z_on base k) = _
  unfold z_on
  rw [if_neg (by omega)]
  rfl
theorem z_v_int (base : Nat) (k : Int) : z_v base (0, k) = .int (z_i k) := rfl
theorem z_v_long (base : Nat) (k : Int) : z_v base (1, k) = .long (z_l k) := rfl
theorem z_kd_spec {n : Nat} {k : Int} {kd : Nat × Nat} (hk : z_kd n k = kd) (h9 : kd.1 ≠ 9) : 0 ≤ k ∧ k.toNat < n ∧ ((k.toNat : Nat) : Int) = k := by
  unfold z_kd at hk
  by_cases h1 : k < 0
  · rw [if_pos h1] at hk; subst hk; exact absurd rfl h9
  · rw [if_neg h1] at hk
    by_cases h2 : n ≤ k.toNat
    · rw [if_pos h2] at hk; subst hk; exact absurd rfl h9
    · exact ⟨by omega, by omega, by omega⟩
theorem z_w_at {ca : Nat → ClassId} {base n : Nat} {h : Int → Int → Int} {k : Int} {kd : Nat × Nat} (hk : z_kd n k = kd) (h9 : kd.1 ≠ 9) : (z_w ca base n h)[k.toNat]? = some (base + k.toNat, z_e ca base kd (h k)) := by
  obtain ⟨h0, h1, h2⟩ := z_kd_spec hk h9
  unfold z_w
  rw [List.getElem?_map, List.getElem?_range h1]
  show some (base + k.toNat, z_e ca base (z_kd n ((k.toNat : Nat) : Int)) (h ((k.toNat : Nat) : Int))) = _
  rw [h2, hk]
theorem z_w_get {ca : Nat → ClassId} {base n : Nat} {h : Int → Int → Int} {k : Nat} {q : Nat × va_E} (hq : (z_w ca base n h)[k]? = some q) : k < n ∧ q = (base + k, z_e ca base (z_kd n (k : Int)) (h (k : Int))) := by
  unfold z_w at hq
  rw [List.getElem?_map] at hq
  by_cases hk : k < n
  · rw [List.getElem?_range hk] at hq
    exact ⟨hk, (Option.some.inj hq).symm⟩
  · rw [List.getElem?_eq_none (by simp; omega)] at hq
    cases hq
theorem z_D (ca : Nat → ClassId) (base n : Nat) (h : Int → Int → Int) : va_D (fun q => base ≤ q) (z_w ca base n h) := by
  refine ⟨fun i j p q hi hj e => ?_, fun k q hk => ?_⟩
  · obtain ⟨-, rfl⟩ := z_w_get hi
    obtain ⟨-, rfl⟩ := z_w_get hj
    exact Nat.add_left_cancel e
  · obtain ⟨-, rfl⟩ := z_w_get hk
    exact Nat.le_add_right _ _
theorem z_w_set {ca : Nat → ClassId} {base n : Nat} {h h' : Int → Int → Int} {k : Int} {kd : Nat × Nat} (hk : z_kd n k = kd) (h9 : kd.1 ≠ 9) {e : va_E} (he : z_e ca base kd (h' k) = e) (ho : ∀ q, q ≠ k → h' q = h q) : (z_w ca base n h).set k.toNat (base + k.toNat, e) = z_w ca base n h' := by
  obtain ⟨h0, h1, h2⟩ := z_kd_spec hk h9
  apply List.ext_getElem?
  intro i
  have hl : k.toNat < (z_w ca base n h).length := by unfold z_w; simp; exact h1
  by_cases hi : i = k.toNat
  · subst hi
    rw [List.getElem?_set_self hl, z_w_at hk h9, he]
  · rw [List.getElem?_set_ne (Ne.symm hi)]
    unfold z_w
    rw [List.getElem?_map, List.getElem?_map]
    by_cases hn : i < n
    · rw [List.getElem?_range hn]
      show some (base + i, z_e ca base (z_kd n (i : Int)) (h (i : Int))) = some (base + i, z_e ca base (z_kd n (i : Int)) (h' (i : Int)))
      rw [ho (i : Int) (by omega)]
    · rw [List.getElem?_eq_none (by simp; omega)]
      rfl
theorem z_fs_at {base ci j : Nat} {f : Int → Int} (hj : j < z_nf ci) : (z_fs base ci f)[j]? = some (z_v base (z_tag (z_ty ci j), f j)) := by
  unfold z_fs
  rw [List.getElem?_map, List.getElem?_range hj]
  rfl
theorem z_fs_len (base ci : Nat) (f : Int → Int) : (z_fs base ci f).length = z_nf ci := by unfold z_fs; simp
theorem z_fs_set {base ci j : Nat} {f g : Int → Int} {v : Int} (hj : j < z_nf ci) (h1 : g j = v) (h2 : ∀ r : Int, r ≠ j → g r = f r) : (z_fs base ci f).set j (z_v base (z_tag (z_ty ci j), v)) = z_fs base ci g := by
  apply List.ext_getElem?
  intro i
  by_cases hi : i = j
  · subst hi
    rw [List.getElem?_set_self (by rw [z_fs_len]; exact hj), z_fs_at hj, h1]
  · rw [List.getElem?_set_ne (Ne.symm hi)]
    unfold z_fs
    rw [List.getElem?_map, List.getElem?_map]
    by_cases hn : i < z_nf ci
    · rw [List.getElem?_range hn]
      show some (z_v base (z_tag (z_ty ci i), f i)) = some (z_v base (z_tag (z_ty ci i), g i))
      rw [h2 (i : Int) (by omega)]
    · rw [List.getElem?_eq_none (by simp; omega)]
      rfl
theorem z_st_at (h : Int → Int → Int) (k j v : Int) : z_st h k j v k j = v := by simp [z_st]
theorem z_st_ne (h : Int → Int → Int) {k j v q r : Int} (e : ¬ (q = k ∧ r = j)) : z_st h k j v q r = h q r := by
  unfold z_st
  by_cases h1 : q = k
  · subst h1
    rw [if_pos rfl, if_neg (fun q => e ⟨rfl, q⟩)]
  · rw [if_neg h1]
theorem z_st_cell (h : Int → Int → Int) {k j v q : Int} (e : q ≠ k) : z_st h k j v q = h q := by
  funext r
  exact z_st_ne h (fun x => e x.1)
theorem z_st_slot (h : Int → Int → Int) {k j v q r : Int} (e : r ≠ j) : z_st h k j v q r = h q r := z_st_ne h (fun x => e x.2)
theorem z_st_twice (h : Int → Int → Int) (k j v w : Int) : z_st (z_st h k j v) k j w = z_st h k j w := by
  funext q r
  unfold z_st
  by_cases h1 : q = k <;> by_cases h2 : r = j <;> simp [h1, h2]
theorem z_st_same (h : Int → Int → Int) {k j v : Int} (e : h k j = v) : z_st h k j v = h := by
  funext q r
  unfold z_st
  by_cases h1 : q = k <;> by_cases h2 : r = j <;> simp [h1, h2, e]
theorem z_st_swap (h : Int → Int → Int) {k j v k' j' v' : Int} (e : ¬ (k = k' ∧ j = j')) : z_st (z_st h k j v) k' j' v' = z_st (z_st h k' j' v') k j v := by
  funext q r
  unfold z_st
  by_cases h1 : q = k <;> by_cases h2 : r = j <;> by_cases h3 : q = k' <;> by_cases h4 : r = j' <;> simp_all
