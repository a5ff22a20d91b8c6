/-! THE CALCULUS, 4: rows for fields, arrays, answers, calls, new cells -/
/-- entry idx of the pool of own is field j of kind ci, of tag t, final or not -/
def z_F (own : String) (idx ci j t : Nat) (fin : Bool) : Prop := ∃ (C : String) (T : u_T), vwCl[ci]? = some (C, T, z_nf ci) ∧ j < z_nf ci ∧ (∀ w ∈ u_ws C T (z_nf ci), w ∈ z_gw) ∧ (∀ k, k < z_nf ci → parseFieldDescriptor (T k).2.2.1 = some (z_ty ci k)) ∧ (∀ a, a < z_nf ci → ∀ b, b < z_nf ci → a ≠ b → (T a).2.1 ≠ (T b).2.1) ∧ Cond.fieldLink own idx (T j).1 (T j).2.1 (T j).2.2.1 ∈ z_gw ∧ (T j).2.2.2 = fin ∧ z_tag (z_ty ci j) = t ∧ (T j).1 = C
theorem V_get {Γ : z_C} {M : z_M} {a : Nat × Nat × Nat} {pc : Nat} {L st : List (Nat × Int)} {h : z_H} {idx ci j t : Nat} {fin : Bool} {k v : Int} (X : z_Ok Γ M) (d : decode M.2.1 pc = .ok (.getfield idx, 3)) (f : z_F M.1.cls idx ci j t fin) (hk : z_kd a.1 k = (0, ci)) (hv : h k j = v) (kk : z_V Γ a (pc + 3) L ((t, v) :: st) h) : z_V Γ a pc L ((2, k) :: st) h := by
  obtain ⟨p, l, e, R, s, m, args, below, meth, c, Q, D, ca, base⟩ := Γ
  obtain ⟨y, cc, nL, ret, fr, lo, rc, rs⟩ := M
  obtain ⟨n, cells, slots⟩ := a
  obtain ⟨hx, hb, hml, hown, hts, hlk, hrt, hfr, hlo, hrc, hrs, hK, hbs, hnm⟩ := X
  intro H locs ls hW hS hL
  obtain ⟨C, T, f1, f2, f3, f4, f5, f6, f7, f8, f9⟩ := f
  have k0 := (z_kd_spec hk (Nat.ne_of_beq_eq_false rfl)).1
  have kk := kk H locs ls hW hS hL
  rw [List.map_cons, z_v_ref k0]
  refine va_get (D := D) (ci := ci) (v := z_v base (t, v)) (C := C) (T := T) (N := z_nf ci) hx hb hts f3 hown hK.1 hW.2 k.toNat (z_w_at hk (Nat.ne_of_beq_eq_false rfl)) f1 j f2 (hts _ f6) (fun _ h9 => h9) ?_ d kk
  show (z_fs base ci (h k))[j]? = _
  rw [z_fs_at f2, f8, hv]
theorem z_fitR (base : Nat) (z : Int) {ty : FieldType} (h : z_tag ty = 2) : narrow ty (z_v base (2, z)) = z_v base (2, z) ∧ fits ty (z_v base (2, z)) = true := by
  show narrow ty (va_rf (z_on base z)) = va_rf (z_on base z) ∧ fits ty (va_rf (z_on base z)) = true
  cases ty <;> first | (exact absurd h (by decide)) | (unfold z_on; split <;> exact ⟨rfl, rfl⟩)
theorem z_fitI (base : Nat) (z : Int) : narrow .int (z_v base (0, z)) = z_v base (0, z) ∧ fits .int (z_v base (0, z)) = true := ⟨rfl, rfl⟩
theorem z_fitL (base : Nat) (z : Int) : narrow .long (z_v base (1, z)) = z_v base (1, z) ∧ fits .long (z_v base (1, z)) = true := ⟨rfl, rfl⟩
theorem z_fitZ (base : Nat) {z : Int} (h : z = 0 ∨ z = 1) : narrow .boolean (z_v base (0, z)) = z_v base (0, z) ∧ fits .boolean (z_v base (0, z)) = true := by
  rcases h with rfl | rfl <;> exact ⟨rfl, rfl⟩
/-- a value that a field of that type takes as it is -/
def z_Fit (ty : FieldType) (t : Nat) (v : Int) : Prop := ∀ base : Nat, narrow ty (z_v base (t, v)) = z_v base (t, v) ∧ fits ty (z_v base (t, v)) = true
theorem V_put {Γ : z_C} {M : z_M} {a : Nat × Nat × Nat} {pc : Nat} {L st : List (Nat × Int)} {h : z_H} {idx ci j t : Nat} {k v : Int} (X : z_Ok Γ M) (d : decode M.2.1 pc = .ok (.putfield idx, 3)) (f : z_F M.1.cls idx ci j t false) (hk : z_kd a.1 k = (0, ci)) (hf : z_Fit (z_ty ci j) t v) (kk : z_V Γ a (pc + 3) L st (z_st h k j v)) : z_V Γ a pc L ((t, v) :: (2, k) :: st) h := by
  obtain ⟨p, l, e, R, s, m, args, below, meth, c, Q, D, ca, base⟩ := Γ
  obtain ⟨y, cc, nL, ret, fr, lo, rc, rs⟩ := M
  obtain ⟨n, cells, slots⟩ := a
  obtain ⟨hx, hb, hml, hown, hts, hlk, hrt, hfr, hlo, hrc, hrs, hK, hbs, hnm⟩ := X
  intro H locs ls hW hS hL
  obtain ⟨C, T, f1, f2, f3, f4, f5, f6, f7, f8, f9⟩ := f
  have k0 := (z_kd_spec hk (Nat.ne_of_beq_eq_false rfl)).1
  rw [List.map_cons, List.map_cons, z_v_ref k0]
  refine va_put (D := D) (ci := ci) (v := z_v base (t, v)) (ty := z_ty ci j) (C := C) (T := T) (N := z_nf ci) hx hb hts f3 (z_ty ci) f4 f5 hown hK.1 hW.2 (z_D ca base n h) hS k.toNat (z_w_at hk (Nat.ne_of_beq_eq_false rfl)) f1 j f2 (hts _ f6) (fun _ h9 => h9) f7 (f4 j f2) (hf base).1 (hf base).2 (by show j < (z_fs base ci (h k)).length; rw [z_fs_len]; exact f2) d (fun H1 locs1 hP1 hD1 hS1 => ?_)
  refine kk H1 locs1 ls ?_ hS1 hL
  have e : (z_w ca base n h).set k.toNat (base + k.toNat, .inr (ci, (z_fs base ci (h k)).set j (z_v base (t, v)))) = z_w ca base n (z_st h k j v) := by
    refine z_w_set hk (Nat.ne_of_beq_eq_false rfl) ?_ (fun q hq => z_st_cell h hq)
    show Sum.inr (ci, z_fs base ci (z_st h k j v k)) = _
    rw [← f8, z_fs_set f2 (z_st_at h k j v) (fun r hr => z_st_slot h hr)]
  exact ⟨hW.1, by show va_P _ _ _ _; rw [← e]; exact hP1⟩
theorem V_putF {Γ : z_C} {M : z_M} {a : Nat × Nat × Nat} {pc : Nat} {L st : List (Nat × Int)} {h : z_H} {idx ci j t : Nat} {k v : Int} (X : z_Ok Γ M) (d : decode M.2.1 pc = .ok (.putfield idx, 3)) (f : z_F M.1.cls idx ci j t true) (hin : M.1.name = "<init>") (hdc : ∀ C T, vwCl[ci]? = some (C, T, z_nf ci) → C = M.1.cls) (hk : z_kd a.1 k = (0, ci)) (hf : z_Fit (z_ty ci j) t v) (kk : z_V Γ a (pc + 3) L st (z_st h k j v)) : z_V Γ a pc L ((t, v) :: (2, k) :: st) h := by
  obtain ⟨p, l, e, R, s, m, args, below, meth, c, Q, D, ca, base⟩ := Γ
  obtain ⟨y, cc, nL, ret, fr, lo, rc, rs⟩ := M
  obtain ⟨n, cells, slots⟩ := a
  obtain ⟨hx, hb, hml, hown, hts, hlk, hrt, hfr, hlo, hrc, hrs, hK, hbs, hnm⟩ := X
  intro H locs ls hW hS hL
  obtain ⟨C, T, f1, f2, f3, f4, f5, f6, f7, f8, f9⟩ := f
  have k0 := (z_kd_spec hk (Nat.ne_of_beq_eq_false rfl)).1
  rw [List.map_cons, List.map_cons, z_v_ref k0]
  refine va_putF (D := D) (ci := ci) (v := z_v base (t, v)) (ty := z_ty ci j) (C := C) (T := T) (N := z_nf ci) hx hb hts f3 (z_ty ci) f4 f5 hown hK.1 hW.2 (z_D ca base n h) hS k.toNat (z_w_at hk (Nat.ne_of_beq_eq_false rfl)) f1 j f2 (hts _ f6) (fun _ h9 => h9) f7 (hnm.trans hin) (f9.trans (hdc C T f1)) (f4 j f2) (hf base).1 (hf base).2 (by show j < (z_fs base ci (h k)).length; rw [z_fs_len]; exact f2) d (fun H1 locs1 hP1 hD1 hS1 => ?_)
  refine kk H1 locs1 ls ?_ hS1 hL
  have e : (z_w ca base n h).set k.toNat (base + k.toNat, .inr (ci, (z_fs base ci (h k)).set j (z_v base (t, v)))) = z_w ca base n (z_st h k j v) := by
    refine z_w_set hk (Nat.ne_of_beq_eq_false rfl) ?_ (fun q hq => z_st_cell h hq)
    show Sum.inr (ci, z_fs base ci (z_st h k j v k)) = _
    rw [← f8, z_fs_set f2 (z_st_at h k j v) (fun r hr => z_st_slot h hr)]
  exact ⟨hW.1, by show va_P _ _ _ _; rw [← e]; exact hP1⟩
theorem V_iald {Γ : z_C} {M : z_M} {a : Nat × Nat × Nat} {pc : Nat} {L st : List (Nat × Int)} {h : z_H} {N : Nat} {k i : Int} (X : z_Ok Γ M) (d : decode M.2.1 pc = .ok (.iaload, 1)) (hk : z_kd a.1 k = (1, N)) (h0 : 0 ≤ i) (h1 : i < N) (hN : N < 2147483648) (kk : z_V Γ a (pc + 1) L ((0, h k i) :: st) h) : z_V Γ a pc L ((0, i) :: (2, k) :: st) h := by
  obtain ⟨p, l, e, R, s, m, args, below, meth, c, Q, D, ca, base⟩ := Γ
  obtain ⟨y, cc, nL, ret, fr, lo, rc, rs⟩ := M
  obtain ⟨n, cells, slots⟩ := a
  obtain ⟨hx, hb, hml, hown, hts, hlk, hrt, hfr, hlo, hrc, hrs, hK, hbs, hnm⟩ := X
  intro H locs ls hW hS hL
  have k0 := (z_kd_spec hk (Nat.ne_of_beq_eq_false rfl)).1
  have kk := kk H locs ls hW hS hL
  obtain ⟨g1, g2, g3⟩ := z_in h0 h1 hN
  rw [List.map_cons, List.map_cons, z_v_ref k0]
  refine va_iald (D := D) (cA := ca 1) (n := N) (f := fun j => z_i (h k j)) hx hb hK.1 hW.2 k.toNat 0 (z_w_at hk (Nat.ne_of_beq_eq_false rfl)) rfl g1 d ?_
  rw [g2]
  show W _ _ _ _ _ _ _ _ _ _ _ _ _ _ _ (F0 m (pc + 1) ls (.int (z_i (h k ((i.toNat : Nat) : Int))) :: _))
  rw [g3]
  exact kk
theorem V_bald {Γ : z_C} {M : z_M} {a : Nat × Nat × Nat} {pc : Nat} {L st : List (Nat × Int)} {h : z_H} {N : Nat} {k i : Int} (X : z_Ok Γ M) (d : decode M.2.1 pc = .ok (.baload, 1)) (hk : z_kd a.1 k = (2, N)) (h0 : 0 ≤ i) (h1 : i < N) (hN : N < 2147483648) (kk : z_V Γ a (pc + 1) L ((0, h k i) :: st) h) : z_V Γ a pc L ((0, i) :: (2, k) :: st) h := by
  obtain ⟨p, l, e, R, s, m, args, below, meth, c, Q, D, ca, base⟩ := Γ
  obtain ⟨y, cc, nL, ret, fr, lo, rc, rs⟩ := M
  obtain ⟨n, cells, slots⟩ := a
  obtain ⟨hx, hb, hml, hown, hts, hlk, hrt, hfr, hlo, hrc, hrs, hK, hbs, hnm⟩ := X
  intro H locs ls hW hS hL
  have k0 := (z_kd_spec hk (Nat.ne_of_beq_eq_false rfl)).1
  have kk := kk H locs ls hW hS hL
  obtain ⟨g1, g2, g3⟩ := z_in h0 h1 hN
  rw [List.map_cons, List.map_cons, z_v_ref k0]
  refine va_zald (D := D) (cA := ca 2) (n := N) (f := fun j => z_i (h k j)) hx hb hK.1 hW.2 k.toNat 1 (z_w_at hk (Nat.ne_of_beq_eq_false rfl)) rfl g1 d ?_
  rw [g2]
  show W _ _ _ _ _ _ _ _ _ _ _ _ _ _ _ (F0 m (pc + 1) ls (.int (z_i (h k ((i.toNat : Nat) : Int))) :: _))
  rw [g3]
  exact kk
theorem V_aald3 {Γ : z_C} {M : z_M} {a : Nat × Nat × Nat} {pc : Nat} {L st : List (Nat × Int)} {h : z_H} {N : Nat} {k i : Int} (X : z_Ok Γ M) (d : decode M.2.1 pc = .ok (.aaload, 1)) (hk : z_kd a.1 k = (3, N)) (h0 : 0 ≤ i) (h1 : i < N) (hN : N < 2147483648) {v : Int} (hv : h k i = v) (kk : z_V Γ a (pc + 1) L ((2, v) :: st) h) : z_V Γ a pc L ((0, i) :: (2, k) :: st) h := by
  obtain ⟨p, l, e, R, s, m, args, below, meth, c, Q, D, ca, base⟩ := Γ
  obtain ⟨y, cc, nL, ret, fr, lo, rc, rs⟩ := M
  obtain ⟨n, cells, slots⟩ := a
  obtain ⟨hx, hb, hml, hown, hts, hlk, hrt, hfr, hlo, hrc, hrs, hK, hbs, hnm⟩ := X
  intro H locs ls hW hS hL
  have k0 := (z_kd_spec hk (Nat.ne_of_beq_eq_false rfl)).1
  have kk := kk H locs ls hW hS hL
  obtain ⟨g1, g2, g3⟩ := z_in h0 h1 hN
  rw [List.map_cons, List.map_cons, z_v_ref k0]
  refine va_aldq (D := D) (cA := ca 3) (n := N) (f := fun j => z_on base (h k j)) hx hb hK.1 hW.2 k.toNat 2 (z_w_at hk (Nat.ne_of_beq_eq_false rfl)) rfl g1 d ?_
  rw [g2]
  show W _ _ _ _ _ _ _ _ _ _ _ _ _ _ _ (F0 m (pc + 1) ls (va_rf (z_on base (h k ((i.toNat : Nat) : Int))) :: _))
  rw [g3, hv]
  exact kk
theorem V_aast3 {Γ : z_C} {M : z_M} {a : Nat × Nat × Nat} {pc : Nat} {L st : List (Nat × Int)} {h : z_H} {N : Nat} {k i v : Int} (X : z_Ok Γ M) (d : decode M.2.1 pc = .ok (.aastore, 1)) (hk : z_kd a.1 k = (3, N)) (hkv : z_kd a.1 v = (0, 1)) (h0 : 0 ≤ i) (h1 : i < N) (hN : N < 2147483648) (kk : z_V Γ a (pc + 1) L st (z_st h k i v)) : z_V Γ a pc L ((2, v) :: (0, i) :: (2, k) :: st) h := by
  obtain ⟨p, l, e, R, s, m, args, below, meth, c, Q, D, ca, base⟩ := Γ
  obtain ⟨y, cc, nL, ret, fr, lo, rc, rs⟩ := M
  obtain ⟨n, cells, slots⟩ := a
  obtain ⟨hx, hb, hml, hown, hts, hlk, hrt, hfr, hlo, hrc, hrs, hK, hbs, hnm⟩ := X
  intro H locs ls hW hS hL
  have k0 := (z_kd_spec hk (Nat.ne_of_beq_eq_false rfl)).1
  have v0 := (z_kd_spec hkv (Nat.ne_of_beq_eq_false rfl)).1
  obtain ⟨g1, g2, g3⟩ := z_in h0 h1 hN
  rw [List.map_cons, List.map_cons, List.map_cons, z_v_ref k0, z_v_ref v0]
  refine va_astq (D := D) (cA := ca 3) (n := N) (f := fun j => z_on base (h k j)) hx hb hK.1 hW.2 (z_D ca base n h) hS k.toNat 2 v.toNat 1 (z_w_at hk (Nat.ne_of_beq_eq_false rfl)) rfl (z_w_at hkv (Nat.ne_of_beq_eq_false rfl)) rfl g1 d (fun H1 locs1 hP1 hD1 hS1 => ?_)
  refine kk H1 locs1 ls ⟨hW.1, ?_⟩ hS1 hL
  show va_P _ _ _ _
  rw [g2] at hP1
  rw [← z_w_set (ca := ca) (base := base) (h := h) (h' := z_st h k i v) hk (Nat.ne_of_beq_eq_false rfl) rfl (fun q hq => z_st_cell h hq)]
  have e : (fun j : Nat => z_on base (z_st h k i v k j)) = va_up (fun j : Nat => z_on base (h k j)) i.toNat (some (base + v.toNat)) := by
    funext j
    unfold va_up
    by_cases hj : j = i.toNat
    · rw [if_pos hj, hj, g3, z_st_at]
      unfold z_on
      rw [if_neg (by omega)]
    · rw [if_neg hj, z_st_slot h (show (j : Int) ≠ i by omega)]
  show va_P D vwCl ((z_w ca base n h).set k.toNat (base + k.toNat, .inl (ca 3, N, .inr (.inr (.inr (.inr fun j : Nat => z_on base (z_st h k i v k j))))))) H1
  rw [e]
  exact hP1
theorem V_aald4 {Γ : z_C} {M : z_M} {a : Nat × Nat × Nat} {pc : Nat} {L st : List (Nat × Int)} {h : z_H} {N : Nat} {k i : Int} (X : z_Ok Γ M) (d : decode M.2.1 pc = .ok (.aaload, 1)) (hk : z_kd a.1 k = (4, N)) (h0 : 0 ≤ i) (h1 : i < N) (hN : N < 2147483648) {v : Int} (hv : h k i = v) (kk : z_V Γ a (pc + 1) L ((2, v) :: st) h) : z_V Γ a pc L ((0, i) :: (2, k) :: st) h := by
  obtain ⟨p, l, e, R, s, m, args, below, meth, c, Q, D, ca, base⟩ := Γ
  obtain ⟨y, cc, nL, ret, fr, lo, rc, rs⟩ := M
  obtain ⟨n, cells, slots⟩ := a
  obtain ⟨hx, hb, hml, hown, hts, hlk, hrt, hfr, hlo, hrc, hrs, hK, hbs, hnm⟩ := X
  intro H locs ls hW hS hL
  have k0 := (z_kd_spec hk (Nat.ne_of_beq_eq_false rfl)).1
  have kk := kk H locs ls hW hS hL
  obtain ⟨g1, g2, g3⟩ := z_in h0 h1 hN
  rw [List.map_cons, List.map_cons, z_v_ref k0]
  refine va_aldq (D := D) (cA := ca 4) (n := N) (f := fun j => z_on base (h k j)) hx hb hK.1 hW.2 k.toNat 3 (z_w_at hk (Nat.ne_of_beq_eq_false rfl)) rfl g1 d ?_
  rw [g2]
  show W _ _ _ _ _ _ _ _ _ _ _ _ _ _ _ (F0 m (pc + 1) ls (va_rf (z_on base (h k ((i.toNat : Nat) : Int))) :: _))
  rw [g3, hv]
  exact kk
theorem V_aast4 {Γ : z_C} {M : z_M} {a : Nat × Nat × Nat} {pc : Nat} {L st : List (Nat × Int)} {h : z_H} {N : Nat} {k i v : Int} (X : z_Ok Γ M) (d : decode M.2.1 pc = .ok (.aastore, 1)) (hk : z_kd a.1 k = (4, N)) (hkv : z_kd a.1 v = (0, 5)) (h0 : 0 ≤ i) (h1 : i < N) (hN : N < 2147483648) (kk : z_V Γ a (pc + 1) L st (z_st h k i v)) : z_V Γ a pc L ((2, v) :: (0, i) :: (2, k) :: st) h := by
  obtain ⟨p, l, e, R, s, m, args, below, meth, c, Q, D, ca, base⟩ := Γ
  obtain ⟨y, cc, nL, ret, fr, lo, rc, rs⟩ := M
  obtain ⟨n, cells, slots⟩ := a
  obtain ⟨hx, hb, hml, hown, hts, hlk, hrt, hfr, hlo, hrc, hrs, hK, hbs, hnm⟩ := X
  intro H locs ls hW hS hL
  have k0 := (z_kd_spec hk (Nat.ne_of_beq_eq_false rfl)).1
  have v0 := (z_kd_spec hkv (Nat.ne_of_beq_eq_false rfl)).1
  obtain ⟨g1, g2, g3⟩ := z_in h0 h1 hN
  rw [List.map_cons, List.map_cons, List.map_cons, z_v_ref k0, z_v_ref v0]
  refine va_astq (D := D) (cA := ca 4) (n := N) (f := fun j => z_on base (h k j)) hx hb hK.1 hW.2 (z_D ca base n h) hS k.toNat 3 v.toNat 5 (z_w_at hk (Nat.ne_of_beq_eq_false rfl)) rfl (z_w_at hkv (Nat.ne_of_beq_eq_false rfl)) rfl g1 d (fun H1 locs1 hP1 hD1 hS1 => ?_)
  refine kk H1 locs1 ls ⟨hW.1, ?_⟩ hS1 hL
  show va_P _ _ _ _
  rw [g2] at hP1
  rw [← z_w_set (ca := ca) (base := base) (h := h) (h' := z_st h k i v) hk (Nat.ne_of_beq_eq_false rfl) rfl (fun q hq => z_st_cell h hq)]
  have e : (fun j : Nat => z_on base (z_st h k i v k j)) = va_up (fun j : Nat => z_on base (h k j)) i.toNat (some (base + v.toNat)) := by
    funext j
    unfold va_up
    by_cases hj : j = i.toNat
    · rw [if_pos hj, hj, g3, z_st_at]
      unfold z_on
      rw [if_neg (by omega)]
    · rw [if_neg hj, z_st_slot h (show (j : Int) ≠ i by omega)]
  show va_P D vwCl ((z_w ca base n h).set k.toNat (base + k.toNat, .inl (ca 4, N, .inr (.inr (.inr (.inr fun j : Nat => z_on base (z_st h k i v k j))))))) H1
  rw [e]
  exact hP1
theorem V_iast {Γ : z_C} {M : z_M} {a : Nat × Nat × Nat} {pc : Nat} {L st : List (Nat × Int)} {h : z_H} {N : Nat} {k i v : Int} (X : z_Ok Γ M) (d : decode M.2.1 pc = .ok (.iastore, 1)) (hk : z_kd a.1 k = (1, N)) (h0 : 0 ≤ i) (h1 : i < N) (hN : N < 2147483648) (kk : z_V Γ a (pc + 1) L st (z_st h k i v)) : z_V Γ a pc L ((0, v) :: (0, i) :: (2, k) :: st) h := by
  obtain ⟨p, l, e, R, s, m, args, below, meth, c, Q, D, ca, base⟩ := Γ
  obtain ⟨y, cc, nL, ret, fr, lo, rc, rs⟩ := M
  obtain ⟨n, cells, slots⟩ := a
  obtain ⟨hx, hb, hml, hown, hts, hlk, hrt, hfr, hlo, hrc, hrs, hK, hbs, hnm⟩ := X
  intro H locs ls hW hS hL
  have k0 := (z_kd_spec hk (Nat.ne_of_beq_eq_false rfl)).1
  obtain ⟨g1, g2, g3⟩ := z_in h0 h1 hN
  rw [List.map_cons, List.map_cons, List.map_cons, z_v_ref k0]
  refine va_iast (D := D) (cA := ca 1) (n := N) (f := fun j => z_i (h k j)) hx hb hK.1 hW.2 (z_D ca base n h) hS k.toNat 0 (z_w_at hk (Nat.ne_of_beq_eq_false rfl)) rfl g1 d (fun H1 locs1 hP1 hD1 hS1 => ?_)
  refine kk H1 locs1 ls ⟨hW.1, ?_⟩ hS1 hL
  show va_P _ _ _ _
  rw [g2] at hP1
  rw [← z_w_set (ca := ca) (base := base) (h := h) (h' := z_st h k i v) hk (Nat.ne_of_beq_eq_false rfl) rfl (fun q hq => z_st_cell h hq)]
  have e : (fun j : Nat => z_i (z_st h k i v k j)) = upd (fun j : Nat => z_i (h k j)) i.toNat (z_i v) := by
    funext j
    by_cases hj : j = i.toNat
    · rw [hj, pk_us, g3, z_st_at]
    · rw [pk_un hj, z_st_slot h (show (j : Int) ≠ i by omega)]
  show va_P D vwCl ((z_w ca base n h).set k.toNat (base + k.toNat, .inl (ca 1, N, .inl fun j : Nat => z_i (z_st h k i v k j)))) H1
  rw [e]
  exact hP1
theorem V_bast {Γ : z_C} {M : z_M} {a : Nat × Nat × Nat} {pc : Nat} {L st : List (Nat × Int)} {h : z_H} {N : Nat} {k i v : Int} (X : z_Ok Γ M) (d : decode M.2.1 pc = .ok (.bastore, 1)) (hk : z_kd a.1 k = (2, N)) (h0 : 0 ≤ i) (h1 : i < N) (hN : N < 2147483648) (hv : v = 0 ∨ v = 1) (kk : z_V Γ a (pc + 1) L st (z_st h k i v)) : z_V Γ a pc L ((0, v) :: (0, i) :: (2, k) :: st) h := by
  obtain ⟨p, l, e, R, s, m, args, below, meth, c, Q, D, ca, base⟩ := Γ
  obtain ⟨y, cc, nL, ret, fr, lo, rc, rs⟩ := M
  obtain ⟨n, cells, slots⟩ := a
  obtain ⟨hx, hb, hml, hown, hts, hlk, hrt, hfr, hlo, hrc, hrs, hK, hbs, hnm⟩ := X
  intro H locs ls hW hS hL
  have k0 := (z_kd_spec hk (Nat.ne_of_beq_eq_false rfl)).1
  obtain ⟨g1, g2, g3⟩ := z_in h0 h1 hN
  rw [List.map_cons, List.map_cons, List.map_cons, z_v_ref k0]
  refine va_zast (D := D) (cA := ca 2) (n := N) (f := fun j => z_i (h k j)) hx hb hK.1 hW.2 (z_D ca base n h) hS k.toNat 1 (z_w_at hk (Nat.ne_of_beq_eq_false rfl)) rfl g1 d (fun H1 locs1 hP1 hD1 hS1 => ?_)
  refine kk H1 locs1 ls ⟨hW.1, ?_⟩ hS1 hL
  show va_P _ _ _ _
  have ev : vp_nar .boolean (z_i v) = z_i v := by rcases hv with rfl | rfl <;> rfl
  have hP1 : va_P D vwCl ((z_w ca base n h).set k.toNat (base + k.toNat, .inl (ca 2, N, .inl (upd (fun j : Nat => z_i (h k j)) (z_i i).toNatClampNeg (vp_nar .boolean (z_i v)))))) H1 := hP1
  rw [g2, ev] at hP1
  rw [← z_w_set (ca := ca) (base := base) (h := h) (h' := z_st h k i v) hk (Nat.ne_of_beq_eq_false rfl) rfl (fun q hq => z_st_cell h hq)]
  have e : (fun j : Nat => z_i (z_st h k i v k j)) = upd (fun j : Nat => z_i (h k j)) i.toNat (z_i v) := by
    funext j
    by_cases hj : j = i.toNat
    · rw [hj, pk_us, g3, z_st_at]
    · rw [pk_un hj, z_st_slot h (show (j : Int) ≠ i by omega)]
  show va_P D vwCl ((z_w ca base n h).set k.toNat (base + k.toNat, .inl (ca 2, N, .inl fun j : Nat => z_i (z_st h k i v k j)))) H1
  rw [e]
  exact hP1
theorem V_alen {Γ : z_C} {M : z_M} {a : Nat × Nat × Nat} {pc : Nat} {L st : List (Nat × Int)} {h : z_H} {N : Nat} {k : Int} (X : z_Ok Γ M) (d : decode M.2.1 pc = .ok (.arraylength, 1)) (hk : z_kd a.1 k = (1, N)) (kk : z_V Γ a (pc + 1) L ((0, (N : Int)) :: st) h) : z_V Γ a pc L ((2, k) :: st) h := by
  obtain ⟨p, l, e, R, s, m, args, below, meth, c, Q, D, ca, base⟩ := Γ
  obtain ⟨y, cc, nL, ret, fr, lo, rc, rs⟩ := M
  obtain ⟨n, cells, slots⟩ := a
  obtain ⟨hx, hb, hml, hown, hts, hlk, hrt, hfr, hlo, hrc, hrs, hK, hbs, hnm⟩ := X
  intro H locs ls hW hS hL
  have k0 := (z_kd_spec hk (Nat.ne_of_beq_eq_false rfl)).1
  have kk := kk H locs ls hW hS hL
  rw [List.map_cons, z_v_ref k0]
  exact va_alen (D := D) (cA := ca 1) (v := z_i N) hx hb hK.1 hW.2 k.toNat 0 (z_w_at hk (Nat.ne_of_beq_eq_false rfl)) rfl (Int32.ofInt_eq_ofNat).symm d kk
