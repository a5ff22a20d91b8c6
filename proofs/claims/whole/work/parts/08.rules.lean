/-! THE CALCULUS, 3: rows for plain instructions -/
theorem V_iconst {Γ : z_C} {M : z_M} {a : Nat × Nat × Nat} {pc : Nat} {L st : List (Nat × Int)} {h : z_H} {z : Int} (X : z_Ok Γ M) (d : decode M.2.1 pc = .ok (.iconst z, 1)) (k : z_V Γ a (pc + 1) L ((0, z) :: st) h) : z_V Γ a pc L st h := by
  obtain ⟨p, l, e, R, s, m, args, below, meth, c, Q, D, ca, base⟩ := Γ
  obtain ⟨y, cc, nL, ret, fr, lo, rc, rs⟩ := M
  obtain ⟨n, cells, slots⟩ := a
  obtain ⟨hx, hb, hml, hown, hts, hlk, hrt, hfr, hlo, hrc, hrs, hK, hbs, hnm⟩ := X
  intro H locs ls hW hS hL
  exact lv_iconst (v := z_i z) hx hb d rfl (k H locs ls hW hS hL)
theorem V_bipush {Γ : z_C} {M : z_M} {a : Nat × Nat × Nat} {pc : Nat} {L st : List (Nat × Int)} {h : z_H} {z : Int} (X : z_Ok Γ M) (d : decode M.2.1 pc = .ok (.bipush z, 2)) (hz : (Int8.ofInt z).toInt32 = z_i z) (k : z_V Γ a (pc + 2) L ((0, z) :: st) h) : z_V Γ a pc L st h := by
  obtain ⟨p, l, e, R, s, m, args, below, meth, c, Q, D, ca, base⟩ := Γ
  obtain ⟨y, cc, nL, ret, fr, lo, rc, rs⟩ := M
  obtain ⟨n, cells, slots⟩ := a
  obtain ⟨hx, hb, hml, hown, hts, hlk, hrt, hfr, hlo, hrc, hrs, hK, hbs, hnm⟩ := X
  intro H locs ls hW hS hL
  exact lv_bipush (v := z_i z) hx hb d hz (k H locs ls hW hS hL)
theorem V_sipush {Γ : z_C} {M : z_M} {a : Nat × Nat × Nat} {pc : Nat} {L st : List (Nat × Int)} {h : z_H} {z : Int} (X : z_Ok Γ M) (d : decode M.2.1 pc = .ok (.sipush z, 3)) (hz : (Int16.ofInt z).toInt32 = z_i z) (k : z_V Γ a (pc + 3) L ((0, z) :: st) h) : z_V Γ a pc L st h := by
  obtain ⟨p, l, e, R, s, m, args, below, meth, c, Q, D, ca, base⟩ := Γ
  obtain ⟨y, cc, nL, ret, fr, lo, rc, rs⟩ := M
  obtain ⟨n, cells, slots⟩ := a
  obtain ⟨hx, hb, hml, hown, hts, hlk, hrt, hfr, hlo, hrc, hrs, hK, hbs, hnm⟩ := X
  intro H locs ls hW hS hL
  exact lv_sipush (v := z_i z) hx hb d hz (k H locs ls hW hS hL)
theorem V_ldc {Γ : z_C} {M : z_M} {a : Nat × Nat × Nat} {pc : Nat} {L st : List (Nat × Int)} {h : z_H} {i : Nat} {v : Int32} (X : z_Ok Γ M) (z : Int) (d : decode M.2.1 pc = .ok (.ldc i, 2)) (hc : Cond.constant M.1.cls i v ∈ z_gw) (hz : z_i z = v) (k : z_V Γ a (pc + 2) L ((0, z) :: st) h) : z_V Γ a pc L st h := by
  obtain ⟨p, l, e, R, s, m, args, below, meth, c, Q, D, ca, base⟩ := Γ
  obtain ⟨y, cc, nL, ret, fr, lo, rc, rs⟩ := M
  obtain ⟨n, cells, slots⟩ := a
  obtain ⟨hx, hb, hml, hown, hts, hlk, hrt, hfr, hlo, hrc, hrs, hK, hbs, hnm⟩ := X
  intro H locs ls hW hS hL
  subst hz
  exact lv_ldc (v := z_i z) hx hb hown (hts _ hc) d (k H locs ls hW hS hL)
theorem V_ldcw {Γ : z_C} {M : z_M} {a : Nat × Nat × Nat} {pc : Nat} {L st : List (Nat × Int)} {h : z_H} {i : Nat} {v : Int32} (X : z_Ok Γ M) (z : Int) (d : decode M.2.1 pc = .ok (.ldc_w i, 3)) (hc : Cond.constant M.1.cls i v ∈ z_gw) (hz : z_i z = v) (k : z_V Γ a (pc + 3) L ((0, z) :: st) h) : z_V Γ a pc L st h := by
  obtain ⟨p, l, e, R, s, m, args, below, meth, c, Q, D, ca, base⟩ := Γ
  obtain ⟨y, cc, nL, ret, fr, lo, rc, rs⟩ := M
  obtain ⟨n, cells, slots⟩ := a
  obtain ⟨hx, hb, hml, hown, hts, hlk, hrt, hfr, hlo, hrc, hrs, hK, hbs, hnm⟩ := X
  intro H locs ls hW hS hL
  subst hz
  exact lv_ldcw (v := z_i z) hx hb hown (hts _ hc) d (k H locs ls hW hS hL)
theorem V_ldc2 {Γ : z_C} {M : z_M} {a : Nat × Nat × Nat} {pc : Nat} {L st : List (Nat × Int)} {h : z_H} {i : Nat} {v : Int64} (X : z_Ok Γ M) (z : Int) (d : decode M.2.1 pc = .ok (.ldc2_w i, 3)) (hc : Cond.constantLong M.1.cls i v ∈ z_gw) (hz : z_l z = v) (k : z_V Γ a (pc + 3) L ((1, z) :: st) h) : z_V Γ a pc L st h := by
  obtain ⟨p, l, e, R, s, m, args, below, meth, c, Q, D, ca, base⟩ := Γ
  obtain ⟨y, cc, nL, ret, fr, lo, rc, rs⟩ := M
  obtain ⟨n, cells, slots⟩ := a
  obtain ⟨hx, hb, hml, hown, hts, hlk, hrt, hfr, hlo, hrc, hrs, hK, hbs, hnm⟩ := X
  intro H locs ls hW hS hL
  subst hz
  exact W.ldc2 (v := z_l z) hx hb hown (hts _ hc) rfl d (k H locs ls hW hS hL)
theorem V_lconst {Γ : z_C} {M : z_M} {a : Nat × Nat × Nat} {pc : Nat} {L st : List (Nat × Int)} {h : z_H} {z : Int} {q : Fin 2} (X : z_Ok Γ M) (d : decode M.2.1 pc = .ok (.lconst q, 1)) (hz : Int64.ofNat (q : Nat) = z_l z) (k : z_V Γ a (pc + 1) L ((1, z) :: st) h) : z_V Γ a pc L st h := by
  obtain ⟨p, l, e, R, s, m, args, below, meth, c, Q, D, ca, base⟩ := Γ
  obtain ⟨y, cc, nL, ret, fr, lo, rc, rs⟩ := M
  obtain ⟨n, cells, slots⟩ := a
  obtain ⟨hx, hb, hml, hown, hts, hlk, hrt, hfr, hlo, hrc, hrs, hK, hbs, hnm⟩ := X
  intro H locs ls hW hS hL
  exact lv_lconst (v := z_l z) hx hb d hz (k H locs ls hW hS hL)
theorem V_iload_n {Γ : z_C} {M : z_M} {a : Nat × Nat × Nat} {pc : Nat} {L st : List (Nat × Int)} {h : z_H} {z : Int} {q : Fin 4} (X : z_Ok Γ M) (d : decode M.2.1 pc = .ok (.iload_n q, 1)) (hq : L[(q : Nat)]? = some (0, z)) (k : z_V Γ a (pc + 1) L ((0, z) :: st) h) : z_V Γ a pc L st h := by
  obtain ⟨p, l, e, R, s, m, args, below, meth, c, Q, D, ca, base⟩ := Γ
  obtain ⟨y, cc, nL, ret, fr, lo, rc, rs⟩ := M
  obtain ⟨n, cells, slots⟩ := a
  obtain ⟨hx, hb, hml, hown, hts, hlk, hrt, hfr, hlo, hrc, hrs, hK, hbs, hnm⟩ := X
  intro H locs ls hW hS hL
  exact lv_iload_n (x := z_i z) hx hb d rfl (hL.2.2.2 _ _ hq (Nat.ne_of_beq_eq_false rfl)) (k H locs ls hW hS hL)
theorem V_iload {Γ : z_C} {M : z_M} {a : Nat × Nat × Nat} {pc : Nat} {L st : List (Nat × Int)} {h : z_H} {z : Int} {i : Nat} (X : z_Ok Γ M) (d : decode M.2.1 pc = .ok (.iload i, 2)) (hq : L[i]? = some (0, z)) (k : z_V Γ a (pc + 2) L ((0, z) :: st) h) : z_V Γ a pc L st h := by
  obtain ⟨p, l, e, R, s, m, args, below, meth, c, Q, D, ca, base⟩ := Γ
  obtain ⟨y, cc, nL, ret, fr, lo, rc, rs⟩ := M
  obtain ⟨n, cells, slots⟩ := a
  obtain ⟨hx, hb, hml, hown, hts, hlk, hrt, hfr, hlo, hrc, hrs, hK, hbs, hnm⟩ := X
  intro H locs ls hW hS hL
  exact lv_iload (x := z_i z) hx hb d (hL.2.2.2 _ _ hq (Nat.ne_of_beq_eq_false rfl)) (k H locs ls hW hS hL)
theorem V_lload_n {Γ : z_C} {M : z_M} {a : Nat × Nat × Nat} {pc : Nat} {L st : List (Nat × Int)} {h : z_H} {z : Int} {q : Fin 4} (X : z_Ok Γ M) (d : decode M.2.1 pc = .ok (.lload_n q, 1)) (hq : L[(q : Nat)]? = some (1, z)) (k : z_V Γ a (pc + 1) L ((1, z) :: st) h) : z_V Γ a pc L st h := by
  obtain ⟨p, l, e, R, s, m, args, below, meth, c, Q, D, ca, base⟩ := Γ
  obtain ⟨y, cc, nL, ret, fr, lo, rc, rs⟩ := M
  obtain ⟨n, cells, slots⟩ := a
  obtain ⟨hx, hb, hml, hown, hts, hlk, hrt, hfr, hlo, hrc, hrs, hK, hbs, hnm⟩ := X
  intro H locs ls hW hS hL
  exact lv_lload_n (x := z_l z) hx hb d rfl (hL.2.2.2 _ _ hq (Nat.ne_of_beq_eq_false rfl)) (k H locs ls hW hS hL)
theorem V_lload {Γ : z_C} {M : z_M} {a : Nat × Nat × Nat} {pc : Nat} {L st : List (Nat × Int)} {h : z_H} {z : Int} {i : Nat} (X : z_Ok Γ M) (d : decode M.2.1 pc = .ok (.lload i, 2)) (hq : L[i]? = some (1, z)) (k : z_V Γ a (pc + 2) L ((1, z) :: st) h) : z_V Γ a pc L st h := by
  obtain ⟨p, l, e, R, s, m, args, below, meth, c, Q, D, ca, base⟩ := Γ
  obtain ⟨y, cc, nL, ret, fr, lo, rc, rs⟩ := M
  obtain ⟨n, cells, slots⟩ := a
  obtain ⟨hx, hb, hml, hown, hts, hlk, hrt, hfr, hlo, hrc, hrs, hK, hbs, hnm⟩ := X
  intro H locs ls hW hS hL
  exact lv_lload (x := z_l z) hx hb d (hL.2.2.2 _ _ hq (Nat.ne_of_beq_eq_false rfl)) (k H locs ls hW hS hL)
theorem V_aload_n {Γ : z_C} {M : z_M} {a : Nat × Nat × Nat} {pc : Nat} {L st : List (Nat × Int)} {h : z_H} {z : Int} {q : Fin 4} (X : z_Ok Γ M) (d : decode M.2.1 pc = .ok (.aload_n q, 1)) (hq : L[(q : Nat)]? = some (2, z)) (hz : 0 ≤ z) (k : z_V Γ a (pc + 1) L ((2, z) :: st) h) : z_V Γ a pc L st h := by
  obtain ⟨p, l, e, R, s, m, args, below, meth, c, Q, D, ca, base⟩ := Γ
  obtain ⟨y, cc, nL, ret, fr, lo, rc, rs⟩ := M
  obtain ⟨n, cells, slots⟩ := a
  obtain ⟨hx, hb, hml, hown, hts, hlk, hrt, hfr, hlo, hrc, hrs, hK, hbs, hnm⟩ := X
  intro H locs ls hW hS hL
  have e := hL.2.2.2 _ _ hq (Nat.ne_of_beq_eq_false rfl)
  have kk := k H locs ls hW hS hL
  rw [List.map_cons, z_v_ref hz] at kk
  rw [z_v_ref hz] at e
  exact lv_aload_n hx hb d rfl e kk
theorem V_aload {Γ : z_C} {M : z_M} {a : Nat × Nat × Nat} {pc : Nat} {L st : List (Nat × Int)} {h : z_H} {z : Int} {i : Nat} (X : z_Ok Γ M) (d : decode M.2.1 pc = .ok (.aload i, 2)) (hq : L[i]? = some (2, z)) (hz : 0 ≤ z) (k : z_V Γ a (pc + 2) L ((2, z) :: st) h) : z_V Γ a pc L st h := by
  obtain ⟨p, l, e, R, s, m, args, below, meth, c, Q, D, ca, base⟩ := Γ
  obtain ⟨y, cc, nL, ret, fr, lo, rc, rs⟩ := M
  obtain ⟨n, cells, slots⟩ := a
  obtain ⟨hx, hb, hml, hown, hts, hlk, hrt, hfr, hlo, hrc, hrs, hK, hbs, hnm⟩ := X
  intro H locs ls hW hS hL
  have e := hL.2.2.2 _ _ hq (Nat.ne_of_beq_eq_false rfl)
  have kk := k H locs ls hW hS hL
  rw [List.map_cons, z_v_ref hz] at kk
  rw [z_v_ref hz] at e
  exact lv_aload hx hb d e kk
def z_nl (L : List (Nat × Int)) : Bool := L.all fun c => !(c.1 == 1)
theorem z_store {base N : Nat} {ls : Array Slot} {L : List (Nat × Int)} {i : Nat} {c : Nat × Int} (hL : z_L base N ls L) (hi : i < L.length) (hn : z_nl L = true) (hc : c.1 ≠ 1) : ∃ ls', storeLocals ls i (z_v base c) = some ls' ∧ z_L base N ls' (L.set i c) := by
  obtain ⟨h1, h2, h3, h4⟩ := hL
  have hh : lv_has ls N ((List.range L.length).filterMap fun j => (L[j]?).bind fun q => if q.1 = 9 then none else some (j, z_v base q)) := by
    refine ⟨h1, h3, fun q hq => ?_⟩
    obtain ⟨j, hj, e⟩ := List.mem_filterMap.mp hq
    have hjl := List.mem_range.mp hj
    rw [List.getElem?_eq_getElem hjl] at e
    simp only [Option.bind_some] at e
    split at e
    · cases e
    · cases e
      exact h4 j _ (List.getElem?_eq_getElem hjl) (by assumption)
  obtain ⟨ls', e1, e2⟩ := lv_store1 (i := i) (v := z_v base c) hh (by omega) (by rw [z_cat, if_neg hc])
  refine ⟨ls', e1, e2.1, by rw [List.length_set]; exact h2, e2.2.1, fun j q hq h9 => ?_⟩
  by_cases hj : j = i
  · subst hj
    rw [List.getElem?_set_self hi] at hq
    cases hq
    exact e2.2.2 (j, z_v base c) List.mem_cons_self
  · rw [List.getElem?_set_ne (Ne.symm hj)] at hq
    have hjl : j < L.length := (List.getElem?_eq_some_iff.mp hq).1
    refine e2.2.2 (j, z_v base q) (List.mem_cons_of_mem _ (List.mem_filter.mpr ⟨List.mem_filterMap.mpr ⟨j, List.mem_range.mpr hjl, ?_⟩, ?_⟩))
    · rw [hq]
      simp only [Option.bind_some]
      rw [if_neg h9]
    · have hq1 : ¬ q.1 = 1 := by
        have := List.all_eq_true.mp hn q (List.mem_of_getElem? hq)
        simpa using this
      simp [hj, z_cat, hq1]
theorem V_istore_n {Γ : z_C} {M : z_M} {a : Nat × Nat × Nat} {pc : Nat} {L st : List (Nat × Int)} {h : z_H} {z : Int} {q : Fin 4} (X : z_Ok Γ M) (d : decode M.2.1 pc = .ok (.istore_n q, 1)) (hi : (q : Nat) < L.length) (hn : z_nl L = true) (k : z_V Γ a (pc + 1) (L.set (q : Nat) (0, z)) st h) : z_V Γ a pc L ((0, z) :: st) h := by
  obtain ⟨p, l, e, R, s, m, args, below, meth, c, Q, D, ca, base⟩ := Γ
  obtain ⟨y, cc, nL, ret, fr, lo, rc, rs⟩ := M
  obtain ⟨n, cells, slots⟩ := a
  obtain ⟨hx, hb, hml, hown, hts, hlk, hrt, hfr, hlo, hrc, hrs, hK, hbs, hnm⟩ := X
  intro H locs ls hW hS hL
  obtain ⟨ls', e1, e2⟩ := z_store (i := (q : Nat)) (c := (0, z)) hL hi hn (Nat.ne_of_beq_eq_false rfl)
  have kk := k H locs ls' hW hS e2
  intro T hT XX
  obtain ⟨t, a, b⟩ := kk T hT XX
  refine ⟨t, ?_, b⟩
  have e1 : storeLocals ls (q : Nat) (.int (z_i z)) = some ls' := e1
  show Steps _ _ _ (T.setTop (F0 m pc ls (.int (z_i z) :: st.map (z_v base)))) t
  jvm_step XX.here [XX.here.top, ↓top_set XX.here.top, hx, hb, (show decode cc pc = _ from d), e1]
  exact a
theorem V_istore {Γ : z_C} {M : z_M} {a : Nat × Nat × Nat} {pc : Nat} {L st : List (Nat × Int)} {h : z_H} {z : Int} {i : Nat} (X : z_Ok Γ M) (d : decode M.2.1 pc = .ok (.istore i, 2)) (hi : i < L.length) (hn : z_nl L = true) (k : z_V Γ a (pc + 2) (L.set i (0, z)) st h) : z_V Γ a pc L ((0, z) :: st) h := by
  obtain ⟨p, l, e, R, s, m, args, below, meth, c, Q, D, ca, base⟩ := Γ
  obtain ⟨y, cc, nL, ret, fr, lo, rc, rs⟩ := M
  obtain ⟨n, cells, slots⟩ := a
  obtain ⟨hx, hb, hml, hown, hts, hlk, hrt, hfr, hlo, hrc, hrs, hK, hbs, hnm⟩ := X
  intro H locs ls hW hS hL
  obtain ⟨ls', e1, e2⟩ := z_store (i := i) (c := (0, z)) hL hi hn (Nat.ne_of_beq_eq_false rfl)
  have kk := k H locs ls' hW hS e2
  intro T hT XX
  obtain ⟨t, a, b⟩ := kk T hT XX
  refine ⟨t, ?_, b⟩
  have e1 : storeLocals ls i (.int (z_i z)) = some ls' := e1
  show Steps _ _ _ (T.setTop (F0 m pc ls (.int (z_i z) :: st.map (z_v base)))) t
  jvm_step XX.here [XX.here.top, ↓top_set XX.here.top, hx, hb, (show decode cc pc = _ from d), e1]
  exact a
theorem V_astore_n {Γ : z_C} {M : z_M} {a : Nat × Nat × Nat} {pc : Nat} {L st : List (Nat × Int)} {h : z_H} {z : Int} {q : Fin 4} (X : z_Ok Γ M) (d : decode M.2.1 pc = .ok (.astore_n q, 1)) (hi : (q : Nat) < L.length) (hn : z_nl L = true) (hz : 0 ≤ z) (k : z_V Γ a (pc + 1) (L.set (q : Nat) (2, z)) st h) : z_V Γ a pc L ((2, z) :: st) h := by
  obtain ⟨p, l, e, R, s, m, args, below, meth, c, Q, D, ca, base⟩ := Γ
  obtain ⟨y, cc, nL, ret, fr, lo, rc, rs⟩ := M
  obtain ⟨n, cells, slots⟩ := a
  obtain ⟨hx, hb, hml, hown, hts, hlk, hrt, hfr, hlo, hrc, hrs, hK, hbs, hnm⟩ := X
  intro H locs ls hW hS hL
  obtain ⟨ls', e1, e2⟩ := z_store (i := (q : Nat)) (c := (2, z)) hL hi hn (Nat.ne_of_beq_eq_false rfl)
  have kk := k H locs ls' hW hS e2
  intro T hT XX
  obtain ⟨t, a, b⟩ := kk T hT XX
  refine ⟨t, ?_, b⟩
  rw [z_v_ref hz] at e1
  show Steps _ _ _ (T.setTop (F0 m pc ls (z_v base (2, z) :: st.map (z_v base)))) t
  rw [z_v_ref hz]
  jvm_step XX.here [XX.here.top, ↓top_set XX.here.top, hx, hb, (show decode cc pc = _ from d), e1, Value.isRef]
  exact a
theorem V_astore {Γ : z_C} {M : z_M} {a : Nat × Nat × Nat} {pc : Nat} {L st : List (Nat × Int)} {h : z_H} {z : Int} {i : Nat} (X : z_Ok Γ M) (d : decode M.2.1 pc = .ok (.astore i, 2)) (hi : i < L.length) (hn : z_nl L = true) (hz : 0 ≤ z) (k : z_V Γ a (pc + 2) (L.set i (2, z)) st h) : z_V Γ a pc L ((2, z) :: st) h := by
  obtain ⟨p, l, e, R, s, m, args, below, meth, c, Q, D, ca, base⟩ := Γ
  obtain ⟨y, cc, nL, ret, fr, lo, rc, rs⟩ := M
  obtain ⟨n, cells, slots⟩ := a
  obtain ⟨hx, hb, hml, hown, hts, hlk, hrt, hfr, hlo, hrc, hrs, hK, hbs, hnm⟩ := X
  intro H locs ls hW hS hL
  obtain ⟨ls', e1, e2⟩ := z_store (i := i) (c := (2, z)) hL hi hn (Nat.ne_of_beq_eq_false rfl)
  have kk := k H locs ls' hW hS e2
  intro T hT XX
  obtain ⟨t, a, b⟩ := kk T hT XX
  refine ⟨t, ?_, b⟩
  rw [z_v_ref hz] at e1
  show Steps _ _ _ (T.setTop (F0 m pc ls (z_v base (2, z) :: st.map (z_v base)))) t
  rw [z_v_ref hz]
  jvm_step XX.here [XX.here.top, ↓top_set XX.here.top, hx, hb, (show decode cc pc = _ from d), e1, Value.isRef]
  exact a
theorem V_iinc {Γ : z_C} {M : z_M} {a : Nat × Nat × Nat} {pc : Nat} {L st : List (Nat × Int)} {h : z_H} {i : Nat} {w z : Int} (X : z_Ok Γ M) (d : decode M.2.1 pc = .ok (.iinc i w, 3)) (hq : L[i]? = some (0, z)) (hn : z_nl L = true) (k : z_V Γ a (pc + 3) (L.set i (0, z + w)) st h) : z_V Γ a pc L st h := by
  obtain ⟨p, l, e, R, s, m, args, below, meth, c, Q, D, ca, base⟩ := Γ
  obtain ⟨y, cc, nL, ret, fr, lo, rc, rs⟩ := M
  obtain ⟨n, cells, slots⟩ := a
  obtain ⟨hx, hb, hml, hown, hts, hlk, hrt, hfr, hlo, hrc, hrs, hK, hbs, hnm⟩ := X
  intro H locs ls hW hS hL
  have hi : i < L.length := (List.getElem?_eq_some_iff.mp hq).1
  have hg := hL.2.2.2 _ _ hq (Nat.ne_of_beq_eq_false rfl)
  have hg : ls[i]? = some (.val (.int (z_i z))) := hg
  obtain ⟨ls', e1, e2⟩ := z_store (i := i) (c := (0, z + w)) hL hi hn (Nat.ne_of_beq_eq_false rfl)
  have e1 : storeLocals ls i (.int (z_i (z + w))) = some ls' := e1
  rw [← z_i_add] at e1
  have e1 : storeLocals ls i (.int (z_i z + Int32.ofInt w)) = some ls' := e1
  have kk := k H locs ls' hW hS e2
  intro T hT XX
  obtain ⟨t, a, b⟩ := kk T hT XX
  refine ⟨t, ?_, b⟩
  jvm_step XX.here [XX.here.top, ↓top_set XX.here.top, hx, hb, (show decode cc pc = _ from d), hg, e1]
  exact a
theorem V_iadd {Γ : z_C} {M : z_M} {a : Nat × Nat × Nat} {pc : Nat} {L st : List (Nat × Int)} {h : z_H} {x z : Int} (X : z_Ok Γ M) (d : decode M.2.1 pc = .ok (.iadd, 1)) (k : z_V Γ a (pc + 1) L ((0, x + z) :: st) h) : z_V Γ a pc L ((0, z) :: (0, x) :: st) h := by
  obtain ⟨p, l, e, R, s, m, args, below, meth, c, Q, D, ca, base⟩ := Γ
  obtain ⟨y, cc, nL, ret, fr, lo, rc, rs⟩ := M
  obtain ⟨n, cells, slots⟩ := a
  obtain ⟨hx, hb, hml, hown, hts, hlk, hrt, hfr, hlo, hrc, hrs, hK, hbs, hnm⟩ := X
  intro H locs ls hW hS hL
  have kk := k H locs ls hW hS hL
  rw [List.map_cons, z_v_int, ← z_i_add] at kk
  exact lv_iadd hx hb d kk
theorem V_isub {Γ : z_C} {M : z_M} {a : Nat × Nat × Nat} {pc : Nat} {L st : List (Nat × Int)} {h : z_H} {x z : Int} (X : z_Ok Γ M) (d : decode M.2.1 pc = .ok (.isub, 1)) (k : z_V Γ a (pc + 1) L ((0, x - z) :: st) h) : z_V Γ a pc L ((0, z) :: (0, x) :: st) h := by
  obtain ⟨p, l, e, R, s, m, args, below, meth, c, Q, D, ca, base⟩ := Γ
  obtain ⟨y, cc, nL, ret, fr, lo, rc, rs⟩ := M
  obtain ⟨n, cells, slots⟩ := a
  obtain ⟨hx, hb, hml, hown, hts, hlk, hrt, hfr, hlo, hrc, hrs, hK, hbs, hnm⟩ := X
  intro H locs ls hW hS hL
  have kk := k H locs ls hW hS hL
  rw [List.map_cons, z_v_int, ← z_i_sub] at kk
  exact lv_isub hx hb d kk
theorem V_imul {Γ : z_C} {M : z_M} {a : Nat × Nat × Nat} {pc : Nat} {L st : List (Nat × Int)} {h : z_H} {x z : Int} (X : z_Ok Γ M) (d : decode M.2.1 pc = .ok (.imul, 1)) (k : z_V Γ a (pc + 1) L ((0, x * z) :: st) h) : z_V Γ a pc L ((0, z) :: (0, x) :: st) h := by
  obtain ⟨p, l, e, R, s, m, args, below, meth, c, Q, D, ca, base⟩ := Γ
  obtain ⟨y, cc, nL, ret, fr, lo, rc, rs⟩ := M
  obtain ⟨n, cells, slots⟩ := a
  obtain ⟨hx, hb, hml, hown, hts, hlk, hrt, hfr, hlo, hrc, hrs, hK, hbs, hnm⟩ := X
  intro H locs ls hW hS hL
  have kk := k H locs ls hW hS hL
  rw [List.map_cons, z_v_int, ← z_i_mul] at kk
  exact lv_imul hx hb d kk
def z_and (x y : Int) : Int := (z_i x &&& z_i y).toInt
def z_or (x y : Int) : Int := (z_i x ||| z_i y).toInt
def z_xor (x y : Int) : Int := (z_i x ^^^ z_i y).toInt
def z_shl (x y : Int) : Int := (z_i x <<< (z_i y &&& 31)).toInt
def z_shr (x y : Int) : Int := (z_i x >>> (z_i y &&& 31)).toInt
def z_ushr (x y : Int) : Int := ((z_i x).toUInt32 >>> ((z_i y).toUInt32 &&& Int32.toUInt32 31)).toInt32.toInt
theorem V_iand {Γ : z_C} {M : z_M} {a : Nat × Nat × Nat} {pc : Nat} {L st : List (Nat × Int)} {h : z_H} {x z : Int} (X : z_Ok Γ M) (d : decode M.2.1 pc = .ok (.iand, 1)) (k : z_V Γ a (pc + 1) L ((0, z_and x z) :: st) h) : z_V Γ a pc L ((0, z) :: (0, x) :: st) h := by
  obtain ⟨p, l, e, R, s, m, args, below, meth, c, Q, D, ca, base⟩ := Γ
  obtain ⟨y, cc, nL, ret, fr, lo, rc, rs⟩ := M
  obtain ⟨n, cells, slots⟩ := a
  obtain ⟨hx, hb, hml, hown, hts, hlk, hrt, hfr, hlo, hrc, hrs, hK, hbs, hnm⟩ := X
  intro H locs ls hW hS hL
  have kk := k H locs ls hW hS hL
  rw [List.map_cons, z_v_int, z_and, z_i_of] at kk
  exact lv_iand hx hb d kk
theorem V_ior {Γ : z_C} {M : z_M} {a : Nat × Nat × Nat} {pc : Nat} {L st : List (Nat × Int)} {h : z_H} {x z : Int} (X : z_Ok Γ M) (d : decode M.2.1 pc = .ok (.ior, 1)) (k : z_V Γ a (pc + 1) L ((0, z_or x z) :: st) h) : z_V Γ a pc L ((0, z) :: (0, x) :: st) h := by
  obtain ⟨p, l, e, R, s, m, args, below, meth, c, Q, D, ca, base⟩ := Γ
  obtain ⟨y, cc, nL, ret, fr, lo, rc, rs⟩ := M
  obtain ⟨n, cells, slots⟩ := a
  obtain ⟨hx, hb, hml, hown, hts, hlk, hrt, hfr, hlo, hrc, hrs, hK, hbs, hnm⟩ := X
  intro H locs ls hW hS hL
  have kk := k H locs ls hW hS hL
  rw [List.map_cons, z_v_int, z_or, z_i_of] at kk
  exact lv_ior hx hb d kk
theorem V_ixor {Γ : z_C} {M : z_M} {a : Nat × Nat × Nat} {pc : Nat} {L st : List (Nat × Int)} {h : z_H} {x z : Int} (X : z_Ok Γ M) (d : decode M.2.1 pc = .ok (.ixor, 1)) (k : z_V Γ a (pc + 1) L ((0, z_xor x z) :: st) h) : z_V Γ a pc L ((0, z) :: (0, x) :: st) h := by
  obtain ⟨p, l, e, R, s, m, args, below, meth, c, Q, D, ca, base⟩ := Γ
  obtain ⟨y, cc, nL, ret, fr, lo, rc, rs⟩ := M
  obtain ⟨n, cells, slots⟩ := a
  obtain ⟨hx, hb, hml, hown, hts, hlk, hrt, hfr, hlo, hrc, hrs, hK, hbs, hnm⟩ := X
  intro H locs ls hW hS hL
  have kk := k H locs ls hW hS hL
  rw [List.map_cons, z_v_int, z_xor, z_i_of] at kk
  exact lv_ixor hx hb d kk
theorem V_ishl {Γ : z_C} {M : z_M} {a : Nat × Nat × Nat} {pc : Nat} {L st : List (Nat × Int)} {h : z_H} {x z : Int} (X : z_Ok Γ M) (d : decode M.2.1 pc = .ok (.ishl, 1)) (k : z_V Γ a (pc + 1) L ((0, z_shl x z) :: st) h) : z_V Γ a pc L ((0, z) :: (0, x) :: st) h := by
  obtain ⟨p, l, e, R, s, m, args, below, meth, c, Q, D, ca, base⟩ := Γ
  obtain ⟨y, cc, nL, ret, fr, lo, rc, rs⟩ := M
  obtain ⟨n, cells, slots⟩ := a
  obtain ⟨hx, hb, hml, hown, hts, hlk, hrt, hfr, hlo, hrc, hrs, hK, hbs, hnm⟩ := X
  intro H locs ls hW hS hL
  have kk := k H locs ls hW hS hL
  rw [List.map_cons, z_v_int, z_shl, z_i_of] at kk
  exact lv_ishl hx hb d kk
theorem V_ishr {Γ : z_C} {M : z_M} {a : Nat × Nat × Nat} {pc : Nat} {L st : List (Nat × Int)} {h : z_H} {x z : Int} (X : z_Ok Γ M) (d : decode M.2.1 pc = .ok (.ishr, 1)) (k : z_V Γ a (pc + 1) L ((0, z_shr x z) :: st) h) : z_V Γ a pc L ((0, z) :: (0, x) :: st) h := by
  obtain ⟨p, l, e, R, s, m, args, below, meth, c, Q, D, ca, base⟩ := Γ
  obtain ⟨y, cc, nL, ret, fr, lo, rc, rs⟩ := M
  obtain ⟨n, cells, slots⟩ := a
  obtain ⟨hx, hb, hml, hown, hts, hlk, hrt, hfr, hlo, hrc, hrs, hK, hbs, hnm⟩ := X
  intro H locs ls hW hS hL
  have kk := k H locs ls hW hS hL
  rw [List.map_cons, z_v_int, z_shr, z_i_of] at kk
  exact lv_ishr hx hb d kk
theorem V_iushr {Γ : z_C} {M : z_M} {a : Nat × Nat × Nat} {pc : Nat} {L st : List (Nat × Int)} {h : z_H} {x z : Int} (X : z_Ok Γ M) (d : decode M.2.1 pc = .ok (.iushr, 1)) (k : z_V Γ a (pc + 1) L ((0, z_ushr x z) :: st) h) : z_V Γ a pc L ((0, z) :: (0, x) :: st) h := by
  obtain ⟨p, l, e, R, s, m, args, below, meth, c, Q, D, ca, base⟩ := Γ
  obtain ⟨y, cc, nL, ret, fr, lo, rc, rs⟩ := M
  obtain ⟨n, cells, slots⟩ := a
  obtain ⟨hx, hb, hml, hown, hts, hlk, hrt, hfr, hlo, hrc, hrs, hK, hbs, hnm⟩ := X
  intro H locs ls hW hS hL
  have kk := k H locs ls hW hS hL
  rw [List.map_cons, z_v_int, z_ushr, z_i_of] at kk
  exact lv_iushr hx hb d rfl kk
theorem V_idiv {Γ : z_C} {M : z_M} {a : Nat × Nat × Nat} {pc : Nat} {L st : List (Nat × Int)} {h : z_H} {x z : Int} (X : z_Ok Γ M) (d : decode M.2.1 pc = .ok (.idiv, 1)) (h1 : z_R x) (h2 : z_R z) (h3 : z ≠ 0) (h4 : z ≠ -1) (k : z_V Γ a (pc + 1) L ((0, x.tdiv z) :: st) h) : z_V Γ a pc L ((0, z) :: (0, x) :: st) h := by
  obtain ⟨p, l, e, R, s, m, args, below, meth, c, Q, D, ca, base⟩ := Γ
  obtain ⟨y, cc, nL, ret, fr, lo, rc, rs⟩ := M
  obtain ⟨n, cells, slots⟩ := a
  obtain ⟨hx, hb, hml, hown, hts, hlk, hrt, hfr, hlo, hrc, hrs, hK, hbs, hnm⟩ := X
  intro H locs ls hW hS hL
  have kk := k H locs ls hW hS hL
  rw [List.map_cons, z_v_int, ← z_i_div h1 h2 h3 h4] at kk
  exact lv_idiv hx hb d (fun q => h3 ((z_i_eq h2 z_R0).mp q)) kk
theorem V_irem {Γ : z_C} {M : z_M} {a : Nat × Nat × Nat} {pc : Nat} {L st : List (Nat × Int)} {h : z_H} {x z : Int} (X : z_Ok Γ M) (d : decode M.2.1 pc = .ok (.irem, 1)) (h1 : z_R x) (h2 : z_R z) (h3 : z ≠ 0) (h4 : z ≠ -1) (k : z_V Γ a (pc + 1) L ((0, x.tmod z) :: st) h) : z_V Γ a pc L ((0, z) :: (0, x) :: st) h := by
  obtain ⟨p, l, e, R, s, m, args, below, meth, c, Q, D, ca, base⟩ := Γ
  obtain ⟨y, cc, nL, ret, fr, lo, rc, rs⟩ := M
  obtain ⟨n, cells, slots⟩ := a
  obtain ⟨hx, hb, hml, hown, hts, hlk, hrt, hfr, hlo, hrc, hrs, hK, hbs, hnm⟩ := X
  intro H locs ls hW hS hL
  have kk := k H locs ls hW hS hL
  rw [List.map_cons, z_v_int, ← z_i_rem h1 h2 h3 h4] at kk
  exact lv_irem hx hb d (fun q => h3 ((z_i_eq h2 z_R0).mp q)) kk
theorem V_i2l {Γ : z_C} {M : z_M} {a : Nat × Nat × Nat} {pc : Nat} {L st : List (Nat × Int)} {h : z_H} {z : Int} (X : z_Ok Γ M) (d : decode M.2.1 pc = .ok (.i2l, 1)) (h1 : z_R z) (k : z_V Γ a (pc + 1) L ((1, z) :: st) h) : z_V Γ a pc L ((0, z) :: st) h := by
  obtain ⟨p, l, e, R, s, m, args, below, meth, c, Q, D, ca, base⟩ := Γ
  obtain ⟨y, cc, nL, ret, fr, lo, rc, rs⟩ := M
  obtain ⟨n, cells, slots⟩ := a
  obtain ⟨hx, hb, hml, hown, hts, hlk, hrt, hfr, hlo, hrc, hrs, hK, hbs, hnm⟩ := X
  intro H locs ls hW hS hL
  have kk := k H locs ls hW hS hL
  refine lv_i2l (v := z_l z) hx hb d ?_ kk
  apply Int64.toInt_inj.mp
  rw [Int32.toInt_toInt64, z_i_to h1]
  exact (Int64.toInt_ofInt_of_le (by have := h1.1; omega) (by have := h1.2; omega)).symm
theorem V_ladd {Γ : z_C} {M : z_M} {a : Nat × Nat × Nat} {pc : Nat} {L st : List (Nat × Int)} {h : z_H} {x z : Int} (X : z_Ok Γ M) (d : decode M.2.1 pc = .ok (.ladd, 1)) (k : z_V Γ a (pc + 1) L ((1, x + z) :: st) h) : z_V Γ a pc L ((1, z) :: (1, x) :: st) h := by
  obtain ⟨p, l, e, R, s, m, args, below, meth, c, Q, D, ca, base⟩ := Γ
  obtain ⟨y, cc, nL, ret, fr, lo, rc, rs⟩ := M
  obtain ⟨n, cells, slots⟩ := a
  obtain ⟨hx, hb, hml, hown, hts, hlk, hrt, hfr, hlo, hrc, hrs, hK, hbs, hnm⟩ := X
  intro H locs ls hW hS hL
  have kk := k H locs ls hW hS hL
  rw [List.map_cons, z_v_long, show z_l (x + z) = z_l x + z_l z from Int64.ofInt_add x z] at kk
  exact lv_ladd hx hb d kk
def z_RL (x : Int) : Prop := -9223372036854775808 ≤ x ∧ x < 9223372036854775808
def z_cmp (x y : Int) : Int := if y < x then 1 else if x = y then 0 else -1
theorem z_l_to {x : Int} (h : z_RL x) : (z_l x).toInt = x := Int64.toInt_ofInt_of_le h.1 h.2
theorem z_lcmp {x y : Int} (hx : z_RL x) (hy : z_RL y) : lg_cmp (z_l x) (z_l y) = z_i (z_cmp x y) := by
  unfold lg_cmp z_cmp
  have e1 : z_l y < z_l x ↔ y < x := by rw [Int64.lt_iff_toInt_lt, z_l_to hx, z_l_to hy]
  have e2 : z_l x = z_l y ↔ x = y := by rw [← Int64.toInt_inj, z_l_to hx, z_l_to hy]
  by_cases h1 : y < x
  · rw [if_pos h1, if_pos (e1.mpr h1)]; rfl
  · rw [if_neg h1, if_neg (fun q => h1 (e1.mp q))]
    by_cases h2 : x = y
    · rw [if_pos h2, if_pos (e2.mpr h2)]; rfl
    · rw [if_neg h2, if_neg (fun q => h2 (e2.mp q))]; rfl
theorem V_lcmp {Γ : z_C} {M : z_M} {a : Nat × Nat × Nat} {pc : Nat} {L st : List (Nat × Int)} {h : z_H} {x z : Int} (X : z_Ok Γ M) (d : decode M.2.1 pc = .ok (.lcmp, 1)) (h1 : z_RL x) (h2 : z_RL z) (k : z_V Γ a (pc + 1) L ((0, z_cmp x z) :: st) h) : z_V Γ a pc L ((1, z) :: (1, x) :: st) h := by
  obtain ⟨p, l, e, R, s, m, args, below, meth, c, Q, D, ca, base⟩ := Γ
  obtain ⟨y, cc, nL, ret, fr, lo, rc, rs⟩ := M
  obtain ⟨n, cells, slots⟩ := a
  obtain ⟨hx, hb, hml, hown, hts, hlk, hrt, hfr, hlo, hrc, hrs, hK, hbs, hnm⟩ := X
  intro H locs ls hW hS hL
  have kk := k H locs ls hW hS hL
  rw [List.map_cons, z_v_int, ← z_lcmp h1 h2] at kk
  exact W.lcmp hx hb d kk
theorem V_dup {Γ : z_C} {M : z_M} {a : Nat × Nat × Nat} {pc : Nat} {L st : List (Nat × Int)} {h : z_H} {q : Nat × Int} (X : z_Ok Γ M) (d : decode M.2.1 pc = .ok (.dup, 1)) (hq : q.1 ≠ 1) (k : z_V Γ a (pc + 1) L (q :: q :: st) h) : z_V Γ a pc L (q :: st) h := by
  obtain ⟨p, l, e, R, s, m, args, below, meth, c, Q, D, ca, base⟩ := Γ
  obtain ⟨y, cc, nL, ret, fr, lo, rc, rs⟩ := M
  obtain ⟨n, cells, slots⟩ := a
  obtain ⟨hx, hb, hml, hown, hts, hlk, hrt, hfr, hlo, hrc, hrs, hK, hbs, hnm⟩ := X
  intro H locs ls hW hS hL
  exact lv_dup hx hb d (by rw [z_cat, if_neg hq]) (k H locs ls hW hS hL)
theorem V_goto {Γ : z_C} {M : z_M} {a : Nat × Nat × Nat} {pc : Nat} {L st : List (Nat × Int)} {h : z_H} {off : Int} (X : z_Ok Γ M) (tgt : Nat) (d : decode M.2.1 pc = .ok (.goto off, 3)) (ht : (pc : Int) + off = (tgt : Int)) (k : z_V Γ a tgt L st h) : z_V Γ a pc L st h := by
  obtain ⟨p, l, e, R, s, m, args, below, meth, c, Q, D, ca, base⟩ := Γ
  obtain ⟨y, cc, nL, ret, fr, lo, rc, rs⟩ := M
  obtain ⟨n, cells, slots⟩ := a
  obtain ⟨hx, hb, hml, hown, hts, hlk, hrt, hfr, hlo, hrc, hrs, hK, hbs, hnm⟩ := X
  intro H locs ls hW hS hL
  exact lv_goto (tgt := tgt) hx hb d ht (k H locs ls hW hS hL)
theorem V_icmp_eq {Γ : z_C} {M : z_M} {a : Nat × Nat × Nat} {pc : Nat} {L st : List (Nat × Int)} {h : z_H} {x z off : Int} (X : z_Ok Γ M) (tgt : Nat) (d : decode M.2.1 pc = .ok (.if_icmp .eq off, 3)) (ht : (pc : Int) + off = (tgt : Int)) (h1 : z_R x) (h2 : z_R z) (kt : x = z → z_V Γ a tgt L st h) (kf : ¬ x = z → z_V Γ a (pc + 3) L st h) : z_V Γ a pc L ((0, z) :: (0, x) :: st) h := by
  obtain ⟨p, l, e, R, s, m, args, below, meth, c, Q, D, ca, base⟩ := Γ
  obtain ⟨y, cc, nL, ret, fr, lo, rc, rs⟩ := M
  obtain ⟨n, cells, slots⟩ := a
  obtain ⟨hx, hb, hml, hown, hts, hlk, hrt, hfr, hlo, hrc, hrs, hK, hbs, hnm⟩ := X
  intro H locs ls hW hS hL
  exact lv_icmp_eq (tgt := tgt) hx hb d ht (fun q => kt ((z_i_eq h1 h2).mp q) H locs ls hW hS hL) (fun q => kf (fun q2 => q ((z_i_eq h1 h2).mpr q2)) H locs ls hW hS hL)
theorem V_if_eq {Γ : z_C} {M : z_M} {a : Nat × Nat × Nat} {pc : Nat} {L st : List (Nat × Int)} {h : z_H} {x off : Int} (X : z_Ok Γ M) (tgt : Nat) (d : decode M.2.1 pc = .ok (.ifCond .eq off, 3)) (ht : (pc : Int) + off = (tgt : Int)) (h1 : z_R x) (kt : x = 0 → z_V Γ a tgt L st h) (kf : ¬ x = 0 → z_V Γ a (pc + 3) L st h) : z_V Γ a pc L ((0, x) :: st) h := by
  obtain ⟨p, l, e, R, s, m, args, below, meth, c, Q, D, ca, base⟩ := Γ
  obtain ⟨y, cc, nL, ret, fr, lo, rc, rs⟩ := M
  obtain ⟨n, cells, slots⟩ := a
  obtain ⟨hx, hb, hml, hown, hts, hlk, hrt, hfr, hlo, hrc, hrs, hK, hbs, hnm⟩ := X
  intro H locs ls hW hS hL
  exact lv_if_eq (tgt := tgt) hx hb d ht (fun q => kt ((z_i_eq h1 z_R0).mp q) H locs ls hW hS hL) (fun q => kf (fun q2 => q ((z_i_eq h1 z_R0).mpr q2)) H locs ls hW hS hL)
theorem V_icmp_ne {Γ : z_C} {M : z_M} {a : Nat × Nat × Nat} {pc : Nat} {L st : List (Nat × Int)} {h : z_H} {x z off : Int} (X : z_Ok Γ M) (tgt : Nat) (d : decode M.2.1 pc = .ok (.if_icmp .ne off, 3)) (ht : (pc : Int) + off = (tgt : Int)) (h1 : z_R x) (h2 : z_R z) (kt : ¬ x = z → z_V Γ a tgt L st h) (kf : x = z → z_V Γ a (pc + 3) L st h) : z_V Γ a pc L ((0, z) :: (0, x) :: st) h := by
  obtain ⟨p, l, e, R, s, m, args, below, meth, c, Q, D, ca, base⟩ := Γ
  obtain ⟨y, cc, nL, ret, fr, lo, rc, rs⟩ := M
  obtain ⟨n, cells, slots⟩ := a
  obtain ⟨hx, hb, hml, hown, hts, hlk, hrt, hfr, hlo, hrc, hrs, hK, hbs, hnm⟩ := X
  intro H locs ls hW hS hL
  exact lv_icmp_ne (tgt := tgt) hx hb d ht (fun q => kt (fun q2 => q ((z_i_eq h1 h2).mpr q2)) H locs ls hW hS hL) (fun q => kf ((z_i_eq h1 h2).mp q) H locs ls hW hS hL)
theorem V_if_ne {Γ : z_C} {M : z_M} {a : Nat × Nat × Nat} {pc : Nat} {L st : List (Nat × Int)} {h : z_H} {x off : Int} (X : z_Ok Γ M) (tgt : Nat) (d : decode M.2.1 pc = .ok (.ifCond .ne off, 3)) (ht : (pc : Int) + off = (tgt : Int)) (h1 : z_R x) (kt : ¬ x = 0 → z_V Γ a tgt L st h) (kf : x = 0 → z_V Γ a (pc + 3) L st h) : z_V Γ a pc L ((0, x) :: st) h := by
  obtain ⟨p, l, e, R, s, m, args, below, meth, c, Q, D, ca, base⟩ := Γ
  obtain ⟨y, cc, nL, ret, fr, lo, rc, rs⟩ := M
  obtain ⟨n, cells, slots⟩ := a
  obtain ⟨hx, hb, hml, hown, hts, hlk, hrt, hfr, hlo, hrc, hrs, hK, hbs, hnm⟩ := X
  intro H locs ls hW hS hL
  exact lv_if_ne (tgt := tgt) hx hb d ht (fun q => kt (fun q2 => q ((z_i_eq h1 z_R0).mpr q2)) H locs ls hW hS hL) (fun q => kf ((z_i_eq h1 z_R0).mp q) H locs ls hW hS hL)
theorem V_icmp_lt {Γ : z_C} {M : z_M} {a : Nat × Nat × Nat} {pc : Nat} {L st : List (Nat × Int)} {h : z_H} {x z off : Int} (X : z_Ok Γ M) (tgt : Nat) (d : decode M.2.1 pc = .ok (.if_icmp .lt off, 3)) (ht : (pc : Int) + off = (tgt : Int)) (h1 : z_R x) (h2 : z_R z) (kt : x < z → z_V Γ a tgt L st h) (kf : ¬ x < z → z_V Γ a (pc + 3) L st h) : z_V Γ a pc L ((0, z) :: (0, x) :: st) h := by
  obtain ⟨p, l, e, R, s, m, args, below, meth, c, Q, D, ca, base⟩ := Γ
  obtain ⟨y, cc, nL, ret, fr, lo, rc, rs⟩ := M
  obtain ⟨n, cells, slots⟩ := a
  obtain ⟨hx, hb, hml, hown, hts, hlk, hrt, hfr, hlo, hrc, hrs, hK, hbs, hnm⟩ := X
  intro H locs ls hW hS hL
  exact lv_icmp_lt (tgt := tgt) hx hb d ht (fun q => kt ((z_i_lt h1 h2).mp q) H locs ls hW hS hL) (fun q => kf (fun q2 => q ((z_i_lt h1 h2).mpr q2)) H locs ls hW hS hL)
theorem V_if_lt {Γ : z_C} {M : z_M} {a : Nat × Nat × Nat} {pc : Nat} {L st : List (Nat × Int)} {h : z_H} {x off : Int} (X : z_Ok Γ M) (tgt : Nat) (d : decode M.2.1 pc = .ok (.ifCond .lt off, 3)) (ht : (pc : Int) + off = (tgt : Int)) (h1 : z_R x) (kt : x < 0 → z_V Γ a tgt L st h) (kf : ¬ x < 0 → z_V Γ a (pc + 3) L st h) : z_V Γ a pc L ((0, x) :: st) h := by
  obtain ⟨p, l, e, R, s, m, args, below, meth, c, Q, D, ca, base⟩ := Γ
  obtain ⟨y, cc, nL, ret, fr, lo, rc, rs⟩ := M
  obtain ⟨n, cells, slots⟩ := a
  obtain ⟨hx, hb, hml, hown, hts, hlk, hrt, hfr, hlo, hrc, hrs, hK, hbs, hnm⟩ := X
  intro H locs ls hW hS hL
  exact lv_if_lt (tgt := tgt) hx hb d ht (fun q => kt ((z_i_lt h1 z_R0).mp q) H locs ls hW hS hL) (fun q => kf (fun q2 => q ((z_i_lt h1 z_R0).mpr q2)) H locs ls hW hS hL)
theorem V_icmp_ge {Γ : z_C} {M : z_M} {a : Nat × Nat × Nat} {pc : Nat} {L st : List (Nat × Int)} {h : z_H} {x z off : Int} (X : z_Ok Γ M) (tgt : Nat) (d : decode M.2.1 pc = .ok (.if_icmp .ge off, 3)) (ht : (pc : Int) + off = (tgt : Int)) (h1 : z_R x) (h2 : z_R z) (kt : z ≤ x → z_V Γ a tgt L st h) (kf : ¬ z ≤ x → z_V Γ a (pc + 3) L st h) : z_V Γ a pc L ((0, z) :: (0, x) :: st) h := by
  obtain ⟨p, l, e, R, s, m, args, below, meth, c, Q, D, ca, base⟩ := Γ
  obtain ⟨y, cc, nL, ret, fr, lo, rc, rs⟩ := M
  obtain ⟨n, cells, slots⟩ := a
  obtain ⟨hx, hb, hml, hown, hts, hlk, hrt, hfr, hlo, hrc, hrs, hK, hbs, hnm⟩ := X
  intro H locs ls hW hS hL
  exact lv_icmp_ge (tgt := tgt) hx hb d ht (fun q => kt ((z_i_le h2 h1).mp q) H locs ls hW hS hL) (fun q => kf (fun q2 => q ((z_i_le h2 h1).mpr q2)) H locs ls hW hS hL)
theorem V_if_ge {Γ : z_C} {M : z_M} {a : Nat × Nat × Nat} {pc : Nat} {L st : List (Nat × Int)} {h : z_H} {x off : Int} (X : z_Ok Γ M) (tgt : Nat) (d : decode M.2.1 pc = .ok (.ifCond .ge off, 3)) (ht : (pc : Int) + off = (tgt : Int)) (h1 : z_R x) (kt : 0 ≤ x → z_V Γ a tgt L st h) (kf : ¬ 0 ≤ x → z_V Γ a (pc + 3) L st h) : z_V Γ a pc L ((0, x) :: st) h := by
  obtain ⟨p, l, e, R, s, m, args, below, meth, c, Q, D, ca, base⟩ := Γ
  obtain ⟨y, cc, nL, ret, fr, lo, rc, rs⟩ := M
  obtain ⟨n, cells, slots⟩ := a
  obtain ⟨hx, hb, hml, hown, hts, hlk, hrt, hfr, hlo, hrc, hrs, hK, hbs, hnm⟩ := X
  intro H locs ls hW hS hL
  exact lv_if_ge (tgt := tgt) hx hb d ht (fun q => kt ((z_i_le z_R0 h1).mp q) H locs ls hW hS hL) (fun q => kf (fun q2 => q ((z_i_le z_R0 h1).mpr q2)) H locs ls hW hS hL)
theorem V_icmp_gt {Γ : z_C} {M : z_M} {a : Nat × Nat × Nat} {pc : Nat} {L st : List (Nat × Int)} {h : z_H} {x z off : Int} (X : z_Ok Γ M) (tgt : Nat) (d : decode M.2.1 pc = .ok (.if_icmp .gt off, 3)) (ht : (pc : Int) + off = (tgt : Int)) (h1 : z_R x) (h2 : z_R z) (kt : z < x → z_V Γ a tgt L st h) (kf : ¬ z < x → z_V Γ a (pc + 3) L st h) : z_V Γ a pc L ((0, z) :: (0, x) :: st) h := by
  obtain ⟨p, l, e, R, s, m, args, below, meth, c, Q, D, ca, base⟩ := Γ
  obtain ⟨y, cc, nL, ret, fr, lo, rc, rs⟩ := M
  obtain ⟨n, cells, slots⟩ := a
  obtain ⟨hx, hb, hml, hown, hts, hlk, hrt, hfr, hlo, hrc, hrs, hK, hbs, hnm⟩ := X
  intro H locs ls hW hS hL
  exact lv_icmp_gt (tgt := tgt) hx hb d ht (fun q => kt ((z_i_lt h2 h1).mp q) H locs ls hW hS hL) (fun q => kf (fun q2 => q ((z_i_lt h2 h1).mpr q2)) H locs ls hW hS hL)
theorem V_if_gt {Γ : z_C} {M : z_M} {a : Nat × Nat × Nat} {pc : Nat} {L st : List (Nat × Int)} {h : z_H} {x off : Int} (X : z_Ok Γ M) (tgt : Nat) (d : decode M.2.1 pc = .ok (.ifCond .gt off, 3)) (ht : (pc : Int) + off = (tgt : Int)) (h1 : z_R x) (kt : 0 < x → z_V Γ a tgt L st h) (kf : ¬ 0 < x → z_V Γ a (pc + 3) L st h) : z_V Γ a pc L ((0, x) :: st) h := by
  obtain ⟨p, l, e, R, s, m, args, below, meth, c, Q, D, ca, base⟩ := Γ
  obtain ⟨y, cc, nL, ret, fr, lo, rc, rs⟩ := M
  obtain ⟨n, cells, slots⟩ := a
  obtain ⟨hx, hb, hml, hown, hts, hlk, hrt, hfr, hlo, hrc, hrs, hK, hbs, hnm⟩ := X
  intro H locs ls hW hS hL
  exact lv_if_gt (tgt := tgt) hx hb d ht (fun q => kt ((z_i_lt z_R0 h1).mp q) H locs ls hW hS hL) (fun q => kf (fun q2 => q ((z_i_lt z_R0 h1).mpr q2)) H locs ls hW hS hL)
theorem V_icmp_le {Γ : z_C} {M : z_M} {a : Nat × Nat × Nat} {pc : Nat} {L st : List (Nat × Int)} {h : z_H} {x z off : Int} (X : z_Ok Γ M) (tgt : Nat) (d : decode M.2.1 pc = .ok (.if_icmp .le off, 3)) (ht : (pc : Int) + off = (tgt : Int)) (h1 : z_R x) (h2 : z_R z) (kt : x ≤ z → z_V Γ a tgt L st h) (kf : ¬ x ≤ z → z_V Γ a (pc + 3) L st h) : z_V Γ a pc L ((0, z) :: (0, x) :: st) h := by
  obtain ⟨p, l, e, R, s, m, args, below, meth, c, Q, D, ca, base⟩ := Γ
  obtain ⟨y, cc, nL, ret, fr, lo, rc, rs⟩ := M
  obtain ⟨n, cells, slots⟩ := a
  obtain ⟨hx, hb, hml, hown, hts, hlk, hrt, hfr, hlo, hrc, hrs, hK, hbs, hnm⟩ := X
  intro H locs ls hW hS hL
  exact lv_icmp_le (tgt := tgt) hx hb d ht (fun q => kt ((z_i_le h1 h2).mp q) H locs ls hW hS hL) (fun q => kf (fun q2 => q ((z_i_le h1 h2).mpr q2)) H locs ls hW hS hL)
theorem V_if_le {Γ : z_C} {M : z_M} {a : Nat × Nat × Nat} {pc : Nat} {L st : List (Nat × Int)} {h : z_H} {x off : Int} (X : z_Ok Γ M) (tgt : Nat) (d : decode M.2.1 pc = .ok (.ifCond .le off, 3)) (ht : (pc : Int) + off = (tgt : Int)) (h1 : z_R x) (kt : x ≤ 0 → z_V Γ a tgt L st h) (kf : ¬ x ≤ 0 → z_V Γ a (pc + 3) L st h) : z_V Γ a pc L ((0, x) :: st) h := by
  obtain ⟨p, l, e, R, s, m, args, below, meth, c, Q, D, ca, base⟩ := Γ
  obtain ⟨y, cc, nL, ret, fr, lo, rc, rs⟩ := M
  obtain ⟨n, cells, slots⟩ := a
  obtain ⟨hx, hb, hml, hown, hts, hlk, hrt, hfr, hlo, hrc, hrs, hK, hbs, hnm⟩ := X
  intro H locs ls hW hS hL
  exact lv_if_le (tgt := tgt) hx hb d ht (fun q => kt ((z_i_le h1 z_R0).mp q) H locs ls hW hS hL) (fun q => kf (fun q2 => q ((z_i_le h1 z_R0).mpr q2)) H locs ls hW hS hL)
theorem V_tswIn {Γ : z_C} {M : z_M} {a : Nat × Nat × Nat} {pc : Nat} {L st : List (Nat × Int)} {h : z_H} {x v dflt lo0 hi0 off : Int} {offs : Array Int} {len : Nat} (X : z_Ok Γ M) (tgt : Nat) (d : decode M.2.1 pc = .ok (.tableswitch dflt lo0 hi0 offs, len)) (exv : x = v) (h1 : z_R v) (h2 : ¬ v < lo0) (h3 : ¬ hi0 < v) (ho : offs[(v - lo0).toNat]? = some off) (ht : (pc : Int) + off = (tgt : Int)) (k : z_V Γ a tgt L st h) : z_V Γ a pc L ((0, x) :: st) h := by
  obtain ⟨p, l, e, R, s, m, args, below, meth, c, Q, D, ca, base⟩ := Γ
  obtain ⟨y, cc, nL, ret, fr, lo, rc, rs⟩ := M
  obtain ⟨n, cells, slots⟩ := a
  obtain ⟨hx, hb, hml, hown, hts, hlk, hrt, hfr, hlo, hrc, hrs, hK, hbs, hnm⟩ := X
  intro H locs ls hW hS hL
  subst exv
  have e := z_i_to h1
  exact lv_tableIn (tgt := tgt) (off := off) hx hb d (by rw [e]; exact h2) (by rw [e]; exact h3) (by rw [e]; exact ho) ht (k H locs ls hW hS hL)
theorem V_tswOut {Γ : z_C} {M : z_M} {a : Nat × Nat × Nat} {pc : Nat} {L st : List (Nat × Int)} {h : z_H} {x dflt lo0 hi0 : Int} {offs : Array Int} {len : Nat} (X : z_Ok Γ M) (tgt : Nat) (d : decode M.2.1 pc = .ok (.tableswitch dflt lo0 hi0 offs, len)) (h1 : z_R x) (h2 : x < lo0 ∨ hi0 < x) (ht : (pc : Int) + dflt = (tgt : Int)) (k : z_V Γ a tgt L st h) : z_V Γ a pc L ((0, x) :: st) h := by
  obtain ⟨p, l, e, R, s, m, args, below, meth, c, Q, D, ca, base⟩ := Γ
  obtain ⟨y, cc, nL, ret, fr, lo, rc, rs⟩ := M
  obtain ⟨n, cells, slots⟩ := a
  obtain ⟨hx, hb, hml, hown, hts, hlk, hrt, hfr, hlo, hrc, hrs, hK, hbs, hnm⟩ := X
  intro H locs ls hW hS hL
  have e := z_i_to h1
  exact lv_tableOut (tgt := tgt) hx hb d (by rw [e]; exact h2) ht (k H locs ls hW hS hL)
theorem V_lsw {Γ : z_C} {M : z_M} {a : Nat × Nat × Nat} {pc : Nat} {L st : List (Nat × Int)} {h : z_H} {x dflt off : Int} {ps : Array (Int × Int)} {len : Nat} (X : z_Ok Γ M) (tgt : Nat) (d : decode M.2.1 pc = .ok (.lookupswitch dflt ps, len)) (h1 : z_R x) (hp : (ps.toList.zip (ps.toList.drop 1)).all (fun (a, next) => a.1 < next.1) = true) (ho : Op.lookupswitch.offset ps.toList dflt x = off) (ht : (pc : Int) + off = (tgt : Int)) (k : z_V Γ a tgt L st h) : z_V Γ a pc L ((0, x) :: st) h := by
  obtain ⟨p, l, e, R, s, m, args, below, meth, c, Q, D, ca, base⟩ := Γ
  obtain ⟨y, cc, nL, ret, fr, lo, rc, rs⟩ := M
  obtain ⟨n, cells, slots⟩ := a
  obtain ⟨hx, hb, hml, hown, hts, hlk, hrt, hfr, hlo, hrc, hrs, hK, hbs, hnm⟩ := X
  intro H locs ls hW hS hL
  have e := z_i_to h1
  exact lv_lookup (tgt := tgt) (off := off) hx hb d hp (by rw [e]; exact ho) ht (k H locs ls hW hS hL)
