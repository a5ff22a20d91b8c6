/-! THE CALCULUS, 6: new cells, copies -/
/-- what a fresh cell holds: no reference, or 0 -/
def z_dv (kd : Nat × Nat) (j : Int) : Int := match kd.1 with
  | 0 => if z_tag (z_ty kd.2 j.toNat) = 2 then -1 else 0
  | 1 => 0
  | 2 => 0
  | _ => -1
theorem z_w_succ {ca : Nat → ClassId} {base n : Nat} {h : z_H} : z_w ca base (n + 1) h = (List.range n).map (fun k => (base + k, z_e ca base (z_kd (n + 1) (k : Int)) (h (k : Int)))) ++ [(base + n, z_e ca base (z_kd (n + 1) (n : Int)) (h (n : Int)))] := by
  unfold z_w
  rw [List.range_succ, List.map_append]
  rfl
theorem z_kd_succ {n : Nat} {k : Nat} (h : k < n) : z_kd (n + 1) (k : Int) = z_kd n (k : Int) := by
  unfold z_kd
  rw [if_neg (show ¬ ((k : Int) < 0) by omega), if_neg (show ¬ ((k : Int) < 0) by omega), if_neg (show ¬ (n + 1 ≤ (k : Int).toNat) by omega), if_neg (show ¬ (n ≤ (k : Int).toNat) by omega)]
theorem z_w_push {ca : Nat → ClassId} {base n : Nat} {h h' : z_H} {kd : Nat × Nat} {e : va_E} (hk : z_kd (n + 1) (n : Int) = kd) (ho : ∀ k : Nat, k < n → h' (k : Int) = h (k : Int)) (he : z_e ca base kd (h' (n : Int)) = e) : z_w ca base n h ++ [(base + n, e)] = z_w ca base (n + 1) h' := by
  rw [z_w_succ, hk, he]
  congr 1
  unfold z_w
  apply List.map_congr_left
  intro k hkm
  have hkn := List.mem_range.mp hkm
  rw [z_kd_succ hkn, ho k hkn]
/-- the contents with a fresh cell at n -/
def z_nw (h : z_H) (n : Nat) (kd : Nat × Nat) : z_H := fun q r => if q = (n : Int) then z_dv kd r else h q r
theorem z_nw_lt (h : z_H) {n : Nat} {kd : Nat × Nat} {k : Nat} (hk : k < n) : z_nw h n kd (k : Int) = h (k : Int) := by
  funext r
  unfold z_nw
  rw [if_neg (by omega)]
theorem z_nw_at (h : z_H) (n : Nat) (kd : Nat × Nat) : z_nw h n kd (n : Int) = z_dv kd := by
  funext r
  unfold z_nw
  rw [if_pos rfl]
theorem z_W_push {D : va_G} {ca : Nat → ClassId} {base n : Nat} {h h' : z_H} {kd : Nat × Nat} {e : va_E} {H1 : Heap} (hP : va_P D vwCl (z_w ca base n h ++ [(base + n, e)]) H1) (hk : z_kd (n + 1) (n : Int) = kd) (ho : ∀ k : Nat, k < n → h' (k : Int) = h (k : Int)) (he : z_e ca base kd (h' (n : Int)) = e) : z_W D ca base (n + 1) h' H1 := by
  show va_P _ _ _ _
  rw [← z_w_push hk ho he]
  exact hP
theorem z_dflt (base : Nat) (ty : FieldType) (hty : ty = .int ∨ ty = .boolean ∨ ty = .long ∨ z_tag ty = 2) : defaultValue ty = z_v base (z_tag ty, if z_tag ty = 2 then -1 else 0) := by
  rcases hty with rfl | rfl | rfl | h
  · rfl
  · rfl
  · rfl
  · rw [h, if_pos rfl]
    cases ty <;> first | (exact absurd h (by decide)) | rfl
theorem z_ty_ok : ∀ ci, ci < 10 → ∀ j, j < z_nf ci → z_ty ci j = .int ∨ z_ty ci j = .boolean ∨ z_ty ci j = .long ∨ z_tag (z_ty ci j) = 2 := by decide +kernel
/-- entry idx of the pool of own is the name of kind ci, which can be made -/
def z_N (own : String) (idx ci : Nat) : Prop := ∃ (C : String) (T : u_T), vwCl[ci]? = some (C, T, z_nf ci) ∧ ci < 10 ∧ (∀ w ∈ u_ws C T (z_nf ci), w ∈ z_gw) ∧ (∀ k, k < z_nf ci → parseFieldDescriptor (T k).2.2.1 = some (z_ty ci k)) ∧ Cond.classLink own idx C ∈ z_gw ∧ Cond.instantiable C (z_nf ci) ∈ z_gw ∧ Cond.initialized C ∈ z_gw
theorem V_new {Γ : z_C} {M : z_M} {a : Nat × Nat × Nat} {pc : Nat} {L st : List (Nat × Int)} {h : z_H} {idx ci : Nat} (X : z_Ok Γ M) (d : decode M.2.1 pc = .ok (.new idx, 3)) (f : z_N M.1.cls idx ci) (hk : z_kd (a.1 + 1) (a.1 : Int) = (0, ci)) (hcs : a.2.1 + 1 ≤ M.2.2.2.2.2.2.1 ∧ a.2.2 + z_nf ci ≤ M.2.2.2.2.2.2.2) (kk : z_V Γ (a.1 + 1, a.2.1 + 1, a.2.2 + z_nf ci) (pc + 3) L ((2, (a.1 : Int)) :: st) (z_nw h a.1 (0, ci))) : z_V Γ a pc L st h := by
  obtain ⟨p, l, e, R, s, m, args, below, meth, c, Q, D, ca, base⟩ := Γ
  obtain ⟨y, cc, nL, ret, fr, lo, rc, rs⟩ := M
  obtain ⟨n, cells, slots⟩ := a
  obtain ⟨hx, hb, hml, hown, hts, hlk, hrt, hfr, hlo, hrc, hrs, hK, hbs, hnm⟩ := X
  intro H locs ls hW hS hL
  obtain ⟨C, T, f1, f0, f3, f4, f5, f6, f7⟩ := f
  refine z_sized hW hS hbs (fun hsz => ?_)
  have hKn := hK.1.1 ci _ f1
  refine W.newcK hx hb hown (hts _ f5) (hts _ f6) (hts _ f7) rfl d (by rw [hrc]; exact hcs.1) (by rw [hrs]; exact hcs.2) hKn.2.1 rfl fun H1 kC hkC e1 z1 o1 => ?_
  have hkp : ∀ (k : Nat) (x : Nat × va_E), (z_w ca base n h)[k]? = some x → H1[x.1]? = H[x.1]? := fun k x hx => o1 x.1 ((hW.2 k x hx).lt)
  have hP1 : va_P D vwCl (z_w ca base n h ++ [(base + n, .inr (ci, z_fs base ci (z_dv (0, ci))))]) H1 := by
    refine (va_P.kept hW.2 hkp).app (fun k x hx => ?_)
    have hz : k < 1 := (List.getElem?_eq_some_iff.mp hx).1
    rw [show k = 0 by omega] at hx
    cases hx
    rw [hsz] at e1
    refine ⟨_, f1, (u_born (z_ty ci) hts f3 hKn hkC e1 f4).to (fun j hj => ?_)⟩
    show defaultValue (z_ty ci j) = vp_V (z_fs base ci (z_dv (0, ci))) j
    rw [z_dflt base _ (z_ty_ok ci f0 j hj)]
    unfold vp_V
    rw [List.getD_eq_getElem?_getD, z_fs_at hj]
    rfl
  have hw : z_W D ca base (n + 1) (z_nw h n (0, ci)) H1 := z_W_push hP1 hk (fun k hkn => z_nw_lt h hkn) (by rw [z_nw_at]; rfl)
  have g := kk H1 locs ls ⟨by have := hW.1; show base + (n + 1) = s.heap.size + (cells + 1); omega, hw⟩ ⟨Nat.le_trans hS.1 (by omega), fun x h1 h2 => (o1 x (Nat.lt_of_lt_of_le h1 hS.1)).trans (hS.2.1 x h1 h2), hS.2.2⟩ hL
  rw [List.map_cons, z_v_ref (show (0 : Int) ≤ (n : Int) by omega)] at g
  rw [hsz]
  exact g
theorem V_newI {Γ : z_C} {M : z_M} {a : Nat × Nat × Nat} {pc : Nat} {L st : List (Nat × Int)} {h : z_H} {N : Nat} {v : Int} (X : z_Ok Γ M) (d : decode M.2.1 pc = .ok (.newarray .int, 2)) (hw : Cond.arrayClass .int ∈ z_gw) (hv : v = (N : Int)) (hN : N ≤ 100000) (hk : z_kd (a.1 + 1) (a.1 : Int) = (1, N)) (hcs : a.2.1 + 1 ≤ M.2.2.2.2.2.2.1 ∧ a.2.2 + N ≤ M.2.2.2.2.2.2.2) (kk : z_V Γ (a.1 + 1, a.2.1 + 1, a.2.2 + N) (pc + 2) L ((2, (a.1 : Int)) :: st) (z_nw h a.1 (1, N))) : z_V Γ a pc L ((0, v) :: st) h := by
  obtain ⟨p, l, e, R, s, m, args, below, meth, c, Q, D, ca, base⟩ := Γ
  obtain ⟨y, cc, nL, ret, fr, lo, rc, rs⟩ := M
  obtain ⟨n, cells, slots⟩ := a
  obtain ⟨hx, hb, hml, hown, hts, hlk, hrt, hfr, hlo, hrc, hrs, hK, hbs, hnm⟩ := X
  intro H locs ls hW hS hL
  refine z_sized hW hS hbs (fun hsz => ?_)
  have hr : z_R v := ⟨by omega, by omega⟩
  have hvn : (z_i v).toNatClampNeg = N := by show (z_i v).toInt.toNat = N; rw [z_i_to hr]; omega
  refine va_newaK (N := N) (atype := .int) hx hb (hts _ hw) rfl d rfl (fun q => ?_) hvn (by show N * _ ≤ _; simp [componentBytes, newarray.typeOf]; omega) (by rw [hrc]; exact hcs.1) (by rw [hrs]; exact hcs.2) hsz fun H1 cA e1 z1 o1 hAr hNm => ?_
  · have := (z_i_lt hr z_R0).mp q; omega
  have hcA : cA = ca 1 := Option.some.inj (hNm.symm.trans (hK.1.2 0 _ rfl).2)
  subst hcA
  have hP1 : va_P D vwCl (z_w ca base n h ++ [(base + n, .inl (ca 1, N, .inl fun _ => z_i 0))]) H1 := by
    refine (va_P.kept hW.2 (fun k x hx => o1 x.1 (by have := (hW.2 k x hx).lt; omega))).app (fun k x hx => ?_)
    have hz : k < 1 := (List.getElem?_eq_some_iff.mp hx).1
    rw [show k = 0 by omega] at hx
    cases hx
    exact e1
  have hw : z_W D ca base (n + 1) (z_nw h n (1, N)) H1 := z_W_push hP1 hk (fun k hkn => z_nw_lt h hkn) (by rw [z_nw_at]; rfl)
  have g := kk H1 locs ls ⟨by have := hW.1; show base + (n + 1) = s.heap.size + (cells + 1); omega, hw⟩ ⟨Nat.le_trans hS.1 (by omega), fun x h1 h2 => (o1 x (by have := hS.1; omega)).trans (hS.2.1 x h1 h2), hS.2.2⟩ hL
  rw [List.map_cons, z_v_ref (show (0 : Int) ≤ (n : Int) by omega)] at g
  exact g
theorem V_newZ {Γ : z_C} {M : z_M} {a : Nat × Nat × Nat} {pc : Nat} {L st : List (Nat × Int)} {h : z_H} {N : Nat} {v : Int} (X : z_Ok Γ M) (d : decode M.2.1 pc = .ok (.newarray .boolean, 2)) (hw : Cond.arrayClass .boolean ∈ z_gw) (hv : v = (N : Int)) (hN : N ≤ 100000) (hk : z_kd (a.1 + 1) (a.1 : Int) = (2, N)) (hcs : a.2.1 + 1 ≤ M.2.2.2.2.2.2.1 ∧ a.2.2 + N ≤ M.2.2.2.2.2.2.2) (kk : z_V Γ (a.1 + 1, a.2.1 + 1, a.2.2 + N) (pc + 2) L ((2, (a.1 : Int)) :: st) (z_nw h a.1 (2, N))) : z_V Γ a pc L ((0, v) :: st) h := by
  obtain ⟨p, l, e, R, s, m, args, below, meth, c, Q, D, ca, base⟩ := Γ
  obtain ⟨y, cc, nL, ret, fr, lo, rc, rs⟩ := M
  obtain ⟨n, cells, slots⟩ := a
  obtain ⟨hx, hb, hml, hown, hts, hlk, hrt, hfr, hlo, hrc, hrs, hK, hbs, hnm⟩ := X
  intro H locs ls hW hS hL
  refine z_sized hW hS hbs (fun hsz => ?_)
  have hr : z_R v := ⟨by omega, by omega⟩
  have hvn : (z_i v).toNatClampNeg = N := by show (z_i v).toInt.toNat = N; rw [z_i_to hr]; omega
  refine va_newaK (N := N) (atype := .boolean) hx hb (hts _ hw) rfl d rfl (fun q => ?_) hvn (by show N * _ ≤ _; simp [componentBytes, newarray.typeOf]; omega) (by rw [hrc]; exact hcs.1) (by rw [hrs]; exact hcs.2) hsz fun H1 cA e1 z1 o1 hAr hNm => ?_
  · have := (z_i_lt hr z_R0).mp q; omega
  have hcA : cA = ca 2 := Option.some.inj (hNm.symm.trans (hK.1.2 1 _ rfl).2)
  subst hcA
  have hP1 : va_P D vwCl (z_w ca base n h ++ [(base + n, .inl (ca 2, N, .inl fun _ => z_i 0))]) H1 := by
    refine (va_P.kept hW.2 (fun k x hx => o1 x.1 (by have := (hW.2 k x hx).lt; omega))).app (fun k x hx => ?_)
    have hz : k < 1 := (List.getElem?_eq_some_iff.mp hx).1
    rw [show k = 0 by omega] at hx
    cases hx
    exact e1
  have hw : z_W D ca base (n + 1) (z_nw h n (2, N)) H1 := z_W_push hP1 hk (fun k hkn => z_nw_lt h hkn) (by rw [z_nw_at]; rfl)
  have g := kk H1 locs ls ⟨by have := hW.1; show base + (n + 1) = s.heap.size + (cells + 1); omega, hw⟩ ⟨Nat.le_trans hS.1 (by omega), fun x h1 h2 => (o1 x (by have := hS.1; omega)).trans (hS.2.1 x h1 h2), hS.2.2⟩ hL
  rw [List.map_cons, z_v_ref (show (0 : Int) ≤ (n : Int) by omega)] at g
  exact g
theorem V_newM {Γ : z_C} {M : z_M} {a : Nat × Nat × Nat} {pc : Nat} {L st : List (Nat × Int)} {h : z_H} {N idx : Nat} {v : Int} (X : z_Ok Γ M) (d : decode M.2.1 pc = .ok (.anewarray idx, 3)) (hw : Cond.classLink M.1.cls idx RX2 ∈ z_gw) (hv : v = (N : Int)) (hN : N ≤ 100000) (hk : z_kd (a.1 + 1) (a.1 : Int) = (3, N)) (hcs : a.2.1 + 1 ≤ M.2.2.2.2.2.2.1 ∧ a.2.2 + N ≤ M.2.2.2.2.2.2.2) (kk : z_V Γ (a.1 + 1, a.2.1 + 1, a.2.2 + N) (pc + 3) L ((2, (a.1 : Int)) :: st) (z_nw h a.1 (3, N))) : z_V Γ a pc L ((0, v) :: st) h := by
  obtain ⟨p, l, e, R, s, m, args, below, meth, c, Q, D, ca, base⟩ := Γ
  obtain ⟨y, cc, nL, ret, fr, lo, rc, rs⟩ := M
  obtain ⟨n, cells, slots⟩ := a
  obtain ⟨hx, hb, hml, hown, hts, hlk, hrt, hfr, hlo, hrc, hrs, hK, hbs, hnm⟩ := X
  intro H locs ls hW hS hL
  refine z_sized hW hS hbs (fun hsz => ?_)
  have hr : z_R v := ⟨by omega, by omega⟩
  have hvn : (z_i v).toNatClampNeg = N := by show (z_i v).toInt.toNat = N; rw [z_i_to hr]; omega
  have hn0 : ¬ z_i v < 0 := fun q => by have := (z_i_lt hr z_R0).mp q; omega
  refine W.anew hx hb hown (hts _ hw) (va_AO.use hK.2.2.1) rfl d rfl hn0 (by rw [hvn]; omega) (by rw [hrc]; exact hcs.1) (by rw [hvn, hrs]; exact hcs.2) fun cA kA comp f1 f2 f3 f4 => ?_
  rw [hvn]
  generalize hH1 : H.push ({ cls := cA, slots := Array.replicate N .null, vm := .none } : Cell) = H1
  have z1 : H1.size = H.size + 1 := by rw [← hH1, Array.size_push]
  have e1 : H1[H.size]? = some (arrV cA N (fun _ => .null)) := by rw [← hH1, Array.getElem?_push_size, ← arrV_new]
  have o1 : ∀ q : Nat, q < H.size → H1[q]? = H[q]? := fun q hq => by rw [← hH1, Array.getElem?_push, if_neg (Nat.ne_of_lt hq)]
  obtain ⟨kA', comp', k1, k2, k3, k4⟩ := (hK.1.2 2 _ rfl).2
  have hcA : cA = ca 3 := by
    first | exact Option.some.inj (f4.symm.trans k4) | exact Option.some.inj (f1.symm.trans k4)
  subst hcA
  have hP1 : va_P D vwCl (z_w ca base n h ++ [(base + n, .inl (ca 3, N, .inr (.inr (.inr (.inr fun _ => z_on base (-1))))))]) H1 := by
    refine (va_P.kept hW.2 (fun k x hx => o1 x.1 ((hW.2 k x hx).lt))).app (fun k x hx => ?_)
    have hz : k < 1 := (List.getElem?_eq_some_iff.mp hx).1
    rw [show k = 0 by omega] at hx
    cases hx
    rw [hsz] at e1
    exact e1
  have hw : z_W D ca base (n + 1) (z_nw h n (3, N)) H1 := z_W_push hP1 hk (fun k hkn => z_nw_lt h hkn) (by rw [z_nw_at]; rfl)
  have g := kk H1 locs ls ⟨by have := hW.1; show base + (n + 1) = s.heap.size + (cells + 1); omega, hw⟩ ⟨Nat.le_trans hS.1 (by omega), fun x h1 h2 => (o1 x (Nat.lt_of_lt_of_le h1 hS.1)).trans (hS.2.1 x h1 h2), hS.2.2⟩ hL
  rw [List.map_cons, z_v_ref (show (0 : Int) ≤ (n : Int) by omega)] at g
  rw [hsz]
  exact g
theorem V_newS {Γ : z_C} {M : z_M} {a : Nat × Nat × Nat} {pc : Nat} {L st : List (Nat × Int)} {h : z_H} {N idx : Nat} {v : Int} (X : z_Ok Γ M) (d : decode M.2.1 pc = .ok (.anewarray idx, 3)) (hw : Cond.classLink M.1.cls idx RX6 ∈ z_gw) (hv : v = (N : Int)) (hN : N ≤ 100000) (hk : z_kd (a.1 + 1) (a.1 : Int) = (4, N)) (hcs : a.2.1 + 1 ≤ M.2.2.2.2.2.2.1 ∧ a.2.2 + N ≤ M.2.2.2.2.2.2.2) (kk : z_V Γ (a.1 + 1, a.2.1 + 1, a.2.2 + N) (pc + 3) L ((2, (a.1 : Int)) :: st) (z_nw h a.1 (4, N))) : z_V Γ a pc L ((0, v) :: st) h := by
  obtain ⟨p, l, e, R, s, m, args, below, meth, c, Q, D, ca, base⟩ := Γ
  obtain ⟨y, cc, nL, ret, fr, lo, rc, rs⟩ := M
  obtain ⟨n, cells, slots⟩ := a
  obtain ⟨hx, hb, hml, hown, hts, hlk, hrt, hfr, hlo, hrc, hrs, hK, hbs, hnm⟩ := X
  intro H locs ls hW hS hL
  refine z_sized hW hS hbs (fun hsz => ?_)
  have hr : z_R v := ⟨by omega, by omega⟩
  have hvn : (z_i v).toNatClampNeg = N := by show (z_i v).toInt.toNat = N; rw [z_i_to hr]; omega
  have hn0 : ¬ z_i v < 0 := fun q => by have := (z_i_lt hr z_R0).mp q; omega
  refine W.anew hx hb hown (hts _ hw) (va_AO.use hK.2.2.2) rfl d rfl hn0 (by rw [hvn]; omega) (by rw [hrc]; exact hcs.1) (by rw [hvn, hrs]; exact hcs.2) fun cA kA comp f1 f2 f3 f4 => ?_
  rw [hvn]
  generalize hH1 : H.push ({ cls := cA, slots := Array.replicate N .null, vm := .none } : Cell) = H1
  have z1 : H1.size = H.size + 1 := by rw [← hH1, Array.size_push]
  have e1 : H1[H.size]? = some (arrV cA N (fun _ => .null)) := by rw [← hH1, Array.getElem?_push_size, ← arrV_new]
  have o1 : ∀ q : Nat, q < H.size → H1[q]? = H[q]? := fun q hq => by rw [← hH1, Array.getElem?_push, if_neg (Nat.ne_of_lt hq)]
  obtain ⟨kA', comp', k1, k2, k3, k4⟩ := (hK.1.2 3 _ rfl).2
  have hcA : cA = ca 4 := by
    first | exact Option.some.inj (f4.symm.trans k4) | exact Option.some.inj (f1.symm.trans k4)
  subst hcA
  have hP1 : va_P D vwCl (z_w ca base n h ++ [(base + n, .inl (ca 4, N, .inr (.inr (.inr (.inr fun _ => z_on base (-1))))))]) H1 := by
    refine (va_P.kept hW.2 (fun k x hx => o1 x.1 ((hW.2 k x hx).lt))).app (fun k x hx => ?_)
    have hz : k < 1 := (List.getElem?_eq_some_iff.mp hx).1
    rw [show k = 0 by omega] at hx
    cases hx
    rw [hsz] at e1
    exact e1
  have hw : z_W D ca base (n + 1) (z_nw h n (4, N)) H1 := z_W_push hP1 hk (fun k hkn => z_nw_lt h hkn) (by rw [z_nw_at]; rfl)
  have g := kk H1 locs ls ⟨by have := hW.1; show base + (n + 1) = s.heap.size + (cells + 1); omega, hw⟩ ⟨Nat.le_trans hS.1 (by omega), fun x h1 h2 => (o1 x (Nat.lt_of_lt_of_le h1 hS.1)).trans (hS.2.1 x h1 h2), hS.2.2⟩ hL
  rw [List.map_cons, z_v_ref (show (0 : Int) ≤ (n : Int) by omega)] at g
  rw [hsz]
  exact g
theorem V_objI {Γ : z_C} {M : z_M} {a : Nat × Nat × Nat} {pc : Nat} {L st : List (Nat × Int)} {h : z_H} {idx : Nat} {k : Int} (X : z_Ok Γ M) (d : decode M.2.1 pc = .ok (.invokespecial idx, 3)) (hk : 0 ≤ k) (hl : Cond.methodLink M.1.cls idx Lib.objectInit ∈ z_gw) (hi : Cond.instanceMethod Lib.objectInit ∈ z_gw) (hc : Cond.code Lib.objectInit ⟨#[0xb1]⟩ 1 none ∈ z_gw) (hR : 1 ≤ M.2.2.2.2.1 ∧ z_wd st + 12 ≤ M.2.2.2.2.2.1) (kk : z_V Γ a (pc + 3) L st h) : z_V Γ a pc L ((2, k) :: st) h := by
  obtain ⟨p, l, e, R, s, m, args, below, meth, c, Q, D, ca, base⟩ := Γ
  obtain ⟨y, cc, nL, ret, fr, lo, rc, rs⟩ := M
  obtain ⟨n, cells, slots⟩ := a
  obtain ⟨hx, hb, hml, hown, hts, hlk, hrt, hfr, hlo, hrc, hrs, hK, hbs, hnm⟩ := X
  intro H locs ls hW hS hL
  rw [List.map_cons, z_v_ref hk]
  exact W.objInit hx hb hown (hts _ hl) (hts _ hi) (hts _ hc) rfl hL.1 rfl d (by rw [hfr]; exact hR.1) (by show 2 * 0 + _ + 12 ≤ _; rw [z_wd_eq, hlo]; have h2 : z_wd st + 12 ≤ lo := hR.2; omega) (kk H locs ls hW hS hL)
/-- one row copied over another, places 0 to N -/
def z_cp (h : z_H) (k1 k2 : Int) (N : Nat) : z_H := fun q r => if q = k2 then (if 0 ≤ r ∧ r < N then h k1 r else h k2 r) else h q r
theorem V_acopy {Γ : z_C} {M : z_M} {a : Nat × Nat × Nat} {pc : Nat} {L st : List (Nat × Int)} {h : z_H} {idx N N1 N2 : Nat} {k1 k2 v : Int} (X : z_Ok Γ M) (d : decode M.2.1 pc = .ok (.invokestatic idx, 3)) (hl : Cond.methodLink M.1.cls idx arraycopyName ∈ z_gw) (hnt : Cond.native arraycopyName ∈ z_gw) (hst : Cond.static arraycopyName ∈ z_gw) (hin : Cond.initialized "java/lang/System" ∈ z_gw) (hk1 : z_kd a.1 k1 = (1, N1)) (hk2 : z_kd a.1 k2 = (1, N2)) (hv : v = (N : Int)) (h1 : N ≤ N1) (h2 : N ≤ N2) (hN : N < 100000) (hR : 1 ≤ M.2.2.2.2.1 ∧ z_wd st + (nativeFrameWords "java/lang/System" "arraycopy" 5 + 11) ≤ M.2.2.2.2.2.1) (kk : z_V Γ a (pc + 3) L st (z_cp h k1 k2 N)) : z_V Γ a pc L ((0, v) :: (0, 0) :: (2, k2) :: (0, 0) :: (2, k1) :: st) h := by
  obtain ⟨p, l, e, R, s, m, args, below, meth, c, Q, D, ca, base⟩ := Γ
  obtain ⟨y, cc, nL, ret, fr, lo, rc, rs⟩ := M
  obtain ⟨n, cells, slots⟩ := a
  obtain ⟨hx, hb, hml, hown, hts, hlk, hrt, hfr, hlo, hrc, hrs, hK, hbs, hnm⟩ := X
  intro H locs ls hW hS hL
  have k10 := (z_kd_spec hk1 (Nat.ne_of_beq_eq_false rfl)).1
  have k20 := (z_kd_spec hk2 (Nat.ne_of_beq_eq_false rfl)).1
  have hr : z_R v := ⟨by omega, by omega⟩
  have hvn : (z_i v).toNatClampNeg = N := by show (z_i v).toInt.toNat = N; rw [z_i_to hr]; omega
  have hn0 : ¬ z_i v < 0 := fun q => by have := (z_i_lt hr z_R0).mp q; omega
  have hz0 : (z_i 0).toNatClampNeg = 0 := rfl
  rw [List.map_cons, List.map_cons, List.map_cons, List.map_cons, List.map_cons, z_v_ref k10, z_v_ref k20]
  refine va_copyi (D := D) (c0 := ca 1) (c1 := ca 1) (ty := .int) (n0 := N1) (n1 := N2) (f := fun j => z_i (h k1 j)) (g := fun j => z_i (h k2 j)) hx hb hL.1.symm hown (hts _ hl) (hts _ hnt) (hts _ hst) (hts _ hin) hK.1 hW.2 (z_D ca base n h) hS k1.toNat k2.toNat 0 0 (z_w_at hk1 (Nat.ne_of_beq_eq_false rfl)) (z_w_at hk2 (Nat.ne_of_beq_eq_false rfl)) rfl rfl rfl (by decide) (by decide) hn0 (by rw [hz0, hvn]; omega) (by rw [hz0, hvn]; omega) (fun _ _ => rfl) (by rw [hfr]; exact hR.1) (by rw [z_wd_eq, hlo]; exact hR.2) d (fun H1 locs1 hP1 hD1 hS1 => ?_)
  refine kk H1 locs1 ls ⟨hW.1, ?_⟩ hS1 hL
  show va_P _ _ _ _
  rw [hz0, hvn] at hP1
  rw [← z_w_set (ca := ca) (base := base) (h := h) (h' := z_cp h k1 k2 N) hk2 (Nat.ne_of_beq_eq_false rfl) rfl (fun q hq => by funext r; unfold z_cp; rw [if_neg hq])]
  have e : (fun j : Nat => z_i (z_cp h k1 k2 N k2 j)) = va_cpy (fun j : Nat => z_i (h k1 j)) (fun j : Nat => z_i (h k2 j)) 0 0 N := by
    funext j
    unfold z_cp va_cpy
    rw [if_pos rfl]
    by_cases hj : j < N
    · rw [if_pos ⟨by omega, by omega⟩, if_pos ⟨by omega, by omega⟩]
      simp
    · rw [if_neg (by omega), if_neg (by omega)]
  show va_P D vwCl ((z_w ca base n h).set k2.toNat (base + k2.toNat, .inl (ca 1, N2, .inl fun j : Nat => z_i (z_cp h k1 k2 N k2 j)))) H1
  rw [e]
  exact hP1
/-- ways to go on: a value that two ways bring, a name for a value -/
theorem V_top {Γ : z_C} {a : Nat × Nat × Nat} {pc : Nat} {L st : List (Nat × Int)} {h : z_H} {t : Nat} {v : Int} (k : ∀ z, z = v → z_V Γ a pc L ((t, z) :: st) h) : z_V Γ a pc L ((t, v) :: st) h := k v rfl
theorem V_joinS {Γ : z_C} {a : Nat × Nat × Nat} {pc : Nat} {L st : List (Nat × Int)} {h : z_H} (pcJ : Nat) (P : Int → Prop) (b : (∀ z, P z → z_V Γ a pcJ L ((0, z) :: st) h) → z_V Γ a pc L st h) (k : ∀ z, P z → z_V Γ a pcJ L ((0, z) :: st) h) : z_V Γ a pc L st h := b k
theorem V_joinL {Γ : z_C} {a : Nat × Nat × Nat} {pc : Nat} {L st : List (Nat × Int)} {h : z_H} (pcJ i : Nat) (P : Int → Prop) (b : (∀ z, P z → z_V Γ a pcJ (L.set i (0, z)) st h) → z_V Γ a pc L st h) (k : ∀ z, P z → z_V Γ a pcJ (L.set i (0, z)) st h) : z_V Γ a pc L st h := b k
theorem V_heap {Γ : z_C} {a : Nat × Nat × Nat} {pc : Nat} {L st : List (Nat × Int)} {h h' : z_H} (e : h = h') (k : z_V Γ a pc L st h') : z_V Γ a pc L st h := e ▸ k
theorem V_loc {Γ : z_C} {a : Nat × Nat × Nat} {pc : Nat} {L L' st : List (Nat × Int)} {h : z_H} (e : L = L') (k : z_V Γ a pc L' st h) : z_V Γ a pc L st h := e ▸ k
theorem V_stk {Γ : z_C} {a : Nat × Nat × Nat} {pc : Nat} {L st st' : List (Nat × Int)} {h : z_H} (e : st = st') (k : z_V Γ a pc L st' h) : z_V Γ a pc L st h := e ▸ k
