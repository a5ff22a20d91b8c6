/-! THE CALCULUS, 5: answers, calls, new cells -/
theorem V_iret {Γ : z_C} {M : z_M} {a : Nat × Nat × Nat} {pc : Nat} {L st : List (Nat × Int)} {h : z_H} {n0 : Nat} {P : Option (Nat × Int) → z_H → Prop} {v : Int} (X : z_Ok Γ M) (hQ : z_RQ Γ M n0 P) (d : decode M.2.1 pc = .ok (.ireturn, 1)) (hr : M.2.2.2.1 = some .int) (ha : a = (n0 + M.2.2.2.2.2.2.1, M.2.2.2.2.2.2.1, M.2.2.2.2.2.2.2)) (hp : P (some (0, v)) h) : z_V Γ a pc L [(0, v)] h := by
  subst ha
  obtain ⟨p, l, e, R, s, m, args, below, meth, c, Q, D, ca, base⟩ := Γ
  obtain ⟨y, cc, nL, ret, fr, lo, rc, rs⟩ := M
  obtain ⟨hx, hb, hml, hown, hts, hlk, hrt, hfr, hlo, hrc, hrs, hK, hbs, hnm⟩ := X
  intro H locs ls hW hS hL
  have hQ : Q = MQ below (z_Qc D ca base (n0 + rc) P) args s rc rs (fun q => base ≤ q) := hQ
  subst hQ
  exact W.iret (v := z_i v) hx hb (hrt.trans hr) (fun t ht hWm => ⟨⟨some (0, v), h, rfl, hp, by rw [ht]; exact hW.2⟩, hS.F ht⟩) hS.2.2 d hlk
theorem V_zret {Γ : z_C} {M : z_M} {a : Nat × Nat × Nat} {pc : Nat} {L st : List (Nat × Int)} {h : z_H} {n0 : Nat} {P : Option (Nat × Int) → z_H → Prop} {v : Int} (X : z_Ok Γ M) (hQ : z_RQ Γ M n0 P) (d : decode M.2.1 pc = .ok (.ireturn, 1)) (hr : M.2.2.2.1 = some .boolean) (hv : v = 0 ∨ v = 1) (ha : a = (n0 + M.2.2.2.2.2.2.1, M.2.2.2.2.2.2.1, M.2.2.2.2.2.2.2)) (hp : P (some (0, v)) h) : z_V Γ a pc L [(0, v)] h := by
  subst ha
  obtain ⟨p, l, e, R, s, m, args, below, meth, c, Q, D, ca, base⟩ := Γ
  obtain ⟨y, cc, nL, ret, fr, lo, rc, rs⟩ := M
  obtain ⟨hx, hb, hml, hown, hts, hlk, hrt, hfr, hlo, hrc, hrs, hK, hbs, hnm⟩ := X
  intro H locs ls hW hS hL
  have hQ : Q = MQ below (z_Qc D ca base (n0 + rc) P) args s rc rs (fun q => base ≤ q) := hQ
  subst hQ
  exact W.zret (v := z_i v) hx hb (hrt.trans hr) (z_fitZ base hv).1 (fun t ht hWm => ⟨⟨some (0, v), h, rfl, hp, by rw [ht]; exact hW.2⟩, hS.F ht⟩) hS.2.2 d hlk
theorem V_lret {Γ : z_C} {M : z_M} {a : Nat × Nat × Nat} {pc : Nat} {L st : List (Nat × Int)} {h : z_H} {n0 : Nat} {P : Option (Nat × Int) → z_H → Prop} {v : Int} (X : z_Ok Γ M) (hQ : z_RQ Γ M n0 P) (d : decode M.2.1 pc = .ok (.lreturn, 1)) (hr : M.2.2.2.1 = some .long) (ha : a = (n0 + M.2.2.2.2.2.2.1, M.2.2.2.2.2.2.1, M.2.2.2.2.2.2.2)) (hp : P (some (1, v)) h) : z_V Γ a pc L [(1, v)] h := by
  subst ha
  obtain ⟨p, l, e, R, s, m, args, below, meth, c, Q, D, ca, base⟩ := Γ
  obtain ⟨y, cc, nL, ret, fr, lo, rc, rs⟩ := M
  obtain ⟨hx, hb, hml, hown, hts, hlk, hrt, hfr, hlo, hrc, hrs, hK, hbs, hnm⟩ := X
  intro H locs ls hW hS hL
  have hQ : Q = MQ below (z_Qc D ca base (n0 + rc) P) args s rc rs (fun q => base ≤ q) := hQ
  subst hQ
  exact W.lret (v := z_l v) hx hb (hrt.trans hr) (fun t ht hWm => ⟨⟨some (1, v), h, rfl, hp, by rw [ht]; exact hW.2⟩, hS.F ht⟩) hS.2.2 d hlk
theorem V_vret {Γ : z_C} {M : z_M} {a : Nat × Nat × Nat} {pc : Nat} {L st : List (Nat × Int)} {h : z_H} {n0 : Nat} {P : Option (Nat × Int) → z_H → Prop}  (X : z_Ok Γ M) (hQ : z_RQ Γ M n0 P) (d : decode M.2.1 pc = .ok (.return_, 1)) (hr : M.2.2.2.1 = none) (ha : a = (n0 + M.2.2.2.2.2.2.1, M.2.2.2.2.2.2.1, M.2.2.2.2.2.2.2)) (hp : P none h) : z_V Γ a pc L [] h := by
  subst ha
  obtain ⟨p, l, e, R, s, m, args, below, meth, c, Q, D, ca, base⟩ := Γ
  obtain ⟨y, cc, nL, ret, fr, lo, rc, rs⟩ := M
  obtain ⟨hx, hb, hml, hown, hts, hlk, hrt, hfr, hlo, hrc, hrs, hK, hbs, hnm⟩ := X
  intro H locs ls hW hS hL
  have hQ : Q = MQ below (z_Qc D ca base (n0 + rc) P) args s rc rs (fun q => base ≤ q) := hQ
  subst hQ
  exact W.vret hx hb (hrt.trans hr) (fun t ht hWm => ⟨⟨none, h, rfl, hp, by rw [ht]; exact hW.2⟩, hS.F ht⟩) hS.2.2 d hlk
theorem V_aret {Γ : z_C} {M : z_M} {a : Nat × Nat × Nat} {pc : Nat} {L st : List (Nat × Int)} {h : z_H} {n0 : Nat} {P : Option (Nat × Int) → z_H → Prop} {v : Int} {C : String} (X : z_Ok Γ M) (hQ : z_RQ Γ M n0 P) (d : decode M.2.1 pc = .ok (.areturn, 1)) (hr : M.2.2.2.1 = some (.object C)) (h0 : 0 ≤ v) (ha : a = (n0 + M.2.2.2.2.2.2.1, M.2.2.2.2.2.2.1, M.2.2.2.2.2.2.2)) (hp : P (some (2, v)) h) : z_V Γ a pc L [(2, v)] h := by
  subst ha
  obtain ⟨p, l, e, R, s, m, args, below, meth, c, Q, D, ca, base⟩ := Γ
  obtain ⟨y, cc, nL, ret, fr, lo, rc, rs⟩ := M
  obtain ⟨hx, hb, hml, hown, hts, hlk, hrt, hfr, hlo, hrc, hrs, hK, hbs, hnm⟩ := X
  intro H locs ls hW hS hL
  have hQ : Q = MQ below (z_Qc D ca base (n0 + rc) P) args s rc rs (fun q => base ≤ q) := hQ
  subst hQ
  exact W.aret (v := z_v base (2, v)) hx hb (hrt.trans hr) (Or.inl ⟨C, rfl⟩) (Or.inr ⟨_, z_v_ref h0⟩) (fun t ht hWm => ⟨⟨some (2, v), h, rfl, hp, by rw [ht]; exact hW.2⟩, hS.F ht⟩) hS.2.2 d hlk
theorem z_sized {p : Program} {l : Launch} {e : Env} {R : Room} {s : State} {m : MethodId} {args : Array Value} {below : List Frame} {meth : Method} {c : Code} {H : Heap} {locs : List Loc} {cells slots : Nat} {Q : State → Prop} {g : JFrame} {D : va_G} {ca : Nat → ClassId} {base n : Nat} {h : z_H} (hW : base + n = s.heap.size + cells ∧ z_W D ca base n h H) (hS : va_S (fun q => base ≤ q) s.heap H locs) (hbs : base ≤ s.heap.size) (k : H.size = base + n → W p l e R s m args below meth c H locs cells slots Q g) : W p l e R s m args below meth c H locs cells slots Q g := by
  intro T hT X
  refine k ?_ T hT X
  have h1 : H.size ≤ s.heap.size + cells := by rw [← hT]; exact X.heapSize
  have h2 : base + n ≤ H.size := by
    match n, hW with
    | 0, hW => have := hS.1; omega
    | n + 1, hW =>
      have hw : (z_w ca base (n + 1) h)[n]? = some (base + n, z_e ca base (z_kd (n + 1) (n : Int)) (h (n : Int))) := by
        unfold z_w
        rw [List.getElem?_map, List.getElem?_range (by omega)]
        rfl
      have := (hW.2 n _ hw).lt
      have h3 : base + n < H.size := this
      omega
  have := hW.1
  omega
/-- behind a call -/
theorem z_after {p : Program} {l : Launch} {e : Env} {R : Room} {s : State} {m : MethodId} {args : Array Value} {below : List Frame} {meth : Method} {c : Code} {H : Heap} {locs : List Loc} {cells slots mc ms n : Nat} {Q : State → Prop} {D : va_G} {ca : Nat → ClassId} {base pc : Nat} {ls : Array Slot} {st0 rest : List Value} {av : Array Value} {P : Option (Nat × Int) → z_H → Prop}
    (hr : va_Run p l e R s m args below meth c H locs cells slots mc ms (F0 m pc ls st0) rest (z_Qc D ca base n P av) (fun q => base ≤ q)) (hS : va_S (fun q => base ≤ q) s.heap H locs)
    (kk : ∀ (r : Option (Nat × Int)) (h : z_H) (H1 : Heap) (locs1 : List Loc), P r h → z_W D ca base n h H1 → va_S (fun q => base ≤ q) s.heap H1 locs1 → W p l e R s m args below meth c H1 locs1 (cells + mc) (slots + ms) Q (F0 m (pc + 3) ls ((r.map (z_v base)).toList ++ rest))) : W p l e R s m args below meth c H locs cells slots Q (F0 m pc ls st0) := by
  intro T hT X
  obtain ⟨v, st₀, t, T', L, h0, X', hL, e1, e2, ⟨⟨r, h, hv, hp, hw⟩, hz, hk⟩, st⟩ := hr T hT X
  cases hv
  rw [h0] at hz hk
  obtain ⟨t2, a1, b1⟩ := kk r h T'.heap (locs ++ L) hp (by rw [e1]; exact hw)
    ⟨Nat.le_trans hS.1 (by rw [e1]; exact hz), fun q h1 h2 => by rw [e1, hk q (Nat.lt_of_lt_of_le h1 hS.1) h2]; exact hS.2.1 q h1 h2, fun q hq => by
      rcases List.mem_append.mp hq with h | h
      · exact hS.2.2 q h
      · exact hL q h⟩ T' rfl X'
  exact ⟨t2, st t2 a1, b1⟩
theorem z_blind (D : va_G) (ca : Nat → ClassId) (base n : Nat) (as : List (Nat × Int)) (h : z_H) : FrameBlind (z_Pc D ca base n as h) := fun a U g mk q => ⟨q.1, q.2.1, q.2.2.1, z_K.same (s := U) (U := U.calling g mk a) rfl q.2.2.2⟩
theorem z_good {y : MethodName} {cc : ByteArray} {nL : Nat} {ret : Option FieldType} (h : Cond.code y cc nL ret ∈ z_gw) : GoodIn z_gw (Cond.code y cc nL ret :: z_gw) := fun w hw => by
  have hm : w ∈ z_gw := (List.mem_cons.mp hw).elim (fun e => by rw [e]; exact h) id
  exact ⟨hm, good_of_word (z_gw_good hm)⟩
/-- the words of a stack below a call -/
def z_wd (st : List (Nat × Int)) : Nat := (st.map fun c => if c.1 = 1 then 2 else 1).sum
theorem z_wd_eq (base : Nat) (st : List (Nat × Int)) : ((st.map (z_v base)).map fun v => v.category).sum = z_wd st := by
  unfold z_wd
  rw [List.map_map]
  congr 1
  apply List.map_congr_left
  intro q _
  exact z_cat base q
theorem V_callV {Γ : z_C} {M : z_M} {a : Nat × Nat × Nat} {pc : Nat} {L st : List (Nat × Int)} {h : z_H} {N : z_M} {na : Nat} {as : List (Nat × Int)} {P : Option (Nat × Int) → z_H → Prop} {idx : Nat} {k : Int} {ci : Nat} (X : z_Ok Γ M) (d : decode M.2.1 pc = .ok (.invokevirtual idx, 3)) (hM : z_MOk N na) (hl : Cond.methodLink M.1.cls idx N.1 ∈ z_gw) (hi : Cond.instanceMethod N.1 ∈ z_gw) (hs : Cond.selects N.1.cls N.1 N.1 ∈ z_gw) (hR : N.2.2.2.2.1 + 1 ≤ M.2.2.2.2.1 ∧ 8 + (N.2.2.1 + 11) + N.2.2.2.2.2.1 ≤ M.2.2.2.2.2.1) (hcs : a.2.1 + N.2.2.2.2.2.2.1 ≤ M.2.2.2.2.2.2.1 ∧ a.2.2 + N.2.2.2.2.2.2.2 ≤ M.2.2.2.2.2.2.2) (hk : z_kd a.1 k = (0, ci)) (hci : ∀ q, vwCl[ci]? = some q → q.1 = N.1.cls) (hcv : (vwCl[ci]?).isSome = true) (hn : as.length = na) (hw : z_wd st ≤ 8) (hC : z_Ct N a.1 ((2, k) :: as) h P) (kk : ∀ r h', P r h' → z_V Γ (a.1 + N.2.2.2.2.2.2.1, a.2.1 + N.2.2.2.2.2.2.1, a.2.2 + N.2.2.2.2.2.2.2) (pc + 3) L (r.toList ++ st) h') : z_V Γ a pc L (as.reverse ++ (2, k) :: st) h := by
  obtain ⟨p, l, e, R, s, m, args, below, meth, c, Q, D, ca, base⟩ := Γ
  obtain ⟨y, cc, nL, ret, fr, lo, rc, rs⟩ := M
  obtain ⟨n, cells, slots⟩ := a
  obtain ⟨hx, hb, hml, hown, hts, hlk, hrt, hfr, hlo, hrc, hrs, hK, hbs, hnm⟩ := X
  obtain ⟨y', cc', nL', ret', fr', lo', rc', rs'⟩ := N
  intro H locs ls hW hS hL
  obtain ⟨m1, m2, m3, m4, m5⟩ := hM
  have hts' : ∀ w ∈ z_gw, w.before args s = true := hts
  have k0 := (z_kd_spec hk (Nat.ne_of_beq_eq_false rfl)).1
  have cw : CallW R s args y.cls y'.cls idx y' cc' nL' ret' (Cond.code y' cc' nL' ret' :: z_gw) { frames := fr', cells := rc', slots := rs', locals := lo' } rc' rs' na := ⟨callB_of na hts' (z_good m1) rfl rfl rfl (hts' _ m2) (hts' _ hl) ⟨m3.1, m3.2, m4⟩ ⟨by rw [hfr]; exact hR.1, by rw [hlo]; exact hR.2⟩, hts' _ hi, hts' _ hs⟩
  obtain ⟨q, hq⟩ := Option.isSome_iff_exists.mp hcv
  have hrec := va_recv hK.1 hW.2 (ci := ci) (q0 := k.toNat) hq (z_w_at hk (Nat.ne_of_beq_eq_false rfl))
  rw [hci q hq] at hrec
  refine z_sized hW hS hbs (fun hsz => ?_)
  refine z_after (n := n + rc') (P := P) (rest := st.map (z_v base)) (va_runV (b := base + k.toNat) (As := as.map (z_v base)) (rest := st.map (z_v base)) ⟨hx, hb, hml, hown, hts'⟩ (hC l D ca base) cw ⟨z_blind D ca base n _ h, hrec, fun U hU hWm => ⟨by rw [List.map_cons, z_v_ref k0], by rw [hU]; exact hsz, by rw [hU]; exact hW.2, hK.warm hWm⟩⟩ rfl (by rw [List.length_map]; exact hn) (hL.1.trans hml) (by rw [List.map_append, List.map_cons, List.map_reverse, z_v_ref k0]) (by show 2 * 0 + _ ≤ 8; rw [z_wd_eq]; omega) d ⟨by rw [hrc]; exact hcs.1, by rw [hrs]; exact hcs.2⟩) hS (fun r h' H1 locs1 hp hw1 hS1 => ?_)
  rw [show (r.map (z_v base)).toList ++ st.map (z_v base) = (r.toList ++ st).map (z_v base) by cases r <;> rfl]
  exact kk r h' hp H1 locs1 ls ⟨by have := hW.1; show base + (n + rc') = s.heap.size + (cells + rc'); omega, hw1⟩ hS1 hL
theorem V_callS {Γ : z_C} {M : z_M} {a : Nat × Nat × Nat} {pc : Nat} {L st : List (Nat × Int)} {h : z_H} {N : z_M} {na : Nat} {as : List (Nat × Int)} {P : Option (Nat × Int) → z_H → Prop} {idx : Nat} (X : z_Ok Γ M) (d : decode M.2.1 pc = .ok (.invokestatic idx, 3)) (hM : z_MOk N na) (hl : Cond.methodLink M.1.cls idx N.1 ∈ z_gw) (hs : Cond.static N.1 ∈ z_gw) (hR : N.2.2.2.2.1 + 1 ≤ M.2.2.2.2.1 ∧ 8 + (N.2.2.1 + 11) + N.2.2.2.2.2.1 ≤ M.2.2.2.2.2.1) (hcs : a.2.1 + N.2.2.2.2.2.2.1 ≤ M.2.2.2.2.2.2.1 ∧ a.2.2 + N.2.2.2.2.2.2.2 ≤ M.2.2.2.2.2.2.2) (hn : as.length = na) (hw : z_wd st ≤ 8) (hC : z_Ct N a.1 as h P) (kk : ∀ r h', P r h' → z_V Γ (a.1 + N.2.2.2.2.2.2.1, a.2.1 + N.2.2.2.2.2.2.1, a.2.2 + N.2.2.2.2.2.2.2) (pc + 3) L (r.toList ++ st) h') : z_V Γ a pc L (as.reverse ++ st) h := by
  obtain ⟨p, l, e, R, s, m, args, below, meth, c, Q, D, ca, base⟩ := Γ
  obtain ⟨y, cc, nL, ret, fr, lo, rc, rs⟩ := M
  obtain ⟨n, cells, slots⟩ := a
  obtain ⟨hx, hb, hml, hown, hts, hlk, hrt, hfr, hlo, hrc, hrs, hK, hbs, hnm⟩ := X
  obtain ⟨y', cc', nL', ret', fr', lo', rc', rs'⟩ := N
  intro H locs ls hW hS hL
  obtain ⟨m1, m2, m3, m4, m5⟩ := hM
  have hts' : ∀ w ∈ z_gw, w.before args s = true := hts
  have cw : CallB R s args y.cls idx y' cc' nL' ret' (Cond.code y' cc' nL' ret' :: z_gw) { frames := fr', cells := rc', slots := rs', locals := lo' } rc' rs' na ∧ (Cond.static y').before args s = true := ⟨callB_of na hts' (z_good m1) rfl rfl rfl (hts' _ m2) (hts' _ hl) ⟨m3.1, m3.2, m4⟩ ⟨by rw [hfr]; exact hR.1, by rw [hlo]; exact hR.2⟩, hts' _ hs⟩
  refine z_sized hW hS hbs (fun hsz => ?_)
  refine z_after (n := n + rc') (P := P) (rest := st.map (z_v base)) (va_runS (As := as.map (z_v base)) (rest := st.map (z_v base)) ⟨hx, hb, hml, hown, hts'⟩ (hC l D ca base) cw ⟨z_blind D ca base n _ h, fun U hU hWm => ⟨rfl, by rw [hU]; exact hsz, by rw [hU]; exact hW.2, hK.warm hWm⟩⟩ rfl (by rw [List.length_map]; exact hn) (hL.1.trans hml) (by rw [List.map_append, List.map_reverse]) (by show 2 * 0 + _ ≤ 8; rw [z_wd_eq]; omega) d ⟨by rw [hrc]; exact hcs.1, by rw [hrs]; exact hcs.2⟩) hS (fun r h' H1 locs1 hp hw1 hS1 => ?_)
  rw [show (r.map (z_v base)).toList ++ st.map (z_v base) = (r.toList ++ st).map (z_v base) by cases r <;> rfl]
  exact kk r h' hp H1 locs1 ls ⟨by have := hW.1; show base + (n + rc') = s.heap.size + (cells + rc'); omega, hw1⟩ hS1 hL
theorem V_callI {Γ : z_C} {M : z_M} {a : Nat × Nat × Nat} {pc : Nat} {L st : List (Nat × Int)} {h : z_H} {N : z_M} {na : Nat} {as : List (Nat × Int)} {P : Option (Nat × Int) → z_H → Prop} {idx : Nat} {k : Int} (X : z_Ok Γ M) (d : decode M.2.1 pc = .ok (.invokespecial idx, 3)) (hM : z_MOk N na) (hl : Cond.methodLink M.1.cls idx N.1 ∈ z_gw) (hi : Cond.instanceMethod N.1 ∈ z_gw) (hin : N.1.name = "<init>") (hrn : N.2.2.2.1 = none) (hR : N.2.2.2.2.1 + 1 ≤ M.2.2.2.2.1 ∧ 8 + (N.2.2.1 + 11) + N.2.2.2.2.2.1 ≤ M.2.2.2.2.2.1) (hcs : a.2.1 + N.2.2.2.2.2.2.1 ≤ M.2.2.2.2.2.2.1 ∧ a.2.2 + N.2.2.2.2.2.2.2 ≤ M.2.2.2.2.2.2.2) (hk0 : 0 ≤ k) (hn : as.length = na) (hw : z_wd st ≤ 8) (hC : z_Ct N a.1 ((2, k) :: as) h P) (kk : ∀ r h', P r h' → z_V Γ (a.1 + N.2.2.2.2.2.2.1, a.2.1 + N.2.2.2.2.2.2.1, a.2.2 + N.2.2.2.2.2.2.2) (pc + 3) L (r.toList ++ st) h') : z_V Γ a pc L (as.reverse ++ (2, k) :: st) h := by
  obtain ⟨p, l, e, R, s, m, args, below, meth, c, Q, D, ca, base⟩ := Γ
  obtain ⟨y, cc, nL, ret, fr, lo, rc, rs⟩ := M
  obtain ⟨n, cells, slots⟩ := a
  obtain ⟨hx, hb, hml, hown, hts, hlk, hrt, hfr, hlo, hrc, hrs, hK, hbs, hnm⟩ := X
  obtain ⟨y', cc', nL', ret', fr', lo', rc', rs'⟩ := N
  intro H locs ls hW hS hL
  obtain ⟨m1, m2, m3, m4, m5⟩ := hM
  have hts' : ∀ w ∈ z_gw, w.before args s = true := hts
  have hrn : ret' = none := hrn
  subst hrn
  have cw : CallB R s args y.cls idx y' cc' nL' none (Cond.code y' cc' nL' none :: z_gw) { frames := fr', cells := rc', slots := rs', locals := lo' } rc' rs' na ∧ y'.name = "<init>" ∧ (Cond.instanceMethod y').before args s = true := ⟨callB_of na hts' (z_good m1) rfl rfl rfl (hts' _ m2) (hts' _ hl) ⟨m3.1, m3.2, m4⟩ ⟨by rw [hfr]; exact hR.1, by rw [hlo]; exact hR.2⟩, hin, hts' _ hi⟩
  refine z_sized hW hS hbs (fun hsz => ?_)
  refine z_after (n := n + rc') (P := P) (rest := st.map (z_v base)) (va_runI (b := base + k.toNat) (As := as.map (z_v base)) (rest := st.map (z_v base)) ⟨hx, hb, hml, hown, hts'⟩ (hC l D ca base) cw ⟨z_blind D ca base n _ h, fun U hU hWm => ⟨by rw [List.map_cons, z_v_ref hk0], by rw [hU]; exact hsz, by rw [hU]; exact hW.2, hK.warm hWm⟩⟩ rfl (by rw [List.length_map]; exact hn) (hL.1.trans hml) (by rw [List.map_append, List.map_cons, List.map_reverse, z_v_ref hk0]) (by show 2 * 0 + _ ≤ 8; rw [z_wd_eq]; omega) d ⟨by rw [hrc]; exact hcs.1, by rw [hrs]; exact hcs.2⟩) hS (fun r h' H1 locs1 hp hw1 hS1 => ?_)
  rw [show (r.map (z_v base)).toList ++ st.map (z_v base) = (r.toList ++ st).map (z_v base) by cases r <;> rfl]
  exact kk r h' hp H1 locs1 ls ⟨by have := hW.1; show base + (n + rc') = s.heap.size + (cells + rc'); omega, hw1⟩ hS1 hL
theorem V_callN {Γ : z_C} {M : z_M} {a : Nat × Nat × Nat} {pc : Nat} {L st : List (Nat × Int)} {h : z_H} {N : z_M} {na : Nat} {as : List (Nat × Int)} {P : Option (Nat × Int) → z_H → Prop} {idx : Nat} {k : Int} (X : z_Ok Γ M) (d : decode M.2.1 pc = .ok (.invokespecial idx, 3)) (hM : z_MOk N na) (hl : Cond.methodLinkNest M.1.cls idx N.1 RX9 ∈ z_nest) (hi : Cond.instanceMethod N.1 ∈ z_gw) (hin : N.1.name = "<init>") (hrn : N.2.2.2.1 = none) (hR : N.2.2.2.2.1 + 1 ≤ M.2.2.2.2.1 ∧ 8 + (N.2.2.1 + 11) + N.2.2.2.2.2.1 ≤ M.2.2.2.2.2.1) (hcs : a.2.1 + N.2.2.2.2.2.2.1 ≤ M.2.2.2.2.2.2.1 ∧ a.2.2 + N.2.2.2.2.2.2.2 ≤ M.2.2.2.2.2.2.2) (hk0 : 0 ≤ k) (hn : as.length = na) (hw : z_wd st ≤ 8) (hC : z_Ct N a.1 ((2, k) :: as) h P) (kk : ∀ r h', P r h' → z_V Γ (a.1 + N.2.2.2.2.2.2.1, a.2.1 + N.2.2.2.2.2.2.1, a.2.2 + N.2.2.2.2.2.2.2) (pc + 3) L (r.toList ++ st) h') : z_V Γ a pc L (as.reverse ++ (2, k) :: st) h := by
  obtain ⟨p, l, e, R, s, m, args, below, meth, c, Q, D, ca, base⟩ := Γ
  obtain ⟨y, cc, nL, ret, fr, lo, rc, rs⟩ := M
  obtain ⟨n, cells, slots⟩ := a
  obtain ⟨hx, hb, hml, hown, hts, hlk, hrt, hfr, hlo, hrc, hrs, hK, hbs, hnm⟩ := X
  obtain ⟨y', cc', nL', ret', fr', lo', rc', rs'⟩ := N
  intro H locs ls hW hS hL
  obtain ⟨m1, m2, m3, m4, m5⟩ := hM
  have hts' : ∀ w ∈ z_gw, w.before args s = true := hts
  have hrn : ret' = none := hrn
  subst hrn
  have cw : va_CN R s args y.cls idx y' RX9 cc' nL' none (Cond.code y' cc' nL' none :: z_gw) { frames := fr', cells := rc', slots := rs', locals := lo' } rc' rs' na ∧ y'.name = "<init>" ∧ (Cond.instanceMethod y').before args s = true := ⟨va_cnB na hts' (z_good m1) rfl rfl rfl (hK.2.1 _ hl) (hts' _ m2) ⟨m3.1, m3.2, m4⟩ ⟨by rw [hfr]; exact hR.1, by rw [hlo]; exact hR.2⟩, hin, hts' _ hi⟩
  refine z_sized hW hS hbs (fun hsz => ?_)
  refine z_after (n := n + rc') (P := P) (rest := st.map (z_v base)) (va_runIN (b := base + k.toNat) (As := as.map (z_v base)) (rest := st.map (z_v base)) ⟨hx, hb, hml, hown, hts'⟩ (hC l D ca base) cw ⟨z_blind D ca base n _ h, fun U hU hWm => ⟨by rw [List.map_cons, z_v_ref hk0], by rw [hU]; exact hsz, by rw [hU]; exact hW.2, hK.warm hWm⟩⟩ rfl (by rw [List.length_map]; exact hn) (hL.1.trans hml) (by rw [List.map_append, List.map_cons, List.map_reverse, z_v_ref hk0]) (by show 2 * 0 + _ ≤ 8; rw [z_wd_eq]; omega) d ⟨by rw [hrc]; exact hcs.1, by rw [hrs]; exact hcs.2⟩) hS (fun r h' H1 locs1 hp hw1 hS1 => ?_)
  rw [show (r.map (z_v base)).toList ++ st.map (z_v base) = (r.toList ++ st).map (z_v base) by cases r <;> rfl]
  exact kk r h' hp H1 locs1 ls ⟨by have := hW.1; show base + (n + rc') = s.heap.size + (cells + rc'); omega, hw1⟩ hS1 hL
