/-! THE CALCULUS, 2: words, contracts, the judgement -/
def z_gw : List Cond := lw_tbl.filter goodWord
theorem z_mem {w : Cond} (i : Nat) (h : lw_tbl[i]? = some w) (hg : goodWord w = true) : w ∈ z_gw := List.mem_filter.mpr ⟨List.mem_of_getElem? h, hg⟩
theorem z_gw_good {w : Cond} (h : w ∈ z_gw) : goodWord w = true := (List.mem_filter.mp h).2
abbrev z_C : Type := Program × Launch × Env × Room × State × MethodId × Array Value × List Frame × Method × Code × (State → Prop) × va_G × (Nat → ClassId) × Nat
/-- a method: its name, code, locals, what it returns; frames, words of locals, cells, slots that it may take -/
abbrev z_M : Type := MethodName × ByteArray × Nat × Option FieldType × Nat × Nat × Nat × Nat
abbrev z_H : Type := Int → Int → Int
def z_nest : List Cond := [.methodLinkNest RX9 11 yX4_init RX9, .methodLinkNest RX9 18 yX5_init RX9, .methodLinkNest RX6 15 yX2_init RX9, .methodLinkNest RX9 25 yX1_init RX9, .methodLinkNest RX9 32 yX7_init RX9, .methodLinkNest RX9 39 yX8_init RX9]
def z_K (D : va_G) (ca : Nat → ClassId) (U : State) : Prop := va_K D vwCl [(ca 1, .int), (ca 2, .boolean), (ca 3, .object RX2), (ca 4, .object RX6)] U ∧ (∀ w ∈ z_nest, va_Nw w U) ∧ va_AO RX2 U ∧ va_AO RX6 U
theorem z_K.warm {D : va_G} {ca : Nat → ClassId} {s U : State} (hW : s.WarmedH U.vm) (h : z_K D ca s) : z_K D ca U := by
  refine ⟨va_K.moved hW.alike h.1, ?_, h.2.2.1.moved hW.alike, h.2.2.2.moved hW.alike⟩
  intro w hw
  have hn := h.2.1 w hw
  simp only [z_nest, List.mem_cons, List.not_mem_nil, or_false] at hw
  rcases hw with rfl | rfl | rfl | rfl | rfl | rfl <;> exact va_Nw.warmM hW hn
theorem z_K.same {D : va_G} {ca : Nat → ClassId} {s U : State} (hW : s.vm = U.vm) (h : z_K D ca s) : z_K D ca U := by
  have ha : s.vm.Alike U.vm := by rw [← hW]; exact Vm.Alike.refl s.vm
  refine ⟨va_K.moved ha h.1, ?_, h.2.2.1.moved ha, h.2.2.2.moved ha⟩
  intro w hw
  have hn := h.2.1 w hw
  simp only [z_nest, List.mem_cons, List.not_mem_nil, or_false] at hw
  rcases hw with rfl | rfl | rfl | rfl | rfl | rfl <;> exact va_Nw.same rfl hW hn
def z_W (D : va_G) (ca : Nat → ClassId) (base n : Nat) (h : z_H) (H : Heap) : Prop := va_P D vwCl (z_w ca base n h) H
def z_Ok : z_C → z_M → Prop
  | (p, _, _, R, s, m, args, _, meth, c, _, D, ca, base), (y, cc, nL, ret, fr, lo, rc, rs) => p.tables.exec = Jvm.exec ∧ c.code = cc ∧ c.maxLocals = nL ∧ s.vm.findClass y.cls = some m.cls ∧ (∀ w ∈ z_gw, w.before args s = true) ∧ meth.locks = false ∧ meth.sig.returnType = ret ∧ R.frames = fr ∧ R.locals = lo ∧ R.cells = rc ∧ R.slots = rs ∧ z_K D ca s ∧ base ≤ s.heap.size ∧ meth.name = y.name
def z_L (base N : Nat) (ls : Array Slot) (L : List (Nat × Int)) : Prop := ls.size = N ∧ L.length = N ∧ lv_wf ls ∧ ∀ (i : Nat) (c : Nat × Int), L[i]? = some c → c.1 ≠ 9 → ls[i]? = some (.val (z_v base c))
/-- the judgement: n cells stand, cells and slots are taken, at pc with locals L, stack st, contents h -/
def z_V : z_C → Nat × Nat × Nat → Nat → List (Nat × Int) → List (Nat × Int) → z_H → Prop
  | (p, l, e, R, s, m, args, below, meth, c, Q, D, ca, base), (n, cells, slots), pc, L, st, h => ∀ (H : Heap) (locs : List Loc) (ls : Array Slot), (base + n = s.heap.size + cells ∧ z_W D ca base n h H) → va_S (fun q => base ≤ q) s.heap H locs → z_L base c.maxLocals ls L → W p l e R s m args below meth c H locs cells slots Q (F0 m pc ls (st.map (z_v base)))
def z_Pc (D : va_G) (ca : Nat → ClassId) (base n : Nat) (as : List (Nat × Int)) (h : z_H) : Array Value → State → Prop := fun v U => v = (as.map (z_v base)).toArray ∧ U.heap.size = base + n ∧ z_W D ca base n h U.heap ∧ z_K D ca U
def z_Qc (D : va_G) (ca : Nat → ClassId) (base n : Nat) (P : Option (Nat × Int) → z_H → Prop) : Array Value → State → Outcome → State → Prop := fun _ st oc t => (∃ (r : Option (Nat × Int)) (h : z_H), oc = .returned (r.map (z_v base)) ∧ P r h ∧ z_W D ca base n h t.heap) ∧ va_F (fun q => base ≤ q) st t
def z_Ct : z_M → Nat → List (Nat × Int) → z_H → (Option (Nat × Int) → z_H → Prop) → Prop
  | (y, cc, nL, ret, fr, lo, rc, rs), n, as, h, P => ∀ (l : Launch) (D : va_G) (ca : Nat → ClassId) (base : Nat), Met l y (Cond.code y cc nL ret :: z_gw) { frames := fr, cells := rc, slots := rs, locals := lo } (z_Pc D ca base n as h) (z_Qc D ca base (n + rc) P) rc rs (fun q => base ≤ q)
def z_RQ : z_C → z_M → Nat → (Option (Nat × Int) → z_H → Prop) → Prop
  | (_, _, _, _, s, _, args, below, _, _, Q, D, ca, base), (_, _, _, _, _, _, rc, rs), n, P => Q = MQ below (z_Qc D ca base (n + rc) P) args s rc rs (fun q => base ≤ q)
def z_sl (as : List (Nat × Int)) : List (Nat × Int) := as.flatMap fun c => if c.1 = 1 then [c, (9, 0)] else [c]
def z_L0 (nL : Nat) (as : List (Nat × Int)) : List (Nat × Int) := z_sl as ++ List.replicate (nL - (z_sl as).length) (9, 0)
theorem z_cat (base : Nat) (c : Nat × Int) : (z_v base c).category = if c.1 = 1 then 2 else 1 := by
  obtain ⟨t, z⟩ := c
  match t with
  | 0 => rfl
  | 1 => rfl
  | t + 2 =>
    show (va_rf (z_on base z)).category = _
    rw [if_neg (show ¬ t + 2 = 1 by omega)]
    unfold z_on
    split <;> rfl
theorem z_args (base : Nat) : ∀ (as : List (Nat × Int)) (o i : Nat) (c : Nat × Int), (z_sl as)[i]? = some c → c.1 ≠ 9 → (o + i, z_v base c) ∈ lv_args o (as.map (z_v base))
  | [], o, i, c, h, _ => by simp [z_sl] at h
  | a :: as, o, i, c, h, h9 => by
    have e : z_sl (a :: as) = (if a.1 = 1 then [a, (9, 0)] else [a]) ++ z_sl as := rfl
    rw [e] at h
    show (o + i, z_v base c) ∈ (o, z_v base a) :: lv_args (if (z_v base a).category = 2 then o + 2 else o + 1) (as.map (z_v base))
    rw [z_cat]
    by_cases ha : a.1 = 1
    · rw [if_pos ha] at h
      rw [if_pos ha, if_pos rfl]
      match i, h with
      | 0, h => cases h; exact List.mem_cons_self
      | 1, h => cases h; exact absurd rfl h9
      | i + 2, h =>
        have := z_args base as (o + 2) i c (by simpa using h) h9
        rw [show o + 2 + i = o + (i + 2) by omega] at this
        exact List.mem_cons_of_mem _ this
    · rw [if_neg ha] at h
      rw [if_neg ha, if_neg (by decide)]
      match i, h with
      | 0, h => cases h; exact List.mem_cons_self
      | i + 1, h =>
        have := z_args base as (o + 1) i c (by simpa using h) h9
        rw [show o + 1 + i = o + (i + 1) by omega] at this
        exact List.mem_cons_of_mem _ this
theorem z_sl_len (base : Nat) (as : List (Nat × Int)) : (lg_sl (as.map (z_v base))).length = (z_sl as).length := by
  induction as with
  | nil => rfl
  | cons a as ih =>
    have e : z_sl (a :: as) = (if a.1 = 1 then [a, (9, 0)] else [a]) ++ z_sl as := rfl
    have e2 : lg_sl ((a :: as).map (z_v base)) = (if (z_v base a).category = 2 then [.val (z_v base a), .second] else [.val (z_v base a)]) ++ lg_sl (as.map (z_v base)) := rfl
    rw [e, e2, List.length_append, List.length_append, ih, z_cat]
    by_cases ha : a.1 = 1
    · simp [ha]
    · simp [ha]
/-- a method's contract out of the judgement at its entry -/
theorem z_mk {M : z_M} {n : Nat} {as : List (Nat × Int)} {h : z_H} {P : Option (Nat × Int) → z_H → Prop} {L : List (Nat × Int)} (hp : plainName M.1.cls = true) (hlen : (z_sl as).length ≤ M.2.2.1) (hL : z_L0 M.2.2.1 as = L)
    (body : ∀ Γ : z_C, z_Ok Γ M → z_RQ Γ M n P → z_V Γ (n, 0, 0) 0 L [] h) : z_Ct M n as h P := by
  obtain ⟨y, cc, nL, ret, fr, lo, rc, rs⟩ := M
  intro l D ca base
  refine Met.ofW (cc := cc) (maxL := nL) (ret := ret) hp rfl ?_
  intro p e s m args below meth c s₁ B hml hv
  obtain ⟨rfl, hsz, hW, hK⟩ := hv
  have hts := atoms_spec (ws := Cond.code y cc nL ret :: z_gw) B.pre
  have hown : s.vm.findClass y.cls = some m.cls := findClass_of_methodNamed B.named
  have hnm : meth.name = y.name := (name_of_methodNamed B.named B.method).1
  have k := body (p, l, e, (headSpec (Cond.code y cc nL ret :: z_gw) { frames := fr, cells := rc, slots := rs, locals := lo }).room, s, m, (as.map (z_v base)).toArray, below, meth, c, MQ below (z_Qc D ca base (n + rc) P) (as.map (z_v base)).toArray s rc rs (fun q => base ≤ q), D, ca, base)
    ⟨B.exec, B.bytes, hml, hown, fun w hw => hts w (List.mem_cons_of_mem _ hw), B.notSynchronized, B.returns, rfl, rfl, rfl, rfl, hK, by rw [hsz]; exact Nat.le_add_right _ _, hnm⟩ rfl
  rw [lg_entry_eq]
  refine k s.heap [] _ ⟨hsz.symm, hW⟩ va_S.rf ?_
  subst hL
  have hl := lv_entry (as.map (z_v base)) (n := nL) (by rw [z_sl_len]; exact hlen)
  have hlen' : (z_sl as).length ≤ nL := hlen
  show z_L base c.maxLocals _ (z_L0 nL as)
  rw [hml]
  refine ⟨hl.1, ?_, hl.2.1, fun i q hq h9 => ?_⟩
  · unfold z_L0
    simp
    omega
  · refine hl.2.2 (i, z_v base q) ?_
    have hq' : (z_sl as)[i]? = some q := by
      unfold z_L0 at hq
      by_cases hi : i < (z_sl as).length
      · rw [List.getElem?_append_left hi] at hq; exact hq
      · rw [List.getElem?_append_right (by omega)] at hq
        have := List.eq_of_mem_replicate (List.mem_of_getElem? hq)
        rw [this] at h9
        exact absurd rfl h9
    have := z_args base as 0 i q hq' h9
    rwa [Nat.zero_add] at this
theorem z_Ct.mono {M : z_M} {n : Nat} {as : List (Nat × Int)} {h : z_H} {P P' : Option (Nat × Int) → z_H → Prop} (hc : z_Ct M n as h P) (hP : ∀ r h', P r h' → P' r h') : z_Ct M n as h P' := by
  obtain ⟨y, cc, nL, ret, fr, lo, rc, rs⟩ := M
  intro l D ca base
  intro p e ha hb hk s m args below hf happ hpre htr
  obtain ⟨k, o, h1, h2, h3, ⟨⟨r, h', g1, g2, g3⟩, g4⟩, g5⟩ := hc l D ca base p e ha hb hk s m args below hf happ hpre htr
  exact ⟨k, o, h1, h2, h3, ⟨⟨r, h', g1, hP r h' g2, g3⟩, g4⟩, g5⟩
/-- what a call needs to know of its callee -/
def z_MOk (M : z_M) (na : Nat) : Prop := Cond.code M.1 M.2.1 M.2.2.1 M.2.2.2.1 ∈ z_gw ∧ Cond.initialized M.1.cls ∈ z_gw ∧ (M.1.cls ≠ "java/lang/invoke/MethodHandle" ∧ M.1.cls ≠ "java/lang/invoke/VarHandle") ∧ (parseMethodDescriptor M.1.desc).map (fun d => d.parameters.length) = some na ∧ plainName M.1.cls = true
