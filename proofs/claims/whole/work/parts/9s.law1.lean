/-! THE LAW: what is known at its entry -/
theorem y_known {s : State} {b : Nat} (hts : ∀ w ∈ lw_tbl, w.before #[Value.ref b] s = true) : ∃ (D : va_G) (ca : Nat → ClassId), z_K D ca s := by
  have hg : ∀ w ∈ z_gw, w.before #[Value.ref b] s = true := fun w hw => hts w (List.mem_filter.mp hw).1
  obtain ⟨c0, j0, k0⟩ := u_known (C := RX1) (T := TX1) (N := 4) (n := 4) hg i_c0 (hts (.instantiable RX1 4) (by decide +kernel))
  obtain ⟨c1, j1, k1⟩ := u_known (C := RX2) (T := TX2) (N := 4) (n := 4) hg i_c1 (hts (.instantiable RX2 4) (by decide +kernel))
  obtain ⟨c2, j2, k2⟩ := u_known (C := RX3) (T := TX3) (N := 7) (n := 7) hg i_c2 (hts (.instantiable RX3 7) (by decide +kernel))
  obtain ⟨c3, j3, k3⟩ := u_known (C := RX4) (T := TX4) (N := 8) (n := 8) hg i_c3 (hts (.instantiable RX4 8) (by decide +kernel))
  obtain ⟨c4, j4, k4⟩ := u_known (C := RX5) (T := TX5) (N := 2) (n := 2) hg i_c4 (hts (.instantiable RX5 2) (by decide +kernel))
  obtain ⟨c5, j5, k5⟩ := u_known (C := RX6) (T := TX6) (N := 3) (n := 3) hg i_c5 (hts (.instantiable RX6 3) (by decide +kernel))
  obtain ⟨c6, j6, k6⟩ := u_known (C := RX7) (T := TX7) (N := 1) (n := 1) hg i_c6 (hts (.instantiable RX7 1) (by decide +kernel))
  obtain ⟨c7, j7, k7⟩ := u_known (C := RX8) (T := TX8) (N := 3) (n := 3) hg i_c7 (hts (.instantiable RX8 3) (by decide +kernel))
  obtain ⟨c8, j8, k8⟩ := u_known (C := RX9) (T := TX9) (N := 9) (n := 9) hg i_c8 (hts (.instantiable RX9 9) (by decide +kernel))
  obtain ⟨c9, j9, k9⟩ := u_known (C := RX10) (T := TX10) (N := 34) (n := 34) hg i_c9 (hts (.instantiable RX10 34) (by decide +kernel))
  obtain ⟨a1, x1, m1, f1, g1, e1⟩ := Cond.arrayClass_spec (hts (.arrayClass .int) (by decide +kernel))
  obtain ⟨a2, x2, m2, f2, g2, e2⟩ := Cond.arrayClass_spec (hts (.arrayClass .boolean) (by decide +kernel))
  have o3 : va_AO RX2 s := va_AO.of (hts (.arrayOver (.object RX2)) (by decide +kernel))
  have o4 : va_AO RX6 s := va_AO.of (hts (.arrayOver (.object RX6)) (by decide +kernel))
  obtain ⟨m3, a3, x3, p3, q3, r3, s3, t3⟩ := Cond.arrayOver_spec o3
  obtain ⟨m4, a4, x4, p4, q4, r4, s4, t4⟩ := Cond.arrayOver_spec o4
  refine ⟨(fun k => [c0, c1, c2, c3, c4, c5, c6, c7, c8, c9].getD k c0, fun k => [j0, j1, j2, j3, j4, j5, j6, j7, j8, j9].getD k j0), fun k => [a1, a1, a2, a3, a4].getD k a1, ⟨fun k q hq => ?_, fun k q hq => ?_⟩, fun w hw => ?_, o3, o4⟩
  · match k, hq with
    | 0, hq => cases hq; exact k0
    | 1, hq => cases hq; exact k1
    | 2, hq => cases hq; exact k2
    | 3, hq => cases hq; exact k3
    | 4, hq => cases hq; exact k4
    | 5, hq => cases hq; exact k5
    | 6, hq => cases hq; exact k6
    | 7, hq => cases hq; exact k7
    | 8, hq => cases hq; exact k8
    | 9, hq => cases hq; exact k9
    | k + 10, hq => simp at hq
  · match k, hq with
    | 0, hq => cases hq; exact ⟨fun n z => ⟨fun k h => (by cases h), x1, g1, m1, e1⟩, f1⟩
    | 1, hq => cases hq; exact ⟨fun n z => ⟨fun k h => (by cases h), x2, g2, m2, e2⟩, f2⟩
    | 2, hq => cases hq; exact ⟨fun n z => ⟨fun k h => (by cases h), x3, r3, m3, s3⟩, x3, m3, r3, s3, p3, t3⟩
    | 3, hq => cases hq; exact ⟨fun n z => ⟨fun k h => (by cases h), x4, r4, m4, s4⟩, x4, m4, r4, s4, p4, t4⟩
    | k + 4, hq => simp at hq
  · have hl : w ∈ lw_tbl := by
      have hd : ∀ w ∈ z_nest, w ∈ lw_tbl := by decide +kernel
      exact hd w hw
    have hb := hts w hl
    simp only [z_nest, List.mem_cons, List.not_mem_nil, or_false] at hw
    rcases hw with rfl | rfl | rfl | rfl | rfl | rfl <;> exact va_tabs rfl rfl hb
/-- what holds all along the law -/
def y_At (p : Program) (s : State) (m : MethodId) (meth : Method) (c : Code) (b L : Nat) (xs : Nat → Int32) (D : va_G) (ca : Nat → ClassId) : Prop := p.tables.exec = Jvm.exec ∧ c.code = code ∧ meth.sig.returnType = ret ∧ c.maxLocals = 4 ∧ s.vm.findClass RL = some m.cls ∧ (∀ w ∈ z_gw, w.before #[Value.ref b] s = true) ∧ va_X b L xs s s.heap ∧ b < s.heap.size ∧ meth.locks = false ∧ z_K D ca s
/-- the law at pc, the script read up to i, stack st, contents h -/
def y_V (p : Program) (l : Launch) (e : Env) (s : State) (m : MethodId) (below : List Frame) (meth : Method) (c : Code) (b : Nat) (D : va_G) (ca : Nat → ClassId) (pc : Nat) (i : Int32) (st : List Value) (h : z_H) : Prop := ∀ (H : Heap) (locs : List Loc) (ls : Array Slot), z_W D ca s.heap.size 107 h H → va_S (fun q => s.heap.size ≤ q) s.heap H locs → lv_has ls 4 [(0, .ref b), (1, .ref s.heap.size), (2, .ref (s.heap.size + 89)), (3, .int i)] → W p l e room_1 s m #[Value.ref b] below meth c H locs 107 3833 (lw_Z below #[Value.ref b] s) (F0 m pc ls st)
section LAW
variable {p : Program} {l : Launch} {e : Env} {s : State} {m : MethodId} {below : List Frame} {meth : Method} {c : Code} {b L : Nat} {xs : Nat → Int32} {D : va_G} {ca : Nat → ClassId} {pc : Nat} {i : Int32} {st : List Value} {h : z_H}
theorem y_al1 (C : y_At p s m meth c b L xs D ca) (d : decode code pc = .ok (.aload_n 1, 1)) (k : y_V p l e s m below meth c b D ca (pc + 1) i (.ref s.heap.size :: st) h) : y_V p l e s m below meth c b D ca pc i st h := by
  obtain ⟨hx, hb, hr, hml, hown, hts, hX, hbl, hlk, hK⟩ := C
  intro H locs ls hW hS hl
  exact lv_aload_n hx hb d rfl (lv_at hl 1 rfl) (k H locs ls hW hS hl)
theorem y_al2 (C : y_At p s m meth c b L xs D ca) (d : decode code pc = .ok (.aload_n 2, 1)) (k : y_V p l e s m below meth c b D ca (pc + 1) i (.ref (s.heap.size + 89) :: st) h) : y_V p l e s m below meth c b D ca pc i st h := by
  obtain ⟨hx, hb, hr, hml, hown, hts, hX, hbl, hlk, hK⟩ := C
  intro H locs ls hW hS hl
  exact lv_aload_n hx hb d rfl (lv_at hl 2 rfl) (k H locs ls hW hS hl)
/-- the script's int at i + k -/
theorem y_arg (C : y_At p s m meth c b L xs D ca) {n k : Nat} {z : Int} (hi : i = nI n) (hn : n + k < L) (hL : L ≤ 384) (hz : z = (k : Int)) (d0 : decode code pc = .ok (.aload_n 0, 1)) (d1 : decode code (pc + 1) = .ok (.iload_n 3, 1)) (d2 : decode code (pc + 2) = .ok (.iconst z, 1)) (d3 : decode code (pc + 3) = .ok (.iadd, 1)) (d4 : decode code (pc + 4) = .ok (.iaload, 1)) (kk : y_V p l e s m below meth c b D ca (pc + 5) i (z_v s.heap.size (0, (xs (n + k)).toInt) :: st) h) : y_V p l e s m below meth c b D ca pc i st h := by
  obtain ⟨hx, hb, hr, hml, hown, hts, hX, hbl, hlk, hK⟩ := C
  intro H locs ls hW hS hl
  have g := kk H locs ls hW hS hl
  have ev : z_v s.heap.size (0, (xs (n + k)).toInt) = .int (xs (n + k)) := by
    show Value.int (z_i (xs (n + k)).toInt) = _
    rw [z_i_of]
  rw [ev] at g
  have e1 : i + nI k = nI (n + k) := by
    rw [hi]
    apply Int32.toBitVec_inj.1
    show BitVec.ofNat 32 n + BitVec.ofNat 32 k = BitVec.ofNat 32 (n + k)
    rw [BitVec.ofNat_add]
  have e2 : (nI (n + k)).toNatClampNeg = n + k := by
    show (nI (n + k)).toInt.toNat = n + k
    rw [nI_toInt (by omega)]
    rfl
  refine lv_aload_n hx hb d0 rfl (lv_at hl 0 rfl) ?_
  refine lv_iload_n hx hb d1 rfl (lv_at hl 3 rfl) ?_
  refine lv_iconst (v := nI k) hx hb d2 (by rw [hz]; exact Int32.ofInt_eq_ofNat) ?_
  refine lv_iadd hx hb d3 ?_
  rw [e1]
  refine va_sld hx hb hX hbl (Nat.not_le.mpr hbl) hS (vp_in_nI hn (by omega)) d4 ?_
  rw [e2]
  exact g
theorem y_call (C : y_At p s m meth c b L xs D ca) {N : z_M} {na : Nat} {as : List (Nat × Int)} {P : Option (Nat × Int) → z_H → Prop} {idx : Nat} {k : Int} {ci : Nat} {rest : List Value} (d : decode code pc = .ok (.invokevirtual idx, 3)) (hM : z_MOk N na) (hl : Cond.methodLink RL idx N.1 ∈ z_gw) (hi : Cond.instanceMethod N.1 ∈ z_gw) (hs : Cond.selects N.1.cls N.1 N.1 ∈ z_gw) (hR : N.2.2.2.2.1 + 1 ≤ 9 ∧ 8 + (N.2.2.1 + 11) + N.2.2.2.2.2.1 ≤ 354) (hz : N.2.2.2.2.2.2.1 = 0 ∧ N.2.2.2.2.2.2.2 = 0) (hk : z_kd 107 k = (0, ci)) (hci : ∀ q, vwCl[ci]? = some q → q.1 = N.1.cls) (hcv : (vwCl[ci]?).isSome = true) (hn : as.length = na) (hw : (rest.map fun v => v.category).sum ≤ 8) (hC : z_Ct N 107 ((2, k) :: as) h P) (hst : st = (as.map (z_v s.heap.size)).reverse ++ (.ref (s.heap.size + k.toNat) :: rest)) (kk : ∀ r h', P r h' → y_V p l e s m below meth c b D ca (pc + 3) i ((r.map (z_v s.heap.size)).toList ++ rest) h') : y_V p l e s m below meth c b D ca pc i st h := by
  obtain ⟨hx, hb, hr, hml, hown, hts, hX, hbl, hlk, hK⟩ := C
  obtain ⟨y', cc', nL', ret', fr', lo', rc', rs'⟩ := N
  obtain ⟨hz1, hz2⟩ := hz
  have hz1 : rc' = 0 := hz1
  have hz2 : rs' = 0 := hz2
  subst hz1
  subst hz2
  intro H locs ls hW hS hlv
  obtain ⟨m1, m2, m3, m4, m5⟩ := hM
  have k0 := (z_kd_spec hk (Nat.ne_of_beq_eq_false rfl)).1
  have cw : CallW room_1 s #[Value.ref b] RL y'.cls idx y' cc' nL' ret' (Cond.code y' cc' nL' ret' :: z_gw) { frames := fr', cells := 0, slots := 0, locals := lo' } 0 0 na := ⟨callB_of na hts (z_good m1) rfl rfl rfl (hts _ m2) (hts _ hl) ⟨m3.1, m3.2, m4⟩ ⟨hR.1, hR.2⟩, hts _ hi, hts _ hs⟩
  obtain ⟨q, hq⟩ := Option.isSome_iff_exists.mp hcv
  have hrec := va_recv hK.1 hW (ci := ci) (q0 := k.toNat) hq (z_w_at hk (Nat.ne_of_beq_eq_false rfl))
  rw [hci q hq] at hrec
  refine z_sized (n := 107) (cells := 107) ⟨rfl, hW⟩ hS (Nat.le_refl _) (fun hsz => ?_)
  refine z_after (n := 107 + 0) (P := P) (rest := rest) (va_runV (b := s.heap.size + k.toNat) (As := as.map (z_v s.heap.size)) (rest := rest) ⟨hx, hb, hml, hown, hts⟩ (hC l D ca s.heap.size) cw ⟨z_blind D ca s.heap.size 107 _ h, hrec, fun U hU hWm => ⟨by rw [List.map_cons, z_v_ref k0], by rw [hU]; exact hsz, by rw [hU]; exact hW, hK.warm hWm⟩⟩ rfl (by rw [List.length_map]; exact hn) hlv.1 hst (by show 2 * 0 + _ ≤ 8; omega) d ⟨by show 107 + 0 ≤ 600000; omega, by show 3833 + 0 ≤ 7302250; omega⟩) hS (fun r h' H1 locs1 hp hw1 hS1 => ?_)
  exact kk r h' hp H1 locs1 ls hw1 hS1 hlv
end LAW
