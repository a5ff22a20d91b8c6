/-! THE LAW: from its entry -/
def y_G (p : Program) (l : Launch) (e : Env) (s : State) (m : MethodId) (below : List Frame) (meth : Method) (c : Code) (b : Nat) (D : va_G) (ca : Nat → ClassId) (n cells slots : Nat) (lv : List (Nat × Value)) (pc : Nat) (st : List Value) (h : z_H) : Prop := ∀ (H : Heap) (locs : List Loc) (ls : Array Slot), (s.heap.size + n = s.heap.size + cells ∧ z_W D ca s.heap.size n h H) → va_S (fun q => s.heap.size ≤ q) s.heap H locs → lv_has ls 4 lv → W p l e room_1 s m #[Value.ref b] below meth c H locs cells slots (lw_Z below #[Value.ref b] s) (F0 m pc ls st)
section LAW
variable {p : Program} {l : Launch} {e : Env} {s : State} {m : MethodId} {below : List Frame} {meth : Method} {c : Code} {b L : Nat} {xs : Nat → Int32} {D : va_G} {ca : Nat → ClassId} {n cells slots pc : Nat} {lv : List (Nat × Value)} {st : List Value} {h : z_H}
theorem y_new (C : y_At p s m meth c b L xs D ca) {idx ci : Nat} (d : decode code pc = .ok (.new idx, 3)) (f : z_N RL idx ci) (hk : z_kd (n + 1) (n : Int) = (0, ci)) (hcs : cells + 1 ≤ 600000 ∧ slots + z_nf ci ≤ 7302250) (kk : y_G p l e s m below meth c b D ca (n + 1) (cells + 1) (slots + z_nf ci) lv (pc + 3) (.ref (s.heap.size + n) :: st) (z_nw h n (0, ci))) : y_G p l e s m below meth c b D ca n cells slots lv pc st h := by
  obtain ⟨hx, hb, hr, hml, hown, hts, hX, hbl, hlk, hK⟩ := C
  intro H locs ls hW hS hL
  obtain ⟨K, T, f1, f0, f3, f4, f5, f6, f7⟩ := f
  refine z_sized hW hS (Nat.le_refl _) (fun hsz => ?_)
  have hKn := hK.1.1 ci _ f1
  refine W.newcK hx hb hown (hts _ f5) (hts _ f6) (hts _ f7) rfl d hcs.1 hcs.2 hKn.2.1 rfl fun H1 kC hkC e1 z1 o1 => ?_
  have hkp : ∀ (k : Nat) (x : Nat × va_E), (z_w ca s.heap.size n h)[k]? = some x → H1[x.1]? = H[x.1]? := fun k x hx => o1 x.1 ((hW.2 k x hx).lt)
  have hP1 : va_P D vwCl (z_w ca s.heap.size n h ++ [(s.heap.size + n, .inr (ci, z_fs s.heap.size ci (z_dv (0, ci))))]) H1 := by
    refine (va_P.kept hW.2 hkp).app (fun k x hx => ?_)
    have hz : k < 1 := (List.getElem?_eq_some_iff.mp hx).1
    rw [show k = 0 by omega] at hx
    cases hx
    rw [hsz] at e1
    refine ⟨_, f1, (u_born (z_ty ci) hts f3 hKn hkC e1 f4).to (fun j hj => ?_)⟩
    show defaultValue (z_ty ci j) = vp_V (z_fs s.heap.size ci (z_dv (0, ci))) j
    rw [z_dflt s.heap.size _ (z_ty_ok ci f0 j hj)]
    unfold vp_V
    rw [List.getD_eq_getElem?_getD, z_fs_at hj]
    rfl
  have hw : z_W D ca s.heap.size (n + 1) (z_nw h n (0, ci)) H1 := z_W_push hP1 hk (fun k hkn => z_nw_lt h hkn) (by rw [z_nw_at]; rfl)
  have g := kk H1 locs ls ⟨by have := hW.1; show s.heap.size + (n + 1) = s.heap.size + (cells + 1); omega, hw⟩ ⟨Nat.le_trans hS.1 (by omega), fun x h1 h2 => (o1 x (Nat.lt_of_lt_of_le h1 hS.1)).trans (hS.2.1 x h1 h2), hS.2.2⟩ hL
  rw [hsz]
  exact g
theorem y_callI (C : y_At p s m meth c b L xs D ca) {N : z_M} {P : Option (Nat × Int) → z_H → Prop} {idx : Nat} {k : Nat} {rest : List Value} (d : decode code pc = .ok (.invokespecial idx, 3)) (hM : z_MOk N 0) (hl : Cond.methodLink RL idx N.1 ∈ z_gw) (hi : Cond.instanceMethod N.1 ∈ z_gw) (hin : N.1.name = "<init>") (hrn : N.2.2.2.1 = none) (hR : N.2.2.2.2.1 + 1 ≤ 9 ∧ 8 + (N.2.2.1 + 11) + N.2.2.2.2.2.1 ≤ 354) (hcs : cells + N.2.2.2.2.2.2.1 ≤ 600000 ∧ slots + N.2.2.2.2.2.2.2 ≤ 7302250) (hw : (rest.map fun v => v.category).sum ≤ 8) (hC : z_Ct N n [(2, (k : Int))] h P) (kk : ∀ r h', P r h' → y_G p l e s m below meth c b D ca (n + N.2.2.2.2.2.2.1) (cells + N.2.2.2.2.2.2.1) (slots + N.2.2.2.2.2.2.2) lv (pc + 3) ((r.map (z_v s.heap.size)).toList ++ rest) h') : y_G p l e s m below meth c b D ca n cells slots lv pc (.ref (s.heap.size + k) :: rest) h := by
  obtain ⟨hx, hb, hr, hml, hown, hts, hX, hbl, hlk, hK⟩ := C
  obtain ⟨y', cc', nL', ret', fr', lo', rc', rs'⟩ := N
  intro H locs ls hW hS hL
  obtain ⟨m1, m2, m3, m4, m5⟩ := hM
  have hrn : ret' = none := hrn
  subst hrn
  have hk0 : (0 : Int) ≤ (k : Int) := by omega
  have cw : CallB room_1 s #[Value.ref b] RL idx y' cc' nL' none (Cond.code y' cc' nL' none :: z_gw) { frames := fr', cells := rc', slots := rs', locals := lo' } rc' rs' 0 ∧ y'.name = "<init>" ∧ (Cond.instanceMethod y').before #[Value.ref b] s = true := ⟨callB_of 0 hts (z_good m1) rfl rfl rfl (hts _ m2) (hts _ hl) ⟨m3.1, m3.2, m4⟩ ⟨hR.1, hR.2⟩, hin, hts _ hi⟩
  refine z_sized hW hS (Nat.le_refl _) (fun hsz => ?_)
  refine z_after (n := n + rc') (P := P) (rest := rest) (va_runI (b := s.heap.size + k) (As := []) (rest := rest) ⟨hx, hb, hml, hown, hts⟩ (hC l D ca s.heap.size) cw ⟨z_blind D ca s.heap.size n _ h, fun U hU hWm => ⟨by rw [List.map_cons, z_v_ref hk0]; rfl, by rw [hU]; exact hsz, by rw [hU]; exact hW.2, hK.warm hWm⟩⟩ rfl rfl hL.1 rfl (by show 2 * 0 + _ ≤ 8; omega) d ⟨hcs.1, hcs.2⟩) hS (fun r h' H1 locs1 hp hw1 hS1 => ?_)
  exact kk r h' hp H1 locs1 ls ⟨by have := hW.1; show s.heap.size + (n + rc') = s.heap.size + (cells + rc'); omega, hw1⟩ hS1 hL
end LAW
/-- THE LAW, from its entry -/
theorem whole_start {p : Program} {e : Env} {s : State} {m : MethodId} {below : List Frame} {meth : Method} {c : Code} (l : Launch) {b L : Nat} {xs : Nat → Int32} (hL : L ≤ 384) (C0 : lw_At p s m meth c b L xs) : W p l e room_1 s m #[Value.ref b] below meth c s.heap [] 0 0 (lw_Z below #[Value.ref b] s) (entryFrame m ([Value.ref b] : List Value).toArray 4) := by
  obtain ⟨hx, hb, hr, hml, hown, hts, hX, hbl, hlk, hgv⟩ := id C0
  obtain ⟨D, ca, hK⟩ := y_known hts
  have hg : ∀ w ∈ z_gw, w.before #[Value.ref b] s = true := fun w hw => hts w (List.mem_filter.mp hw).1
  have C : y_At p s m meth c b L xs D ca := ⟨hx, hb, hr, hml, hown, hg, hX, hbl, hlk, hK⟩
  have hl := lv_entry ([.ref b]) (n := 4) (Nat.le_of_ble_eq_true rfl)
  rw [lg_entry_eq]
  generalize (lg_sl ([.ref b]) ++ List.replicate (4 - (lg_sl ([.ref b])).length) Slot.unset).toArray = ls at hl ⊢
  have hl : lv_has ls 4 [(0, .ref b)] := hl
  have h0 : z_W D ca s.heap.size 0 (fun _ _ => 0) s.heap := fun k q h => by simp [z_w] at h
  have key : y_G p l e s m below meth c b D ca 0 0 0 [(0, .ref b)] 0 [] (fun _ _ => 0) := by
    refine y_new C dL_law_0 n_RL_7 rfl ⟨by omega, Nat.le_of_ble_eq_true rfl⟩ ?_
    have step : y_G p l e s m below meth c b D ca 1 1 9 [(0, .ref b)] 4 [.ref (s.heap.size + 0), .ref (s.heap.size + 0)] (z_nw (fun _ _ => 0) 0 (0, 8)) := by
      refine y_callI C (N := mX9_init) (k := 0) dL_law_4 oX9_init l_RL_9 eX9_init rfl rfl ⟨Nat.le_of_ble_eq_true rfl, Nat.le_of_ble_eq_true rfl⟩ ⟨Nat.le_of_ble_eq_true rfl, Nat.le_of_ble_eq_true rfl⟩ (Nat.le_of_ble_eq_true rfl) ct_X9_init (fun r h1 hp => ?_)
      obtain ⟨er, hC1⟩ := hp
      subst er
      have hC1 : y_C (z_nw (fun _ _ => 0) 0 (0, 8)) h1 := hC1
      intro H locs ls hW hS hl
      refine lv_astore_n (lv' := [(1, .ref s.heap.size), (0, .ref b)]) hx hb dL_law_7 rfl hl (by decide) rfl (fun ls hl => ?_)
      have step2 : y_G p l e s m below meth c b D ca 89 89 2367 [(1, .ref s.heap.size), (0, .ref b)] 8 [] h1 := by
        refine y_new C dL_law_8 n_RL_10 rfl ⟨by omega, Nat.le_of_ble_eq_true rfl⟩ ?_
        have step3 : y_G p l e s m below meth c b D ca 90 90 2401 [(1, .ref s.heap.size), (0, .ref b)] 12 [.ref (s.heap.size + 89), .ref (s.heap.size + 89)] (z_nw h1 89 (0, 9)) := by
          refine y_callI C (N := mX10_init) (k := 89) dL_law_12 oX10_init l_RL_12 eX10_init rfl rfl ⟨Nat.le_of_ble_eq_true rfl, Nat.le_of_ble_eq_true rfl⟩ ⟨Nat.le_of_ble_eq_true rfl, Nat.le_of_ble_eq_true rfl⟩ (Nat.le_of_ble_eq_true rfl) ct_X10_init (fun r h2 hp2 => ?_)
          obtain ⟨er2, eh2⟩ := hp2
          subst er2
          have hv : v_N h2 := by
            rw [eh2]
            exact y_N hC1
          intro H locs ls hW hS hl
          refine lv_astore_n (lv' := [(2, .ref (s.heap.size + 89)), (1, .ref s.heap.size), (0, .ref b)]) hx hb dL_law_15 rfl hl (by decide) rfl (fun ls hl => ?_)
          refine lv_iconst (v := 0) hx hb dL_law_16 (by decide) ?_
          refine lv_istore_n (lv' := [(3, .int 0), (2, .ref (s.heap.size + 89)), (1, .ref s.heap.size), (0, .ref b)]) hx hb dL_law_17 rfl hl (by decide) rfl (fun ls hl => ?_)
          have g := y_loop (l := l) (e := e) (below := below) C hL (L + 6) 0 h2 (by omega) (by omega) hv H locs ls hW.2 hS
          rw [nI_0] at g
          exact g (lv_sub hl [3, 2, 1, 0] rfl)
        intro H locs ls hW hS hl
        exact lv_dup hx hb dL_law_11 rfl (step3 H locs ls hW hS hl)
      exact step2 H locs ls hW hS hl
    intro H locs ls hW hS hl
    exact lv_dup hx hb dL_law_3 rfl (step H locs ls hW hS hl)
  exact key s.heap [] ls ⟨rfl, h0⟩ va_S.rf hl
