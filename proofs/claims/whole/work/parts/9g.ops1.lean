/-! EACH CALL: both answer alike, and what stands goes on -/
def v_Op (C R : z_M) (as : List (Nat × Int)) (t : Nat) (h : z_H) : Prop := ∃ P : Option (Nat × Int) → z_H → Prop, z_Ct C 107 ((2, 0) :: as) h P ∧ ∀ r h1, P r h1 → ∃ (w : Int) (P2 : Option (Nat × Int) → z_H → Prop), r = some (t, w) ∧ z_Ct R 107 ((2, 89) :: as) h1 P2 ∧ ∀ r2 h2, P2 r2 h2 → r2 = r ∧ v_N h2
section OPS
variable {h : z_H}
theorem v_N.ob (v : v_N h) : c_Ob h := v.1.1
theorem v_N.rob (v : v_N h) : r_Ob h := v.1.2.2.2.2.2.2.2.1
theorem v_N.rpl (v : v_N h) : r_Pl h := v.1.2.2.2.2.2.2.2.2
theorem v_N.gp (v : v_N h) : g_Pl h (h 3 1) := v.2.2.2.2.2.1
theorem v_N.gm (v : v_N h) : g_Mo h (h 4 2) (h 92) := v.2.2.2.2.2.2.1.2.2
theorem v_N.rmt (v : v_N h) : r_Mt (h 92) := v.gm.2.2.2.2.1
theorem v_N.sg (v : v_N h) : r_Sg h ∧ g_Sg h := v.2.2.2.1
theorem v_N.wi (v : v_N h) : c_Wi h := by
  obtain ⟨⟨a, b⟩, c, d⟩ := v.sg
  refine ⟨v.1.2.2.2.2.2.1, v.1.2.2.2.2.2.2.1, by rw [c]; exact a, fun i i0 i1 => ?_⟩
  rw [c] at i1
  have := b i i0 i1
  have e := d i i0 i1
  rw [e.1, e.2]
  omega
theorem v_pc {C R : z_M} {as : List (Nat × Int)} {t : Nat} {f : Int} {P2 : Option (Nat × Int) → z_H → Prop} (h1 : z_Ct C 107 ((2, 0) :: as) h (z_pure (t, f) h)) (h2 : z_Ct R 107 ((2, 89) :: as) h P2) (k : ∀ r2 k2, P2 r2 k2 → r2 = some (t, f) ∧ v_N k2) : v_Op C R as t h := ⟨_, h1, fun r h3 hp => by
  obtain ⟨e1, e2⟩ := hp
  refine ⟨f, P2, e1, ?_, fun r2 k2 q => ?_⟩
  · rw [e2]; exact h2
  · rw [e1]; exact k r2 k2 q⟩
theorem v_one {C R : z_M} {as : List (Nat × Int)} {t : Nat} {f g : Int} (v : v_N h) (h1 : z_Ct C 107 ((2, 0) :: as) h (z_pure (t, f) h)) (h2 : z_Ct R 107 ((2, 89) :: as) h (z_pure (t, g) h)) (e : f = g) : v_Op C R as t h := v_pc h1 h2 (fun r2 k2 q => ⟨by rw [q.1, e], by rw [q.2]; exact v⟩)
theorem v_pane (v : v_N h) {x y w : Int} (hx : z_R x) (hy : z_R y) (hw : z_R w) : v_Op mX9_pane mX10_pane [(0, x), (0, y), (0, w)] 0 h := v_one v (ct_X9_pane v.ob v.sc.1 hx hy hw) (ct_X10_pane v.rob v.rpl v.rmt hx hy hw) (g_paneF v.rpl v.gp v.gm x y w)
theorem v_sheet (v : v_N h) {s w : Int} (hs : z_R s) (hw : z_R w) : v_Op mX9_sheet mX10_sheet [(0, s), (0, w)] 0 h := v_one v (ct_X9_sheet v.ob v.sc.1 hs hw) (ct_X10_sheet v.rob v.rpl v.rmt hs hw) (g_sheetF v.rpl v.gp v.gm s w)
theorem v_light (v : v_N h) {x y k : Int} (hx : z_R x) (hy : z_R y) (hk : z_R k) : v_Op mX9_light mX10_light [(0, x), (0, y), (0, k)] 0 h := v_one v (ct_X9_light v.ob v.sc.1 hx hy hk) (ct_X10_light v.rob v.rpl v.rmt hx hy hk) (g_lightF v.rpl v.gp v.gm x y k)
theorem v_lit (v : v_N h) {x y k : Int} (hx : z_R x) (hy : z_R y) (hk : z_R k) : v_Op mX9_lit mX10_lit [(0, x), (0, y), (0, k)] 0 h := v_one v (ct_X9_lit v.ob v.sc.1 hx hy hk) (ct_X10_lit v.rob v.rpl v.rmt hx hy hk) (g_litF v.rpl v.gp v.gm x y k)
theorem v_when (v : v_N h) {x y k : Int} (hx : z_R x) (hy : z_R y) (hk : z_R k) : v_Op mX9_when mX10_when [(0, x), (0, y), (0, k)] 0 h := v_one v (ct_X9_when v.ob v.sc.1 hx hy hk) (ct_X10_when v.rob v.rpl v.rmt hx hy hk) (g_whenF v.rpl v.gp v.gm x y k)
theorem v_count (v : v_N h) {w : Int} (hw : z_R w) : v_Op mX9_count mX10_count [(0, w)] 0 h := v_one v (ct_X9_count v.ob v.sc.1 hw) (ct_X10_count hw) (by
  unfold c_countF r_countF
  rw [v.gp.1, v.gp.2.1, v.gp.2.2.1, v.sg.2.1, v.2.2.2.2.2.2.1.1, v.2.1.2.2.2])
theorem v_trace (v : v_N h) : v_Op mX9_trace mX10_trace [] 1 h := v_one v (ct_X9_trace v.ob) ct_X10_trace v.2.2.1.2.2.2.2
theorem v_scr (v : v_N h) {k : Int} {A : Int → Int} (hk : k = 93 ∨ (103 ≤ k ∧ k ≤ 106)) : v_N (z_rw h k A) := v.scr (fun q a b => z_rw_ne _ _ (by omega))
theorem v_now (v : v_N h) {w : Int} (hw : z_R w) : v_Op mX9_now mX10_now [(0, w)] 0 h := v_pc (ct_X9_now v.ob v.sc.1 hw) (ct_X10_now v.rob v.rpl v.rmt hw) (fun r2 h2 hq => by
  obtain ⟨P, W, e1, e2⟩ := hq
  refine ⟨by rw [e1, g_nowF v.rpl v.gp v.gm], ?_⟩
  rw [e2]
  exact v.scr (fun q a b => r_2_ne _ _ _ (by omega) (by omega)))
theorem v_paint (v : v_N h) {w : Int} (hw : z_R w) : v_Op mX9_paint mX10_paint [(0, w)] 0 h := v_pc (ct_X9_paint v.ob v.sc.1 hw) (ct_X10_paint v.rob v.rpl v.rmt hw) (fun r2 h2 hq => by
  rcases hq with ⟨a, e1, e2⟩ | ⟨a, e1, e2⟩
  · refine ⟨by rw [e1]; unfold c_paintF; rw [if_neg a], by rw [e2]; exact v⟩
  · exact ⟨by rw [e1, g_paintF v.rpl v.gp v.gm a], by rw [e2]; exact v_scr v (by omega)⟩)
theorem v_hail (v : v_N h) {x y k a w : Int} (hx : z_R x) (hy : z_R y) (hk : z_R k) (ha : z_R a) (hw : z_R w) : v_Op mX9_hail mX10_hail [(0, x), (0, y), (0, k), (0, a), (0, w)] 0 h := ⟨_, ct_X9_hail v.ob v.sc.1 hx hy hk ha hw, fun r h1 hp => by
  have hh : h1 = h := by rcases hp with ⟨-, -, e⟩ | ⟨-, g, -, -, e⟩ <;> exact e
  subst hh
  obtain ⟨u, hu⟩ : ∃ u, r = some (0, u) := by rcases hp with ⟨-, e, -⟩ | ⟨-, g, -, e, -⟩ <;> exact ⟨_, e⟩
  refine ⟨u, _, hu, ct_X10_hail v.rob v.rpl v.rmt hx hy hk ha hw, fun r2 h2 hq => ?_⟩
  rcases hp with ⟨a1, e1, -⟩ | ⟨a1, g, hg, e1, -⟩
  · rcases hq with ⟨b1, f1, f2⟩ | ⟨b1, -⟩
    · exact ⟨by rw [f1, e1], by rw [f2]; exact v⟩
    · exact absurd b1 a1
  · rcases hq with ⟨b1, -⟩ | ⟨b1, A, f1, f2⟩
    · exact absurd a1 b1
    · have hab := g_ab v.rpl v.gp v.gm (k := k) a1.1 a1.2.2.1 a1.2.2.2.1
      rw [hab] at hg e1
      have hge := g_gd (r_ab_rng (h := h1) (x := x) (y := y) (k := k) a1.2.2.1 a1.2.2.2.1 4).1 hg
      exact ⟨by rw [f1, e1, hge], by rw [f2]; exact v_scr v (by omega)⟩⟩
theorem v_suspects (v : v_N h) : v_Op mX9_suspects mX10_suspects [] 0 h := v_pc (ct_X9_suspects v.ob v.sc.1 v.wi) (ct_X10_suspects v.rob v.rpl v.rmt v.sg.1) (fun r2 h2 hq => by
  obtain ⟨A, e1, e2⟩ := hq
  exact ⟨by rw [e1, g_sus v.rpl v.gp v.gm v.sg.2 v.sg.1], by rw [e2]; exact v_scr v (by omega)⟩)
theorem v_look (v : v_N h) : v_Op mX9_look mX10_look [] 0 h := v_pc (ct_X9_look v.ob v.sc.1 v.wi) (ct_X10_look v.rob v.rpl v.rmt v.sg.1) (fun r2 h2 hq => by
  obtain ⟨A, B, e1, e2⟩ := hq
  exact ⟨by rw [e1, g_lookF v.rpl v.gp v.gm v.sg.2 v.sg.1], by rw [e2]; exact v_scr (v_scr v (by omega)) (by omega)⟩)
theorem v_glasses (v : v_N h) {x y : Int} (hx : z_R x) (hy : z_R y) : v_Op mX9_glasses mX10_glasses [(0, x), (0, y)] 0 h := v_pc (ct_X9_glasses v.ob v.sc.1 v.wi hx hy) (ct_X10_glasses v.rob v.rpl v.rmt v.sg.1 hx hy) (fun r2 h2 hq => by
  rcases hq with ⟨a, e1, e2⟩ | ⟨a, A, e1, e2⟩
  · refine ⟨?_, by rw [e2]; exact v⟩
    rw [e1]
    unfold c_glsF
    rw [g_paneAt v.gp, if_neg (c := r_isP h x y = true) (by rw [a]; decide), if_pos rfl]
  · refine ⟨?_, by rw [e2]; exact v_scr v (by omega)⟩
    have hb := g_isP v.rpl a
    rw [e1]
    unfold c_glsF
    rw [g_paneAt v.gp, if_pos a, if_neg (by omega), g_gls v.rpl v.gp v.gm v.sg.2 v.sg.1 hb.1 hb.2])
end OPS
