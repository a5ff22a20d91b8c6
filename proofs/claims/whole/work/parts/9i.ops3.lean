/-! EACH CALL, 3: mix, child -/
def v_Rf (h k : z_H) : Prop := k 89 = h 89 ∧ k 90 = h 90 ∧ k 91 = h 91 ∧ k 92 = h 92
section OPS
variable {h k : z_H}
theorem v_Rf.pn (e : v_Rf h k) (T : Int → Int) (x y z : Int) (tn : Bool) : r_pn k T x y z tn = r_pn h T x y z tn := by
  unfold r_pn r_isP
  rw [e.1]
theorem v_Rf.at_ (e : v_Rf h k) (T : Int → Int) (p : Int) : r_at k T p = r_at h T p := by
  unfold r_at
  rw [e.1]
theorem v_Rf.th (e : v_Rf h k) (a : Int) : r_th k a = r_th h a := by
  unfold r_th
  rw [g_thr_eq, g_thr_eq, e.1, e.2.2.1]
theorem v_Rf.lets (e : v_Rf h k) (T : Int → Int) (p : Int) : r_lets k T p = r_lets h T p := by
  unfold r_lets
  rw [e.at_, e.th, e.2.1]
theorem v_Rf.ln (e : v_Rf h k) (T : Int → Int) (p : Int) : r_ln k T p = r_ln h T p := by
  unfold r_ln
  rw [e.lets]
theorem v_Rf.free (e : v_Rf h k) (p : Int) : r_free k p = r_free h p := by
  unfold r_free
  rw [e.2.2.2, e.at_]
theorem v_Rf.mxB (e : v_Rf h k) (o t bx c a : Int) (s : r_Q3) : ∀ n, r_mxB k o t bx c a s n = r_mxB h o t bx c a s n
  | 0 => rfl
  | n + 1 => by
    unfold r_mxB
    rw [e.mxB o t bx c a s n, e.free, e.2.2.2, e.ln, e.ln, e.th, e.th]
theorem v_Rf.mxA (e : v_Rf h k) (o t bx c : Int) (L : Nat) : ∀ n, r_mxA k o t bx c L n = r_mxA h o t bx c L n
  | 0 => rfl
  | n + 1 => by
    unfold r_mxA
    rw [e.mxA o t bx c L n, e.free, e.mxB]
theorem v_Rf.mixQ (e : v_Rf h k) (x y z c : Int) : r_mixQ k x y z c = r_mixQ h x y z c := by
  unfold r_mixQ
  rw [e.2.2.2, e.pn, e.pn, e.at_, e.1, e.mxA]
theorem v_mix (v : v_N h) {x y z c w : Int} (hx : z_R x) (hy : z_R y) (hk : z_R z) (hc : z_R c) (hw : z_R w) : v_Op mX9_mix mX10_mix [(0, x), (0, y), (0, z), (0, c), (0, w)] 0 h := by
  refine ⟨_, ct_X9_mix v.ob v.sc.1 v.2.2.1.1 hx hy hk hc hw, fun r h1 hp => ?_⟩
  rcases hp with ⟨a, e1, e2⟩ | ⟨a, e1, e2⟩
  · refine ⟨_, _, e1, by rw [e2]; exact ct_X10_mix v.rob v.rpl v.rmt hx hy hk hc hw, fun r3 h3 hq => ?_⟩
    rcases hq with ⟨-, f1, f2⟩ | ⟨w2, -⟩
    · exact ⟨by rw [f1, e1], by rw [f2]; exact v⟩
    · exact absurd w2 a
  · have q0 : ∀ q, q ≠ 31 → h1 q = h q := fun q hq => by rw [e2]; exact c_mx_cell h _ hq
    have hRf : v_Rf h h1 := ⟨q0 _ (by decide), q0 _ (by decide), q0 _ (by decide), q0 _ (by decide)⟩
    have mk : m_ok (c_mixQ h (h 3 1) (h 4 2) (7 * x + y) z c) := m_sk_ok (q := (0, h 31 1, h 31 2, h 31 3)) (show m_ok _ from ⟨Or.inl rfl, v.2.2.1.1.2⟩) _
    have v1 : v_N h1 := by
      refine v.chg (fun q _ _ _ a1 _ _ _ _ _ _ _ => q0 q a1) (fun j _ => by rw [q0 0 (by decide)]) (fun j _ => by rw [q0 34 (by decide)]) (fun j _ _ _ => by rw [q0 89 (by decide)]) (v.2.1.fr (q0 _ (by decide)) (q0 _ (by decide)) (fun j _ => by rw [q0 1 (by decide)]) (by rw [q0 89 (by decide)])) ?_ (v.2.2.2.1.fr (q0 _ (by decide)) (q0 _ (by decide)) (q0 _ (by decide)) (by rw [q0 34 (by decide)]) (by rw [q0 89 (by decide)]))
      obtain ⟨m1, m2, m3, m4, m5⟩ := v.2.2.1
      refine ⟨?_, by rw [q0 33 (by decide)]; exact m2, by rw [q0 33 (by decide)]; exact m3, by rw [q0 102 (by decide)]; exact m4, by rw [q0 0 (by decide), q0 89 (by decide)]; exact m5⟩
      rw [e2, c_mx_0, c_mx_1, c_mx_2, c_mx_3]
      exact mk
    refine ⟨_, _, e1, ct_X10_mix v1.rob v1.rpl v1.rmt hx hy hk hc hw, fun r3 h3 hq => ?_⟩
    rcases hq with ⟨w2, -⟩ | ⟨-, f1, f2⟩
    · exact absurd a w2
    · exact ⟨by rw [f1, e1, hRf.mixQ, g_mixA (g_mixQ v.rpl v.gp v.gm a.1 c) w], by rw [f2]; exact v1⟩
theorem v_child (v : v_N h) {x y z c j : Int} (hx : z_R x) (hy : z_R y) (hk : z_R z) (hc : z_R c) (hj : z_R j) : v_Op mX9_child mX10_child [(0, x), (0, y), (0, z), (0, c), (0, j)] 0 h := by
  have hco : (c_hour c = true ∧ ¬ c = 0) ↔ (1 ≤ c ∧ c ≤ 7) := by
    unfold c_hour
    rw [decide_eq_true_iff]
    omega
  refine ⟨_, ct_X9_child v.ob v.sc.1 v.2.2.1.2.1 v.2.2.1.2.2.1 hx hy hk hc hj, fun r h1 hp => ?_⟩
  rcases hp with ⟨a, e1, e2⟩ | ⟨a, f, F1, F2, e1, e2⟩
  · refine ⟨_, _, e1, by rw [e2]; exact ct_X10_child v.rob v.rpl v.rmt hx hy hk hc hj, fun r3 h3 hq => ?_⟩
    rcases hq with ⟨-, f1, f2⟩ | ⟨w2, -⟩
    · exact ⟨by rw [f1, e1], by rw [f2]; exact v⟩
    · have := hco.mpr w2.2.2.1
      exact absurd ⟨w2.1, w2.2.1, this.1, this.2, w2.2.2.2.1, w2.2.2.2.2⟩ a
  · have q0 : ∀ q, q ≠ 33 → h1 q = h q := fun q hq => by rw [e2]; exact w_H_ne h f hq
    have q33 : h1 33 = f := by
      rw [e2]
      funext r
      exact w_H_at h f r
    have k0 := of_decide_eq_true a.2.1
    have t0 := of_decide_eq_true a.1
    have v1 : v_N h1 := by
      refine v.chg (fun q _ _ _ _ a1 _ _ _ _ _ _ => q0 q a1) (fun j _ => by rw [q0 0 (by decide)]) (fun j _ => by rw [q0 34 (by decide)]) (fun j _ _ _ => by rw [q0 89 (by decide)]) (v.2.1.fr (q0 _ (by decide)) (q0 _ (by decide)) (fun j _ => by rw [q0 1 (by decide)]) (by rw [q0 89 (by decide)])) ?_ (v.2.2.2.1.fr (q0 _ (by decide)) (q0 _ (by decide)) (q0 _ (by decide)) (by rw [q0 34 (by decide)]) (by rw [q0 89 (by decide)]))
      obtain ⟨m1, m2, m3, m4, m5⟩ := v.2.2.1
      refine ⟨by rw [q0 31 (by decide)]; exact m1, by rw [q33]; exact F1, ?_, by rw [q0 102 (by decide)]; exact m4, by rw [q0 0 (by decide), q0 89 (by decide)]; exact m5⟩
      intro u u0 u1
      rw [q33]
      exact F2 8 (by omega) (by decide) u u0 u1
    have hlt : w_lt h1 (h1 3 1) (h1 4 2) c = w_lt h (h 3 1) (h 4 2) c := by
      have E : c_Eq h h1 (h 3 1) (h 4 2) := by rw [e2]; exact w_H_eq v.sc.1
      funext t kk
      unfold w_lt
      rw [q0 3 (by decide), q0 4 (by decide), E.light]
    have hD : ∀ (n : Nat) (u : Int), 0 ≤ u → u < 84 → r_D h1 c n u = w_S (w_lt h (h 3 1) (h 4 2) c) n u := fun n u u0 u1 => by
      rw [← hlt]
      exact (g_S v1.rpl v1.gp v1.gm c n u u0 u1).symm
    refine ⟨_, _, e1, ct_X10_child v1.rob v1.rpl v1.rmt hx hy hk hc hj, fun r3 h3 hq => ?_⟩
    rcases hq with ⟨w2, -⟩ | ⟨-, F, f1, f2⟩
    · exact absurd ⟨a.1, a.2.1, hco.mp ⟨a.2.2.1, a.2.2.2.1⟩, a.2.2.2.2.1, a.2.2.2.2.2⟩ w2
    · refine ⟨?_, by rw [f2]; exact v_scr v1 (by omega)⟩
      rw [f1, e1, hD _ _ (by omega) (by omega)]
      by_cases g1 : j = -1
      · rw [if_pos g1, if_pos g1]
      · rw [if_neg g1, if_neg g1]
        by_cases g2 : j < w_S (w_lt h (h 3 1) (h 4 2) c) (8 - z.toNat) (7 * x + y)
        · rw [if_pos g2, if_pos g2]
          have hr := w_S_rng (w_lt h (h 3 1) (h 4 2) c) (8 - z.toNat) (7 * x + y)
          rw [← e2]
          rw [g_after (h := h1) (H := h1) (c := c) (F := f) (by omega) (by omega) (by omega) q33 (fun kk a1 a2 u u0 u1 => by rw [hD _ _ u0 u1]; exact F2 kk a1 a2 u u0 u1) j.toNat (by omega)]
        · rw [if_neg g2, if_neg g2]
end OPS
