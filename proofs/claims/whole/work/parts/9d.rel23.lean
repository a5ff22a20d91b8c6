/-! CLASS AND REFERENCE: the reading -/
def g_Io (T : Int → Int) (N P : Int) (x : Bool × z_H × t_Q) (y : Bool × z_H × t_R) : Prop := (x.1 = false ∧ y.1 = false ∧ x.2.2.2.1 = y.2.2.2.1) ∨ (y.1 = true ∧ g_R x.2.1 y.2.1 P ∧ g_Tk x.2.2 (m_nx T N y.2.2) ∧ x.1 = decide (x.2.2.2.2.1 = 3))
theorem g_itR {T : Int → Int} {N P : Int} {H G : z_H} {q : t_Q} {s : t_R} {fb : Bool} (hR : g_R H G P) (hT : g_Tk q s) (hw : 1 ≤ H P 2 ∧ H P 2 ≤ 5) (hh : 1 ≤ H P 3 ∧ H P 3 ≤ 4) (h27 : 0 ≤ G 89 27 ∧ G 89 27 ≤ 8) (p1 : P ≠ 1) (q1 : P + 1 ≠ 1) (q2 : P + 2 ≠ 1) : g_Io T N P (c_itR T N H P q fb) (m_itR T N G s fb) := by
  have t1 := g_nxt (T := T) (N := N) hT
  have t2 := g_nxt (T := T) (N := N) t1
  have t3 := g_nxt (T := T) (N := N) t2
  have t4 := g_nxt (T := T) (N := N) t3
  have nm : ∀ {a : t_Q} {b : t_R}, g_Tk a b → ∀ lo hi, hi ≤ 99 → ¬ t_nm lo hi a = false → ¬ m_nm lo hi b = false ∧ a.2.2.2 = b.2.2.2.2 := fun {a b} g lo hi h0 h1 => by
    have := g.2.2.2.2.2.2 lo hi h0
    exact ⟨by rw [← this.1]; exact h1, this.2 (by simpa using h1)⟩
  have nf : ∀ {a : t_Q} {b : t_R}, g_Tk a b → ∀ lo hi, hi ≤ 99 → t_nm lo hi a = false → m_nm lo hi b = false := fun {a b} g lo hi h0 h1 => by
    rw [← (g.2.2.2.2.2.2 lo hi h0).1]; exact h1
  obtain ⟨r1, r2, r3, r4, r5, r6, r7⟩ := id hR
  unfold c_itR m_itR
  by_cases h1 : q.2.2.1 = 1
  · obtain ⟨e1, e2⟩ := hT.2.2.2.2.1 h1
    rw [if_neg (show ¬ ¬ q.2.2.1 = 1 from fun w => w h1), e2]
    by_cases v1 : q.2.2.2 = 103
    · rw [if_pos v1, if_pos v1]
      cases fb with
      | false => exact Or.inl ⟨rfl, rfl, hT.2.1⟩
      | true =>
        rw [if_pos rfl, if_pos rfl]
        unfold c_szR m_szR
        by_cases a1 : t_nm 1 5 (t_nx T N q) = false
        · rw [if_pos a1, if_pos (nf t1 1 5 (by decide) a1)]
          exact Or.inl ⟨rfl, rfl, t1.2.1⟩
        · have b1 := nm t1 1 5 (by decide) a1
          rw [if_neg a1, if_neg b1.1]
          by_cases a2 : t_nm 1 4 (t_nx T N (t_nx T N q)) = false
          · rw [if_pos a2, if_pos (nf t2 1 4 (by decide) a2)]
            exact Or.inl ⟨rfl, rfl, t2.2.1⟩
          · have b2 := nm t2 1 4 (by decide) a2
            rw [if_neg a2, if_neg b2.1]
            refine Or.inr ⟨rfl, ?_, t3, rfl⟩
            show g_R (z_st (z_st H P 2 (t_nx T N q).2.2.2) P 3 (t_nx T N (t_nx T N q)).2.2.2) (z_st (z_st G 89 23 (m_nx T N s).2.2.2.2) 89 24 (m_nx T N (m_nx T N s)).2.2.2.2) P
            rw [b1.2, b2.2]
            exact (hR.num p1 (Or.inl ⟨rfl, rfl⟩)).num p1 (Or.inr ⟨rfl, rfl⟩)
    rw [if_neg v1, if_neg v1]
    by_cases v2 : q.2.2.2 = 109
    · rw [if_pos v2, if_pos v2]
      unfold m_miR
      rcases r4 with ⟨k1, k2, k3⟩ | ⟨k1, k2, k3⟩
      · rw [if_pos k1, if_neg (fun w => w k2)]
        unfold c_miR
        by_cases a1 : t_nm 1 12 (t_nx T N q) = false
        · rw [if_pos a1, if_pos (nf t1 1 12 (by decide) a1)]
          exact Or.inl ⟨rfl, rfl, t1.2.1⟩
        · have b1 := nm t1 1 12 (by decide) a1
          have b0 := t_nm_of a1
          rw [if_neg a1, if_neg b1.1]
          refine Or.inr ⟨rfl, ?_, t2, rfl⟩
          show g_R (z_st (z_st H P 5 (t_nx T N q).2.2.2) 1 6 1) (z_st G 89 28 (m_nx T N s).2.2.2.2) P
          rw [← b1.2]
          exact hR.mi p1 q1 q2 (by omega)
      · rw [if_neg (by omega), if_pos k2]
        exact Or.inl ⟨rfl, rfl, hT.2.1⟩
    rw [if_neg v2, if_neg v2]
    by_cases v3 : q.2.2.2 = 112
    · rw [if_pos v3, if_pos v3]
      unfold c_glR m_glR
      rw [← r1, ← r2]
      by_cases a1 : t_nm 0 (H P 2 - 1) (t_nx T N q) = false
      · rw [if_pos a1, if_pos (nf t1 0 (H P 2 - 1) (by omega) a1)]
        exact Or.inl ⟨rfl, rfl, t1.2.1⟩
      · have b1 := nm t1 0 (H P 2 - 1) (by omega) a1
        rw [if_neg a1, if_neg b1.1]
        by_cases a2 : t_nm 0 (H P 3 - 1) (t_nx T N (t_nx T N q)) = false
        · rw [if_pos a2, if_pos (nf t2 0 (H P 3 - 1) (by omega) a2)]
          exact Or.inl ⟨rfl, rfl, t2.2.1⟩
        · have b2 := nm t2 0 (H P 3 - 1) (by omega) a2
          rw [if_neg a2, if_neg b2.1]
          by_cases a3 : t_nm 0 7 (t_nx T N (t_nx T N (t_nx T N q))) = false
          · rw [if_pos a3, if_pos (nf t3 0 7 (by decide) a3)]
            exact Or.inl ⟨rfl, rfl, t3.2.1⟩
          · have b3 := nm t3 0 7 (by decide) a3
            rw [if_neg a3, if_neg b3.1]
            refine Or.inr ⟨rfl, ?_, t4, rfl⟩
            show g_R (z_st H (P + 1) (4 * (t_nx T N q).2.2.2 + (t_nx T N (t_nx T N q)).2.2.2) (t_nx T N (t_nx T N (t_nx T N q))).2.2.2) (z_st G 101 (4 * (m_nx T N s).2.2.2.2 + (m_nx T N (m_nx T N s)).2.2.2.2) (m_nx T N (m_nx T N (m_nx T N s))).2.2.2.2) P
            rw [← b1.2, ← b2.2, ← b3.2]
            exact hR.gl q1
    rw [if_neg v3, if_neg v3]
    by_cases v4 : q.2.2.2 = 115
    · rw [if_pos v4, if_pos v4]
      unfold m_scR
      by_cases k : G 89 27 = 8
      · rw [if_pos k, if_neg (by omega)]
        exact Or.inl ⟨rfl, rfl, hT.2.1⟩
      · rw [if_neg k, if_pos (by omega)]
        unfold c_scR
        by_cases a1 : t_nm 0 7 (t_nx T N q) = false
        · rw [if_pos a1, if_pos (nf t1 0 7 (by decide) a1)]
          exact Or.inl ⟨rfl, rfl, t1.2.1⟩
        · have b1 := nm t1 0 7 (by decide) a1
          rw [if_neg a1, if_neg b1.1]
          refine Or.inr ⟨rfl, ?_, t2, rfl⟩
          show g_R (c_shtH H P (H P 4).toNat (t_nx T N q).2.2.2) (z_st (z_st G 102 (G 89 27) (m_nx T N s).2.2.2.2) 89 27 (G 89 27 + 1)) P
          rw [← b1.2]
          exact hR.sh p1 q2 h27.1
    rw [if_neg v4, if_neg v4]
    by_cases v5 : q.2.2.2 = 121
    · rw [if_pos v5, if_pos v5]
      unfold m_seR
      rcases r5 with ⟨k1, k2, k3⟩ | ⟨k1, k2, k3⟩
      · rw [if_pos k1, if_neg (fun w => w k2)]
        unfold c_seR
        by_cases a1 : t_nm 0 3 (t_nx T N q) = false
        · rw [if_pos a1, if_pos (nf t1 0 3 (by decide) a1)]
          exact Or.inl ⟨rfl, rfl, t1.2.1⟩
        · have b1 := nm t1 0 3 (by decide) a1
          have b0 := t_nm_of a1
          rw [if_neg a1, if_neg b1.1]
          refine Or.inr ⟨rfl, ?_, t2, rfl⟩
          show g_R (z_st (z_st H P 6 (t_nx T N q).2.2.2) 1 7 1) (z_st G 89 29 (m_nx T N s).2.2.2.2) P
          rw [← b1.2]
          exact hR.se p1 q1 q2 (by omega)
      · rw [if_neg (by omega), if_pos k2]
        exact Or.inl ⟨rfl, rfl, hT.2.1⟩
    rw [if_neg v5, if_neg v5]
    exact Or.inl ⟨rfl, rfl, hT.2.1⟩
  · have e2 := hT.2.2.2.2.2.1 h1
    rw [if_pos h1, e2, if_neg (by decide), if_neg (by decide), if_neg (by decide), if_neg (by decide), if_neg (by decide)]
    exact Or.inl ⟨rfl, rfl, hT.2.1⟩
theorem g_rdL {T : Int → Int} {N P : Int} (p1 : P ≠ 1) (q1 : P + 1 ≠ 1) (q2 : P + 2 ≠ 1) : ∀ (f : Nat) (H G : z_H) (q : t_Q) (s : t_R) (i : Int), g_R H G P → g_Tk q s → c_PR H P T N → t_OK N q → m_PR G T N → m_OK N s → 0 ≤ i → i ≤ s.2.1 → (¬ s.2.2.1 = 0 → s.2.1 < s.1 ∧ s.2.1 < N) → (c_rdL T N P f H q i).1 = (m_rdL T N f G s i).1 ∧ ((m_rdL T N f G s i).2.1 = true → g_R (c_rdL T N P f H q i).2.1 (m_rdL T N f G s i).2.2.1 P ∧ 0 ≤ (c_rdL T N P f H q i).1) ∧ ((m_rdL T N f G s i).2.1 = false → (c_rdL T N P f H q i).1 < 0)
  | 0, H, G, q, s, i, hR, hT, hc, hq, hm, hs, h0, h1, h2 => ⟨rfl, fun _ => ⟨hR, h0⟩, fun e => by cases e⟩
  | f + 1, H, G, q, s, i, hR, hT, hc, hq, hm, hs, h0, h1, h2 => by
    have hw := hc.2.1.2.2.2.2.2.1
    have hh := hc.2.1.2.2.2.2.2.2.1
    have it := g_itR (T := T) (N := N) (fb := decide (i = 0)) hR hT hw hh hm.2.2.2.2.1 p1 q1 q2
    obtain ⟨hk1, hk2⟩ := c_itR_ok (fb := decide (i = 0)) hc hq
    obtain ⟨hk3, hk4⟩ := m_itR_ok (fb := decide (i = 0)) hm hs
    obtain ⟨-, -, hN, hTT⟩ := id hm.2.1
    have hfw := m_itR_fwd (H := G) (fb := decide (i = 0)) hN hTT hs
    rw [c_rdL, m_rdL]
    by_cases z0 : s.2.2.1 = 0
    · rw [if_pos (Or.inr (hT.2.2.1.mpr z0)), if_pos z0]
      exact ⟨rfl, fun _ => ⟨hR, h0⟩, fun e => by cases e⟩
    · have hlt := h2 z0
      rw [if_neg (c := N ≤ i ∨ q.2.2.1 = 0) (fun g => by rcases g with g | g; omega; exact z0 (hT.2.2.1.mp g)), if_neg (c := s.2.2.1 = 0) z0]
      by_cases z1 : s.2.2.1 = 1
      · rw [if_neg (c := ¬ s.2.2.1 = 1) (fun w => w z1)]
        generalize hx : c_itR T N H P q (decide (i = 0)) = x at *
        generalize hy : m_itR T N G s (decide (i = 0)) = y at *
        rcases it with ⟨x1, y1, e⟩ | ⟨y1, e1, e2, e3⟩
        · rw [if_pos x1, if_pos y1]
          have := hk2.2.1
          exact ⟨by show -10 - x.2.2.2.1 = -10 - y.2.2.2.1; rw [e], fun w => (by cases w), fun _ => by show -10 - x.2.2.2.1 < 0; omega⟩
        · rw [if_neg (c := y.1 = false) (by rw [y1]; decide)]
          have k5 := m_nx_ok (T := T) hN hTT hk4.1
          have f1 := m_fwd (T := T) (N := N) y.2.2 hk4.1
          by_cases z3 : (m_nx T N y.2.2).2.2.1 = 3
          · rw [if_neg (c := ¬ (m_nx T N y.2.2).2.2.1 = 3) (fun w => w z3), if_neg (c := x.1 = false) (by rw [e3, decide_eq_true (e2.2.2.2.1.mpr z3)]; decide)]
            have f2 := m_fwd (T := T) (N := N) (m_nx T N y.2.2) k5.1
            have f3 := f1.2.2 (by omega)
            obtain ⟨-, -, hcN, hcT⟩ := hk1.1
            exact g_rdL p1 q1 q2 f x.2.1 y.2.1 (t_nx T N x.2.2) (m_nx T N (m_nx T N y.2.2)) (i + 1) e1 (g_nxt e2) hk1 (t_nx_ok hN hTT hk2) hk3 (m_nx_ok hN hTT k5.1) (by omega) (by omega) (fun w => f2.2.2 w)
          · rw [if_pos (c := ¬ (m_nx T N y.2.2).2.2.1 = 3) z3, if_pos (c := x.1 = false) (by rw [e3]; exact decide_eq_false (fun w => z3 (e2.2.2.2.1.mp w)))]
            have := hk2.2.1
            exact ⟨by show -10 - x.2.2.2.1 = -10 - (m_nx T N y.2.2).2.1; rw [e2.2.1], fun w => (by cases w), fun _ => by show -10 - x.2.2.2.1 < 0; omega⟩
      · have hx : c_itR T N H P q (decide (i = 0)) = (false, H, q) := by
          unfold c_itR
          rw [if_pos (fun w => z1 (hT.2.2.2.2.1 w).1)]
        rw [if_pos (c := ¬ s.2.2.1 = 1) z1, hx, if_pos rfl]
        have := hq.2.1
        exact ⟨by show -10 - q.2.1 = -10 - s.2.1; rw [hT.2.1], fun w => (by cases w), fun _ => by show -10 - q.2.1 < 0; omega⟩
