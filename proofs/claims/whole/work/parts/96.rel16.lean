/-! CLASS AND REFERENCE: mixing -/
def g_Q (q : Int × Int × Int × Int) (s : r_Q3) : Prop := (q.1 = 0 ∧ s = (1000000, 0, 0)) ∨ (q.1 = 1 ∧ s = (q.2.1, q.2.2.1, q.2.2.2) ∧ q.2.1 ≤ 62)
theorem g_off {q : Int × Int × Int × Int} {s : r_Q3} (hq : g_Q q s) (a b : Int) : g_Q (m_off q a b) (if z_pop a + z_pop b < s.1 then (z_pop a + z_pop b, a, b) else s) := by
  have p1 := z_pop_rng a
  have p2 := z_pop_rng b
  rcases hq with ⟨e0, e1⟩ | ⟨e0, e1, e2⟩
  · subst e1
    unfold m_off
    rw [if_pos (Or.inl e0), if_pos (show z_pop a + z_pop b < 1000000 by omega)]
    exact Or.inr ⟨rfl, rfl, by show z_pop a + z_pop b ≤ 62; omega⟩
  · subst e1
    unfold m_off
    by_cases g : z_pop a + z_pop b < q.2.1
    · rw [if_pos (Or.inr g), if_pos (show z_pop a + z_pop b < q.2.1 from g)]
      exact Or.inr ⟨rfl, rfl, by show z_pop a + z_pop b ≤ 62; omega⟩
    · rw [if_neg (fun w => by rcases w with w | w; omega; exact g w), if_neg (show ¬ z_pop a + z_pop b < q.2.1 from g)]
      exact Or.inr ⟨e0, rfl, e2⟩
theorem g_lat {h : z_H} {pile : Int → Int} {o t c r w f : Int} {a bx : Nat} {q : Int × Int × Int × Int} {s : r_Q3} (hbx : bx < 256) (ha : a < 256) (hpile : ∀ b : Nat, b &&& (bx ^^^ (bx &&& a)) = b → pile (b : Int) = r_th h (b : Int)) (hr' : r = r_free h t) (hw : w = r_ln h (h 92) t) (hf : f = z_and (r_ln h (h 92) o) (r_th h (a : Int))) (hq : g_Q q s) : ∀ n : Nat, n ≤ 256 → g_Q (m_lat pile ((bx ^^^ (bx &&& a) : Nat) : Int) r w f c (a : Int) q (g_rk (bx ^^^ (bx &&& a)) n)) (r_mxB h o t (bx : Int) c (a : Int) s n)
  | 0, _ => hq
  | n + 1, hn => by
    have ih := g_lat (c := c) hbx ha hpile hr' hw hf hq n (by omega)
    have hR : bx ^^^ (bx &&& a) < 256 := Nat.xor_lt_two_pow (n := 8) hbx (Nat.lt_of_le_of_lt Nat.and_le_left hbx)
    have hin := g_in2 (n := n) (a := a) (b := bx) (by omega) (by omega)
    unfold r_mxB
    by_cases e : n &&& (bx ^^^ (bx &&& a)) = n
    · have e2 : g_rk (bx ^^^ (bx &&& a)) (n + 1) = g_rk (bx ^^^ (bx &&& a)) n + 1 := if_pos e
      have e3 : m_b ((bx ^^^ (bx &&& a) : Nat) : Int) (g_rk (bx ^^^ (bx &&& a)) n) = (n : Int) := by
        rw [g_mb hR, (g_sub hR).1 n (by omega) e]
      rw [e2]
      unfold m_lat
      rw [e3, hpile n e, hf, hw, hr']
      by_cases gA : z_or (z_and (r_ln h (h 92) o) (r_th h (a : Int))) (z_and (r_ln h (h 92) t) (r_th h (n : Int))) = c
      · by_cases gB : z_pop (n : Int) ≤ r_free h t
        · rw [if_pos ⟨gA, gB⟩]
          have := g_off ih (a : Int) (n : Int)
          rw [hf, hw, hr'] at this
          by_cases gC : z_pop (a : Int) + z_pop (n : Int) < (r_mxB h o t (bx : Int) c (a : Int) s n).1
          · rw [if_pos gC] at this
            rw [if_pos ⟨⟨hin.mpr e, gB, gC⟩, gA⟩]
            exact this
          · rw [if_neg gC] at this
            rw [if_neg (fun g => gC g.1.2.2)]
            exact this
        · rw [if_neg (fun g => gB g.2), if_neg (fun g => gB g.1.2.1)]
          rw [hf, hw, hr'] at ih
          exact ih
      · rw [if_neg (fun g => gA g.1), if_neg (fun g => gA g.2)]
        rw [hf, hw, hr'] at ih
        exact ih
    · have e2 : g_rk (bx ^^^ (bx &&& a)) (n + 1) = g_rk (bx ^^^ (bx &&& a)) n := if_neg e
      rw [e2, if_neg (fun g => e (hin.mp g.1.1))]
      exact ih
theorem g_mxB_up {h : z_H} {o t c : Int} {a bx L : Nat} {s : r_Q3} (hbx : bx < L) (hL : L ≤ 256) (ha : a < 256) : ∀ n : Nat, L + n ≤ 256 → r_mxB h o t (bx : Int) c (a : Int) s (L + n) = r_mxB h o t (bx : Int) c (a : Int) s L
  | 0, _ => rfl
  | n + 1, hn => by
    have ih := g_mxB_up (h := h) (o := o) (t := t) (c := c) (s := s) hbx hL ha n (by omega)
    have hin := g_in2 (n := L + n) (a := a) (b := bx) (by omega) (by omega)
    show r_mxB h o t (bx : Int) c (a : Int) s ((L + n) + 1) = _
    rw [r_mxB, if_neg (fun g => by
      have h1 := hin.mp g.1.1
      have h2 : (L + n) &&& (bx ^^^ (bx &&& a)) ≤ bx ^^^ (bx &&& a) := Nat.and_le_right
      have h3 : bx ^^^ (bx &&& a) = bx &&& (bx ^^^ (bx &&& a)) := by
        apply Nat.eq_of_testBit_eq
        intro i
        rw [Nat.testBit_and, Nat.testBit_xor, Nat.testBit_and]
        cases bx.testBit i <;> cases a.testBit i <;> rfl
      have h4 : bx &&& (bx ^^^ (bx &&& a)) ≤ bx := Nat.and_le_left
      omega)]
    exact ih
theorem g_mxA_up {h : z_H} {o t c : Int} {bx L m : Nat} (hb : bx < 256) : ∀ n : Nat, bx + 1 + n ≤ 256 → r_mxA h o t (bx : Int) c L (bx + 1 + n) = r_mxA h o t (bx : Int) c L (bx + 1)
  | 0, _ => rfl
  | n + 1, hn => by
    have ih := g_mxA_up (h := h) (o := o) (t := t) (c := c) (L := L) (m := m) hb n (by omega)
    have hin := g_in (a := bx + 1 + n) (b := bx) (by omega)
    show r_mxA h o t (bx : Int) c L ((bx + 1 + n) + 1) = _
    unfold r_mxA
    rw [if_neg (fun g => by
      have h1 := hin.mp g.1
      have h2 : (bx + 1 + n) &&& bx ≤ bx := Nat.and_le_right
      omega)]
    rw [ih]
    rfl
theorem z_pop_8 {R : Nat} (hR : R < 256) : (z_pop (R : Int)).toNat = z_ct R.testBit 8 := by
  unfold z_pop
  rw [Int.toNat_natCast, Int.toNat_natCast, show (31 : Nat) = 8 + 23 from rfl, z_ct_hi (p := R.testBit) (k := 8) (fun i hi => Nat.testBit_lt_two_pow (Nat.lt_of_lt_of_le hR (show 2 ^ 8 ≤ 2 ^ i from Nat.pow_le_pow_right (by decide) hi))) 23]
theorem g_sk {h : z_H} {pl mo : Int} (hr : r_Pl h) (hp : g_Pl h pl) (hm : g_Mo h mo (h 92)) (t k c : Int) {q : Int × Int × Int × Int} (hq : q.1 = 0) : ∀ n : Nat, n ≤ 256 → g_Q (m_sk h pl mo t k c q n) (r_mxA h (r_pn h (h 92) (t / 7) (t % 7) k false) (r_pn h (h 92) (t / 7) (t % 7) k true) ((r_at h (h 92) (-9) : Nat) : Int) c (2 ^ (h 89 4).toNat) n)
  | 0, _ => Or.inl ⟨hq, rfl⟩
  | n + 1, hn => by
    have ih := g_sk hr hp hm t k c hq n (by omega)
    have hs8 := hr.2.2.1
    have hbx : r_at h (h 92) (-9) < 256 := r_at_lt hr _ _
    have hbL : r_at h (h 92) (-9) < 2 ^ (h 89 4).toNat := z_set_lt _ _
    have hL : (2 : Nat) ^ (h 89 4).toNat ≤ 256 := show (2 : Nat) ^ (h 89 4).toNat ≤ 2 ^ 8 from Nat.pow_le_pow_right (by decide) (by omega)
    unfold m_sk r_mxA
    rw [g_box hr hp hm, g_own hp hm, g_mir hp hm, g_room hr hp hm (r_pn_rng hr)]
    by_cases e : z_and (n : Int) (z_xor ((r_at h (h 92) (-9) : Nat) : Int) (-1)) = 0 ∧ z_pop (n : Int) ≤ r_free h (r_pn h (h 92) (t / 7) (t % 7) k false)
    · rw [if_pos e, if_pos e]
      have en : n &&& r_at h (h 92) (-9) = n := (g_in (by omega)).mp e.1
      have hnL : n < 2 ^ (h 89 4).toNat := by
        have : n &&& r_at h (h 92) (-9) ≤ r_at h (h 92) (-9) := Nat.and_le_right
        omega
      have hR : m_R h pl mo (n : Int) = ((r_at h (h 92) (-9) ^^^ (r_at h (h 92) (-9) &&& n) : Nat) : Int) := by
        unfold m_R
        rw [g_box hr hp hm, z_andnot n (by omega)]
      have hRlt : r_at h (h 92) (-9) ^^^ (r_at h (h 92) (-9) &&& n) < 256 := Nat.xor_lt_two_pow (n := 8) hbx (Nat.lt_of_le_of_lt Nat.and_le_left hbx)
      have hRle : r_at h (h 92) (-9) ^^^ (r_at h (h 92) (-9) &&& n) < 2 ^ (h 89 4).toNat := Nat.xor_lt_two_pow hbL (Nat.lt_of_le_of_lt Nat.and_le_left hbL)
      unfold m_latH m_N
      rw [hR, z_pop_8 hRlt, ← (g_sub hRlt).2]
      have key := g_lat (h := h) (pile := h (pl + 2)) (o := r_pn h (h 92) (t / 7) (t % 7) k false) (t := r_pn h (h 92) (t / 7) (t % 7) k true) (c := c) (r := c_room h mo (g_p (r_pn h (h 92) (t / 7) (t % 7) k true))) (w := c_lets h pl mo (g_p (r_pn h (h 92) (t / 7) (t % 7) k true))) (f := z_and (c_lets h pl mo (g_p (r_pn h (h 92) (t / 7) (t % 7) k false))) (h (pl + 2) (n : Int))) (a := n) (bx := r_at h (h 92) (-9)) hbx (by omega) (fun b hb => hp.2.2.2.2 b (by
        have : b &&& (r_at h (h 92) (-9) ^^^ (r_at h (h 92) (-9) &&& n)) ≤ r_at h (h 92) (-9) ^^^ (r_at h (h 92) (-9) &&& n) := Nat.and_le_right
        omega)) (g_room hr hp hm (r_pn_rng hr)) (g_ln hr hp hm (r_pn_rng hr)) (by rw [g_ln hr hp hm (r_pn_rng hr), hp.2.2.2.2 n hnL]) ih 256 (Nat.le_refl _)
      have up := g_mxB_up (h := h) (o := r_pn h (h 92) (t / 7) (t % 7) k false) (t := r_pn h (h 92) (t / 7) (t % 7) k true) (c := c) (a := n) (s := r_mxA h (r_pn h (h 92) (t / 7) (t % 7) k false) (r_pn h (h 92) (t / 7) (t % 7) k true) ((r_at h (h 92) (-9) : Nat) : Int) c (2 ^ (h 89 4).toNat) n) hbL hL (by omega) (256 - 2 ^ (h 89 4).toNat) (by omega)
      rw [show 2 ^ (h 89 4).toNat + (256 - 2 ^ (h 89 4).toNat) = 256 by omega] at up
      rw [up] at key
      exact key
    · rw [if_neg e, if_neg e]
      exact ih
theorem g_mixQ {h : z_H} {pl mo : Int} (hr : r_Pl h) (hp : g_Pl h pl) (hm : g_Mo h mo (h 92)) {x y k : Int} (g : c_tile x y = true) (c : Int) : g_Q (c_mixQ h pl mo (7 * x + y) k c) (r_mixQ h x y k c) := by
  have ht := g_tile g
  have hs8 := hr.2.2.1
  have hbx : r_at h (h 92) (-9) < 256 := r_at_lt hr _ _
  have hbL : r_at h (h 92) (-9) < 2 ^ (h 89 4).toNat := z_set_lt _ _
  have hL : (2 : Nat) ^ (h 89 4).toNat ≤ 256 := show (2 : Nat) ^ (h 89 4).toNat ≤ 2 ^ 8 from Nat.pow_le_pow_right (by decide) (by omega)
  have key := g_sk hr hp hm (7 * x + y) k c (q := (0, h 31 1, h 31 2, h 31 3)) rfl (r_at h (h 92) (-9) + 1) (by omega)
  have up := g_mxA_up (h := h) (o := r_pn h (h 92) x y k false) (t := r_pn h (h 92) x y k true) (c := c) (L := 2 ^ (h 89 4).toNat) (m := 0) hbx (2 ^ (h 89 4).toNat - (r_at h (h 92) (-9) + 1)) (by omega)
  rw [show r_at h (h 92) (-9) + 1 + (2 ^ (h 89 4).toNat - (r_at h (h 92) (-9) + 1)) = 2 ^ (h 89 4).toNat by omega] at up
  rw [ht.1, ht.2, ← up] at key
  unfold c_mixQ r_mixQ
  rw [g_box hr hp hm, Int.toNat_natCast]
  exact key
theorem g_mixA {q : Int × Int × Int × Int} {s : r_Q3} (hq : g_Q q s) (w : Int) : c_mixA q w = r_mixA s w := by
  unfold c_mixA r_mixA
  rcases hq with ⟨e0, e1⟩ | ⟨e0, e1, e2⟩
  · subst e1
    rw [if_pos e0, if_pos rfl]
  · subst e1
    rw [if_neg (by omega), if_neg (show ¬ q.2.1 = 1000000 by omega)]
