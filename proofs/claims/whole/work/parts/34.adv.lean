/-! what advance, retreat, become do to the moments -/
/-- moment m of h is as moment o of g: broken, mirror, season, sheets -/
def c_Like (g h : z_H) (o m : Int) : Prop := h m 1 = g o 1 ∧ h m 2 = g o 2 ∧ h m 3 = g o 3 ∧ ∀ p, 0 ≤ p → p < 20 → h (m + 1) p = g (o + 1) p
theorem c_Like.rf (h : z_H) (m : Int) : c_Like h h m m := ⟨rfl, rfl, rfl, fun _ _ _ => rfl⟩
theorem c_Like.tr {f g h : z_H} {a b c : Int} (h1 : c_Like f g a b) (h2 : c_Like g h b c) : c_Like f h a c := ⟨h2.1.trans h1.1, h2.2.1.trans h1.2.1, h2.2.2.1.trans h1.2.2.1, fun p a b => (h2.2.2.2 p a b).trans (h1.2.2.2 p a b)⟩
theorem c_Like.cells {g h : z_H} {m : Int} (h1 : h m = g m) (h2 : h (m + 1) = g (m + 1)) : c_Like g h m m := ⟨by rw [h1], by rw [h1], by rw [h1], fun p _ _ => by rw [h2]⟩
theorem c_bec_like {h : z_H} {m o : Int} (km : z_kd 107 m = (0, 1)) (ko : z_kd 107 o = (0, 1)) (hne : m ≠ o) : c_Like h (c_becH h m o) o m := by
  have km1 := z_mo_row km
  have ko1 := z_mo_row ko
  have e1 : m + 1 ≠ m := by omega
  have e2 : m ≠ m + 1 := by omega
  refine ⟨?_, ?_, ?_, fun p h0 h1 => ?_⟩
  · simp [c_becH, z_st]
  · simp [c_becH, z_st]
  · simp [c_becH, z_st]
  · simp [c_becH, z_st, e1, z_cp, h0, h1]
theorem c_adv_spec {h : z_H} {k : Int} (hSt : c_St h k) (hMs : c_Ms h) :
    c_St (c_advH h k) k ∧ c_Ms (c_advH h k) ∧ c_advH h k k 2 = c_advR h k ∧ c_advH h k k 1 = (if h k 1 < 10 then h k 1 + 1 else h k 1) ∧ c_Like h (c_advH h k) (h k 2) (c_advR h k)
    ∧ (∀ i, 0 ≤ i → i < c_advH h k k 1 → c_Like h (c_advH h k) (h (k + 1) (if h k 1 < 10 then i else i + 1)) (c_advH h k (k + 1) i))
    ∧ (∀ q, q ≠ k → q ≠ k + 1 → q ≠ c_advR h k → q ≠ c_advR h k + 1 → c_advH h k q = h q) ∧ (z_kd 107 (c_advR h k) = (0, 1) ∧ k + 2 ≤ c_advR h k ∧ c_advR h k ≤ k + 22) := by
  obtain ⟨g1, g2, g3, g3j, g4⟩ := c_adv1_ok hSt hMs
  obtain ⟨kk, rk0, kk1, hmm, hinj, hp, hpr⟩ := id hSt
  have q1 := g3 (c_adv1 h k k 1) (by omega) (by omega)
  have q2 := g3 (c_adv1 h k k 1 - 1) (by omega) (by omega)
  have g5 : c_adv1 h k (k + 1) (c_adv1 h k k 1) ≠ c_adv1 h k (k + 1) (c_adv1 h k k 1 - 1) := fun e => by have := g3j _ _ (by omega) (by omega) (by omega) (by omega) e; omega
  have hRe : c_advR h k = c_adv1 h k (k + 1) (c_adv1 h k k 1) := rfl
  have kR : z_kd 107 (c_advR h k) = (0, 1) := q1.1
  have n1 : k ≠ c_advR h k := z_ne_kd kk kR (by decide)
  have n2 : k ≠ c_advR h k + 1 := z_ne_kd kk (z_mo_row kR) (by decide)
  have n3 : k + 1 ≠ c_advR h k := z_ne_kd kk1 kR (by decide)
  have n4 : k + 1 ≠ c_advR h k + 1 := z_ne_kd kk1 (z_mo_row kR) (by decide)
  have n5 : k + 1 ≠ k := by omega
  -- the cells of the story
  have ck : c_advH h k k = z_st (c_adv1 h k) k 2 (c_advR h k) k := by
    show c_becH (z_st (c_adv1 h k) k 2 (c_advR h k)) (c_advR h k) _ k = _
    exact c_bec_cell n1 n2
  have ck1 : c_advH h k (k + 1) = c_adv1 h k (k + 1) := by
    show c_becH (z_st (c_adv1 h k) k 2 (c_advR h k)) (c_advR h k) _ (k + 1) = _
    rw [c_bec_cell n3 n4, z_st_cell _ n5]
  have cq : ∀ q, q ≠ k → q ≠ c_advR h k → q ≠ c_advR h k + 1 → c_advH h k q = c_adv1 h k q := fun q a b c => by
    show c_becH (z_st (c_adv1 h k) k 2 (c_advR h k)) (c_advR h k) _ q = _
    rw [c_bec_cell b c, z_st_cell _ a]
  have v0 : c_advH h k k 0 = k + 1 := by rw [ck, z_st_slot _ (by decide)]; exact g2
  have v1 : c_advH h k k 1 = c_adv1 h k k 1 := by rw [ck, z_st_slot _ (by decide)]
  have v2 : c_advH h k k 2 = c_advR h k := by rw [ck, z_st_at]
  have a1 : c_adv1 h k k 1 = if h k 1 < 10 then h k 1 + 1 else h k 1 := by
    unfold c_adv1
    by_cases hc : h k 1 < 10
    · rw [if_pos hc, if_pos hc, z_st_at]
    · rw [if_neg hc, if_neg hc, z_rw_ne h _ (by omega)]
  have aq : ∀ q, q ≠ k → q ≠ k + 1 → c_adv1 h k q = h q := fun q a b => by
    unfold c_adv1
    by_cases hc : h k 1 < 10
    · rw [if_pos hc, z_st_cell h a]
    · rw [if_neg hc, z_rw_ne h _ b]
  have ar : ∀ i, 0 ≤ i → i < 11 → c_adv1 h k (k + 1) i = if h k 1 < 10 then h (k + 1) i else if i = 10 then h (k + 1) 0 else h (k + 1) (i + 1) := fun i a b => by
    unfold c_adv1
    by_cases hc : h k 1 < 10
    · rw [if_pos hc, if_pos hc, z_st_cell h n5]
    · rw [if_neg hc, if_neg hc, z_rw_at]
      unfold c_losF
      by_cases e : i = 10
      · rw [if_pos e, if_pos e]
      · rw [if_neg e, if_neg e, if_pos (by omega)]
  have gM : c_Ms (c_advH h k) := c_bec_Ms (fun m hm => by rw [z_st_cell _ (z_ne_kd hm kk (by decide))]; exact g1 m hm) kR
  have like2 : c_Like (z_st (c_adv1 h k) k 2 (c_advR h k)) (c_advH h k) (c_adv1 h k (k + 1) (c_adv1 h k k 1 - 1)) (c_advR h k) := c_bec_like kR q2.1 g5
  have o1 : c_adv1 h k (k + 1) (c_adv1 h k k 1 - 1) = h k 2 := by
    rw [ar _ (by omega) (by omega), hpr, a1]
    by_cases hc : h k 1 < 10
    · rw [if_pos hc, if_pos hc]; congr 1; omega
    · rw [if_neg hc, if_neg hc, if_neg (by omega)]; congr 1; omega
  have km := (hmm (h k 1) (by omega) (by omega)).1
  rw [← hpr] at km
  have m1 : h k 2 ≠ k := z_ne_kd km kk (by decide)
  have m2 : h k 2 ≠ k + 1 := z_ne_kd km kk1 (by decide)
  have m3 : h k 2 + 1 ≠ k := z_ne_kd (z_mo_row km) kk (by decide)
  have m4 : h k 2 + 1 ≠ k + 1 := z_ne_kd (z_mo_row km) kk1 (by decide)
  rw [o1] at like2
  refine ⟨⟨kk, v0, kk1, ?_, ?_, ?_, ?_⟩, gM, v2, v1.trans a1, ?_, fun i h0 h1 => ?_, fun q b1 b2 b3 b4 => by rw [cq q b1 b3 b4, aq q b1 b2], kR, q1.2⟩
  · rw [ck1]; exact g3
  · rw [ck1]; exact g3j
  · rw [v1]; omega
  · rw [v2, ck1, v1, hRe]
  · refine c_Like.tr (c_Like.cells ?_ ?_) like2
    · rw [z_st_cell _ m1]; exact aq _ m1 m2
    · rw [z_st_cell _ m3]; exact aq _ m3 m4
  · rw [v1] at h1
    rw [ck1]
    have ei : c_adv1 h k (k + 1) i = h (k + 1) (if h k 1 < 10 then i else i + 1) := by
      rw [ar i h0 (by omega)]
      by_cases hc : h k 1 < 10
      · rw [if_pos hc, if_pos hc]
      · rw [if_neg hc, if_neg hc, if_neg (by rw [a1, if_neg hc] at h1; omega)]
    have kq := g3 i h0 (by omega)
    have r1 : c_adv1 h k (k + 1) i ≠ c_advR h k := fun e => by have := g3j i _ h0 (by omega) (by omega) (by omega) e; omega
    have r2 : c_adv1 h k (k + 1) i ≠ c_advR h k + 1 := z_ne_kd kq.1 (z_mo_row kR) (by decide)
    have r3 : c_adv1 h k (k + 1) i + 1 ≠ c_advR h k := z_ne_kd (z_mo_row kq.1) kR (by decide)
    have r4 : c_adv1 h k (k + 1) i + 1 ≠ c_advR h k + 1 := by omega
    have s1 : c_adv1 h k (k + 1) i ≠ k := z_ne_kd kq.1 kk (by decide)
    have s2 : c_adv1 h k (k + 1) i ≠ k + 1 := z_ne_kd kq.1 kk1 (by decide)
    have s3 : c_adv1 h k (k + 1) i + 1 ≠ k := z_ne_kd (z_mo_row kq.1) kk (by decide)
    have s4 : c_adv1 h k (k + 1) i + 1 ≠ k + 1 := z_ne_kd (z_mo_row kq.1) kk1 (by decide)
    rw [← ei]
    refine c_Like.cells ?_ ?_
    · rw [cq _ s1 r1 r2, aq _ s1 s2]
    · rw [cq _ s3 r3 r4, aq _ s3 s4]
theorem c_Like.mo {g h : z_H} {o m : Int} (hl : c_Like g h o m) (ho : c_Mo g o) (km : z_kd 107 m = (0, 1)) (hMs : c_Ms h) : c_Mo h m := by
  obtain ⟨-, -, -, h1, h2, h3, h4⟩ := ho
  obtain ⟨l1, l2, l3, l4⟩ := hl
  refine ⟨km, hMs m km, z_mo_row km, by rw [l1]; exact h1, by rw [l2]; exact h2, by rw [l3]; exact h3, fun p a b => by rw [l4 p a b]; exact h4 p a b⟩
/-- the scene behind advance -/
theorem c_adv_sc {h : z_H} {pl mo : Int} (hS : c_Sc h pl mo) (hSt : c_St h 4) (hMs : c_Ms h) : c_Sc (c_advH h 4) pl (c_advR h 4) := by
  obtain ⟨s1, s2, s3, s4, s5, s6, s7, s8⟩ := c_adv_spec hSt hMs
  obtain ⟨r30, r31, r42, hPl, hMo⟩ := hS
  have kR := s8.1
  have hp : ∀ q, z_kd 107 q = (0, 4) ∨ z_kd 107 q = (0, 2) ∨ z_kd 107 q = (1, 256) → c_advH h 4 q = h q := fun q hq => s7 q (fun e => by rw [e] at hq; revert hq; decide) (fun e => by rw [e] at hq; revert hq; decide) (fun e => by rw [e, kR] at hq; revert hq; decide) (fun e => by rw [e, z_mo_row kR] at hq; revert hq; decide)
  have e3 := hp 3 (Or.inl rfl)
  have ep := hp pl (Or.inr (Or.inl hPl.1))
  have ep2 := hp (pl + 2) (Or.inr (Or.inr hPl.2.2.2.2.1))
  have hpl : pl = 28 ∨ pl = 38 := by
    have hk := hPl.1
    have := z_kd_spec hk (Nat.ne_of_beq_eq_false rfl)
    have hall : ∀ k : Nat, k < 107 → z_kd 107 (k : Int) = (0, 2) → k = 28 ∨ k = 38 := by decide +kernel
    have := hall pl.toNat this.2.1 (by rw [this.2.2]; exact hk)
    omega
  have ep1 : c_advH h 4 (pl + 1) = h (pl + 1) := s7 _ (by omega) (by omega) (by omega) (by omega)
  refine ⟨by rw [e3]; exact r30, by rw [e3]; exact r31, s3, ?_, ?_⟩
  · unfold c_Pl
    rw [ep, ep1, ep2]
    exact hPl
  · rw [r42] at s5
    exact s5.mo hMo kR s2
