/-! WHAT STANDS BETWEEN TWO CALLS -/
def v_S (h : z_H) : Prop := c_Ob h ∧ h 3 0 = 4 ∧ ((h 3 1 = 28 ∧ h 0 6 = 38) ∨ (h 3 1 = 38 ∧ h 0 6 = 28)) ∧ c_Pl h 28 ∧ c_Pl h 38 ∧ h 34 0 = 35 ∧ h 34 1 = 36 ∧ r_Ob h ∧ r_Pl h
def v_T (h : z_H) : Prop := c_Rd h (h 2) (h 1 1) ∧ (0 ≤ h 1 5 ∧ h 1 5 ≤ 999) ∧ h 2 = h 100 ∧ h 1 1 = h 89 16
def v_M (h : z_H) : Prop := m_ok (h 31 0, h 31 1, h 31 2, h 31 3) ∧ (∀ i, 0 ≤ i → i < 756 → 0 ≤ h 33 i ∧ h 33 i ≤ 8) ∧ (∀ u, 0 ≤ u → u < 84 → h 33 (8 * 84 + u) = 0) ∧ (∀ i, 0 ≤ i → i < 8 → 0 ≤ h 102 i ∧ h 102 i < 8) ∧ h 0 8 = h 89 17
def v_G (h : z_H) : Prop := r_Sg h ∧ g_Sg h
def v_K (h : z_H) : Prop := c_St h 4 ∧ c_St h 41 ∧ c_St h 65 ∧ c_Ms h ∧ ∀ m, z_kd 107 m = (0, 1) → 0 ≤ h m 1 ∧ h m 1 < 1048576
def v_L (h : z_H) : Prop := h 4 1 = h 89 8 ∧ (∀ i, 0 ≤ i → i < h 4 1 → g_Mo h (h 5 i) (fun r => h 94 (11 * i + r))) ∧ g_Mo h (h 4 2) (h 92)
def v_im (h : z_H) (i : Int) : Prop := (tb (h 0 7) i = false ∧ h 98 i = 0) ∨ (tb (h 0 7) i = true ∧ h 98 i = 1 ∧ h (c_img i) 1 = h 97 i ∧ (∀ j, 0 ≤ j → j < h (c_img i) 1 → g_Mo h (h (c_img i + 1) j) (fun r => h 96 (110 * i + 11 * j + r))) ∧ g_Mo h (h (c_img i) 2) (fun r => h 95 (11 * i + r)))
def v_I (h : z_H) : Prop := (0 ≤ h 0 7 ∧ h 0 7 < 4) ∧ ∀ i, 0 ≤ i → i < 2 → v_im h i
def v_N (h : z_H) : Prop := v_S h ∧ v_T h ∧ v_M h ∧ v_G h ∧ v_K h ∧ g_Pl h (h 3 1) ∧ v_L h ∧ v_I h
theorem z_kd_mom {m : Int} (h : z_kd 107 m = (0, 1)) : (6 ≤ m ∧ m ≤ 26) ∨ (43 ≤ m ∧ m ≤ 63) ∨ (67 ≤ m ∧ m ≤ 87) := by
  have h3 := z_kd_spec h (Nat.ne_of_beq_eq_false rfl)
  have hall : ∀ k : Nat, k < 107 → z_kd 107 (k : Int) = (0, 1) → (6 ≤ k ∧ k ≤ 26) ∨ (43 ≤ k ∧ k ≤ 63) ∨ (67 ≤ k ∧ k ≤ 87) := by decide +kernel
  have := hall m.toNat h3.2.1 (by rw [h3.2.2]; exact h)
  omega
theorem g_Mo.like {h h' : z_H} {o m : Int} {T T' : Int → Int} (g : g_Mo h o T) (hs : 0 ≤ h 89 4 ∧ h 89 4 ≤ 8) (l : c_Like h h' o m) (e4 : h' 89 4 = h 89 4) (t : r_TE T T') : g_Mo h' m T' := by
  obtain ⟨m1, m2, m3, mb, mt, mk, mz⟩ := g
  obtain ⟨l1, l2, l3, l4⟩ := l
  refine ⟨by rw [l1, m1, t 8 (by decide) (by decide)], by rw [l2, m2, t 9 (by decide) (by decide)], by rw [l3, m3, t 10 (by decide) (by decide)], fun p a b => ?_, mt.to t, fun s a b => ?_, fun s a b => ?_⟩
  · rw [l4 p a b, mb p a b]
    unfold r_at
    rw [e4]
    congr 1
    exact z_set_cg (fun s hs2 => by rw [t (s : Int) (by omega) (by omega)])
  · rw [t s a (by omega), t 8 (by decide) (by decide)]
    exact mk s a b
  · rw [e4] at a
    rw [t s (by omega) (by omega)]
    exact mz s a b
section FRAMES
variable {h k : z_H}
theorem v_S.fr (v : v_S h) (hc : ∀ q, q = 3 ∨ (28 ≤ q ∧ q ≤ 30) ∨ q = 32 ∨ (37 ≤ q ∧ q ≤ 40) ∨ q = 90 ∨ q = 91 → k q = h q) (h0 : ∀ j, j ≤ 6 → k 0 j = h 0 j) (h34 : ∀ j, j ≤ 1 → k 34 j = h 34 j) (h89 : ∀ j, j = 0 ∨ j = 1 ∨ j = 4 ∨ r_mut j = false → k 89 j = h 89 j) : v_S k := by
  obtain ⟨⟨a1, a2, a3, a4, a5, a6, a7, a8, a9⟩, b, c, d, e, f, g, i, j⟩ := v
  have e3 := hc 3 (by omega)
  have e28 := hc 28 (by omega)
  have e29 := hc 29 (by omega)
  have e30 := hc 30 (by omega)
  have e32 := hc 32 (by omega)
  have e37 := hc 37 (by omega)
  have e38 := hc 38 (by omega)
  have e39 := hc 39 (by omega)
  have e40 := hc 40 (by omega)
  have e90 := hc 90 (by omega)
  have e91 := hc 91 (by omega)
  refine ⟨⟨?_, ?_, ?_, ?_, ?_, ?_, ?_, ?_, ?_⟩, ?_, ?_, ?_, ?_, ?_, ?_, i.to (fun q hq => h89 q (Or.inr (Or.inr (Or.inr hq)))), j.to (h89 0 (by omega)) (h89 1 (by omega)) (h89 4 (by omega)) e90 e91⟩
  · rw [h0 _ (by decide)]; exact a1
  · rw [h0 _ (by decide)]; exact a2
  · rw [h0 _ (by decide)]; exact a3
  · rw [h0 _ (by decide)]; exact a4
  · rw [h0 _ (by decide)]; exact a5
  · rw [h0 _ (by decide)]; exact a6
  · rw [e37]; exact a7
  · rw [e37]; exact a8
  · rw [e32]; exact a9
  · rw [e3]; exact b
  · rw [e3, h0 _ (by decide)]; exact c
  · unfold c_Pl
    rw [e28, show (28 : Int) + 1 = 29 from rfl, show (28 : Int) + 2 = 30 from rfl, e29, e30]
    exact d
  · unfold c_Pl
    rw [e38, show (38 : Int) + 1 = 39 from rfl, show (38 : Int) + 2 = 40 from rfl, e39, e40]
    exact e
  · rw [h34 _ (by decide)]; exact f
  · rw [h34 _ (by decide)]; exact g
theorem v_T.fr (v : v_T h) (e2 : k 2 = h 2) (e100 : k 100 = h 100) (e1 : ∀ j, j = 0 ∨ j = 1 ∨ j = 5 → k 1 j = h 1 j) (e16 : k 89 16 = h 89 16) : v_T k := by
  unfold v_T c_Rd
  rw [e2, e100, e1 0 (by omega), e1 1 (by omega), e1 5 (by omega), e16]
  exact v
theorem v_M.fr (v : v_M h) (e31 : k 31 = h 31) (e33 : k 33 = h 33) (e102 : k 102 = h 102) (e8 : k 0 8 = h 0 8) (e17 : k 89 17 = h 89 17) : v_M k := by
  unfold v_M
  rw [e31, e33, e102, e8, e17]
  exact v
theorem v_G.fr (v : v_G h) (e35 : k 35 = h 35) (e36 : k 36 = h 36) (e99 : k 99 = h 99) (e2 : k 34 2 = h 34 2) (e14 : k 89 14 = h 89 14) : v_G k := by
  unfold v_G r_Sg g_Sg
  rw [e35, e36, e99, e2, e14]
  exact v
theorem c_St.fr {K : Int} (v : c_St h K) (e0 : k K = h K) (e1 : k (K + 1) = h (K + 1)) : c_St k K := by
  unfold c_St
  rw [e0, e1]
  exact v
theorem v_K.fr (v : v_K h) (hc : ∀ q, (4 ≤ q ∧ q ≤ 27) ∨ (41 ≤ q ∧ q ≤ 88) → k q = h q) : v_K k := by
  obtain ⟨a, b, c, d, e⟩ := v
  refine ⟨a.fr (hc _ (by omega)) (hc _ (by omega)), b.fr (hc _ (by omega)) (hc _ (by omega)), c.fr (hc _ (by omega)) (hc _ (by omega)), fun m hm => ?_, fun m hm => ?_⟩
  · have := z_kd_mom hm
    rw [hc m (by omega)]; exact d m hm
  · have := z_kd_mom hm
    rw [hc m (by omega)]; exact e m hm
theorem g_Pl.fr {pl : Int} (v : g_Pl h pl) (e0 : k pl = h pl) (e1 : k (pl + 1) = h (pl + 1)) (e2 : k (pl + 2) = h (pl + 2)) (h89 : ∀ j, j = 0 ∨ j = 1 ∨ j = 4 → k 89 j = h 89 j) (e90 : k 90 = h 90) (e91 : k 91 = h 91) : g_Pl k pl := by
  obtain ⟨a, b, c, d, e⟩ := v
  refine ⟨by rw [e0, h89 0 (by omega)]; exact a, by rw [e0, h89 1 (by omega)]; exact b, by rw [e0, h89 4 (by omega)]; exact c, fun p x y => by rw [e1, e90]; exact d p x y, fun x hx => ?_⟩
  rw [h89 4 (by omega)] at hx
  rw [e2, e x hx]
  unfold r_th
  rw [h89 4 (by omega), g_thr_eq, g_thr_eq, e91]
/-- the plan's cells -/
theorem v_S.pl (v : v_S h) : (h 3 1 = 28 ∨ h 3 1 = 38) ∧ c_Pl h (h 3 1) ∧ c_Pl h (h 0 6) := by
  obtain ⟨-, b, c, d, e, -⟩ := v
  rcases c with ⟨c1, c2⟩ | ⟨c1, c2⟩
  · rw [c1, c2]; exact ⟨Or.inl rfl, d, e⟩
  · rw [c1, c2]; exact ⟨Or.inr rfl, e, d⟩
theorem v_plfr (v : v_S h) (p : g_Pl h (h 3 1)) (hc : ∀ q, q = 3 ∨ (28 ≤ q ∧ q ≤ 30) ∨ q = 32 ∨ (37 ≤ q ∧ q ≤ 40) ∨ q = 90 ∨ q = 91 → k q = h q) (h89 : ∀ j, j = 0 ∨ j = 1 ∨ j = 4 → k 89 j = h 89 j) : g_Pl k (k 3 1) := by
  have hp := v.pl.1
  rw [hc 3 (by omega)]
  exact p.fr (hc _ (by omega)) (hc _ (by omega)) (hc _ (by omega)) h89 (hc 90 (by omega)) (hc 91 (by omega))
theorem c_St.mo {K : Int} (v : c_St h K) {i : Int} (h0 : 0 ≤ i) (h1 : i < 11) : K + 2 ≤ h (K + 1) i ∧ h (K + 1) i ≤ K + 22 := (v.2.2.2.1 i h0 h1).2
theorem v_L.fr (v : v_L h) (vk : v_K h) (hs : 0 ≤ h 89 4 ∧ h 89 4 ≤ 8) (hc : ∀ q, (4 ≤ q ∧ q ≤ 27) ∨ q = 92 ∨ q = 94 → k q = h q) (e8 : k 89 8 = h 89 8) (e4 : k 89 4 = h 89 4) : v_L k := by
  obtain ⟨a, b, c⟩ := v
  have st := vk.1
  have hp := st.2.2.2.2.2.1
  have hpr := st.2.2.2.2.2.2
  refine ⟨by rw [hc 4 (by omega), e8]; exact a, fun i h0 h1 => ?_, ?_⟩
  · rw [hc 4 (by omega)] at h1
    have hm : 4 + 2 ≤ h 5 i ∧ h 5 i ≤ 4 + 22 := st.mo h0 (by omega)
    rw [hc 5 (by omega), hc 94 (by omega)]
    exact (b i h0 h1).like hs (c_Like.cells (hc _ (by omega)) (hc _ (by omega))) e4 (r_TE.rf _)
  · have hm := st.mo hp.1 (show h 4 1 < 11 by omega)
    rw [hc 4 (by omega), hc 92 (by omega)]
    rw [hpr] at c ⊢
    exact c.like hs (c_Like.cells (hc _ (by omega)) (hc _ (by omega))) e4 (r_TE.rf _)
theorem v_im.fr {i : Int} (h0 : 0 ≤ i) (h1 : i < 2) (v : v_im h i) (vk : v_K h) (hs : 0 ≤ h 89 4 ∧ h 89 4 ≤ 8) (hc : ∀ q, (c_img i ≤ q ∧ q ≤ c_img i + 23) → k q = h q) (e95 : ∀ r, 0 ≤ r → r < 11 → k 95 (11 * i + r) = h 95 (11 * i + r)) (e96 : ∀ r, 0 ≤ r → r < 110 → k 96 (110 * i + r) = h 96 (110 * i + r)) (e97 : k 97 i = h 97 i) (e98 : k 98 i = h 98 i) (e7 : tb (k 0 7) i = tb (h 0 7) i) (e4 : k 89 4 = h 89 4) : v_im k i := by
  have st : c_St h (c_img i) := by
    unfold c_img
    split
    · exact vk.2.1
    · exact vk.2.2.1
  have hp := st.2.2.2.2.2.1
  have hpr := st.2.2.2.2.2.2
  unfold v_im
  rw [e7, e98, e97, hc (c_img i) (by omega)]
  rcases v with v | ⟨a, b, c, d, e⟩
  · exact Or.inl v
  · refine Or.inr ⟨a, b, c, fun j j0 j1 => ?_, ?_⟩
    · have hm := st.mo j0 (by omega)
      rw [hc (c_img i + 1) (by omega)]
      exact (d j j0 j1).like hs (c_Like.cells (hc _ (by omega)) (hc _ (by omega))) e4 (fun r r0 r1 => by
        show k 96 (110 * i + 11 * j + r) = h 96 (110 * i + 11 * j + r)
        have := e96 (11 * j + r) (by omega) (by omega)
        rw [show 110 * i + (11 * j + r) = 110 * i + 11 * j + r by omega] at this
        exact this)
    · have hm := st.mo hp.1 (show h (c_img i) 1 < 11 by omega)
      rw [hpr] at e ⊢
      exact e.like hs (c_Like.cells (hc _ (by omega)) (hc _ (by omega))) e4 (fun r r0 r1 => e95 r r0 r1)
theorem c_img_is (i : Int) : c_img i = 41 ∨ c_img i = 65 := by
  unfold c_img
  split
  · exact Or.inl rfl
  · exact Or.inr rfl
theorem v_I.fr (v : v_I h) (vk : v_K h) (hs : 0 ≤ h 89 4 ∧ h 89 4 ≤ 8) (hc : ∀ q, (41 ≤ q ∧ q ≤ 88) ∨ (95 ≤ q ∧ q ≤ 98) → k q = h q) (e7 : k 0 7 = h 0 7) (e4 : k 89 4 = h 89 4) : v_I k := by
  refine ⟨by rw [e7]; exact v.1, fun i h0 h1 => ?_⟩
  have := c_img_is i
  exact (v.2 i h0 h1).fr h0 h1 vk hs (fun q hq => hc q (by omega)) (fun r _ _ => by rw [hc 95 (by omega)]) (fun r _ _ => by rw [hc 96 (by omega)]) (by rw [hc 97 (by omega)]) (by rw [hc 98 (by omega)]) (by rw [e7]) e4
/-- only what is written anew at each use has changed -/
theorem v_N.scr (v : v_N h) (hc : ∀ q, q ≠ 93 → (q < 103 ∨ 106 < q) → k q = h q) : v_N k := by
  obtain ⟨s, t, m, g, kk, p, l, i⟩ := v
  have hs := s.2.2.2.2.2.2.2.2.2.2.1
  have e0 := hc 0 (by omega) (by omega)
  have e34 := hc 34 (by omega) (by omega)
  have e89 := hc 89 (by omega) (by omega)
  have e1 := hc 1 (by omega) (by omega)
  refine ⟨s.fr (fun q hq => hc q (by omega) (by omega)) (fun j _ => by rw [e0]) (fun j _ => by rw [e34]) (fun j _ => by rw [e89]), t.fr (hc _ (by omega) (by omega)) (hc _ (by omega) (by omega)) (fun j _ => by rw [e1]) (by rw [e89]), m.fr (hc _ (by omega) (by omega)) (hc _ (by omega) (by omega)) (hc _ (by omega) (by omega)) (by rw [e0]) (by rw [e89]), g.fr (hc _ (by omega) (by omega)) (hc _ (by omega) (by omega)) (hc _ (by omega) (by omega)) (by rw [e34]) (by rw [e89]), kk.fr (fun q hq => hc q (by omega) (by omega)), v_plfr s p (fun q hq => hc q (by omega) (by omega)) (fun j _ => by rw [e89]), l.fr kk hs (fun q hq => hc q (by omega) (by omega)) (by rw [e89]) (by rw [e89]), i.fr kk hs (fun q hq => hc q (by omega) (by omega)) (by rw [e0]) (by rw [e89])⟩
end FRAMES
