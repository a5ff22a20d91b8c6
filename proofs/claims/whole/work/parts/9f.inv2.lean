/-! WHAT STANDS, behind an advance -/
theorem v_N.sc {h : z_H} (v : v_N h) : c_Sc h (h 3 1) (h 4 2) ∧ 0 ≤ h 89 4 ∧ h 89 4 ≤ 8 := by
  obtain ⟨s, t, m, g, kk, p, l, i⟩ := v
  have hs := s.2.2.2.2.2.2.2.2.2.2.1
  have st := kk.1
  have hp := st.2.2.2.2.2.1
  have hpr := st.2.2.2.2.2.2
  have km := (st.2.2.2.1 (h 4 1) hp.1 (by omega)).1
  rw [← hpr] at km
  obtain ⟨m1, m2, m3, mb, mt, mk, mz⟩ := l.2.2
  refine ⟨⟨s.2.1, rfl, rfl, s.pl.2.1, km, kk.2.2.2.1 _ km, z_mo_row km, ?_, ?_, ?_, fun q a b => ?_⟩, hs⟩
  · rw [m1]; exact mt.2.1
  · rw [m2]; exact mt.2.2.1
  · rw [m3]; exact mt.2.2.2
  · rw [mb q a b]
    have := r_at_lt s.2.2.2.2.2.2.2.2 (h 92) q
    omega
theorem v_adv {h h1 h2 : z_H} {R : Int} (v : v_N h) (hR : R = c_advR h 4) (hc1 : ∀ q, q ≠ R → q ≠ R + 1 → h1 q = c_advH h 4 q) (hR0 : h1 R 0 = R + 1) (hc2 : ∀ q, q ≠ 92 → h2 q = r_rem h1 q) (hM : g_Mo h2 R (h2 92)) : v_N h2 := by
  obtain ⟨vs, vt, vm, vg, vk, vp, vl, vi⟩ := id v
  have hs := vs.2.2.2.2.2.2.2.2.2.2.1
  obtain ⟨s1, s2, s3, s4, s5, s6, s7, s8⟩ := c_adv_spec vk.1 vk.2.2.2.1
  rw [← hR] at s3 s5 s7 s8
  obtain ⟨kR, R6, R26⟩ := s8
  have hp := vk.1.2.2.2.2.2.1
  have hpr := vk.1.2.2.2.2.2.2
  have hA : ∀ q, q ≠ 4 → q ≠ 5 → q ≠ R → q ≠ R + 1 → h1 q = h q := fun q a b c d => by rw [hc1 q c d, s7 q a b c d]
  have e89 : h1 89 = h 89 := hA 89 (by omega) (by omega) (by omega) (by omega)
  have e92 : h1 92 = h 92 := hA 92 (by omega) (by omega) (by omega) (by omega)
  have e94 : h1 94 = h 94 := hA 94 (by omega) (by omega) (by omega) (by omega)
  have hu : r_u h1 = r_u h := by unfold r_u; rw [e89]
  have hps : r_pst h1 = r_pst h := by
    funext r
    unfold r_pst
    rw [hu, e89, e92, e94]
  have hB : ∀ q, q ≠ 92 → q ≠ 89 → q ≠ 94 → h2 q = h1 q := fun q a b c => by rw [hc2 q a, r_rem_c b c]
  have hC : ∀ q, q ≠ 92 → q ≠ 89 → q ≠ 94 → q ≠ 4 → q ≠ 5 → q ≠ R → q ≠ R + 1 → h2 q = h q := fun q a b c d e f g => by rw [hB q a b c, hA q d e f g]
  have h89 : ∀ j, j ≠ 8 → h2 89 j = h 89 j := fun j hj => by rw [hc2 89 (by decide), r_rem_s hj, e89]
  have h8 : h2 89 8 = r_u h + 1 := by rw [hc2 89 (by decide), r_rem, z_st_at, hu]
  have h94 : h2 94 = r_pst h := by rw [hc2 94 (by decide), r_rem, z_st_cell _ (by decide), z_rw_at, hps]
  have a4 : h2 4 = c_advH h 4 4 := by rw [hB 4 (by decide) (by decide) (by decide), hc1 4 (by omega) (by omega)]
  have a5 : h2 5 = c_advH h 4 5 := by rw [hB 5 (by decide) (by decide) (by decide), hc1 5 (by omega) (by omega)]
  have eu := vl.1
  have hmt : ∀ m, z_kd 107 m = (0, 1) → m ≠ R → h2 m = h m := fun m km e => hC m (fun w => by rw [w] at km; revert km; decide) (fun w => by rw [w] at km; revert km; decide) (fun w => by rw [w] at km; revert km; decide) (fun w => by rw [w] at km; revert km; decide) (fun w => by rw [w] at km; revert km; decide) e (z_ne_kd km (z_mo_row kR) (by decide))
  refine ⟨vs.fr (fun q hq => hC q (by omega) (by omega) (by omega) (by omega) (by omega) (by omega) (by omega)) (fun j _ => by rw [hC 0 (by decide) (by decide) (by decide) (by decide) (by decide) (by omega) (by omega)]) (fun j _ => by rw [hC 34 (by decide) (by decide) (by decide) (by decide) (by decide) (by omega) (by omega)]) (fun j hj => h89 j (fun e => by
      subst e
      rcases hj with w | w | w | w
      · exact absurd w (by decide)
      · exact absurd w (by decide)
      · exact absurd w (by decide)
      · revert w; decide)), vt.fr (hC 2 (by decide) (by decide) (by decide) (by decide) (by decide) (by omega) (by omega)) (hC 100 (by decide) (by decide) (by decide) (by decide) (by decide) (by omega) (by omega)) (fun j _ => by rw [hC 1 (by decide) (by decide) (by decide) (by decide) (by decide) (by omega) (by omega)]) (h89 16 (by decide)), vm.fr (hC 31 (by decide) (by decide) (by decide) (by decide) (by decide) (by omega) (by omega)) (hC 33 (by decide) (by decide) (by decide) (by decide) (by decide) (by omega) (by omega)) (hC 102 (by decide) (by decide) (by decide) (by decide) (by decide) (by omega) (by omega)) (by rw [hC 0 (by decide) (by decide) (by decide) (by decide) (by decide) (by omega) (by omega)]) (h89 17 (by decide)), vg.fr (hC 35 (by decide) (by decide) (by decide) (by decide) (by decide) (by omega) (by omega)) (hC 36 (by decide) (by decide) (by decide) (by decide) (by decide) (by omega) (by omega)) (hC 99 (by decide) (by decide) (by decide) (by decide) (by decide) (by omega) (by omega)) (by rw [hC 34 (by decide) (by decide) (by decide) (by decide) (by decide) (by omega) (by omega)]) (h89 14 (by decide)), ⟨?_, ?_, ?_, fun m hm => ?_, fun m hm => ?_⟩, v_plfr vs vp (fun q hq => hC q (by omega) (by omega) (by omega) (by omega) (by omega) (by omega) (by omega)) (fun j hj => h89 j (by omega)), ⟨?_, fun i i0 i1 => ?_, ?_⟩, vi.fr vk hs (fun q hq => hC q (by omega) (by omega) (by omega) (by omega) (by omega) (by omega) (by omega)) (by rw [hC 0 (by decide) (by decide) (by decide) (by decide) (by decide) (by omega) (by omega)]) (h89 4 (by decide))⟩
  · exact s1.fr a4 a5
  · exact vk.2.1.fr (hC _ (by decide) (by decide) (by decide) (by decide) (by decide) (by omega) (by omega)) (hC _ (by decide) (by decide) (by decide) (by decide) (by decide) (by omega) (by omega))
  · exact vk.2.2.1.fr (hC _ (by decide) (by decide) (by decide) (by decide) (by decide) (by omega) (by omega)) (hC _ (by decide) (by decide) (by decide) (by decide) (by decide) (by omega) (by omega))
  · by_cases e : m = R
    · subst e; rw [hB m (by omega) (by omega) (by omega)]; exact hR0
    · rw [hmt m hm e]; exact vk.2.2.2.1 m hm
  · by_cases e : m = R
    · subst e; rw [hM.1]; exact hM.2.2.2.2.1.2.1
    · rw [hmt m hm e]; exact vk.2.2.2.2 m hm
  · rw [a4, s4, h8]
    unfold r_u
    rw [← eu]
    split <;> split <;> omega
  · rw [a4] at i1
    have i2 : i < if h 4 1 < 10 then h 4 1 + 1 else h 4 1 := by rw [← s4]; exact i1
    have i11 : i < 11 := by
      have := s1.2.2.2.2.2.1
      omega
    have kmi := (s1.2.2.2.1 i i0 i11)
    have hne : c_advH h 4 5 i ≠ R := fun e => by
      have e2 : c_advH h 4 5 i = c_advH h 4 5 (c_advH h 4 4 1) := by rw [e]; exact s3.symm.trans s1.2.2.2.2.2.2
      have := s1.2.2.2.2.1 i (c_advH h 4 4 1) i0 i11 s1.2.2.2.2.2.1.1 (by have := s1.2.2.2.2.2.1; omega) e2
      omega
    have hli := s6 i i0 i1
    rw [show (4 : Int) + 1 = 5 from rfl] at hli kmi
    have k1 : z_kd 107 (c_advH h 4 5 i + 1) = (1, 20) := z_mo_row kmi.1
    have l2 : c_Like (c_advH h 4) h2 (c_advH h 4 5 i) (c_advH h 4 5 i) := c_Like.cells (by rw [hB _ (by omega) (by omega) (by omega), hc1 _ hne (z_ne_kd kmi.1 (z_mo_row kR) (by decide))]) (by rw [hB _ (by omega) (by omega) (by omega), hc1 _ (z_ne_kd k1 kR (by decide)) (by omega)])
    have l3 := hli.tr l2
    rw [a5, h94]
    have sl : ∀ r, 0 ≤ r → r < 11 → i < r_u h → r_pst h (11 * i + r) = if h 89 8 = 10 then h 94 (11 * i + r + 11) else h 94 (11 * i + r) := fun r r0 r1 w => by
      have hur := r_u_rng (h := h) (by rw [← eu]; exact hp)
      unfold r_pst
      rw [if_neg (c := 11 * r_u h ≤ 11 * i + r ∧ 11 * i + r < 11 * r_u h + 11) (by omega)]
      split
      · unfold r_shift
        rw [if_pos ⟨by omega, by omega⟩]
      · rfl
    have sp : ∀ r, 0 ≤ r → r < 11 → i = r_u h → r_pst h (11 * i + r) = h 92 r := fun r r0 r1 w => by
      unfold r_pst
      rw [w, if_pos ⟨by omega, by omega⟩]
      congr 1
      omega
    by_cases hc : h 4 1 < 10
    · rw [if_pos hc] at l3 i2
      have hu9 : r_u h = h 4 1 := by unfold r_u; rw [if_neg (by omega), eu]
      by_cases w : i = h 4 1
      · subst w
        rw [show h 5 (h 4 1) = h 4 2 from hpr.symm] at l3
        exact vl.2.2.like hs l3 (h89 4 (by decide)) (fun r r0 r1 => sp r r0 r1 hu9.symm)
      · exact (vl.2.1 i i0 (by omega)).like hs l3 (h89 4 (by decide)) (fun r r0 r1 => by
          show r_pst h (11 * i + r) = h 94 (11 * i + r)
          rw [sl r r0 r1 (by omega), if_neg (by omega)])
    · rw [if_neg hc] at l3 i2
      have hu9 : r_u h = 9 := by unfold r_u; rw [if_pos (by omega)]
      by_cases w : i = 9
      · subst w
        have e10 : (9 : Int) + 1 = h 4 1 := by omega
        rw [e10, show h 5 (h 4 1) = h 4 2 from hpr.symm] at l3
        exact vl.2.2.like hs l3 (h89 4 (by decide)) (fun r r0 r1 => sp r r0 r1 hu9.symm)
      · exact (vl.2.1 (i + 1) (by omega) (by omega)).like hs l3 (h89 4 (by decide)) (fun r r0 r1 => by
          show r_pst h (11 * i + r) = h 94 (11 * (i + 1) + r)
          rw [sl r r0 r1 (by omega), if_pos (by omega)]
          congr 1
          omega)
  · rw [a4, s3]
    exact hM
