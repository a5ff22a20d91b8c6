/-! EACH CALL, 10: the window -/
section OPS
variable {h : z_H}
theorem v_window (v : v_N h) : v_Op mX9_window mX10_window [] 0 h := by
  obtain ⟨vs, vt, vm, vg, vk, vp, vl, vi⟩ := id v
  obtain ⟨hRd, hv5, ht, hn⟩ := id vt
  have hs := v.sc.2
  have hpd : (h 3 1 = 28 ∧ h 0 6 = 38) ∨ (h 3 1 = 38 ∧ h 0 6 = 28) := vs.2.2.1
  have cpl := vs.pl.2.1
  have cdr := vs.pl.2.2
  obtain ⟨cPR, tOK, cOut, cr0, cr1⟩ := c_rdF_ok hRd cdr hv5
  have m0k := vk.1.2.2.2.1 0 (by decide) (by decide)
  have m0 : 6 ≤ h 5 0 ∧ h 5 0 ≤ 26 := ⟨by have := m0k.2; show 6 ≤ h (4 + 1) 0; omega, by have := m0k.2; show h (4 + 1) 0 ≤ 26; omega⟩
  have oH := cOut.tk (q := (c_rdF h (h 2) (h 1 1) (h 0 6)).2.2)
  have pH : c_Pl (c_tk (c_rdF h (h 2) (h 1 1) (h 0 6)).2.1 (c_rdF h (h 2) (h 1 1) (h 0 6)).2.2) (h 0 6) := cPR.2.1.fr (c_tk_cell _ _ (by omega)) (c_tk_cell _ _ (by omega)) (c_tk_cell _ _ (by omega))
  have h15 : 0 ≤ c_tk (c_rdF h (h 2) (h 1 1) (h 0 6)).2.1 (c_rdF h (h 2) (h 1 1) (h 0 6)).2.2 1 5 ∧ c_tk (c_rdF h (h 2) (h 1 1) (h 0 6)).2.1 (c_rdF h (h 2) (h 1 1) (h 0 6)).2.2 1 5 ≤ 999 := by rw [c_tk_5]; exact tOK.2.2.2
  have hDR : ∀ q, q = h 0 6 ∨ q = h 0 6 + 1 ∨ q = h 0 6 + 2 → c_tk (c_rdF h (h 2) (h 1 1) (h 0 6)).2.1 (c_rdF h (h 2) (h 1 1) (h 0 6)).2.2 q = (c_rdF h (h 2) (h 1 1) (h 0 6)).2.1 q := fun q hq => c_tk_cell _ _ (by omega)
  refine ⟨_, ct_X9_window v.ob hRd vs.2.1 rfl cpl.1 rfl cdr vk.1 vk.2.2.2.1 hv5, fun r h1 hp => ?_⟩
  generalize hH : c_tk (c_rdF h (h 2) (h 1 1) (h 0 6)).2.1 (c_rdF h (h 2) (h 1 1) (h 0 6)).2.2 = H at *
  have Hq : ∀ q, q ≠ 1 → q ≠ h 0 6 → q ≠ h 0 6 + 1 → q ≠ h 0 6 + 2 → H q = h q := oH.1
  rcases hp with ⟨a, e1, e2⟩ | ⟨a, e1, e2⟩
  · have e89 : h1 89 = h 89 := by rw [e2, Hq 89 (by decide) (by omega) (by omega) (by omega)]
    obtain ⟨hob, hTx, hC, ⟨k1, k2, k3⟩, mo, mp⟩ := v_rd (k := h1) v (fun j _ => by rw [e89]) (by rw [e2, Hq 100 (by decide) (by omega) (by omega) (by omega)]) (by rw [e2, Hq 102 (by decide) (by omega) (by omega) (by omega)])
    refine ⟨_, _, e1, ct_X10_window hob hTx hC, fun r3 h3 hq => ?_⟩
    rcases hq with ⟨w, f1, f2⟩ | ⟨w, -⟩
    · have fq : ∀ q, q ≠ 89 → q ≠ 101 → q ≠ 102 → h3 q = H q := fun q b1 b2 b3 => by rw [f2, r_tq_c _ _ b1, mo.1 q b1 b2 b3, e2]
      have f89 : ∀ j, ¬ (18 ≤ j ∧ j ≤ 24) → ¬ (27 ≤ j ∧ j ≤ 29) → h3 89 j = h 89 j := fun j b1 b2 => by rw [f2, r_tq_s _ _ (by omega), mo.2 j (by omega), e89]
      have fh : ∀ q, q ≠ 1 → q ≠ h 0 6 → q ≠ h 0 6 + 1 → q ≠ h 0 6 + 2 → q ≠ 89 → q ≠ 101 → q ≠ 102 → h3 q = h q := fun q b1 b2 b3 b4 b5 b6 b7 => by rw [fq q b5 b6 b7, Hq q b1 b2 b3 b4]
      have fg : ∀ q, (q = 0 ∨ (2 ≤ q ∧ q ≤ 27) ∨ (31 ≤ q ∧ q ≤ 37) ∨ (41 ≤ q ∧ q ≤ 88) ∨ (90 ≤ q ∧ q ≤ 100)) → h3 q = h q := fun q hq => fh q (by omega) (by omega) (by omega) (by omega) (by omega) (by omega) (by omega)
      have fmut : ∀ j, r_mut j = false → h3 89 j = h 89 j := fun j hj => f89 j (fun g => by
        have : r_mut j = true ∨ j = 25 ∨ j = 26 := by
          by_cases w : j ≤ 24
          · exact Or.inl (decide_eq_true (by omega))
          · omega
        rcases this with w | w | w
        · rw [w] at hj; cases hj
        · omega
        · omega) (fun g => by
        have : r_mut j = true := decide_eq_true (by omega)
        rw [this] at hj; cases hj)
      have pdr : c_Pl h3 (h 0 6) := pH.fr (fq _ (by omega) (by omega) (by omega)) (fq _ (by omega) (by omega) (by omega)) (fq _ (by omega) (by omega) (by omega))
      have ppl : c_Pl h3 (h 3 1) := cpl.fr (fh _ (by omega) (by omega) (by omega) (by omega) (by omega) (by omega) (by omega)) (fh _ (by omega) (by omega) (by omega) (by omega) (by omega) (by omega) (by omega)) (fh _ (by omega) (by omega) (by omega) (by omega) (by omega) (by omega) (by omega))
      have h30 := fg 0 (by omega)
      have h33 := fg 3 (by omega)
      have h334 := fg 34 (by omega)
      have h1j : ∀ j, h3 1 j = H 1 j := fun j => by rw [fq 1 (by decide) (by decide) (by decide)]
      refine ⟨by rw [f1, e1, k1], vs.fr2 ?_ ?_ (by rw [h33, h30]; exact hpd) (by rw [h33]) (fg 32 (by omega)) (fg 37 (by omega)) (fun j _ => by rw [h30]) (fun j _ => by rw [h334]) fmut (v.rpl.to (f89 0 (by omega) (by omega)) (f89 1 (by omega) (by omega)) (f89 4 (by omega) (by omega)) (fg 90 (by omega)) (fg 91 (by omega))), vt.fr2 ?_ ?_ ?_ ?_ ?_ ?_, ⟨by rw [fg 31 (by omega)]; exact vm.1, by rw [fg 33 (by omega)]; exact vm.2.1, by rw [fg 33 (by omega)]; exact vm.2.2.1, fun i i0 i1 => ?_, by rw [h30, f89 17 (by omega) (by omega)]; exact vm.2.2.2.2⟩, vg.fr (fg _ (by omega)) (fg _ (by omega)) (fg _ (by omega)) (by rw [h334]) (f89 14 (by omega) (by omega)), vk.fr (fun q hq => fg q (by omega)), ?_, vl.fr vk hs (fun q hq => fg q (by omega)) (f89 8 (by omega) (by omega)) (f89 4 (by omega) (by omega)), vi.fr vk hs (fun q hq => fg q (by omega)) (by rw [h30]) (f89 4 (by omega) (by omega))⟩
      · rcases hpd with ⟨z1, z2⟩ | ⟨z1, z2⟩
        · rw [← z1]; exact ppl
        · rw [← z2]; exact pdr
      · rcases hpd with ⟨z1, z2⟩ | ⟨z1, z2⟩
        · rw [← z2]; exact pdr
        · rw [← z1]; exact ppl
      · exact fg 2 (by omega)
      · exact fg 100 (by omega)
      · rw [h1j, oH.2.1]
      · rw [h1j, oH.2.2]
      · rw [h1j]; exact h15
      · exact f89 16 (by omega) (by omega)
      · rw [f2, r_tq_c _ _ (by decide)]
        exact mp.2.2.2.2.2.2.2.2 i i0 i1
      · rw [h33]
        exact vp.fr (fh _ (by omega) (by omega) (by omega) (by omega) (by omega) (by omega) (by omega)) (fh _ (by omega) (by omega) (by omega) (by omega) (by omega) (by omega) (by omega)) (fh _ (by omega) (by omega) (by omega) (by omega) (by omega) (by omega) (by omega)) (fun j hj => f89 j (by omega) (by omega)) (fg 90 (by omega)) (fg 91 (by omega))
    · have := (k2 w).2
      omega
  · obtain ⟨w1, w2, w3, w4, w5, w6, w7, w8, w9, w10, w11, w12, w13⟩ := c_win_c H (pl := h 3 1) (dr := h 0 6) m0
    obtain ⟨y0, y1, y2, y3, y4⟩ := c_win_m H (pl := h 3 1) (dr := h 0 6) m0 (by omega)
    rw [← e2] at w1 w2 w3 w4 w5 w6 w7 w8 w9 w10 w11 w12 w13 y0 y1 y2 y3 y4
    have e89 : h1 89 = h 89 := by rw [w1 89 (by decide) (by decide) (by decide) (by decide) (by decide) (by omega) (by omega), Hq 89 (by decide) (by omega) (by omega) (by omega)]
    obtain ⟨hob, hTx, hC, ⟨k1, k2, k3⟩, mo, mp⟩ := v_rd (k := h1) v (fun j _ => by rw [e89]) (by rw [w1 100 (by decide) (by decide) (by decide) (by decide) (by decide) (by omega) (by omega), Hq 100 (by decide) (by omega) (by omega) (by omega)]) (by rw [w1 102 (by decide) (by decide) (by decide) (by decide) (by decide) (by omega) (by omega), Hq 102 (by decide) (by omega) (by omega) (by omega)])
    refine ⟨_, _, e1, ct_X10_window hob hTx hC, fun r3 h3 hq => ?_⟩
    rcases hq with ⟨w, -⟩ | ⟨w, f1, f2⟩
    · have := k3 w
      omega
    · obtain ⟨gR, -⟩ := k2 w
      generalize hY : (m_rdF h1 (h 2) (h 1 1)).2.2.1 = Y at *
      generalize hG : r_tq Y (m_rdF h1 (h 2) (h 1 1)).2.2.2 = G at *
      have Gq : ∀ q, q ≠ 89 → G q = Y q := fun q hq => by rw [← hG]; exact r_tq_c _ _ hq
      have Gs : ∀ j, ¬ (18 ≤ j ∧ j ≤ 22) → G 89 j = Y 89 j := fun j hj => by rw [← hG]; exact r_tq_s _ _ hj
      obtain ⟨n1, n2, n3, n4, n5, n6, n7, n8, n9, n10, n11, n12, n13⟩ := m_win_c G
      rw [← f2] at n1 n2 n3 n4 n5 n6 n7 n8 n9 n10 n11 n12 n13
      have fq : ∀ q, q ≠ 89 → q ≠ 90 → q ≠ 91 → q ≠ 92 → q ≠ 98 → q ≠ 101 → q ≠ 102 → h3 q = h1 q := fun q b1 b2 b3 b4 b5 b6 b7 => by rw [n1 q b1 b2 b3 b4 b5, Gq q b1, mo.1 q b1 b6 b7]
      have f89 : ∀ j, j ≠ 0 → j ≠ 1 → j ≠ 4 → j ≠ 8 → j ≠ 14 → j ≠ 16 → ¬ (18 ≤ j ∧ j ≤ 24) → ¬ (27 ≤ j ∧ j ≤ 29) → h3 89 j = h 89 j := fun j b1 b2 b3 b4 b5 b6 b7 b8 => by rw [n2 j b1 b2 b3 b4 b5 b6, Gs j (by omega), mo.2 j (by omega), e89]
      have fmut : ∀ j, r_mut j = false → h3 89 j = h 89 j := fun j hj => by
        have hx : ¬ (j = 0 ∨ j = 1 ∨ j = 4 ∨ j = 8 ∨ j = 14 ∨ (16 ≤ j ∧ j ≤ 24) ∨ (27 ≤ j ∧ j ≤ 29)) := of_decide_eq_false hj
        exact f89 j (by omega) (by omega) (by omega) (by omega) (by omega) (by omega) (by omega) (by omega)
      have fc : ∀ q, q < 89 → h3 q = h1 q := fun q hq => fq q (by omega) (by omega) (by omega) (by omega) (by omega) (by omega) (by omega)
      have fH : ∀ q, q < 89 → q ≠ 0 → q ≠ 1 → q ≠ 3 → q ≠ 4 → q ≠ 34 → q ≠ h 5 0 → q ≠ h 5 0 + 1 → h3 q = H q := fun q b0 b1 b2 b3 b4 b5 b6 b7 => by rw [fc q b0, w1 q b1 b2 b3 b4 b5 b6 b7]
      have fh : ∀ q, q < 89 → q ≠ 0 → q ≠ 1 → q ≠ 3 → q ≠ 4 → q ≠ 34 → q ≠ h 5 0 → q ≠ h 5 0 + 1 → q ≠ h 0 6 → q ≠ h 0 6 + 1 → q ≠ h 0 6 + 2 → h3 q = h q := fun q b0 b1 b2 b3 b4 b5 b6 b7 b8 b9 b10 => by rw [fH q b0 b1 b2 b3 b4 b5 b6 b7, Hq q b2 b8 b9 b10]
      have fg : ∀ q, (q = 2 ∨ (31 ≤ q ∧ q ≤ 33) ∨ (35 ≤ q ∧ q ≤ 37) ∨ (41 ≤ q ∧ q ≤ 88)) → h3 q = h q := fun q hq => fh q (by omega) (by omega) (by omega) (by omega) (by omega) (by omega) (by omega) (by omega) (by omega) (by omega) (by omega)
      have f5 : h3 5 = h 5 := fh 5 (by decide) (by decide) (by decide) (by decide) (by decide) (by decide) (by omega) (by omega) (by omega) (by omega) (by omega)
      have H0 : H 0 = h 0 := Hq 0 (by decide) (by omega) (by omega) (by omega)
      have H3 : H 3 = h 3 := Hq 3 (by decide) (by omega) (by omega) (by omega)
      have H4 : H 4 = h 4 := Hq 4 (by decide) (by omega) (by omega) (by omega)
      have H34 : H 34 = h 34 := Hq 34 (by decide) (by omega) (by omega) (by omega)
      have f31 : h3 3 1 = h 0 6 := by rw [fc 3 (by decide)]; exact w8
      have f06 : h3 0 6 = h 3 1 := by rw [fc 0 (by decide)]; exact w3
      have pdr : c_Pl h3 (h 0 6) := pH.fr (fH _ (by omega) (by omega) (by omega) (by omega) (by omega) (by omega) (by omega) (by omega)) (fH _ (by omega) (by omega) (by omega) (by omega) (by omega) (by omega) (by omega) (by omega)) (fH _ (by omega) (by omega) (by omega) (by omega) (by omega) (by omega) (by omega) (by omega))
      have ppl : c_Pl h3 (h 3 1) := cpl.fr (fh _ (by omega) (by omega) (by omega) (by omega) (by omega) (by omega) (by omega) (by omega) (by omega) (by omega) (by omega)) (fh _ (by omega) (by omega) (by omega) (by omega) (by omega) (by omega) (by omega) (by omega) (by omega) (by omega) (by omega)) (fh _ (by omega) (by omega) (by omega) (by omega) (by omega) (by omega) (by omega) (by omega) (by omega) (by omega) (by omega))
      obtain ⟨mO, mX, m23, m24, m27, m28, m29, m101, m102⟩ := mp
      obtain ⟨g1, g2, g3, g4, g5, g6, g7⟩ := gR
      have dcell : ∀ q, q = h 0 6 ∨ q = h 0 6 + 1 ∨ q = h 0 6 + 2 → h3 q = (c_rdF h (h 2) (h 1 1) (h 0 6)).2.1 q := fun q hq => by rw [fH q (by omega) (by omega) (by omega) (by omega) (by omega) (by omega) (by omega) (by omega), hDR q hq]
      have hH5 : H (h 0 6) 5 = if G 89 28 = -9 then 12 else G 89 28 := by
        rw [hDR _ (Or.inl rfl), Gs 28 (by omega)]
        rcases g4 with ⟨-, z1, z2⟩ | ⟨-, z1, z2⟩
        · rw [if_pos z1, z2]
        · rw [if_neg z1, z2]
      have hH6 : H (h 0 6) 6 = if G 89 29 = -9 then 0 else G 89 29 := by
        rw [hDR _ (Or.inl rfl), Gs 29 (by omega)]
        rcases g5 with ⟨-, z1, z2⟩ | ⟨-, z1, z2⟩
        · rw [if_pos z1, z2]
        · rw [if_neg z1, z2]
      have r59 : 1 ≤ H (h 0 6) 5 ∧ H (h 0 6) 5 ≤ 12 := by rw [hDR _ (Or.inl rfl)]; exact cPR.2.2.2.2.1
      have r60 : 0 ≤ H (h 0 6) 6 ∧ H (h 0 6) 6 ≤ 3 := by rw [hDR _ (Or.inl rfl)]; exact cPR.2.2.2.2.2
      have e4 : h3 89 4 = Y 89 27 := by rw [n5, Gs 27 (by omega)]
      have rp : r_Pl h3 := by
        refine ⟨by rw [n3, Gs 23 (by omega)]; exact m23, by rw [n4, Gs 24 (by omega)]; exact m24, by rw [e4]; exact m27, fun p p0 p1 => ?_, fun p p0 p1 => ?_⟩
        · rw [n11 p p0 p1, Gq 101 (by decide)]; exact m101 p p0 p1
        · rw [n12 p p0 p1, Gq 102 (by decide)]; exact m102 p p0 p1
      have hm4 : h3 4 2 = h 5 0 := by rw [fc 4 (by decide)]; exact w11
      have T8 : h3 92 8 = 0 := by rw [n13]; rfl
      have T9 : h3 92 9 = H (h 0 6) 5 := by rw [n13, hH5]; rfl
      have T10 : h3 92 10 = H (h 0 6) 6 := by rw [n13, hH6]; rfl
      have Ts : ∀ s, 0 ≤ s → s < 8 → h3 92 s = -9 := fun s s0 s1 => by
        rw [n13]
        unfold r_beg
        rw [if_pos ⟨s0, s1⟩]
      refine ⟨by rw [f1, e1, k1], vs.fr2 ?_ ?_ (by rw [f31, f06]; omega) (by rw [fc 3 (by decide), w7 0 (by decide), H3]) (fg 32 (by omega)) (fg 37 (by omega)) (fun j hj => by rw [fc 0 (by decide), w2 j (by omega) (by omega), H0]) (fun j hj => by rw [fc 34 (by decide), w12 j (by omega), H34]) fmut rp, ⟨⟨?_, rfl, rfl, ?_, ?_⟩, ?_, ?_, ?_⟩, ⟨by rw [fg 31 (by omega)]; exact vm.1, by rw [fg 33 (by omega)]; exact vm.2.1, by rw [fg 33 (by omega)]; exact vm.2.2.1, fun i i0 i1 => ?_, ?_⟩, ⟨⟨by rw [n8]; omega, fun i i0 i1 => by rw [n8] at i1; omega⟩, by rw [fc 34 (by decide), w13, n8], fun i i0 i1 => by rw [n8] at i1; omega⟩, ⟨?_, vk.2.1.fr (fg _ (by omega)) (fg _ (by omega)), vk.2.2.1.fr (fg _ (by omega)) (fg _ (by omega)), fun m hm => ?_, fun m hm => ?_⟩, ?_, ⟨by rw [fc 4 (by decide), w10, n7], fun i i0 i1 => ?_, ?_⟩, ⟨by rw [fc 0 (by decide), w4]; omega, fun i i0 i1 => ?_⟩⟩
      · rcases hpd with ⟨z1, z2⟩ | ⟨z1, z2⟩
        · rw [← z1]; exact ppl
        · rw [← z2]; exact pdr
      · rcases hpd with ⟨z1, z2⟩ | ⟨z1, z2⟩
        · rw [← z2]; exact pdr
        · rw [← z1]; exact ppl
      · rw [fc 1 (by decide), w5 0 (by decide), oH.2.1]; exact hRd.1
      · rw [fc 1 (by decide), w6]; omega
      · rw [fg 2 (by omega)]; exact hRd.2.2.2.2
      · rw [fc 1 (by decide), w5 5 (by decide)]; exact h15
      · rw [fg 2 (by omega), fq 100 (by decide) (by decide) (by decide) (by decide) (by decide) (by decide) (by decide), w1 100 (by decide) (by decide) (by decide) (by decide) (by decide) (by omega) (by omega), Hq 100 (by decide) (by omega) (by omega) (by omega)]; exact ht
      · rw [fc 1 (by decide), w6, n6]
      · rw [n1 102 (by decide) (by decide) (by decide) (by decide) (by decide), Gq 102 (by decide)]; exact m102 i i0 i1
      · rw [fc 0 (by decide), w2 8 (by decide) (by decide), H0, f89 17 (by decide) (by decide) (by decide) (by decide) (by decide) (by decide) (by omega) (by omega)]; exact vm.2.2.2.2
      · obtain ⟨s1, s2, s3, s4, s5, s6, s7⟩ := vk.1
        unfold c_St
        rw [show (4 : Int) + 1 = 5 from rfl, f5, hm4, fc 4 (by decide), w10, w9 0 (by decide) (by decide), H4]
        exact ⟨s1, s2, s3, s4, s5, by omega, rfl⟩
      · have hmm := z_kd_mom hm
        by_cases z : m = h 5 0
        · rw [z, fc _ (by omega), y0, Hq _ (by omega) (by omega) (by omega) (by omega)]
          rw [z] at hm
          exact vk.2.2.2.1 _ hm
        · rw [fh m (by omega) (by omega) (by omega) (by omega) (by omega) (by omega) z (z_ne_kd hm (z_mo_row m0k.1) (by decide)) (by omega) (by omega) (by omega)]
          exact vk.2.2.2.1 m hm
      · have hmm := z_kd_mom hm
        by_cases z : m = h 5 0
        · rw [z, fc _ (by omega), y1]; omega
        · rw [fh m (by omega) (by omega) (by omega) (by omega) (by omega) (by omega) z (z_ne_kd hm (z_mo_row m0k.1) (by decide)) (by omega) (by omega) (by omega)]
          exact vk.2.2.2.2 m hm
      · rw [f31]
        refine ⟨by rw [dcell _ (Or.inl rfl), g1, n3, Gs 23 (by omega)], by rw [dcell _ (Or.inl rfl), g2, n4, Gs 24 (by omega)], by rw [dcell _ (Or.inl rfl), g3, e4], fun p p0 p1 => ?_, fun x hx => ?_⟩
        · rw [dcell _ (Or.inr (Or.inl rfl)), g6 p p0 p1, n11 p p0 p1, Gq 101 (by decide)]
        · rw [e4] at hx
          rw [dcell _ (Or.inr (Or.inr rfl)), g7 x hx]
          unfold r_th
          rw [e4, g_thr_eq]
          exact g_thr_cg (fun i hi => ⟨rfl, by rw [n12 (i : Int) (by omega) (by omega), Gq 102 (by decide)]⟩)
      · rw [fc 4 (by decide), w10] at i1
        omega
      · rw [hm4]
        refine ⟨by rw [fc _ (by omega), y1, T8], by rw [fc _ (by omega), y2, T9], by rw [fc _ (by omega), y3, T10], fun p p0 p1 => ?_, ⟨fun s s0 s1 => Or.inl (Ts s s0 s1), by rw [T8]; omega, by rw [T9]; exact r59, by rw [T10]; exact r60⟩, fun s s0 s1 z => absurd (Ts s s0 s1) z, fun s s0 s1 => Ts s (by have := rp.2.2.1; omega) s1⟩
        rw [fc _ (by omega), y4 p p0 p1]
        have : r_at h3 (h3 92) p = 0 := z_set_0 (fun s hs2 => decide_eq_false (by
          rw [Ts (s : Int) (by omega) (by have := rp.2.2.1; omega)]
          omega))
        rw [this]
        rfl
      · refine Or.inl ⟨?_, ?_⟩
        · rw [fc 0 (by decide), w4, tb_0]
        · have : i = 0 ∨ i = 1 := by omega
          rcases this with rfl | rfl
          · exact n9
          · exact n10
end OPS
