/-! EACH CALL, 6: images -/
section OPS
variable {h h1 h2 : z_H}
theorem v_sb {K k2 : Int} (hSt : c_St h K) (hS2 : c_St h k2) (hMs : c_Ms h) (hBr : ∀ m, z_kd 107 m = (0, 1) → 0 ≤ h m 1 ∧ h m 1 < 1048576) (hd : K + 22 < k2 ∨ k2 + 22 < K) : (∀ q, (q < K ∨ K + 24 ≤ q) → c_sbH h K k2 q = h q) ∧ c_St (c_sbH h K k2) K ∧ c_sbH h K k2 K 1 = h k2 1 ∧ c_sbH h K k2 K 2 = h (K + 1) (h k2 1) ∧ c_sbH h K k2 (K + 1) = h (K + 1) ∧ c_Ms (c_sbH h K k2) ∧ (∀ j, 0 ≤ j → j ≤ h k2 1 → c_Like h (c_sbH h K k2) (h (k2 + 1) j) (h (K + 1) j)) ∧ ∀ m, z_kd 107 m = (0, 1) → 0 ≤ c_sbH h K k2 m 1 ∧ c_sbH h K k2 m 1 < 1048576 := by
  obtain ⟨kk, rk0, kk1, hmm, hinj, hp, hpr⟩ := id hSt
  obtain ⟨lk, rl0, lk1, hml, hinjl, hpl, hprl⟩ := id hS2
  have hmk : ∀ i, 0 ≤ i → i < 11 → z_kd 107 (h (K + 1) i) = (0, 1) := fun i a b => (hmm i a b).1
  have cK : c_sbN h K k2 ((h k2 1).toNat + 1) K = z_st h K 1 (h k2 1) K := c_sbN_k kk hmk _ (by omega)
  have cK1 : c_sbH h K k2 (K + 1) = h (K + 1) := c_sbH_cell hSt hS2 (by omega) (by rw [kk1]; decide) (by rw [kk1]; decide)
  have s0 : c_sbH h K k2 K 0 = K + 1 := by
    unfold c_sbH
    rw [z_st_slot _ (by decide), cK, z_st_slot _ (by decide)]
    exact rk0
  have s1 : c_sbH h K k2 K 1 = h k2 1 := by
    unfold c_sbH
    rw [z_st_slot _ (by decide), cK, z_st_at]
  have s2 : c_sbH h K k2 K 2 = h (K + 1) (h k2 1) := by
    unfold c_sbH
    rw [z_st_at]
  have hms : c_Ms (c_sbH h K k2) := fun m hm => by
    unfold c_sbH
    rw [z_st_cell _ (z_ne_kd hm kk (by decide))]
    exact c_sbN_Ms kk hMs hmk _ (by omega) m hm
  have hlk : ∀ j, 0 ≤ j → j ≤ h k2 1 → c_Like h (c_sbH h K k2) (h (k2 + 1) j) (h (K + 1) j) := fun j a b => c_sbH_like hSt hS2 hMs hd a b
  refine ⟨fun q hq => c_sbH_mo hSt hS2 hMs hd hq, ⟨kk, s0, kk1, by rw [cK1]; exact hmm, by rw [cK1]; exact hinj, by rw [s1]; exact hpl, by rw [s2, cK1, s1]⟩, s1, s2, cK1, hms, hlk, fun m hm => ?_⟩
  by_cases e : ∃ j, 0 ≤ j ∧ j ≤ h k2 1 ∧ m = h (K + 1) j
  · obtain ⟨j, j0, j1, ej⟩ := e
    rw [ej, (hlk j j0 j1).1]
    exact hBr _ (hml j j0 (by omega)).1
  · have : c_sbH h K k2 m = h m := by
      unfold c_sbH
      rw [z_st_cell _ (z_ne_kd hm kk (by decide))]
      refine (c_sb_spec hSt hS2 hMs hd ((h k2 1).toNat + 1) (by omega)).2 m (fun j a b => ⟨fun w => e ⟨j, a, by omega, w⟩, z_ne_kd hm (z_mo_row (hmk j a (by omega))) (by decide)⟩) (z_ne_kd hm kk (by decide))
    rw [this]
    exact hBr m hm
theorem v_imst (vk : v_K h) (i : Int) : c_St h (c_img i) := by
  unfold c_img
  split
  · exact vk.2.1
  · exact vk.2.2.1
theorem r_cp_at {A i B j m : Int} (r : Int) (hr : 0 ≤ r) (hm : r < m) : r_cp h A i B j m B (j + r) = h A (i + r) := by
  unfold r_cp
  rw [z_rw_at]
  show (if j ≤ j + r ∧ j + r < j + m then h A (i + (j + r - j)) else h B (j + r)) = _
  rw [if_pos ⟨by omega, by omega⟩, show j + r - j = r by omega]
theorem r_cp_off {A i B j m : Int} (r : Int) (hr : r < j ∨ j + m ≤ r) : r_cp h A i B j m B r = h B r := by
  unfold r_cp
  rw [z_rw_at]
  show (if j ≤ r ∧ r < j + m then h A (i + (r - j)) else h B r) = _
  rw [if_neg (by omega)]
theorem v_keep (v : v_N h) {i : Int} (hi : z_R i) : v_Op mX9_keep mX10_keep [(0, i)] 0 h := by
  obtain ⟨vs, vt, vm, vg, vk, vp, vl, vi⟩ := id v
  have hs := v.sc.2
  refine ⟨_, ct_X9_keep v.ob v.sc.1 vk.1 (fun j _ _ => v_imst vk j) vk.2.2.2.1 hi, fun r h1 hp => ?_⟩
  rcases hp with ⟨a, e1, e2⟩ | ⟨a, e1, e2⟩
  · refine ⟨_, _, e1, by rw [e2]; exact ct_X10_keep v.rob v.rpl v.rmt hi, fun r3 h3 hq => ?_⟩
    rcases hq with ⟨w, f1, f2⟩ | ⟨w, -⟩
    · exact ⟨by rw [f1, e1], by rw [f2]; exact v⟩
    · exact absurd w a
  · have hK := c_img_is i
    obtain ⟨b1, b2, b3, b4, b5, b6, b7, b8⟩ := v_sb (v_imst vk i) vk.1 vk.2.2.2.1 vk.2.2.2.2 (by omega)
    have c0 : h1 0 = fun r => if r = 7 then z_or (h 0 7) (z_shl 1 i) else h 0 r := by rw [e2, c_keepH, z_st_row, b1 0 (by omega)]
    have cq : ∀ q, q ≠ 0 → h1 q = c_sbH h (c_img i) 4 q := fun q hq => by rw [e2, c_keepH, z_st_cell _ hq]
    have q1 : ∀ q, q ≠ 0 → (q < c_img i ∨ c_img i + 24 ≤ q) → h1 q = h q := fun q hq hw => by rw [cq q hq, b1 q hw]
    have hRf : v_Rf h h1 := ⟨q1 _ (by decide) (by omega), q1 _ (by decide) (by omega), q1 _ (by decide) (by omega), q1 _ (by decide) (by omega)⟩
    have hh := hRf.ob v
    refine ⟨_, _, e1, ct_X10_keep hh.1 hh.2.1 hh.2.2.1 hi, fun r3 h3 hq => ?_⟩
    rw [hRf.2.2.2] at hq
    rcases hq with ⟨w, -⟩ | ⟨-, f1, f2⟩
    · exact absurd a w
    · have fq : ∀ q, (q < 95 ∨ 98 < q) → h3 q = h1 q := fun q hq => by rw [f2, r_keepH, z_st_cell _ (by omega), z_st_cell _ (by omega), r_cp_ne (by omega), r_cp_ne (by omega)]
      have g95 : h3 95 = r_cp h1 92 0 95 (11 * i) 11 95 := by rw [f2, r_keepH, z_st_cell _ (by decide), z_st_cell _ (by decide), r_cp_ne (by decide)]
      have g96 : h3 96 = r_cp (r_cp h1 92 0 95 (11 * i) 11) 94 0 96 (110 * i) 110 96 := by rw [f2, r_keepH, z_st_cell _ (by decide), z_st_cell _ (by decide)]
      have g97 : ∀ r, h3 97 r = if r = i then h 89 8 else h 97 r := fun r => by
        rw [f2, r_keepH, z_st_cell _ (by decide), z_st_row, r_cp_ne (by decide), r_cp_ne (by decide), q1 97 (by decide) (by omega), hRf.1]
      have g98 : ∀ r, h3 98 r = if r = i then 1 else h 98 r := fun r => by
        rw [f2, r_keepH, z_st_row, z_st_cell _ (by decide), r_cp_ne (by decide), r_cp_ne (by decide), q1 98 (by decide) (by omega)]
      have s95 : ∀ r, 0 ≤ r → r < 11 → h3 95 (11 * i + r) = h 92 r := fun r r0 r1 => by
        rw [g95, r_cp_at r r0 r1, hRf.2.2.2, Int.zero_add]
      have s96 : ∀ r, 0 ≤ r → r < 110 → h3 96 (110 * i + r) = h 94 r := fun r r0 r1 => by
        rw [g96, r_cp_at r r0 r1, r_cp_ne (by decide), q1 94 (by decide) (by omega), Int.zero_add]
      have fh : ∀ q, q ≠ 0 → (q < c_img i ∨ c_img i + 24 ≤ q) → (q < 95 ∨ 98 < q) → h3 q = h q := fun q k1 k2 k3 => by rw [fq q k3, q1 q k1 k2]
      have f0 : ∀ j, j ≠ 7 → h3 0 j = h 0 j := fun j hj => by
        rw [fq 0 (by omega), c0]
        show (if j = 7 then z_or (h 0 7) (z_shl 1 i) else h 0 j) = _
        rw [if_neg hj]
      have f07 : h3 0 7 = z_or (h 0 7) (z_shl 1 i) := by
        rw [fq 0 (by omega), c0]
        show (if (7 : Int) = 7 then z_or (h 0 7) (z_shl 1 i) else h 0 7) = _
        rw [if_pos rfl]
      have f89 : h3 89 = h 89 := fh 89 (by decide) (by omega) (by omega)
      have fS : ∀ q, 41 ≤ q → q ≤ 88 → h3 q = c_sbH h (c_img i) 4 q := fun q k1 k2 => by rw [fq q (by omega), cq q (by omega)]
      have htb : ∀ j, 0 ≤ j → tb (h3 0 7) j = (tb (h 0 7) j || decide (i = j)) := fun j hj => by
        rw [f07]
        exact tb_or vi.1.1 (by have := vi.1; omega) a.1 (by omega) hj
      refine ⟨by rw [f1, e1, v.gm.1], vs.fr (fun q hq => fh q (by omega) (by omega) (by omega)) (fun j hj => f0 j (by omega)) (fun j _ => by rw [fh 34 (by decide) (by omega) (by omega)]) (fun j _ => by rw [f89]), vt.fr (fh _ (by decide) (by omega) (by omega)) (fh _ (by decide) (by omega) (by omega)) (fun j _ => by rw [fh 1 (by decide) (by omega) (by omega)]) (by rw [f89]), vm.fr (fh _ (by decide) (by omega) (by omega)) (fh _ (by decide) (by omega) (by omega)) (fh _ (by decide) (by omega) (by omega)) (f0 8 (by decide)) (by rw [f89]), vg.fr (fh _ (by decide) (by omega) (by omega)) (fh _ (by decide) (by omega) (by omega)) (fh _ (by decide) (by omega) (by omega)) (by rw [fh 34 (by decide) (by omega) (by omega)]) (by rw [f89]), ⟨vk.1.fr (fh _ (by decide) (by omega) (by omega)) (fh _ (by decide) (by omega) (by omega)), ?_, ?_, fun m hm => ?_, fun m hm => ?_⟩, v_plfr vs vp (fun q hq => fh q (by omega) (by omega) (by omega)) (fun j hj => by rw [f89]), vl.fr vk hs (fun q hq => fh q (by omega) (by omega) (by omega)) (by rw [f89]) (by rw [f89]), ⟨?_, fun j j0 j1 => ?_⟩⟩
      · by_cases w : c_img i = 41
        · rw [w] at b2
          exact b2.fr (by rw [fS 41 (by decide) (by decide), w]) (by show h3 42 = c_sbH h 41 4 42; rw [fS 42 (by decide) (by decide), w])
        · exact vk.2.1.fr (fh _ (by decide) (by omega) (by omega)) (fh _ (by decide) (by omega) (by omega))
      · by_cases w : c_img i = 65
        · rw [w] at b2
          exact b2.fr (by rw [fS 65 (by decide) (by decide), w]) (by show h3 66 = c_sbH h 65 4 66; rw [fS 66 (by decide) (by decide), w])
        · exact vk.2.2.1.fr (fh _ (by decide) (by omega) (by omega)) (fh _ (by decide) (by omega) (by omega))
      · have := z_kd_mom hm
        rw [fq m (by omega), cq m (by omega)]; exact b6 m hm
      · have := z_kd_mom hm
        rw [fq m (by omega), cq m (by omega)]; exact b8 m hm
      · rw [f07]
        obtain ⟨x, hx⟩ := Int.eq_ofNat_of_zero_le vi.1.1
        have hx4 := vi.1.2
        rw [hx] at hx4 ⊢
        have hb : (2 : Nat) ^ i.toNat < 2 ^ 2 := Nat.pow_lt_pow_right (by decide) (by omega)
        rw [z_shl1 a.1 (by omega), z_or_nat (by omega) (by omega)]
        have : x ||| 2 ^ i.toNat < 2 ^ 2 := Nat.or_lt_two_pow (by omega) hb
        omega
      · by_cases w : j = i
        · subst w
          refine Or.inr ⟨by rw [htb j j0, decide_eq_true rfl, Bool.or_true], by rw [g98, if_pos rfl], ?_, fun t t0 t1 => ?_, ?_⟩
          · rw [fS _ (by omega) (by omega), b3, g97, if_pos rfl, vl.1]
          · rw [fS _ (by omega) (by omega), b3] at t1
            have hm := (v_imst vk j).mo t0 (by have := vk.1.2.2.2.2.2.1; omega)
            rw [fS (c_img j + 1) (by omega) (by omega), b5]
            exact (vl.2.1 t t0 t1).like hs ((b7 t t0 (by omega)).tr (c_Like.cells (fS _ (by omega) (by omega)) (fS _ (by omega) (by omega)))) (by rw [f89]) (fun r r0 r1 => by
              have hp9 := vk.1.2.2.2.2.2.1
              show h3 96 (110 * j + 11 * t + r) = h 94 (11 * t + r)
              rw [show 110 * j + 11 * t + r = 110 * j + (11 * t + r) by omega, s96 _ (by omega) (by omega)])
          · rw [fS _ (by omega) (by omega), b4]
            have hp9 := vk.1.2.2.2.2.2.1
            have hm := (v_imst vk j).mo hp9.1 (show h 4 1 < 11 by omega)
            have l := b7 (h 4 1) hp9.1 (Int.le_refl _)
            rw [show h (4 + 1) (h 4 1) = h 4 2 from vk.1.2.2.2.2.2.2.symm] at l
            exact vl.2.2.like hs (l.tr (c_Like.cells (fS _ (by omega) (by omega)) (fS _ (by omega) (by omega)))) (by rw [f89]) (fun r r0 r1 => s95 r r0 r1)
        · have hj : c_img j + 24 ≤ c_img i ∨ c_img i + 24 ≤ c_img j := by
            have : (i = 0 ∧ j = 1) ∨ (i = 1 ∧ j = 0) := by omega
            rcases this with ⟨rfl, rfl⟩ | ⟨rfl, rfl⟩ <;> decide
          have hKj := c_img_is j
          exact (vi.2 j j0 j1).fr j0 j1 vk hs (fun q hq => fh q (by omega) (by omega) (by omega)) (fun r r0 r1 => by rw [g95, r_cp_off _ (by omega), q1 95 (by decide) (by omega)]) (fun r r0 r1 => by rw [g96, r_cp_off _ (by omega), r_cp_ne (by decide), q1 96 (by decide) (by omega)]) (by rw [g97, if_neg w]) (by rw [g98, if_neg w]) (by rw [htb j j0, decide_eq_false (fun e => w e.symm), Bool.or_false]) (by rw [f89])
theorem v_back (v : v_N h) {i : Int} (hi : z_R i) : v_Op mX9_back mX10_back [(0, i)] 0 h := by
  obtain ⟨vs, vt, vm, vg, vk, vp, vl, vi⟩ := id v
  have hs := v.sc.2
  have hKp : ∀ j, 0 ≤ j → j < 2 → h 98 j = 0 ∨ h 98 j = 1 := fun j j0 j1 => by
    rcases vi.2 j j0 j1 with w | w
    · exact Or.inl w.2
    · exact Or.inr w.2.1
  have hIb : 0 ≤ i → i < 2 → ¬ h 98 i = 0 → 0 ≤ h 95 (11 * i + 8) ∧ h 95 (11 * i + 8) < 1048576 := fun i0 i1 n => by
    rcases vi.2 i i0 i1 with w | ⟨-, -, -, -, w⟩
    · exact absurd w.2 n
    · exact w.2.2.2.2.1.2.1
  refine ⟨_, ct_X9_back v.ob v.sc.1 vk.1 (fun j _ _ => v_imst vk j) vk.2.2.2.1 vk.2.2.2.2 hi, fun r h1 hp => ?_⟩
  rcases hp with ⟨a, e1, e2⟩ | ⟨a, ⟨b, e1, e2⟩ | ⟨b, e1, e2⟩⟩
  · refine ⟨_, _, e1, by rw [e2]; exact ct_X10_back v.rob hi hKp hIb, fun r3 h3 hq => ?_⟩
    rcases hq with ⟨w, f1, f2⟩ | ⟨w, -⟩
    · exact ⟨by rw [f1, e1], by rw [f2]; exact v⟩
    · exact absurd w a
  · refine ⟨_, _, e1, by rw [e2]; exact ct_X10_back v.rob hi hKp hIb, fun r3 h3 hq => ?_⟩
    rw [z_bit vi.1.1 (by have := vi.1; omega) a.1 (by omega)] at b
    have b' : tb (h 0 7) i = false := by
      cases e : tb (h 0 7) i with
      | false => rfl
      | true => rw [e] at b; exact absurd b (by decide)
    rcases hq with ⟨w, -⟩ | ⟨-, ⟨w, f1, f2⟩ | ⟨w, -⟩⟩
    · exact absurd a w
    · exact ⟨by rw [f1, e1], by rw [f2]; exact v⟩
    · rcases vi.2 i a.1 a.2 with z | z
      · exact absurd z.2 w
      · rw [b'] at z; exact absurd z.1 (by decide)
  · rw [z_bit vi.1.1 (by have := vi.1; omega) a.1 (by omega)] at b
    have b' : tb (h 0 7) i = true := by
      cases e : tb (h 0 7) i with
      | true => rfl
      | false => rw [e] at b; exact absurd rfl b
    obtain ⟨-, i98, i97, ip, ipr⟩ : tb (h 0 7) i = true ∧ h 98 i = 1 ∧ h (c_img i) 1 = h 97 i ∧ (∀ j, 0 ≤ j → j < h (c_img i) 1 → g_Mo h (h (c_img i + 1) j) (fun r => h 96 (110 * i + 11 * j + r))) ∧ g_Mo h (h (c_img i) 2) (fun r => h 95 (11 * i + r)) := by
      rcases vi.2 i a.1 a.2 with z | z
      · rw [b'] at z; exact absurd z.1 (by decide)
      · exact z
    have hK := c_img_is i
    have si := v_imst vk i
    have sp := si.2.2.2.2.2.1
    have spr := si.2.2.2.2.2.2
    obtain ⟨b1, b2, b3, b4, b5, b6, b7, b8⟩ := v_sb vk.1 si vk.2.2.2.1 vk.2.2.2.2 (by omega)
    rw [← e2] at b1 b2 b3 b4 b5 b6 b7 b8
    have b7 : ∀ j, 0 ≤ j → j ≤ h (c_img i) 1 → c_Like h h1 (h (c_img i + 1) j) (h 5 j) := b7
    have b4 : h1 4 2 = h 5 (h (c_img i) 1) := b4
    have q1 : ∀ q, (q < 4 ∨ 27 < q) → h1 q = h q := fun q hq => b1 q (by omega)
    have hRf : v_Rf h h1 := ⟨q1 _ (by omega), q1 _ (by omega), q1 _ (by omega), q1 _ (by omega)⟩
    have hh := hRf.ob v
    refine ⟨_, _, e1, ct_X10_back hh.1 hi (by rw [q1 98 (by omega)]; exact hKp) (by rw [q1 98 (by omega), q1 95 (by omega)]; exact hIb), fun r3 h3 hq => ?_⟩
    rw [q1 98 (by omega), q1 95 (by omega)] at hq
    rcases hq with ⟨w, -⟩ | ⟨-, ⟨w, -⟩ | ⟨w, f1, f2⟩⟩
    · exact absurd a w
    · omega
    · have f89 : ∀ j, j ≠ 8 → h3 89 j = h 89 j := fun j hj => by rw [f2, r_backH, z_st_slot _ hj, r_cp_ne (by decide), r_cp_ne (by decide), hRf.1]
      have f8 : h3 89 8 = h 97 i := by rw [f2, r_backH, z_st_at, q1 97 (by omega)]
      have fq : ∀ q, q ≠ 89 → q ≠ 92 → q ≠ 94 → h3 q = h1 q := fun q k1 k2 k3 => by rw [f2, r_backH, z_st_cell _ k1, r_cp_ne k3, r_cp_ne k2]
      have fh : ∀ q, q ≠ 89 → q ≠ 92 → q ≠ 94 → (q < 4 ∨ 27 < q) → h3 q = h q := fun q k1 k2 k3 k4 => by rw [fq q k1 k2 k3, q1 q k4]
      have s92 : ∀ r, 0 ≤ r → r < 11 → h3 92 r = h 95 (11 * i + r) := fun r r0 r1 => by
        rw [f2, r_backH, z_st_cell _ (by decide), r_cp_ne (by decide)]
        have := r_cp_at (h := h1) (A := 95) (i := 11 * i) (B := 92) (j := 0) (m := 11) r r0 r1
        rw [Int.zero_add] at this
        rw [this, q1 95 (by omega)]
      have s94 : ∀ r, 0 ≤ r → r < 110 → h3 94 r = h 96 (110 * i + r) := fun r r0 r1 => by
        rw [f2, r_backH, z_st_cell _ (by decide)]
        have := r_cp_at (h := r_cp h1 95 (11 * i) 92 0 11) (A := 96) (i := 110 * i) (B := 94) (j := 0) (m := 110) r r0 r1
        rw [Int.zero_add] at this
        rw [this, r_cp_ne (by decide), q1 96 (by omega)]
      refine ⟨?_, vs.fr (fun q hq => fh q (by omega) (by omega) (by omega) (by omega)) (fun j _ => by rw [fh 0 (by decide) (by decide) (by decide) (by omega)]) (fun j _ => by rw [fh 34 (by decide) (by decide) (by decide) (by omega)]) (fun j hj => f89 j (fun e => by
          subst e
          rcases hj with w | w | w | w
          · exact absurd w (by decide)
          · exact absurd w (by decide)
          · exact absurd w (by decide)
          · revert w; decide)), vt.fr (fh _ (by decide) (by decide) (by decide) (by omega)) (fh _ (by decide) (by decide) (by decide) (by omega)) (fun j _ => by rw [fh 1 (by decide) (by decide) (by decide) (by omega)]) (f89 16 (by decide)), vm.fr (fh _ (by decide) (by decide) (by decide) (by omega)) (fh _ (by decide) (by decide) (by decide) (by omega)) (fh _ (by decide) (by decide) (by decide) (by omega)) (by rw [fh 0 (by decide) (by decide) (by decide) (by omega)]) (f89 17 (by decide)), vg.fr (fh _ (by decide) (by decide) (by decide) (by omega)) (fh _ (by decide) (by decide) (by decide) (by omega)) (fh _ (by decide) (by decide) (by decide) (by omega)) (by rw [fh 34 (by decide) (by decide) (by decide) (by omega)]) (f89 14 (by decide)), ⟨b2.fr (fq _ (by decide) (by decide) (by decide)) (fq _ (by decide) (by decide) (by decide)), vk.2.1.fr (fh _ (by decide) (by decide) (by decide) (by omega)) (fh _ (by decide) (by decide) (by decide) (by omega)), vk.2.2.1.fr (fh _ (by decide) (by decide) (by decide) (by omega)) (fh _ (by decide) (by decide) (by decide) (by omega)), fun m hm => ?_, fun m hm => ?_⟩, v_plfr vs vp (fun q hq => fh q (by omega) (by omega) (by omega) (by omega)) (fun j hj => f89 j (by omega)), ⟨?_, fun j j0 j1 => ?_, ?_⟩, vi.fr vk hs (fun q hq => fh q (by omega) (by omega) (by omega) (by omega)) (by rw [fh 0 (by decide) (by decide) (by decide) (by omega)]) (f89 4 (by decide))⟩
      · rw [f1, e1, ← spr, ipr.1]
      · have := z_kd_mom hm
        rw [fq m (by omega) (by omega) (by omega)]; exact b6 m hm
      · have := z_kd_mom hm
        rw [fq m (by omega) (by omega) (by omega)]; exact b8 m hm
      · rw [fq 4 (by decide) (by decide) (by decide), b3, f8, i97]
      · rw [fq 4 (by decide) (by decide) (by decide), b3] at j1
        have hm : 4 + 2 ≤ h 5 j ∧ h 5 j ≤ 4 + 22 := vk.1.mo j0 (by omega)
        have b5' : h1 5 = h 5 := b5
        rw [fq 5 (by decide) (by decide) (by decide), b5']
        exact (ip j j0 j1).like hs ((b7 j j0 (by omega)).tr (c_Like.cells (fq _ (by omega) (by omega) (by omega)) (fq _ (by omega) (by omega) (by omega)))) (f89 4 (by decide)) (fun r r0 r1 => by
          show h3 94 (11 * j + r) = h 96 (110 * i + 11 * j + r)
          rw [s94 _ (by omega) (by omega), show 110 * i + (11 * j + r) = 110 * i + 11 * j + r by omega])
      · rw [fq 4 (by decide) (by decide) (by decide), b4]
        have hm : 4 + 2 ≤ h 5 (h (c_img i) 1) ∧ h 5 (h (c_img i) 1) ≤ 4 + 22 := vk.1.mo sp.1 (by omega)
        have l := b7 (h (c_img i) 1) sp.1 (Int.le_refl _)
        rw [← spr] at l
        exact ipr.like hs (l.tr (c_Like.cells (fq _ (by omega) (by omega) (by omega)) (fq _ (by omega) (by omega) (by omega)))) (f89 4 (by decide)) (fun r r0 r1 => s92 r r0 r1)
end OPS
