/-! PaneLightModel, 9: mix -/
set_option maxHeartbeats 4000000 in
set_option maxRecDepth 100000 in
theorem ct_X10_mix {h : z_H} (hO : r_Ob h) (hP : r_Pl h) (hT : r_Mt (h 92)) {x y k c w : Int} (hx : z_R x) (hy : z_R y) (hk : z_R k) (hc : z_R c) (hw9 : z_R w) : z_Ct mX10_mix 107 [(2, 89), (0, x), (0, y), (0, k), (0, c), (0, w)] h (fun r h2 => (¬ c_mixOk x y k c w ∧ r = some (0, -1) ∧ h2 = h) ∨ (c_mixOk x y k c w ∧ r = some (0, r_mixA (r_mixQ h x y k c) w) ∧ h2 = h)) := by
  refine z_mk (L := [(2, 89), (0, x), (0, y), (0, k), (0, c), (0, w), (9, 0), (9, 0), (9, 0), (9, 0), (9, 0), (9, 0), (9, 0), (9, 0), (9, 0)]) oX10_mix.2.2.2.2 (Nat.le_of_ble_eq_true rfl) rfl ?_
  intro Γ X hQ
  obtain ⟨rb2, rb3, rb5, rb6, rb7, rb9, rb10, rb11, rb12, rb13, rb15, rb25, rb26, rb30, rb31, rb32, rb33⟩ := id hO
  obtain ⟨⟨hw1, hw2⟩, ⟨hh1, hh2⟩, ⟨hs1, hs2⟩, hgl, hco⟩ := id hP
  obtain ⟨tw, ⟨tb1, tb2⟩, ⟨tm1, tm2⟩, ⟨ts1, ts2⟩⟩ := id hT
  have kc : z_kd 107 92 = (1, 11) := rfl
  obtain ⟨hx1, hx2⟩ := hx
  obtain ⟨hy1, hy2⟩ := hy
  obtain ⟨hk1, hk2⟩ := hk
  obtain ⟨hc1, hc2⟩ := hc
  obtain ⟨hwa, hwb⟩ := hw9
  refine V_iload_n (pc := 0) X dX10_mix_0 rfl ?_
  refine V_iload_n (pc := 1) X dX10_mix_1 rfl ?_
  refine V_FS (pc := 2) X dX10_mix_2 oX10_isTile l_RX10_237 sX10_isTile ⟨Nat.le_of_ble_eq_true rfl, Nat.le_of_ble_eq_true rfl⟩ ⟨rfl, rfl⟩ ⟨Nat.le_of_ble_eq_true rfl, Nat.le_of_ble_eq_true rfl⟩ (ct_X10_isTile ⟨by omega, by omega⟩ ⟨by omega, by omega⟩) rfl (by rfl) (by exact Nat.le_of_ble_eq_true rfl) ?_
  refine V_bif_eq (pc := 5) X 36 dX10_mix_5 (by decide)  (fun c_5 => ?_) (fun c_5 => ?_)
  · skip
    refine V_iconst (pc := 36) X dX10_mix_36 ?_
    refine V_iret (st := []) (pc := 37) X hQ dX10_mix_37 rfl rfl ?_
    exact Or.inl ⟨by intro g; obtain ⟨g1, g2, g3, g4, g5⟩ := g; first | (rw [c_5] at g1; exact absurd g1 (by decide)) | (rw [c_12] at g2; exact absurd g2 (by decide)) | (rw [c_20] at g3; exact absurd g3 (by decide)) | (have := of_decide_eq_false c_33; omega), rfl, rfl⟩
  · skip
    refine V_iload_n (pc := 8) X dX10_mix_8 rfl ?_
    refine V_FS (pc := 9) X dX10_mix_9 oX10_isHour l_RX10_240 sX10_isHour ⟨Nat.le_of_ble_eq_true rfl, Nat.le_of_ble_eq_true rfl⟩ ⟨rfl, rfl⟩ ⟨Nat.le_of_ble_eq_true rfl, Nat.le_of_ble_eq_true rfl⟩ (ct_X10_isHour ⟨by omega, by omega⟩) rfl (by rfl) (by exact Nat.le_of_ble_eq_true rfl) ?_
    refine V_bif_eq (pc := 12) X 36 dX10_mix_12 (by decide)  (fun c_12 => ?_) (fun c_12 => ?_)
    · skip
      refine V_iconst (pc := 36) X dX10_mix_36 ?_
      refine V_iret (st := []) (pc := 37) X hQ dX10_mix_37 rfl rfl ?_
      exact Or.inl ⟨by intro g; obtain ⟨g1, g2, g3, g4, g5⟩ := g; first | (rw [c_5] at g1; exact absurd g1 (by decide)) | (rw [c_12] at g2; exact absurd g2 (by decide)) | (rw [c_20] at g3; exact absurd g3 (by decide)) | (have := of_decide_eq_false c_33; omega), rfl, rfl⟩
    · skip
      refine V_iload (pc := 15) X dX10_mix_15 rfl ?_
      refine V_FS (pc := 17) X dX10_mix_17 oX10_isColour l_RX10_243 sX10_isColour ⟨Nat.le_of_ble_eq_true rfl, Nat.le_of_ble_eq_true rfl⟩ ⟨rfl, rfl⟩ ⟨Nat.le_of_ble_eq_true rfl, Nat.le_of_ble_eq_true rfl⟩ (ct_X10_isColour ⟨by omega, by omega⟩) rfl (by rfl) (by exact Nat.le_of_ble_eq_true rfl) ?_
      refine V_bif_eq (pc := 20) X 36 dX10_mix_20 (by decide)  (fun c_20 => ?_) (fun c_20 => ?_)
      · skip
        refine V_iconst (pc := 36) X dX10_mix_36 ?_
        refine V_iret (st := []) (pc := 37) X hQ dX10_mix_37 rfl rfl ?_
        exact Or.inl ⟨by intro g; obtain ⟨g1, g2, g3, g4, g5⟩ := g; first | (rw [c_5] at g1; exact absurd g1 (by decide)) | (rw [c_12] at g2; exact absurd g2 (by decide)) | (rw [c_20] at g3; exact absurd g3 (by decide)) | (have := of_decide_eq_false c_33; omega), rfl, rfl⟩
      · skip
        refine V_iload (pc := 23) X dX10_mix_23 rfl ?_
        refine V_i2l (pc := 25) X dX10_mix_25 ⟨by omega, by omega⟩ ?_
        refine V_lconst (pc := 26) (z := 0) X dX10_mix_26 (by decide) ?_
        refine V_ldc2 (pc := 27) X (2) dX10_mix_27 c_RX10_250 (by decide) ?_
        refine V_FS (pc := 30) X dX10_mix_30 oX10_in l_RX10_81 sX10_in ⟨Nat.le_of_ble_eq_true rfl, Nat.le_of_ble_eq_true rfl⟩ ⟨rfl, rfl⟩ ⟨Nat.le_of_ble_eq_true rfl, Nat.le_of_ble_eq_true rfl⟩ (ct_X10_in ⟨by omega, by omega⟩ ⟨by omega, by omega⟩ ⟨by omega, by omega⟩) rfl (by rfl) (by exact Nat.le_of_ble_eq_true rfl) ?_
        refine V_bif_ne (pc := 33) X 38 dX10_mix_33 (by decide)  (fun c_33 => ?_) (fun c_33 => ?_)
        · skip
          have tb1x := of_decide_eq_true c_5
          have tb2x := of_decide_eq_true c_12
          have tb3 := of_decide_eq_true c_20
          have tb4 := of_decide_eq_true c_33
          have p1 := r_pn_rng hP (T := h 92) (x := x) (y := y) (k := k) (tn := false)
          have p2 := r_pn_rng hP (T := h 92) (x := x) (y := y) (k := k) (tn := true)
          have f1 := r_free_rng h (r_pn h (h 92) x y k false)
          have f2 := r_free_rng h (r_pn h (h 92) x y k true)
          have hal := r_at_lt hP (h 92) (-9)
          have lo1 := r_ln_rng hP (T := h 92) (x := x) (y := y) (k := k) (tn := false)
          have lt1 := r_ln_rng hP (T := h 92) (x := x) (y := y) (k := k) (tn := true)
          have hshl : z_shl 1 (h 89 4) = ((2 ^ (h 89 4).toNat : Nat) : Int) := z_shl1 hs1 (by omega)
          have hlim : 2 ^ (h 89 4).toNat ≤ 256 := Nat.le_trans (Nat.pow_le_pow_right (by decide) (by omega)) (show 2 ^ 8 ≤ 256 by decide)
          refine V_aload_n (pc := 38) X dX10_mix_38 rfl (by first | decide | omega | assumption) ?_
          refine V_aload_n (pc := 39) X dX10_mix_39 rfl (by first | decide | omega | assumption) ?_
          refine V_gz (pc := 40) X dX10_mix_40 f_RX10_23 (by first | rfl | assumption | (simp only [*]; done) | omega) 5 rfl (show _ = (92 : Int) from by first | exact rb5 | ((repeat (first | rw [z_st_at] | rw [z_st_slot _ (by decide)] | rw [z_st_cell _ (by decide)] | rw [z_rw_ne _ _ (by decide)] | rw [r_rem_s (by decide)] | rw [r_rem_c (by decide) (by decide)] | rw [r_cp_ne (by decide)])); exact rb5)) ?_
          refine V_iload_n (pc := 43) X dX10_mix_43 rfl ?_
          refine V_iload_n (pc := 44) X dX10_mix_44 rfl ?_
          refine V_iload_n (pc := 45) X dX10_mix_45 rfl ?_
          refine V_iconst (pc := 46) X dX10_mix_46 ?_
          refine V_FV (pc := 47) X dX10_mix_47 oX10_paneAt l_RX10_186 eX10_paneAt vX10_paneAt ⟨Nat.le_of_ble_eq_true rfl, Nat.le_of_ble_eq_true rfl⟩ ⟨rfl, rfl⟩ ⟨Nat.le_of_ble_eq_true rfl, Nat.le_of_ble_eq_true rfl⟩ (ct_X10_paneAt hO hP kc hT (tn := false) (by omega) (by omega) (by omega) (by omega) (by omega) (by omega)) rfl (by first | rfl | assumption | (simp only [*]; done) | omega) (by intro q h; cases h; rfl) rfl (by rfl) (by exact Nat.le_of_ble_eq_true rfl) ?_
          refine V_istore (pc := 50) X dX10_mix_50 (by exact Nat.le_of_ble_eq_true rfl) (by first | rfl | ((repeat (refine z_nl_set ?_ (by first | exact (show (0 : Nat) ≠ 1 by decide) | exact (show (2 : Nat) ≠ 1 by decide)))); first | rfl | (simp [z_nl, hz13, hz14]; done) | (simp [z_nl, hz14]; done) | (simp [z_nl, hz15]; done))) ?_
          refine V_aload_n (pc := 52) X dX10_mix_52 rfl (by first | decide | omega | assumption) ?_
          refine V_aload_n (pc := 53) X dX10_mix_53 rfl (by first | decide | omega | assumption) ?_
          refine V_gz (pc := 54) X dX10_mix_54 f_RX10_23 (by first | rfl | assumption | (simp only [*]; done) | omega) 5 rfl (show _ = (92 : Int) from by first | exact rb5 | ((repeat (first | rw [z_st_at] | rw [z_st_slot _ (by decide)] | rw [z_st_cell _ (by decide)] | rw [z_rw_ne _ _ (by decide)] | rw [r_rem_s (by decide)] | rw [r_rem_c (by decide) (by decide)] | rw [r_cp_ne (by decide)])); exact rb5)) ?_
          refine V_iload_n (pc := 57) X dX10_mix_57 rfl ?_
          refine V_iload_n (pc := 58) X dX10_mix_58 rfl ?_
          refine V_iload_n (pc := 59) X dX10_mix_59 rfl ?_
          refine V_iconst (pc := 60) X dX10_mix_60 ?_
          refine V_FV (pc := 61) X dX10_mix_61 oX10_paneAt l_RX10_186 eX10_paneAt vX10_paneAt ⟨Nat.le_of_ble_eq_true rfl, Nat.le_of_ble_eq_true rfl⟩ ⟨rfl, rfl⟩ ⟨Nat.le_of_ble_eq_true rfl, Nat.le_of_ble_eq_true rfl⟩ (ct_X10_paneAt hO hP kc hT (tn := true) (by omega) (by omega) (by omega) (by omega) (by omega) (by omega)) rfl (by first | rfl | assumption | (simp only [*]; done) | omega) (by intro q h; cases h; rfl) rfl (by rfl) (by exact Nat.le_of_ble_eq_true rfl) ?_
          refine V_istore (pc := 64) X dX10_mix_64 (by exact Nat.le_of_ble_eq_true rfl) (by first | rfl | ((repeat (refine z_nl_set ?_ (by first | exact (show (0 : Nat) ≠ 1 by decide) | exact (show (2 : Nat) ≠ 1 by decide)))); first | rfl | (simp [z_nl, hz13, hz14]; done) | (simp [z_nl, hz14]; done) | (simp [z_nl, hz15]; done))) ?_
          refine V_aload_n (pc := 66) X dX10_mix_66 rfl (by first | decide | omega | assumption) ?_
          refine V_aload_n (pc := 67) X dX10_mix_67 rfl (by first | decide | omega | assumption) ?_
          refine V_gz (pc := 68) X dX10_mix_68 f_RX10_23 (by first | rfl | assumption | (simp only [*]; done) | omega) 5 rfl (show _ = (92 : Int) from by first | exact rb5 | ((repeat (first | rw [z_st_at] | rw [z_st_slot _ (by decide)] | rw [z_st_cell _ (by decide)] | rw [z_rw_ne _ _ (by decide)] | rw [r_rem_s (by decide)] | rw [r_rem_c (by decide) (by decide)] | rw [r_cp_ne (by decide)])); exact rb5)) ?_
          refine V_bipush (pc := 71) X dX10_mix_71 (by decide) ?_
          refine V_FV (pc := 73) X dX10_mix_73 oX10_sheetsAt l_RX10_175 eX10_sheetsAt vX10_sheetsAt ⟨Nat.le_of_ble_eq_true rfl, Nat.le_of_ble_eq_true rfl⟩ ⟨rfl, rfl⟩ ⟨Nat.le_of_ble_eq_true rfl, Nat.le_of_ble_eq_true rfl⟩ (ct_X10_sheetsAt hO hP kc hT (by omega) (by omega)) rfl (by first | rfl | assumption | (simp only [*]; done) | omega) (by intro q h; cases h; rfl) rfl (by rfl) (by exact Nat.le_of_ble_eq_true rfl) ?_
          refine V_istore (pc := 76) X dX10_mix_76 (by exact Nat.le_of_ble_eq_true rfl) (by first | rfl | ((repeat (refine z_nl_set ?_ (by first | exact (show (0 : Nat) ≠ 1 by decide) | exact (show (2 : Nat) ≠ 1 by decide)))); first | rfl | (simp [z_nl, hz13, hz14]; done) | (simp [z_nl, hz14]; done) | (simp [z_nl, hz15]; done))) ?_
          refine V_ldc (pc := 78) X (1000000) dX10_mix_78 c_RX10_236 (by decide) ?_
          refine V_istore (pc := 80) X dX10_mix_80 (by exact Nat.le_of_ble_eq_true rfl) (by first | rfl | ((repeat (refine z_nl_set ?_ (by first | exact (show (0 : Nat) ≠ 1 by decide) | exact (show (2 : Nat) ≠ 1 by decide)))); first | rfl | (simp [z_nl, hz13, hz14]; done) | (simp [z_nl, hz14]; done) | (simp [z_nl, hz15]; done))) ?_
          refine V_iconst (pc := 82) X dX10_mix_82 ?_
          refine V_istore (pc := 83) X dX10_mix_83 (by exact Nat.le_of_ble_eq_true rfl) (by first | rfl | ((repeat (refine z_nl_set ?_ (by first | exact (show (0 : Nat) ≠ 1 by decide) | exact (show (2 : Nat) ≠ 1 by decide)))); first | rfl | (simp [z_nl, hz13, hz14]; done) | (simp [z_nl, hz14]; done) | (simp [z_nl, hz15]; done))) ?_
          refine V_iconst (pc := 85) X dX10_mix_85 ?_
          refine V_istore (pc := 86) X dX10_mix_86 (by exact Nat.le_of_ble_eq_true rfl) (by first | rfl | ((repeat (refine z_nl_set ?_ (by first | exact (show (0 : Nat) ≠ 1 by decide) | exact (show (2 : Nat) ≠ 1 by decide)))); first | rfl | (simp [z_nl, hz13, hz14]; done) | (simp [z_nl, hz14]; done) | (simp [z_nl, hz15]; done))) ?_
          refine V_iconst (pc := 88) X dX10_mix_88 ?_
          refine V_istore (pc := 89) X dX10_mix_89 (by exact Nat.le_of_ble_eq_true rfl) (by first | rfl | ((repeat (refine z_nl_set ?_ (by first | exact (show (0 : Nat) ≠ 1 by decide) | exact (show (2 : Nat) ≠ 1 by decide)))); first | rfl | (simp [z_nl, hz13, hz14]; done) | (simp [z_nl, hz14]; done) | (simp [z_nl, hz15]; done))) ?_
          have lp_91 : ∀ (m : Nat) (i : Nat) (z13 z14 : Nat × Int), (2 ^ (h 89 4).toNat) - i < m → i ≤ (2 ^ (h 89 4).toNat) → ¬ z13.1 = 1 → ¬ z14.1 = 1 → z_V Γ (107, 0, 0) 91 [(2, 89), (0, x), (0, y), (0, k), (0, c), (0, w), (0, (r_pn h (h 92) x y k false)), (0, (r_pn h (h 92) x y k true)), (0, ((r_at h (h 92) (-9) : Nat) : Int)), (0, (r_mxA h (r_pn h (h 92) x y k false) (r_pn h (h 92) x y k true) ((r_at h (h 92) (-9) : Nat) : Int) c (2 ^ (h 89 4).toNat) i).1), (0, (r_mxA h (r_pn h (h 92) x y k false) (r_pn h (h 92) x y k true) ((r_at h (h 92) (-9) : Nat) : Int) c (2 ^ (h 89 4).toNat) i).2.1), (0, (r_mxA h (r_pn h (h 92) x y k false) (r_pn h (h 92) x y k true) ((r_at h (h 92) (-9) : Nat) : Int) c (2 ^ (h 89 4).toNat) i).2.2), (0, (i : Int)), z13, z14] [] h := by
            intro m
            induction m with
            | zero => intro i z13 z14 hm; exact absurd hm (Nat.not_lt_zero _)
            | succ m ih_91 =>
              intro i z13 z14 hm hi1 hz13 hz14
              have hsa : r_3ok (r_mxA h (r_pn h (h 92) x y k false) (r_pn h (h 92) x y k true) ((r_at h (h 92) (-9) : Nat) : Int) c (2 ^ (h 89 4).toNat) i) := r_mxA_ok hlim i (by omega)
              obtain ⟨⟨sa1, sa2⟩, ⟨sa3, sa4⟩, ⟨sa5, sa6⟩⟩ := id hsa
              have hpi := z_pop_rng (i : Int)
              have ha1 := z_and_rngL (x := (i : Int)) (y := z_xor ((r_at h (h 92) (-9) : Nat) : Int) (-1)) (by omega) (by omega)
              have ti := r_thr_rng h (i : Int) (h 89 4).toNat
              have l1 := z_and_rngL (x := r_ln h (h 92) (r_pn h (h 92) x y k false)) (y := r_th h (i : Int)) lo1.1 (by omega)
              refine V_iload (pc := 91) X dX10_mix_91 rfl ?_
              refine V_iconst (pc := 93) X dX10_mix_93 ?_
              refine V_aload_n (pc := 94) X dX10_mix_94 rfl (by first | decide | omega | assumption) ?_
              refine V_gz (pc := 95) X dX10_mix_95 f_RX10_159 (by first | rfl | assumption | (simp only [*]; done) | omega) 4 rfl rfl ?_
              refine V_ishl (pc := 98) X dX10_mix_98 ?_
              rw [hshl]
              refine V_icmp_ge (pc := 99) X 263 dX10_mix_99 (by decide) ⟨by omega, by omega⟩ ⟨by omega, by omega⟩ (fun c_99 => ?_) (fun c_99 => ?_)
              · skip
                obtain rfl : i = (2 ^ (h 89 4).toNat) := by omega
                refine V_iload (pc := 263) X dX10_mix_263 rfl ?_
                refine V_ldc (pc := 265) X (1000000) dX10_mix_265 c_RX10_236 (by decide) ?_
                refine V_icmp_ne (pc := 267) X 275 dX10_mix_267 (by decide) ⟨by omega, by omega⟩ ⟨by omega, by omega⟩ (fun c_267 => ?_) (fun c_267 => ?_)
                · skip
                  refine V_iload (pc := 275) X dX10_mix_275 rfl ?_
                  refine V_if_ne (pc := 277) X 285 dX10_mix_277 (by decide) ⟨by omega, by omega⟩ (fun c_277 => ?_) (fun c_277 => ?_)
                  · skip
                    refine V_iload (pc := 285) X dX10_mix_285 rfl ?_
                    refine V_iconst (pc := 287) X dX10_mix_287 ?_
                    refine V_icmp_ne (pc := 288) X 296 dX10_mix_288 (by decide) ⟨by omega, by omega⟩ ⟨by omega, by omega⟩ (fun c_288 => ?_) (fun c_288 => ?_)
                    · skip
                      refine V_iload (pc := 296) X dX10_mix_296 rfl ?_
                      refine V_iret (st := []) (pc := 298) X hQ dX10_mix_298 rfl rfl ?_
                      exact Or.inr ⟨⟨c_5, c_12, c_20, tb4.1, tb4.2⟩, by show _ = some (0, r_mixA (r_mxA h (r_pn h (h 92) x y k false) (r_pn h (h 92) x y k true) ((r_at h (h 92) (-9) : Nat) : Int) c (2 ^ (h 89 4).toNat) (2 ^ (h 89 4).toNat)) w); unfold r_mixA; first | (rw [if_pos c_267]; done) | (rw [if_neg c_267, if_pos c_277]; done) | (rw [if_neg c_267, if_neg c_277, if_pos c_288]; done) | (rw [if_neg c_267, if_neg c_277, if_neg c_288]), rfl⟩
                    · skip
                      refine V_iload (pc := 291) X dX10_mix_291 rfl ?_
                      refine V_goto (pc := 293) X 298 dX10_mix_293 (by decide) ?_
                      refine V_iret (st := []) (pc := 298) X hQ dX10_mix_298 rfl rfl ?_
                      exact Or.inr ⟨⟨c_5, c_12, c_20, tb4.1, tb4.2⟩, by show _ = some (0, r_mixA (r_mxA h (r_pn h (h 92) x y k false) (r_pn h (h 92) x y k true) ((r_at h (h 92) (-9) : Nat) : Int) c (2 ^ (h 89 4).toNat) (2 ^ (h 89 4).toNat)) w); unfold r_mixA; first | (rw [if_pos c_267]; done) | (rw [if_neg c_267, if_pos c_277]; done) | (rw [if_neg c_267, if_neg c_277, if_pos c_288]; done) | (rw [if_neg c_267, if_neg c_277, if_neg c_288]), rfl⟩
                  · skip
                    refine V_iload (pc := 280) X dX10_mix_280 rfl ?_
                    refine V_goto (pc := 282) X 298 dX10_mix_282 (by decide) ?_
                    refine V_iret (st := []) (pc := 298) X hQ dX10_mix_298 rfl rfl ?_
                    exact Or.inr ⟨⟨c_5, c_12, c_20, tb4.1, tb4.2⟩, by show _ = some (0, r_mixA (r_mxA h (r_pn h (h 92) x y k false) (r_pn h (h 92) x y k true) ((r_at h (h 92) (-9) : Nat) : Int) c (2 ^ (h 89 4).toNat) (2 ^ (h 89 4).toNat)) w); unfold r_mixA; first | (rw [if_pos c_267]; done) | (rw [if_neg c_267, if_pos c_277]; done) | (rw [if_neg c_267, if_neg c_277, if_pos c_288]; done) | (rw [if_neg c_267, if_neg c_277, if_neg c_288]), rfl⟩
                · skip
                  refine V_bipush (pc := 270) X dX10_mix_270 (by decide) ?_
                  refine V_goto (pc := 272) X 298 dX10_mix_272 (by decide) ?_
                  refine V_iret (st := []) (pc := 298) X hQ dX10_mix_298 rfl rfl ?_
                  exact Or.inr ⟨⟨c_5, c_12, c_20, tb4.1, tb4.2⟩, by show _ = some (0, r_mixA (r_mxA h (r_pn h (h 92) x y k false) (r_pn h (h 92) x y k true) ((r_at h (h 92) (-9) : Nat) : Int) c (2 ^ (h 89 4).toNat) (2 ^ (h 89 4).toNat)) w); unfold r_mixA; first | (rw [if_pos c_267]; done) | (rw [if_neg c_267, if_pos c_277]; done) | (rw [if_neg c_267, if_neg c_277, if_pos c_288]; done) | (rw [if_neg c_267, if_neg c_277, if_neg c_288]), rfl⟩
              · skip
                refine V_iload (pc := 102) X dX10_mix_102 rfl ?_
                refine V_iload (pc := 104) X dX10_mix_104 rfl ?_
                refine V_iconst (pc := 106) X dX10_mix_106 ?_
                refine V_ixor (pc := 107) X dX10_mix_107 ?_
                refine V_iand (pc := 108) X dX10_mix_108 ?_
                refine V_if_ne (pc := 109) X 257 dX10_mix_109 (by decide) ⟨by omega, by omega⟩ (fun c_109 => ?_) (fun c_109 => ?_)
                · skip
                  have emA : (r_mxA h (r_pn h (h 92) x y k false) (r_pn h (h 92) x y k true) ((r_at h (h 92) (-9) : Nat) : Int) c (2 ^ (h 89 4).toNat) (i + 1)) = (r_mxA h (r_pn h (h 92) x y k false) (r_pn h (h 92) x y k true) ((r_at h (h 92) (-9) : Nat) : Int) c (2 ^ (h 89 4).toNat) i) := by
                    rw [r_mxA, if_neg (fun g => c_109 g.1)]
                  refine V_iinc (pc := 257) X dX10_mix_257 rfl (by first | rfl | ((repeat (refine z_nl_set ?_ (by first | exact (show (0 : Nat) ≠ 1 by decide) | exact (show (2 : Nat) ≠ 1 by decide)))); first | rfl | (simp [z_nl, hz13, hz14]; done) | (simp [z_nl, hz14]; done) | (simp [z_nl, hz15]; done))) ?_
                  refine V_goto (pc := 260) X 91 dX10_mix_260 (by decide) ?_
                  first
                    | (refine V_loc ?_ (ih_91 (i + 1) z13 z14 (by omega) (by omega) hz13 hz14); show [_, _, _, _, _, _, _, _, _, _, _, _, _, _, _] = [_, _, _, _, _, _, _, _, _, _, _, _, _, _, _]; rw [emA]; rfl)
                    | (refine V_loc ?_ (ih_91 (i + 1) (0, (j : Int)) z15 (by omega) (by omega) (show ¬ (0 : Nat) = 1 by decide) hz15); show [_, _, _, _, _, _, _, _, _, _, _, _, _, _, _] = [_, _, _, _, _, _, _, _, _, _, _, _, _, _, _]; rw [emA, show (2 ^ (h 89 4).toNat) = j by omega]; rfl)
                · skip
                  refine V_iload (pc := 112) X dX10_mix_112 rfl ?_
                  refine V_FS (pc := 114) X dX10_mix_114 oX10_bits l_RX10_201 sX10_bits ⟨Nat.le_of_ble_eq_true rfl, Nat.le_of_ble_eq_true rfl⟩ ⟨rfl, rfl⟩ ⟨Nat.le_of_ble_eq_true rfl, Nat.le_of_ble_eq_true rfl⟩ (ct_X10_bits (by omega) (by omega)) rfl (by rfl) (by exact Nat.le_of_ble_eq_true rfl) ?_
                  refine V_aload_n (pc := 117) X dX10_mix_117 rfl (by first | decide | omega | assumption) ?_
                  refine V_iload (pc := 118) X dX10_mix_118 rfl ?_
                  refine V_FV (pc := 120) X dX10_mix_120 oX10_free l_RX10_252 eX10_free vX10_free ⟨Nat.le_of_ble_eq_true rfl, Nat.le_of_ble_eq_true rfl⟩ ⟨rfl, rfl⟩ ⟨Nat.le_of_ble_eq_true rfl, Nat.le_of_ble_eq_true rfl⟩ (ct_X10_free hO hP hT (by omega) (by omega)) rfl (by first | rfl | assumption | (simp only [*]; done) | omega) (by intro q h; cases h; rfl) rfl (by rfl) (by exact Nat.le_of_ble_eq_true rfl) ?_
                  refine V_icmp_le (pc := 123) X 129 dX10_mix_123 (by decide) ⟨by omega, by omega⟩ ⟨by omega, by omega⟩ (fun c_123 => ?_) (fun c_123 => ?_)
                  · skip
                    have emA : (r_mxA h (r_pn h (h 92) x y k false) (r_pn h (h 92) x y k true) ((r_at h (h 92) (-9) : Nat) : Int) c (2 ^ (h 89 4).toNat) (i + 1)) = (r_mxB h (r_pn h (h 92) x y k false) (r_pn h (h 92) x y k true) ((r_at h (h 92) (-9) : Nat) : Int) c (i : Int) (r_mxA h (r_pn h (h 92) x y k false) (r_pn h (h 92) x y k true) ((r_at h (h 92) (-9) : Nat) : Int) c (2 ^ (h 89 4).toNat) i) (2 ^ (h 89 4).toNat)) := by
                      rw [r_mxA, if_pos ⟨c_109, by omega⟩]
                    refine V_iconst (pc := 129) X dX10_mix_129 ?_
                    refine V_istore (pc := 130) X dX10_mix_130 (by exact Nat.le_of_ble_eq_true rfl) (by first | rfl | ((repeat (refine z_nl_set ?_ (by first | exact (show (0 : Nat) ≠ 1 by decide) | exact (show (2 : Nat) ≠ 1 by decide)))); first | rfl | (simp [z_nl, hz13, hz14]; done) | (simp [z_nl, hz14]; done) | (simp [z_nl, hz15]; done))) ?_
                    have lp_132 : ∀ (m : Nat) (j : Nat) (z15 : Nat × Int), (2 ^ (h 89 4).toNat) - j < m → j ≤ (2 ^ (h 89 4).toNat) → ¬ z15.1 = 1 → z_V Γ (107, 0, 0) 132 [(2, 89), (0, x), (0, y), (0, k), (0, c), (0, w), (0, (r_pn h (h 92) x y k false)), (0, (r_pn h (h 92) x y k true)), (0, ((r_at h (h 92) (-9) : Nat) : Int)), (0, (r_mxB h (r_pn h (h 92) x y k false) (r_pn h (h 92) x y k true) ((r_at h (h 92) (-9) : Nat) : Int) c (i : Int) (r_mxA h (r_pn h (h 92) x y k false) (r_pn h (h 92) x y k true) ((r_at h (h 92) (-9) : Nat) : Int) c (2 ^ (h 89 4).toNat) i) j).1), (0, (r_mxB h (r_pn h (h 92) x y k false) (r_pn h (h 92) x y k true) ((r_at h (h 92) (-9) : Nat) : Int) c (i : Int) (r_mxA h (r_pn h (h 92) x y k false) (r_pn h (h 92) x y k true) ((r_at h (h 92) (-9) : Nat) : Int) c (2 ^ (h 89 4).toNat) i) j).2.1), (0, (r_mxB h (r_pn h (h 92) x y k false) (r_pn h (h 92) x y k true) ((r_at h (h 92) (-9) : Nat) : Int) c (i : Int) (r_mxA h (r_pn h (h 92) x y k false) (r_pn h (h 92) x y k true) ((r_at h (h 92) (-9) : Nat) : Int) c (2 ^ (h 89 4).toNat) i) j).2.2), (0, (i : Int)), (0, (j : Int)), z15] [] h := by
                      intro m
                      induction m with
                      | zero => intro j z15 hm; exact absurd hm (Nat.not_lt_zero _)
                      | succ m ih_132 =>
                        intro j z15 hm hj1 hz15
                        obtain ⟨⟨sb1, sb2⟩, ⟨sb3, sb4⟩, ⟨sb5, sb6⟩⟩ := r_mxB_ok (h := h) (o := (r_pn h (h 92) x y k false)) (t := (r_pn h (h 92) x y k true)) (bx := ((r_at h (h 92) (-9) : Nat) : Int)) (c := c) hsa (a := (i : Int)) (by omega) (by omega) j (by omega)
                        have hpj := z_pop_rng (j : Int)
                        have ha2 := z_and_rngL (x := (j : Int)) (y := z_or (i : Int) (z_xor ((r_at h (h 92) (-9) : Nat) : Int) (-1))) (by omega) (by omega)
                        have tj := r_thr_rng h (j : Int) (h 89 4).toNat
                        have l2 := z_and_rngL (x := r_ln h (h 92) (r_pn h (h 92) x y k true)) (y := r_th h (j : Int)) lt1.1 (by omega)
                        refine V_iload (pc := 132) X dX10_mix_132 rfl ?_
                        refine V_iconst (pc := 134) X dX10_mix_134 ?_
                        refine V_aload_n (pc := 135) X dX10_mix_135 rfl (by first | decide | omega | assumption) ?_
                        refine V_gz (pc := 136) X dX10_mix_136 f_RX10_159 (by first | rfl | assumption | (simp only [*]; done) | omega) 4 rfl rfl ?_
                        refine V_ishl (pc := 139) X dX10_mix_139 ?_
                        rw [hshl]
                        refine V_icmp_ge (pc := 140) X 257 dX10_mix_140 (by decide) ⟨by omega, by omega⟩ ⟨by omega, by omega⟩ (fun c_140 => ?_) (fun c_140 => ?_)
                        · skip
                          refine V_iinc (pc := 257) X dX10_mix_257 rfl (by first | rfl | ((repeat (refine z_nl_set ?_ (by first | exact (show (0 : Nat) ≠ 1 by decide) | exact (show (2 : Nat) ≠ 1 by decide)))); first | rfl | (simp [z_nl, hz13, hz14]; done) | (simp [z_nl, hz14]; done) | (simp [z_nl, hz15]; done))) ?_
                          refine V_goto (pc := 260) X 91 dX10_mix_260 (by decide) ?_
                          first
                            | (refine V_loc ?_ (ih_91 (i + 1) z13 z14 (by omega) (by omega) hz13 hz14); show [_, _, _, _, _, _, _, _, _, _, _, _, _, _, _] = [_, _, _, _, _, _, _, _, _, _, _, _, _, _, _]; rw [emA]; rfl)
                            | (refine V_loc ?_ (ih_91 (i + 1) (0, (j : Int)) z15 (by omega) (by omega) (show ¬ (0 : Nat) = 1 by decide) hz15); show [_, _, _, _, _, _, _, _, _, _, _, _, _, _, _] = [_, _, _, _, _, _, _, _, _, _, _, _, _, _, _]; rw [emA, show (2 ^ (h 89 4).toNat) = j by omega]; rfl)
                        · skip
                          refine V_iload (pc := 143) X dX10_mix_143 rfl ?_
                          refine V_iload (pc := 145) X dX10_mix_145 rfl ?_
                          refine V_iload (pc := 147) X dX10_mix_147 rfl ?_
                          refine V_iconst (pc := 149) X dX10_mix_149 ?_
                          refine V_ixor (pc := 150) X dX10_mix_150 ?_
                          refine V_ior (pc := 151) X dX10_mix_151 ?_
                          refine V_iand (pc := 152) X dX10_mix_152 ?_
                          refine V_if_ne (pc := 153) X 190 dX10_mix_153 (by decide) ⟨by omega, by omega⟩ (fun c_153 => ?_) (fun c_153 => ?_)
                          · skip
                            have emx : (r_mxB h (r_pn h (h 92) x y k false) (r_pn h (h 92) x y k true) ((r_at h (h 92) (-9) : Nat) : Int) c (i : Int) (r_mxA h (r_pn h (h 92) x y k false) (r_pn h (h 92) x y k true) ((r_at h (h 92) (-9) : Nat) : Int) c (2 ^ (h 89 4).toNat) i) (j + 1)) = (r_mxB h (r_pn h (h 92) x y k false) (r_pn h (h 92) x y k true) ((r_at h (h 92) (-9) : Nat) : Int) c (i : Int) (r_mxA h (r_pn h (h 92) x y k false) (r_pn h (h 92) x y k true) ((r_at h (h 92) (-9) : Nat) : Int) c (2 ^ (h 89 4).toNat) i) j) := by
                              rw [r_mxB, if_neg (fun g => c_153 g.1.1)]
                            refine V_iconst (pc := 190) X dX10_mix_190 ?_
                            refine V_istore (pc := 191) X dX10_mix_191 (by exact Nat.le_of_ble_eq_true rfl) (by first | rfl | ((repeat (refine z_nl_set ?_ (by first | exact (show (0 : Nat) ≠ 1 by decide) | exact (show (2 : Nat) ≠ 1 by decide)))); first | rfl | (simp [z_nl, hz13, hz14]; done) | (simp [z_nl, hz14]; done) | (simp [z_nl, hz15]; done))) ?_
                            refine V_iload (pc := 193) X dX10_mix_193 rfl ?_
                            refine V_if_eq (pc := 195) X 251 dX10_mix_195 (by decide) ⟨by omega, by omega⟩ (fun c_195 => ?_) (fun c_195 => absurd c_195 (by decide))
                            refine V_iinc (pc := 251) X dX10_mix_251 rfl (by first | rfl | ((repeat (refine z_nl_set ?_ (by first | exact (show (0 : Nat) ≠ 1 by decide) | exact (show (2 : Nat) ≠ 1 by decide)))); first | rfl | (simp [z_nl, hz13, hz14]; done) | (simp [z_nl, hz14]; done) | (simp [z_nl, hz15]; done))) ?_
                            refine V_goto (pc := 254) X 132 dX10_mix_254 (by decide) ?_
                            first
                              | (refine V_loc ?_ (ih_132 (j + 1) (0, 0) (by omega) (by omega) (show ¬ (0 : Nat) = 1 by decide)); show [_, _, _, _, _, _, _, _, _, _, _, _, _, _, _] = [_, _, _, _, _, _, _, _, _, _, _, _, _, _, _]; rw [emx]; rfl)
                              | (refine V_loc ?_ (ih_132 (j + 1) (0, 1) (by omega) (by omega) (show ¬ (0 : Nat) = 1 by decide)); show [_, _, _, _, _, _, _, _, _, _, _, _, _, _, _] = [_, _, _, _, _, _, _, _, _, _, _, _, _, _, _]; rw [emx]; rfl)
                          · skip
                            refine V_iload (pc := 156) X dX10_mix_156 rfl ?_
                            refine V_FS (pc := 158) X dX10_mix_158 oX10_bits l_RX10_201 sX10_bits ⟨Nat.le_of_ble_eq_true rfl, Nat.le_of_ble_eq_true rfl⟩ ⟨rfl, rfl⟩ ⟨Nat.le_of_ble_eq_true rfl, Nat.le_of_ble_eq_true rfl⟩ (ct_X10_bits (by omega) (by omega)) rfl (by rfl) (by exact Nat.le_of_ble_eq_true rfl) ?_
                            refine V_aload_n (pc := 161) X dX10_mix_161 rfl (by first | decide | omega | assumption) ?_
                            refine V_iload (pc := 162) X dX10_mix_162 rfl ?_
                            refine V_FV (pc := 164) X dX10_mix_164 oX10_free l_RX10_252 eX10_free vX10_free ⟨Nat.le_of_ble_eq_true rfl, Nat.le_of_ble_eq_true rfl⟩ ⟨rfl, rfl⟩ ⟨Nat.le_of_ble_eq_true rfl, Nat.le_of_ble_eq_true rfl⟩ (ct_X10_free hO hP hT (by omega) (by omega)) rfl (by first | rfl | assumption | (simp only [*]; done) | omega) (by intro q h; cases h; rfl) rfl (by rfl) (by exact Nat.le_of_ble_eq_true rfl) ?_
                            refine V_icmp_gt (pc := 167) X 190 dX10_mix_167 (by decide) ⟨by omega, by omega⟩ ⟨by omega, by omega⟩ (fun c_167 => ?_) (fun c_167 => ?_)
                            · skip
                              have emx : (r_mxB h (r_pn h (h 92) x y k false) (r_pn h (h 92) x y k true) ((r_at h (h 92) (-9) : Nat) : Int) c (i : Int) (r_mxA h (r_pn h (h 92) x y k false) (r_pn h (h 92) x y k true) ((r_at h (h 92) (-9) : Nat) : Int) c (2 ^ (h 89 4).toNat) i) (j + 1)) = (r_mxB h (r_pn h (h 92) x y k false) (r_pn h (h 92) x y k true) ((r_at h (h 92) (-9) : Nat) : Int) c (i : Int) (r_mxA h (r_pn h (h 92) x y k false) (r_pn h (h 92) x y k true) ((r_at h (h 92) (-9) : Nat) : Int) c (2 ^ (h 89 4).toNat) i) j) := by
                                rw [r_mxB, if_neg (fun g => by have := g.1.2.1; omega)]
                              refine V_iconst (pc := 190) X dX10_mix_190 ?_
                              refine V_istore (pc := 191) X dX10_mix_191 (by exact Nat.le_of_ble_eq_true rfl) (by first | rfl | ((repeat (refine z_nl_set ?_ (by first | exact (show (0 : Nat) ≠ 1 by decide) | exact (show (2 : Nat) ≠ 1 by decide)))); first | rfl | (simp [z_nl, hz13, hz14]; done) | (simp [z_nl, hz14]; done) | (simp [z_nl, hz15]; done))) ?_
                              refine V_iload (pc := 193) X dX10_mix_193 rfl ?_
                              refine V_if_eq (pc := 195) X 251 dX10_mix_195 (by decide) ⟨by omega, by omega⟩ (fun c_195 => ?_) (fun c_195 => absurd c_195 (by decide))
                              refine V_iinc (pc := 251) X dX10_mix_251 rfl (by first | rfl | ((repeat (refine z_nl_set ?_ (by first | exact (show (0 : Nat) ≠ 1 by decide) | exact (show (2 : Nat) ≠ 1 by decide)))); first | rfl | (simp [z_nl, hz13, hz14]; done) | (simp [z_nl, hz14]; done) | (simp [z_nl, hz15]; done))) ?_
                              refine V_goto (pc := 254) X 132 dX10_mix_254 (by decide) ?_
                              first
                                | (refine V_loc ?_ (ih_132 (j + 1) (0, 0) (by omega) (by omega) (show ¬ (0 : Nat) = 1 by decide)); show [_, _, _, _, _, _, _, _, _, _, _, _, _, _, _] = [_, _, _, _, _, _, _, _, _, _, _, _, _, _, _]; rw [emx]; rfl)
                                | (refine V_loc ?_ (ih_132 (j + 1) (0, 1) (by omega) (by omega) (show ¬ (0 : Nat) = 1 by decide)); show [_, _, _, _, _, _, _, _, _, _, _, _, _, _, _] = [_, _, _, _, _, _, _, _, _, _, _, _, _, _, _]; rw [emx]; rfl)
                            · skip
                              refine V_iload (pc := 170) X dX10_mix_170 rfl ?_
                              refine V_FS (pc := 172) X dX10_mix_172 oX10_bits l_RX10_201 sX10_bits ⟨Nat.le_of_ble_eq_true rfl, Nat.le_of_ble_eq_true rfl⟩ ⟨rfl, rfl⟩ ⟨Nat.le_of_ble_eq_true rfl, Nat.le_of_ble_eq_true rfl⟩ (ct_X10_bits (by omega) (by omega)) rfl (by rfl) (by exact Nat.le_of_ble_eq_true rfl) ?_
                              refine V_iload (pc := 175) X dX10_mix_175 rfl ?_
                              refine V_FS (pc := 177) X dX10_mix_177 oX10_bits l_RX10_201 sX10_bits ⟨Nat.le_of_ble_eq_true rfl, Nat.le_of_ble_eq_true rfl⟩ ⟨rfl, rfl⟩ ⟨Nat.le_of_ble_eq_true rfl, Nat.le_of_ble_eq_true rfl⟩ (ct_X10_bits (by omega) (by omega)) rfl (by rfl) (by exact Nat.le_of_ble_eq_true rfl) ?_
                              refine V_iadd (pc := 180) X dX10_mix_180 ?_
                              refine V_iload (pc := 181) X dX10_mix_181 rfl ?_
                              refine V_icmp_ge (pc := 183) X 190 dX10_mix_183 (by decide) ⟨by omega, by omega⟩ ⟨by omega, by omega⟩ (fun c_183 => ?_) (fun c_183 => ?_)
                              · skip
                                have emx : (r_mxB h (r_pn h (h 92) x y k false) (r_pn h (h 92) x y k true) ((r_at h (h 92) (-9) : Nat) : Int) c (i : Int) (r_mxA h (r_pn h (h 92) x y k false) (r_pn h (h 92) x y k true) ((r_at h (h 92) (-9) : Nat) : Int) c (2 ^ (h 89 4).toNat) i) (j + 1)) = (r_mxB h (r_pn h (h 92) x y k false) (r_pn h (h 92) x y k true) ((r_at h (h 92) (-9) : Nat) : Int) c (i : Int) (r_mxA h (r_pn h (h 92) x y k false) (r_pn h (h 92) x y k true) ((r_at h (h 92) (-9) : Nat) : Int) c (2 ^ (h 89 4).toNat) i) j) := by
                                  rw [r_mxB, if_neg (fun g => by have := g.1.2.2; omega)]
                                refine V_iconst (pc := 190) X dX10_mix_190 ?_
                                refine V_istore (pc := 191) X dX10_mix_191 (by exact Nat.le_of_ble_eq_true rfl) (by first | rfl | ((repeat (refine z_nl_set ?_ (by first | exact (show (0 : Nat) ≠ 1 by decide) | exact (show (2 : Nat) ≠ 1 by decide)))); first | rfl | (simp [z_nl, hz13, hz14]; done) | (simp [z_nl, hz14]; done) | (simp [z_nl, hz15]; done))) ?_
                                refine V_iload (pc := 193) X dX10_mix_193 rfl ?_
                                refine V_if_eq (pc := 195) X 251 dX10_mix_195 (by decide) ⟨by omega, by omega⟩ (fun c_195 => ?_) (fun c_195 => absurd c_195 (by decide))
                                refine V_iinc (pc := 251) X dX10_mix_251 rfl (by first | rfl | ((repeat (refine z_nl_set ?_ (by first | exact (show (0 : Nat) ≠ 1 by decide) | exact (show (2 : Nat) ≠ 1 by decide)))); first | rfl | (simp [z_nl, hz13, hz14]; done) | (simp [z_nl, hz14]; done) | (simp [z_nl, hz15]; done))) ?_
                                refine V_goto (pc := 254) X 132 dX10_mix_254 (by decide) ?_
                                first
                                  | (refine V_loc ?_ (ih_132 (j + 1) (0, 0) (by omega) (by omega) (show ¬ (0 : Nat) = 1 by decide)); show [_, _, _, _, _, _, _, _, _, _, _, _, _, _, _] = [_, _, _, _, _, _, _, _, _, _, _, _, _, _, _]; rw [emx]; rfl)
                                  | (refine V_loc ?_ (ih_132 (j + 1) (0, 1) (by omega) (by omega) (show ¬ (0 : Nat) = 1 by decide)); show [_, _, _, _, _, _, _, _, _, _, _, _, _, _, _] = [_, _, _, _, _, _, _, _, _, _, _, _, _, _, _]; rw [emx]; rfl)
                              · skip
                                refine V_iconst (pc := 186) X dX10_mix_186 ?_
                                refine V_goto (pc := 187) X 191 dX10_mix_187 (by decide) ?_
                                refine V_istore (pc := 191) X dX10_mix_191 (by exact Nat.le_of_ble_eq_true rfl) (by first | rfl | ((repeat (refine z_nl_set ?_ (by first | exact (show (0 : Nat) ≠ 1 by decide) | exact (show (2 : Nat) ≠ 1 by decide)))); first | rfl | (simp [z_nl, hz13, hz14]; done) | (simp [z_nl, hz14]; done) | (simp [z_nl, hz15]; done))) ?_
                                refine V_iload (pc := 193) X dX10_mix_193 rfl ?_
                                refine V_if_eq (pc := 195) X 251 dX10_mix_195 (by decide) ⟨by omega, by omega⟩ (fun c_195 => absurd c_195 (by decide)) (fun c_195 => ?_)
                                refine V_aload_n (pc := 198) X dX10_mix_198 rfl (by first | decide | omega | assumption) ?_
                                refine V_iload (pc := 199) X dX10_mix_199 rfl ?_
                                refine V_FV (pc := 201) X dX10_mix_201 oX10_letsNow l_RX10_255 eX10_letsNow vX10_letsNow ⟨Nat.le_of_ble_eq_true rfl, Nat.le_of_ble_eq_true rfl⟩ ⟨rfl, rfl⟩ ⟨Nat.le_of_ble_eq_true rfl, Nat.le_of_ble_eq_true rfl⟩ (ct_X10_letsNow hO hP hT (by omega) (by omega)) rfl (by first | rfl | assumption | (simp only [*]; done) | omega) (by intro q h; cases h; rfl) rfl (by rfl) (by exact Nat.le_of_ble_eq_true rfl) ?_
                                refine V_aload_n (pc := 204) X dX10_mix_204 rfl (by first | decide | omega | assumption) ?_
                                refine V_iload (pc := 205) X dX10_mix_205 rfl ?_
                                refine V_FV (pc := 207) X dX10_mix_207 oX10_through l_RX10_179 eX10_through vX10_through ⟨Nat.le_of_ble_eq_true rfl, Nat.le_of_ble_eq_true rfl⟩ ⟨rfl, rfl⟩ ⟨Nat.le_of_ble_eq_true rfl, Nat.le_of_ble_eq_true rfl⟩ (ct_X10_through hO hP (by omega) (by omega)) rfl (by first | rfl | assumption | (simp only [*]; done) | omega) (by intro q h; cases h; rfl) rfl (by rfl) (by exact Nat.le_of_ble_eq_true rfl) ?_
                                refine V_iand (pc := 210) X dX10_mix_210 ?_
                                refine V_aload_n (pc := 211) X dX10_mix_211 rfl (by first | decide | omega | assumption) ?_
                                refine V_iload (pc := 212) X dX10_mix_212 rfl ?_
                                refine V_FV (pc := 214) X dX10_mix_214 oX10_letsNow l_RX10_255 eX10_letsNow vX10_letsNow ⟨Nat.le_of_ble_eq_true rfl, Nat.le_of_ble_eq_true rfl⟩ ⟨rfl, rfl⟩ ⟨Nat.le_of_ble_eq_true rfl, Nat.le_of_ble_eq_true rfl⟩ (ct_X10_letsNow hO hP hT (by omega) (by omega)) rfl (by first | rfl | assumption | (simp only [*]; done) | omega) (by intro q h; cases h; rfl) rfl (by rfl) (by exact Nat.le_of_ble_eq_true rfl) ?_
                                refine V_aload_n (pc := 217) X dX10_mix_217 rfl (by first | decide | omega | assumption) ?_
                                refine V_iload (pc := 218) X dX10_mix_218 rfl ?_
                                refine V_FV (pc := 220) X dX10_mix_220 oX10_through l_RX10_179 eX10_through vX10_through ⟨Nat.le_of_ble_eq_true rfl, Nat.le_of_ble_eq_true rfl⟩ ⟨rfl, rfl⟩ ⟨Nat.le_of_ble_eq_true rfl, Nat.le_of_ble_eq_true rfl⟩ (ct_X10_through hO hP (by omega) (by omega)) rfl (by first | rfl | assumption | (simp only [*]; done) | omega) (by intro q h; cases h; rfl) rfl (by rfl) (by exact Nat.le_of_ble_eq_true rfl) ?_
                                refine V_iand (pc := 223) X dX10_mix_223 ?_
                                refine V_ior (pc := 224) X dX10_mix_224 ?_
                                have hor := z_or_rng8 (x := z_and (r_ln h (h 92) (r_pn h (h 92) x y k false)) (r_th h (i : Int))) (y := z_and (r_ln h (h 92) (r_pn h (h 92) x y k true)) (r_th h (j : Int))) l1.1 (by omega) l2.1 (by omega)
                                refine V_iload (pc := 225) X dX10_mix_225 rfl ?_
                                refine V_icmp_ne (pc := 227) X 251 dX10_mix_227 (by decide) ⟨by omega, by omega⟩ ⟨by omega, by omega⟩ (fun c_227 => ?_) (fun c_227 => ?_)
                                · skip
                                  have emx : (r_mxB h (r_pn h (h 92) x y k false) (r_pn h (h 92) x y k true) ((r_at h (h 92) (-9) : Nat) : Int) c (i : Int) (r_mxA h (r_pn h (h 92) x y k false) (r_pn h (h 92) x y k true) ((r_at h (h 92) (-9) : Nat) : Int) c (2 ^ (h 89 4).toNat) i) (j + 1)) = (r_mxB h (r_pn h (h 92) x y k false) (r_pn h (h 92) x y k true) ((r_at h (h 92) (-9) : Nat) : Int) c (i : Int) (r_mxA h (r_pn h (h 92) x y k false) (r_pn h (h 92) x y k true) ((r_at h (h 92) (-9) : Nat) : Int) c (2 ^ (h 89 4).toNat) i) j) := by
                                    rw [r_mxB, if_neg (fun g => c_227 g.2)]
                                  refine V_iinc (pc := 251) X dX10_mix_251 rfl (by first | rfl | ((repeat (refine z_nl_set ?_ (by first | exact (show (0 : Nat) ≠ 1 by decide) | exact (show (2 : Nat) ≠ 1 by decide)))); first | rfl | (simp [z_nl, hz13, hz14]; done) | (simp [z_nl, hz14]; done) | (simp [z_nl, hz15]; done))) ?_
                                  refine V_goto (pc := 254) X 132 dX10_mix_254 (by decide) ?_
                                  first
                                    | (refine V_loc ?_ (ih_132 (j + 1) (0, 0) (by omega) (by omega) (show ¬ (0 : Nat) = 1 by decide)); show [_, _, _, _, _, _, _, _, _, _, _, _, _, _, _] = [_, _, _, _, _, _, _, _, _, _, _, _, _, _, _]; rw [emx]; rfl)
                                    | (refine V_loc ?_ (ih_132 (j + 1) (0, 1) (by omega) (by omega) (show ¬ (0 : Nat) = 1 by decide)); show [_, _, _, _, _, _, _, _, _, _, _, _, _, _, _] = [_, _, _, _, _, _, _, _, _, _, _, _, _, _, _]; rw [emx]; rfl)
                                · skip
                                  have emx : (r_mxB h (r_pn h (h 92) x y k false) (r_pn h (h 92) x y k true) ((r_at h (h 92) (-9) : Nat) : Int) c (i : Int) (r_mxA h (r_pn h (h 92) x y k false) (r_pn h (h 92) x y k true) ((r_at h (h 92) (-9) : Nat) : Int) c (2 ^ (h 89 4).toNat) i) (j + 1)) = (z_pop (i : Int) + z_pop (j : Int), (i : Int), (j : Int)) := by
                                    rw [r_mxB, if_pos ⟨⟨c_153, by omega, by omega⟩, c_227⟩]
                                  refine V_iload (pc := 230) X dX10_mix_230 rfl ?_
                                  refine V_FS (pc := 232) X dX10_mix_232 oX10_bits l_RX10_201 sX10_bits ⟨Nat.le_of_ble_eq_true rfl, Nat.le_of_ble_eq_true rfl⟩ ⟨rfl, rfl⟩ ⟨Nat.le_of_ble_eq_true rfl, Nat.le_of_ble_eq_true rfl⟩ (ct_X10_bits (by omega) (by omega)) rfl (by rfl) (by exact Nat.le_of_ble_eq_true rfl) ?_
                                  refine V_iload (pc := 235) X dX10_mix_235 rfl ?_
                                  refine V_FS (pc := 237) X dX10_mix_237 oX10_bits l_RX10_201 sX10_bits ⟨Nat.le_of_ble_eq_true rfl, Nat.le_of_ble_eq_true rfl⟩ ⟨rfl, rfl⟩ ⟨Nat.le_of_ble_eq_true rfl, Nat.le_of_ble_eq_true rfl⟩ (ct_X10_bits (by omega) (by omega)) rfl (by rfl) (by exact Nat.le_of_ble_eq_true rfl) ?_
                                  refine V_iadd (pc := 240) X dX10_mix_240 ?_
                                  refine V_istore (pc := 241) X dX10_mix_241 (by exact Nat.le_of_ble_eq_true rfl) (by first | rfl | ((repeat (refine z_nl_set ?_ (by first | exact (show (0 : Nat) ≠ 1 by decide) | exact (show (2 : Nat) ≠ 1 by decide)))); first | rfl | (simp [z_nl, hz13, hz14]; done) | (simp [z_nl, hz14]; done) | (simp [z_nl, hz15]; done))) ?_
                                  refine V_iload (pc := 243) X dX10_mix_243 rfl ?_
                                  refine V_istore (pc := 245) X dX10_mix_245 (by exact Nat.le_of_ble_eq_true rfl) (by first | rfl | ((repeat (refine z_nl_set ?_ (by first | exact (show (0 : Nat) ≠ 1 by decide) | exact (show (2 : Nat) ≠ 1 by decide)))); first | rfl | (simp [z_nl, hz13, hz14]; done) | (simp [z_nl, hz14]; done) | (simp [z_nl, hz15]; done))) ?_
                                  refine V_iload (pc := 247) X dX10_mix_247 rfl ?_
                                  refine V_istore (pc := 249) X dX10_mix_249 (by exact Nat.le_of_ble_eq_true rfl) (by first | rfl | ((repeat (refine z_nl_set ?_ (by first | exact (show (0 : Nat) ≠ 1 by decide) | exact (show (2 : Nat) ≠ 1 by decide)))); first | rfl | (simp [z_nl, hz13, hz14]; done) | (simp [z_nl, hz14]; done) | (simp [z_nl, hz15]; done))) ?_
                                  refine V_iinc (pc := 251) X dX10_mix_251 rfl (by first | rfl | ((repeat (refine z_nl_set ?_ (by first | exact (show (0 : Nat) ≠ 1 by decide) | exact (show (2 : Nat) ≠ 1 by decide)))); first | rfl | (simp [z_nl, hz13, hz14]; done) | (simp [z_nl, hz14]; done) | (simp [z_nl, hz15]; done))) ?_
                                  refine V_goto (pc := 254) X 132 dX10_mix_254 (by decide) ?_
                                  first
                                    | (refine V_loc ?_ (ih_132 (j + 1) (0, 0) (by omega) (by omega) (show ¬ (0 : Nat) = 1 by decide)); show [_, _, _, _, _, _, _, _, _, _, _, _, _, _, _] = [_, _, _, _, _, _, _, _, _, _, _, _, _, _, _]; rw [emx]; rfl)
                                    | (refine V_loc ?_ (ih_132 (j + 1) (0, 1) (by omega) (by omega) (show ¬ (0 : Nat) = 1 by decide)); show [_, _, _, _, _, _, _, _, _, _, _, _, _, _, _] = [_, _, _, _, _, _, _, _, _, _, _, _, _, _, _]; rw [emx]; rfl)
                    exact lp_132 _ 0 z14 (Nat.lt_succ_self _) (Nat.zero_le _) hz14
                  · skip
                    have emA : (r_mxA h (r_pn h (h 92) x y k false) (r_pn h (h 92) x y k true) ((r_at h (h 92) (-9) : Nat) : Int) c (2 ^ (h 89 4).toNat) (i + 1)) = (r_mxA h (r_pn h (h 92) x y k false) (r_pn h (h 92) x y k true) ((r_at h (h 92) (-9) : Nat) : Int) c (2 ^ (h 89 4).toNat) i) := by
                      rw [r_mxA, if_neg (fun g => by have := g.2; omega)]
                    refine V_goto (pc := 126) X 257 dX10_mix_126 (by decide) ?_
                    refine V_iinc (pc := 257) X dX10_mix_257 rfl (by first | rfl | ((repeat (refine z_nl_set ?_ (by first | exact (show (0 : Nat) ≠ 1 by decide) | exact (show (2 : Nat) ≠ 1 by decide)))); first | rfl | (simp [z_nl, hz13, hz14]; done) | (simp [z_nl, hz14]; done) | (simp [z_nl, hz15]; done))) ?_
                    refine V_goto (pc := 260) X 91 dX10_mix_260 (by decide) ?_
                    first
                      | (refine V_loc ?_ (ih_91 (i + 1) z13 z14 (by omega) (by omega) hz13 hz14); show [_, _, _, _, _, _, _, _, _, _, _, _, _, _, _] = [_, _, _, _, _, _, _, _, _, _, _, _, _, _, _]; rw [emA]; rfl)
                      | (refine V_loc ?_ (ih_91 (i + 1) (0, (j : Int)) z15 (by omega) (by omega) (show ¬ (0 : Nat) = 1 by decide) hz15); show [_, _, _, _, _, _, _, _, _, _, _, _, _, _, _] = [_, _, _, _, _, _, _, _, _, _, _, _, _, _, _]; rw [emA, show (2 ^ (h 89 4).toNat) = j by omega]; rfl)
          exact lp_91 _ 0 (9, 0) (9, 0) (Nat.lt_succ_self _) (Nat.zero_le _) (by decide) (by decide)
        · skip
          refine V_iconst (pc := 36) X dX10_mix_36 ?_
          refine V_iret (st := []) (pc := 37) X hQ dX10_mix_37 rfl rfl ?_
          exact Or.inl ⟨by intro g; obtain ⟨g1, g2, g3, g4, g5⟩ := g; first | (rw [c_5] at g1; exact absurd g1 (by decide)) | (rw [c_12] at g2; exact absurd g2 (by decide)) | (rw [c_20] at g3; exact absurd g3 (by decide)) | (have := of_decide_eq_false c_33; omega), rfl, rfl⟩
