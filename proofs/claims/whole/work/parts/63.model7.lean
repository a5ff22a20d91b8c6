/-! PaneLightModel, 7: hail, look -/
set_option maxHeartbeats 4000000 in
set_option maxRecDepth 100000 in
theorem ct_X10_hail {h : z_H} (hO : r_Ob h) (hP : r_Pl h) (hT : r_Mt (h 92)) {x y k a w : Int} (hx : z_R x) (hy : z_R y) (hk : z_R k) (ha : z_R a) (hw9 : z_R w) : z_Ct mX10_hail 107 [(2, 89), (0, x), (0, y), (0, k), (0, a), (0, w)] h (fun r h2 => (¬ (c_tile x y = true ∧ c_hour k = true ∧ 0 ≤ a ∧ a ≤ 10 ∧ 0 ≤ w ∧ w ≤ 1) ∧ r = some (0, -1) ∧ h2 = h) ∨ ((c_tile x y = true ∧ c_hour k = true ∧ 0 ≤ a ∧ a ≤ 10 ∧ 0 ≤ w ∧ w ≤ 1) ∧ ∃ A : Int → Int, r = some (0, if w = 0 then (r_ab h x y k a 4) / r_gc (r_ab h x y k a 4) else 100 / r_gc (r_ab h x y k a 4)) ∧ h2 = z_rw h 93 A)) := by
  refine z_mk (L := [(2, 89), (0, x), (0, y), (0, k), (0, a), (0, w), (9, 0), (9, 0), (9, 0), (9, 0), (9, 0), (9, 0)]) oX10_hail.2.2.2.2 (Nat.le_of_ble_eq_true rfl) rfl ?_
  intro Γ X hQ
  obtain ⟨rb2, rb3, rb5, rb6, rb7, rb9, rb10, rb11, rb12, rb13, rb15, rb25, rb26, rb30, rb31, rb32, rb33⟩ := id hO
  obtain ⟨⟨hw1, hw2⟩, ⟨hh1, hh2⟩, ⟨hs1, hs2⟩, hgl, hco⟩ := id hP
  obtain ⟨tw, ⟨tb1, tb2⟩, ⟨tm1, tm2⟩, ⟨ts1, ts2⟩⟩ := id hT
  have kc : z_kd 107 92 = (1, 11) := rfl
  obtain ⟨hx1, hx2⟩ := hx
  obtain ⟨hy1, hy2⟩ := hy
  obtain ⟨hk1, hk2⟩ := hk
  obtain ⟨ha1, ha2⟩ := ha
  obtain ⟨hwa, hwb⟩ := hw9
  refine V_iload_n (pc := 0) X dX10_hail_0 rfl ?_
  refine V_iload_n (pc := 1) X dX10_hail_1 rfl ?_
  refine V_FS (pc := 2) X dX10_hail_2 oX10_isTile l_RX10_237 sX10_isTile ⟨Nat.le_of_ble_eq_true rfl, Nat.le_of_ble_eq_true rfl⟩ ⟨rfl, rfl⟩ ⟨Nat.le_of_ble_eq_true rfl, Nat.le_of_ble_eq_true rfl⟩ (ct_X10_isTile ⟨by omega, by omega⟩ ⟨by omega, by omega⟩) rfl (by rfl) (by exact Nat.le_of_ble_eq_true rfl) ?_
  refine V_bif_eq (pc := 5) X 39 dX10_hail_5 (by decide)  (fun c_5 => ?_) (fun c_5 => ?_)
  · skip
    refine V_iconst (pc := 39) X dX10_hail_39 ?_
    refine V_iret (st := []) (pc := 40) X hQ dX10_hail_40 rfl rfl ?_
    exact Or.inl ⟨by intro g; obtain ⟨g1, g2, g3, g4, g5, g6⟩ := g; first | (rw [c_5] at g1; exact absurd g1 (by decide)) | (rw [c_12] at g2; exact absurd g2 (by decide)) | (have := of_decide_eq_false c_25; omega) | (have := of_decide_eq_false c_36; omega), rfl, rfl⟩
  · skip
    refine V_iload_n (pc := 8) X dX10_hail_8 rfl ?_
    refine V_FS (pc := 9) X dX10_hail_9 oX10_isHour l_RX10_240 sX10_isHour ⟨Nat.le_of_ble_eq_true rfl, Nat.le_of_ble_eq_true rfl⟩ ⟨rfl, rfl⟩ ⟨Nat.le_of_ble_eq_true rfl, Nat.le_of_ble_eq_true rfl⟩ (ct_X10_isHour ⟨by omega, by omega⟩) rfl (by rfl) (by exact Nat.le_of_ble_eq_true rfl) ?_
    refine V_bif_eq (pc := 12) X 39 dX10_hail_12 (by decide)  (fun c_12 => ?_) (fun c_12 => ?_)
    · skip
      refine V_iconst (pc := 39) X dX10_hail_39 ?_
      refine V_iret (st := []) (pc := 40) X hQ dX10_hail_40 rfl rfl ?_
      exact Or.inl ⟨by intro g; obtain ⟨g1, g2, g3, g4, g5, g6⟩ := g; first | (rw [c_5] at g1; exact absurd g1 (by decide)) | (rw [c_12] at g2; exact absurd g2 (by decide)) | (have := of_decide_eq_false c_25; omega) | (have := of_decide_eq_false c_36; omega), rfl, rfl⟩
    · skip
      refine V_iload (pc := 15) X dX10_hail_15 rfl ?_
      refine V_i2l (pc := 17) X dX10_hail_17 ⟨by omega, by omega⟩ ?_
      refine V_lconst (pc := 18) (z := 0) X dX10_hail_18 (by decide) ?_
      refine V_ldc2 (pc := 19) X (10) dX10_hail_19 c_RX10_267 (by decide) ?_
      refine V_FS (pc := 22) X dX10_hail_22 oX10_in l_RX10_81 sX10_in ⟨Nat.le_of_ble_eq_true rfl, Nat.le_of_ble_eq_true rfl⟩ ⟨rfl, rfl⟩ ⟨Nat.le_of_ble_eq_true rfl, Nat.le_of_ble_eq_true rfl⟩ (ct_X10_in ⟨by omega, by omega⟩ ⟨by omega, by omega⟩ ⟨by omega, by omega⟩) rfl (by rfl) (by exact Nat.le_of_ble_eq_true rfl) ?_
      refine V_bif_eq (pc := 25) X 39 dX10_hail_25 (by decide)  (fun c_25 => ?_) (fun c_25 => ?_)
      · skip
        refine V_iconst (pc := 39) X dX10_hail_39 ?_
        refine V_iret (st := []) (pc := 40) X hQ dX10_hail_40 rfl rfl ?_
        exact Or.inl ⟨by intro g; obtain ⟨g1, g2, g3, g4, g5, g6⟩ := g; first | (rw [c_5] at g1; exact absurd g1 (by decide)) | (rw [c_12] at g2; exact absurd g2 (by decide)) | (have := of_decide_eq_false c_25; omega) | (have := of_decide_eq_false c_36; omega), rfl, rfl⟩
      · skip
        refine V_iload (pc := 28) X dX10_hail_28 rfl ?_
        refine V_i2l (pc := 30) X dX10_hail_30 ⟨by omega, by omega⟩ ?_
        refine V_lconst (pc := 31) (z := 0) X dX10_hail_31 (by decide) ?_
        refine V_lconst (pc := 32) (z := 1) X dX10_hail_32 (by decide) ?_
        refine V_FS (pc := 33) X dX10_hail_33 oX10_in l_RX10_81 sX10_in ⟨Nat.le_of_ble_eq_true rfl, Nat.le_of_ble_eq_true rfl⟩ ⟨rfl, rfl⟩ ⟨Nat.le_of_ble_eq_true rfl, Nat.le_of_ble_eq_true rfl⟩ (ct_X10_in ⟨by omega, by omega⟩ ⟨by omega, by omega⟩ ⟨by omega, by omega⟩) rfl (by rfl) (by exact Nat.le_of_ble_eq_true rfl) ?_
        refine V_bif_ne (pc := 36) X 41 dX10_hail_36 (by decide)  (fun c_36 => ?_) (fun c_36 => ?_)
        · skip
          have tb1 := of_decide_eq_true c_5
          have tb2 := of_decide_eq_true c_12
          have tb3 := of_decide_eq_true c_25
          have tb4 := of_decide_eq_true c_36
          have p1 := r_pn_rng hP (T := h 92) (x := x) (y := y) (k := k) (tn := false)
          have p2 := r_pn_rng hP (T := h 92) (x := x) (y := y) (k := k) (tn := true)
          have hone : ¬ r_pn h (h 92) x y k false = -9 → 0 ≤ r_pn h (h 92) x y k false ∧ r_pn h (h 92) x y k false < 20 := fun g => by omega
          have htwo : ¬ r_pn h (h 92) x y k true = -9 → 0 ≤ r_pn h (h 92) x y k true ∧ r_pn h (h 92) x y k true < 20 := fun g => by omega
          refine V_aload_n (pc := 41) X dX10_hail_41 rfl (by first | decide | omega | assumption) ?_
          refine V_aload_n (pc := 42) X dX10_hail_42 rfl (by first | decide | omega | assumption) ?_
          refine V_gz (pc := 43) X dX10_hail_43 f_RX10_23 (by first | rfl | assumption | (simp only [*]; done) | omega) 5 rfl (show _ = (92 : Int) from by first | exact rb5 | ((repeat (first | rw [z_st_at] | rw [z_st_slot _ (by decide)] | rw [z_st_cell _ (by decide)] | rw [z_rw_ne _ _ (by decide)] | rw [r_rem_s (by decide)] | rw [r_rem_c (by decide) (by decide)] | rw [r_cp_ne (by decide)])); exact rb5)) ?_
          refine V_iload_n (pc := 46) X dX10_hail_46 rfl ?_
          refine V_iload_n (pc := 47) X dX10_hail_47 rfl ?_
          refine V_iload_n (pc := 48) X dX10_hail_48 rfl ?_
          refine V_iconst (pc := 49) X dX10_hail_49 ?_
          refine V_FV (pc := 50) X dX10_hail_50 oX10_paneAt l_RX10_186 eX10_paneAt vX10_paneAt ⟨Nat.le_of_ble_eq_true rfl, Nat.le_of_ble_eq_true rfl⟩ ⟨rfl, rfl⟩ ⟨Nat.le_of_ble_eq_true rfl, Nat.le_of_ble_eq_true rfl⟩ (ct_X10_paneAt hO hP kc hT (tn := false) (by omega) (by omega) (by omega) (by omega) (by omega) (by omega)) rfl (by first | rfl | assumption | (simp only [*]; done) | omega) (by intro q h; cases h; rfl) rfl (by rfl) (by exact Nat.le_of_ble_eq_true rfl) ?_
          refine V_istore (pc := 53) X dX10_hail_53 (by exact Nat.le_of_ble_eq_true rfl) (by first | rfl | ((repeat (refine z_nl_set ?_ (by first | exact (show (0 : Nat) ≠ 1 by decide) | exact (show (2 : Nat) ≠ 1 by decide)))); first | rfl | (simp [z_nl, hz]; done) | (simp [z_nl, hz2]; done))) ?_
          refine V_aload_n (pc := 55) X dX10_hail_55 rfl (by first | decide | omega | assumption) ?_
          refine V_aload_n (pc := 56) X dX10_hail_56 rfl (by first | decide | omega | assumption) ?_
          refine V_gz (pc := 57) X dX10_hail_57 f_RX10_23 (by first | rfl | assumption | (simp only [*]; done) | omega) 5 rfl (show _ = (92 : Int) from by first | exact rb5 | ((repeat (first | rw [z_st_at] | rw [z_st_slot _ (by decide)] | rw [z_st_cell _ (by decide)] | rw [z_rw_ne _ _ (by decide)] | rw [r_rem_s (by decide)] | rw [r_rem_c (by decide) (by decide)] | rw [r_cp_ne (by decide)])); exact rb5)) ?_
          refine V_iload_n (pc := 60) X dX10_hail_60 rfl ?_
          refine V_iload_n (pc := 61) X dX10_hail_61 rfl ?_
          refine V_iload_n (pc := 62) X dX10_hail_62 rfl ?_
          refine V_iconst (pc := 63) X dX10_hail_63 ?_
          refine V_FV (pc := 64) X dX10_hail_64 oX10_paneAt l_RX10_186 eX10_paneAt vX10_paneAt ⟨Nat.le_of_ble_eq_true rfl, Nat.le_of_ble_eq_true rfl⟩ ⟨rfl, rfl⟩ ⟨Nat.le_of_ble_eq_true rfl, Nat.le_of_ble_eq_true rfl⟩ (ct_X10_paneAt hO hP kc hT (tn := true) (by omega) (by omega) (by omega) (by omega) (by omega) (by omega)) rfl (by first | rfl | assumption | (simp only [*]; done) | omega) (by intro q h; cases h; rfl) rfl (by rfl) (by exact Nat.le_of_ble_eq_true rfl) ?_
          refine V_istore (pc := 67) X dX10_hail_67 (by exact Nat.le_of_ble_eq_true rfl) (by first | rfl | ((repeat (refine z_nl_set ?_ (by first | exact (show (0 : Nat) ≠ 1 by decide) | exact (show (2 : Nat) ≠ 1 by decide)))); first | rfl | (simp [z_nl, hz]; done) | (simp [z_nl, hz2]; done))) ?_
          refine V_iconst (pc := 69) X dX10_hail_69 ?_
          refine V_istore (pc := 70) X dX10_hail_70 (by exact Nat.le_of_ble_eq_true rfl) (by first | rfl | ((repeat (refine z_nl_set ?_ (by first | exact (show (0 : Nat) ≠ 1 by decide) | exact (show (2 : Nat) ≠ 1 by decide)))); first | rfl | (simp [z_nl, hz]; done) | (simp [z_nl, hz2]; done))) ?_
          refine V_iconst (pc := 72) X dX10_hail_72 ?_
          refine V_istore (pc := 73) X dX10_hail_73 (by exact Nat.le_of_ble_eq_true rfl) (by first | rfl | ((repeat (refine z_nl_set ?_ (by first | exact (show (0 : Nat) ≠ 1 by decide) | exact (show (2 : Nat) ≠ 1 by decide)))); first | rfl | (simp [z_nl, hz]; done) | (simp [z_nl, hz2]; done))) ?_
          have lp_75 : ∀ (m : Nat) (i : Nat) (A : Int → Int) (z : Nat × Int), 4 - i < m → i ≤ 4 → ¬ z.1 = 1 → z_V Γ (107, 0, 0) 75 [(2, 89), (0, x), (0, y), (0, k), (0, a), (0, w), (0, r_pn h (h 92) x y k false), (0, r_pn h (h 92) x y k true), (0, r_ab h x y k a i), (0, (i : Int)), z, (9, 0)] [] (z_rw h 93 A) := by
            intro m
            induction m with
            | zero => intro i A z hm; exact absurd hm (Nat.not_lt_zero _)
            | succ m ih_75 =>
              intro i A z hm hi1 hz
              have har := r_ab_rng (h := h) (x := x) (y := y) (k := k) tb3.1 tb3.2 i
              have hte0 := r_asd_te2 h A
              have hmt0 : r_Mt (r_asd (z_rw h 93 A)) := hT.to hte0
              refine V_iload (pc := 75) X dX10_hail_75 rfl ?_
              refine V_iconst (pc := 77) X dX10_hail_77 ?_
              refine V_icmp_ge (pc := 78) X 220 dX10_hail_78 (by decide) ⟨by omega, by omega⟩ ⟨by omega, by omega⟩ (fun c_78 => ?_) (fun c_78 => ?_)
              · skip
                obtain rfl : i = 4 := by omega
                refine V_iload (pc := 220) X dX10_hail_220 rfl ?_
                refine V_istore (pc := 222) X dX10_hail_222 (by exact Nat.le_of_ble_eq_true rfl) (by first | rfl | ((repeat (refine z_nl_set ?_ (by first | exact (show (0 : Nat) ≠ 1 by decide) | exact (show (2 : Nat) ≠ 1 by decide)))); first | rfl | (simp [z_nl, hz]; done) | (simp [z_nl, hz2]; done))) ?_
                refine V_bipush (pc := 224) X dX10_hail_224 (by decide) ?_
                refine V_istore (pc := 226) X dX10_hail_226 (by exact Nat.le_of_ble_eq_true rfl) (by first | rfl | ((repeat (refine z_nl_set ?_ (by first | exact (show (0 : Nat) ≠ 1 by decide) | exact (show (2 : Nat) ≠ 1 by decide)))); first | rfl | (simp [z_nl, hz]; done) | (simp [z_nl, hz2]; done))) ?_
                have lp_228 : ∀ (m : Nat) (u v : Int) (z2 : Nat × Int), v.toNat < m → 0 ≤ u → u ≤ 400 → 0 ≤ v → v ≤ 100 → Nat.gcd u.toNat v.toNat = Nat.gcd (r_ab h x y k a 4).toNat 100 → ¬ z2.1 = 1 → z_V Γ (107, 0, 0) 228 [(2, 89), (0, x), (0, y), (0, k), (0, a), (0, w), (0, r_pn h (h 92) x y k false), (0, r_pn h (h 92) x y k true), (0, (r_ab h x y k a 4)), (0, u), (0, v), z2] [] (z_rw h 93 A) := by
                  intro m
                  induction m with
                  | zero => intro u v z2 hm; exact absurd hm (Nat.not_lt_zero _)
                  | succ m ih_228 =>
                    intro u v z2 hm hu0 hu1 hv0 hv1 hg hz2
                    refine V_iload (pc := 228) X dX10_hail_228 rfl ?_
                    refine V_if_eq (pc := 230) X 251 dX10_hail_230 (by decide) ⟨by omega, by omega⟩ (fun c_230 => ?_) (fun c_230 => ?_)
                    · skip
                      have hur : u = r_gc (r_ab h x y k a 4) := by
                        unfold r_gc
                        rw [← hg, c_230, show (0 : Int).toNat = 0 from rfl, Nat.gcd_zero_right]
                        omega
                      have hgr := r_gc_rng (r_ab h x y k a 4)
                      rw [← hur] at hgr
                      refine V_iload (pc := 251) X dX10_hail_251 rfl ?_
                      refine V_if_ne (pc := 253) X 264 dX10_hail_253 (by decide) ⟨by omega, by omega⟩ (fun c_253 => ?_) (fun c_253 => ?_)
                      · skip
                        refine V_bipush (pc := 264) X dX10_hail_264 (by decide) ?_
                        refine V_iload (pc := 266) X dX10_hail_266 rfl ?_
                        refine V_idivN (pc := 268) X dX10_hail_268 (by omega) (by omega) (by omega) (by omega) ?_
                        refine V_iret (st := []) (pc := 269) X hQ dX10_hail_269 rfl rfl ?_
                        exact Or.inr ⟨⟨c_5, c_12, tb3.1, tb3.2, tb4.1, tb4.2⟩, A, by rw [← hur]; first | rw [if_pos c_253] | rw [if_neg c_253], rfl⟩
                      · skip
                        refine V_iload (pc := 256) X dX10_hail_256 rfl ?_
                        refine V_iload (pc := 258) X dX10_hail_258 rfl ?_
                        refine V_idivN (pc := 260) X dX10_hail_260 (by omega) (by omega) (by omega) (by omega) ?_
                        refine V_goto (pc := 261) X 269 dX10_hail_261 (by decide) ?_
                        refine V_iret (st := []) (pc := 269) X hQ dX10_hail_269 rfl rfl ?_
                        exact Or.inr ⟨⟨c_5, c_12, tb3.1, tb3.2, tb4.1, tb4.2⟩, A, by rw [← hur]; first | rw [if_pos c_253] | rw [if_neg c_253], rfl⟩
                    · skip
                      refine V_iload (pc := 233) X dX10_hail_233 rfl ?_
                      refine V_iload (pc := 235) X dX10_hail_235 rfl ?_
                      refine V_iremN (pc := 237) X dX10_hail_237 (by omega) (by omega) (by omega) (by omega) ?_
                      refine V_istore (pc := 238) X dX10_hail_238 (by exact Nat.le_of_ble_eq_true rfl) (by first | rfl | ((repeat (refine z_nl_set ?_ (by first | exact (show (0 : Nat) ≠ 1 by decide) | exact (show (2 : Nat) ≠ 1 by decide)))); first | rfl | (simp [z_nl, hz]; done) | (simp [z_nl, hz2]; done))) ?_
                      refine V_iload (pc := 240) X dX10_hail_240 rfl ?_
                      refine V_istore (pc := 242) X dX10_hail_242 (by exact Nat.le_of_ble_eq_true rfl) (by first | rfl | ((repeat (refine z_nl_set ?_ (by first | exact (show (0 : Nat) ≠ 1 by decide) | exact (show (2 : Nat) ≠ 1 by decide)))); first | rfl | (simp [z_nl, hz]; done) | (simp [z_nl, hz2]; done))) ?_
                      refine V_iload (pc := 244) X dX10_hail_244 rfl ?_
                      refine V_istore (pc := 246) X dX10_hail_246 (by exact Nat.le_of_ble_eq_true rfl) (by first | rfl | ((repeat (refine z_nl_set ?_ (by first | exact (show (0 : Nat) ≠ 1 by decide) | exact (show (2 : Nat) ≠ 1 by decide)))); first | rfl | (simp [z_nl, hz]; done) | (simp [z_nl, hz2]; done))) ?_
                      refine V_goto (pc := 248) X 228 dX10_hail_248 (by decide) ?_
                      have m1 := Int.emod_nonneg u (show v ≠ 0 by omega)
                      have m2 := Int.emod_lt_of_pos u (show 0 < v by omega)
                      exact ih_228 v (u % v) (0, u % v) (by omega) (by omega) (by omega) (by omega) (by omega) ((r_gc_step hu0 (by omega)).trans hg) (by show ¬ (0 : Nat) = 1; decide)
                exact lp_228 _ (r_ab h x y k a 4) 100 (9, 0) (Nat.lt_succ_self _) har.1 (by omega) (by decide) (by decide) rfl (by decide)
              · skip
                refine V_aload_n (pc := 81) X dX10_hail_81 rfl (by first | decide | omega | assumption) ?_
                refine V_gz (pc := 82) X dX10_hail_82 f_RX10_23 (by first | rfl | assumption | (simp only [*]; done) | omega) 5 rfl (show _ = (92 : Int) from by first | exact rb5 | ((repeat (first | rw [z_st_at] | rw [z_st_slot _ (by decide)] | rw [z_st_cell _ (by decide)] | rw [z_rw_ne _ _ (by decide)] | rw [r_rem_s (by decide)] | rw [r_rem_c (by decide) (by decide)] | rw [r_cp_ne (by decide)])); exact rb5)) ?_
                refine V_iconst (pc := 85) X dX10_hail_85 ?_
                refine V_aload_n (pc := 86) X dX10_hail_86 rfl (by first | decide | omega | assumption) ?_
                refine V_gz (pc := 87) X dX10_hail_87 f_RX10_26 (by first | rfl | assumption | (simp only [*]; done) | omega) 6 rfl (show _ = (93 : Int) from by first | exact rb6 | ((repeat (first | rw [z_st_at] | rw [z_st_slot _ (by decide)] | rw [z_st_cell _ (by decide)] | rw [z_rw_ne _ _ (by decide)] | rw [r_rem_s (by decide)] | rw [r_rem_c (by decide) (by decide)] | rw [r_cp_ne (by decide)])); exact rb6)) ?_
                refine V_iconst (pc := 90) X dX10_hail_90 ?_
                refine V_bipush (pc := 91) X dX10_hail_91 (by decide) ?_
                refine V_CS (pc := 93) X dX10_hail_93 oX10_copies l_RX10_162 sX10_copies ⟨Nat.le_of_ble_eq_true rfl, Nat.le_of_ble_eq_true rfl⟩ ⟨rfl, rfl⟩ ⟨Nat.le_of_ble_eq_true rfl, Nat.le_of_ble_eq_true rfl⟩ (ct_X10_copies (NA := 11) (NB := 11) rfl rfl (by decide) (by decide) (by decide) (by decide) (by decide) (by decide) (by decide) (by decide)) rfl (by rfl) (by exact Nat.le_of_ble_eq_true rfl) (fun r h1 hp => ?_)
                obtain ⟨rfl, rfl⟩ := hp
                rw [r_cp_asd, z_rw_twice]
                have cut_146 : ∀ (C : Int → Int), r_TE (r_abT h x y k (i : Int)) C → r_Mt C → z_V Γ (107, 0, 0) 146 [(2, 89), (0, x), (0, y), (0, k), (0, a), (0, w), (0, r_pn h (h 92) x y k false), (0, r_pn h (h 92) x y k true), (0, r_ab h x y k a i), (0, (i : Int)), z, (9, 0)] [] (z_rw h 93 C) := by
                  intro C hC hCm
                  have hOC : r_Ob (z_rw h 93 C) := hO.rw_ (by decide)
                  have hPC : r_Pl (z_rw h 93 C) := hP.rw_ (by decide) (by decide) (by decide)
                  have hTC : r_Mt (z_rw h 93 C 93) := by rw [z_rw_at]; exact hCm
                  have hon : r_on (z_rw h 93 C) (z_rw h 93 C 93) x y k = r_on h (r_abT h x y k (i : Int)) x y k := by rw [z_rw_at]; exact r_on_cg (r_Same.rw93 h _) hP hC x y k
                  have hlr := r_on_rng hP (T := r_abT h x y k (i : Int)) (x := x) (y := y) (k := k)
                  refine V_joinS 165 (fun z => z = if tb (i : Int) 0 = true then a else 10 - a) (fun J => ?_) (fun z1 hz1 => ?_)
                  · skip
                    refine V_iload (pc := 146) X dX10_hail_146 rfl ?_
                    refine V_iconst (pc := 148) X dX10_hail_148 ?_
                    refine V_FS (pc := 149) X dX10_hail_149 oX10_has l_RX10_172 sX10_has ⟨Nat.le_of_ble_eq_true rfl, Nat.le_of_ble_eq_true rfl⟩ ⟨rfl, rfl⟩ ⟨Nat.le_of_ble_eq_true rfl, Nat.le_of_ble_eq_true rfl⟩ (ct_X10_has (by omega) (by omega) (by omega) (by omega)) rfl (by rfl) (by exact Nat.le_of_ble_eq_true rfl) ?_
                    refine V_bif_eq (pc := 152) X 160 dX10_hail_152 (by decide)  (fun c_152 => ?_) (fun c_152 => ?_)
                    · skip
                      refine V_bipush (pc := 160) X dX10_hail_160 (by decide) ?_
                      refine V_iload (pc := 162) X dX10_hail_162 rfl ?_
                      refine V_isub (pc := 164) X dX10_hail_164 ?_
                      exact J _ (by first | rw [if_pos c_152] | rw [if_neg (by rw [c_152]; decide)])
                    · skip
                      refine V_iload (pc := 155) X dX10_hail_155 rfl ?_
                      refine V_goto (pc := 157) X 165 dX10_hail_157 (by decide) ?_
                      exact J _ (by first | rw [if_pos c_152] | rw [if_neg (by rw [c_152]; decide)])
                  · skip
                    refine V_joinS 184 (fun z => z = if tb (i : Int) 1 = true then a else 10 - a) (fun J => ?_) (fun z3 hz3 => ?_)
                    · skip
                      refine V_iload (pc := 165) X dX10_hail_165 rfl ?_
                      refine V_iconst (pc := 167) X dX10_hail_167 ?_
                      refine V_FS (pc := 168) X dX10_hail_168 oX10_has l_RX10_172 sX10_has ⟨Nat.le_of_ble_eq_true rfl, Nat.le_of_ble_eq_true rfl⟩ ⟨rfl, rfl⟩ ⟨Nat.le_of_ble_eq_true rfl, Nat.le_of_ble_eq_true rfl⟩ (ct_X10_has (by omega) (by omega) (by omega) (by omega)) rfl (by rfl) (by exact Nat.le_of_ble_eq_true rfl) ?_
                      refine V_bif_eq (pc := 171) X 179 dX10_hail_171 (by decide)  (fun c_171 => ?_) (fun c_171 => ?_)
                      · skip
                        refine V_bipush (pc := 179) X dX10_hail_179 (by decide) ?_
                        refine V_iload (pc := 181) X dX10_hail_181 rfl ?_
                        refine V_isub (pc := 183) X dX10_hail_183 ?_
                        exact J _ (by first | rw [if_pos c_171] | rw [if_neg (by rw [c_171]; decide)])
                      · skip
                        refine V_iload (pc := 174) X dX10_hail_174 rfl ?_
                        refine V_goto (pc := 176) X 184 dX10_hail_176 (by decide) ?_
                        exact J _ (by first | rw [if_pos c_171] | rw [if_neg (by rw [c_171]; decide)])
                    · skip
                      subst hz1
                      subst hz3
                      refine V_imul (pc := 184) X dX10_hail_184 ?_
                      refine V_istore (pc := 185) X dX10_hail_185 (by exact Nat.le_of_ble_eq_true rfl) (by first | rfl | ((repeat (refine z_nl_set ?_ (by first | exact (show (0 : Nat) ≠ 1 by decide) | exact (show (2 : Nat) ≠ 1 by decide)))); first | rfl | (simp [z_nl, hz]; done) | (simp [z_nl, hz2]; done))) ?_
                      refine V_iload (pc := 187) X dX10_hail_187 rfl ?_
                      refine V_aload_n (pc := 189) X dX10_hail_189 rfl (by first | decide | omega | assumption) ?_
                      refine V_aload_n (pc := 190) X dX10_hail_190 rfl (by first | decide | omega | assumption) ?_
                      refine V_gz (pc := 191) X dX10_hail_191 f_RX10_26 (by first | rfl | assumption | (simp only [*]; done) | omega) 6 rfl (show _ = (93 : Int) from by first | exact rb6 | ((repeat (first | rw [z_st_at] | rw [z_st_slot _ (by decide)] | rw [z_st_cell _ (by decide)] | rw [z_rw_ne _ _ (by decide)] | rw [r_rem_s (by decide)] | rw [r_rem_c (by decide) (by decide)] | rw [r_cp_ne (by decide)])); exact rb6)) ?_
                      refine V_iload_n (pc := 194) X dX10_hail_194 rfl ?_
                      refine V_iload_n (pc := 195) X dX10_hail_195 rfl ?_
                      refine V_iload_n (pc := 196) X dX10_hail_196 rfl ?_
                      refine V_FV (pc := 197) X dX10_hail_197 oX10_lightOn l_RX10_193 eX10_lightOn vX10_lightOn ⟨Nat.le_of_ble_eq_true rfl, Nat.le_of_ble_eq_true rfl⟩ ⟨rfl, rfl⟩ ⟨Nat.le_of_ble_eq_true rfl, Nat.le_of_ble_eq_true rfl⟩ (ct_X10_lightOn hOC hPC rfl hTC (by omega) (by omega) (by omega) (by omega) (by omega) (by omega)) rfl (by first | rfl | assumption | (simp only [*]; done) | omega) (by intro q h; cases h; rfl) rfl (by rfl) (by exact Nat.le_of_ble_eq_true rfl) ?_
                      rw [hon]
                      refine V_bipush (pc := 200) X dX10_hail_200 (by decide) ?_
                      refine V_icmp_ne (pc := 202) X 210 dX10_hail_202 (by decide) ⟨by omega, by omega⟩ ⟨by omega, by omega⟩ (fun c_202 => ?_) (fun c_202 => ?_)
                      · skip
                        refine V_iconst (pc := 210) X dX10_hail_210 ?_
                        refine V_iadd (pc := 211) X dX10_hail_211 ?_
                        refine V_istore (pc := 212) X dX10_hail_212 (by exact Nat.le_of_ble_eq_true rfl) (by first | rfl | ((repeat (refine z_nl_set ?_ (by first | exact (show (0 : Nat) ≠ 1 by decide) | exact (show (2 : Nat) ≠ 1 by decide)))); first | rfl | (simp [z_nl, hz]; done) | (simp [z_nl, hz2]; done))) ?_
                        refine V_iinc (pc := 214) X dX10_hail_214 rfl (by first | rfl | ((repeat (refine z_nl_set ?_ (by first | exact (show (0 : Nat) ≠ 1 by decide) | exact (show (2 : Nat) ≠ 1 by decide)))); first | rfl | (simp [z_nl, hz]; done) | (simp [z_nl, hz2]; done))) ?_
                        refine V_goto (pc := 217) X 75 dX10_hail_217 (by decide) ?_
                        first
                          | (refine V_loc ?_ (ih_75 (i + 1) C (0, r_way a (i : Int)) (by omega) (by omega) (by show ¬ (0 : Nat) = 1; decide)); show [_, _, _, _, _, _, _, _, _, _, _, _] = [_, _, _, _, _, _, _, _, _, _, _, _]; rw [show r_ab h x y k a (i + 1) = r_ab h x y k a i + r_way a (i : Int) from by unfold r_ab; rw [z_sum, show r_abF h x y k a (i : Int) = r_way a (i : Int) from if_pos c_202]]; rfl)
                          | (refine V_loc ?_ (ih_75 (i + 1) C (0, r_way a (i : Int)) (by omega) (by omega) (by show ¬ (0 : Nat) = 1; decide)); show [_, _, _, _, _, _, _, _, _, _, _, _] = [_, _, _, _, _, _, _, _, _, _, _, _]; rw [show r_ab h x y k a (i + 1) = r_ab h x y k a i + 0 from by unfold r_ab; rw [z_sum, show r_abF h x y k a (i : Int) = 0 from if_neg c_202]]; rfl)
                      · skip
                        refine V_iload (pc := 205) X dX10_hail_205 rfl ?_
                        refine V_goto (pc := 207) X 211 dX10_hail_207 (by decide) ?_
                        refine V_iadd (pc := 211) X dX10_hail_211 ?_
                        refine V_istore (pc := 212) X dX10_hail_212 (by exact Nat.le_of_ble_eq_true rfl) (by first | rfl | ((repeat (refine z_nl_set ?_ (by first | exact (show (0 : Nat) ≠ 1 by decide) | exact (show (2 : Nat) ≠ 1 by decide)))); first | rfl | (simp [z_nl, hz]; done) | (simp [z_nl, hz2]; done))) ?_
                        refine V_iinc (pc := 214) X dX10_hail_214 rfl (by first | rfl | ((repeat (refine z_nl_set ?_ (by first | exact (show (0 : Nat) ≠ 1 by decide) | exact (show (2 : Nat) ≠ 1 by decide)))); first | rfl | (simp [z_nl, hz]; done) | (simp [z_nl, hz2]; done))) ?_
                        refine V_goto (pc := 217) X 75 dX10_hail_217 (by decide) ?_
                        first
                          | (refine V_loc ?_ (ih_75 (i + 1) C (0, r_way a (i : Int)) (by omega) (by omega) (by show ¬ (0 : Nat) = 1; decide)); show [_, _, _, _, _, _, _, _, _, _, _, _] = [_, _, _, _, _, _, _, _, _, _, _, _]; rw [show r_ab h x y k a (i + 1) = r_ab h x y k a i + r_way a (i : Int) from by unfold r_ab; rw [z_sum, show r_abF h x y k a (i : Int) = r_way a (i : Int) from if_pos c_202]]; rfl)
                          | (refine V_loc ?_ (ih_75 (i + 1) C (0, r_way a (i : Int)) (by omega) (by omega) (by show ¬ (0 : Nat) = 1; decide)); show [_, _, _, _, _, _, _, _, _, _, _, _] = [_, _, _, _, _, _, _, _, _, _, _, _]; rw [show r_ab h x y k a (i + 1) = r_ab h x y k a i + 0 from by unfold r_ab; rw [z_sum, show r_abF h x y k a (i : Int) = 0 from if_neg c_202]]; rfl)
                have cut_121 : ∀ (B : Int → Int), r_TE (r_h1 (h 92) (r_pn h (h 92) x y k false) (tb (i : Int) 0)) B → r_Mt B → z_V Γ (107, 0, 0) 121 [(2, 89), (0, x), (0, y), (0, k), (0, a), (0, w), (0, r_pn h (h 92) x y k false), (0, r_pn h (h 92) x y k true), (0, r_ab h x y k a i), (0, (i : Int)), z, (9, 0)] [] (z_rw h 93 B) := by
                  intro B hB hBm
                  refine V_iload (pc := 121) X dX10_hail_121 rfl ?_
                  refine V_iconst (pc := 123) X dX10_hail_123 ?_
                  refine V_FS (pc := 124) X dX10_hail_124 oX10_has l_RX10_172 sX10_has ⟨Nat.le_of_ble_eq_true rfl, Nat.le_of_ble_eq_true rfl⟩ ⟨rfl, rfl⟩ ⟨Nat.le_of_ble_eq_true rfl, Nat.le_of_ble_eq_true rfl⟩ (ct_X10_has (by omega) (by omega) (by omega) (by omega)) rfl (by rfl) (by exact Nat.le_of_ble_eq_true rfl) ?_
                  refine V_bif_eq (pc := 127) X 146 dX10_hail_127 (by decide)  (fun c_127 => ?_) (fun c_127 => ?_)
                  · skip
                    first
                      | exact cut_146 _ (r_abT_te hB (r_h1_te1 (r_TE.rf B) c_127)) hBm
                      | exact cut_146 _ (r_abT_te hB (r_h1_te2 (r_TE.rf B) c_134)) hBm
                      | exact cut_146 _ (r_abT_te hB (r_h1_te3 (r_TE.rf B) c_127 c_134)) (hBm.brk (htwo c_134).1 (htwo c_134).2)
                  · skip
                    refine V_iload (pc := 130) X dX10_hail_130 rfl ?_
                    refine V_bipush (pc := 132) X dX10_hail_132 (by decide) ?_
                    refine V_icmp_eq (pc := 134) X 146 dX10_hail_134 (by decide) ⟨by omega, by omega⟩ ⟨by omega, by omega⟩ (fun c_134 => ?_) (fun c_134 => ?_)
                    · skip
                      first
                        | exact cut_146 _ (r_abT_te hB (r_h1_te1 (r_TE.rf B) c_127)) hBm
                        | exact cut_146 _ (r_abT_te hB (r_h1_te2 (r_TE.rf B) c_134)) hBm
                        | exact cut_146 _ (r_abT_te hB (r_h1_te3 (r_TE.rf B) c_127 c_134)) (hBm.brk (htwo c_134).1 (htwo c_134).2)
                    · skip
                      refine V_aload_n (pc := 137) X dX10_hail_137 rfl (by first | decide | omega | assumption) ?_
                      refine V_gz (pc := 138) X dX10_hail_138 f_RX10_26 (by first | rfl | assumption | (simp only [*]; done) | omega) 6 rfl (show _ = (93 : Int) from by first | exact rb6 | ((repeat (first | rw [z_st_at] | rw [z_st_slot _ (by decide)] | rw [z_st_cell _ (by decide)] | rw [z_rw_ne _ _ (by decide)] | rw [r_rem_s (by decide)] | rw [r_rem_c (by decide) (by decide)] | rw [r_cp_ne (by decide)])); exact rb6)) ?_
                      refine V_iload (pc := 141) X dX10_hail_141 rfl ?_
                      refine V_CS (pc := 143) X dX10_hail_143 oX10_breaksOn l_RX10_207 sX10_breaksOn ⟨Nat.le_of_ble_eq_true rfl, Nat.le_of_ble_eq_true rfl⟩ ⟨rfl, rfl⟩ ⟨Nat.le_of_ble_eq_true rfl, Nat.le_of_ble_eq_true rfl⟩ (ct_X10_breaksOn rfl (fun q a b => by rw [z_rw_at]; have := hBm.1 q a b; exact ⟨by omega, by omega⟩) (by omega) (by omega)) rfl (by rfl) (by exact Nat.le_of_ble_eq_true rfl) (fun r h1 hp => ?_)
                      obtain ⟨rfl, rfl⟩ := hp
                      rw [z_rw_at, z_rw_twice]
                      first
                        | exact cut_146 _ (r_abT_te hB (r_h1_te1 (r_TE.rf B) c_127)) hBm
                        | exact cut_146 _ (r_abT_te hB (r_h1_te2 (r_TE.rf B) c_134)) hBm
                        | exact cut_146 _ (r_abT_te hB (r_h1_te3 (r_TE.rf B) c_127 c_134)) (hBm.brk (htwo c_134).1 (htwo c_134).2)
                refine V_iload (pc := 96) X dX10_hail_96 rfl ?_
                refine V_iconst (pc := 98) X dX10_hail_98 ?_
                refine V_FS (pc := 99) X dX10_hail_99 oX10_has l_RX10_172 sX10_has ⟨Nat.le_of_ble_eq_true rfl, Nat.le_of_ble_eq_true rfl⟩ ⟨rfl, rfl⟩ ⟨Nat.le_of_ble_eq_true rfl, Nat.le_of_ble_eq_true rfl⟩ (ct_X10_has (by omega) (by omega) (by omega) (by omega)) rfl (by rfl) (by exact Nat.le_of_ble_eq_true rfl) ?_
                refine V_bif_eq (pc := 102) X 121 dX10_hail_102 (by decide)  (fun c_102 => ?_) (fun c_102 => ?_)
                · skip
                  first
                    | exact cut_121 _ (r_h1_te1 hte0 c_102) hmt0
                    | exact cut_121 _ (r_h1_te2 hte0 c_109) hmt0
                    | exact cut_121 _ (r_h1_te3 hte0 c_102 c_109) (hmt0.brk (hone c_109).1 (hone c_109).2)
                · skip
                  refine V_iload (pc := 105) X dX10_hail_105 rfl ?_
                  refine V_bipush (pc := 107) X dX10_hail_107 (by decide) ?_
                  refine V_icmp_eq (pc := 109) X 121 dX10_hail_109 (by decide) ⟨by omega, by omega⟩ ⟨by omega, by omega⟩ (fun c_109 => ?_) (fun c_109 => ?_)
                  · skip
                    first
                      | exact cut_121 _ (r_h1_te1 hte0 c_102) hmt0
                      | exact cut_121 _ (r_h1_te2 hte0 c_109) hmt0
                      | exact cut_121 _ (r_h1_te3 hte0 c_102 c_109) (hmt0.brk (hone c_109).1 (hone c_109).2)
                  · skip
                    refine V_aload_n (pc := 112) X dX10_hail_112 rfl (by first | decide | omega | assumption) ?_
                    refine V_gz (pc := 113) X dX10_hail_113 f_RX10_26 (by first | rfl | assumption | (simp only [*]; done) | omega) 6 rfl (show _ = (93 : Int) from by first | exact rb6 | ((repeat (first | rw [z_st_at] | rw [z_st_slot _ (by decide)] | rw [z_st_cell _ (by decide)] | rw [z_rw_ne _ _ (by decide)] | rw [r_rem_s (by decide)] | rw [r_rem_c (by decide) (by decide)] | rw [r_cp_ne (by decide)])); exact rb6)) ?_
                    refine V_iload (pc := 116) X dX10_hail_116 rfl ?_
                    refine V_CS (pc := 118) X dX10_hail_118 oX10_breaksOn l_RX10_207 sX10_breaksOn ⟨Nat.le_of_ble_eq_true rfl, Nat.le_of_ble_eq_true rfl⟩ ⟨rfl, rfl⟩ ⟨Nat.le_of_ble_eq_true rfl, Nat.le_of_ble_eq_true rfl⟩ (ct_X10_breaksOn rfl (fun q a b => by rw [z_rw_at]; have := hmt0.1 q a b; exact ⟨by omega, by omega⟩) (by omega) (by omega)) rfl (by rfl) (by exact Nat.le_of_ble_eq_true rfl) (fun r h1 hp => ?_)
                    obtain ⟨rfl, rfl⟩ := hp
                    rw [z_rw_at, z_rw_twice]
                    first
                      | exact cut_121 _ (r_h1_te1 hte0 c_102) hmt0
                      | exact cut_121 _ (r_h1_te2 hte0 c_109) hmt0
                      | exact cut_121 _ (r_h1_te3 hte0 c_102 c_109) (hmt0.brk (hone c_109).1 (hone c_109).2)
          refine V_heap (h' := z_rw h 93 (h 93)) (z_rw_same h 93).symm ?_
          exact lp_75 _ 0 (h 93) (9, 0) (Nat.lt_succ_self _) (by decide) (by decide)
        · skip
          refine V_iconst (pc := 39) X dX10_hail_39 ?_
          refine V_iret (st := []) (pc := 40) X hQ dX10_hail_40 rfl rfl ?_
          exact Or.inl ⟨by intro g; obtain ⟨g1, g2, g3, g4, g5, g6⟩ := g; first | (rw [c_5] at g1; exact absurd g1 (by decide)) | (rw [c_12] at g2; exact absurd g2 (by decide)) | (have := of_decide_eq_false c_25; omega) | (have := of_decide_eq_false c_36; omega), rfl, rfl⟩
set_option maxHeartbeats 4000000 in
set_option maxRecDepth 100000 in
theorem ct_X10_look {h : z_H} (hO : r_Ob h) (hP : r_Pl h) (hT : r_Mt (h 92)) (hG : r_Sg h) : z_Ct mX10_look 107 [(2, 89)] h (fun r h2 => ∃ A B : Int → Int, r = some (0, r_lookF h) ∧ h2 = z_rw (z_rw h 93 A) 106 B) := by
  refine z_mk (L := [(2, 89), (9, 0), (9, 0), (9, 0), (9, 0), (9, 0), (9, 0), (9, 0)]) oX10_look.2.2.2.2 (Nat.le_of_ble_eq_true rfl) rfl ?_
  intro Γ X hQ
  obtain ⟨rb2, rb3, rb5, rb6, rb7, rb9, rb10, rb11, rb12, rb13, rb15, rb25, rb26, rb30, rb31, rb32, rb33⟩ := id hO
  obtain ⟨⟨hw1, hw2⟩, ⟨hh1, hh2⟩, ⟨hs1, hs2⟩, hgl, hco⟩ := id hP
  obtain ⟨tw, ⟨tb1, tb2⟩, ⟨tm1, tm2⟩, ⟨ts1, ts2⟩⟩ := id hT
  have kc : z_kd 107 92 = (1, 11) := rfl
  obtain ⟨⟨sg1, sg2⟩, hsg⟩ := id hG
  refine V_aload_n (pc := 0) X dX10_look_0 rfl (by first | decide | omega | assumption) ?_
  refine V_CV (pc := 1) X dX10_look_1 oX10_suspects l_RX10_279 eX10_suspects vX10_suspects ⟨Nat.le_of_ble_eq_true rfl, Nat.le_of_ble_eq_true rfl⟩ ⟨rfl, rfl⟩ ⟨Nat.le_of_ble_eq_true rfl, Nat.le_of_ble_eq_true rfl⟩ (ct_X10_suspects hO hP hT hG) rfl (by first | rfl | assumption | (simp only [*]; done) | omega) (by intro q h; cases h; rfl) rfl (by rfl) (by exact Nat.le_of_ble_eq_true rfl) (fun r h1 hp => ?_)
  obtain ⟨A0, rfl, rfl⟩ := hp
  have hsl := r_sus_lt h
  refine V_istore_n (pc := 4) X dX10_look_4 (by exact Nat.le_of_ble_eq_true rfl) (by first | rfl | ((repeat (refine z_nl_set ?_ (by first | exact (show (0 : Nat) ≠ 1 by decide) | exact (show (2 : Nat) ≠ 1 by decide)))); first | rfl | (simp [z_nl, hz5, hz6, hz7]; done) | (simp [z_nl, hz6, hz7]; done) | (simp [z_nl, hz8]; done))) ?_
  refine V_bipush (pc := 5) X dX10_look_5 (by decide) ?_
  refine V_istore_n (pc := 7) X dX10_look_7 (by exact Nat.le_of_ble_eq_true rfl) (by first | rfl | ((repeat (refine z_nl_set ?_ (by first | exact (show (0 : Nat) ≠ 1 by decide) | exact (show (2 : Nat) ≠ 1 by decide)))); first | rfl | (simp [z_nl, hz5, hz6, hz7]; done) | (simp [z_nl, hz6, hz7]; done) | (simp [z_nl, hz8]; done))) ?_
  refine V_ldc (pc := 8) X (1000000) dX10_look_8 c_RX10_236 (by decide) ?_
  refine V_istore_n (pc := 10) X dX10_look_10 (by exact Nat.le_of_ble_eq_true rfl) (by first | rfl | ((repeat (refine z_nl_set ?_ (by first | exact (show (0 : Nat) ≠ 1 by decide) | exact (show (2 : Nat) ≠ 1 by decide)))); first | rfl | (simp [z_nl, hz5, hz6, hz7]; done) | (simp [z_nl, hz6, hz7]; done) | (simp [z_nl, hz8]; done))) ?_
  refine V_iconst (pc := 11) X dX10_look_11 ?_
  refine V_istore (pc := 12) X dX10_look_12 (by exact Nat.le_of_ble_eq_true rfl) (by first | rfl | ((repeat (refine z_nl_set ?_ (by first | exact (show (0 : Nat) ≠ 1 by decide) | exact (show (2 : Nat) ≠ 1 by decide)))); first | rfl | (simp [z_nl, hz5, hz6, hz7]; done) | (simp [z_nl, hz6, hz7]; done) | (simp [z_nl, hz8]; done))) ?_
  have lp_14 : ∀ (m : Nat) (i : Nat) (A B : Int → Int) (z5 z6 z7 : Nat × Int), 672 - i < m → i ≤ 672 → (((r_sus h : Nat) : Int) = 0 → i = 0) → ¬ z5.1 = 1 → ¬ z6.1 = 1 → ¬ z7.1 = 1 → z_V Γ (107, 0, 0) 14 [(2, 89), (0, ((r_sus h : Nat) : Int)), (0, (r_best h ((r_sus h : Nat) : Int) i).1), (0, (r_best h ((r_sus h : Nat) : Int) i).2), (0, (i : Int)), z5, z6, z7] [] (z_rw (z_rw h 93 A) 106 B) := by
    intro m
    induction m with
    | zero => intro i A B z5 z6 z7 hm; exact absurd hm (Nat.not_lt_zero _)
    | succ m ih_14 =>
      intro i A B z5 z6 z7 hm hi1 hS0 hz5 hz6 hz7
      have hbr := r_best_rng h ((r_sus h : Nat) : Int) i hi1
      refine V_iload (pc := 14) X dX10_look_14 rfl ?_
      refine V_sipush (pc := 16) X dX10_look_16 (by decide) ?_
      refine V_icmp_ge (pc := 19) X 184 dX10_look_19 (by decide) ⟨by omega, by omega⟩ ⟨by omega, by omega⟩ (fun c_19 => ?_) (fun c_19 => ?_)
      · skip
        refine V_iload_n (pc := 184) X dX10_look_184 rfl ?_
        refine V_iret (st := []) (pc := 185) X hQ dX10_look_185 rfl rfl ?_
        exact ⟨A, B, by congr 2; unfold r_lookF; first | (rw [if_pos c_23, hS0 c_23]; rfl) | (rw [if_neg (fun g => by have := hS0 g; omega), show i = 672 by omega]), rfl⟩
      · skip
        refine V_iload_n (pc := 22) X dX10_look_22 rfl ?_
        refine V_if_eq (pc := 23) X 184 dX10_look_23 (by decide) ⟨by omega, by omega⟩ (fun c_23 => ?_) (fun c_23 => ?_)
        · skip
          refine V_iload_n (pc := 184) X dX10_look_184 rfl ?_
          refine V_iret (st := []) (pc := 185) X hQ dX10_look_185 rfl rfl ?_
          exact ⟨A, B, by congr 2; unfold r_lookF; first | (rw [if_pos c_23, hS0 c_23]; rfl) | (rw [if_neg (fun g => by have := hS0 g; omega), show i = 672 by omega]), rfl⟩
        · skip
          refine V_iconst (pc := 26) X dX10_look_26 ?_
          refine V_istore (pc := 27) X dX10_look_27 (by exact Nat.le_of_ble_eq_true rfl) (by first | rfl | ((repeat (refine z_nl_set ?_ (by first | exact (show (0 : Nat) ≠ 1 by decide) | exact (show (2 : Nat) ≠ 1 by decide)))); first | rfl | (simp [z_nl, hz5, hz6, hz7]; done) | (simp [z_nl, hz6, hz7]; done) | (simp [z_nl, hz8]; done))) ?_
          have lp_29 : ∀ (m : Nat) (e : Int), (8 - e).toNat < m → 0 ≤ e → e ≤ 8 → z_V Γ (107, 0, 0) 29 [(2, 89), (0, ((r_sus h : Nat) : Int)), (0, (r_best h ((r_sus h : Nat) : Int) i).1), (0, (r_best h ((r_sus h : Nat) : Int) i).2), (0, (i : Int)), (0, e), z6, z7] [] (z_rw (z_rw h 93 A) 106 (fun r => if 0 ≤ r ∧ r < e then 0 else B r)) := by
            intro m
            induction m with
            | zero => intro e hm; exact absurd hm (Nat.not_lt_zero _)
            | succ m ih_29 =>
              intro e hm he0 he1
              refine V_iload (pc := 29) X dX10_look_29 rfl ?_
              refine V_bipush (pc := 31) X dX10_look_31 (by decide) ?_
              refine V_icmp_ge (pc := 33) X 50 dX10_look_33 (by decide) ⟨by omega, by omega⟩ ⟨by omega, by omega⟩ (fun c_33 => ?_) (fun c_33 => ?_)
              · skip
                obtain rfl : e = 8 := by omega
                refine V_iconst (pc := 50) X dX10_look_50 ?_
                refine V_istore (pc := 51) X dX10_look_51 (by exact Nat.le_of_ble_eq_true rfl) (by first | rfl | ((repeat (refine z_nl_set ?_ (by first | exact (show (0 : Nat) ≠ 1 by decide) | exact (show (2 : Nat) ≠ 1 by decide)))); first | rfl | (simp [z_nl, hz5, hz6, hz7]; done) | (simp [z_nl, hz6, hz7]; done) | (simp [z_nl, hz8]; done))) ?_
                refine V_iconst (pc := 53) X dX10_look_53 ?_
                refine V_istore (pc := 54) X dX10_look_54 (by exact Nat.le_of_ble_eq_true rfl) (by first | rfl | ((repeat (refine z_nl_set ?_ (by first | exact (show (0 : Nat) ≠ 1 by decide) | exact (show (2 : Nat) ≠ 1 by decide)))); first | rfl | (simp [z_nl, hz5, hz6, hz7]; done) | (simp [z_nl, hz6, hz7]; done) | (simp [z_nl, hz8]; done))) ?_
                have lp_56 : ∀ (m : Nat) (j : Nat) (A2 B2 : Int → Int) (z8 : Nat × Int), 21 - j < m → j ≤ 21 → (∀ c, 0 ≤ c → c < 8 → B2 c = r_cnt h ((r_sus h : Nat) : Int) (i : Int) c j) → ¬ z8.1 = 1 → z_V Γ (107, 0, 0) 56 [(2, 89), (0, ((r_sus h : Nat) : Int)), (0, (r_best h ((r_sus h : Nat) : Int) i).1), (0, (r_best h ((r_sus h : Nat) : Int) i).2), (0, (i : Int)), (0, r_most h ((r_sus h : Nat) : Int) (i : Int) j), (0, (j : Int)), z8] [] (z_rw (z_rw h 93 A2) 106 B2) := by
                  intro m
                  induction m with
                  | zero => intro j A2 B2 z8 hm; exact absurd hm (Nat.not_lt_zero _)
                  | succ m ih_56 =>
                    intro j A2 B2 z8 hm hj1 hB2 hz8
                    have hmr := r_most_rng h ((r_sus h : Nat) : Int) (i : Int) j
                    refine V_iload (pc := 56) X dX10_look_56 rfl ?_
                    refine V_bipush (pc := 58) X dX10_look_58 (by decide) ?_
                    refine V_icmp_ge (pc := 60) X 152 dX10_look_60 (by decide) ⟨by omega, by omega⟩ ⟨by omega, by omega⟩ (fun c_60 => ?_) (fun c_60 => ?_)
                    · skip
                      obtain rfl : j = 21 := by omega
                      refine V_iload (pc := 152) X dX10_look_152 rfl ?_
                      refine V_iload_n (pc := 154) X dX10_look_154 rfl ?_
                      refine V_icmp_ge (pc := 155) X 163 dX10_look_155 (by decide) ⟨by omega, by omega⟩ ⟨by omega, by omega⟩ (fun c_155 => ?_) (fun c_155 => ?_)
                      · skip
                        refine V_iload_n (pc := 163) X dX10_look_163 rfl ?_
                        refine V_istore_n (pc := 164) X dX10_look_164 (by exact Nat.le_of_ble_eq_true rfl) (by first | rfl | ((repeat (refine z_nl_set ?_ (by first | exact (show (0 : Nat) ≠ 1 by decide) | exact (show (2 : Nat) ≠ 1 by decide)))); first | rfl | (simp [z_nl, hz5, hz6, hz7]; done) | (simp [z_nl, hz6, hz7]; done) | (simp [z_nl, hz8]; done))) ?_
                        refine V_iload (pc := 165) X dX10_look_165 rfl ?_
                        refine V_iload_n (pc := 167) X dX10_look_167 rfl ?_
                        refine V_icmp_ge (pc := 168) X 176 dX10_look_168 (by decide) ⟨by omega, by omega⟩ ⟨by omega, by omega⟩ (fun c_168 => ?_) (fun c_168 => ?_)
                        · skip
                          refine V_iload_n (pc := 176) X dX10_look_176 rfl ?_
                          refine V_istore_n (pc := 177) X dX10_look_177 (by exact Nat.le_of_ble_eq_true rfl) (by first | rfl | ((repeat (refine z_nl_set ?_ (by first | exact (show (0 : Nat) ≠ 1 by decide) | exact (show (2 : Nat) ≠ 1 by decide)))); first | rfl | (simp [z_nl, hz5, hz6, hz7]; done) | (simp [z_nl, hz6, hz7]; done) | (simp [z_nl, hz8]; done))) ?_
                          refine V_iinc (pc := 178) X dX10_look_178 rfl (by first | rfl | ((repeat (refine z_nl_set ?_ (by first | exact (show (0 : Nat) ≠ 1 by decide) | exact (show (2 : Nat) ≠ 1 by decide)))); first | rfl | (simp [z_nl, hz5, hz6, hz7]; done) | (simp [z_nl, hz6, hz7]; done) | (simp [z_nl, hz8]; done))) ?_
                          refine V_goto (pc := 181) X 14 dX10_look_181 (by decide) ?_
                          have hamn : ∀ hq : r_most h ((r_sus h : Nat) : Int) (i : Int) 21 < (r_best h ((r_sus h : Nat) : Int) i).2, r_best h ((r_sus h : Nat) : Int) (i + 1) = ((i : Int), r_most h ((r_sus h : Nat) : Int) (i : Int) 21) := fun hq => if_pos ⟨rfl, hq⟩
                          have hamy : ∀ hq : ¬ r_most h ((r_sus h : Nat) : Int) (i : Int) 21 < (r_best h ((r_sus h : Nat) : Int) i).2, r_best h ((r_sus h : Nat) : Int) (i + 1) = r_best h ((r_sus h : Nat) : Int) i := fun hq => if_neg (fun g => hq g.2)
                          first
                            | exact absurd c_155 c_168
                            | exact absurd c_168 c_155
                            | (refine V_loc ?_ (ih_14 (i + 1) A2 B2 (0, r_most h ((r_sus h : Nat) : Int) (i : Int) 21) (0, 21) z8 (by omega) (by omega) (fun g => absurd g c_23) (by show ¬ (0 : Nat) = 1; decide) (by show ¬ (0 : Nat) = 1; decide) hz8); show [_, _, _, _, _, _, _, _] = [_, _, _, _, _, _, _, _]; rw [hamn (Int.not_le.mp c_155)]; rfl)
                            | (refine V_loc ?_ (ih_14 (i + 1) A2 B2 (0, r_most h ((r_sus h : Nat) : Int) (i : Int) 21) (0, 21) z8 (by omega) (by omega) (fun g => absurd g c_23) (by show ¬ (0 : Nat) = 1; decide) (by show ¬ (0 : Nat) = 1; decide) hz8); show [_, _, _, _, _, _, _, _] = [_, _, _, _, _, _, _, _]; rw [hamy (Int.not_lt.mpr c_155)]; rfl)
                        · skip
                          refine V_iload (pc := 171) X dX10_look_171 rfl ?_
                          refine V_goto (pc := 173) X 177 dX10_look_173 (by decide) ?_
                          refine V_istore_n (pc := 177) X dX10_look_177 (by exact Nat.le_of_ble_eq_true rfl) (by first | rfl | ((repeat (refine z_nl_set ?_ (by first | exact (show (0 : Nat) ≠ 1 by decide) | exact (show (2 : Nat) ≠ 1 by decide)))); first | rfl | (simp [z_nl, hz5, hz6, hz7]; done) | (simp [z_nl, hz6, hz7]; done) | (simp [z_nl, hz8]; done))) ?_
                          refine V_iinc (pc := 178) X dX10_look_178 rfl (by first | rfl | ((repeat (refine z_nl_set ?_ (by first | exact (show (0 : Nat) ≠ 1 by decide) | exact (show (2 : Nat) ≠ 1 by decide)))); first | rfl | (simp [z_nl, hz5, hz6, hz7]; done) | (simp [z_nl, hz6, hz7]; done) | (simp [z_nl, hz8]; done))) ?_
                          refine V_goto (pc := 181) X 14 dX10_look_181 (by decide) ?_
                          have hamn : ∀ hq : r_most h ((r_sus h : Nat) : Int) (i : Int) 21 < (r_best h ((r_sus h : Nat) : Int) i).2, r_best h ((r_sus h : Nat) : Int) (i + 1) = ((i : Int), r_most h ((r_sus h : Nat) : Int) (i : Int) 21) := fun hq => if_pos ⟨rfl, hq⟩
                          have hamy : ∀ hq : ¬ r_most h ((r_sus h : Nat) : Int) (i : Int) 21 < (r_best h ((r_sus h : Nat) : Int) i).2, r_best h ((r_sus h : Nat) : Int) (i + 1) = r_best h ((r_sus h : Nat) : Int) i := fun hq => if_neg (fun g => hq g.2)
                          first
                            | exact absurd c_155 c_168
                            | exact absurd c_168 c_155
                            | (refine V_loc ?_ (ih_14 (i + 1) A2 B2 (0, r_most h ((r_sus h : Nat) : Int) (i : Int) 21) (0, 21) z8 (by omega) (by omega) (fun g => absurd g c_23) (by show ¬ (0 : Nat) = 1; decide) (by show ¬ (0 : Nat) = 1; decide) hz8); show [_, _, _, _, _, _, _, _] = [_, _, _, _, _, _, _, _]; rw [hamn (Int.not_le.mp c_155)]; rfl)
                            | (refine V_loc ?_ (ih_14 (i + 1) A2 B2 (0, r_most h ((r_sus h : Nat) : Int) (i : Int) 21) (0, 21) z8 (by omega) (by omega) (fun g => absurd g c_23) (by show ¬ (0 : Nat) = 1; decide) (by show ¬ (0 : Nat) = 1; decide) hz8); show [_, _, _, _, _, _, _, _] = [_, _, _, _, _, _, _, _]; rw [hamy (Int.not_lt.mpr c_155)]; rfl)
                      · skip
                        refine V_iload (pc := 158) X dX10_look_158 rfl ?_
                        refine V_goto (pc := 160) X 164 dX10_look_160 (by decide) ?_
                        refine V_istore_n (pc := 164) X dX10_look_164 (by exact Nat.le_of_ble_eq_true rfl) (by first | rfl | ((repeat (refine z_nl_set ?_ (by first | exact (show (0 : Nat) ≠ 1 by decide) | exact (show (2 : Nat) ≠ 1 by decide)))); first | rfl | (simp [z_nl, hz5, hz6, hz7]; done) | (simp [z_nl, hz6, hz7]; done) | (simp [z_nl, hz8]; done))) ?_
                        refine V_iload (pc := 165) X dX10_look_165 rfl ?_
                        refine V_iload_n (pc := 167) X dX10_look_167 rfl ?_
                        refine V_icmp_ge (pc := 168) X 176 dX10_look_168 (by decide) ⟨by omega, by omega⟩ ⟨by omega, by omega⟩ (fun c_168 => ?_) (fun c_168 => ?_)
                        · skip
                          refine V_iload_n (pc := 176) X dX10_look_176 rfl ?_
                          refine V_istore_n (pc := 177) X dX10_look_177 (by exact Nat.le_of_ble_eq_true rfl) (by first | rfl | ((repeat (refine z_nl_set ?_ (by first | exact (show (0 : Nat) ≠ 1 by decide) | exact (show (2 : Nat) ≠ 1 by decide)))); first | rfl | (simp [z_nl, hz5, hz6, hz7]; done) | (simp [z_nl, hz6, hz7]; done) | (simp [z_nl, hz8]; done))) ?_
                          refine V_iinc (pc := 178) X dX10_look_178 rfl (by first | rfl | ((repeat (refine z_nl_set ?_ (by first | exact (show (0 : Nat) ≠ 1 by decide) | exact (show (2 : Nat) ≠ 1 by decide)))); first | rfl | (simp [z_nl, hz5, hz6, hz7]; done) | (simp [z_nl, hz6, hz7]; done) | (simp [z_nl, hz8]; done))) ?_
                          refine V_goto (pc := 181) X 14 dX10_look_181 (by decide) ?_
                          have hamn : ∀ hq : r_most h ((r_sus h : Nat) : Int) (i : Int) 21 < (r_best h ((r_sus h : Nat) : Int) i).2, r_best h ((r_sus h : Nat) : Int) (i + 1) = ((i : Int), r_most h ((r_sus h : Nat) : Int) (i : Int) 21) := fun hq => if_pos ⟨rfl, hq⟩
                          have hamy : ∀ hq : ¬ r_most h ((r_sus h : Nat) : Int) (i : Int) 21 < (r_best h ((r_sus h : Nat) : Int) i).2, r_best h ((r_sus h : Nat) : Int) (i + 1) = r_best h ((r_sus h : Nat) : Int) i := fun hq => if_neg (fun g => hq g.2)
                          first
                            | exact absurd c_155 c_168
                            | exact absurd c_168 c_155
                            | (refine V_loc ?_ (ih_14 (i + 1) A2 B2 (0, r_most h ((r_sus h : Nat) : Int) (i : Int) 21) (0, 21) z8 (by omega) (by omega) (fun g => absurd g c_23) (by show ¬ (0 : Nat) = 1; decide) (by show ¬ (0 : Nat) = 1; decide) hz8); show [_, _, _, _, _, _, _, _] = [_, _, _, _, _, _, _, _]; rw [hamn (Int.not_le.mp c_155)]; rfl)
                            | (refine V_loc ?_ (ih_14 (i + 1) A2 B2 (0, r_most h ((r_sus h : Nat) : Int) (i : Int) 21) (0, 21) z8 (by omega) (by omega) (fun g => absurd g c_23) (by show ¬ (0 : Nat) = 1; decide) (by show ¬ (0 : Nat) = 1; decide) hz8); show [_, _, _, _, _, _, _, _] = [_, _, _, _, _, _, _, _]; rw [hamy (Int.not_lt.mpr c_155)]; rfl)
                        · skip
                          refine V_iload (pc := 171) X dX10_look_171 rfl ?_
                          refine V_goto (pc := 173) X 177 dX10_look_173 (by decide) ?_
                          refine V_istore_n (pc := 177) X dX10_look_177 (by exact Nat.le_of_ble_eq_true rfl) (by first | rfl | ((repeat (refine z_nl_set ?_ (by first | exact (show (0 : Nat) ≠ 1 by decide) | exact (show (2 : Nat) ≠ 1 by decide)))); first | rfl | (simp [z_nl, hz5, hz6, hz7]; done) | (simp [z_nl, hz6, hz7]; done) | (simp [z_nl, hz8]; done))) ?_
                          refine V_iinc (pc := 178) X dX10_look_178 rfl (by first | rfl | ((repeat (refine z_nl_set ?_ (by first | exact (show (0 : Nat) ≠ 1 by decide) | exact (show (2 : Nat) ≠ 1 by decide)))); first | rfl | (simp [z_nl, hz5, hz6, hz7]; done) | (simp [z_nl, hz6, hz7]; done) | (simp [z_nl, hz8]; done))) ?_
                          refine V_goto (pc := 181) X 14 dX10_look_181 (by decide) ?_
                          have hamn : ∀ hq : r_most h ((r_sus h : Nat) : Int) (i : Int) 21 < (r_best h ((r_sus h : Nat) : Int) i).2, r_best h ((r_sus h : Nat) : Int) (i + 1) = ((i : Int), r_most h ((r_sus h : Nat) : Int) (i : Int) 21) := fun hq => if_pos ⟨rfl, hq⟩
                          have hamy : ∀ hq : ¬ r_most h ((r_sus h : Nat) : Int) (i : Int) 21 < (r_best h ((r_sus h : Nat) : Int) i).2, r_best h ((r_sus h : Nat) : Int) (i + 1) = r_best h ((r_sus h : Nat) : Int) i := fun hq => if_neg (fun g => hq g.2)
                          first
                            | exact absurd c_155 c_168
                            | exact absurd c_168 c_155
                            | (refine V_loc ?_ (ih_14 (i + 1) A2 B2 (0, r_most h ((r_sus h : Nat) : Int) (i : Int) 21) (0, 21) z8 (by omega) (by omega) (fun g => absurd g c_23) (by show ¬ (0 : Nat) = 1; decide) (by show ¬ (0 : Nat) = 1; decide) hz8); show [_, _, _, _, _, _, _, _] = [_, _, _, _, _, _, _, _]; rw [hamn (Int.not_le.mp c_155)]; rfl)
                            | (refine V_loc ?_ (ih_14 (i + 1) A2 B2 (0, r_most h ((r_sus h : Nat) : Int) (i : Int) 21) (0, 21) z8 (by omega) (by omega) (fun g => absurd g c_23) (by show ¬ (0 : Nat) = 1; decide) (by show ¬ (0 : Nat) = 1; decide) hz8); show [_, _, _, _, _, _, _, _] = [_, _, _, _, _, _, _, _]; rw [hamy (Int.not_lt.mpr c_155)]; rfl)
                    · skip
                      refine V_iload_n (pc := 63) X dX10_look_63 rfl ?_
                      refine V_iload (pc := 64) X dX10_look_64 rfl ?_
                      refine V_FS (pc := 66) X dX10_look_66 oX10_has l_RX10_172 sX10_has ⟨Nat.le_of_ble_eq_true rfl, Nat.le_of_ble_eq_true rfl⟩ ⟨rfl, rfl⟩ ⟨Nat.le_of_ble_eq_true rfl, Nat.le_of_ble_eq_true rfl⟩ (ct_X10_has (by omega) (by omega) (by omega) (by omega)) rfl (by rfl) (by exact Nat.le_of_ble_eq_true rfl) ?_
                      refine V_bif_eq (pc := 69) X 146 dX10_look_69 (by decide)  (fun c_69 => ?_) (fun c_69 => ?_)
                      · skip
                        refine V_iinc (pc := 146) X dX10_look_146 rfl (by first | rfl | ((repeat (refine z_nl_set ?_ (by first | exact (show (0 : Nat) ≠ 1 by decide) | exact (show (2 : Nat) ≠ 1 by decide)))); first | rfl | (simp [z_nl, hz5, hz6, hz7]; done) | (simp [z_nl, hz6, hz7]; done) | (simp [z_nl, hz8]; done))) ?_
                        refine V_goto (pc := 149) X 56 dX10_look_149 (by decide) ?_
                        first
                          | (refine V_loc ?_ (ih_56 (j + 1) A2 B2 z8 (by omega) (by omega) (fun c h0 h1 => by rw [r_cnt, if_neg (fun g => by rw [c_69] at g; exact absurd g.1 (by decide)), Int.add_zero]; exact hB2 c h0 h1) hz8); show [_, _, _, _, _, _, _, _] = [_, _, _, _, _, _, _, _]; rw [r_most, if_neg (by rw [c_69]; decide)]; rfl)
                          | (refine V_loc ?_ (ih_56 (j + 1) (r_lbT (z_rw (z_rw h 93 A2) 106 B2) (j : Int)) (fun r => if r = (r_lk h (i : Int) (j : Int)) then B2 (r_lk h (i : Int) (j : Int)) + 1 else B2 r) (0, (r_lk h (i : Int) (j : Int))) (by omega) (by omega) hcn (by show ¬ (0 : Nat) = 1; decide)); show [_, _, _, _, _, _, _, _] = [_, _, _, _, _, _, _, _]; rw [r_most, if_pos c_69, hcl]; first | (rw [if_pos (Int.not_le.mp c_129)]; rfl) | (rw [if_neg (Int.not_lt.mpr c_129)]; rfl))
                      · skip
                        have hO2 : r_Ob (z_rw (z_rw h 93 A2) 106 B2) := (hO.rw_ (by decide)).rw_ (by decide)
                        have hP2 : r_Pl (z_rw (z_rw h 93 A2) 106 B2) := (hP.rw_ (by decide) (by decide) (by decide)).rw_ (by decide) (by decide) (by decide)
                        have h92 : (z_rw (z_rw h 93 A2) 106 B2) 92 = h 92 := by rw [z_rw_ne _ _ (by decide), z_rw_ne _ _ (by decide)]
                        have hT2 : r_Mt ((z_rw (z_rw h 93 A2) 106 B2) 92) := by rw [h92]; exact hT
                        refine V_aload_n (pc := 72) X dX10_look_72 rfl (by first | decide | omega | assumption) ?_
                        refine V_iload (pc := 73) X dX10_look_73 rfl ?_
                        refine V_CV (pc := 75) X dX10_look_75 oX10_layBroken l_RX10_272 eX10_layBroken vX10_layBroken ⟨Nat.le_of_ble_eq_true rfl, Nat.le_of_ble_eq_true rfl⟩ ⟨rfl, rfl⟩ ⟨Nat.le_of_ble_eq_true rfl, Nat.le_of_ble_eq_true rfl⟩ (ct_X10_layBroken hO2 hP2 hT2 (by omega) (by omega)) rfl (by first | rfl | assumption | (simp only [*]; done) | omega) (by intro q h; cases h; rfl) rfl (by rfl) (by exact Nat.le_of_ble_eq_true rfl) (fun r h1 hp => ?_)
                        obtain ⟨rfl, rfl⟩ := hp
                        rw [show r_lb (z_rw (z_rw h 93 A2) 106 B2) (j : Int) = (z_rw (z_rw h 93 (r_lbT (z_rw (z_rw h 93 A2) 106 B2) (j : Int))) 106 B2) from by unfold r_lb; rw [z_rw_swap _ (by decide), z_rw_twice]]
                        have hO3 : r_Ob (z_rw (z_rw h 93 (r_lbT (z_rw (z_rw h 93 A2) 106 B2) (j : Int))) 106 B2) := (hO.rw_ (by decide)).rw_ (by decide)
                        have hP3 : r_Pl (z_rw (z_rw h 93 (r_lbT (z_rw (z_rw h 93 A2) 106 B2) (j : Int))) 106 B2) := (hP.rw_ (by decide) (by decide) (by decide)).rw_ (by decide) (by decide) (by decide)
                        have h93 : (z_rw (z_rw h 93 (r_lbT (z_rw (z_rw h 93 A2) 106 B2) (j : Int))) 106 B2) 93 = (r_lbT (z_rw (z_rw h 93 A2) 106 B2) (j : Int)) := by rw [z_rw_ne _ _ (by decide), z_rw_at]
                        have hT3 : r_Mt ((z_rw (z_rw h 93 (r_lbT (z_rw (z_rw h 93 A2) 106 B2) (j : Int))) 106 B2) 93) := by rw [h93]; exact r_lbT_mt hT2 (by omega)
                        have hlk : r_on (z_rw (z_rw h 93 (r_lbT (z_rw (z_rw h 93 A2) 106 B2) (j : Int))) 106 B2) ((z_rw (z_rw h 93 (r_lbT (z_rw (z_rw h 93 A2) 106 B2) (j : Int))) 106 B2) 93) ((i : Int) / 8 / 7) ((i : Int) / 8 % 7) ((i : Int) % 8) = (r_lk h (i : Int) (j : Int)) := by
                          rw [h93]
                          exact r_on_cg (r_Same.two h _ _) hP (r_lbT_te2 h92 (j : Int)) _ _ _
                        have hlr : 0 ≤ (r_lk h (i : Int) (j : Int)) ∧ (r_lk h (i : Int) (j : Int)) < 8 := r_on_rng hP
                        have hbl := hB2 (r_lk h (i : Int) (j : Int)) hlr.1 hlr.2
                        have hcr := r_cnt_rng h ((r_sus h : Nat) : Int) (i : Int) (r_lk h (i : Int) (j : Int)) j
                        have hcl : r_cnt h ((r_sus h : Nat) : Int) (i : Int) (r_lk h (i : Int) (j : Int)) (j + 1) = B2 (r_lk h (i : Int) (j : Int)) + 1 := by rw [r_cnt, if_pos ⟨c_69, rfl⟩, hbl]
                        have hcn : ∀ c, 0 ≤ c → c < 8 → (fun r => if r = (r_lk h (i : Int) (j : Int)) then B2 (r_lk h (i : Int) (j : Int)) + 1 else B2 r) c = r_cnt h ((r_sus h : Nat) : Int) (i : Int) c (j + 1) := fun c h0 h1 => by
                          show (if c = (r_lk h (i : Int) (j : Int)) then B2 (r_lk h (i : Int) (j : Int)) + 1 else B2 c) = _
                          by_cases g : c = (r_lk h (i : Int) (j : Int))
                          · rw [if_pos g, g, hcl]
                          · rw [if_neg g, r_cnt, if_neg (fun q => g q.2.symm), Int.add_zero]; exact hB2 c h0 h1
                        refine V_aload_n (pc := 78) X dX10_look_78 rfl (by first | decide | omega | assumption) ?_
                        refine V_aload_n (pc := 79) X dX10_look_79 rfl (by first | decide | omega | assumption) ?_
                        refine V_gz (pc := 80) X dX10_look_80 f_RX10_26 (by first | rfl | assumption | (simp only [*]; done) | omega) 6 rfl (show _ = (93 : Int) from by first | exact rb6 | ((repeat (first | rw [z_st_at] | rw [z_st_slot _ (by decide)] | rw [z_st_cell _ (by decide)] | rw [z_rw_ne _ _ (by decide)] | rw [r_rem_s (by decide)] | rw [r_rem_c (by decide) (by decide)] | rw [r_cp_ne (by decide)])); exact rb6)) ?_
                        refine V_iload (pc := 83) X dX10_look_83 rfl ?_
                        refine V_bipush (pc := 85) X dX10_look_85 (by decide) ?_
                        refine V_idivN (pc := 87) X dX10_look_87 (by omega) (by omega) (by omega) (by omega) ?_
                        refine V_bipush (pc := 88) X dX10_look_88 (by decide) ?_
                        refine V_idivN (pc := 90) X dX10_look_90 (by omega) (by omega) (by omega) (by omega) ?_
                        refine V_iload (pc := 91) X dX10_look_91 rfl ?_
                        refine V_bipush (pc := 93) X dX10_look_93 (by decide) ?_
                        refine V_idivN (pc := 95) X dX10_look_95 (by omega) (by omega) (by omega) (by omega) ?_
                        refine V_bipush (pc := 96) X dX10_look_96 (by decide) ?_
                        refine V_iremN (pc := 98) X dX10_look_98 (by omega) (by omega) (by omega) (by omega) ?_
                        refine V_iload (pc := 99) X dX10_look_99 rfl ?_
                        refine V_bipush (pc := 101) X dX10_look_101 (by decide) ?_
                        refine V_iremN (pc := 103) X dX10_look_103 (by omega) (by omega) (by omega) (by omega) ?_
                        refine V_FV (pc := 104) X dX10_look_104 oX10_lightOn l_RX10_193 eX10_lightOn vX10_lightOn ⟨Nat.le_of_ble_eq_true rfl, Nat.le_of_ble_eq_true rfl⟩ ⟨rfl, rfl⟩ ⟨Nat.le_of_ble_eq_true rfl, Nat.le_of_ble_eq_true rfl⟩ (ct_X10_lightOn hO3 hP3 rfl hT3 (by omega) (by omega) (by omega) (by omega) (by omega) (by omega)) rfl (by first | rfl | assumption | (simp only [*]; done) | omega) (by intro q h; cases h; rfl) rfl (by rfl) (by exact Nat.le_of_ble_eq_true rfl) ?_
                        rw [hlk]
                        refine V_istore (pc := 107) X dX10_look_107 (by exact Nat.le_of_ble_eq_true rfl) (by first | rfl | ((repeat (refine z_nl_set ?_ (by first | exact (show (0 : Nat) ≠ 1 by decide) | exact (show (2 : Nat) ≠ 1 by decide)))); first | rfl | (simp [z_nl, hz5, hz6, hz7]; done) | (simp [z_nl, hz6, hz7]; done) | (simp [z_nl, hz8]; done))) ?_
                        refine V_aload_n (pc := 109) X dX10_look_109 rfl (by first | decide | omega | assumption) ?_
                        refine V_gz (pc := 110) X dX10_look_110 f_RX10_66 (by first | rfl | assumption | (simp only [*]; done) | omega) 33 rfl (show _ = (106 : Int) from by first | exact rb33 | ((repeat (first | rw [z_st_at] | rw [z_st_slot _ (by decide)] | rw [z_st_cell _ (by decide)] | rw [z_rw_ne _ _ (by decide)] | rw [r_rem_s (by decide)] | rw [r_rem_c (by decide) (by decide)] | rw [r_cp_ne (by decide)])); exact rb33)) ?_
                        refine V_iload (pc := 113) X dX10_look_113 rfl ?_
                        refine V_dup2 (pc := 115) X dX10_look_115 (Nat.ne_of_beq_eq_false rfl) (Nat.ne_of_beq_eq_false rfl) ?_
                        refine V_iald (pc := 116) X dX10_look_116 (by first | rfl | assumption | (simp only [*]; done) | omega) (by omega) (by omega) (by decide) ?_
                        rw [z_rw_at]
                        refine V_iconst (pc := 117) X dX10_look_117 ?_
                        refine V_iadd (pc := 118) X dX10_look_118 ?_
                        refine V_iast (pc := 119) X dX10_look_119 (by first | rfl | assumption | (simp only [*]; done) | omega) (by omega) (by omega) (by decide) ?_
                        rw [z_rw_st]
                        refine V_aload_n (pc := 120) X dX10_look_120 rfl (by first | decide | omega | assumption) ?_
                        refine V_gz (pc := 121) X dX10_look_121 f_RX10_66 (by first | rfl | assumption | (simp only [*]; done) | omega) 33 rfl (show _ = (106 : Int) from by first | exact rb33 | ((repeat (first | rw [z_st_at] | rw [z_st_slot _ (by decide)] | rw [z_st_cell _ (by decide)] | rw [z_rw_ne _ _ (by decide)] | rw [r_rem_s (by decide)] | rw [r_rem_c (by decide) (by decide)] | rw [r_cp_ne (by decide)])); exact rb33)) ?_
                        refine V_iload (pc := 124) X dX10_look_124 rfl ?_
                        refine V_iald (pc := 126) X dX10_look_126 (by first | rfl | assumption | (simp only [*]; done) | omega) (by omega) (by omega) (by decide) ?_
                        rw [show z_rw (z_rw h 93 (r_lbT (z_rw (z_rw h 93 A2) 106 B2) (j : Int))) 106 (fun r => if r = (r_lk h (i : Int) (j : Int)) then B2 (r_lk h (i : Int) (j : Int)) + 1 else B2 r) 106 (r_lk h (i : Int) (j : Int)) = B2 (r_lk h (i : Int) (j : Int)) + 1 from by rw [z_rw_at, if_pos rfl]]
                        refine V_iload (pc := 127) X dX10_look_127 rfl ?_
                        refine V_icmp_le (pc := 129) X 142 dX10_look_129 (by decide) ⟨by omega, by omega⟩ ⟨by omega, by omega⟩ (fun c_129 => ?_) (fun c_129 => ?_)
                        · skip
                          refine V_iload (pc := 142) X dX10_look_142 rfl ?_
                          refine V_istore (pc := 144) X dX10_look_144 (by exact Nat.le_of_ble_eq_true rfl) (by first | rfl | ((repeat (refine z_nl_set ?_ (by first | exact (show (0 : Nat) ≠ 1 by decide) | exact (show (2 : Nat) ≠ 1 by decide)))); first | rfl | (simp [z_nl, hz5, hz6, hz7]; done) | (simp [z_nl, hz6, hz7]; done) | (simp [z_nl, hz8]; done))) ?_
                          refine V_iinc (pc := 146) X dX10_look_146 rfl (by first | rfl | ((repeat (refine z_nl_set ?_ (by first | exact (show (0 : Nat) ≠ 1 by decide) | exact (show (2 : Nat) ≠ 1 by decide)))); first | rfl | (simp [z_nl, hz5, hz6, hz7]; done) | (simp [z_nl, hz6, hz7]; done) | (simp [z_nl, hz8]; done))) ?_
                          refine V_goto (pc := 149) X 56 dX10_look_149 (by decide) ?_
                          first
                            | (refine V_loc ?_ (ih_56 (j + 1) A2 B2 z8 (by omega) (by omega) (fun c h0 h1 => by rw [r_cnt, if_neg (fun g => by rw [c_69] at g; exact absurd g.1 (by decide)), Int.add_zero]; exact hB2 c h0 h1) hz8); show [_, _, _, _, _, _, _, _] = [_, _, _, _, _, _, _, _]; rw [r_most, if_neg (by rw [c_69]; decide)]; rfl)
                            | (refine V_loc ?_ (ih_56 (j + 1) (r_lbT (z_rw (z_rw h 93 A2) 106 B2) (j : Int)) (fun r => if r = (r_lk h (i : Int) (j : Int)) then B2 (r_lk h (i : Int) (j : Int)) + 1 else B2 r) (0, (r_lk h (i : Int) (j : Int))) (by omega) (by omega) hcn (by show ¬ (0 : Nat) = 1; decide)); show [_, _, _, _, _, _, _, _] = [_, _, _, _, _, _, _, _]; rw [r_most, if_pos c_69, hcl]; first | (rw [if_pos (Int.not_le.mp c_129)]; rfl) | (rw [if_neg (Int.not_lt.mpr c_129)]; rfl))
                        · skip
                          refine V_aload_n (pc := 132) X dX10_look_132 rfl (by first | decide | omega | assumption) ?_
                          refine V_gz (pc := 133) X dX10_look_133 f_RX10_66 (by first | rfl | assumption | (simp only [*]; done) | omega) 33 rfl (show _ = (106 : Int) from by first | exact rb33 | ((repeat (first | rw [z_st_at] | rw [z_st_slot _ (by decide)] | rw [z_st_cell _ (by decide)] | rw [z_rw_ne _ _ (by decide)] | rw [r_rem_s (by decide)] | rw [r_rem_c (by decide) (by decide)] | rw [r_cp_ne (by decide)])); exact rb33)) ?_
                          refine V_iload (pc := 136) X dX10_look_136 rfl ?_
                          refine V_iald (pc := 138) X dX10_look_138 (by first | rfl | assumption | (simp only [*]; done) | omega) (by omega) (by omega) (by decide) ?_
                          rw [show z_rw (z_rw h 93 (r_lbT (z_rw (z_rw h 93 A2) 106 B2) (j : Int))) 106 (fun r => if r = (r_lk h (i : Int) (j : Int)) then B2 (r_lk h (i : Int) (j : Int)) + 1 else B2 r) 106 (r_lk h (i : Int) (j : Int)) = B2 (r_lk h (i : Int) (j : Int)) + 1 from by rw [z_rw_at, if_pos rfl]]
                          refine V_goto (pc := 139) X 144 dX10_look_139 (by decide) ?_
                          refine V_istore (pc := 144) X dX10_look_144 (by exact Nat.le_of_ble_eq_true rfl) (by first | rfl | ((repeat (refine z_nl_set ?_ (by first | exact (show (0 : Nat) ≠ 1 by decide) | exact (show (2 : Nat) ≠ 1 by decide)))); first | rfl | (simp [z_nl, hz5, hz6, hz7]; done) | (simp [z_nl, hz6, hz7]; done) | (simp [z_nl, hz8]; done))) ?_
                          refine V_iinc (pc := 146) X dX10_look_146 rfl (by first | rfl | ((repeat (refine z_nl_set ?_ (by first | exact (show (0 : Nat) ≠ 1 by decide) | exact (show (2 : Nat) ≠ 1 by decide)))); first | rfl | (simp [z_nl, hz5, hz6, hz7]; done) | (simp [z_nl, hz6, hz7]; done) | (simp [z_nl, hz8]; done))) ?_
                          refine V_goto (pc := 149) X 56 dX10_look_149 (by decide) ?_
                          first
                            | (refine V_loc ?_ (ih_56 (j + 1) A2 B2 z8 (by omega) (by omega) (fun c h0 h1 => by rw [r_cnt, if_neg (fun g => by rw [c_69] at g; exact absurd g.1 (by decide)), Int.add_zero]; exact hB2 c h0 h1) hz8); show [_, _, _, _, _, _, _, _] = [_, _, _, _, _, _, _, _]; rw [r_most, if_neg (by rw [c_69]; decide)]; rfl)
                            | (refine V_loc ?_ (ih_56 (j + 1) (r_lbT (z_rw (z_rw h 93 A2) 106 B2) (j : Int)) (fun r => if r = (r_lk h (i : Int) (j : Int)) then B2 (r_lk h (i : Int) (j : Int)) + 1 else B2 r) (0, (r_lk h (i : Int) (j : Int))) (by omega) (by omega) hcn (by show ¬ (0 : Nat) = 1; decide)); show [_, _, _, _, _, _, _, _] = [_, _, _, _, _, _, _, _]; rw [r_most, if_pos c_69, hcl]; first | (rw [if_pos (Int.not_le.mp c_129)]; rfl) | (rw [if_neg (Int.not_lt.mpr c_129)]; rfl))
                exact lp_56 _ 0 A (fun r => if 0 ≤ r ∧ r < 8 then 0 else B r) z7 (Nat.lt_succ_self _) (by decide) (fun c h0 h1 => by rw [if_pos (by omega)]; rfl) hz7
              · skip
                refine V_aload_n (pc := 36) X dX10_look_36 rfl (by first | decide | omega | assumption) ?_
                refine V_gz (pc := 37) X dX10_look_37 f_RX10_66 (by first | rfl | assumption | (simp only [*]; done) | omega) 33 rfl (show _ = (106 : Int) from by first | exact rb33 | ((repeat (first | rw [z_st_at] | rw [z_st_slot _ (by decide)] | rw [z_st_cell _ (by decide)] | rw [z_rw_ne _ _ (by decide)] | rw [r_rem_s (by decide)] | rw [r_rem_c (by decide) (by decide)] | rw [r_cp_ne (by decide)])); exact rb33)) ?_
                refine V_iload (pc := 40) X dX10_look_40 rfl ?_
                refine V_iconst (pc := 42) X dX10_look_42 ?_
                refine V_iast (pc := 43) X dX10_look_43 (by first | rfl | assumption | (simp only [*]; done) | omega) (by omega) (by omega) (by decide) ?_
                rw [z_rw_st]
                refine V_iinc (pc := 44) X dX10_look_44 rfl (by first | rfl | ((repeat (refine z_nl_set ?_ (by first | exact (show (0 : Nat) ≠ 1 by decide) | exact (show (2 : Nat) ≠ 1 by decide)))); first | rfl | (simp [z_nl, hz5, hz6, hz7]; done) | (simp [z_nl, hz6, hz7]; done) | (simp [z_nl, hz8]; done))) ?_
                refine V_goto (pc := 47) X 29 dX10_look_47 (by decide) ?_
                refine V_heap ?_ (ih_29 (e + 1) (by omega) (by omega) (by omega))
                congr 1
                funext r
                by_cases g : r = e
                · rw [if_pos g, if_pos (by omega)]
                · rw [if_neg g]
                  by_cases g2 : 0 ≤ r ∧ r < e
                  · rw [if_pos g2, if_pos (by omega)]
                  · rw [if_neg g2, if_neg (by omega)]
          refine V_heap (h' := z_rw (z_rw h 93 A) 106 (fun r => if 0 ≤ r ∧ r < 0 then 0 else B r)) (by rw [show (fun r => if 0 ≤ r ∧ r < 0 then 0 else B r) = B from by funext r; rw [if_neg (by omega)]]) ?_
          exact lp_29 _ 0 (Nat.lt_succ_self _) (by decide) (by decide)
  refine V_heap (h' := z_rw (z_rw h 93 A0) 106 (h 106)) (by rw [z_rw_swap _ (by decide), z_rw_same]) ?_
  exact lp_14 _ 0 A0 (h 106) (9, 0) (9, 0) (9, 0) (Nat.lt_succ_self _) (by decide) (fun _ => rfl) (by decide) (by decide) (by decide)
