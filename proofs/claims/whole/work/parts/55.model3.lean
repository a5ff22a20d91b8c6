/-! PaneLightModel, 3: the text -/
set_option maxHeartbeats 4000000 in
set_option maxRecDepth 100000 in
theorem ct_X10_isLetter {h : z_H} (hO : r_Ob h) {T : Int → Int} {N : Int} (hX : r_Tx h T N) {a b c d e : Int} (h0 : 0 ≤ a) (h1 : a ≤ N) : z_Ct mX10_isLetter 107 [(2, 89)] (r_tk h a b c d e) (z_pure (0, z_b (r_isC isL T N a)) (r_tk h a b c d e)) := by
  refine z_mk (L := [(2, 89)]) oX10_isLetter.2.2.2.2 (Nat.le_of_ble_eq_true rfl) rfl ?_
  intro Γ X hQ
  obtain ⟨rb2, rb3, rb5, rb6, rb7, rb9, rb10, rb11, rb12, rb13, rb15, rb25, rb26, rb30, rb31, rb32, rb33⟩ := id hO
  obtain ⟨r2, hNs, hN, hTx⟩ := id hX
  refine V_aload_n (pc := 0) X dX10_isLetter_0 rfl (by first | decide | omega | assumption) ?_
  refine V_gz (pc := 1) X dX10_isLetter_1 f_RX10_88 (by first | rfl | assumption | (simp only [*]; done) | omega) 18 rfl (show _ = a from r_tk_18 _ _ _ _ _ _) ?_
  refine V_aload_n (pc := 4) X dX10_isLetter_4 rfl (by first | decide | omega | assumption) ?_
  refine V_gz (pc := 5) X dX10_isLetter_5 f_RX10_85 (by first | rfl | assumption | (simp only [*]; done) | omega) 16 rfl (show _ = N from (r_tk_s (by decide)).trans hNs) ?_
  refine V_icmp_ge (pc := 8) X 37 dX10_isLetter_8 (by decide) ⟨by omega, by omega⟩ ⟨by omega, by omega⟩ (fun c_8 => ?_) (fun c_8 => ?_)
  · skip
    refine V_iconst (pc := 37) X dX10_isLetter_37 ?_
    refine V_zret (st := []) (pc := 38) X hQ dX10_isLetter_38 rfl (by omega) rfl ?_
    exact z_pi (by unfold r_isC; first | (rw [decide_eq_false (by omega)]; rfl) | (rw [decide_eq_true (by omega), show isL (T a) = true from c_30]; rfl) | (rw [decide_eq_true (by omega), show isL (T a) = false from c_30]; rfl))
  · skip
    refine V_aload_n (pc := 11) X dX10_isLetter_11 rfl (by first | decide | omega | assumption) ?_
    refine V_gz (pc := 12) X dX10_isLetter_12 f_RX10_48 (by first | rfl | assumption | (simp only [*]; done) | omega) 15 rfl (show _ = (100 : Int) from (r_tk_s (by decide)).trans rb15) ?_
    refine V_aload_n (pc := 15) X dX10_isLetter_15 rfl (by first | decide | omega | assumption) ?_
    refine V_gz (pc := 16) X dX10_isLetter_16 f_RX10_88 (by first | rfl | assumption | (simp only [*]; done) | omega) 18 rfl (show _ = a from r_tk_18 _ _ _ _ _ _) ?_
    have hTa := hTx a (by omega) (by omega)
    refine V_iald (pc := 19) X dX10_isLetter_19 (by first | rfl | assumption | (simp only [*]; done) | omega) (by omega) (by omega) (by decide) ?_
    rw [r_tk_c (by decide), r2]
    refine V_i2l (pc := 20) X dX10_isLetter_20 ⟨by omega, by omega⟩ ?_
    refine V_ldc2 (pc := 21) X (97) dX10_isLetter_21 c_RX10_91 (by decide) ?_
    refine V_ldc2 (pc := 24) X (122) dX10_isLetter_24 c_RX10_93 (by decide) ?_
    refine V_FS (pc := 27) X dX10_isLetter_27 oX10_in l_RX10_81 sX10_in ⟨Nat.le_of_ble_eq_true rfl, Nat.le_of_ble_eq_true rfl⟩ ⟨rfl, rfl⟩ ⟨Nat.le_of_ble_eq_true rfl, Nat.le_of_ble_eq_true rfl⟩ (ct_X10_in ⟨by omega, by omega⟩ ⟨by omega, by omega⟩ ⟨by omega, by omega⟩) rfl (by rfl) (by exact Nat.le_of_ble_eq_true rfl) ?_
    refine V_bif_eq (pc := 30) X 37 dX10_isLetter_30 (by decide)  (fun c_30 => ?_) (fun c_30 => ?_)
    · skip
      refine V_iconst (pc := 37) X dX10_isLetter_37 ?_
      refine V_zret (st := []) (pc := 38) X hQ dX10_isLetter_38 rfl (by omega) rfl ?_
      exact z_pi (by unfold r_isC; first | (rw [decide_eq_false (by omega)]; rfl) | (rw [decide_eq_true (by omega), show isL (T a) = true from c_30]; rfl) | (rw [decide_eq_true (by omega), show isL (T a) = false from c_30]; rfl))
    · skip
      refine V_iconst (pc := 33) X dX10_isLetter_33 ?_
      refine V_goto (pc := 34) X 38 dX10_isLetter_34 (by decide) ?_
      refine V_zret (st := []) (pc := 38) X hQ dX10_isLetter_38 rfl (by omega) rfl ?_
      exact z_pi (by unfold r_isC; first | (rw [decide_eq_false (by omega)]; rfl) | (rw [decide_eq_true (by omega), show isL (T a) = true from c_30]; rfl) | (rw [decide_eq_true (by omega), show isL (T a) = false from c_30]; rfl))
set_option maxHeartbeats 4000000 in
set_option maxRecDepth 100000 in
theorem ct_X10_isFigure {h : z_H} (hO : r_Ob h) {T : Int → Int} {N : Int} (hX : r_Tx h T N) {a b c d e : Int} (h0 : 0 ≤ a) (h1 : a ≤ N) : z_Ct mX10_isFigure 107 [(2, 89)] (r_tk h a b c d e) (z_pure (0, z_b (r_isC isD T N a)) (r_tk h a b c d e)) := by
  refine z_mk (L := [(2, 89)]) oX10_isFigure.2.2.2.2 (Nat.le_of_ble_eq_true rfl) rfl ?_
  intro Γ X hQ
  obtain ⟨rb2, rb3, rb5, rb6, rb7, rb9, rb10, rb11, rb12, rb13, rb15, rb25, rb26, rb30, rb31, rb32, rb33⟩ := id hO
  obtain ⟨r2, hNs, hN, hTx⟩ := id hX
  refine V_aload_n (pc := 0) X dX10_isFigure_0 rfl (by first | decide | omega | assumption) ?_
  refine V_gz (pc := 1) X dX10_isFigure_1 f_RX10_88 (by first | rfl | assumption | (simp only [*]; done) | omega) 18 rfl (show _ = a from r_tk_18 _ _ _ _ _ _) ?_
  refine V_aload_n (pc := 4) X dX10_isFigure_4 rfl (by first | decide | omega | assumption) ?_
  refine V_gz (pc := 5) X dX10_isFigure_5 f_RX10_85 (by first | rfl | assumption | (simp only [*]; done) | omega) 16 rfl (show _ = N from (r_tk_s (by decide)).trans hNs) ?_
  refine V_icmp_ge (pc := 8) X 37 dX10_isFigure_8 (by decide) ⟨by omega, by omega⟩ ⟨by omega, by omega⟩ (fun c_8 => ?_) (fun c_8 => ?_)
  · skip
    refine V_iconst (pc := 37) X dX10_isFigure_37 ?_
    refine V_zret (st := []) (pc := 38) X hQ dX10_isFigure_38 rfl (by omega) rfl ?_
    exact z_pi (by unfold r_isC; first | (rw [decide_eq_false (by omega)]; rfl) | (rw [decide_eq_true (by omega), show isD (T a) = true from c_30]; rfl) | (rw [decide_eq_true (by omega), show isD (T a) = false from c_30]; rfl))
  · skip
    refine V_aload_n (pc := 11) X dX10_isFigure_11 rfl (by first | decide | omega | assumption) ?_
    refine V_gz (pc := 12) X dX10_isFigure_12 f_RX10_48 (by first | rfl | assumption | (simp only [*]; done) | omega) 15 rfl (show _ = (100 : Int) from (r_tk_s (by decide)).trans rb15) ?_
    refine V_aload_n (pc := 15) X dX10_isFigure_15 rfl (by first | decide | omega | assumption) ?_
    refine V_gz (pc := 16) X dX10_isFigure_16 f_RX10_88 (by first | rfl | assumption | (simp only [*]; done) | omega) 18 rfl (show _ = a from r_tk_18 _ _ _ _ _ _) ?_
    have hTa := hTx a (by omega) (by omega)
    refine V_iald (pc := 19) X dX10_isFigure_19 (by first | rfl | assumption | (simp only [*]; done) | omega) (by omega) (by omega) (by decide) ?_
    rw [r_tk_c (by decide), r2]
    refine V_i2l (pc := 20) X dX10_isFigure_20 ⟨by omega, by omega⟩ ?_
    refine V_ldc2 (pc := 21) X (48) dX10_isFigure_21 c_RX10_95 (by decide) ?_
    refine V_ldc2 (pc := 24) X (57) dX10_isFigure_24 c_RX10_97 (by decide) ?_
    refine V_FS (pc := 27) X dX10_isFigure_27 oX10_in l_RX10_81 sX10_in ⟨Nat.le_of_ble_eq_true rfl, Nat.le_of_ble_eq_true rfl⟩ ⟨rfl, rfl⟩ ⟨Nat.le_of_ble_eq_true rfl, Nat.le_of_ble_eq_true rfl⟩ (ct_X10_in ⟨by omega, by omega⟩ ⟨by omega, by omega⟩ ⟨by omega, by omega⟩) rfl (by rfl) (by exact Nat.le_of_ble_eq_true rfl) ?_
    refine V_bif_eq (pc := 30) X 37 dX10_isFigure_30 (by decide)  (fun c_30 => ?_) (fun c_30 => ?_)
    · skip
      refine V_iconst (pc := 37) X dX10_isFigure_37 ?_
      refine V_zret (st := []) (pc := 38) X hQ dX10_isFigure_38 rfl (by omega) rfl ?_
      exact z_pi (by unfold r_isC; first | (rw [decide_eq_false (by omega)]; rfl) | (rw [decide_eq_true (by omega), show isD (T a) = true from c_30]; rfl) | (rw [decide_eq_true (by omega), show isD (T a) = false from c_30]; rfl))
    · skip
      refine V_iconst (pc := 33) X dX10_isFigure_33 ?_
      refine V_goto (pc := 34) X 38 dX10_isFigure_34 (by decide) ?_
      refine V_zret (st := []) (pc := 38) X hQ dX10_isFigure_38 rfl (by omega) rfl ?_
      exact z_pi (by unfold r_isC; first | (rw [decide_eq_false (by omega)]; rfl) | (rw [decide_eq_true (by omega), show isD (T a) = true from c_30]; rfl) | (rw [decide_eq_true (by omega), show isD (T a) = false from c_30]; rfl))
set_option maxHeartbeats 4000000 in
set_option maxRecDepth 100000 in
theorem ct_X10_step {h : z_H} (hO : r_Ob h) {T : Int → Int} {N : Int} (hX : r_Tx h T N) {n b c d e : Int} (h0 : 0 ≤ n) (h1 : n ≤ N) : z_Ct mX10_step 107 [(2, 89)] (r_tk h n b c d e) (z_void (r_tq h (m_tok T N n))) := by
  refine z_mk (L := [(2, 89)]) oX10_step.2.2.2.2 (Nat.le_of_ble_eq_true rfl) rfl ?_
  intro Γ X hQ
  obtain ⟨rb2, rb3, rb5, rb6, rb7, rb9, rb10, rb11, rb12, rb13, rb15, rb25, rb26, rb30, rb31, rb32, rb33⟩ := id hO
  obtain ⟨r2, hNs, hN, hTx⟩ := id hX
  have lp_0 : ∀ (m : Nat) (p : Int), (N - p).toNat < m → n ≤ p → p ≤ N → t_go isB T N p = t_go isB T N n → z_V Γ (107, 0, 0) 0 [(2, 89)] [] (r_tk h p b c d e) := by
    intro m
    induction m with
    | zero => intro p hm; exact absurd hm (Nat.not_lt_zero _)
    | succ m ih_0 =>
      intro p hm hp0 hp1 he
      refine V_aload_n (pc := 0) X dX10_step_0 rfl (by first | decide | omega | assumption) ?_
      refine V_gz (pc := 1) X dX10_step_1 f_RX10_88 (by first | rfl | assumption | (simp only [*]; done) | omega) 18 rfl (show _ = p from r_tk_18 _ _ _ _ _ _) ?_
      refine V_aload_n (pc := 4) X dX10_step_4 rfl (by first | decide | omega | assumption) ?_
      refine V_gz (pc := 5) X dX10_step_5 f_RX10_85 (by first | rfl | assumption | (simp only [*]; done) | omega) 16 rfl (show _ = N from (r_tk_s (by decide)).trans hNs) ?_
      refine V_icmp_ge (pc := 8) X 38 dX10_step_8 (by decide) ⟨by omega, by omega⟩ ⟨by omega, by omega⟩ (fun c_8 => ?_) (fun c_8 => ?_)
      · skip
        have he2 : t_go isB T N n = p := by
          rw [← he]
          first
            | exact t_go_no (Or.inl c_8)
            | exact t_go_no (Or.inr (decide_eq_false c_22))
        refine V_aload_n (pc := 38) X dX10_step_38 rfl (by first | decide | omega | assumption) ?_
        refine V_aload_n (pc := 39) X dX10_step_39 rfl (by first | decide | omega | assumption) ?_
        refine V_gz (pc := 40) X dX10_step_40 f_RX10_88 (by first | rfl | assumption | (simp only [*]; done) | omega) 18 rfl (show _ = p from r_tk_18 _ _ _ _ _ _) ?_
        refine V_pz (pc := 43) X dX10_step_43 f_RX10_99 (by first | rfl | assumption | (simp only [*]; done) | omega) (fun b => z_fitI b _) 19 rfl ?_
        rw [r_tk_p19]
        refine V_aload_n (pc := 46) X dX10_step_46 rfl (by first | decide | omega | assumption) ?_
        refine V_iconst (pc := 47) X dX10_step_47 ?_
        refine V_pz (pc := 48) X dX10_step_48 f_RX10_102 (by first | rfl | assumption | (simp only [*]; done) | omega) (fun b => z_fitI b _) 21 rfl ?_
        rw [r_tk_p21]
        refine V_aload_n (pc := 51) X dX10_step_51 rfl (by first | decide | omega | assumption) ?_
        refine V_iconst (pc := 52) X dX10_step_52 ?_
        refine V_pz (pc := 53) X dX10_step_53 f_RX10_105 (by first | rfl | assumption | (simp only [*]; done) | omega) (fun b => z_fitI b _) 22 rfl ?_
        rw [r_tk_p22]
        refine V_aload_n (pc := 56) X dX10_step_56 rfl (by first | decide | omega | assumption) ?_
        refine V_gz (pc := 57) X dX10_step_57 f_RX10_88 (by first | rfl | assumption | (simp only [*]; done) | omega) 18 rfl (show _ = p from r_tk_18 _ _ _ _ _ _) ?_
        refine V_aload_n (pc := 60) X dX10_step_60 rfl (by first | decide | omega | assumption) ?_
        refine V_gz (pc := 61) X dX10_step_61 f_RX10_85 (by first | rfl | assumption | (simp only [*]; done) | omega) 16 rfl (show _ = N from (r_tk_s (by decide)).trans hNs) ?_
        refine V_icmp_ne (pc := 64) X 75 dX10_step_64 (by decide) ⟨by omega, by omega⟩ ⟨by omega, by omega⟩ (fun c_64 => ?_) (fun c_64 => ?_)
        · skip
          have hTs := hTx p (by omega) (by omega)
          refine V_aload_n (pc := 75) X dX10_step_75 rfl (by first | decide | omega | assumption) ?_
          refine V_FV (pc := 76) X dX10_step_76 oX10_isLetter l_RX10_111 eX10_isLetter vX10_isLetter ⟨Nat.le_of_ble_eq_true rfl, Nat.le_of_ble_eq_true rfl⟩ ⟨rfl, rfl⟩ ⟨Nat.le_of_ble_eq_true rfl, Nat.le_of_ble_eq_true rfl⟩ (ct_X10_isLetter hO hX (by omega) (by omega)) rfl (by first | rfl | assumption | (simp only [*]; done) | omega) (by intro q h; cases h; rfl) rfl (by rfl) (by exact Nat.le_of_ble_eq_true rfl) ?_
          refine V_bif_eq (pc := 79) X 148 dX10_step_79 (by decide)  (fun c_79 => ?_) (fun c_79 => ?_)
          · skip
            have eL : isL (T p) = false := by
              rcases r_isC_f c_79 with g | g
              · omega
              · exact g
            refine V_aload_n (pc := 148) X dX10_step_148 rfl (by first | decide | omega | assumption) ?_
            refine V_FV (pc := 149) X dX10_step_149 oX10_isFigure l_RX10_115 eX10_isFigure vX10_isFigure ⟨Nat.le_of_ble_eq_true rfl, Nat.le_of_ble_eq_true rfl⟩ ⟨rfl, rfl⟩ ⟨Nat.le_of_ble_eq_true rfl, Nat.le_of_ble_eq_true rfl⟩ (ct_X10_isFigure hO hX (by omega) (by omega)) rfl (by first | rfl | assumption | (simp only [*]; done) | omega) (by intro q h; cases h; rfl) rfl (by rfl) (by exact Nat.le_of_ble_eq_true rfl) ?_
            refine V_bif_eq (pc := 152) X 264 dX10_step_152 (by decide)  (fun c_152 => ?_) (fun c_152 => ?_)
            · skip
              have eD : isD (T p) = false := by
                rcases r_isC_f c_152 with g | g
                · omega
                · exact g
              have etk : m_tok T N n = (p + 1, p, if T p = 59 then 3 else 4, 0, 0) := by
                unfold m_tok
                rw [he2]
                unfold t_e m_k m_l m_v
                rw [if_neg (show ¬ N ≤ p by omega), if_neg (show ¬ N ≤ p by omega), if_neg (show ¬ N ≤ p by omega), if_neg (show ¬ N ≤ p by omega), eL, eD]
                rfl
              refine V_aload_n (pc := 264) X dX10_step_264 rfl (by first | decide | omega | assumption) ?_
              refine V_aload_n (pc := 265) X dX10_step_265 rfl (by first | decide | omega | assumption) ?_
              refine V_gz (pc := 266) X dX10_step_266 f_RX10_48 (by first | rfl | assumption | (simp only [*]; done) | omega) 15 rfl (show _ = (100 : Int) from (r_tk_s (by decide)).trans rb15) ?_
              refine V_aload_n (pc := 269) X dX10_step_269 rfl (by first | decide | omega | assumption) ?_
              refine V_gz (pc := 270) X dX10_step_270 f_RX10_88 (by first | rfl | assumption | (simp only [*]; done) | omega) 18 rfl (show _ = p from r_tk_18 _ _ _ _ _ _) ?_
              refine V_iald (pc := 273) X dX10_step_273 (by first | rfl | assumption | (simp only [*]; done) | omega) (by omega) (by omega) (by decide) ?_
              rw [r_tk_c (by decide), r2]
              refine V_bipush (pc := 274) X dX10_step_274 (by decide) ?_
              refine V_icmp_ne (pc := 276) X 283 dX10_step_276 (by decide) ⟨by omega, by omega⟩ ⟨by omega, by omega⟩ (fun c_276 => ?_) (fun c_276 => ?_)
              · skip
                refine V_iconst (pc := 283) X dX10_step_283 ?_
                refine V_pz (pc := 284) X dX10_step_284 f_RX10_108 (by first | rfl | assumption | (simp only [*]; done) | omega) (fun b => z_fitI b _) 20 rfl ?_
                rw [r_tk_p20]
                refine V_aload_n (pc := 287) X dX10_step_287 rfl (by first | decide | omega | assumption) ?_
                refine V_dup (pc := 288) X dX10_step_288 (Nat.ne_of_beq_eq_false rfl) ?_
                refine V_gz (pc := 289) X dX10_step_289 f_RX10_88 (by first | rfl | assumption | (simp only [*]; done) | omega) 18 rfl (show _ = p from r_tk_18 _ _ _ _ _ _) ?_
                refine V_iconst (pc := 292) X dX10_step_292 ?_
                refine V_iadd (pc := 293) X dX10_step_293 ?_
                refine V_pz (pc := 294) X dX10_step_294 f_RX10_88 (by first | rfl | assumption | (simp only [*]; done) | omega) (fun b => z_fitI b _) 18 rfl ?_
                rw [r_tk_p18]
                refine V_vret (st := []) (pc := 297) X hQ dX10_step_297 rfl rfl ?_
                exact ⟨rfl, by first | (rw [etk]; rfl) | (rw [etk, he3, if_pos c_131]; rfl) | (rw [etk, he3, if_neg c_131]; rfl) | (rw [etk, if_pos c_276]; rfl) | (rw [etk, if_neg c_276]; rfl) | (rw [etk, he3, if_pos ⟨by omega, c_245⟩]; rfl) | (rw [etk, he3, if_neg (fun g => c_245 g.2), show (p + (j : Int) - p).toNat = j by omega]; rfl) | (rw [etk, he3, if_neg (fun g => by omega), show (p + (j : Int) - p).toNat = j by omega]; rfl)⟩
              · skip
                refine V_iconst (pc := 279) X dX10_step_279 ?_
                refine V_goto (pc := 280) X 284 dX10_step_280 (by decide) ?_
                refine V_pz (pc := 284) X dX10_step_284 f_RX10_108 (by first | rfl | assumption | (simp only [*]; done) | omega) (fun b => z_fitI b _) 20 rfl ?_
                rw [r_tk_p20]
                refine V_aload_n (pc := 287) X dX10_step_287 rfl (by first | decide | omega | assumption) ?_
                refine V_dup (pc := 288) X dX10_step_288 (Nat.ne_of_beq_eq_false rfl) ?_
                refine V_gz (pc := 289) X dX10_step_289 f_RX10_88 (by first | rfl | assumption | (simp only [*]; done) | omega) 18 rfl (show _ = p from r_tk_18 _ _ _ _ _ _) ?_
                refine V_iconst (pc := 292) X dX10_step_292 ?_
                refine V_iadd (pc := 293) X dX10_step_293 ?_
                refine V_pz (pc := 294) X dX10_step_294 f_RX10_88 (by first | rfl | assumption | (simp only [*]; done) | omega) (fun b => z_fitI b _) 18 rfl ?_
                rw [r_tk_p18]
                refine V_vret (st := []) (pc := 297) X hQ dX10_step_297 rfl rfl ?_
                exact ⟨rfl, by first | (rw [etk]; rfl) | (rw [etk, he3, if_pos c_131]; rfl) | (rw [etk, he3, if_neg c_131]; rfl) | (rw [etk, if_pos c_276]; rfl) | (rw [etk, if_neg c_276]; rfl) | (rw [etk, he3, if_pos ⟨by omega, c_245⟩]; rfl) | (rw [etk, he3, if_neg (fun g => c_245 g.2), show (p + (j : Int) - p).toNat = j by omega]; rfl) | (rw [etk, he3, if_neg (fun g => by omega), show (p + (j : Int) - p).toNat = j by omega]; rfl)⟩
            · skip
              have eD := (r_isC_t c_152).2
              have etk : m_tok T N n = (t_go isD T N p, p, 2, 0, if 1 < t_go isD T N p - p ∧ T p = 48 then 1000 else t_acc T p (t_go isD T N p - p).toNat) := by
                unfold m_tok
                rw [he2]
                unfold t_e m_k m_l m_v
                rw [if_neg (show ¬ N ≤ p by omega), if_neg (show ¬ N ≤ p by omega), if_neg (show ¬ N ≤ p by omega), if_neg (show ¬ N ≤ p by omega), eL, eD]
                rfl
              refine V_aload_n (pc := 155) X dX10_step_155 rfl (by first | decide | omega | assumption) ?_
              refine V_iconst (pc := 156) X dX10_step_156 ?_
              refine V_pz (pc := 157) X dX10_step_157 f_RX10_108 (by first | rfl | assumption | (simp only [*]; done) | omega) (fun b => z_fitI b _) 20 rfl ?_
              rw [r_tk_p20]
              have lp_160 : ∀ (m : Nat) (j : Nat), (N - (p + (j : Int))).toNat < m → p + (j : Int) ≤ N → (∀ i : Int, p ≤ i → i < p + j → 48 ≤ T i ∧ T i ≤ 57) → t_go isD T N (p + (j : Int)) = t_go isD T N p → z_V Γ (107, 0, 0) 160 [(2, 89)] [] (r_tk h (p + (j : Int)) p 2 0 (t_acc T p j)) := by
                intro m
                induction m with
                | zero => intro j hm; exact absurd hm (Nat.not_lt_zero _)
                | succ m ih_160 =>
                  intro j hm hj1 hall hej
                  have hac := t_acc_rng (T := T) (s := p) (n := j) hall
                  refine V_aload_n (pc := 160) X dX10_step_160 rfl (by first | decide | omega | assumption) ?_
                  refine V_FV (pc := 161) X dX10_step_161 oX10_isFigure l_RX10_115 eX10_isFigure vX10_isFigure ⟨Nat.le_of_ble_eq_true rfl, Nat.le_of_ble_eq_true rfl⟩ ⟨rfl, rfl⟩ ⟨Nat.le_of_ble_eq_true rfl, Nat.le_of_ble_eq_true rfl⟩ (ct_X10_isFigure hO hX (by omega) (by omega)) rfl (by first | rfl | assumption | (simp only [*]; done) | omega) (by intro q h; cases h; rfl) rfl (by rfl) (by exact Nat.le_of_ble_eq_true rfl) ?_
                  refine V_bif_eq (pc := 164) X 220 dX10_step_164 (by decide)  (fun c_164 => ?_) (fun c_164 => ?_)
                  · skip
                    have he3 : t_go isD T N p = p + (j : Int) := by
                      rw [← hej]
                      exact t_go_no (r_isC_f c_164)
                    refine V_aload_n (pc := 220) X dX10_step_220 rfl (by first | decide | omega | assumption) ?_
                    refine V_aload_n (pc := 221) X dX10_step_221 rfl (by first | decide | omega | assumption) ?_
                    refine V_gz (pc := 222) X dX10_step_222 f_RX10_88 (by first | rfl | assumption | (simp only [*]; done) | omega) 18 rfl (show _ = p + (j : Int) from r_tk_18 _ _ _ _ _ _) ?_
                    refine V_aload_n (pc := 225) X dX10_step_225 rfl (by first | decide | omega | assumption) ?_
                    refine V_gz (pc := 226) X dX10_step_226 f_RX10_99 (by first | rfl | assumption | (simp only [*]; done) | omega) 19 rfl (show _ = p from r_tk_19 _ _ _ _ _ _) ?_
                    refine V_isub (pc := 229) X dX10_step_229 ?_
                    refine V_iconst (pc := 230) X dX10_step_230 ?_
                    refine V_icmp_le (pc := 231) X 254 dX10_step_231 (by decide) ⟨by omega, by omega⟩ ⟨by omega, by omega⟩ (fun c_231 => ?_) (fun c_231 => ?_)
                    · skip
                      refine V_aload_n (pc := 254) X dX10_step_254 rfl (by first | decide | omega | assumption) ?_
                      refine V_gz (pc := 255) X dX10_step_255 f_RX10_105 (by first | rfl | assumption | (simp only [*]; done) | omega) 22 rfl (show _ = t_acc T p j from r_tk_22 _ _ _ _ _ _) ?_
                      refine V_pz (pc := 258) X dX10_step_258 f_RX10_105 (by first | rfl | assumption | (simp only [*]; done) | omega) (fun b => z_fitI b _) 22 rfl ?_
                      rw [r_tk_p22]
                      refine V_goto (pc := 261) X 297 dX10_step_261 (by decide) ?_
                      refine V_vret (st := []) (pc := 297) X hQ dX10_step_297 rfl rfl ?_
                      exact ⟨rfl, by first | (rw [etk]; rfl) | (rw [etk, he3, if_pos c_131]; rfl) | (rw [etk, he3, if_neg c_131]; rfl) | (rw [etk, if_pos c_276]; rfl) | (rw [etk, if_neg c_276]; rfl) | (rw [etk, he3, if_pos ⟨by omega, c_245⟩]; rfl) | (rw [etk, he3, if_neg (fun g => c_245 g.2), show (p + (j : Int) - p).toNat = j by omega]; rfl) | (rw [etk, he3, if_neg (fun g => by omega), show (p + (j : Int) - p).toNat = j by omega]; rfl)⟩
                    · skip
                      refine V_aload_n (pc := 234) X dX10_step_234 rfl (by first | decide | omega | assumption) ?_
                      refine V_gz (pc := 235) X dX10_step_235 f_RX10_48 (by first | rfl | assumption | (simp only [*]; done) | omega) 15 rfl (show _ = (100 : Int) from (r_tk_s (by decide)).trans rb15) ?_
                      refine V_aload_n (pc := 238) X dX10_step_238 rfl (by first | decide | omega | assumption) ?_
                      refine V_gz (pc := 239) X dX10_step_239 f_RX10_99 (by first | rfl | assumption | (simp only [*]; done) | omega) 19 rfl (show _ = p from r_tk_19 _ _ _ _ _ _) ?_
                      refine V_iald (pc := 242) X dX10_step_242 (by first | rfl | assumption | (simp only [*]; done) | omega) (by omega) (by omega) (by decide) ?_
                      rw [r_tk_c (by decide), r2]
                      refine V_bipush (pc := 243) X dX10_step_243 (by decide) ?_
                      refine V_icmp_ne (pc := 245) X 254 dX10_step_245 (by decide) ⟨by omega, by omega⟩ ⟨by omega, by omega⟩ (fun c_245 => ?_) (fun c_245 => ?_)
                      · skip
                        refine V_aload_n (pc := 254) X dX10_step_254 rfl (by first | decide | omega | assumption) ?_
                        refine V_gz (pc := 255) X dX10_step_255 f_RX10_105 (by first | rfl | assumption | (simp only [*]; done) | omega) 22 rfl (show _ = t_acc T p j from r_tk_22 _ _ _ _ _ _) ?_
                        refine V_pz (pc := 258) X dX10_step_258 f_RX10_105 (by first | rfl | assumption | (simp only [*]; done) | omega) (fun b => z_fitI b _) 22 rfl ?_
                        rw [r_tk_p22]
                        refine V_goto (pc := 261) X 297 dX10_step_261 (by decide) ?_
                        refine V_vret (st := []) (pc := 297) X hQ dX10_step_297 rfl rfl ?_
                        exact ⟨rfl, by first | (rw [etk]; rfl) | (rw [etk, he3, if_pos c_131]; rfl) | (rw [etk, he3, if_neg c_131]; rfl) | (rw [etk, if_pos c_276]; rfl) | (rw [etk, if_neg c_276]; rfl) | (rw [etk, he3, if_pos ⟨by omega, c_245⟩]; rfl) | (rw [etk, he3, if_neg (fun g => c_245 g.2), show (p + (j : Int) - p).toNat = j by omega]; rfl) | (rw [etk, he3, if_neg (fun g => by omega), show (p + (j : Int) - p).toNat = j by omega]; rfl)⟩
                      · skip
                        refine V_sipush (pc := 248) X dX10_step_248 (by decide) ?_
                        refine V_goto (pc := 251) X 258 dX10_step_251 (by decide) ?_
                        refine V_pz (pc := 258) X dX10_step_258 f_RX10_105 (by first | rfl | assumption | (simp only [*]; done) | omega) (fun b => z_fitI b _) 22 rfl ?_
                        rw [r_tk_p22]
                        refine V_goto (pc := 261) X 297 dX10_step_261 (by decide) ?_
                        refine V_vret (st := []) (pc := 297) X hQ dX10_step_297 rfl rfl ?_
                        exact ⟨rfl, by first | (rw [etk]; rfl) | (rw [etk, he3, if_pos c_131]; rfl) | (rw [etk, he3, if_neg c_131]; rfl) | (rw [etk, if_pos c_276]; rfl) | (rw [etk, if_neg c_276]; rfl) | (rw [etk, he3, if_pos ⟨by omega, c_245⟩]; rfl) | (rw [etk, he3, if_neg (fun g => c_245 g.2), show (p + (j : Int) - p).toNat = j by omega]; rfl) | (rw [etk, he3, if_neg (fun g => by omega), show (p + (j : Int) - p).toNat = j by omega]; rfl)⟩
                  · skip
                    refine V_aload_n (pc := 167) X dX10_step_167 rfl (by first | decide | omega | assumption) ?_
                    refine V_aload_n (pc := 168) X dX10_step_168 rfl (by first | decide | omega | assumption) ?_
                    refine V_gz (pc := 169) X dX10_step_169 f_RX10_105 (by first | rfl | assumption | (simp only [*]; done) | omega) 22 rfl (show _ = t_acc T p j from r_tk_22 _ _ _ _ _ _) ?_
                    refine V_bipush (pc := 172) X dX10_step_172 (by decide) ?_
                    refine V_icmp_le (pc := 174) X 184 dX10_step_174 (by decide) ⟨by omega, by omega⟩ ⟨by omega, by omega⟩ (fun c_174 => ?_) (fun c_174 => ?_)
                    · skip
                      refine V_bipush (pc := 184) X dX10_step_184 (by decide) ?_
                      refine V_aload_n (pc := 186) X dX10_step_186 rfl (by first | decide | omega | assumption) ?_
                      refine V_gz (pc := 187) X dX10_step_187 f_RX10_105 (by first | rfl | assumption | (simp only [*]; done) | omega) 22 rfl (show _ = t_acc T p j from r_tk_22 _ _ _ _ _ _) ?_
                      refine V_imul (pc := 190) X dX10_step_190 ?_
                      refine V_aload_n (pc := 191) X dX10_step_191 rfl (by first | decide | omega | assumption) ?_
                      refine V_gz (pc := 192) X dX10_step_192 f_RX10_48 (by first | rfl | assumption | (simp only [*]; done) | omega) 15 rfl (show _ = (100 : Int) from (r_tk_s (by decide)).trans rb15) ?_
                      refine V_aload_n (pc := 195) X dX10_step_195 rfl (by first | decide | omega | assumption) ?_
                      refine V_gz (pc := 196) X dX10_step_196 f_RX10_88 (by first | rfl | assumption | (simp only [*]; done) | omega) 18 rfl (show _ = p + (j : Int) from r_tk_18 _ _ _ _ _ _) ?_
                      have hlt := (r_isC_t c_164).1
                      refine V_iald (pc := 199) X dX10_step_199 (by first | rfl | assumption | (simp only [*]; done) | omega) (by omega) (by omega) (by decide) ?_
                      rw [r_tk_c (by decide), r2]
                      refine V_iadd (pc := 200) X dX10_step_200 ?_
                      refine V_bipush (pc := 201) X dX10_step_201 (by decide) ?_
                      refine V_isub (pc := 203) X dX10_step_203 ?_
                      refine V_pz (pc := 204) X dX10_step_204 f_RX10_105 (by first | rfl | assumption | (simp only [*]; done) | omega) (fun b => z_fitI b _) 22 rfl ?_
                      rw [r_tk_p22]
                      refine V_aload_n (pc := 207) X dX10_step_207 rfl (by first | decide | omega | assumption) ?_
                      refine V_dup (pc := 208) X dX10_step_208 (Nat.ne_of_beq_eq_false rfl) ?_
                      refine V_gz (pc := 209) X dX10_step_209 f_RX10_88 (by first | rfl | assumption | (simp only [*]; done) | omega) 18 rfl (show _ = p + (j : Int) from r_tk_18 _ _ _ _ _ _) ?_
                      refine V_iconst (pc := 212) X dX10_step_212 ?_
                      refine V_iadd (pc := 213) X dX10_step_213 ?_
                      refine V_pz (pc := 214) X dX10_step_214 f_RX10_88 (by first | rfl | assumption | (simp only [*]; done) | omega) (fun b => z_fitI b _) 18 rfl ?_
                      rw [r_tk_p18]
                      refine V_goto (pc := 217) X 160 dX10_step_217 (by decide) ?_
                      have hc := r_isC_t c_164
                      have hd : 48 ≤ T (p + (j : Int)) ∧ T (p + (j : Int)) ≤ 57 := by simpa [isD] using hc.2
                      refine V_heap ?_ (ih_160 (j + 1) (by omega) (by omega) (fun i a b => ?_) ?_)
                      · rw [show p + ((j + 1 : Nat) : Int) = p + (j : Int) + 1 by omega, t_acc_succ]
                        first
                          | rw [if_neg (Int.not_lt.mpr c_174), Int.mul_comm 10]
                          | rw [if_pos (Int.not_le.mp c_174)]
                      · by_cases e9 : i = p + j
                        · rw [e9]; exact hd
                        · exact hall i a (by omega)
                      · rw [← hej, show p + ((j + 1 : Nat) : Int) = p + (j : Int) + 1 by omega]
                        exact (t_go_yes hc.1 hc.2).symm
                    · skip
                      refine V_aload_n (pc := 177) X dX10_step_177 rfl (by first | decide | omega | assumption) ?_
                      refine V_gz (pc := 178) X dX10_step_178 f_RX10_105 (by first | rfl | assumption | (simp only [*]; done) | omega) 22 rfl (show _ = t_acc T p j from r_tk_22 _ _ _ _ _ _) ?_
                      refine V_goto (pc := 181) X 204 dX10_step_181 (by decide) ?_
                      refine V_pz (pc := 204) X dX10_step_204 f_RX10_105 (by first | rfl | assumption | (simp only [*]; done) | omega) (fun b => z_fitI b _) 22 rfl ?_
                      rw [r_tk_p22]
                      refine V_aload_n (pc := 207) X dX10_step_207 rfl (by first | decide | omega | assumption) ?_
                      refine V_dup (pc := 208) X dX10_step_208 (Nat.ne_of_beq_eq_false rfl) ?_
                      refine V_gz (pc := 209) X dX10_step_209 f_RX10_88 (by first | rfl | assumption | (simp only [*]; done) | omega) 18 rfl (show _ = p + (j : Int) from r_tk_18 _ _ _ _ _ _) ?_
                      refine V_iconst (pc := 212) X dX10_step_212 ?_
                      refine V_iadd (pc := 213) X dX10_step_213 ?_
                      refine V_pz (pc := 214) X dX10_step_214 f_RX10_88 (by first | rfl | assumption | (simp only [*]; done) | omega) (fun b => z_fitI b _) 18 rfl ?_
                      rw [r_tk_p18]
                      refine V_goto (pc := 217) X 160 dX10_step_217 (by decide) ?_
                      have hc := r_isC_t c_164
                      have hd : 48 ≤ T (p + (j : Int)) ∧ T (p + (j : Int)) ≤ 57 := by simpa [isD] using hc.2
                      refine V_heap ?_ (ih_160 (j + 1) (by omega) (by omega) (fun i a b => ?_) ?_)
                      · rw [show p + ((j + 1 : Nat) : Int) = p + (j : Int) + 1 by omega, t_acc_succ]
                        first
                          | rw [if_neg (Int.not_lt.mpr c_174), Int.mul_comm 10]
                          | rw [if_pos (Int.not_le.mp c_174)]
                      · by_cases e9 : i = p + j
                        · rw [e9]; exact hd
                        · exact hall i a (by omega)
                      · rw [← hej, show p + ((j + 1 : Nat) : Int) = p + (j : Int) + 1 by omega]
                        exact (t_go_yes hc.1 hc.2).symm
              refine V_heap (h' := r_tk h (p + ((0 : Nat) : Int)) p 2 0 (t_acc T p 0)) (by rw [show p + ((0 : Nat) : Int) = p from Int.add_zero p]; rfl) ?_
              exact lp_160 _ 0 (Nat.lt_succ_self _) (by simp; omega) (fun i a b => by simp at b; omega) (by rw [show p + ((0 : Nat) : Int) = p from Int.add_zero p])
          · skip
            have eL := (r_isC_t c_79).2
            have etk : m_tok T N n = (t_go isL T N p, p, 1, if t_go isL T N p - p = 1 then T p else 0, 0) := by
              unfold m_tok
              rw [he2]
              unfold t_e m_k m_l m_v
              rw [if_neg (show ¬ N ≤ p by omega), if_neg (show ¬ N ≤ p by omega), if_neg (show ¬ N ≤ p by omega), if_neg (show ¬ N ≤ p by omega), eL]
              rfl
            refine V_aload_n (pc := 82) X dX10_step_82 rfl (by first | decide | omega | assumption) ?_
            refine V_iconst (pc := 83) X dX10_step_83 ?_
            refine V_pz (pc := 84) X dX10_step_84 f_RX10_108 (by first | rfl | assumption | (simp only [*]; done) | omega) (fun b => z_fitI b _) 20 rfl ?_
            rw [r_tk_p20]
            refine V_aload_n (pc := 87) X dX10_step_87 rfl (by first | decide | omega | assumption) ?_
            refine V_aload_n (pc := 88) X dX10_step_88 rfl (by first | decide | omega | assumption) ?_
            refine V_gz (pc := 89) X dX10_step_89 f_RX10_48 (by first | rfl | assumption | (simp only [*]; done) | omega) 15 rfl (show _ = (100 : Int) from (r_tk_s (by decide)).trans rb15) ?_
            refine V_aload_n (pc := 92) X dX10_step_92 rfl (by first | decide | omega | assumption) ?_
            refine V_gz (pc := 93) X dX10_step_93 f_RX10_88 (by first | rfl | assumption | (simp only [*]; done) | omega) 18 rfl (show _ = p from r_tk_18 _ _ _ _ _ _) ?_
            refine V_iald (pc := 96) X dX10_step_96 (by first | rfl | assumption | (simp only [*]; done) | omega) (by omega) (by omega) (by decide) ?_
            rw [r_tk_c (by decide), r2]
            refine V_pz (pc := 97) X dX10_step_97 f_RX10_102 (by first | rfl | assumption | (simp only [*]; done) | omega) (fun b => z_fitI b _) 21 rfl ?_
            rw [r_tk_p21]
            have lp_100 : ∀ (m : Nat) (i : Int), (N - i).toNat < m → p ≤ i → i ≤ N → t_go isL T N i = t_go isL T N p → z_V Γ (107, 0, 0) 100 [(2, 89)] [] (r_tk h i p 1 (T p) 0) := by
              intro m
              induction m with
              | zero => intro i hm; exact absurd hm (Nat.not_lt_zero _)
              | succ m ih_100 =>
                intro i hm hi0 hi1 hei
                refine V_aload_n (pc := 100) X dX10_step_100 rfl (by first | decide | omega | assumption) ?_
                refine V_FV (pc := 101) X dX10_step_101 oX10_isLetter l_RX10_111 eX10_isLetter vX10_isLetter ⟨Nat.le_of_ble_eq_true rfl, Nat.le_of_ble_eq_true rfl⟩ ⟨rfl, rfl⟩ ⟨Nat.le_of_ble_eq_true rfl, Nat.le_of_ble_eq_true rfl⟩ (ct_X10_isLetter hO hX (by omega) (by omega)) rfl (by first | rfl | assumption | (simp only [*]; done) | omega) (by intro q h; cases h; rfl) rfl (by rfl) (by exact Nat.le_of_ble_eq_true rfl) ?_
                refine V_bif_eq (pc := 104) X 120 dX10_step_104 (by decide)  (fun c_104 => ?_) (fun c_104 => ?_)
                · skip
                  have he3 : t_go isL T N p = i := by
                    rw [← hei]
                    exact t_go_no (r_isC_f c_104)
                  refine V_aload_n (pc := 120) X dX10_step_120 rfl (by first | decide | omega | assumption) ?_
                  refine V_aload_n (pc := 121) X dX10_step_121 rfl (by first | decide | omega | assumption) ?_
                  refine V_gz (pc := 122) X dX10_step_122 f_RX10_88 (by first | rfl | assumption | (simp only [*]; done) | omega) 18 rfl (show _ = i from r_tk_18 _ _ _ _ _ _) ?_
                  refine V_aload_n (pc := 125) X dX10_step_125 rfl (by first | decide | omega | assumption) ?_
                  refine V_gz (pc := 126) X dX10_step_126 f_RX10_99 (by first | rfl | assumption | (simp only [*]; done) | omega) 19 rfl (show _ = p from r_tk_19 _ _ _ _ _ _) ?_
                  refine V_isub (pc := 129) X dX10_step_129 ?_
                  refine V_iconst (pc := 130) X dX10_step_130 ?_
                  refine V_icmp_ne (pc := 131) X 141 dX10_step_131 (by decide) ⟨by omega, by omega⟩ ⟨by omega, by omega⟩ (fun c_131 => ?_) (fun c_131 => ?_)
                  · skip
                    refine V_iconst (pc := 141) X dX10_step_141 ?_
                    refine V_pz (pc := 142) X dX10_step_142 f_RX10_102 (by first | rfl | assumption | (simp only [*]; done) | omega) (fun b => z_fitI b _) 21 rfl ?_
                    rw [r_tk_p21]
                    refine V_goto (pc := 145) X 297 dX10_step_145 (by decide) ?_
                    refine V_vret (st := []) (pc := 297) X hQ dX10_step_297 rfl rfl ?_
                    exact ⟨rfl, by first | (rw [etk]; rfl) | (rw [etk, he3, if_pos c_131]; rfl) | (rw [etk, he3, if_neg c_131]; rfl) | (rw [etk, if_pos c_276]; rfl) | (rw [etk, if_neg c_276]; rfl) | (rw [etk, he3, if_pos ⟨by omega, c_245⟩]; rfl) | (rw [etk, he3, if_neg (fun g => c_245 g.2), show (p + (j : Int) - p).toNat = j by omega]; rfl) | (rw [etk, he3, if_neg (fun g => by omega), show (p + (j : Int) - p).toNat = j by omega]; rfl)⟩
                  · skip
                    refine V_aload_n (pc := 134) X dX10_step_134 rfl (by first | decide | omega | assumption) ?_
                    refine V_gz (pc := 135) X dX10_step_135 f_RX10_102 (by first | rfl | assumption | (simp only [*]; done) | omega) 21 rfl (show _ = T p from r_tk_21 _ _ _ _ _ _) ?_
                    refine V_goto (pc := 138) X 142 dX10_step_138 (by decide) ?_
                    refine V_pz (pc := 142) X dX10_step_142 f_RX10_102 (by first | rfl | assumption | (simp only [*]; done) | omega) (fun b => z_fitI b _) 21 rfl ?_
                    rw [r_tk_p21]
                    refine V_goto (pc := 145) X 297 dX10_step_145 (by decide) ?_
                    refine V_vret (st := []) (pc := 297) X hQ dX10_step_297 rfl rfl ?_
                    exact ⟨rfl, by first | (rw [etk]; rfl) | (rw [etk, he3, if_pos c_131]; rfl) | (rw [etk, he3, if_neg c_131]; rfl) | (rw [etk, if_pos c_276]; rfl) | (rw [etk, if_neg c_276]; rfl) | (rw [etk, he3, if_pos ⟨by omega, c_245⟩]; rfl) | (rw [etk, he3, if_neg (fun g => c_245 g.2), show (p + (j : Int) - p).toNat = j by omega]; rfl) | (rw [etk, he3, if_neg (fun g => by omega), show (p + (j : Int) - p).toNat = j by omega]; rfl)⟩
                · skip
                  refine V_aload_n (pc := 107) X dX10_step_107 rfl (by first | decide | omega | assumption) ?_
                  refine V_dup (pc := 108) X dX10_step_108 (Nat.ne_of_beq_eq_false rfl) ?_
                  refine V_gz (pc := 109) X dX10_step_109 f_RX10_88 (by first | rfl | assumption | (simp only [*]; done) | omega) 18 rfl (show _ = i from r_tk_18 _ _ _ _ _ _) ?_
                  refine V_iconst (pc := 112) X dX10_step_112 ?_
                  refine V_iadd (pc := 113) X dX10_step_113 ?_
                  refine V_pz (pc := 114) X dX10_step_114 f_RX10_88 (by first | rfl | assumption | (simp only [*]; done) | omega) (fun b => z_fitI b _) 18 rfl ?_
                  rw [r_tk_p18]
                  refine V_goto (pc := 117) X 100 dX10_step_117 (by decide) ?_
                  have hc := r_isC_t c_104
                  exact ih_100 (i + 1) (by omega) (by omega) (by omega) (by rw [← hei]; exact (t_go_yes hc.1 hc.2).symm)
            exact lp_100 _ p (Nat.lt_succ_self _) (by omega) (by omega) rfl
        · skip
          have etk : m_tok T N n = (p, p, 0, 0, 0) := by
            unfold m_tok
            rw [he2]
            unfold t_e m_k m_l m_v
            rw [if_pos (show N ≤ p by omega), if_pos (show N ≤ p by omega), if_pos (show N ≤ p by omega), if_pos (show N ≤ p by omega)]
          refine V_aload_n (pc := 67) X dX10_step_67 rfl (by first | decide | omega | assumption) ?_
          refine V_iconst (pc := 68) X dX10_step_68 ?_
          refine V_pz (pc := 69) X dX10_step_69 f_RX10_108 (by first | rfl | assumption | (simp only [*]; done) | omega) (fun b => z_fitI b _) 20 rfl ?_
          rw [r_tk_p20]
          refine V_goto (pc := 72) X 297 dX10_step_72 (by decide) ?_
          refine V_vret (st := []) (pc := 297) X hQ dX10_step_297 rfl rfl ?_
          exact ⟨rfl, by first | (rw [etk]; rfl) | (rw [etk, he3, if_pos c_131]; rfl) | (rw [etk, he3, if_neg c_131]; rfl) | (rw [etk, if_pos c_276]; rfl) | (rw [etk, if_neg c_276]; rfl) | (rw [etk, he3, if_pos ⟨by omega, c_245⟩]; rfl) | (rw [etk, he3, if_neg (fun g => c_245 g.2), show (p + (j : Int) - p).toNat = j by omega]; rfl) | (rw [etk, he3, if_neg (fun g => by omega), show (p + (j : Int) - p).toNat = j by omega]; rfl)⟩
      · skip
        refine V_aload_n (pc := 11) X dX10_step_11 rfl (by first | decide | omega | assumption) ?_
        refine V_gz (pc := 12) X dX10_step_12 f_RX10_48 (by first | rfl | assumption | (simp only [*]; done) | omega) 15 rfl (show _ = (100 : Int) from (r_tk_s (by decide)).trans rb15) ?_
        refine V_aload_n (pc := 15) X dX10_step_15 rfl (by first | decide | omega | assumption) ?_
        refine V_gz (pc := 16) X dX10_step_16 f_RX10_88 (by first | rfl | assumption | (simp only [*]; done) | omega) 18 rfl (show _ = p from r_tk_18 _ _ _ _ _ _) ?_
        have hTp := hTx p (by omega) (by omega)
        refine V_iald (pc := 19) X dX10_step_19 (by first | rfl | assumption | (simp only [*]; done) | omega) (by omega) (by omega) (by decide) ?_
        rw [r_tk_c (by decide), r2]
        refine V_bipush (pc := 20) X dX10_step_20 (by decide) ?_
        refine V_icmp_ne (pc := 22) X 38 dX10_step_22 (by decide) ⟨by omega, by omega⟩ ⟨by omega, by omega⟩ (fun c_22 => ?_) (fun c_22 => ?_)
        · skip
          have he2 : t_go isB T N n = p := by
            rw [← he]
            first
              | exact t_go_no (Or.inl c_8)
              | exact t_go_no (Or.inr (decide_eq_false c_22))
          refine V_aload_n (pc := 38) X dX10_step_38 rfl (by first | decide | omega | assumption) ?_
          refine V_aload_n (pc := 39) X dX10_step_39 rfl (by first | decide | omega | assumption) ?_
          refine V_gz (pc := 40) X dX10_step_40 f_RX10_88 (by first | rfl | assumption | (simp only [*]; done) | omega) 18 rfl (show _ = p from r_tk_18 _ _ _ _ _ _) ?_
          refine V_pz (pc := 43) X dX10_step_43 f_RX10_99 (by first | rfl | assumption | (simp only [*]; done) | omega) (fun b => z_fitI b _) 19 rfl ?_
          rw [r_tk_p19]
          refine V_aload_n (pc := 46) X dX10_step_46 rfl (by first | decide | omega | assumption) ?_
          refine V_iconst (pc := 47) X dX10_step_47 ?_
          refine V_pz (pc := 48) X dX10_step_48 f_RX10_102 (by first | rfl | assumption | (simp only [*]; done) | omega) (fun b => z_fitI b _) 21 rfl ?_
          rw [r_tk_p21]
          refine V_aload_n (pc := 51) X dX10_step_51 rfl (by first | decide | omega | assumption) ?_
          refine V_iconst (pc := 52) X dX10_step_52 ?_
          refine V_pz (pc := 53) X dX10_step_53 f_RX10_105 (by first | rfl | assumption | (simp only [*]; done) | omega) (fun b => z_fitI b _) 22 rfl ?_
          rw [r_tk_p22]
          refine V_aload_n (pc := 56) X dX10_step_56 rfl (by first | decide | omega | assumption) ?_
          refine V_gz (pc := 57) X dX10_step_57 f_RX10_88 (by first | rfl | assumption | (simp only [*]; done) | omega) 18 rfl (show _ = p from r_tk_18 _ _ _ _ _ _) ?_
          refine V_aload_n (pc := 60) X dX10_step_60 rfl (by first | decide | omega | assumption) ?_
          refine V_gz (pc := 61) X dX10_step_61 f_RX10_85 (by first | rfl | assumption | (simp only [*]; done) | omega) 16 rfl (show _ = N from (r_tk_s (by decide)).trans hNs) ?_
          refine V_icmp_ne (pc := 64) X 75 dX10_step_64 (by decide) ⟨by omega, by omega⟩ ⟨by omega, by omega⟩ (fun c_64 => ?_) (fun c_64 => ?_)
          · skip
            have hTs := hTx p (by omega) (by omega)
            refine V_aload_n (pc := 75) X dX10_step_75 rfl (by first | decide | omega | assumption) ?_
            refine V_FV (pc := 76) X dX10_step_76 oX10_isLetter l_RX10_111 eX10_isLetter vX10_isLetter ⟨Nat.le_of_ble_eq_true rfl, Nat.le_of_ble_eq_true rfl⟩ ⟨rfl, rfl⟩ ⟨Nat.le_of_ble_eq_true rfl, Nat.le_of_ble_eq_true rfl⟩ (ct_X10_isLetter hO hX (by omega) (by omega)) rfl (by first | rfl | assumption | (simp only [*]; done) | omega) (by intro q h; cases h; rfl) rfl (by rfl) (by exact Nat.le_of_ble_eq_true rfl) ?_
            refine V_bif_eq (pc := 79) X 148 dX10_step_79 (by decide)  (fun c_79 => ?_) (fun c_79 => ?_)
            · skip
              have eL : isL (T p) = false := by
                rcases r_isC_f c_79 with g | g
                · omega
                · exact g
              refine V_aload_n (pc := 148) X dX10_step_148 rfl (by first | decide | omega | assumption) ?_
              refine V_FV (pc := 149) X dX10_step_149 oX10_isFigure l_RX10_115 eX10_isFigure vX10_isFigure ⟨Nat.le_of_ble_eq_true rfl, Nat.le_of_ble_eq_true rfl⟩ ⟨rfl, rfl⟩ ⟨Nat.le_of_ble_eq_true rfl, Nat.le_of_ble_eq_true rfl⟩ (ct_X10_isFigure hO hX (by omega) (by omega)) rfl (by first | rfl | assumption | (simp only [*]; done) | omega) (by intro q h; cases h; rfl) rfl (by rfl) (by exact Nat.le_of_ble_eq_true rfl) ?_
              refine V_bif_eq (pc := 152) X 264 dX10_step_152 (by decide)  (fun c_152 => ?_) (fun c_152 => ?_)
              · skip
                have eD : isD (T p) = false := by
                  rcases r_isC_f c_152 with g | g
                  · omega
                  · exact g
                have etk : m_tok T N n = (p + 1, p, if T p = 59 then 3 else 4, 0, 0) := by
                  unfold m_tok
                  rw [he2]
                  unfold t_e m_k m_l m_v
                  rw [if_neg (show ¬ N ≤ p by omega), if_neg (show ¬ N ≤ p by omega), if_neg (show ¬ N ≤ p by omega), if_neg (show ¬ N ≤ p by omega), eL, eD]
                  rfl
                refine V_aload_n (pc := 264) X dX10_step_264 rfl (by first | decide | omega | assumption) ?_
                refine V_aload_n (pc := 265) X dX10_step_265 rfl (by first | decide | omega | assumption) ?_
                refine V_gz (pc := 266) X dX10_step_266 f_RX10_48 (by first | rfl | assumption | (simp only [*]; done) | omega) 15 rfl (show _ = (100 : Int) from (r_tk_s (by decide)).trans rb15) ?_
                refine V_aload_n (pc := 269) X dX10_step_269 rfl (by first | decide | omega | assumption) ?_
                refine V_gz (pc := 270) X dX10_step_270 f_RX10_88 (by first | rfl | assumption | (simp only [*]; done) | omega) 18 rfl (show _ = p from r_tk_18 _ _ _ _ _ _) ?_
                refine V_iald (pc := 273) X dX10_step_273 (by first | rfl | assumption | (simp only [*]; done) | omega) (by omega) (by omega) (by decide) ?_
                rw [r_tk_c (by decide), r2]
                refine V_bipush (pc := 274) X dX10_step_274 (by decide) ?_
                refine V_icmp_ne (pc := 276) X 283 dX10_step_276 (by decide) ⟨by omega, by omega⟩ ⟨by omega, by omega⟩ (fun c_276 => ?_) (fun c_276 => ?_)
                · skip
                  refine V_iconst (pc := 283) X dX10_step_283 ?_
                  refine V_pz (pc := 284) X dX10_step_284 f_RX10_108 (by first | rfl | assumption | (simp only [*]; done) | omega) (fun b => z_fitI b _) 20 rfl ?_
                  rw [r_tk_p20]
                  refine V_aload_n (pc := 287) X dX10_step_287 rfl (by first | decide | omega | assumption) ?_
                  refine V_dup (pc := 288) X dX10_step_288 (Nat.ne_of_beq_eq_false rfl) ?_
                  refine V_gz (pc := 289) X dX10_step_289 f_RX10_88 (by first | rfl | assumption | (simp only [*]; done) | omega) 18 rfl (show _ = p from r_tk_18 _ _ _ _ _ _) ?_
                  refine V_iconst (pc := 292) X dX10_step_292 ?_
                  refine V_iadd (pc := 293) X dX10_step_293 ?_
                  refine V_pz (pc := 294) X dX10_step_294 f_RX10_88 (by first | rfl | assumption | (simp only [*]; done) | omega) (fun b => z_fitI b _) 18 rfl ?_
                  rw [r_tk_p18]
                  refine V_vret (st := []) (pc := 297) X hQ dX10_step_297 rfl rfl ?_
                  exact ⟨rfl, by first | (rw [etk]; rfl) | (rw [etk, he3, if_pos c_131]; rfl) | (rw [etk, he3, if_neg c_131]; rfl) | (rw [etk, if_pos c_276]; rfl) | (rw [etk, if_neg c_276]; rfl) | (rw [etk, he3, if_pos ⟨by omega, c_245⟩]; rfl) | (rw [etk, he3, if_neg (fun g => c_245 g.2), show (p + (j : Int) - p).toNat = j by omega]; rfl) | (rw [etk, he3, if_neg (fun g => by omega), show (p + (j : Int) - p).toNat = j by omega]; rfl)⟩
                · skip
                  refine V_iconst (pc := 279) X dX10_step_279 ?_
                  refine V_goto (pc := 280) X 284 dX10_step_280 (by decide) ?_
                  refine V_pz (pc := 284) X dX10_step_284 f_RX10_108 (by first | rfl | assumption | (simp only [*]; done) | omega) (fun b => z_fitI b _) 20 rfl ?_
                  rw [r_tk_p20]
                  refine V_aload_n (pc := 287) X dX10_step_287 rfl (by first | decide | omega | assumption) ?_
                  refine V_dup (pc := 288) X dX10_step_288 (Nat.ne_of_beq_eq_false rfl) ?_
                  refine V_gz (pc := 289) X dX10_step_289 f_RX10_88 (by first | rfl | assumption | (simp only [*]; done) | omega) 18 rfl (show _ = p from r_tk_18 _ _ _ _ _ _) ?_
                  refine V_iconst (pc := 292) X dX10_step_292 ?_
                  refine V_iadd (pc := 293) X dX10_step_293 ?_
                  refine V_pz (pc := 294) X dX10_step_294 f_RX10_88 (by first | rfl | assumption | (simp only [*]; done) | omega) (fun b => z_fitI b _) 18 rfl ?_
                  rw [r_tk_p18]
                  refine V_vret (st := []) (pc := 297) X hQ dX10_step_297 rfl rfl ?_
                  exact ⟨rfl, by first | (rw [etk]; rfl) | (rw [etk, he3, if_pos c_131]; rfl) | (rw [etk, he3, if_neg c_131]; rfl) | (rw [etk, if_pos c_276]; rfl) | (rw [etk, if_neg c_276]; rfl) | (rw [etk, he3, if_pos ⟨by omega, c_245⟩]; rfl) | (rw [etk, he3, if_neg (fun g => c_245 g.2), show (p + (j : Int) - p).toNat = j by omega]; rfl) | (rw [etk, he3, if_neg (fun g => by omega), show (p + (j : Int) - p).toNat = j by omega]; rfl)⟩
              · skip
                have eD := (r_isC_t c_152).2
                have etk : m_tok T N n = (t_go isD T N p, p, 2, 0, if 1 < t_go isD T N p - p ∧ T p = 48 then 1000 else t_acc T p (t_go isD T N p - p).toNat) := by
                  unfold m_tok
                  rw [he2]
                  unfold t_e m_k m_l m_v
                  rw [if_neg (show ¬ N ≤ p by omega), if_neg (show ¬ N ≤ p by omega), if_neg (show ¬ N ≤ p by omega), if_neg (show ¬ N ≤ p by omega), eL, eD]
                  rfl
                refine V_aload_n (pc := 155) X dX10_step_155 rfl (by first | decide | omega | assumption) ?_
                refine V_iconst (pc := 156) X dX10_step_156 ?_
                refine V_pz (pc := 157) X dX10_step_157 f_RX10_108 (by first | rfl | assumption | (simp only [*]; done) | omega) (fun b => z_fitI b _) 20 rfl ?_
                rw [r_tk_p20]
                have lp_160 : ∀ (m : Nat) (j : Nat), (N - (p + (j : Int))).toNat < m → p + (j : Int) ≤ N → (∀ i : Int, p ≤ i → i < p + j → 48 ≤ T i ∧ T i ≤ 57) → t_go isD T N (p + (j : Int)) = t_go isD T N p → z_V Γ (107, 0, 0) 160 [(2, 89)] [] (r_tk h (p + (j : Int)) p 2 0 (t_acc T p j)) := by
                  intro m
                  induction m with
                  | zero => intro j hm; exact absurd hm (Nat.not_lt_zero _)
                  | succ m ih_160 =>
                    intro j hm hj1 hall hej
                    have hac := t_acc_rng (T := T) (s := p) (n := j) hall
                    refine V_aload_n (pc := 160) X dX10_step_160 rfl (by first | decide | omega | assumption) ?_
                    refine V_FV (pc := 161) X dX10_step_161 oX10_isFigure l_RX10_115 eX10_isFigure vX10_isFigure ⟨Nat.le_of_ble_eq_true rfl, Nat.le_of_ble_eq_true rfl⟩ ⟨rfl, rfl⟩ ⟨Nat.le_of_ble_eq_true rfl, Nat.le_of_ble_eq_true rfl⟩ (ct_X10_isFigure hO hX (by omega) (by omega)) rfl (by first | rfl | assumption | (simp only [*]; done) | omega) (by intro q h; cases h; rfl) rfl (by rfl) (by exact Nat.le_of_ble_eq_true rfl) ?_
                    refine V_bif_eq (pc := 164) X 220 dX10_step_164 (by decide)  (fun c_164 => ?_) (fun c_164 => ?_)
                    · skip
                      have he3 : t_go isD T N p = p + (j : Int) := by
                        rw [← hej]
                        exact t_go_no (r_isC_f c_164)
                      refine V_aload_n (pc := 220) X dX10_step_220 rfl (by first | decide | omega | assumption) ?_
                      refine V_aload_n (pc := 221) X dX10_step_221 rfl (by first | decide | omega | assumption) ?_
                      refine V_gz (pc := 222) X dX10_step_222 f_RX10_88 (by first | rfl | assumption | (simp only [*]; done) | omega) 18 rfl (show _ = p + (j : Int) from r_tk_18 _ _ _ _ _ _) ?_
                      refine V_aload_n (pc := 225) X dX10_step_225 rfl (by first | decide | omega | assumption) ?_
                      refine V_gz (pc := 226) X dX10_step_226 f_RX10_99 (by first | rfl | assumption | (simp only [*]; done) | omega) 19 rfl (show _ = p from r_tk_19 _ _ _ _ _ _) ?_
                      refine V_isub (pc := 229) X dX10_step_229 ?_
                      refine V_iconst (pc := 230) X dX10_step_230 ?_
                      refine V_icmp_le (pc := 231) X 254 dX10_step_231 (by decide) ⟨by omega, by omega⟩ ⟨by omega, by omega⟩ (fun c_231 => ?_) (fun c_231 => ?_)
                      · skip
                        refine V_aload_n (pc := 254) X dX10_step_254 rfl (by first | decide | omega | assumption) ?_
                        refine V_gz (pc := 255) X dX10_step_255 f_RX10_105 (by first | rfl | assumption | (simp only [*]; done) | omega) 22 rfl (show _ = t_acc T p j from r_tk_22 _ _ _ _ _ _) ?_
                        refine V_pz (pc := 258) X dX10_step_258 f_RX10_105 (by first | rfl | assumption | (simp only [*]; done) | omega) (fun b => z_fitI b _) 22 rfl ?_
                        rw [r_tk_p22]
                        refine V_goto (pc := 261) X 297 dX10_step_261 (by decide) ?_
                        refine V_vret (st := []) (pc := 297) X hQ dX10_step_297 rfl rfl ?_
                        exact ⟨rfl, by first | (rw [etk]; rfl) | (rw [etk, he3, if_pos c_131]; rfl) | (rw [etk, he3, if_neg c_131]; rfl) | (rw [etk, if_pos c_276]; rfl) | (rw [etk, if_neg c_276]; rfl) | (rw [etk, he3, if_pos ⟨by omega, c_245⟩]; rfl) | (rw [etk, he3, if_neg (fun g => c_245 g.2), show (p + (j : Int) - p).toNat = j by omega]; rfl) | (rw [etk, he3, if_neg (fun g => by omega), show (p + (j : Int) - p).toNat = j by omega]; rfl)⟩
                      · skip
                        refine V_aload_n (pc := 234) X dX10_step_234 rfl (by first | decide | omega | assumption) ?_
                        refine V_gz (pc := 235) X dX10_step_235 f_RX10_48 (by first | rfl | assumption | (simp only [*]; done) | omega) 15 rfl (show _ = (100 : Int) from (r_tk_s (by decide)).trans rb15) ?_
                        refine V_aload_n (pc := 238) X dX10_step_238 rfl (by first | decide | omega | assumption) ?_
                        refine V_gz (pc := 239) X dX10_step_239 f_RX10_99 (by first | rfl | assumption | (simp only [*]; done) | omega) 19 rfl (show _ = p from r_tk_19 _ _ _ _ _ _) ?_
                        refine V_iald (pc := 242) X dX10_step_242 (by first | rfl | assumption | (simp only [*]; done) | omega) (by omega) (by omega) (by decide) ?_
                        rw [r_tk_c (by decide), r2]
                        refine V_bipush (pc := 243) X dX10_step_243 (by decide) ?_
                        refine V_icmp_ne (pc := 245) X 254 dX10_step_245 (by decide) ⟨by omega, by omega⟩ ⟨by omega, by omega⟩ (fun c_245 => ?_) (fun c_245 => ?_)
                        · skip
                          refine V_aload_n (pc := 254) X dX10_step_254 rfl (by first | decide | omega | assumption) ?_
                          refine V_gz (pc := 255) X dX10_step_255 f_RX10_105 (by first | rfl | assumption | (simp only [*]; done) | omega) 22 rfl (show _ = t_acc T p j from r_tk_22 _ _ _ _ _ _) ?_
                          refine V_pz (pc := 258) X dX10_step_258 f_RX10_105 (by first | rfl | assumption | (simp only [*]; done) | omega) (fun b => z_fitI b _) 22 rfl ?_
                          rw [r_tk_p22]
                          refine V_goto (pc := 261) X 297 dX10_step_261 (by decide) ?_
                          refine V_vret (st := []) (pc := 297) X hQ dX10_step_297 rfl rfl ?_
                          exact ⟨rfl, by first | (rw [etk]; rfl) | (rw [etk, he3, if_pos c_131]; rfl) | (rw [etk, he3, if_neg c_131]; rfl) | (rw [etk, if_pos c_276]; rfl) | (rw [etk, if_neg c_276]; rfl) | (rw [etk, he3, if_pos ⟨by omega, c_245⟩]; rfl) | (rw [etk, he3, if_neg (fun g => c_245 g.2), show (p + (j : Int) - p).toNat = j by omega]; rfl) | (rw [etk, he3, if_neg (fun g => by omega), show (p + (j : Int) - p).toNat = j by omega]; rfl)⟩
                        · skip
                          refine V_sipush (pc := 248) X dX10_step_248 (by decide) ?_
                          refine V_goto (pc := 251) X 258 dX10_step_251 (by decide) ?_
                          refine V_pz (pc := 258) X dX10_step_258 f_RX10_105 (by first | rfl | assumption | (simp only [*]; done) | omega) (fun b => z_fitI b _) 22 rfl ?_
                          rw [r_tk_p22]
                          refine V_goto (pc := 261) X 297 dX10_step_261 (by decide) ?_
                          refine V_vret (st := []) (pc := 297) X hQ dX10_step_297 rfl rfl ?_
                          exact ⟨rfl, by first | (rw [etk]; rfl) | (rw [etk, he3, if_pos c_131]; rfl) | (rw [etk, he3, if_neg c_131]; rfl) | (rw [etk, if_pos c_276]; rfl) | (rw [etk, if_neg c_276]; rfl) | (rw [etk, he3, if_pos ⟨by omega, c_245⟩]; rfl) | (rw [etk, he3, if_neg (fun g => c_245 g.2), show (p + (j : Int) - p).toNat = j by omega]; rfl) | (rw [etk, he3, if_neg (fun g => by omega), show (p + (j : Int) - p).toNat = j by omega]; rfl)⟩
                    · skip
                      refine V_aload_n (pc := 167) X dX10_step_167 rfl (by first | decide | omega | assumption) ?_
                      refine V_aload_n (pc := 168) X dX10_step_168 rfl (by first | decide | omega | assumption) ?_
                      refine V_gz (pc := 169) X dX10_step_169 f_RX10_105 (by first | rfl | assumption | (simp only [*]; done) | omega) 22 rfl (show _ = t_acc T p j from r_tk_22 _ _ _ _ _ _) ?_
                      refine V_bipush (pc := 172) X dX10_step_172 (by decide) ?_
                      refine V_icmp_le (pc := 174) X 184 dX10_step_174 (by decide) ⟨by omega, by omega⟩ ⟨by omega, by omega⟩ (fun c_174 => ?_) (fun c_174 => ?_)
                      · skip
                        refine V_bipush (pc := 184) X dX10_step_184 (by decide) ?_
                        refine V_aload_n (pc := 186) X dX10_step_186 rfl (by first | decide | omega | assumption) ?_
                        refine V_gz (pc := 187) X dX10_step_187 f_RX10_105 (by first | rfl | assumption | (simp only [*]; done) | omega) 22 rfl (show _ = t_acc T p j from r_tk_22 _ _ _ _ _ _) ?_
                        refine V_imul (pc := 190) X dX10_step_190 ?_
                        refine V_aload_n (pc := 191) X dX10_step_191 rfl (by first | decide | omega | assumption) ?_
                        refine V_gz (pc := 192) X dX10_step_192 f_RX10_48 (by first | rfl | assumption | (simp only [*]; done) | omega) 15 rfl (show _ = (100 : Int) from (r_tk_s (by decide)).trans rb15) ?_
                        refine V_aload_n (pc := 195) X dX10_step_195 rfl (by first | decide | omega | assumption) ?_
                        refine V_gz (pc := 196) X dX10_step_196 f_RX10_88 (by first | rfl | assumption | (simp only [*]; done) | omega) 18 rfl (show _ = p + (j : Int) from r_tk_18 _ _ _ _ _ _) ?_
                        have hlt := (r_isC_t c_164).1
                        refine V_iald (pc := 199) X dX10_step_199 (by first | rfl | assumption | (simp only [*]; done) | omega) (by omega) (by omega) (by decide) ?_
                        rw [r_tk_c (by decide), r2]
                        refine V_iadd (pc := 200) X dX10_step_200 ?_
                        refine V_bipush (pc := 201) X dX10_step_201 (by decide) ?_
                        refine V_isub (pc := 203) X dX10_step_203 ?_
                        refine V_pz (pc := 204) X dX10_step_204 f_RX10_105 (by first | rfl | assumption | (simp only [*]; done) | omega) (fun b => z_fitI b _) 22 rfl ?_
                        rw [r_tk_p22]
                        refine V_aload_n (pc := 207) X dX10_step_207 rfl (by first | decide | omega | assumption) ?_
                        refine V_dup (pc := 208) X dX10_step_208 (Nat.ne_of_beq_eq_false rfl) ?_
                        refine V_gz (pc := 209) X dX10_step_209 f_RX10_88 (by first | rfl | assumption | (simp only [*]; done) | omega) 18 rfl (show _ = p + (j : Int) from r_tk_18 _ _ _ _ _ _) ?_
                        refine V_iconst (pc := 212) X dX10_step_212 ?_
                        refine V_iadd (pc := 213) X dX10_step_213 ?_
                        refine V_pz (pc := 214) X dX10_step_214 f_RX10_88 (by first | rfl | assumption | (simp only [*]; done) | omega) (fun b => z_fitI b _) 18 rfl ?_
                        rw [r_tk_p18]
                        refine V_goto (pc := 217) X 160 dX10_step_217 (by decide) ?_
                        have hc := r_isC_t c_164
                        have hd : 48 ≤ T (p + (j : Int)) ∧ T (p + (j : Int)) ≤ 57 := by simpa [isD] using hc.2
                        refine V_heap ?_ (ih_160 (j + 1) (by omega) (by omega) (fun i a b => ?_) ?_)
                        · rw [show p + ((j + 1 : Nat) : Int) = p + (j : Int) + 1 by omega, t_acc_succ]
                          first
                            | rw [if_neg (Int.not_lt.mpr c_174), Int.mul_comm 10]
                            | rw [if_pos (Int.not_le.mp c_174)]
                        · by_cases e9 : i = p + j
                          · rw [e9]; exact hd
                          · exact hall i a (by omega)
                        · rw [← hej, show p + ((j + 1 : Nat) : Int) = p + (j : Int) + 1 by omega]
                          exact (t_go_yes hc.1 hc.2).symm
                      · skip
                        refine V_aload_n (pc := 177) X dX10_step_177 rfl (by first | decide | omega | assumption) ?_
                        refine V_gz (pc := 178) X dX10_step_178 f_RX10_105 (by first | rfl | assumption | (simp only [*]; done) | omega) 22 rfl (show _ = t_acc T p j from r_tk_22 _ _ _ _ _ _) ?_
                        refine V_goto (pc := 181) X 204 dX10_step_181 (by decide) ?_
                        refine V_pz (pc := 204) X dX10_step_204 f_RX10_105 (by first | rfl | assumption | (simp only [*]; done) | omega) (fun b => z_fitI b _) 22 rfl ?_
                        rw [r_tk_p22]
                        refine V_aload_n (pc := 207) X dX10_step_207 rfl (by first | decide | omega | assumption) ?_
                        refine V_dup (pc := 208) X dX10_step_208 (Nat.ne_of_beq_eq_false rfl) ?_
                        refine V_gz (pc := 209) X dX10_step_209 f_RX10_88 (by first | rfl | assumption | (simp only [*]; done) | omega) 18 rfl (show _ = p + (j : Int) from r_tk_18 _ _ _ _ _ _) ?_
                        refine V_iconst (pc := 212) X dX10_step_212 ?_
                        refine V_iadd (pc := 213) X dX10_step_213 ?_
                        refine V_pz (pc := 214) X dX10_step_214 f_RX10_88 (by first | rfl | assumption | (simp only [*]; done) | omega) (fun b => z_fitI b _) 18 rfl ?_
                        rw [r_tk_p18]
                        refine V_goto (pc := 217) X 160 dX10_step_217 (by decide) ?_
                        have hc := r_isC_t c_164
                        have hd : 48 ≤ T (p + (j : Int)) ∧ T (p + (j : Int)) ≤ 57 := by simpa [isD] using hc.2
                        refine V_heap ?_ (ih_160 (j + 1) (by omega) (by omega) (fun i a b => ?_) ?_)
                        · rw [show p + ((j + 1 : Nat) : Int) = p + (j : Int) + 1 by omega, t_acc_succ]
                          first
                            | rw [if_neg (Int.not_lt.mpr c_174), Int.mul_comm 10]
                            | rw [if_pos (Int.not_le.mp c_174)]
                        · by_cases e9 : i = p + j
                          · rw [e9]; exact hd
                          · exact hall i a (by omega)
                        · rw [← hej, show p + ((j + 1 : Nat) : Int) = p + (j : Int) + 1 by omega]
                          exact (t_go_yes hc.1 hc.2).symm
                refine V_heap (h' := r_tk h (p + ((0 : Nat) : Int)) p 2 0 (t_acc T p 0)) (by rw [show p + ((0 : Nat) : Int) = p from Int.add_zero p]; rfl) ?_
                exact lp_160 _ 0 (Nat.lt_succ_self _) (by simp; omega) (fun i a b => by simp at b; omega) (by rw [show p + ((0 : Nat) : Int) = p from Int.add_zero p])
            · skip
              have eL := (r_isC_t c_79).2
              have etk : m_tok T N n = (t_go isL T N p, p, 1, if t_go isL T N p - p = 1 then T p else 0, 0) := by
                unfold m_tok
                rw [he2]
                unfold t_e m_k m_l m_v
                rw [if_neg (show ¬ N ≤ p by omega), if_neg (show ¬ N ≤ p by omega), if_neg (show ¬ N ≤ p by omega), if_neg (show ¬ N ≤ p by omega), eL]
                rfl
              refine V_aload_n (pc := 82) X dX10_step_82 rfl (by first | decide | omega | assumption) ?_
              refine V_iconst (pc := 83) X dX10_step_83 ?_
              refine V_pz (pc := 84) X dX10_step_84 f_RX10_108 (by first | rfl | assumption | (simp only [*]; done) | omega) (fun b => z_fitI b _) 20 rfl ?_
              rw [r_tk_p20]
              refine V_aload_n (pc := 87) X dX10_step_87 rfl (by first | decide | omega | assumption) ?_
              refine V_aload_n (pc := 88) X dX10_step_88 rfl (by first | decide | omega | assumption) ?_
              refine V_gz (pc := 89) X dX10_step_89 f_RX10_48 (by first | rfl | assumption | (simp only [*]; done) | omega) 15 rfl (show _ = (100 : Int) from (r_tk_s (by decide)).trans rb15) ?_
              refine V_aload_n (pc := 92) X dX10_step_92 rfl (by first | decide | omega | assumption) ?_
              refine V_gz (pc := 93) X dX10_step_93 f_RX10_88 (by first | rfl | assumption | (simp only [*]; done) | omega) 18 rfl (show _ = p from r_tk_18 _ _ _ _ _ _) ?_
              refine V_iald (pc := 96) X dX10_step_96 (by first | rfl | assumption | (simp only [*]; done) | omega) (by omega) (by omega) (by decide) ?_
              rw [r_tk_c (by decide), r2]
              refine V_pz (pc := 97) X dX10_step_97 f_RX10_102 (by first | rfl | assumption | (simp only [*]; done) | omega) (fun b => z_fitI b _) 21 rfl ?_
              rw [r_tk_p21]
              have lp_100 : ∀ (m : Nat) (i : Int), (N - i).toNat < m → p ≤ i → i ≤ N → t_go isL T N i = t_go isL T N p → z_V Γ (107, 0, 0) 100 [(2, 89)] [] (r_tk h i p 1 (T p) 0) := by
                intro m
                induction m with
                | zero => intro i hm; exact absurd hm (Nat.not_lt_zero _)
                | succ m ih_100 =>
                  intro i hm hi0 hi1 hei
                  refine V_aload_n (pc := 100) X dX10_step_100 rfl (by first | decide | omega | assumption) ?_
                  refine V_FV (pc := 101) X dX10_step_101 oX10_isLetter l_RX10_111 eX10_isLetter vX10_isLetter ⟨Nat.le_of_ble_eq_true rfl, Nat.le_of_ble_eq_true rfl⟩ ⟨rfl, rfl⟩ ⟨Nat.le_of_ble_eq_true rfl, Nat.le_of_ble_eq_true rfl⟩ (ct_X10_isLetter hO hX (by omega) (by omega)) rfl (by first | rfl | assumption | (simp only [*]; done) | omega) (by intro q h; cases h; rfl) rfl (by rfl) (by exact Nat.le_of_ble_eq_true rfl) ?_
                  refine V_bif_eq (pc := 104) X 120 dX10_step_104 (by decide)  (fun c_104 => ?_) (fun c_104 => ?_)
                  · skip
                    have he3 : t_go isL T N p = i := by
                      rw [← hei]
                      exact t_go_no (r_isC_f c_104)
                    refine V_aload_n (pc := 120) X dX10_step_120 rfl (by first | decide | omega | assumption) ?_
                    refine V_aload_n (pc := 121) X dX10_step_121 rfl (by first | decide | omega | assumption) ?_
                    refine V_gz (pc := 122) X dX10_step_122 f_RX10_88 (by first | rfl | assumption | (simp only [*]; done) | omega) 18 rfl (show _ = i from r_tk_18 _ _ _ _ _ _) ?_
                    refine V_aload_n (pc := 125) X dX10_step_125 rfl (by first | decide | omega | assumption) ?_
                    refine V_gz (pc := 126) X dX10_step_126 f_RX10_99 (by first | rfl | assumption | (simp only [*]; done) | omega) 19 rfl (show _ = p from r_tk_19 _ _ _ _ _ _) ?_
                    refine V_isub (pc := 129) X dX10_step_129 ?_
                    refine V_iconst (pc := 130) X dX10_step_130 ?_
                    refine V_icmp_ne (pc := 131) X 141 dX10_step_131 (by decide) ⟨by omega, by omega⟩ ⟨by omega, by omega⟩ (fun c_131 => ?_) (fun c_131 => ?_)
                    · skip
                      refine V_iconst (pc := 141) X dX10_step_141 ?_
                      refine V_pz (pc := 142) X dX10_step_142 f_RX10_102 (by first | rfl | assumption | (simp only [*]; done) | omega) (fun b => z_fitI b _) 21 rfl ?_
                      rw [r_tk_p21]
                      refine V_goto (pc := 145) X 297 dX10_step_145 (by decide) ?_
                      refine V_vret (st := []) (pc := 297) X hQ dX10_step_297 rfl rfl ?_
                      exact ⟨rfl, by first | (rw [etk]; rfl) | (rw [etk, he3, if_pos c_131]; rfl) | (rw [etk, he3, if_neg c_131]; rfl) | (rw [etk, if_pos c_276]; rfl) | (rw [etk, if_neg c_276]; rfl) | (rw [etk, he3, if_pos ⟨by omega, c_245⟩]; rfl) | (rw [etk, he3, if_neg (fun g => c_245 g.2), show (p + (j : Int) - p).toNat = j by omega]; rfl) | (rw [etk, he3, if_neg (fun g => by omega), show (p + (j : Int) - p).toNat = j by omega]; rfl)⟩
                    · skip
                      refine V_aload_n (pc := 134) X dX10_step_134 rfl (by first | decide | omega | assumption) ?_
                      refine V_gz (pc := 135) X dX10_step_135 f_RX10_102 (by first | rfl | assumption | (simp only [*]; done) | omega) 21 rfl (show _ = T p from r_tk_21 _ _ _ _ _ _) ?_
                      refine V_goto (pc := 138) X 142 dX10_step_138 (by decide) ?_
                      refine V_pz (pc := 142) X dX10_step_142 f_RX10_102 (by first | rfl | assumption | (simp only [*]; done) | omega) (fun b => z_fitI b _) 21 rfl ?_
                      rw [r_tk_p21]
                      refine V_goto (pc := 145) X 297 dX10_step_145 (by decide) ?_
                      refine V_vret (st := []) (pc := 297) X hQ dX10_step_297 rfl rfl ?_
                      exact ⟨rfl, by first | (rw [etk]; rfl) | (rw [etk, he3, if_pos c_131]; rfl) | (rw [etk, he3, if_neg c_131]; rfl) | (rw [etk, if_pos c_276]; rfl) | (rw [etk, if_neg c_276]; rfl) | (rw [etk, he3, if_pos ⟨by omega, c_245⟩]; rfl) | (rw [etk, he3, if_neg (fun g => c_245 g.2), show (p + (j : Int) - p).toNat = j by omega]; rfl) | (rw [etk, he3, if_neg (fun g => by omega), show (p + (j : Int) - p).toNat = j by omega]; rfl)⟩
                  · skip
                    refine V_aload_n (pc := 107) X dX10_step_107 rfl (by first | decide | omega | assumption) ?_
                    refine V_dup (pc := 108) X dX10_step_108 (Nat.ne_of_beq_eq_false rfl) ?_
                    refine V_gz (pc := 109) X dX10_step_109 f_RX10_88 (by first | rfl | assumption | (simp only [*]; done) | omega) 18 rfl (show _ = i from r_tk_18 _ _ _ _ _ _) ?_
                    refine V_iconst (pc := 112) X dX10_step_112 ?_
                    refine V_iadd (pc := 113) X dX10_step_113 ?_
                    refine V_pz (pc := 114) X dX10_step_114 f_RX10_88 (by first | rfl | assumption | (simp only [*]; done) | omega) (fun b => z_fitI b _) 18 rfl ?_
                    rw [r_tk_p18]
                    refine V_goto (pc := 117) X 100 dX10_step_117 (by decide) ?_
                    have hc := r_isC_t c_104
                    exact ih_100 (i + 1) (by omega) (by omega) (by omega) (by rw [← hei]; exact (t_go_yes hc.1 hc.2).symm)
              exact lp_100 _ p (Nat.lt_succ_self _) (by omega) (by omega) rfl
          · skip
            have etk : m_tok T N n = (p, p, 0, 0, 0) := by
              unfold m_tok
              rw [he2]
              unfold t_e m_k m_l m_v
              rw [if_pos (show N ≤ p by omega), if_pos (show N ≤ p by omega), if_pos (show N ≤ p by omega), if_pos (show N ≤ p by omega)]
            refine V_aload_n (pc := 67) X dX10_step_67 rfl (by first | decide | omega | assumption) ?_
            refine V_iconst (pc := 68) X dX10_step_68 ?_
            refine V_pz (pc := 69) X dX10_step_69 f_RX10_108 (by first | rfl | assumption | (simp only [*]; done) | omega) (fun b => z_fitI b _) 20 rfl ?_
            rw [r_tk_p20]
            refine V_goto (pc := 72) X 297 dX10_step_72 (by decide) ?_
            refine V_vret (st := []) (pc := 297) X hQ dX10_step_297 rfl rfl ?_
            exact ⟨rfl, by first | (rw [etk]; rfl) | (rw [etk, he3, if_pos c_131]; rfl) | (rw [etk, he3, if_neg c_131]; rfl) | (rw [etk, if_pos c_276]; rfl) | (rw [etk, if_neg c_276]; rfl) | (rw [etk, he3, if_pos ⟨by omega, c_245⟩]; rfl) | (rw [etk, he3, if_neg (fun g => c_245 g.2), show (p + (j : Int) - p).toNat = j by omega]; rfl) | (rw [etk, he3, if_neg (fun g => by omega), show (p + (j : Int) - p).toNat = j by omega]; rfl)⟩
        · skip
          refine V_aload_n (pc := 25) X dX10_step_25 rfl (by first | decide | omega | assumption) ?_
          refine V_dup (pc := 26) X dX10_step_26 (Nat.ne_of_beq_eq_false rfl) ?_
          refine V_gz (pc := 27) X dX10_step_27 f_RX10_88 (by first | rfl | assumption | (simp only [*]; done) | omega) 18 rfl (show _ = p from r_tk_18 _ _ _ _ _ _) ?_
          refine V_iconst (pc := 30) X dX10_step_30 ?_
          refine V_iadd (pc := 31) X dX10_step_31 ?_
          refine V_pz (pc := 32) X dX10_step_32 f_RX10_88 (by first | rfl | assumption | (simp only [*]; done) | omega) (fun b => z_fitI b _) 18 rfl ?_
          rw [r_tk_p18]
          refine V_goto (pc := 35) X 0 dX10_step_35 (by decide) ?_
          exact ih_0 (p + 1) (by omega) (by omega) (by omega) (by rw [← he]; exact (t_go_yes (by omega) (decide_eq_true (by omega))).symm)
  exact lp_0 _ n (Nat.lt_succ_self _) (by omega) (by omega) rfl
