/-! PaneLightModel, 5: window -/
set_option maxHeartbeats 4000000 in
set_option maxRecDepth 100000 in
theorem ct_X10_window {h : z_H} (hO : r_Ob h) {T : Int → Int} {N : Int} (hX : r_Tx h T N) (hC : ∀ i, 0 ≤ i → i < 8 → 0 ≤ h 102 i ∧ h 102 i < 8) : z_Ct mX10_window 107 [(2, 89)] h (fun r h2 => ((m_rdF h T N).2.1 = false ∧ r = some (0, (m_rdF h T N).1) ∧ h2 = (r_tq (m_rdF h T N).2.2.1 (m_rdF h T N).2.2.2)) ∨ ((m_rdF h T N).2.1 = true ∧ r = some (0, (m_rdF h T N).1) ∧ h2 = m_winH (r_tq (m_rdF h T N).2.2.1 (m_rdF h T N).2.2.2))) := by
  refine z_mk (L := [(2, 89), (9, 0)]) oX10_window.2.2.2.2 (Nat.le_of_ble_eq_true rfl) rfl ?_
  intro Γ X hQ
  obtain ⟨rb2, rb3, rb5, rb6, rb7, rb9, rb10, rb11, rb12, rb13, rb15, rb25, rb26, rb30, rb31, rb32, rb33⟩ := id hO
  obtain ⟨r2, hNs, hN, hTx⟩ := id hX
  have hPR0 := m_rd0_ok hO hX hC
  have hq0 : m_OK N (m_tok T N 0) := m_nx_ok (q := (0, 0, 0, 0, 0)) hN hTx ⟨by show (0 : Int) ≤ 0; decide, hN.1⟩
  refine V_aload_n (pc := 0) X dX10_window_0 rfl (by first | decide | omega | assumption) ?_
  refine V_iconst (pc := 1) X dX10_window_1 ?_
  refine V_pz (pc := 2) X dX10_window_2 f_RX10_125 (by first | rfl | assumption | (simp only [*]; done) | omega) (fun b => z_fitI b _) 23 rfl ?_
  refine V_aload_n (pc := 5) X dX10_window_5 rfl (by first | decide | omega | assumption) ?_
  refine V_iconst (pc := 6) X dX10_window_6 ?_
  refine V_pz (pc := 7) X dX10_window_7 f_RX10_128 (by first | rfl | assumption | (simp only [*]; done) | omega) (fun b => z_fitI b _) 24 rfl ?_
  refine V_iconst (pc := 10) X dX10_window_10 ?_
  refine V_istore_n (pc := 11) X dX10_window_11 (by exact Nat.le_of_ble_eq_true rfl) rfl ?_
  have lp_12 : ∀ (m : Nat) (e : Int), (20 - e).toNat < m → 0 ≤ e → e ≤ 20 → z_V Γ (107, 0, 0) 12 [(2, 89), (0, e)] [] (z_rw (z_st (z_st h 89 23 5) 89 24 4) 101 (fun r => if 0 ≤ r ∧ r < e then 7 else h 101 r)) := by
    intro m
    induction m with
    | zero => intro e hm; exact absurd hm (Nat.not_lt_zero _)
    | succ m ih_12 =>
      intro e hm he0 he1
      refine V_iload_n (pc := 12) X dX10_window_12 rfl ?_
      refine V_bipush (pc := 13) X dX10_window_13 (by decide) ?_
      refine V_icmp_ge (pc := 15) X 32 dX10_window_15 (by decide) ⟨by omega, by omega⟩ ⟨by omega, by omega⟩ (fun c_15 => ?_) (fun c_15 => ?_)
      · skip
        refine V_aload_n (pc := 32) X dX10_window_32 rfl (by first | decide | omega | assumption) ?_
        refine V_iconst (pc := 33) X dX10_window_33 ?_
        refine V_pz (pc := 34) X dX10_window_34 f_RX10_131 (by first | rfl | assumption | (simp only [*]; done) | omega) (fun b => z_fitI b _) 27 rfl ?_
        refine V_aload_n (pc := 37) X dX10_window_37 rfl (by first | decide | omega | assumption) ?_
        refine V_bipush (pc := 38) X dX10_window_38 (by decide) ?_
        refine V_pz (pc := 40) X dX10_window_40 f_RX10_134 (by first | rfl | assumption | (simp only [*]; done) | omega) (fun b => z_fitI b _) 28 rfl ?_
        refine V_aload_n (pc := 43) X dX10_window_43 rfl (by first | decide | omega | assumption) ?_
        refine V_bipush (pc := 44) X dX10_window_44 (by decide) ?_
        refine V_pz (pc := 46) X dX10_window_46 f_RX10_137 (by first | rfl | assumption | (simp only [*]; done) | omega) (fun b => z_fitI b _) 29 rfl ?_
        refine V_aload_n (pc := 49) X dX10_window_49 rfl (by first | decide | omega | assumption) ?_
        refine V_iconst (pc := 50) X dX10_window_50 ?_
        refine V_pz (pc := 51) X dX10_window_51 f_RX10_88 (by first | rfl | assumption | (simp only [*]; done) | omega) (fun b => z_fitI b _) 18 rfl ?_
        refine V_heap (h' := r_tk (m_rd0 h) 0 (m_rd0 h 89 19) (m_rd0 h 89 20) (m_rd0 h 89 21) (m_rd0 h 89 22)) (by
          obtain rfl : e = 20 := by omega
          show z_st (m_rd0 h) 89 18 0 = _
          rw [← r_tk_p18 (m_rd0 h) (m_rd0 h 89 18), r_tk_same]) ?_
        refine V_iconst (pc := 54) X dX10_window_54 ?_
        refine V_istore_n (pc := 55) X dX10_window_55 (by exact Nat.le_of_ble_eq_true rfl) rfl ?_
        refine V_aload_n (pc := 56) X dX10_window_56 rfl (by first | decide | omega | assumption) ?_
        refine V_CV (pc := 57) X dX10_window_57 oX10_step l_RX10_118 eX10_step vX10_step ⟨Nat.le_of_ble_eq_true rfl, Nat.le_of_ble_eq_true rfl⟩ ⟨rfl, rfl⟩ ⟨Nat.le_of_ble_eq_true rfl, Nat.le_of_ble_eq_true rfl⟩ (ct_X10_step hPR0.1 hPR0.2.1 (by decide) hN.1) rfl (by first | rfl | assumption | (simp only [*]; done) | omega) (by intro q h; cases h; rfl) rfl (by rfl) (by exact Nat.le_of_ble_eq_true rfl) (fun r h1 hp => ?_)
        obtain ⟨rfl, rfl⟩ := hp
        have lp_60 : ∀ (m : Nat) (i : Nat) (H : z_H) (q : t_R), 171 - i < m → i ≤ 170 → m_PR H T N → m_OK N q → (i : Int) ≤ q.2.1 → (¬ q.2.2.1 = 0 → q.2.1 < q.1 ∧ q.2.1 < N) → m_rdL T N (171 - i) H q (i : Int) = m_rdF h T N → z_V Γ (107, 0, 0) 60 [(2, 89), (0, (i : Int))] [] (r_tq H q) := by
          intro m
          induction m with
          | zero => intro i H q hm; exact absurd hm (Nat.not_lt_zero _)
          | succ m ih_60 =>
            intro i H q hm hi hPR hq hiq hfw heq
            obtain ⟨hk1, hk2⟩ := m_itR_ok (fb := decide ((i : Int) = 0)) hPR hq
            have hf0 := m_itR_fwd (H := H) (fb := decide ((i : Int) = 0)) hN hTx hq
            have hk3 := m_nx_ok (T := T) hN hTx hk2.1
            have hf1 := m_fwd (T := T) (N := N) (m_itR T N H q (decide ((i : Int) = 0))).2.2 hk2.1
            have hf2 := m_fwd (T := T) (N := N) (m_nx T N (m_itR T N H q (decide ((i : Int) = 0))).2.2) hk3.1
            have hk4 := m_nx_ok (T := T) hN hTx hk3.1
            have hqt := hq.2.2.1
            have hqb := hq.2.1
            have hkt := hk3.2.2.1
            rw [show 171 - i = (170 - i) + 1 by omega, m_rdL] at heq
            refine V_aload_n (pc := 60) X dX10_window_60 rfl (by first | decide | omega | assumption) ?_
            refine V_gz (pc := 61) X dX10_window_61 f_RX10_108 (by first | rfl | assumption | (simp only [*]; done) | omega) 20 rfl (show _ = q.2.2.1 from r_tk_20 _ _ _ _ _ _) ?_
            refine V_if_eq (pc := 64) X 129 dX10_window_64 (by decide) ⟨by omega, by omega⟩ (fun c_64 => ?_) (fun c_64 => ?_)
            · skip
              rw [if_pos c_64] at heq
              have hG : r_tq H q = r_tq (m_rdF h T N).2.2.1 (m_rdF h T N).2.2.2 := by rw [← heq]
              obtain ⟨g1, -, -, -, -, hrm, hre, -, -⟩ := id hPR
              have hOG : r_Ob (r_tq H q) := r_tk_ob g1
              have hG28 : r_tq H q 89 28 = H 89 28 := r_tq_s _ _ (by decide)
              have hG29 : r_tq H q 89 29 = H 89 29 := r_tq_s _ _ (by decide)
              generalize r_tq H q = G at *
              obtain ⟨rb2, rb3, rb5, rb6, rb7, rb9, rb10, rb11, rb12, rb13, rb15, rb25, rb26, rb30, rb31, rb32, rb33⟩ := id hOG
              refine V_aload_n (pc := 129) X dX10_window_129 rfl (by first | decide | omega | assumption) ?_
              refine V_iconst (pc := 130) X dX10_window_130 ?_
              refine V_pz (pc := 131) X dX10_window_131 f_RX10_85 (by first | rfl | assumption | (simp only [*]; done) | omega) (fun b => z_fitI b _) 16 rfl ?_
              refine V_aload_n (pc := 134) X dX10_window_134 rfl (by first | decide | omega | assumption) ?_
              refine V_aload_n (pc := 135) X dX10_window_135 rfl (by first | decide | omega | assumption) ?_
              refine V_gz (pc := 136) X dX10_window_136 f_RX10_125 (by first | rfl | assumption | (simp only [*]; done) | omega) 23 rfl (show _ = G 89 23 from by first | rfl | (repeat (first | rw [z_st_at] | rw [z_st_slot _ (by decide)] | rw [z_st_cell _ (by decide)] | rw [z_rw_ne _ _ (by decide)] | rw [r_rem_s (by decide)] | rw [r_rem_c (by decide) (by decide)] | rw [r_cp_ne (by decide)]))) ?_
              refine V_pz (pc := 139) X dX10_window_139 f_RX10_7 (by first | rfl | assumption | (simp only [*]; done) | omega) (fun b => z_fitI b _) 0 rfl ?_
              refine V_aload_n (pc := 142) X dX10_window_142 rfl (by first | decide | omega | assumption) ?_
              refine V_aload_n (pc := 143) X dX10_window_143 rfl (by first | decide | omega | assumption) ?_
              refine V_gz (pc := 144) X dX10_window_144 f_RX10_128 (by first | rfl | assumption | (simp only [*]; done) | omega) 24 rfl (show _ = G 89 24 from by first | rfl | (repeat (first | rw [z_st_at] | rw [z_st_slot _ (by decide)] | rw [z_st_cell _ (by decide)] | rw [z_rw_ne _ _ (by decide)] | rw [r_rem_s (by decide)] | rw [r_rem_c (by decide) (by decide)] | rw [r_cp_ne (by decide)]))) ?_
              refine V_pz (pc := 147) X dX10_window_147 f_RX10_13 (by first | rfl | assumption | (simp only [*]; done) | omega) (fun b => z_fitI b _) 1 rfl ?_
              refine V_aload_n (pc := 150) X dX10_window_150 rfl (by first | decide | omega | assumption) ?_
              refine V_aload_n (pc := 151) X dX10_window_151 rfl (by first | decide | omega | assumption) ?_
              refine V_gz (pc := 152) X dX10_window_152 f_RX10_131 (by first | rfl | assumption | (simp only [*]; done) | omega) 27 rfl (show _ = G 89 27 from by first | rfl | (repeat (first | rw [z_st_at] | rw [z_st_slot _ (by decide)] | rw [z_st_cell _ (by decide)] | rw [z_rw_ne _ _ (by decide)] | rw [r_rem_s (by decide)] | rw [r_rem_c (by decide) (by decide)] | rw [r_cp_ne (by decide)]))) ?_
              refine V_pz (pc := 155) X dX10_window_155 f_RX10_159 (by first | rfl | assumption | (simp only [*]; done) | omega) (fun b => z_fitI b _) 4 rfl ?_
              refine V_aload_n (pc := 158) X dX10_window_158 rfl (by first | decide | omega | assumption) ?_
              refine V_gz (pc := 159) X dX10_window_159 f_RX10_51 (by first | rfl | assumption | (simp only [*]; done) | omega) 25 rfl (show _ = (101 : Int) from by first | exact rb25 | ((repeat (first | rw [z_st_at] | rw [z_st_slot _ (by decide)] | rw [z_st_cell _ (by decide)] | rw [z_rw_ne _ _ (by decide)] | rw [r_rem_s (by decide)] | rw [r_rem_c (by decide) (by decide)] | rw [r_cp_ne (by decide)])); exact rb25)) ?_
              refine V_iconst (pc := 162) X dX10_window_162 ?_
              refine V_aload_n (pc := 163) X dX10_window_163 rfl (by first | decide | omega | assumption) ?_
              refine V_gz (pc := 164) X dX10_window_164 f_RX10_16 (by first | rfl | assumption | (simp only [*]; done) | omega) 2 rfl (show _ = (90 : Int) from by first | exact rb2 | ((repeat (first | rw [z_st_at] | rw [z_st_slot _ (by decide)] | rw [z_st_cell _ (by decide)] | rw [z_rw_ne _ _ (by decide)] | rw [r_rem_s (by decide)] | rw [r_rem_c (by decide) (by decide)] | rw [r_cp_ne (by decide)])); exact rb2)) ?_
              refine V_iconst (pc := 167) X dX10_window_167 ?_
              refine V_bipush (pc := 168) X dX10_window_168 (by decide) ?_
              refine V_CS (pc := 170) X dX10_window_170 oX10_copies l_RX10_162 sX10_copies ⟨Nat.le_of_ble_eq_true rfl, Nat.le_of_ble_eq_true rfl⟩ ⟨rfl, rfl⟩ ⟨Nat.le_of_ble_eq_true rfl, Nat.le_of_ble_eq_true rfl⟩ (ct_X10_copies (NA := 20) (NB := 20) rfl rfl (by decide) (by decide) (by decide) (by decide) (by decide) (by decide) (by decide) (by decide)) rfl (by rfl) (by exact Nat.le_of_ble_eq_true rfl) (fun r h1 hp => ?_)
              obtain ⟨rfl, rfl⟩ := hp
              refine V_aload_n (pc := 173) X dX10_window_173 rfl (by first | decide | omega | assumption) ?_
              refine V_gz (pc := 174) X dX10_window_174 f_RX10_54 (by first | rfl | assumption | (simp only [*]; done) | omega) 26 rfl (show _ = (102 : Int) from by first | exact rb26 | ((repeat (first | rw [z_st_at] | rw [z_st_slot _ (by decide)] | rw [z_st_cell _ (by decide)] | rw [z_rw_ne _ _ (by decide)] | rw [r_rem_s (by decide)] | rw [r_rem_c (by decide) (by decide)] | rw [r_cp_ne (by decide)])); exact rb26)) ?_
              refine V_iconst (pc := 177) X dX10_window_177 ?_
              refine V_aload_n (pc := 178) X dX10_window_178 rfl (by first | decide | omega | assumption) ?_
              refine V_gz (pc := 179) X dX10_window_179 f_RX10_20 (by first | rfl | assumption | (simp only [*]; done) | omega) 3 rfl (show _ = (91 : Int) from by first | exact rb3 | ((repeat (first | rw [z_st_at] | rw [z_st_slot _ (by decide)] | rw [z_st_cell _ (by decide)] | rw [z_rw_ne _ _ (by decide)] | rw [r_rem_s (by decide)] | rw [r_rem_c (by decide) (by decide)] | rw [r_cp_ne (by decide)])); exact rb3)) ?_
              refine V_iconst (pc := 182) X dX10_window_182 ?_
              refine V_bipush (pc := 183) X dX10_window_183 (by decide) ?_
              refine V_CS (pc := 185) X dX10_window_185 oX10_copies l_RX10_162 sX10_copies ⟨Nat.le_of_ble_eq_true rfl, Nat.le_of_ble_eq_true rfl⟩ ⟨rfl, rfl⟩ ⟨Nat.le_of_ble_eq_true rfl, Nat.le_of_ble_eq_true rfl⟩ (ct_X10_copies (NA := 8) (NB := 8) rfl rfl (by decide) (by decide) (by decide) (by decide) (by decide) (by decide) (by decide) (by decide)) rfl (by rfl) (by exact Nat.le_of_ble_eq_true rfl) (fun r h1 hp => ?_)
              obtain ⟨rfl, rfl⟩ := hp
              refine V_aload_n (pc := 188) X dX10_window_188 rfl (by first | decide | omega | assumption) ?_
              refine V_aload_n (pc := 189) X dX10_window_189 rfl (by first | decide | omega | assumption) ?_
              refine V_gz (pc := 190) X dX10_window_190 f_RX10_134 (by first | rfl | assumption | (simp only [*]; done) | omega) 28 rfl (show _ = G 89 28 from by first | rfl | (repeat (first | rw [z_st_at] | rw [z_st_slot _ (by decide)] | rw [z_st_cell _ (by decide)] | rw [z_rw_ne _ _ (by decide)] | rw [r_rem_s (by decide)] | rw [r_rem_c (by decide) (by decide)] | rw [r_cp_ne (by decide)]))) ?_
              refine V_bipush (pc := 193) X dX10_window_193 (by decide) ?_
              refine V_icmp_ne (pc := 195) X 203 dX10_window_195 (by decide) ⟨by omega, by omega⟩ ⟨by omega, by omega⟩ (fun c_195 => ?_) (fun c_195 => ?_)
              · skip
                refine V_aload_n (pc := 203) X dX10_window_203 rfl (by first | decide | omega | assumption) ?_
                refine V_gz (pc := 204) X dX10_window_204 f_RX10_134 (by first | rfl | assumption | (simp only [*]; done) | omega) 28 rfl (show _ = G 89 28 from by first | rfl | (repeat (first | rw [z_st_at] | rw [z_st_slot _ (by decide)] | rw [z_st_cell _ (by decide)] | rw [z_rw_ne _ _ (by decide)] | rw [r_rem_s (by decide)] | rw [r_rem_c (by decide) (by decide)] | rw [r_cp_ne (by decide)]))) ?_
                refine V_aload_n (pc := 207) X dX10_window_207 rfl (by first | decide | omega | assumption) ?_
                refine V_gz (pc := 208) X dX10_window_208 f_RX10_137 (by first | rfl | assumption | (simp only [*]; done) | omega) 29 rfl (show _ = G 89 29 from by first | rfl | (repeat (first | rw [z_st_at] | rw [z_st_slot _ (by decide)] | rw [z_st_cell _ (by decide)] | rw [z_rw_ne _ _ (by decide)] | rw [r_rem_s (by decide)] | rw [r_rem_c (by decide) (by decide)] | rw [r_cp_ne (by decide)]))) ?_
                refine V_bipush (pc := 211) X dX10_window_211 (by decide) ?_
                refine V_icmp_ne (pc := 213) X 220 dX10_window_213 (by decide) ⟨by omega, by omega⟩ ⟨by omega, by omega⟩ (fun c_213 => ?_) (fun c_213 => ?_)
                · skip
                  refine V_aload_n (pc := 220) X dX10_window_220 rfl (by first | decide | omega | assumption) ?_
                  refine V_gz (pc := 221) X dX10_window_221 f_RX10_137 (by first | rfl | assumption | (simp only [*]; done) | omega) 29 rfl (show _ = G 89 29 from by first | rfl | (repeat (first | rw [z_st_at] | rw [z_st_slot _ (by decide)] | rw [z_st_cell _ (by decide)] | rw [z_rw_ne _ _ (by decide)] | rw [r_rem_s (by decide)] | rw [r_rem_c (by decide) (by decide)] | rw [r_cp_ne (by decide)]))) ?_
                  have hO3 : r_Ob (r_cp (r_cp (z_st (z_st (z_st (z_st G 89 16 0) 89 0 (G 89 23)) 89 1 (G 89 24)) 89 4 (G 89 27)) 101 0 90 0 20) 102 0 91 0 8) := (((((hOG.st (Or.inr (by decide))).st (Or.inr (by decide))).st (Or.inr (by decide))).st (Or.inr (by decide))).rw_ (by decide)).rw_ (by decide)
                  refine V_CV (pc := 224) X dX10_window_224 oX10_begins l_RX10_69 eX10_begins vX10_begins ⟨Nat.le_of_ble_eq_true rfl, Nat.le_of_ble_eq_true rfl⟩ ⟨rfl, rfl⟩ ⟨Nat.le_of_ble_eq_true rfl, Nat.le_of_ble_eq_true rfl⟩ (ct_X10_begins hO3) rfl (by first | rfl | assumption | (simp only [*]; done) | omega) (by intro q h; cases h; rfl) rfl (by rfl) (by exact Nat.le_of_ble_eq_true rfl) (fun r h1 hp => ?_)
                  obtain ⟨rfl, rfl⟩ := hp
                  refine V_iload_n (pc := 227) X dX10_window_227 rfl ?_
                  refine V_iret (st := []) (pc := 228) X hQ dX10_window_228 rfl rfl ?_
                  exact Or.inr ⟨by rw [← heq], by rw [← heq], by rw [← hG]; unfold m_winH; first | (rw [if_pos c_195, if_pos c_213]; done) | (rw [if_pos c_195, if_neg c_213]; done) | (rw [if_neg c_195, if_pos c_213]; done) | (rw [if_neg c_195, if_neg c_213])⟩
                · skip
                  refine V_iconst (pc := 216) X dX10_window_216 ?_
                  refine V_goto (pc := 217) X 224 dX10_window_217 (by decide) ?_
                  have hO3 : r_Ob (r_cp (r_cp (z_st (z_st (z_st (z_st G 89 16 0) 89 0 (G 89 23)) 89 1 (G 89 24)) 89 4 (G 89 27)) 101 0 90 0 20) 102 0 91 0 8) := (((((hOG.st (Or.inr (by decide))).st (Or.inr (by decide))).st (Or.inr (by decide))).st (Or.inr (by decide))).rw_ (by decide)).rw_ (by decide)
                  refine V_CV (pc := 224) X dX10_window_224 oX10_begins l_RX10_69 eX10_begins vX10_begins ⟨Nat.le_of_ble_eq_true rfl, Nat.le_of_ble_eq_true rfl⟩ ⟨rfl, rfl⟩ ⟨Nat.le_of_ble_eq_true rfl, Nat.le_of_ble_eq_true rfl⟩ (ct_X10_begins hO3) rfl (by first | rfl | assumption | (simp only [*]; done) | omega) (by intro q h; cases h; rfl) rfl (by rfl) (by exact Nat.le_of_ble_eq_true rfl) (fun r h1 hp => ?_)
                  obtain ⟨rfl, rfl⟩ := hp
                  refine V_iload_n (pc := 227) X dX10_window_227 rfl ?_
                  refine V_iret (st := []) (pc := 228) X hQ dX10_window_228 rfl rfl ?_
                  exact Or.inr ⟨by rw [← heq], by rw [← heq], by rw [← hG]; unfold m_winH; first | (rw [if_pos c_195, if_pos c_213]; done) | (rw [if_pos c_195, if_neg c_213]; done) | (rw [if_neg c_195, if_pos c_213]; done) | (rw [if_neg c_195, if_neg c_213])⟩
              · skip
                refine V_bipush (pc := 198) X dX10_window_198 (by decide) ?_
                refine V_goto (pc := 200) X 207 dX10_window_200 (by decide) ?_
                refine V_aload_n (pc := 207) X dX10_window_207 rfl (by first | decide | omega | assumption) ?_
                refine V_gz (pc := 208) X dX10_window_208 f_RX10_137 (by first | rfl | assumption | (simp only [*]; done) | omega) 29 rfl (show _ = G 89 29 from by first | rfl | (repeat (first | rw [z_st_at] | rw [z_st_slot _ (by decide)] | rw [z_st_cell _ (by decide)] | rw [z_rw_ne _ _ (by decide)] | rw [r_rem_s (by decide)] | rw [r_rem_c (by decide) (by decide)] | rw [r_cp_ne (by decide)]))) ?_
                refine V_bipush (pc := 211) X dX10_window_211 (by decide) ?_
                refine V_icmp_ne (pc := 213) X 220 dX10_window_213 (by decide) ⟨by omega, by omega⟩ ⟨by omega, by omega⟩ (fun c_213 => ?_) (fun c_213 => ?_)
                · skip
                  refine V_aload_n (pc := 220) X dX10_window_220 rfl (by first | decide | omega | assumption) ?_
                  refine V_gz (pc := 221) X dX10_window_221 f_RX10_137 (by first | rfl | assumption | (simp only [*]; done) | omega) 29 rfl (show _ = G 89 29 from by first | rfl | (repeat (first | rw [z_st_at] | rw [z_st_slot _ (by decide)] | rw [z_st_cell _ (by decide)] | rw [z_rw_ne _ _ (by decide)] | rw [r_rem_s (by decide)] | rw [r_rem_c (by decide) (by decide)] | rw [r_cp_ne (by decide)]))) ?_
                  have hO3 : r_Ob (r_cp (r_cp (z_st (z_st (z_st (z_st G 89 16 0) 89 0 (G 89 23)) 89 1 (G 89 24)) 89 4 (G 89 27)) 101 0 90 0 20) 102 0 91 0 8) := (((((hOG.st (Or.inr (by decide))).st (Or.inr (by decide))).st (Or.inr (by decide))).st (Or.inr (by decide))).rw_ (by decide)).rw_ (by decide)
                  refine V_CV (pc := 224) X dX10_window_224 oX10_begins l_RX10_69 eX10_begins vX10_begins ⟨Nat.le_of_ble_eq_true rfl, Nat.le_of_ble_eq_true rfl⟩ ⟨rfl, rfl⟩ ⟨Nat.le_of_ble_eq_true rfl, Nat.le_of_ble_eq_true rfl⟩ (ct_X10_begins hO3) rfl (by first | rfl | assumption | (simp only [*]; done) | omega) (by intro q h; cases h; rfl) rfl (by rfl) (by exact Nat.le_of_ble_eq_true rfl) (fun r h1 hp => ?_)
                  obtain ⟨rfl, rfl⟩ := hp
                  refine V_iload_n (pc := 227) X dX10_window_227 rfl ?_
                  refine V_iret (st := []) (pc := 228) X hQ dX10_window_228 rfl rfl ?_
                  exact Or.inr ⟨by rw [← heq], by rw [← heq], by rw [← hG]; unfold m_winH; first | (rw [if_pos c_195, if_pos c_213]; done) | (rw [if_pos c_195, if_neg c_213]; done) | (rw [if_neg c_195, if_pos c_213]; done) | (rw [if_neg c_195, if_neg c_213])⟩
                · skip
                  refine V_iconst (pc := 216) X dX10_window_216 ?_
                  refine V_goto (pc := 217) X 224 dX10_window_217 (by decide) ?_
                  have hO3 : r_Ob (r_cp (r_cp (z_st (z_st (z_st (z_st G 89 16 0) 89 0 (G 89 23)) 89 1 (G 89 24)) 89 4 (G 89 27)) 101 0 90 0 20) 102 0 91 0 8) := (((((hOG.st (Or.inr (by decide))).st (Or.inr (by decide))).st (Or.inr (by decide))).st (Or.inr (by decide))).rw_ (by decide)).rw_ (by decide)
                  refine V_CV (pc := 224) X dX10_window_224 oX10_begins l_RX10_69 eX10_begins vX10_begins ⟨Nat.le_of_ble_eq_true rfl, Nat.le_of_ble_eq_true rfl⟩ ⟨rfl, rfl⟩ ⟨Nat.le_of_ble_eq_true rfl, Nat.le_of_ble_eq_true rfl⟩ (ct_X10_begins hO3) rfl (by first | rfl | assumption | (simp only [*]; done) | omega) (by intro q h; cases h; rfl) rfl (by rfl) (by exact Nat.le_of_ble_eq_true rfl) (fun r h1 hp => ?_)
                  obtain ⟨rfl, rfl⟩ := hp
                  refine V_iload_n (pc := 227) X dX10_window_227 rfl ?_
                  refine V_iret (st := []) (pc := 228) X hQ dX10_window_228 rfl rfl ?_
                  exact Or.inr ⟨by rw [← heq], by rw [← heq], by rw [← hG]; unfold m_winH; first | (rw [if_pos c_195, if_pos c_213]; done) | (rw [if_pos c_195, if_neg c_213]; done) | (rw [if_neg c_195, if_pos c_213]; done) | (rw [if_neg c_195, if_neg c_213])⟩
            · skip
              refine V_aload_n (pc := 67) X dX10_window_67 rfl (by first | decide | omega | assumption) ?_
              refine V_gz (pc := 68) X dX10_window_68 f_RX10_108 (by first | rfl | assumption | (simp only [*]; done) | omega) 20 rfl (show _ = q.2.2.1 from r_tk_20 _ _ _ _ _ _) ?_
              refine V_iconst (pc := 71) X dX10_window_71 ?_
              refine V_icmp_ne (pc := 72) X 91 dX10_window_72 (by decide) ⟨by omega, by omega⟩ ⟨by omega, by omega⟩ (fun c_72 => ?_) (fun c_72 => ?_)
              · skip
                refine V_bipush (pc := 91) X dX10_window_91 (by decide) ?_
                refine V_aload_n (pc := 93) X dX10_window_93 rfl (by first | decide | omega | assumption) ?_
                refine V_gz (pc := 94) X dX10_window_94 f_RX10_99 (by first | rfl | assumption | (simp only [*]; done) | omega) 19 rfl (show _ = _ from r_tk_19 _ _ _ _ _ _) ?_
                refine V_isub (pc := 97) X dX10_window_97 ?_
                refine V_iret (st := []) (pc := 98) X hQ dX10_window_98 rfl rfl ?_
                exact Or.inl (by first | (rw [if_neg c_64, if_pos c_72] at heq; rw [← heq]; exact ⟨rfl, rfl, rfl⟩) | (rw [if_neg c_64, if_neg (fun g => g c_72), if_pos c_88] at heq; rw [← heq]; exact ⟨rfl, rfl, rfl⟩))
              · skip
                refine V_aload_n (pc := 75) X dX10_window_75 rfl (by first | decide | omega | assumption) ?_
                refine V_joinS 85 (fun z => z = z_b (decide ((i : Int) = 0))) (fun J => ?_) (fun z hz => ?_)
                · skip
                  refine V_iload_n (pc := 76) X dX10_window_76 rfl ?_
                  refine V_if_ne (pc := 77) X 84 dX10_window_77 (by decide) ⟨by omega, by omega⟩ (fun c_77 => ?_) (fun c_77 => ?_)
                  · skip
                    refine V_iconst (pc := 84) X dX10_window_84 ?_
                    exact J _ (by unfold z_b; first | rw [if_pos (decide_eq_true c_77)] | rw [if_neg (by simp; omega)])
                  · skip
                    refine V_iconst (pc := 80) X dX10_window_80 ?_
                    refine V_goto (pc := 81) X 85 dX10_window_81 (by decide) ?_
                    exact J _ (by unfold z_b; first | rw [if_pos (decide_eq_true c_77)] | rw [if_neg (by simp; omega)])
                · skip
                  subst hz
                  refine V_CV (pc := 85) X dX10_window_85 oX10_readsItem l_RX10_155 eX10_readsItem vX10_readsItem ⟨Nat.le_of_ble_eq_true rfl, Nat.le_of_ble_eq_true rfl⟩ ⟨rfl, rfl⟩ ⟨Nat.le_of_ble_eq_true rfl, Nat.le_of_ble_eq_true rfl⟩ (ct_X10_readsItem hPR hq) rfl (by first | rfl | assumption | (simp only [*]; done) | omega) (by intro q h; cases h; rfl) rfl (by rfl) (by exact Nat.le_of_ble_eq_true rfl) (fun r h1 hp => ?_)
                  obtain ⟨rfl, rfl⟩ := hp
                  refine V_bif_ne (pc := 88) X 99 dX10_window_88 (by decide)  (fun c_88 => ?_) (fun c_88 => ?_)
                  · skip
                    refine V_aload_n (pc := 99) X dX10_window_99 rfl (by first | decide | omega | assumption) ?_
                    refine V_CV (pc := 100) X dX10_window_100 oX10_step l_RX10_118 eX10_step vX10_step ⟨Nat.le_of_ble_eq_true rfl, Nat.le_of_ble_eq_true rfl⟩ ⟨rfl, rfl⟩ ⟨Nat.le_of_ble_eq_true rfl, Nat.le_of_ble_eq_true rfl⟩ (ct_X10_step (n := (m_itR T N H q (decide ((i : Int) = 0))).2.2.1) (b := (m_itR T N H q (decide ((i : Int) = 0))).2.2.2.1) (c := (m_itR T N H q (decide ((i : Int) = 0))).2.2.2.2.1) (d := (m_itR T N H q (decide ((i : Int) = 0))).2.2.2.2.2.1) (e := (m_itR T N H q (decide ((i : Int) = 0))).2.2.2.2.2.2) hk1.1 hk1.2.1 hk2.1.1 hk2.1.2) rfl (by first | rfl | assumption | (simp only [*]; done) | omega) (by intro q h; cases h; rfl) rfl (by rfl) (by exact Nat.le_of_ble_eq_true rfl) (fun r h1 hp => ?_)
                    obtain ⟨rfl, rfl⟩ := hp
                    refine V_aload_n (pc := 103) X dX10_window_103 rfl (by first | decide | omega | assumption) ?_
                    refine V_gz (pc := 104) X dX10_window_104 f_RX10_108 (by first | rfl | assumption | (simp only [*]; done) | omega) 20 rfl (show _ = (m_nx T N (m_itR T N H q (decide ((i : Int) = 0))).2.2).2.2.1 from r_tk_20 _ _ _ _ _ _) ?_
                    refine V_iconst (pc := 107) X dX10_window_107 ?_
                    refine V_icmp_eq (pc := 108) X 119 dX10_window_108 (by decide) ⟨by omega, by omega⟩ ⟨by omega, by omega⟩ (fun c_108 => ?_) (fun c_108 => ?_)
                    · skip
                      refine V_iinc (pc := 119) X dX10_window_119 rfl rfl ?_
                      refine V_aload_n (pc := 122) X dX10_window_122 rfl (by first | decide | omega | assumption) ?_
                      refine V_CV (pc := 123) X dX10_window_123 oX10_step l_RX10_118 eX10_step vX10_step ⟨Nat.le_of_ble_eq_true rfl, Nat.le_of_ble_eq_true rfl⟩ ⟨rfl, rfl⟩ ⟨Nat.le_of_ble_eq_true rfl, Nat.le_of_ble_eq_true rfl⟩ (ct_X10_step (n := (m_nx T N (m_itR T N H q (decide ((i : Int) = 0))).2.2).1) (b := (m_nx T N (m_itR T N H q (decide ((i : Int) = 0))).2.2).2.1) (c := (m_nx T N (m_itR T N H q (decide ((i : Int) = 0))).2.2).2.2.1) (d := (m_nx T N (m_itR T N H q (decide ((i : Int) = 0))).2.2).2.2.2.1) (e := (m_nx T N (m_itR T N H q (decide ((i : Int) = 0))).2.2).2.2.2.2) hk1.1 hk1.2.1 hk3.1.1 hk3.1.2) rfl (by first | rfl | assumption | (simp only [*]; done) | omega) (by intro q h; cases h; rfl) rfl (by rfl) (by exact Nat.le_of_ble_eq_true rfl) (fun r h1 hp => ?_)
                      obtain ⟨rfl, rfl⟩ := hp
                      refine V_goto (pc := 126) X 60 dX10_window_126 (by decide) ?_
                      have hfq := hfw c_64
                      refine ih_60 (i + 1) _ (m_nx T N (m_nx T N (m_itR T N H q (decide ((i : Int) = 0))).2.2)) (by omega) (by omega) hk1 hk4 (by omega) hf2.2.2 ?_
                      rw [if_neg c_64, if_neg (fun g => g c_72), if_neg (by rw [c_88]; decide), if_neg (fun g => g c_108)] at heq
                      rw [← heq, show 171 - (i + 1) = 170 - i by omega]
                      rfl
                    · skip
                      refine V_bipush (pc := 111) X dX10_window_111 (by decide) ?_
                      refine V_aload_n (pc := 113) X dX10_window_113 rfl (by first | decide | omega | assumption) ?_
                      refine V_gz (pc := 114) X dX10_window_114 f_RX10_99 (by first | rfl | assumption | (simp only [*]; done) | omega) 19 rfl (show _ = (m_nx T N (m_itR T N H q (decide ((i : Int) = 0))).2.2).2.1 from r_tk_19 _ _ _ _ _ _) ?_
                      refine V_isub (pc := 117) X dX10_window_117 ?_
                      refine V_iret (st := []) (pc := 118) X hQ dX10_window_118 rfl rfl ?_
                      exact Or.inl (by rw [if_neg c_64, if_neg (fun g => g c_72), if_neg (by rw [c_88]; decide), if_pos c_108] at heq; rw [← heq]; exact ⟨rfl, rfl, rfl⟩)
                  · skip
                    refine V_bipush (pc := 91) X dX10_window_91 (by decide) ?_
                    refine V_aload_n (pc := 93) X dX10_window_93 rfl (by first | decide | omega | assumption) ?_
                    refine V_gz (pc := 94) X dX10_window_94 f_RX10_99 (by first | rfl | assumption | (simp only [*]; done) | omega) 19 rfl (show _ = _ from r_tk_19 _ _ _ _ _ _) ?_
                    refine V_isub (pc := 97) X dX10_window_97 ?_
                    refine V_iret (st := []) (pc := 98) X hQ dX10_window_98 rfl rfl ?_
                    exact Or.inl (by first | (rw [if_neg c_64, if_pos c_72] at heq; rw [← heq]; exact ⟨rfl, rfl, rfl⟩) | (rw [if_neg c_64, if_neg (fun g => g c_72), if_pos c_88] at heq; rw [← heq]; exact ⟨rfl, rfl, rfl⟩))
        exact lp_60 _ 0 (m_rd0 h) (m_tok T N 0) (Nat.lt_succ_self _) (by decide) hPR0 hq0 hq0.2.1.1 (fun g => (m_fwd (T := T) (N := N) (0, 0, 0, 0, 0) ⟨by show (0 : Int) ≤ 0; decide, hN.1⟩).2.2 g) rfl
      · skip
        refine V_aload_n (pc := 18) X dX10_window_18 rfl (by first | decide | omega | assumption) ?_
        refine V_gz (pc := 19) X dX10_window_19 f_RX10_51 (by first | rfl | assumption | (simp only [*]; done) | omega) 25 rfl (show _ = (101 : Int) from by first | exact rb25 | ((repeat (first | rw [z_st_at] | rw [z_st_slot _ (by decide)] | rw [z_st_cell _ (by decide)] | rw [z_rw_ne _ _ (by decide)] | rw [r_rem_s (by decide)] | rw [r_rem_c (by decide) (by decide)] | rw [r_cp_ne (by decide)])); exact rb25)) ?_
        refine V_iload_n (pc := 22) X dX10_window_22 rfl ?_
        refine V_bipush (pc := 23) X dX10_window_23 (by decide) ?_
        refine V_iast (pc := 25) X dX10_window_25 (by first | rfl | assumption | (simp only [*]; done) | omega) (by omega) (by omega) (by decide) ?_
        rw [z_rw_st]
        refine V_iinc (pc := 26) X dX10_window_26 rfl rfl ?_
        refine V_goto (pc := 29) X 12 dX10_window_29 (by decide) ?_
        refine V_heap ?_ (ih_12 (e + 1) (by omega) (by omega) (by omega))
        congr 1
        funext r
        by_cases g : r = e
        · rw [if_pos g, if_pos (by omega)]
        · rw [if_neg g]
          by_cases g2 : 0 ≤ r ∧ r < e
          · rw [if_pos g2, if_pos (by omega)]
          · rw [if_neg g2, if_neg (by omega)]
  refine V_heap (h' := z_rw (z_st (z_st h 89 23 5) 89 24 4) 101 (fun r => if 0 ≤ r ∧ r < 0 then 7 else h 101 r)) (by rw [show (fun r => if 0 ≤ r ∧ r < 0 then 7 else h 101 r) = (z_st (z_st h 89 23 5) 89 24 4) 101 from by funext r; rw [if_neg (by omega), z_st_cell _ (by decide), z_st_cell _ (by decide)]]; exact (z_rw_same (z_st (z_st h 89 23 5) 89 24 4) 101).symm) ?_
  exact lp_12 _ 0 (Nat.lt_succ_self _) (by decide) (by decide)
