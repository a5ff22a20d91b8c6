/-! PaneLight, 4 -/
set_option maxHeartbeats 4000000 in
set_option maxRecDepth 100000 in
theorem ct_X9_type {h : z_H} (hO : c_Ob h) {T : Int → Int} {N : Int} (hR : c_Rd h T N) {c : Int} (hc : z_R c) : z_Ct mX9_type 107 [(2, 0), (0, c)] h (fun r h2 => (¬ (0 ≤ c ∧ c ≤ 255) ∧ r = some (0, -1) ∧ h2 = h) ∨ ((0 ≤ c ∧ c ≤ 255) ∧ ((¬ N < 170 ∧ r = some (0, -3) ∧ h2 = h) ∨ (N < 170 ∧ r = some (0, N + 1) ∧ h2 = z_st (z_st h 2 N c) 1 1 (N + 1))))) := by
  refine z_mk (L := [(2, 0), (0, c)]) oX9_type.2.2.2.2 (Nat.le_of_ble_eq_true rfl) rfl ?_
  intro Γ X hQ
  obtain ⟨ob0, ob1, ob2, ob3, ob4, ob5, ob6, ob7, r320⟩ := id hO
  obtain ⟨r10, r11, r2, hN, hT⟩ := id hR
  obtain ⟨hc1, hc2⟩ := hc
  refine V_iload_n (pc := 0) X dX9_type_0 rfl ?_
  refine V_if_lt (pc := 1) X 11 dX9_type_1 (by decide) ⟨by omega, by omega⟩ (fun c_1 => ?_) (fun c_1 => ?_)
  · skip
    refine V_iconst (pc := 11) X dX9_type_11 ?_
    refine V_iret (st := []) (pc := 12) X hQ dX9_type_12 rfl rfl ?_
    exact Or.inl ⟨by omega, rfl, rfl⟩
  · skip
    refine V_iload_n (pc := 4) X dX9_type_4 rfl ?_
    refine V_sipush (pc := 5) X dX9_type_5 (by decide) ?_
    refine V_icmp_le (pc := 8) X 13 dX9_type_8 (by decide) ⟨by omega, by omega⟩ ⟨by omega, by omega⟩ (fun c_8 => ?_) (fun c_8 => ?_)
    · skip
      refine V_aload_n (pc := 13) X dX9_type_13 rfl (by first | decide | omega | assumption) ?_
      refine V_gz (pc := 14) X dX9_type_14 f_RX9_12 (by first | rfl | assumption | (simp only [*]; done) | omega) 0 rfl ob0 ?_
      refine V_iload_n (pc := 17) X dX9_type_17 rfl ?_
      refine V_CV (pc := 18) X dX9_type_18 oX4_add l_RX9_69 eX4_add vX4_add ⟨Nat.le_of_ble_eq_true rfl, Nat.le_of_ble_eq_true rfl⟩ ⟨rfl, rfl⟩ ⟨Nat.le_of_ble_eq_true rfl, Nat.le_of_ble_eq_true rfl⟩ (ct_X4_add hR) rfl (by first | rfl | assumption | (simp only [*]; done) | omega) (by intro q h; cases h; rfl) rfl (by rfl) (by exact Nat.le_of_ble_eq_true rfl) (fun r h1 hp => ?_)
      obtain ⟨rfl, rfl⟩ := hp
      refine V_bif_eq (pc := 21) X 34 dX9_type_21 (by decide)  (fun c_21 => ?_) (fun c_21 => ?_)
      · skip
        rw [if_neg (of_decide_eq_false c_21)]
        refine V_bipush (pc := 34) X dX9_type_34 (by decide) ?_
        refine V_iret (st := []) (pc := 36) X hQ dX9_type_36 rfl rfl ?_
        exact Or.inr ⟨by omega, by first | exact Or.inl ⟨of_decide_eq_false c_21, rfl, rfl⟩ | exact Or.inr ⟨of_decide_eq_true c_21, rfl, rfl⟩⟩
      · skip
        rw [if_pos (of_decide_eq_true c_21)]
        refine V_aload_n (pc := 24) X dX9_type_24 rfl (by first | decide | omega | assumption) ?_
        refine V_gz (pc := 25) X dX9_type_25 f_RX9_12 (by first | rfl | assumption | (simp only [*]; done) | omega) 0 rfl (show _ = (1 : Int) from by rw [z_st_cell _ (by decide), z_st_cell _ (by decide)]; exact ob0) ?_
        refine V_gz (pc := 28) X dX9_type_28 f_RX9_73 (by first | rfl | assumption | (simp only [*]; done) | omega) 1 rfl (show _ = N + 1 from by rw [z_st_at]) ?_
        refine V_goto (pc := 31) X 36 dX9_type_31 (by decide) ?_
        refine V_iret (st := []) (pc := 36) X hQ dX9_type_36 rfl rfl ?_
        exact Or.inr ⟨by omega, by first | exact Or.inl ⟨of_decide_eq_false c_21, rfl, rfl⟩ | exact Or.inr ⟨of_decide_eq_true c_21, rfl, rfl⟩⟩
    · skip
      refine V_iconst (pc := 11) X dX9_type_11 ?_
      refine V_iret (st := []) (pc := 12) X hQ dX9_type_12 rfl rfl ?_
      exact Or.inl ⟨by omega, rfl, rfl⟩
set_option maxHeartbeats 4000000 in
set_option maxRecDepth 100000 in
theorem ct_X9_clear {h : z_H} (hO : c_Ob h) : z_Ct mX9_clear 107 [(2, 0)] h (z_ans (0, h 1 1) (z_st h 1 1 0)) := by
  refine z_mk (L := [(2, 0), (9, 0)]) oX9_clear.2.2.2.2 (Nat.le_of_ble_eq_true rfl) rfl ?_
  intro Γ X hQ
  obtain ⟨ob0, ob1, ob2, ob3, ob4, ob5, ob6, ob7, r320⟩ := id hO
  refine V_aload_n (pc := 0) X dX9_clear_0 rfl (by first | decide | omega | assumption) ?_
  refine V_gz (pc := 1) X dX9_clear_1 f_RX9_12 (by first | rfl | assumption | (simp only [*]; done) | omega) 0 rfl ob0 ?_
  refine V_gz (pc := 4) X dX9_clear_4 f_RX9_73 (by first | rfl | assumption | (simp only [*]; done) | omega) 1 rfl rfl ?_
  refine V_istore_n (pc := 7) X dX9_clear_7 (by exact Nat.le_of_ble_eq_true rfl) rfl ?_
  refine V_aload_n (pc := 8) X dX9_clear_8 rfl (by first | decide | omega | assumption) ?_
  refine V_gz (pc := 9) X dX9_clear_9 f_RX9_12 (by first | rfl | assumption | (simp only [*]; done) | omega) 0 rfl ob0 ?_
  refine V_iconst (pc := 12) X dX9_clear_12 ?_
  refine V_pz (pc := 13) X dX9_clear_13 f_RX9_73 (by first | rfl | assumption | (simp only [*]; done) | omega) (fun b => z_fitI b _) 1 rfl ?_
  refine V_iload_n (pc := 16) X dX9_clear_16 rfl ?_
  refine V_iret (st := []) (pc := 17) X hQ dX9_clear_17 rfl rfl ?_
  exact ⟨rfl, rfl⟩
set_option maxHeartbeats 4000000 in
set_option maxRecDepth 100000 in
theorem ct_X9_asPane {h : z_H} (hO : c_Ob h) {pl mo : Int} (hS : c_Sc h pl mo) {p : Int} (h0 : 0 ≤ p) (h1 : p < 20) : z_Ct mX9_asPane 107 [(2, 0), (0, p)] h (z_ans (0, c_lets h pl mo p) (c_tr h 1)) := by
  refine z_mk (L := [(2, 0), (0, p)]) oX9_asPane.2.2.2.2 (Nat.le_of_ble_eq_true rfl) rfl ?_
  intro Γ X hQ
  obtain ⟨ob0, ob1, ob2, ob3, ob4, ob5, ob6, ob7, r320⟩ := id hO
  obtain ⟨r30, r31, r42, ⟨kp, rp0, rp1, kp1, kp2, hw, hh, hs, hgl, hpi⟩, ⟨km, rm0, km1, hbr, hmi, hse, hbf⟩⟩ := id hS
  have E1 := c_tr_eq (k := 1) hS
  have hs1 := E1.sc hS
  refine V_aload_n (pc := 0) X dX9_asPane_0 rfl (by first | decide | omega | assumption) ?_
  refine V_dup (pc := 1) X dX9_asPane_1 (Nat.ne_of_beq_eq_false rfl) ?_
  refine V_gz (pc := 2) X dX9_asPane_2 f_RX9_262 (by first | rfl | assumption | (simp only [*]; done) | omega) 8 rfl rfl ?_
  refine V_lconst (pc := 5) (z := 1) X dX9_asPane_5 (by decide) ?_
  refine V_ladd (pc := 6) X dX9_asPane_6 ?_
  refine V_pz (pc := 7) X dX9_asPane_7 f_RX9_262 (by first | rfl | assumption | (simp only [*]; done) | omega) (fun b => z_fitL b _) 8 rfl ?_
  rw [show z_st h 0 8 (h 0 8 + 1) = c_tr h 1 from rfl]
  refine V_aload_n (pc := 10) X dX9_asPane_10 rfl (by first | decide | omega | assumption) ?_
  refine V_gz (pc := 11) X dX9_asPane_11 f_RX9_19 (by first | rfl | assumption | (simp only [*]; done) | omega) 1 rfl (show _ = (3 : Int) from (c_tr_ob hO).2.1) ?_
  refine V_iload_n (pc := 14) X dX9_asPane_14 rfl ?_
  refine V_FV (pc := 15) X dX9_asPane_15 oX5_letsThrough l_RX9_107 eX5_letsThrough vX5_letsThrough ⟨Nat.le_of_ble_eq_true rfl, Nat.le_of_ble_eq_true rfl⟩ ⟨rfl, rfl⟩ ⟨Nat.le_of_ble_eq_true rfl, Nat.le_of_ble_eq_true rfl⟩ (ct_X5_letsThrough hs1 (by omega) (by omega)) rfl (by first | rfl | assumption | (simp only [*]; done) | omega) (by intro q h; cases h; rfl) rfl (by rfl) (by exact Nat.le_of_ble_eq_true rfl) ?_
  rw [E1.lets]
  refine V_iret (st := []) (pc := 18) X hQ dX9_asPane_18 rfl rfl ?_
  exact ⟨rfl, rfl⟩
set_option maxHeartbeats 4000000 in
set_option maxRecDepth 100000 in
theorem ct_X9_asSaint {h : z_H} (hO : c_Ob h) {pl mo : Int} (hS : c_Sc h pl mo) {p : Int} (h0 : 0 ≤ p) (h1 : p < 20) : z_Ct mX9_asSaint 107 [(2, 0), (0, p)] h (z_ans (0, c_lets h pl mo p + z_pop (h (mo + 1) p)) (c_tr h 11)) := by
  refine z_mk (L := [(2, 0), (0, p)]) oX9_asSaint.2.2.2.2 (Nat.le_of_ble_eq_true rfl) rfl ?_
  intro Γ X hQ
  obtain ⟨ob0, ob1, ob2, ob3, ob4, ob5, ob6, ob7, r320⟩ := id hO
  obtain ⟨r30, r31, r42, ⟨kp, rp0, rp1, kp1, kp2, hw, hh, hs, hgl, hpi⟩, ⟨km, rm0, km1, hbr, hmi, hse, hbf⟩⟩ := id hS
  have hst := c_tr_ob (k := 10) hO
  have E1 := c_tr_eq (k := 10) hS
  have hs1 := E1.sc hS
  have E2 := c_tr_eq (k := 11) hS
  obtain ⟨u30, u31, u42, -, ⟨um, u0, -⟩⟩ := id (E2.sc hS)
  obtain ⟨-, x1, -⟩ := id (c_tr_ob (k := 11) hO)
  refine V_aload_n (pc := 0) X dX9_asSaint_0 rfl (by first | decide | omega | assumption) ?_
  refine V_dup (pc := 1) X dX9_asSaint_1 (Nat.ne_of_beq_eq_false rfl) ?_
  refine V_gz (pc := 2) X dX9_asSaint_2 f_RX9_262 (by first | rfl | assumption | (simp only [*]; done) | omega) 8 rfl rfl ?_
  refine V_ldc2 (pc := 5) X (10) dX9_asSaint_5 c_RX9_266 (by decide) ?_
  refine V_ladd (pc := 8) X dX9_asSaint_8 ?_
  refine V_pz (pc := 9) X dX9_asSaint_9 f_RX9_262 (by first | rfl | assumption | (simp only [*]; done) | omega) (fun b => z_fitL b _) 8 rfl ?_
  rw [show z_st h 0 8 (h 0 8 + 10) = c_tr h 10 from rfl]
  refine V_aload_n (pc := 12) X dX9_asSaint_12 rfl (by first | decide | omega | assumption) ?_
  refine V_iload_n (pc := 13) X dX9_asSaint_13 rfl ?_
  refine V_CV (pc := 14) X dX9_asSaint_14 oX9_asPane l_RX9_233 eX9_asPane vX9_asPane ⟨Nat.le_of_ble_eq_true rfl, Nat.le_of_ble_eq_true rfl⟩ ⟨rfl, rfl⟩ ⟨Nat.le_of_ble_eq_true rfl, Nat.le_of_ble_eq_true rfl⟩ (ct_X9_asPane hst hs1 h0 h1) rfl (by first | rfl | assumption | (simp only [*]; done) | omega) (by intro q h; cases h; rfl) rfl (by rfl) (by exact Nat.le_of_ble_eq_true rfl) (fun r h1 hp => ?_)
  obtain ⟨rfl, rfl⟩ := hp
  rw [c_tr_tr, E1.lets, show (10 : Int) + 1 = 11 from rfl]
  refine V_aload_n (pc := 17) X dX9_asSaint_17 rfl (by first | decide | omega | assumption) ?_
  refine V_gz (pc := 18) X dX9_asSaint_18 f_RX9_19 (by first | rfl | assumption | (simp only [*]; done) | omega) 1 rfl (show _ = (3 : Int) from x1) ?_
  refine V_gz (pc := 21) X dX9_asSaint_21 f_RX9_58 (by first | rfl | assumption | (simp only [*]; done) | omega) 0 rfl (show _ = (4 : Int) from u30) ?_
  refine V_gz (pc := 24) X dX9_asSaint_24 f_RX9_98 (by first | rfl | assumption | (simp only [*]; done) | omega) 2 rfl (show _ = mo from u42) ?_
  refine V_gz (pc := 27) X dX9_asSaint_27 f_RX9_102 (by first | rfl | assumption | (simp only [*]; done) | omega) 0 rfl (show _ = mo + 1 from u0) ?_
  refine V_iload_n (pc := 30) X dX9_asSaint_30 rfl ?_
  refine V_iald (pc := 31) X dX9_asSaint_31 (by first | rfl | assumption | (simp only [*]; done) | omega) (by omega) (by omega) (by decide) ?_
  rw [show c_tr h 11 (mo + 1) p = h (mo + 1) p from by rw [E2.2.2.2.2.2.2]]
  have hbp := hbf p h0 h1
  refine V_FS (pc := 32) X dX9_asSaint_32 oJ6_bitCount_0f7a4 l_RX9_127 sJ6_bitCount_0f7a4 ⟨Nat.le_of_ble_eq_true rfl, Nat.le_of_ble_eq_true rfl⟩ ⟨rfl, rfl⟩ ⟨Nat.le_of_ble_eq_true rfl, Nat.le_of_ble_eq_true rfl⟩ (ct_J6_bitCount_0f7a4 (by omega) (by omega)) rfl (by rfl) (by exact Nat.le_of_ble_eq_true rfl) ?_
  refine V_iadd (pc := 35) X dX9_asSaint_35 ?_
  refine V_iret (st := []) (pc := 36) X hQ dX9_asSaint_36 rfl rfl ?_
  exact ⟨rfl, rfl⟩
set_option maxHeartbeats 4000000 in
set_option maxRecDepth 100000 in
theorem ct_X9_asDevil {h : z_H} (hO : c_Ob h) {pl mo : Int} (hS : c_Sc h pl mo) {p : Int} (h0 : 0 ≤ p) (h1 : p < 20) : z_Ct mX9_asDevil 107 [(2, 0), (0, p)] h (z_ans (0, c_lets h pl mo p - p % 4) (c_tr h 101)) := by
  refine z_mk (L := [(2, 0), (0, p)]) oX9_asDevil.2.2.2.2 (Nat.le_of_ble_eq_true rfl) rfl ?_
  intro Γ X hQ
  obtain ⟨ob0, ob1, ob2, ob3, ob4, ob5, ob6, ob7, r320⟩ := id hO
  obtain ⟨r30, r31, r42, ⟨kp, rp0, rp1, kp1, kp2, hw, hh, hs, hgl, hpi⟩, ⟨km, rm0, km1, hbr, hmi, hse, hbf⟩⟩ := id hS
  have hst := c_tr_ob (k := 100) hO
  have E1 := c_tr_eq (k := 100) hS
  have hs1 := E1.sc hS
  have E2 := c_tr_eq (k := 101) hS
  obtain ⟨u30, u31, u42, -, ⟨um, u0, -⟩⟩ := id (E2.sc hS)
  obtain ⟨-, x1, -⟩ := id (c_tr_ob (k := 101) hO)
  refine V_aload_n (pc := 0) X dX9_asDevil_0 rfl (by first | decide | omega | assumption) ?_
  refine V_dup (pc := 1) X dX9_asDevil_1 (Nat.ne_of_beq_eq_false rfl) ?_
  refine V_gz (pc := 2) X dX9_asDevil_2 f_RX9_262 (by first | rfl | assumption | (simp only [*]; done) | omega) 8 rfl rfl ?_
  refine V_ldc2 (pc := 5) X (100) dX9_asDevil_5 c_RX9_268 (by decide) ?_
  refine V_ladd (pc := 8) X dX9_asDevil_8 ?_
  refine V_pz (pc := 9) X dX9_asDevil_9 f_RX9_262 (by first | rfl | assumption | (simp only [*]; done) | omega) (fun b => z_fitL b _) 8 rfl ?_
  rw [show z_st h 0 8 (h 0 8 + 100) = c_tr h 100 from rfl]
  refine V_aload_n (pc := 12) X dX9_asDevil_12 rfl (by first | decide | omega | assumption) ?_
  refine V_iload_n (pc := 13) X dX9_asDevil_13 rfl ?_
  refine V_CV (pc := 14) X dX9_asDevil_14 oX9_asPane l_RX9_233 eX9_asPane vX9_asPane ⟨Nat.le_of_ble_eq_true rfl, Nat.le_of_ble_eq_true rfl⟩ ⟨rfl, rfl⟩ ⟨Nat.le_of_ble_eq_true rfl, Nat.le_of_ble_eq_true rfl⟩ (ct_X9_asPane hst hs1 h0 h1) rfl (by first | rfl | assumption | (simp only [*]; done) | omega) (by intro q h; cases h; rfl) rfl (by rfl) (by exact Nat.le_of_ble_eq_true rfl) (fun r h1 hp => ?_)
  obtain ⟨rfl, rfl⟩ := hp
  rw [c_tr_tr, E1.lets, show (100 : Int) + 1 = 101 from rfl]
  refine V_iload_n (pc := 17) X dX9_asDevil_17 rfl ?_
  refine V_iconst (pc := 18) X dX9_asDevil_18 ?_
  refine V_iremN (pc := 19) X dX9_asDevil_19 (by omega) (by omega) (by omega) (by omega) ?_
  refine V_isub (pc := 20) X dX9_asDevil_20 ?_
  refine V_iret (st := []) (pc := 21) X hQ dX9_asDevil_21 rfl rfl ?_
  exact ⟨rfl, rfl⟩
set_option maxHeartbeats 4000000 in
set_option maxRecDepth 100000 in
theorem ct_X9_asHalo {h : z_H} (hO : c_Ob h) {pl mo : Int} (hS : c_Sc h pl mo) {p : Int} (h0 : 0 ≤ p) (h1 : p < 20) : z_Ct mX9_asHalo 107 [(2, 0), (0, p)] h (z_ans (0, (c_lets h pl mo p + z_pop (h (mo + 1) p)) * 2) (c_tr h 1011)) := by
  refine z_mk (L := [(2, 0), (0, p)]) oX9_asHalo.2.2.2.2 (Nat.le_of_ble_eq_true rfl) rfl ?_
  intro Γ X hQ
  obtain ⟨ob0, ob1, ob2, ob3, ob4, ob5, ob6, ob7, r320⟩ := id hO
  obtain ⟨r30, r31, r42, ⟨kp, rp0, rp1, kp1, kp2, hw, hh, hs, hgl, hpi⟩, ⟨km, rm0, km1, hbr, hmi, hse, hbf⟩⟩ := id hS
  have hst := c_tr_ob (k := 1000) hO
  have E1 := c_tr_eq (k := 1000) hS
  have hs1 := E1.sc hS
  have E2 := c_tr_eq (k := 1011) hS
  obtain ⟨u30, u31, u42, -, ⟨um, u0, -⟩⟩ := id (E2.sc hS)
  obtain ⟨-, x1, -⟩ := id (c_tr_ob (k := 1011) hO)
  refine V_aload_n (pc := 0) X dX9_asHalo_0 rfl (by first | decide | omega | assumption) ?_
  refine V_dup (pc := 1) X dX9_asHalo_1 (Nat.ne_of_beq_eq_false rfl) ?_
  refine V_gz (pc := 2) X dX9_asHalo_2 f_RX9_262 (by first | rfl | assumption | (simp only [*]; done) | omega) 8 rfl rfl ?_
  refine V_ldc2 (pc := 5) X (1000) dX9_asHalo_5 c_RX9_270 (by decide) ?_
  refine V_ladd (pc := 8) X dX9_asHalo_8 ?_
  refine V_pz (pc := 9) X dX9_asHalo_9 f_RX9_262 (by first | rfl | assumption | (simp only [*]; done) | omega) (fun b => z_fitL b _) 8 rfl ?_
  rw [show z_st h 0 8 (h 0 8 + 1000) = c_tr h 1000 from rfl]
  refine V_aload_n (pc := 12) X dX9_asHalo_12 rfl (by first | decide | omega | assumption) ?_
  refine V_iload_n (pc := 13) X dX9_asHalo_13 rfl ?_
  refine V_CV (pc := 14) X dX9_asHalo_14 oX9_asSaint l_RX9_236 eX9_asSaint vX9_asSaint ⟨Nat.le_of_ble_eq_true rfl, Nat.le_of_ble_eq_true rfl⟩ ⟨rfl, rfl⟩ ⟨Nat.le_of_ble_eq_true rfl, Nat.le_of_ble_eq_true rfl⟩ (ct_X9_asSaint hst hs1 h0 h1) rfl (by first | rfl | assumption | (simp only [*]; done) | omega) (by intro q h; cases h; rfl) rfl (by rfl) (by exact Nat.le_of_ble_eq_true rfl) (fun r h1 hp => ?_)
  obtain ⟨rfl, rfl⟩ := hp
  rw [c_tr_tr, E1.lets, show c_tr h 1000 (mo + 1) = h (mo + 1) from E1.2.2.2.2.2.2, show (1000 : Int) + 11 = 1011 from rfl]
  refine V_iconst (pc := 17) X dX9_asHalo_17 ?_
  refine V_imul (pc := 18) X dX9_asHalo_18 ?_
  refine V_iret (st := []) (pc := 19) X hQ dX9_asHalo_19 rfl rfl ?_
  exact ⟨rfl, rfl⟩
set_option maxHeartbeats 4000000 in
set_option maxRecDepth 100000 in
theorem ct_X9_asTail {h : z_H} (hO : c_Ob h) {pl mo : Int} (hS : c_Sc h pl mo) {p : Int} (h0 : 0 ≤ p) (h1 : p < 20) : z_Ct mX9_asTail 107 [(2, 0), (0, p)] h (z_ans (0, c_lets h pl mo p - p % 4 + p) (c_tr h 10101)) := by
  refine z_mk (L := [(2, 0), (0, p)]) oX9_asTail.2.2.2.2 (Nat.le_of_ble_eq_true rfl) rfl ?_
  intro Γ X hQ
  obtain ⟨ob0, ob1, ob2, ob3, ob4, ob5, ob6, ob7, r320⟩ := id hO
  obtain ⟨r30, r31, r42, ⟨kp, rp0, rp1, kp1, kp2, hw, hh, hs, hgl, hpi⟩, ⟨km, rm0, km1, hbr, hmi, hse, hbf⟩⟩ := id hS
  have hst := c_tr_ob (k := 10000) hO
  have E1 := c_tr_eq (k := 10000) hS
  have hs1 := E1.sc hS
  have E2 := c_tr_eq (k := 10101) hS
  obtain ⟨u30, u31, u42, -, ⟨um, u0, -⟩⟩ := id (E2.sc hS)
  obtain ⟨-, x1, -⟩ := id (c_tr_ob (k := 10101) hO)
  refine V_aload_n (pc := 0) X dX9_asTail_0 rfl (by first | decide | omega | assumption) ?_
  refine V_dup (pc := 1) X dX9_asTail_1 (Nat.ne_of_beq_eq_false rfl) ?_
  refine V_gz (pc := 2) X dX9_asTail_2 f_RX9_262 (by first | rfl | assumption | (simp only [*]; done) | omega) 8 rfl rfl ?_
  refine V_ldc2 (pc := 5) X (10000) dX9_asTail_5 c_RX9_272 (by decide) ?_
  refine V_ladd (pc := 8) X dX9_asTail_8 ?_
  refine V_pz (pc := 9) X dX9_asTail_9 f_RX9_262 (by first | rfl | assumption | (simp only [*]; done) | omega) (fun b => z_fitL b _) 8 rfl ?_
  rw [show z_st h 0 8 (h 0 8 + 10000) = c_tr h 10000 from rfl]
  refine V_aload_n (pc := 12) X dX9_asTail_12 rfl (by first | decide | omega | assumption) ?_
  refine V_iload_n (pc := 13) X dX9_asTail_13 rfl ?_
  refine V_CV (pc := 14) X dX9_asTail_14 oX9_asDevil l_RX9_239 eX9_asDevil vX9_asDevil ⟨Nat.le_of_ble_eq_true rfl, Nat.le_of_ble_eq_true rfl⟩ ⟨rfl, rfl⟩ ⟨Nat.le_of_ble_eq_true rfl, Nat.le_of_ble_eq_true rfl⟩ (ct_X9_asDevil hst hs1 h0 h1) rfl (by first | rfl | assumption | (simp only [*]; done) | omega) (by intro q h; cases h; rfl) rfl (by rfl) (by exact Nat.le_of_ble_eq_true rfl) (fun r h1 hp => ?_)
  obtain ⟨rfl, rfl⟩ := hp
  rw [c_tr_tr, E1.lets, show (10000 : Int) + 101 = 10101 from rfl]
  refine V_iload_n (pc := 17) X dX9_asTail_17 rfl ?_
  refine V_iadd (pc := 18) X dX9_asTail_18 ?_
  refine V_iret (st := []) (pc := 19) X hQ dX9_asTail_19 rfl rfl ?_
  exact ⟨rfl, rfl⟩
set_option maxHeartbeats 4000000 in
set_option maxRecDepth 100000 in
theorem ct_X9_asLead {h : z_H} (hO : c_Ob h) {pl mo : Int} (hS : c_Sc h pl mo) {p : Int} (h0 : 0 ≤ p) (h1 : p < 20) : z_Ct mX9_asLead 107 [(2, 0), (0, p)] h (z_ans (0, c_lets h pl mo p + h mo 2) (c_tr h 100001)) := by
  refine z_mk (L := [(2, 0), (0, p)]) oX9_asLead.2.2.2.2 (Nat.le_of_ble_eq_true rfl) rfl ?_
  intro Γ X hQ
  obtain ⟨ob0, ob1, ob2, ob3, ob4, ob5, ob6, ob7, r320⟩ := id hO
  obtain ⟨r30, r31, r42, ⟨kp, rp0, rp1, kp1, kp2, hw, hh, hs, hgl, hpi⟩, ⟨km, rm0, km1, hbr, hmi, hse, hbf⟩⟩ := id hS
  have hst := c_tr_ob (k := 100000) hO
  have E1 := c_tr_eq (k := 100000) hS
  have hs1 := E1.sc hS
  have E2 := c_tr_eq (k := 100001) hS
  obtain ⟨u30, u31, u42, -, ⟨um, u0, -⟩⟩ := id (E2.sc hS)
  obtain ⟨-, x1, -⟩ := id (c_tr_ob (k := 100001) hO)
  refine V_aload_n (pc := 0) X dX9_asLead_0 rfl (by first | decide | omega | assumption) ?_
  refine V_dup (pc := 1) X dX9_asLead_1 (Nat.ne_of_beq_eq_false rfl) ?_
  refine V_gz (pc := 2) X dX9_asLead_2 f_RX9_262 (by first | rfl | assumption | (simp only [*]; done) | omega) 8 rfl rfl ?_
  refine V_ldc2 (pc := 5) X (100000) dX9_asLead_5 c_RX9_274 (by decide) ?_
  refine V_ladd (pc := 8) X dX9_asLead_8 ?_
  refine V_pz (pc := 9) X dX9_asLead_9 f_RX9_262 (by first | rfl | assumption | (simp only [*]; done) | omega) (fun b => z_fitL b _) 8 rfl ?_
  rw [show z_st h 0 8 (h 0 8 + 100000) = c_tr h 100000 from rfl]
  refine V_aload_n (pc := 12) X dX9_asLead_12 rfl (by first | decide | omega | assumption) ?_
  refine V_iload_n (pc := 13) X dX9_asLead_13 rfl ?_
  refine V_CV (pc := 14) X dX9_asLead_14 oX9_asPane l_RX9_233 eX9_asPane vX9_asPane ⟨Nat.le_of_ble_eq_true rfl, Nat.le_of_ble_eq_true rfl⟩ ⟨rfl, rfl⟩ ⟨Nat.le_of_ble_eq_true rfl, Nat.le_of_ble_eq_true rfl⟩ (ct_X9_asPane hst hs1 h0 h1) rfl (by first | rfl | assumption | (simp only [*]; done) | omega) (by intro q h; cases h; rfl) rfl (by rfl) (by exact Nat.le_of_ble_eq_true rfl) (fun r h1 hp => ?_)
  obtain ⟨rfl, rfl⟩ := hp
  rw [c_tr_tr, E1.lets, show (100000 : Int) + 1 = 100001 from rfl]
  refine V_aload_n (pc := 17) X dX9_asLead_17 rfl (by first | decide | omega | assumption) ?_
  refine V_gz (pc := 18) X dX9_asLead_18 f_RX9_19 (by first | rfl | assumption | (simp only [*]; done) | omega) 1 rfl (show _ = (3 : Int) from x1) ?_
  refine V_gz (pc := 21) X dX9_asLead_21 f_RX9_58 (by first | rfl | assumption | (simp only [*]; done) | omega) 0 rfl (show _ = (4 : Int) from u30) ?_
  refine V_gz (pc := 24) X dX9_asLead_24 f_RX9_98 (by first | rfl | assumption | (simp only [*]; done) | omega) 2 rfl (show _ = mo from u42) ?_
  refine V_gz (pc := 27) X dX9_asLead_27 f_RX9_135 (by first | rfl | assumption | (simp only [*]; done) | omega) 2 rfl (show _ = h mo 2 from by rw [E2.2.2.2.2.2.1]) ?_
  refine V_iadd (pc := 30) X dX9_asLead_30 ?_
  refine V_iret (st := []) (pc := 31) X hQ dX9_asLead_31 rfl rfl ?_
  exact ⟨rfl, rfl⟩
set_option maxHeartbeats 4000000 in
set_option maxRecDepth 100000 in
theorem ct_X9_mark {h : z_H} (hO : c_Ob h) {pl mo : Int} (hS : c_Sc h pl mo) {w x y : Int} (hw9 : z_R w) (hx : z_R x) (hy : z_R y) : z_Ct mX9_mark 107 [(2, 0), (0, w), (0, x), (0, y)] h (fun r h2 => (¬ (0 ≤ w ∧ w ≤ 5 ∧ ¬ c_paneAt h pl x y = -1) ∧ r = some (0, -1000000) ∧ h2 = h) ∨ ((0 ≤ w ∧ w ≤ 5 ∧ ¬ c_paneAt h pl x y = -1) ∧ r = some (0, c_markF h pl mo w (c_paneAt h pl x y)) ∧ h2 = c_tr h (c_markT w))) := by
  refine z_mk (L := [(2, 0), (0, w), (0, x), (0, y), (9, 0)]) oX9_mark.2.2.2.2 (Nat.le_of_ble_eq_true rfl) rfl ?_
  intro Γ X hQ
  obtain ⟨ob0, ob1, ob2, ob3, ob4, ob5, ob6, ob7, r320⟩ := id hO
  obtain ⟨r30, r31, r42, ⟨kp, rp0, rp1, kp1, kp2, hw, hh, hs, hgl, hpi⟩, ⟨km, rm0, km1, hbr, hmi, hse, hbf⟩⟩ := id hS
  have plq := c_pl_is kp
  have hpa := c_paneAt_rng (h := h) (pl := pl) (x := x) (y := y) hw.2 hh.2
  obtain ⟨hx1, hx2⟩ := hx
  obtain ⟨hy1, hy2⟩ := hy
  obtain ⟨hwa, hwb⟩ := hw9
  refine V_aload_n (pc := 0) X dX9_mark_0 rfl (by first | decide | omega | assumption) ?_
  refine V_gz (pc := 1) X dX9_mark_1 f_RX9_19 (by first | rfl | assumption | (simp only [*]; done) | omega) 1 rfl ob1 ?_
  refine V_iload_n (pc := 4) X dX9_mark_4 rfl ?_
  refine V_iload_n (pc := 5) X dX9_mark_5 rfl ?_
  refine V_FV (pc := 6) X dX9_mark_6 oX5_paneAt l_RX9_87 eX5_paneAt vX5_paneAt ⟨Nat.le_of_ble_eq_true rfl, Nat.le_of_ble_eq_true rfl⟩ ⟨rfl, rfl⟩ ⟨Nat.le_of_ble_eq_true rfl, Nat.le_of_ble_eq_true rfl⟩ (ct_X5_paneAt hS ⟨by omega, by omega⟩ ⟨by omega, by omega⟩) rfl (by first | rfl | assumption | (simp only [*]; done) | omega) (by intro q h; cases h; rfl) rfl (by rfl) (by exact Nat.le_of_ble_eq_true rfl) ?_
  refine V_istore (pc := 9) X dX9_mark_9 (by exact Nat.le_of_ble_eq_true rfl) rfl ?_
  refine V_iload_n (pc := 11) X dX9_mark_11 rfl ?_
  refine V_if_lt (pc := 12) X 26 dX9_mark_12 (by decide) ⟨by omega, by omega⟩ (fun c_12 => ?_) (fun c_12 => ?_)
  · skip
    refine V_ldc (pc := 26) X (-1000000) dX9_mark_26 c_RX9_232 (by decide) ?_
    refine V_iret (st := []) (pc := 28) X hQ dX9_mark_28 rfl rfl ?_
    exact Or.inl ⟨by omega, rfl, rfl⟩
  · skip
    refine V_iload_n (pc := 15) X dX9_mark_15 rfl ?_
    refine V_iconst (pc := 16) X dX9_mark_16 ?_
    refine V_icmp_gt (pc := 17) X 26 dX9_mark_17 (by decide) ⟨by omega, by omega⟩ ⟨by omega, by omega⟩ (fun c_17 => ?_) (fun c_17 => ?_)
    · skip
      refine V_ldc (pc := 26) X (-1000000) dX9_mark_26 c_RX9_232 (by decide) ?_
      refine V_iret (st := []) (pc := 28) X hQ dX9_mark_28 rfl rfl ?_
      exact Or.inl ⟨by omega, rfl, rfl⟩
    · skip
      refine V_iload (pc := 20) X dX9_mark_20 rfl ?_
      refine V_iconst (pc := 22) X dX9_mark_22 ?_
      refine V_icmp_ne (pc := 23) X 29 dX9_mark_23 (by decide) ⟨by omega, by omega⟩ ⟨by omega, by omega⟩ (fun c_23 => ?_) (fun c_23 => ?_)
      · skip
        refine V_iload_n (pc := 29) X dX9_mark_29 rfl ?_
        rcases (show w = 0 ∨ w = 1 ∨ w = 2 ∨ w = 3 ∨ w = 4 ∨ (w < 0 ∨ 4 < w) by omega) with e_sw | e_sw | e_sw | e_sw | e_sw | e_sw
        · skip
          refine V_tswIn (pc := 30) X 64 dX9_mark_30 e_sw ⟨by decide, by decide⟩ (by decide) (by decide) rfl (by decide) ?_
          refine V_aload_n (pc := 64) X dX9_mark_64 rfl (by first | decide | omega | assumption) ?_
          refine V_iload (pc := 65) X dX9_mark_65 rfl ?_
          refine V_CV (pc := 67) X dX9_mark_67 oX9_asPane l_RX9_233 eX9_asPane vX9_asPane ⟨Nat.le_of_ble_eq_true rfl, Nat.le_of_ble_eq_true rfl⟩ ⟨rfl, rfl⟩ ⟨Nat.le_of_ble_eq_true rfl, Nat.le_of_ble_eq_true rfl⟩ (ct_X9_asPane hO hS (by omega) (by omega)) rfl (by first | rfl | assumption | (simp only [*]; done) | omega) (by intro q h; cases h; rfl) rfl (by rfl) (by exact Nat.le_of_ble_eq_true rfl) (fun r h1 hp => ?_)
          obtain ⟨rfl, rfl⟩ := hp
          refine V_iret (st := []) (pc := 70) X hQ dX9_mark_70 rfl rfl ?_
          exact Or.inr ⟨⟨by omega, by omega, by omega⟩, by subst e_sw; rfl, by subst e_sw; rfl⟩
        · skip
          refine V_tswIn (pc := 30) X 71 dX9_mark_30 e_sw ⟨by decide, by decide⟩ (by decide) (by decide) rfl (by decide) ?_
          refine V_aload_n (pc := 71) X dX9_mark_71 rfl (by first | decide | omega | assumption) ?_
          refine V_iload (pc := 72) X dX9_mark_72 rfl ?_
          refine V_CV (pc := 74) X dX9_mark_74 oX9_asSaint l_RX9_236 eX9_asSaint vX9_asSaint ⟨Nat.le_of_ble_eq_true rfl, Nat.le_of_ble_eq_true rfl⟩ ⟨rfl, rfl⟩ ⟨Nat.le_of_ble_eq_true rfl, Nat.le_of_ble_eq_true rfl⟩ (ct_X9_asSaint hO hS (by omega) (by omega)) rfl (by first | rfl | assumption | (simp only [*]; done) | omega) (by intro q h; cases h; rfl) rfl (by rfl) (by exact Nat.le_of_ble_eq_true rfl) (fun r h1 hp => ?_)
          obtain ⟨rfl, rfl⟩ := hp
          refine V_iret (st := []) (pc := 77) X hQ dX9_mark_77 rfl rfl ?_
          exact Or.inr ⟨⟨by omega, by omega, by omega⟩, by subst e_sw; rfl, by subst e_sw; rfl⟩
        · skip
          refine V_tswIn (pc := 30) X 78 dX9_mark_30 e_sw ⟨by decide, by decide⟩ (by decide) (by decide) rfl (by decide) ?_
          refine V_aload_n (pc := 78) X dX9_mark_78 rfl (by first | decide | omega | assumption) ?_
          refine V_iload (pc := 79) X dX9_mark_79 rfl ?_
          refine V_CV (pc := 81) X dX9_mark_81 oX9_asDevil l_RX9_239 eX9_asDevil vX9_asDevil ⟨Nat.le_of_ble_eq_true rfl, Nat.le_of_ble_eq_true rfl⟩ ⟨rfl, rfl⟩ ⟨Nat.le_of_ble_eq_true rfl, Nat.le_of_ble_eq_true rfl⟩ (ct_X9_asDevil hO hS (by omega) (by omega)) rfl (by first | rfl | assumption | (simp only [*]; done) | omega) (by intro q h; cases h; rfl) rfl (by rfl) (by exact Nat.le_of_ble_eq_true rfl) (fun r h1 hp => ?_)
          obtain ⟨rfl, rfl⟩ := hp
          refine V_iret (st := []) (pc := 84) X hQ dX9_mark_84 rfl rfl ?_
          exact Or.inr ⟨⟨by omega, by omega, by omega⟩, by subst e_sw; rfl, by subst e_sw; rfl⟩
        · skip
          refine V_tswIn (pc := 30) X 85 dX9_mark_30 e_sw ⟨by decide, by decide⟩ (by decide) (by decide) rfl (by decide) ?_
          refine V_aload_n (pc := 85) X dX9_mark_85 rfl (by first | decide | omega | assumption) ?_
          refine V_iload (pc := 86) X dX9_mark_86 rfl ?_
          refine V_CV (pc := 88) X dX9_mark_88 oX9_asHalo l_RX9_242 eX9_asHalo vX9_asHalo ⟨Nat.le_of_ble_eq_true rfl, Nat.le_of_ble_eq_true rfl⟩ ⟨rfl, rfl⟩ ⟨Nat.le_of_ble_eq_true rfl, Nat.le_of_ble_eq_true rfl⟩ (ct_X9_asHalo hO hS (by omega) (by omega)) rfl (by first | rfl | assumption | (simp only [*]; done) | omega) (by intro q h; cases h; rfl) rfl (by rfl) (by exact Nat.le_of_ble_eq_true rfl) (fun r h1 hp => ?_)
          obtain ⟨rfl, rfl⟩ := hp
          refine V_iret (st := []) (pc := 91) X hQ dX9_mark_91 rfl rfl ?_
          exact Or.inr ⟨⟨by omega, by omega, by omega⟩, by subst e_sw; rfl, by subst e_sw; rfl⟩
        · skip
          refine V_tswIn (pc := 30) X 92 dX9_mark_30 e_sw ⟨by decide, by decide⟩ (by decide) (by decide) rfl (by decide) ?_
          refine V_aload_n (pc := 92) X dX9_mark_92 rfl (by first | decide | omega | assumption) ?_
          refine V_iload (pc := 93) X dX9_mark_93 rfl ?_
          refine V_CV (pc := 95) X dX9_mark_95 oX9_asTail l_RX9_245 eX9_asTail vX9_asTail ⟨Nat.le_of_ble_eq_true rfl, Nat.le_of_ble_eq_true rfl⟩ ⟨rfl, rfl⟩ ⟨Nat.le_of_ble_eq_true rfl, Nat.le_of_ble_eq_true rfl⟩ (ct_X9_asTail hO hS (by omega) (by omega)) rfl (by first | rfl | assumption | (simp only [*]; done) | omega) (by intro q h; cases h; rfl) rfl (by rfl) (by exact Nat.le_of_ble_eq_true rfl) (fun r h1 hp => ?_)
          obtain ⟨rfl, rfl⟩ := hp
          refine V_iret (st := []) (pc := 98) X hQ dX9_mark_98 rfl rfl ?_
          exact Or.inr ⟨⟨by omega, by omega, by omega⟩, by subst e_sw; rfl, by subst e_sw; rfl⟩
        · skip
          refine V_tswOut (pc := 30) X 99 dX9_mark_30 ⟨by omega, by omega⟩ e_sw (by decide) ?_
          refine V_aload_n (pc := 99) X dX9_mark_99 rfl (by first | decide | omega | assumption) ?_
          refine V_iload (pc := 100) X dX9_mark_100 rfl ?_
          refine V_CV (pc := 102) X dX9_mark_102 oX9_asLead l_RX9_248 eX9_asLead vX9_asLead ⟨Nat.le_of_ble_eq_true rfl, Nat.le_of_ble_eq_true rfl⟩ ⟨rfl, rfl⟩ ⟨Nat.le_of_ble_eq_true rfl, Nat.le_of_ble_eq_true rfl⟩ (ct_X9_asLead hO hS (by omega) (by omega)) rfl (by first | rfl | assumption | (simp only [*]; done) | omega) (by intro q h; cases h; rfl) rfl (by rfl) (by exact Nat.le_of_ble_eq_true rfl) (fun r h1 hp => ?_)
          obtain ⟨rfl, rfl⟩ := hp
          refine V_iret (st := []) (pc := 105) X hQ dX9_mark_105 rfl rfl ?_
          exact Or.inr ⟨⟨by omega, by omega, by omega⟩, by (obtain rfl : w = 5 := by omega); rfl, by (obtain rfl : w = 5 := by omega); rfl⟩
      · skip
        refine V_ldc (pc := 26) X (-1000000) dX9_mark_26 c_RX9_232 (by decide) ?_
        refine V_iret (st := []) (pc := 28) X hQ dX9_mark_28 rfl rfl ?_
        exact Or.inl ⟨by omega, rfl, rfl⟩
set_option maxHeartbeats 4000000 in
set_option maxRecDepth 100000 in
theorem ct_X9_keep {h : z_H} (hO : c_Ob h) {pl mo : Int} (hS : c_Sc h pl mo) (hSt : c_St h 4) (hSi : ∀ i, 0 ≤ i → i < 2 → c_St h (c_img i)) (hMs : c_Ms h) {i : Int} (hi : z_R i) : z_Ct mX9_keep 107 [(2, 0), (0, i)] h (fun r h2 => (¬ (0 ≤ i ∧ i < 2) ∧ r = some (0, -1) ∧ h2 = h) ∨ ((0 ≤ i ∧ i < 2) ∧ r = some (0, z_pop (h mo 1)) ∧ h2 = c_keepH h i)) := by
  refine z_mk (L := [(2, 0), (0, i)]) oX9_keep.2.2.2.2 (Nat.le_of_ble_eq_true rfl) rfl ?_
  intro Γ X hQ
  obtain ⟨ob0, ob1, ob2, ob3, ob4, ob5, ob6, ob7, r320⟩ := id hO
  obtain ⟨r30, r31, r42, ⟨kp, rp0, rp1, kp1, kp2, hw, hh, hs, hgl, hpi⟩, ⟨km, rm0, km1, hbr, hmi, hse, hbf⟩⟩ := id hS
  have hm4 : 6 ≤ mo ∧ mo ≤ 26 := by have a := hSt.2.2.2.1 (h 4 1) hSt.2.2.2.2.2.1.1 (by have := hSt.2.2.2.2.2.1.2; omega); rw [← show h 4 2 = h (4 + 1) (h 4 1) from hSt.2.2.2.2.2.2, r42] at a; omega
  obtain ⟨hi1, hi2⟩ := hi
  refine V_iload_n (pc := 0) X dX9_keep_0 rfl ?_
  refine V_if_lt (pc := 1) X 9 dX9_keep_1 (by decide) ⟨by omega, by omega⟩ (fun c_1 => ?_) (fun c_1 => ?_)
  · skip
    refine V_iconst (pc := 9) X dX9_keep_9 ?_
    refine V_iret (st := []) (pc := 10) X hQ dX9_keep_10 rfl rfl ?_
    exact Or.inl ⟨by omega, rfl, rfl⟩
  · skip
    refine V_iload_n (pc := 4) X dX9_keep_4 rfl ?_
    refine V_iconst (pc := 5) X dX9_keep_5 ?_
    refine V_icmp_lt (pc := 6) X 11 dX9_keep_6 (by decide) ⟨by omega, by omega⟩ ⟨by omega, by omega⟩ (fun c_6 => ?_) (fun c_6 => ?_)
    · skip
      refine V_aload_n (pc := 11) X dX9_keep_11 rfl (by first | decide | omega | assumption) ?_
      refine V_gz (pc := 12) X dX9_keep_12 f_RX9_46 (by first | rfl | assumption | (simp only [*]; done) | omega) 5 rfl ob5 ?_
      refine V_iload_n (pc := 15) X dX9_keep_15 rfl ?_
      have him : h 37 i = c_img i := by
        unfold c_img
        by_cases e : i = 0
        · rw [if_pos e, e]; exact ob6
        · rw [if_neg e, show i = 1 by omega]; exact ob7
      have hi2 := hSi i (by omega) (by omega)
      have hib : c_img i = 41 ∨ c_img i = 65 := by unfold c_img; split <;> omega
      have hki : z_kd 107 (c_img i) = (0, 5) := hi2.1
      refine V_aald4 (pc := 16) X dX9_keep_16 (by first | rfl | assumption | (simp only [*]; done) | omega) (by omega) (by omega) (by decide) him ?_
      refine V_aload_n (pc := 17) X dX9_keep_17 rfl (by first | decide | omega | assumption) ?_
      refine V_gz (pc := 18) X dX9_keep_18 f_RX9_19 (by first | rfl | assumption | (simp only [*]; done) | omega) 1 rfl ob1 ?_
      refine V_gz (pc := 21) X dX9_keep_21 f_RX9_58 (by first | rfl | assumption | (simp only [*]; done) | omega) 0 rfl r30 ?_
      refine V_CV (pc := 24) X dX9_keep_24 oX6_become l_RX9_251 eX6_become vX6_become ⟨Nat.le_of_ble_eq_true rfl, Nat.le_of_ble_eq_true rfl⟩ ⟨rfl, rfl⟩ ⟨Nat.le_of_ble_eq_true rfl, Nat.le_of_ble_eq_true rfl⟩ (ct_X6_become hi2 hSt hMs (by omega)) rfl (by first | rfl | assumption | (simp only [*]; done) | omega) (by intro q h; cases h; rfl) rfl (by rfl) (by exact Nat.le_of_ble_eq_true rfl) (fun r h1 hp => ?_)
      obtain ⟨rfl, rfl⟩ := hp
      refine V_aload_n (pc := 27) X dX9_keep_27 rfl (by first | decide | omega | assumption) ?_
      refine V_dup (pc := 28) X dX9_keep_28 (Nat.ne_of_beq_eq_false rfl) ?_
      refine V_gz (pc := 29) X dX9_keep_29 f_RX9_81 (by first | rfl | assumption | (simp only [*]; done) | omega) 7 rfl (show _ = h 0 7 from by rw [c_sbH_cell hi2 hSt (by omega) (by decide) (by decide)]) ?_
      refine V_iconst (pc := 32) X dX9_keep_32 ?_
      refine V_iload_n (pc := 33) X dX9_keep_33 rfl ?_
      refine V_ishl (pc := 34) X dX9_keep_34 ?_
      refine V_ior (pc := 35) X dX9_keep_35 ?_
      refine V_pz (pc := 36) X dX9_keep_36 f_RX9_81 (by first | rfl | assumption | (simp only [*]; done) | omega) (fun b => z_fitI b _) 7 rfl ?_
      rw [show z_st (c_sbH h (c_img i) 4) 0 7 (z_or (h 0 7) (z_shl 1 i)) = c_keepH h i from rfl]
      refine V_aload_n (pc := 39) X dX9_keep_39 rfl (by first | decide | omega | assumption) ?_
      refine V_gz (pc := 40) X dX9_keep_40 f_RX9_19 (by first | rfl | assumption | (simp only [*]; done) | omega) 1 rfl (show c_keepH h i 0 1 = (3 : Int) from by unfold c_keepH; rw [z_st_slot _ (by decide), c_sbH_cell hi2 hSt (by omega) (by decide) (by decide)]; exact ob1) ?_
      refine V_gz (pc := 43) X dX9_keep_43 f_RX9_58 (by first | rfl | assumption | (simp only [*]; done) | omega) 0 rfl (show c_keepH h i 3 0 = (4 : Int) from by unfold c_keepH; rw [z_st_cell _ (by decide), c_sbH_cell hi2 hSt (by omega) (by decide) (by decide)]; exact r30) ?_
      refine V_gz (pc := 46) X dX9_keep_46 f_RX9_98 (by first | rfl | assumption | (simp only [*]; done) | omega) 2 rfl (show c_keepH h i 4 2 = mo from by unfold c_keepH; rw [z_st_cell _ (by decide), c_sbH_cell hi2 hSt (by omega) (by decide) (by decide)]; exact r42) ?_
      refine V_gz (pc := 49) X dX9_keep_49 f_RX9_132 (by first | rfl | assumption | (simp only [*]; done) | omega) 1 rfl (show c_keepH h i mo 1 = h mo 1 from by unfold c_keepH; rw [z_st_cell _ (z_ne_kd km (show z_kd 107 0 = z_kd 107 0 from rfl) (by decide)), c_sbH_mo hi2 hSt hMs (by omega) (by omega)]) ?_
      refine V_FS (pc := 52) X dX9_keep_52 oJ6_bitCount_0f7a4 l_RX9_127 sJ6_bitCount_0f7a4 ⟨Nat.le_of_ble_eq_true rfl, Nat.le_of_ble_eq_true rfl⟩ ⟨rfl, rfl⟩ ⟨Nat.le_of_ble_eq_true rfl, Nat.le_of_ble_eq_true rfl⟩ (ct_J6_bitCount_0f7a4 (by omega) (by omega)) rfl (by rfl) (by exact Nat.le_of_ble_eq_true rfl) ?_
      refine V_iret (st := []) (pc := 55) X hQ dX9_keep_55 rfl rfl ?_
      exact Or.inr ⟨by omega, rfl, rfl⟩
    · skip
      refine V_iconst (pc := 9) X dX9_keep_9 ?_
      refine V_iret (st := []) (pc := 10) X hQ dX9_keep_10 rfl rfl ?_
      exact Or.inl ⟨by omega, rfl, rfl⟩
set_option maxHeartbeats 4000000 in
set_option maxRecDepth 100000 in
theorem ct_X9_back {h : z_H} (hO : c_Ob h) {pl mo : Int} (hS : c_Sc h pl mo) (hSt : c_St h 4) (hSi : ∀ i, 0 ≤ i → i < 2 → c_St h (c_img i)) (hMs : c_Ms h) (hBr : ∀ m, z_kd 107 m = (0, 1) → 0 ≤ h m 1 ∧ h m 1 < 1048576) {i : Int} (hi : z_R i) : z_Ct mX9_back 107 [(2, 0), (0, i)] h (fun r h2 => (¬ (0 ≤ i ∧ i < 2) ∧ r = some (0, -1) ∧ h2 = h) ∨ ((0 ≤ i ∧ i < 2) ∧ ((z_and (z_shr (h 0 7) i) 1 = 0 ∧ r = some (0, -2) ∧ h2 = h) ∨ (¬ z_and (z_shr (h 0 7) i) 1 = 0 ∧ r = some (0, z_pop (h (h (c_img i + 1) (h (c_img i) 1)) 1)) ∧ h2 = c_sbH h 4 (c_img i))))) := by
  refine z_mk (L := [(2, 0), (0, i)]) oX9_back.2.2.2.2 (Nat.le_of_ble_eq_true rfl) rfl ?_
  intro Γ X hQ
  obtain ⟨ob0, ob1, ob2, ob3, ob4, ob5, ob6, ob7, r320⟩ := id hO
  obtain ⟨r30, r31, r42, ⟨kp, rp0, rp1, kp1, kp2, hw, hh, hs, hgl, hpi⟩, ⟨km, rm0, km1, hbr, hmi, hse, hbf⟩⟩ := id hS
  obtain ⟨hi1, hi2⟩ := hi
  refine V_iload_n (pc := 0) X dX9_back_0 rfl ?_
  refine V_if_lt (pc := 1) X 9 dX9_back_1 (by decide) ⟨by omega, by omega⟩ (fun c_1 => ?_) (fun c_1 => ?_)
  · skip
    refine V_iconst (pc := 9) X dX9_back_9 ?_
    refine V_iret (st := []) (pc := 10) X hQ dX9_back_10 rfl rfl ?_
    exact Or.inl ⟨by omega, rfl, rfl⟩
  · skip
    refine V_iload_n (pc := 4) X dX9_back_4 rfl ?_
    refine V_iconst (pc := 5) X dX9_back_5 ?_
    refine V_icmp_lt (pc := 6) X 11 dX9_back_6 (by decide) ⟨by omega, by omega⟩ ⟨by omega, by omega⟩ (fun c_6 => ?_) (fun c_6 => ?_)
    · skip
      refine V_aload_n (pc := 11) X dX9_back_11 rfl (by first | decide | omega | assumption) ?_
      refine V_gz (pc := 12) X dX9_back_12 f_RX9_81 (by first | rfl | assumption | (simp only [*]; done) | omega) 7 rfl rfl ?_
      refine V_iload_n (pc := 15) X dX9_back_15 rfl ?_
      refine V_ishr (pc := 16) X dX9_back_16 ?_
      refine V_iconst (pc := 17) X dX9_back_17 ?_
      refine V_iand (pc := 18) X dX9_back_18 ?_
      have hkb : 0 ≤ z_and (z_shr (h 0 7) i) 1 ∧ z_and (z_shr (h 0 7) i) 1 ≤ 1 := z_and_mr (z_shr (h 0 7) i) (b := 1) (by decide)
      refine V_if_ne (pc := 19) X 25 dX9_back_19 (by decide) ⟨by omega, by omega⟩ (fun c_19 => ?_) (fun c_19 => ?_)
      · skip
        refine V_aload_n (pc := 25) X dX9_back_25 rfl (by first | decide | omega | assumption) ?_
        refine V_gz (pc := 26) X dX9_back_26 f_RX9_19 (by first | rfl | assumption | (simp only [*]; done) | omega) 1 rfl ob1 ?_
        refine V_gz (pc := 29) X dX9_back_29 f_RX9_58 (by first | rfl | assumption | (simp only [*]; done) | omega) 0 rfl r30 ?_
        refine V_aload_n (pc := 32) X dX9_back_32 rfl (by first | decide | omega | assumption) ?_
        refine V_gz (pc := 33) X dX9_back_33 f_RX9_46 (by first | rfl | assumption | (simp only [*]; done) | omega) 5 rfl ob5 ?_
        refine V_iload_n (pc := 36) X dX9_back_36 rfl ?_
        have him : h 37 i = c_img i := by
          unfold c_img
          by_cases e : i = 0
          · rw [if_pos e, e]; exact ob6
          · rw [if_neg e, show i = 1 by omega]; exact ob7
        have hi2 := hSi i (by omega) (by omega)
        have hib : c_img i = 41 ∨ c_img i = 65 := by unfold c_img; split <;> omega
        have hki : z_kd 107 (c_img i) = (0, 5) := hi2.1
        refine V_aald4 (pc := 37) X dX9_back_37 (by first | rfl | assumption | (simp only [*]; done) | omega) (by omega) (by omega) (by decide) him ?_
        refine V_CV (pc := 38) X dX9_back_38 oX6_become l_RX9_251 eX6_become vX6_become ⟨Nat.le_of_ble_eq_true rfl, Nat.le_of_ble_eq_true rfl⟩ ⟨rfl, rfl⟩ ⟨Nat.le_of_ble_eq_true rfl, Nat.le_of_ble_eq_true rfl⟩ (ct_X6_become hSt hi2 hMs (by omega)) rfl (by first | rfl | assumption | (simp only [*]; done) | omega) (by intro q h; cases h; rfl) rfl (by rfl) (by exact Nat.le_of_ble_eq_true rfl) (fun r h1 hp => ?_)
        obtain ⟨rfl, rfl⟩ := hp
        refine V_aload_n (pc := 41) X dX9_back_41 rfl (by first | decide | omega | assumption) ?_
        refine V_gz (pc := 42) X dX9_back_42 f_RX9_19 (by first | rfl | assumption | (simp only [*]; done) | omega) 1 rfl (show _ = (3 : Int) from by rw [c_sbH_cell hSt hi2 (by decide) (by decide) (by decide)]; exact ob1) ?_
        refine V_gz (pc := 45) X dX9_back_45 f_RX9_58 (by first | rfl | assumption | (simp only [*]; done) | omega) 0 rfl (show _ = (4 : Int) from by rw [c_sbH_cell hSt hi2 (by decide) (by decide) (by decide)]; exact r30) ?_
        refine V_gz (pc := 48) X dX9_back_48 f_RX9_98 (by first | rfl | assumption | (simp only [*]; done) | omega) 2 rfl (show _ = h 5 (h (c_img i) 1) from z_st_at _ 4 2 _) ?_
        have hq1 := hi2.2.2.2.2.2.1
        have hmk : z_kd 107 (h 5 (h (c_img i) 1)) = (0, 1) := (hSt.2.2.2.1 (h (c_img i) 1) hq1.1 (by omega)).1
        have hmg := z_kd_spec hmk (Nat.ne_of_beq_eq_false rfl)
        refine V_gz (pc := 51) X dX9_back_51 f_RX9_132 (by first | rfl | assumption | (simp only [*]; done) | omega) 1 rfl (show _ = h (h (c_img i + 1) (h (c_img i) 1)) 1 from c_sbH_pr hSt hi2 hMs (by omega)) ?_
        have hbb := hBr (h (c_img i + 1) (h (c_img i) 1)) (hi2.2.2.2.1 (h (c_img i) 1) hq1.1 (by omega)).1
        refine V_FS (pc := 54) X dX9_back_54 oJ6_bitCount_0f7a4 l_RX9_127 sJ6_bitCount_0f7a4 ⟨Nat.le_of_ble_eq_true rfl, Nat.le_of_ble_eq_true rfl⟩ ⟨rfl, rfl⟩ ⟨Nat.le_of_ble_eq_true rfl, Nat.le_of_ble_eq_true rfl⟩ (ct_J6_bitCount_0f7a4 (by omega) (by omega)) rfl (by rfl) (by exact Nat.le_of_ble_eq_true rfl) ?_
        refine V_iret (st := []) (pc := 57) X hQ dX9_back_57 rfl rfl ?_
        exact Or.inr ⟨⟨by omega, by omega⟩, Or.inr ⟨c_19, rfl, rfl⟩⟩
      · skip
        refine V_bipush (pc := 22) X dX9_back_22 (by decide) ?_
        refine V_iret (st := []) (pc := 24) X hQ dX9_back_24 rfl rfl ?_
        exact Or.inr ⟨⟨by omega, by omega⟩, Or.inl ⟨c_19, rfl, rfl⟩⟩
    · skip
      refine V_iconst (pc := 9) X dX9_back_9 ?_
      refine V_iret (st := []) (pc := 10) X hQ dX9_back_10 rfl rfl ?_
      exact Or.inl ⟨by omega, rfl, rfl⟩
set_option maxHeartbeats 4000000 in
set_option maxRecDepth 100000 in
theorem ct_X9_window {h : z_H} (hO : c_Ob h) {T : Int → Int} {N : Int} (hR : c_Rd h T N) {pl dr : Int} (hs4 : h 3 0 = 4) (hpl : h 3 1 = pl) (kp : z_kd 107 pl = (0, 2)) (hdr : h 0 6 = dr) (hD : c_Pl h dr) (hSt : c_St h 4) (hMs : c_Ms h) (hv : 0 ≤ h 1 5 ∧ h 1 5 ≤ 999) : z_Ct mX9_window 107 [(2, 0)] h (fun r h2 => ((c_rdF h T N dr).1 < 0 ∧ r = some (0, (c_rdF h T N dr).1) ∧ h2 = (c_tk (c_rdF h T N dr).2.1 (c_rdF h T N dr).2.2)) ∨ (0 ≤ (c_rdF h T N dr).1 ∧ r = some (0, (c_rdF h T N dr).1) ∧ h2 = c_winH (c_tk (c_rdF h T N dr).2.1 (c_rdF h T N dr).2.2) pl dr (h 5 0))) := by
  refine z_mk (L := [(2, 0), (9, 0), (9, 0)]) oX9_window.2.2.2.2 (Nat.le_of_ble_eq_true rfl) rfl ?_
  intro Γ X hQ
  obtain ⟨ob0, ob1, ob2, ob3, ob4, ob5, ob6, ob7, r320⟩ := id hO
  obtain ⟨r10, r11, r2, hN, hT⟩ := id hR
  obtain ⟨kd, rd0, rd1, kd1, kd2, dw, dh, ds, dgl, dpi⟩ := id hD
  obtain ⟨kk, rk0, kk1, hmm, hinj, hp4, hpr⟩ := id hSt
  obtain ⟨w1, w2, w3, w4, w5⟩ := c_rdF_ok hR hD hv
  have drq := c_pl_is kd
  have plq := c_pl_is kp
  have wo : c_Out h (c_tk (c_rdF h T N dr).2.1 (c_rdF h T N dr).2.2) dr := w3.tk
  have o0 : (c_tk (c_rdF h T N dr).2.1 (c_rdF h T N dr).2.2) 0 = h 0 := wo.1 0 (by decide) (by omega) (by omega) (by omega)
  have o3 : (c_tk (c_rdF h T N dr).2.1 (c_rdF h T N dr).2.2) 3 = h 3 := wo.1 3 (by decide) (by omega) (by omega) (by omega)
  have o4 : (c_tk (c_rdF h T N dr).2.1 (c_rdF h T N dr).2.2) 4 = h 4 := wo.1 4 (by decide) (by omega) (by omega) (by omega)
  have o5 : (c_tk (c_rdF h T N dr).2.1 (c_rdF h T N dr).2.2) 5 = h 5 := wo.1 5 (by decide) (by omega) (by omega) (by omega)
  have m0 := hmm 0 (by decide) (by decide)
  have m0k : z_kd 107 (h 5 0) = (0, 1) := m0.1
  have m0b : 6 ≤ h 5 0 ∧ h 5 0 ≤ 26 := ⟨m0.2.1, m0.2.2⟩
  have om : (c_tk (c_rdF h T N dr).2.1 (c_rdF h T N dr).2.2) (h 5 0) = h (h 5 0) := wo.1 _ (by omega) (by omega) (by omega) (by omega)
  refine V_aload_n (pc := 0) X dX9_window_0 rfl (by first | decide | omega | assumption) ?_
  refine V_gz (pc := 1) X dX9_window_1 f_RX9_12 (by first | rfl | assumption | (simp only [*]; done) | omega) 0 rfl ob0 ?_
  refine V_aload_n (pc := 4) X dX9_window_4 rfl (by first | decide | omega | assumption) ?_
  refine V_gz (pc := 5) X dX9_window_5 f_RX9_53 (by first | rfl | assumption | (simp only [*]; done) | omega) 6 rfl hdr ?_
  refine V_CV (pc := 8) X dX9_window_8 oX4_readInto l_RX9_77 eX4_readInto vX4_readInto ⟨Nat.le_of_ble_eq_true rfl, Nat.le_of_ble_eq_true rfl⟩ ⟨rfl, rfl⟩ ⟨Nat.le_of_ble_eq_true rfl, Nat.le_of_ble_eq_true rfl⟩ (ct_X4_readInto hR kd rd0 rd1 kd1 kd2 dpi hv) rfl (by first | rfl | assumption | (simp only [*]; done) | omega) (by intro q h; cases h; rfl) rfl (by rfl) (by exact Nat.le_of_ble_eq_true rfl) (fun r h1 hp => ?_)
  obtain ⟨rfl, rfl⟩ := hp
  rw [show c_rdL T N dr 171 (c_rd0 h dr) (t_tok T N 0 (h 1 5)) 0 = c_rdF h T N dr from rfl]
  refine V_istore_n (pc := 11) X dX9_window_11 (by exact Nat.le_of_ble_eq_true rfl) rfl ?_
  refine V_iload_n (pc := 12) X dX9_window_12 rfl ?_
  refine V_if_ge (pc := 13) X 18 dX9_window_13 (by decide) ⟨by omega, by omega⟩ (fun c_13 => ?_) (fun c_13 => ?_)
  · skip
    refine V_aload_n (pc := 18) X dX9_window_18 rfl (by first | decide | omega | assumption) ?_
    refine V_gz (pc := 19) X dX9_window_19 f_RX9_19 (by first | rfl | assumption | (simp only [*]; done) | omega) 1 rfl (show _ = (3 : Int) from by rw [o0]; exact ob1) ?_
    refine V_gz (pc := 22) X dX9_window_22 f_RX9_62 (by first | rfl | assumption | (simp only [*]; done) | omega) 1 rfl (show _ = pl from by rw [o3]; exact hpl) ?_
    refine V_astore_n (pc := 25) X dX9_window_25 (by exact Nat.le_of_ble_eq_true rfl) rfl (by first | decide | omega | assumption) ?_
    refine V_aload_n (pc := 26) X dX9_window_26 rfl (by first | decide | omega | assumption) ?_
    refine V_gz (pc := 27) X dX9_window_27 f_RX9_19 (by first | rfl | assumption | (simp only [*]; done) | omega) 1 rfl (show _ = (3 : Int) from by rw [o0]; exact ob1) ?_
    refine V_aload_n (pc := 30) X dX9_window_30 rfl (by first | decide | omega | assumption) ?_
    refine V_gz (pc := 31) X dX9_window_31 f_RX9_53 (by first | rfl | assumption | (simp only [*]; done) | omega) 6 rfl (show _ = dr from by rw [o0]; exact hdr) ?_
    refine V_pz (pc := 34) X dX9_window_34 f_RX9_62 (by first | rfl | assumption | (simp only [*]; done) | omega) (fun b => z_fitR b _ rfl) 1 rfl ?_
    refine V_aload_n (pc := 37) X dX9_window_37 rfl (by first | decide | omega | assumption) ?_
    refine V_aload_n (pc := 38) X dX9_window_38 rfl (by first | decide | omega | assumption) ?_
    refine V_pz (pc := 39) X dX9_window_39 f_RX9_53 (by first | rfl | assumption | (simp only [*]; done) | omega) (fun b => z_fitR b _ rfl) 6 rfl ?_
    refine V_aload_n (pc := 42) X dX9_window_42 rfl (by first | decide | omega | assumption) ?_
    refine V_gz (pc := 43) X dX9_window_43 f_RX9_19 (by first | rfl | assumption | (simp only [*]; done) | omega) 1 rfl (show _ = (3 : Int) from by rw [z_st_slot _ (by decide), z_st_cell _ (by decide), o0]; exact ob1) ?_
    refine V_gz (pc := 46) X dX9_window_46 f_RX9_58 (by first | rfl | assumption | (simp only [*]; done) | omega) 0 rfl (show _ = (4 : Int) from by rw [z_st_cell _ (by decide), z_st_slot _ (by decide), o3]; exact hs4) ?_
    refine V_aload_n (pc := 49) X dX9_window_49 rfl (by first | decide | omega | assumption) ?_
    refine V_gz (pc := 50) X dX9_window_50 f_RX9_19 (by first | rfl | assumption | (simp only [*]; done) | omega) 1 rfl (show _ = (3 : Int) from by rw [z_st_slot _ (by decide), z_st_cell _ (by decide), o0]; exact ob1) ?_
    refine V_gz (pc := 53) X dX9_window_53 f_RX9_62 (by first | rfl | assumption | (simp only [*]; done) | omega) 1 rfl (show _ = dr from by rw [z_st_cell _ (by decide), z_st_at]) ?_
    refine V_CV (pc := 56) X dX9_window_56 oX6_restart l_RX9_65 eX6_restart vX6_restart ⟨Nat.le_of_ble_eq_true rfl, Nat.le_of_ble_eq_true rfl⟩ ⟨rfl, rfl⟩ ⟨Nat.le_of_ble_eq_true rfl, Nat.le_of_ble_eq_true rfl⟩ (ct_X6_restart (m := h 5 0) (P := dr) kk (by rw [z_st_cell _ (by decide), z_st_cell _ (by decide), o4]; exact rk0) kk1 (by show z_st (z_st _ 3 1 dr) 0 6 pl 5 0 = h 5 0; rw [z_st_cell _ (by decide), z_st_cell _ (by decide), o5]) m0k (by rw [z_st_cell _ (by omega), z_st_cell _ (by omega), om]; exact hMs _ m0k) (z_mo_row m0k) kd) rfl (by first | rfl | assumption | (simp only [*]; done) | omega) (by intro q h; cases h; rfl) rfl (by rfl) (by exact Nat.le_of_ble_eq_true rfl) (fun r h1 hp => ?_)
    obtain ⟨rfl, rfl⟩ := hp
    refine V_aload_n (pc := 59) X dX9_window_59 rfl (by first | decide | omega | assumption) ?_
    refine V_iconst (pc := 60) X dX9_window_60 ?_
    refine V_pz (pc := 61) X dX9_window_61 f_RX9_81 (by first | rfl | assumption | (simp only [*]; done) | omega) (fun b => z_fitI b _) 7 rfl ?_
    refine V_aload_n (pc := 64) X dX9_window_64 rfl (by first | decide | omega | assumption) ?_
    refine V_gz (pc := 65) X dX9_window_65 f_RX9_40 (by first | rfl | assumption | (simp only [*]; done) | omega) 4 rfl (show _ = (34 : Int) from by rw [z_st_slot _ (by decide), c_srs_cell (by decide) (by omega) (by omega), z_st_slot _ (by decide), z_st_cell _ (by decide), o0]; exact ob4) ?_
    refine V_iconst (pc := 68) X dX9_window_68 ?_
    refine V_pz (pc := 69) X dX9_window_69 f_RX9_84 (by first | rfl | assumption | (simp only [*]; done) | omega) (fun b => z_fitI b _) 2 rfl ?_
    refine V_aload_n (pc := 72) X dX9_window_72 rfl (by first | decide | omega | assumption) ?_
    refine V_gz (pc := 73) X dX9_window_73 f_RX9_12 (by first | rfl | assumption | (simp only [*]; done) | omega) 0 rfl (show _ = (1 : Int) from by rw [z_st_cell _ (by decide), z_st_slot _ (by decide), c_srs_cell (by decide) (by omega) (by omega), z_st_slot _ (by decide), z_st_cell _ (by decide), o0]; exact ob0) ?_
    refine V_iconst (pc := 76) X dX9_window_76 ?_
    refine V_pz (pc := 77) X dX9_window_77 f_RX9_73 (by first | rfl | assumption | (simp only [*]; done) | omega) (fun b => z_fitI b _) 1 rfl ?_
    refine V_iload_n (pc := 80) X dX9_window_80 rfl ?_
    refine V_iret (st := []) (pc := 81) X hQ dX9_window_81 rfl rfl ?_
    exact Or.inr ⟨c_13, rfl, rfl⟩
  · skip
    refine V_iload_n (pc := 16) X dX9_window_16 rfl ?_
    refine V_iret (st := []) (pc := 17) X hQ dX9_window_17 rfl rfl ?_
    exact Or.inl ⟨Int.not_le.mp c_13, rfl, rfl⟩
