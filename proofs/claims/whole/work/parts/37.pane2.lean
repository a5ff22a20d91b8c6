/-! PaneLight, 2: what is done -/
set_option maxHeartbeats 4000000 in
set_option maxRecDepth 100000 in
theorem ct_X9_lays {h : z_H} (hO : c_Ob h) {pl mo : Int} (hS : c_Sc h pl mo) (hSt : c_St h 4) (hMs : c_Ms h) {s x y : Int} (hs : z_R s) (hx : z_R x) (hy : z_R y) : z_Ct mX9_lays 107 [(2, 0), (0, s), (0, x), (0, y)] h (fun r h2 => ((c_isSh h pl s = false ∨ c_paneAt h pl x y = -1) ∧ r = some (0, -1) ∧ h2 = h) ∨ (c_isSh h pl s = true ∧ ¬ c_paneAt h pl x y = -1 ∧ (¬ c_behind h mo s = -9 ∨ c_room h mo (c_paneAt h pl x y) = 0) ∧ r = some (0, -2) ∧ h2 = h) ∨ (c_isSh h pl s = true ∧ ¬ c_paneAt h pl x y = -1 ∧ c_behind h mo s = -9 ∧ ¬ c_room h mo (c_paneAt h pl x y) = 0 ∧ r = some (0, c_lets (c_layH h s (c_paneAt h pl x y)) pl (c_advR h 4) (c_paneAt h pl x y)) ∧ h2 = c_layH h s (c_paneAt h pl x y))) := by
  refine z_mk (L := [(2, 0), (0, s), (0, x), (0, y), (9, 0)]) oX9_lays.2.2.2.2 (Nat.le_of_ble_eq_true rfl) rfl ?_
  intro Γ X hQ
  obtain ⟨ob0, ob1, ob2, ob3, ob4, ob5, ob6, ob7, r320⟩ := id hO
  obtain ⟨r30, r31, r42, ⟨kp, rp0, rp1, kp1, kp2, hw, hh, hs, hgl, hpi⟩, ⟨km, rm0, km1, hbr, hmi, hse, hbf⟩⟩ := id hS
  have plq := c_pl_is kp
  have hpa := c_paneAt_rng (h := h) (pl := pl) (x := x) (y := y) hw.2 hh.2
  obtain ⟨s1, s2, s3, s4, s5, s6, s7, s8⟩ := c_adv_spec hSt hMs
  have hSA := c_adv_sc hS hSt hMs
  have A0 := (z_kd_spec s8.1 (Nat.ne_of_beq_eq_false rfl)).1
  have kA1 := z_mo_row s8.1
  have rA0 := s2 _ s8.1
  obtain ⟨a30, a31, a42, -, -, -, aw, abr, ami, ase, abf⟩ := id hSA
  have o0 : c_advH h 4 0 = h 0 := s7 0 (by decide) (by decide) (by omega) (by omega)
  have oA1 : c_advH h 4 0 1 = 3 := by rw [o0]; exact ob1
  obtain ⟨hx1, hx2⟩ := hx
  obtain ⟨hy1, hy2⟩ := hy
  obtain ⟨hsa, hsb9⟩ := ‹z_R s›
  refine V_aload_n (pc := 0) X dX9_lays_0 rfl (by first | decide | omega | assumption) ?_
  refine V_gz (pc := 1) X dX9_lays_1 f_RX9_19 (by first | rfl | assumption | (simp only [*]; done) | omega) 1 rfl ob1 ?_
  refine V_iload_n (pc := 4) X dX9_lays_4 rfl ?_
  refine V_iload_n (pc := 5) X dX9_lays_5 rfl ?_
  refine V_FV (pc := 6) X dX9_lays_6 oX5_paneAt l_RX9_87 eX5_paneAt vX5_paneAt ⟨Nat.le_of_ble_eq_true rfl, Nat.le_of_ble_eq_true rfl⟩ ⟨rfl, rfl⟩ ⟨Nat.le_of_ble_eq_true rfl, Nat.le_of_ble_eq_true rfl⟩ (ct_X5_paneAt hS ⟨by omega, by omega⟩ ⟨by omega, by omega⟩) rfl (by first | rfl | assumption | (simp only [*]; done) | omega) (by intro q h; cases h; rfl) rfl (by rfl) (by exact Nat.le_of_ble_eq_true rfl) ?_
  refine V_istore (pc := 9) X dX9_lays_9 (by exact Nat.le_of_ble_eq_true rfl) rfl ?_
  refine V_aload_n (pc := 11) X dX9_lays_11 rfl (by first | decide | omega | assumption) ?_
  refine V_iload_n (pc := 12) X dX9_lays_12 rfl ?_
  refine V_FV (pc := 13) X dX9_lays_13 oX9_isSheet l_RX9_111 eX9_isSheet vX9_isSheet ⟨Nat.le_of_ble_eq_true rfl, Nat.le_of_ble_eq_true rfl⟩ ⟨rfl, rfl⟩ ⟨Nat.le_of_ble_eq_true rfl, Nat.le_of_ble_eq_true rfl⟩ (ct_X9_isSheet hO hS ⟨by omega, by omega⟩) rfl (by first | rfl | assumption | (simp only [*]; done) | omega) (by intro q h; cases h; rfl) rfl (by rfl) (by exact Nat.le_of_ble_eq_true rfl) ?_
  refine V_bif_eq (pc := 16) X 25 dX9_lays_16 (by decide)  (fun c_16 => ?_) (fun c_16 => ?_)
  · skip
    refine V_iconst (pc := 25) X dX9_lays_25 ?_
    refine V_iret (st := []) (pc := 26) X hQ dX9_lays_26 rfl rfl ?_
    exact Or.inl ⟨by first | exact Or.inl c_16 | exact Or.inr c_22, rfl, rfl⟩
  · skip
    have hsb : 0 ≤ s ∧ s < h pl 4 := of_decide_eq_true c_16
    refine V_iload (pc := 19) X dX9_lays_19 rfl ?_
    refine V_iconst (pc := 21) X dX9_lays_21 ?_
    refine V_icmp_ne (pc := 22) X 27 dX9_lays_22 (by decide) ⟨by omega, by omega⟩ ⟨by omega, by omega⟩ (fun c_22 => ?_) (fun c_22 => ?_)
    · skip
      have hbe := z_find_spec (fun p => tb (h (mo + 1) p) s) 20
      have hbf2 : z_find (fun p => tb (h (mo + 1) p) s) 20 = c_behind h mo s := rfl
      have hrm := c_room_rng h mo (c_paneAt h pl x y)
      refine V_aload_n (pc := 27) X dX9_lays_27 rfl (by first | decide | omega | assumption) ?_
      refine V_gz (pc := 28) X dX9_lays_28 f_RX9_19 (by first | rfl | assumption | (simp only [*]; done) | omega) 1 rfl ob1 ?_
      refine V_iload_n (pc := 31) X dX9_lays_31 rfl ?_
      refine V_FV (pc := 32) X dX9_lays_32 oX5_paneBehind l_RX9_117 eX5_paneBehind vX5_paneBehind ⟨Nat.le_of_ble_eq_true rfl, Nat.le_of_ble_eq_true rfl⟩ ⟨rfl, rfl⟩ ⟨Nat.le_of_ble_eq_true rfl, Nat.le_of_ble_eq_true rfl⟩ (ct_X5_paneBehind hS (by omega) (by omega)) rfl (by first | rfl | assumption | (simp only [*]; done) | omega) (by intro q h; cases h; rfl) rfl (by rfl) (by exact Nat.le_of_ble_eq_true rfl) ?_
      refine V_bipush (pc := 35) X dX9_lays_35 (by decide) ?_
      refine V_icmp_ne (pc := 37) X 52 dX9_lays_37 (by decide) ⟨by omega, by omega⟩ ⟨by omega, by omega⟩ (fun c_37 => ?_) (fun c_37 => ?_)
      · skip
        refine V_bipush (pc := 52) X dX9_lays_52 (by decide) ?_
        refine V_iret (st := []) (pc := 54) X hQ dX9_lays_54 rfl rfl ?_
        exact Or.inr (Or.inl ⟨c_16, c_22, by first | exact Or.inl c_37 | exact Or.inr c_49, rfl, rfl⟩)
      · skip
        refine V_aload_n (pc := 40) X dX9_lays_40 rfl (by first | decide | omega | assumption) ?_
        refine V_gz (pc := 41) X dX9_lays_41 f_RX9_19 (by first | rfl | assumption | (simp only [*]; done) | omega) 1 rfl ob1 ?_
        refine V_iload (pc := 44) X dX9_lays_44 rfl ?_
        refine V_FV (pc := 46) X dX9_lays_46 oX5_roomBefore l_RX9_120 eX5_roomBefore vX5_roomBefore ⟨Nat.le_of_ble_eq_true rfl, Nat.le_of_ble_eq_true rfl⟩ ⟨rfl, rfl⟩ ⟨Nat.le_of_ble_eq_true rfl, Nat.le_of_ble_eq_true rfl⟩ (ct_X5_roomBefore hS (by omega) (by omega)) rfl (by first | rfl | assumption | (simp only [*]; done) | omega) (by intro q h; cases h; rfl) rfl (by rfl) (by exact Nat.le_of_ble_eq_true rfl) ?_
        refine V_if_ne (pc := 49) X 55 dX9_lays_49 (by decide) ⟨by omega, by omega⟩ (fun c_49 => ?_) (fun c_49 => ?_)
        · skip
          refine V_aload_n (pc := 55) X dX9_lays_55 rfl (by first | decide | omega | assumption) ?_
          refine V_gz (pc := 56) X dX9_lays_56 f_RX9_19 (by first | rfl | assumption | (simp only [*]; done) | omega) 1 rfl ob1 ?_
          refine V_gz (pc := 59) X dX9_lays_59 f_RX9_58 (by first | rfl | assumption | (simp only [*]; done) | omega) 0 rfl r30 ?_
          refine V_CV (pc := 62) X dX9_lays_62 oX6_advance l_RX9_123 eX6_advance vX6_advance ⟨Nat.le_of_ble_eq_true rfl, Nat.le_of_ble_eq_true rfl⟩ ⟨rfl, rfl⟩ ⟨Nat.le_of_ble_eq_true rfl, Nat.le_of_ble_eq_true rfl⟩ (ct_X6_advance hSt hMs) rfl (by first | rfl | assumption | (simp only [*]; done) | omega) (by intro q h; cases h; rfl) rfl (by rfl) (by exact Nat.le_of_ble_eq_true rfl) (fun r h1 hp => ?_)
          obtain ⟨rfl, rfl⟩ := hp
          refine V_gz (pc := 65) X dX9_lays_65 f_RX9_102 (by first | rfl | assumption | (simp only [*]; done) | omega) 0 rfl rA0 ?_
          refine V_iload (pc := 68) X dX9_lays_68 rfl ?_
          refine V_dup2 (pc := 70) X dX9_lays_70 (Nat.ne_of_beq_eq_false rfl) (Nat.ne_of_beq_eq_false rfl) ?_
          have hbA := abf (c_paneAt h pl x y) (by omega) (by omega)
          refine V_iald (pc := 71) X dX9_lays_71 (by first | rfl | assumption | (simp only [*]; done) | omega) (by omega) (by omega) (by decide) ?_
          refine V_iconst (pc := 72) X dX9_lays_72 ?_
          refine V_iload_n (pc := 73) X dX9_lays_73 rfl ?_
          refine V_ishl (pc := 74) X dX9_lays_74 ?_
          refine V_ior (pc := 75) X dX9_lays_75 ?_
          refine V_iast (pc := 76) X dX9_lays_76 (by first | rfl | assumption | (simp only [*]; done) | omega) (by omega) (by omega) (by decide) ?_
          rw [show z_st (c_advH h 4) (c_advR h 4 + 1) (c_paneAt h pl x y) (z_or (c_advH h 4 (c_advR h 4 + 1) (c_paneAt h pl x y)) (z_shl 1 s)) = c_layH h s (c_paneAt h pl x y) from rfl]
          have hor := z_or_256 (s := s) hbA.1 hbA.2 (by omega) (by omega)
          have hSL : c_Sc (c_layH h s (c_paneAt h pl x y)) pl (c_advR h 4) := c_Sc_row hSA hor (by omega)
          refine V_aload_n (pc := 77) X dX9_lays_77 rfl (by first | decide | omega | assumption) ?_
          refine V_gz (pc := 78) X dX9_lays_78 f_RX9_19 (by first | rfl | assumption | (simp only [*]; done) | omega) 1 rfl (show _ = (3 : Int) from by show z_st (c_advH h 4) (c_advR h 4 + 1) (c_paneAt h pl x y) _ 0 1 = 3; rw [z_st_cell _ (by omega)]; exact oA1) ?_
          refine V_iload (pc := 81) X dX9_lays_81 rfl ?_
          refine V_FV (pc := 83) X dX9_lays_83 oX5_letsThrough l_RX9_107 eX5_letsThrough vX5_letsThrough ⟨Nat.le_of_ble_eq_true rfl, Nat.le_of_ble_eq_true rfl⟩ ⟨rfl, rfl⟩ ⟨Nat.le_of_ble_eq_true rfl, Nat.le_of_ble_eq_true rfl⟩ (ct_X5_letsThrough hSL (by omega) (by omega)) rfl (by first | rfl | assumption | (simp only [*]; done) | omega) (by intro q h; cases h; rfl) rfl (by rfl) (by exact Nat.le_of_ble_eq_true rfl) ?_
          refine V_iret (st := []) (pc := 86) X hQ dX9_lays_86 rfl rfl ?_
          exact Or.inr (Or.inr ⟨c_16, c_22, c_37, c_49, rfl, rfl⟩)
        · skip
          refine V_bipush (pc := 52) X dX9_lays_52 (by decide) ?_
          refine V_iret (st := []) (pc := 54) X hQ dX9_lays_54 rfl rfl ?_
          exact Or.inr (Or.inl ⟨c_16, c_22, by first | exact Or.inl c_37 | exact Or.inr c_49, rfl, rfl⟩)
    · skip
      refine V_iconst (pc := 25) X dX9_lays_25 ?_
      refine V_iret (st := []) (pc := 26) X hQ dX9_lays_26 rfl rfl ?_
      exact Or.inl ⟨by first | exact Or.inl c_16 | exact Or.inr c_22, rfl, rfl⟩
set_option maxHeartbeats 4000000 in
set_option maxRecDepth 100000 in
theorem ct_X9_takes {h : z_H} (hO : c_Ob h) {pl mo : Int} (hS : c_Sc h pl mo) (hSt : c_St h 4) (hMs : c_Ms h) {s : Int} (hs : z_R s) : z_Ct mX9_takes 107 [(2, 0), (0, s)] h (fun r h2 => (c_isSh h pl s = false ∧ r = some (0, -1) ∧ h2 = h) ∨ (c_isSh h pl s = true ∧ c_behind h mo s = -9 ∧ r = some (0, -2) ∧ h2 = h) ∨ (c_isSh h pl s = true ∧ ¬ c_behind h mo s = -9 ∧ r = some (0, c_behind h mo s) ∧ h2 = c_takH h s (c_behind h mo s))) := by
  refine z_mk (L := [(2, 0), (0, s), (9, 0)]) oX9_takes.2.2.2.2 (Nat.le_of_ble_eq_true rfl) rfl ?_
  intro Γ X hQ
  obtain ⟨ob0, ob1, ob2, ob3, ob4, ob5, ob6, ob7, r320⟩ := id hO
  obtain ⟨r30, r31, r42, ⟨kp, rp0, rp1, kp1, kp2, hw, hh, hs, hgl, hpi⟩, ⟨km, rm0, km1, hbr, hmi, hse, hbf⟩⟩ := id hS
  have plq := c_pl_is kp
  obtain ⟨s1, s2, s3, s4, s5, s6, s7, s8⟩ := c_adv_spec hSt hMs
  have hSA := c_adv_sc hS hSt hMs
  have A0 := (z_kd_spec s8.1 (Nat.ne_of_beq_eq_false rfl)).1
  have kA1 := z_mo_row s8.1
  have rA0 := s2 _ s8.1
  obtain ⟨a30, a31, a42, -, -, -, aw, abr, ami, ase, abf⟩ := id hSA
  have o0 : c_advH h 4 0 = h 0 := s7 0 (by decide) (by decide) (by omega) (by omega)
  have oA1 : c_advH h 4 0 1 = 3 := by rw [o0]; exact ob1
  obtain ⟨hsa, hsb9⟩ := ‹z_R s›
  refine V_aload_n (pc := 0) X dX9_takes_0 rfl (by first | decide | omega | assumption) ?_
  refine V_iload_n (pc := 1) X dX9_takes_1 rfl ?_
  refine V_FV (pc := 2) X dX9_takes_2 oX9_isSheet l_RX9_111 eX9_isSheet vX9_isSheet ⟨Nat.le_of_ble_eq_true rfl, Nat.le_of_ble_eq_true rfl⟩ ⟨rfl, rfl⟩ ⟨Nat.le_of_ble_eq_true rfl, Nat.le_of_ble_eq_true rfl⟩ (ct_X9_isSheet hO hS ⟨by omega, by omega⟩) rfl (by first | rfl | assumption | (simp only [*]; done) | omega) (by intro q h; cases h; rfl) rfl (by rfl) (by exact Nat.le_of_ble_eq_true rfl) ?_
  refine V_bif_ne (pc := 5) X 10 dX9_takes_5 (by decide)  (fun c_5 => ?_) (fun c_5 => ?_)
  · skip
    have hsb : 0 ≤ s ∧ s < h pl 4 := of_decide_eq_true c_5
    have hbe : (c_behind h mo s = -9 ∧ ∀ k : Int, 0 ≤ k → k < (20 : Nat) → tb (h (mo + 1) k) s = false) ∨ (0 ≤ c_behind h mo s ∧ c_behind h mo s < (20 : Nat) ∧ tb (h (mo + 1) (c_behind h mo s)) s = true ∧ ∀ k : Int, 0 ≤ k → k < c_behind h mo s → tb (h (mo + 1) k) s = false) := z_find_spec (fun p => tb (h (mo + 1) p) s) 20
    refine V_aload_n (pc := 10) X dX9_takes_10 rfl (by first | decide | omega | assumption) ?_
    refine V_gz (pc := 11) X dX9_takes_11 f_RX9_19 (by first | rfl | assumption | (simp only [*]; done) | omega) 1 rfl ob1 ?_
    refine V_iload_n (pc := 14) X dX9_takes_14 rfl ?_
    refine V_FV (pc := 15) X dX9_takes_15 oX5_paneBehind l_RX9_117 eX5_paneBehind vX5_paneBehind ⟨Nat.le_of_ble_eq_true rfl, Nat.le_of_ble_eq_true rfl⟩ ⟨rfl, rfl⟩ ⟨Nat.le_of_ble_eq_true rfl, Nat.le_of_ble_eq_true rfl⟩ (ct_X5_paneBehind hS (by omega) (by omega)) rfl (by first | rfl | assumption | (simp only [*]; done) | omega) (by intro q h; cases h; rfl) rfl (by rfl) (by exact Nat.le_of_ble_eq_true rfl) ?_
    refine V_istore_n (pc := 18) X dX9_takes_18 (by exact Nat.le_of_ble_eq_true rfl) rfl ?_
    refine V_iload_n (pc := 19) X dX9_takes_19 rfl ?_
    refine V_bipush (pc := 20) X dX9_takes_20 (by decide) ?_
    refine V_icmp_ne (pc := 22) X 28 dX9_takes_22 (by decide) ⟨by omega, by omega⟩ ⟨by omega, by omega⟩ (fun c_22 => ?_) (fun c_22 => ?_)
    · skip
      refine V_aload_n (pc := 28) X dX9_takes_28 rfl (by first | decide | omega | assumption) ?_
      refine V_gz (pc := 29) X dX9_takes_29 f_RX9_19 (by first | rfl | assumption | (simp only [*]; done) | omega) 1 rfl ob1 ?_
      refine V_gz (pc := 32) X dX9_takes_32 f_RX9_58 (by first | rfl | assumption | (simp only [*]; done) | omega) 0 rfl r30 ?_
      refine V_CV (pc := 35) X dX9_takes_35 oX6_advance l_RX9_123 eX6_advance vX6_advance ⟨Nat.le_of_ble_eq_true rfl, Nat.le_of_ble_eq_true rfl⟩ ⟨rfl, rfl⟩ ⟨Nat.le_of_ble_eq_true rfl, Nat.le_of_ble_eq_true rfl⟩ (ct_X6_advance hSt hMs) rfl (by first | rfl | assumption | (simp only [*]; done) | omega) (by intro q h; cases h; rfl) rfl (by rfl) (by exact Nat.le_of_ble_eq_true rfl) (fun r h1 hp => ?_)
      obtain ⟨rfl, rfl⟩ := hp
      refine V_gz (pc := 38) X dX9_takes_38 f_RX9_102 (by first | rfl | assumption | (simp only [*]; done) | omega) 0 rfl rA0 ?_
      refine V_iload_n (pc := 41) X dX9_takes_41 rfl ?_
      refine V_dup2 (pc := 42) X dX9_takes_42 (Nat.ne_of_beq_eq_false rfl) (Nat.ne_of_beq_eq_false rfl) ?_
      have hbA := abf (c_behind h mo s) (by omega) (by omega)
      refine V_iald (pc := 43) X dX9_takes_43 (by first | rfl | assumption | (simp only [*]; done) | omega) (by omega) (by omega) (by decide) ?_
      refine V_iconst (pc := 44) X dX9_takes_44 ?_
      refine V_iload_n (pc := 45) X dX9_takes_45 rfl ?_
      refine V_ishl (pc := 46) X dX9_takes_46 ?_
      refine V_iconst (pc := 47) X dX9_takes_47 ?_
      refine V_ixor (pc := 48) X dX9_takes_48 ?_
      refine V_iand (pc := 49) X dX9_takes_49 ?_
      refine V_iast (pc := 50) X dX9_takes_50 (by first | rfl | assumption | (simp only [*]; done) | omega) (by omega) (by omega) (by decide) ?_
      refine V_iload_n (pc := 51) X dX9_takes_51 rfl ?_
      refine V_iret (st := []) (pc := 52) X hQ dX9_takes_52 rfl rfl ?_
      exact Or.inr (Or.inr ⟨c_5, c_22, rfl, rfl⟩)
    · skip
      refine V_bipush (pc := 25) X dX9_takes_25 (by decide) ?_
      refine V_iret (st := []) (pc := 27) X hQ dX9_takes_27 rfl rfl ?_
      exact Or.inr (Or.inl ⟨c_5, c_22, rfl, rfl⟩)
  · skip
    refine V_iconst (pc := 8) X dX9_takes_8 ?_
    refine V_iret (st := []) (pc := 9) X hQ dX9_takes_9 rfl rfl ?_
    exact Or.inl ⟨c_5, rfl, rfl⟩
set_option maxHeartbeats 4000000 in
set_option maxRecDepth 100000 in
theorem ct_X9_breaks {h : z_H} (hO : c_Ob h) {pl mo : Int} (hS : c_Sc h pl mo) (hSt : c_St h 4) (hMs : c_Ms h) {x y : Int} (hx : z_R x) (hy : z_R y) : z_Ct mX9_breaks 107 [(2, 0), (0, x), (0, y)] h (fun r h2 => (c_paneAt h pl x y = -1 ∧ r = some (0, -1) ∧ h2 = h) ∨ (¬ c_paneAt h pl x y = -1 ∧ c_broken h mo (c_paneAt h pl x y) = true ∧ r = some (0, -2) ∧ h2 = h) ∨ (¬ c_paneAt h pl x y = -1 ∧ c_broken h mo (c_paneAt h pl x y) = false ∧ r = some (0, z_pop (c_advH h 4 (c_advR h 4 + 1) (c_paneAt h pl x y))) ∧ h2 = c_brkH h (c_paneAt h pl x y))) := by
  refine z_mk (L := [(2, 0), (0, x), (0, y), (9, 0), (9, 0), (9, 0)]) oX9_breaks.2.2.2.2 (Nat.le_of_ble_eq_true rfl) rfl ?_
  intro Γ X hQ
  obtain ⟨ob0, ob1, ob2, ob3, ob4, ob5, ob6, ob7, r320⟩ := id hO
  obtain ⟨r30, r31, r42, ⟨kp, rp0, rp1, kp1, kp2, hw, hh, hs, hgl, hpi⟩, ⟨km, rm0, km1, hbr, hmi, hse, hbf⟩⟩ := id hS
  have plq := c_pl_is kp
  have hpa := c_paneAt_rng (h := h) (pl := pl) (x := x) (y := y) hw.2 hh.2
  obtain ⟨s1, s2, s3, s4, s5, s6, s7, s8⟩ := c_adv_spec hSt hMs
  have hSA := c_adv_sc hS hSt hMs
  have A0 := (z_kd_spec s8.1 (Nat.ne_of_beq_eq_false rfl)).1
  have kA1 := z_mo_row s8.1
  have rA0 := s2 _ s8.1
  obtain ⟨a30, a31, a42, -, -, -, aw, abr, ami, ase, abf⟩ := id hSA
  have o0 : c_advH h 4 0 = h 0 := s7 0 (by decide) (by decide) (by omega) (by omega)
  have oA1 : c_advH h 4 0 1 = 3 := by rw [o0]; exact ob1
  obtain ⟨hx1, hx2⟩ := hx
  obtain ⟨hy1, hy2⟩ := hy
  refine V_aload_n (pc := 0) X dX9_breaks_0 rfl (by first | decide | omega | assumption) ?_
  refine V_gz (pc := 1) X dX9_breaks_1 f_RX9_19 (by first | rfl | assumption | (simp only [*]; done) | omega) 1 rfl ob1 ?_
  refine V_iload_n (pc := 4) X dX9_breaks_4 rfl ?_
  refine V_iload_n (pc := 5) X dX9_breaks_5 rfl ?_
  refine V_FV (pc := 6) X dX9_breaks_6 oX5_paneAt l_RX9_87 eX5_paneAt vX5_paneAt ⟨Nat.le_of_ble_eq_true rfl, Nat.le_of_ble_eq_true rfl⟩ ⟨rfl, rfl⟩ ⟨Nat.le_of_ble_eq_true rfl, Nat.le_of_ble_eq_true rfl⟩ (ct_X5_paneAt hS ⟨by omega, by omega⟩ ⟨by omega, by omega⟩) rfl (by first | rfl | assumption | (simp only [*]; done) | omega) (by intro q h; cases h; rfl) rfl (by rfl) (by exact Nat.le_of_ble_eq_true rfl) ?_
  refine V_istore_n (pc := 9) X dX9_breaks_9 (by exact Nat.le_of_ble_eq_true rfl) rfl ?_
  refine V_iload_n (pc := 10) X dX9_breaks_10 rfl ?_
  refine V_iconst (pc := 11) X dX9_breaks_11 ?_
  refine V_icmp_ne (pc := 12) X 17 dX9_breaks_12 (by decide) ⟨by omega, by omega⟩ ⟨by omega, by omega⟩ (fun c_12 => ?_) (fun c_12 => ?_)
  · skip
    refine V_aload_n (pc := 17) X dX9_breaks_17 rfl (by first | decide | omega | assumption) ?_
    refine V_gz (pc := 18) X dX9_breaks_18 f_RX9_19 (by first | rfl | assumption | (simp only [*]; done) | omega) 1 rfl ob1 ?_
    refine V_iload_n (pc := 21) X dX9_breaks_21 rfl ?_
    refine V_FV (pc := 22) X dX9_breaks_22 oX5_isBroken l_RX9_95 eX5_isBroken vX5_isBroken ⟨Nat.le_of_ble_eq_true rfl, Nat.le_of_ble_eq_true rfl⟩ ⟨rfl, rfl⟩ ⟨Nat.le_of_ble_eq_true rfl, Nat.le_of_ble_eq_true rfl⟩ (ct_X5_isBroken hS (by omega) (by omega)) rfl (by first | rfl | assumption | (simp only [*]; done) | omega) (by intro q h; cases h; rfl) rfl (by rfl) (by exact Nat.le_of_ble_eq_true rfl) ?_
    refine V_bif_eq (pc := 25) X 31 dX9_breaks_25 (by decide)  (fun c_25 => ?_) (fun c_25 => ?_)
    · skip
      refine V_aload_n (pc := 31) X dX9_breaks_31 rfl (by first | decide | omega | assumption) ?_
      refine V_gz (pc := 32) X dX9_breaks_32 f_RX9_19 (by first | rfl | assumption | (simp only [*]; done) | omega) 1 rfl ob1 ?_
      refine V_gz (pc := 35) X dX9_breaks_35 f_RX9_58 (by first | rfl | assumption | (simp only [*]; done) | omega) 0 rfl r30 ?_
      refine V_CV (pc := 38) X dX9_breaks_38 oX6_advance l_RX9_123 eX6_advance vX6_advance ⟨Nat.le_of_ble_eq_true rfl, Nat.le_of_ble_eq_true rfl⟩ ⟨rfl, rfl⟩ ⟨Nat.le_of_ble_eq_true rfl, Nat.le_of_ble_eq_true rfl⟩ (ct_X6_advance hSt hMs) rfl (by first | rfl | assumption | (simp only [*]; done) | omega) (by intro q h; cases h; rfl) rfl (by rfl) (by exact Nat.le_of_ble_eq_true rfl) (fun r h1 hp => ?_)
      obtain ⟨rfl, rfl⟩ := hp
      refine V_astore (pc := 41) X dX9_breaks_41 (by exact Nat.le_of_ble_eq_true rfl) rfl (by first | decide | omega | assumption) ?_
      refine V_aload (pc := 43) X dX9_breaks_43 rfl (by first | decide | omega | assumption) ?_
      refine V_gz (pc := 45) X dX9_breaks_45 f_RX9_102 (by first | rfl | assumption | (simp only [*]; done) | omega) 0 rfl rA0 ?_
      refine V_iload_n (pc := 48) X dX9_breaks_48 rfl ?_
      have hbA := abf (c_paneAt h pl x y) (by omega) (by omega)
      refine V_iald (pc := 49) X dX9_breaks_49 (by first | rfl | assumption | (simp only [*]; done) | omega) (by omega) (by omega) (by decide) ?_
      refine V_FS (pc := 50) X dX9_breaks_50 oJ6_bitCount_0f7a4 l_RX9_127 sJ6_bitCount_0f7a4 ⟨Nat.le_of_ble_eq_true rfl, Nat.le_of_ble_eq_true rfl⟩ ⟨rfl, rfl⟩ ⟨Nat.le_of_ble_eq_true rfl, Nat.le_of_ble_eq_true rfl⟩ (ct_J6_bitCount_0f7a4 (by omega) (by omega)) rfl (by rfl) (by exact Nat.le_of_ble_eq_true rfl) ?_
      refine V_istore (pc := 53) X dX9_breaks_53 (by exact Nat.le_of_ble_eq_true rfl) rfl ?_
      refine V_aload (pc := 55) X dX9_breaks_55 rfl (by first | decide | omega | assumption) ?_
      refine V_gz (pc := 57) X dX9_breaks_57 f_RX9_102 (by first | rfl | assumption | (simp only [*]; done) | omega) 0 rfl rA0 ?_
      refine V_iload_n (pc := 60) X dX9_breaks_60 rfl ?_
      refine V_iconst (pc := 61) X dX9_breaks_61 ?_
      refine V_iast (pc := 62) X dX9_breaks_62 (by first | rfl | assumption | (simp only [*]; done) | omega) (by omega) (by omega) (by decide) ?_
      refine V_aload (pc := 63) X dX9_breaks_63 rfl (by first | decide | omega | assumption) ?_
      refine V_dup (pc := 65) X dX9_breaks_65 (Nat.ne_of_beq_eq_false rfl) ?_
      refine V_gz (pc := 66) X dX9_breaks_66 f_RX9_132 (by first | rfl | assumption | (simp only [*]; done) | omega) 1 rfl (show _ = c_advH h 4 (c_advR h 4) 1 from by rw [z_st_cell _ (by omega)]) ?_
      refine V_iconst (pc := 69) X dX9_breaks_69 ?_
      refine V_iload_n (pc := 70) X dX9_breaks_70 rfl ?_
      refine V_ishl (pc := 71) X dX9_breaks_71 ?_
      refine V_ior (pc := 72) X dX9_breaks_72 ?_
      refine V_pz (pc := 73) X dX9_breaks_73 f_RX9_132 (by first | rfl | assumption | (simp only [*]; done) | omega) (fun b => z_fitI b _) 1 rfl ?_
      refine V_iload (pc := 76) X dX9_breaks_76 rfl ?_
      refine V_iret (st := []) (pc := 78) X hQ dX9_breaks_78 rfl rfl ?_
      exact Or.inr (Or.inr ⟨c_12, c_25, rfl, rfl⟩)
    · skip
      refine V_bipush (pc := 28) X dX9_breaks_28 (by decide) ?_
      refine V_iret (st := []) (pc := 30) X hQ dX9_breaks_30 rfl rfl ?_
      exact Or.inr (Or.inl ⟨c_12, c_25, rfl, rfl⟩)
  · skip
    refine V_iconst (pc := 15) X dX9_breaks_15 ?_
    refine V_iret (st := []) (pc := 16) X hQ dX9_breaks_16 rfl rfl ?_
    exact Or.inl ⟨c_12, rfl, rfl⟩
set_option maxHeartbeats 4000000 in
set_option maxRecDepth 100000 in
theorem ct_X9_mends {h : z_H} (hO : c_Ob h) {pl mo : Int} (hS : c_Sc h pl mo) (hSt : c_St h 4) (hMs : c_Ms h) {x y : Int} (hx : z_R x) (hy : z_R y) : z_Ct mX9_mends 107 [(2, 0), (0, x), (0, y)] h (fun r h2 => (c_paneAt h pl x y = -1 ∧ r = some (0, -1) ∧ h2 = h) ∨ (¬ c_paneAt h pl x y = -1 ∧ c_broken h mo (c_paneAt h pl x y) = false ∧ r = some (0, -2) ∧ h2 = h) ∨ (¬ c_paneAt h pl x y = -1 ∧ c_broken h mo (c_paneAt h pl x y) = true ∧ r = some (0, h (pl + 1) (c_paneAt h pl x y)) ∧ h2 = c_menH h (c_paneAt h pl x y))) := by
  refine z_mk (L := [(2, 0), (0, x), (0, y), (9, 0)]) oX9_mends.2.2.2.2 (Nat.le_of_ble_eq_true rfl) rfl ?_
  intro Γ X hQ
  obtain ⟨ob0, ob1, ob2, ob3, ob4, ob5, ob6, ob7, r320⟩ := id hO
  obtain ⟨r30, r31, r42, ⟨kp, rp0, rp1, kp1, kp2, hw, hh, hs, hgl, hpi⟩, ⟨km, rm0, km1, hbr, hmi, hse, hbf⟩⟩ := id hS
  have plq := c_pl_is kp
  have hpa := c_paneAt_rng (h := h) (pl := pl) (x := x) (y := y) hw.2 hh.2
  obtain ⟨s1, s2, s3, s4, s5, s6, s7, s8⟩ := c_adv_spec hSt hMs
  have hSA := c_adv_sc hS hSt hMs
  have A0 := (z_kd_spec s8.1 (Nat.ne_of_beq_eq_false rfl)).1
  have kA1 := z_mo_row s8.1
  have rA0 := s2 _ s8.1
  obtain ⟨a30, a31, a42, -, -, -, aw, abr, ami, ase, abf⟩ := id hSA
  have o0 : c_advH h 4 0 = h 0 := s7 0 (by decide) (by decide) (by omega) (by omega)
  have oA1 : c_advH h 4 0 1 = 3 := by rw [o0]; exact ob1
  obtain ⟨hx1, hx2⟩ := hx
  obtain ⟨hy1, hy2⟩ := hy
  refine V_aload_n (pc := 0) X dX9_mends_0 rfl (by first | decide | omega | assumption) ?_
  refine V_gz (pc := 1) X dX9_mends_1 f_RX9_19 (by first | rfl | assumption | (simp only [*]; done) | omega) 1 rfl ob1 ?_
  refine V_iload_n (pc := 4) X dX9_mends_4 rfl ?_
  refine V_iload_n (pc := 5) X dX9_mends_5 rfl ?_
  refine V_FV (pc := 6) X dX9_mends_6 oX5_paneAt l_RX9_87 eX5_paneAt vX5_paneAt ⟨Nat.le_of_ble_eq_true rfl, Nat.le_of_ble_eq_true rfl⟩ ⟨rfl, rfl⟩ ⟨Nat.le_of_ble_eq_true rfl, Nat.le_of_ble_eq_true rfl⟩ (ct_X5_paneAt hS ⟨by omega, by omega⟩ ⟨by omega, by omega⟩) rfl (by first | rfl | assumption | (simp only [*]; done) | omega) (by intro q h; cases h; rfl) rfl (by rfl) (by exact Nat.le_of_ble_eq_true rfl) ?_
  refine V_istore_n (pc := 9) X dX9_mends_9 (by exact Nat.le_of_ble_eq_true rfl) rfl ?_
  refine V_iload_n (pc := 10) X dX9_mends_10 rfl ?_
  refine V_iconst (pc := 11) X dX9_mends_11 ?_
  refine V_icmp_ne (pc := 12) X 17 dX9_mends_12 (by decide) ⟨by omega, by omega⟩ ⟨by omega, by omega⟩ (fun c_12 => ?_) (fun c_12 => ?_)
  · skip
    refine V_aload_n (pc := 17) X dX9_mends_17 rfl (by first | decide | omega | assumption) ?_
    refine V_gz (pc := 18) X dX9_mends_18 f_RX9_19 (by first | rfl | assumption | (simp only [*]; done) | omega) 1 rfl ob1 ?_
    refine V_iload_n (pc := 21) X dX9_mends_21 rfl ?_
    refine V_FV (pc := 22) X dX9_mends_22 oX5_isBroken l_RX9_95 eX5_isBroken vX5_isBroken ⟨Nat.le_of_ble_eq_true rfl, Nat.le_of_ble_eq_true rfl⟩ ⟨rfl, rfl⟩ ⟨Nat.le_of_ble_eq_true rfl, Nat.le_of_ble_eq_true rfl⟩ (ct_X5_isBroken hS (by omega) (by omega)) rfl (by first | rfl | assumption | (simp only [*]; done) | omega) (by intro q h; cases h; rfl) rfl (by rfl) (by exact Nat.le_of_ble_eq_true rfl) ?_
    refine V_bif_ne (pc := 25) X 31 dX9_mends_25 (by decide)  (fun c_25 => ?_) (fun c_25 => ?_)
    · skip
      refine V_aload_n (pc := 31) X dX9_mends_31 rfl (by first | decide | omega | assumption) ?_
      refine V_gz (pc := 32) X dX9_mends_32 f_RX9_19 (by first | rfl | assumption | (simp only [*]; done) | omega) 1 rfl ob1 ?_
      refine V_gz (pc := 35) X dX9_mends_35 f_RX9_58 (by first | rfl | assumption | (simp only [*]; done) | omega) 0 rfl r30 ?_
      refine V_CV (pc := 38) X dX9_mends_38 oX6_advance l_RX9_123 eX6_advance vX6_advance ⟨Nat.le_of_ble_eq_true rfl, Nat.le_of_ble_eq_true rfl⟩ ⟨rfl, rfl⟩ ⟨Nat.le_of_ble_eq_true rfl, Nat.le_of_ble_eq_true rfl⟩ (ct_X6_advance hSt hMs) rfl (by first | rfl | assumption | (simp only [*]; done) | omega) (by intro q h; cases h; rfl) rfl (by rfl) (by exact Nat.le_of_ble_eq_true rfl) (fun r h1 hp => ?_)
      obtain ⟨rfl, rfl⟩ := hp
      refine V_dup (pc := 41) X dX9_mends_41 (Nat.ne_of_beq_eq_false rfl) ?_
      refine V_gz (pc := 42) X dX9_mends_42 f_RX9_132 (by first | rfl | assumption | (simp only [*]; done) | omega) 1 rfl rfl ?_
      refine V_iconst (pc := 45) X dX9_mends_45 ?_
      refine V_iload_n (pc := 46) X dX9_mends_46 rfl ?_
      refine V_ishl (pc := 47) X dX9_mends_47 ?_
      refine V_iconst (pc := 48) X dX9_mends_48 ?_
      refine V_ixor (pc := 49) X dX9_mends_49 ?_
      refine V_iand (pc := 50) X dX9_mends_50 ?_
      refine V_pz (pc := 51) X dX9_mends_51 f_RX9_132 (by first | rfl | assumption | (simp only [*]; done) | omega) (fun b => z_fitI b _) 1 rfl ?_
      refine V_aload_n (pc := 54) X dX9_mends_54 rfl (by first | decide | omega | assumption) ?_
      refine V_gz (pc := 55) X dX9_mends_55 f_RX9_19 (by first | rfl | assumption | (simp only [*]; done) | omega) 1 rfl (show _ = (3 : Int) from by rw [z_st_cell _ (by omega)]; exact oA1) ?_
      refine V_gz (pc := 58) X dX9_mends_58 f_RX9_62 (by first | rfl | assumption | (simp only [*]; done) | omega) 1 rfl (show _ = pl from by rw [z_st_cell _ (by omega)]; exact a31) ?_
      refine V_gz (pc := 61) X dX9_mends_61 f_RX9_91 (by first | rfl | assumption | (simp only [*]; done) | omega) 0 rfl (show _ = pl + 1 from by rw [z_st_cell _ (by omega), s7 pl (by omega) (by omega) (by omega) (by omega)]; exact rp0) ?_
      refine V_iload_n (pc := 64) X dX9_mends_64 rfl ?_
      refine V_iald (pc := 65) X dX9_mends_65 (by first | rfl | assumption | (simp only [*]; done) | omega) (by omega) (by omega) (by decide) ?_
      rw [show z_st (c_advH h 4) (c_advR h 4) 1 _ (pl + 1) (c_paneAt h pl x y) = h (pl + 1) (c_paneAt h pl x y) from by rw [z_st_cell _ (by omega), s7 (pl + 1) (by omega) (by omega) (by omega) (by omega)]]
      refine V_iret (st := []) (pc := 66) X hQ dX9_mends_66 rfl rfl ?_
      exact Or.inr (Or.inr ⟨c_12, c_25, rfl, rfl⟩)
    · skip
      refine V_bipush (pc := 28) X dX9_mends_28 (by decide) ?_
      refine V_iret (st := []) (pc := 30) X hQ dX9_mends_30 rfl rfl ?_
      exact Or.inr (Or.inl ⟨c_12, c_25, rfl, rfl⟩)
  · skip
    refine V_iconst (pc := 15) X dX9_mends_15 ?_
    refine V_iret (st := []) (pc := 16) X hQ dX9_mends_16 rfl rfl ?_
    exact Or.inl ⟨c_12, rfl, rfl⟩
set_option maxHeartbeats 4000000 in
set_option maxRecDepth 100000 in
theorem ct_X9_moves {h : z_H} (hO : c_Ob h) {pl mo : Int} (hS : c_Sc h pl mo) (hSt : c_St h 4) (hMs : c_Ms h) {m s : Int} (hm : z_R m) (hs : z_R s) : z_Ct mX9_moves 107 [(2, 0), (0, m), (0, s)] h (fun r h2 => (¬ (1 ≤ m ∧ m ≤ 12 ∧ 0 ≤ s ∧ s ≤ 3) ∧ r = some (0, -1) ∧ h2 = h) ∨ ((1 ≤ m ∧ m ≤ 12 ∧ 0 ≤ s ∧ s ≤ 3) ∧ (h mo 2 = m ∧ h mo 3 = s) ∧ r = some (0, -2) ∧ h2 = h) ∨ ((1 ≤ m ∧ m ≤ 12 ∧ 0 ≤ s ∧ s ≤ 3) ∧ ¬ (h mo 2 = m ∧ h mo 3 = s) ∧ r = some (0, c_lost (c_movH h m s) pl (c_advR h 4)) ∧ h2 = c_movH h m s)) := by
  refine z_mk (L := [(2, 0), (0, m), (0, s), (9, 0)]) oX9_moves.2.2.2.2 (Nat.le_of_ble_eq_true rfl) rfl ?_
  intro Γ X hQ
  obtain ⟨ob0, ob1, ob2, ob3, ob4, ob5, ob6, ob7, r320⟩ := id hO
  obtain ⟨r30, r31, r42, ⟨kp, rp0, rp1, kp1, kp2, hw, hh, hs, hgl, hpi⟩, ⟨km, rm0, km1, hbr, hmi, hse, hbf⟩⟩ := id hS
  have plq := c_pl_is kp
  obtain ⟨s1, s2, s3, s4, s5, s6, s7, s8⟩ := c_adv_spec hSt hMs
  have hSA := c_adv_sc hS hSt hMs
  have A0 := (z_kd_spec s8.1 (Nat.ne_of_beq_eq_false rfl)).1
  have kA1 := z_mo_row s8.1
  have rA0 := s2 _ s8.1
  obtain ⟨a30, a31, a42, -, -, -, aw, abr, ami, ase, abf⟩ := id hSA
  have o0 : c_advH h 4 0 = h 0 := s7 0 (by decide) (by decide) (by omega) (by omega)
  have oA1 : c_advH h 4 0 1 = 3 := by rw [o0]; exact ob1
  obtain ⟨hm1, hm2⟩ := hm
  obtain ⟨hsa, hsb9⟩ := ‹z_R s›
  refine V_iload_n (pc := 0) X dX9_moves_0 rfl ?_
  refine V_iconst (pc := 1) X dX9_moves_1 ?_
  refine V_icmp_lt (pc := 2) X 20 dX9_moves_2 (by decide) ⟨by omega, by omega⟩ ⟨by omega, by omega⟩ (fun c_2 => ?_) (fun c_2 => ?_)
  · skip
    refine V_iconst (pc := 20) X dX9_moves_20 ?_
    refine V_iret (st := []) (pc := 21) X hQ dX9_moves_21 rfl rfl ?_
    exact Or.inl ⟨by omega, rfl, rfl⟩
  · skip
    refine V_iload_n (pc := 5) X dX9_moves_5 rfl ?_
    refine V_bipush (pc := 6) X dX9_moves_6 (by decide) ?_
    refine V_icmp_gt (pc := 8) X 20 dX9_moves_8 (by decide) ⟨by omega, by omega⟩ ⟨by omega, by omega⟩ (fun c_8 => ?_) (fun c_8 => ?_)
    · skip
      refine V_iconst (pc := 20) X dX9_moves_20 ?_
      refine V_iret (st := []) (pc := 21) X hQ dX9_moves_21 rfl rfl ?_
      exact Or.inl ⟨by omega, rfl, rfl⟩
    · skip
      refine V_iload_n (pc := 11) X dX9_moves_11 rfl ?_
      refine V_if_lt (pc := 12) X 20 dX9_moves_12 (by decide) ⟨by omega, by omega⟩ (fun c_12 => ?_) (fun c_12 => ?_)
      · skip
        refine V_iconst (pc := 20) X dX9_moves_20 ?_
        refine V_iret (st := []) (pc := 21) X hQ dX9_moves_21 rfl rfl ?_
        exact Or.inl ⟨by omega, rfl, rfl⟩
      · skip
        refine V_iload_n (pc := 15) X dX9_moves_15 rfl ?_
        refine V_iconst (pc := 16) X dX9_moves_16 ?_
        refine V_icmp_le (pc := 17) X 22 dX9_moves_17 (by decide) ⟨by omega, by omega⟩ ⟨by omega, by omega⟩ (fun c_17 => ?_) (fun c_17 => ?_)
        · skip
          refine V_aload_n (pc := 22) X dX9_moves_22 rfl (by first | decide | omega | assumption) ?_
          refine V_gz (pc := 23) X dX9_moves_23 f_RX9_19 (by first | rfl | assumption | (simp only [*]; done) | omega) 1 rfl ob1 ?_
          refine V_gz (pc := 26) X dX9_moves_26 f_RX9_58 (by first | rfl | assumption | (simp only [*]; done) | omega) 0 rfl r30 ?_
          refine V_gz (pc := 29) X dX9_moves_29 f_RX9_98 (by first | rfl | assumption | (simp only [*]; done) | omega) 2 rfl r42 ?_
          refine V_gz (pc := 32) X dX9_moves_32 f_RX9_135 (by first | rfl | assumption | (simp only [*]; done) | omega) 2 rfl rfl ?_
          refine V_iload_n (pc := 35) X dX9_moves_35 rfl ?_
          refine V_icmp_ne (pc := 36) X 59 dX9_moves_36 (by decide) ⟨by omega, by omega⟩ ⟨by omega, by omega⟩ (fun c_36 => ?_) (fun c_36 => ?_)
          · skip
            refine V_aload_n (pc := 59) X dX9_moves_59 rfl (by first | decide | omega | assumption) ?_
            refine V_gz (pc := 60) X dX9_moves_60 f_RX9_19 (by first | rfl | assumption | (simp only [*]; done) | omega) 1 rfl ob1 ?_
            refine V_gz (pc := 63) X dX9_moves_63 f_RX9_58 (by first | rfl | assumption | (simp only [*]; done) | omega) 0 rfl r30 ?_
            refine V_CV (pc := 66) X dX9_moves_66 oX6_advance l_RX9_123 eX6_advance vX6_advance ⟨Nat.le_of_ble_eq_true rfl, Nat.le_of_ble_eq_true rfl⟩ ⟨rfl, rfl⟩ ⟨Nat.le_of_ble_eq_true rfl, Nat.le_of_ble_eq_true rfl⟩ (ct_X6_advance hSt hMs) rfl (by first | rfl | assumption | (simp only [*]; done) | omega) (by intro q h; cases h; rfl) rfl (by rfl) (by exact Nat.le_of_ble_eq_true rfl) (fun r h1 hp => ?_)
            obtain ⟨rfl, rfl⟩ := hp
            refine V_astore_n (pc := 69) X dX9_moves_69 (by exact Nat.le_of_ble_eq_true rfl) rfl (by first | decide | omega | assumption) ?_
            refine V_aload_n (pc := 70) X dX9_moves_70 rfl (by first | decide | omega | assumption) ?_
            refine V_iload_n (pc := 71) X dX9_moves_71 rfl ?_
            refine V_pz (pc := 72) X dX9_moves_72 f_RX9_135 (by first | rfl | assumption | (simp only [*]; done) | omega) (fun b => z_fitI b _) 2 rfl ?_
            refine V_aload_n (pc := 75) X dX9_moves_75 rfl (by first | decide | omega | assumption) ?_
            refine V_iload_n (pc := 76) X dX9_moves_76 rfl ?_
            refine V_pz (pc := 77) X dX9_moves_77 f_RX9_138 (by first | rfl | assumption | (simp only [*]; done) | omega) (fun b => z_fitI b _) 3 rfl ?_
            rw [show z_st (z_st (c_advH h 4) (c_advR h 4) 2 m) (c_advR h 4) 3 s = c_movH h m s from rfl]
            have hSM : c_Sc (c_movH h m s) pl (c_advR h 4) := c_Sc_mo (c_Sc_mo hSA (Or.inr (Or.inl ⟨rfl, by omega, by omega⟩))) (Or.inr (Or.inr ⟨rfl, by omega, by omega⟩))
            refine V_aload_n (pc := 80) X dX9_moves_80 rfl (by first | decide | omega | assumption) ?_
            refine V_gz (pc := 81) X dX9_moves_81 f_RX9_19 (by first | rfl | assumption | (simp only [*]; done) | omega) 1 rfl (show _ = (3 : Int) from by show z_st (z_st (c_advH h 4) (c_advR h 4) 2 m) (c_advR h 4) 3 s 0 1 = 3; rw [z_st_cell _ (by omega), z_st_cell _ (by omega)]; exact oA1) ?_
            refine V_FV (pc := 84) X dX9_moves_84 oX5_lostAtFirstHour l_RX9_141 eX5_lostAtFirstHour vX5_lostAtFirstHour ⟨Nat.le_of_ble_eq_true rfl, Nat.le_of_ble_eq_true rfl⟩ ⟨rfl, rfl⟩ ⟨Nat.le_of_ble_eq_true rfl, Nat.le_of_ble_eq_true rfl⟩ (ct_X5_lostAtFirstHour hSM) rfl (by first | rfl | assumption | (simp only [*]; done) | omega) (by intro q h; cases h; rfl) rfl (by rfl) (by exact Nat.le_of_ble_eq_true rfl) ?_
            refine V_iret (st := []) (pc := 87) X hQ dX9_moves_87 rfl rfl ?_
            exact Or.inr (Or.inr ⟨by omega, by omega, rfl, rfl⟩)
          · skip
            refine V_aload_n (pc := 39) X dX9_moves_39 rfl (by first | decide | omega | assumption) ?_
            refine V_gz (pc := 40) X dX9_moves_40 f_RX9_19 (by first | rfl | assumption | (simp only [*]; done) | omega) 1 rfl ob1 ?_
            refine V_gz (pc := 43) X dX9_moves_43 f_RX9_58 (by first | rfl | assumption | (simp only [*]; done) | omega) 0 rfl r30 ?_
            refine V_gz (pc := 46) X dX9_moves_46 f_RX9_98 (by first | rfl | assumption | (simp only [*]; done) | omega) 2 rfl r42 ?_
            refine V_gz (pc := 49) X dX9_moves_49 f_RX9_138 (by first | rfl | assumption | (simp only [*]; done) | omega) 3 rfl rfl ?_
            refine V_iload_n (pc := 52) X dX9_moves_52 rfl ?_
            refine V_icmp_ne (pc := 53) X 59 dX9_moves_53 (by decide) ⟨by omega, by omega⟩ ⟨by omega, by omega⟩ (fun c_53 => ?_) (fun c_53 => ?_)
            · skip
              refine V_aload_n (pc := 59) X dX9_moves_59 rfl (by first | decide | omega | assumption) ?_
              refine V_gz (pc := 60) X dX9_moves_60 f_RX9_19 (by first | rfl | assumption | (simp only [*]; done) | omega) 1 rfl ob1 ?_
              refine V_gz (pc := 63) X dX9_moves_63 f_RX9_58 (by first | rfl | assumption | (simp only [*]; done) | omega) 0 rfl r30 ?_
              refine V_CV (pc := 66) X dX9_moves_66 oX6_advance l_RX9_123 eX6_advance vX6_advance ⟨Nat.le_of_ble_eq_true rfl, Nat.le_of_ble_eq_true rfl⟩ ⟨rfl, rfl⟩ ⟨Nat.le_of_ble_eq_true rfl, Nat.le_of_ble_eq_true rfl⟩ (ct_X6_advance hSt hMs) rfl (by first | rfl | assumption | (simp only [*]; done) | omega) (by intro q h; cases h; rfl) rfl (by rfl) (by exact Nat.le_of_ble_eq_true rfl) (fun r h1 hp => ?_)
              obtain ⟨rfl, rfl⟩ := hp
              refine V_astore_n (pc := 69) X dX9_moves_69 (by exact Nat.le_of_ble_eq_true rfl) rfl (by first | decide | omega | assumption) ?_
              refine V_aload_n (pc := 70) X dX9_moves_70 rfl (by first | decide | omega | assumption) ?_
              refine V_iload_n (pc := 71) X dX9_moves_71 rfl ?_
              refine V_pz (pc := 72) X dX9_moves_72 f_RX9_135 (by first | rfl | assumption | (simp only [*]; done) | omega) (fun b => z_fitI b _) 2 rfl ?_
              refine V_aload_n (pc := 75) X dX9_moves_75 rfl (by first | decide | omega | assumption) ?_
              refine V_iload_n (pc := 76) X dX9_moves_76 rfl ?_
              refine V_pz (pc := 77) X dX9_moves_77 f_RX9_138 (by first | rfl | assumption | (simp only [*]; done) | omega) (fun b => z_fitI b _) 3 rfl ?_
              rw [show z_st (z_st (c_advH h 4) (c_advR h 4) 2 m) (c_advR h 4) 3 s = c_movH h m s from rfl]
              have hSM : c_Sc (c_movH h m s) pl (c_advR h 4) := c_Sc_mo (c_Sc_mo hSA (Or.inr (Or.inl ⟨rfl, by omega, by omega⟩))) (Or.inr (Or.inr ⟨rfl, by omega, by omega⟩))
              refine V_aload_n (pc := 80) X dX9_moves_80 rfl (by first | decide | omega | assumption) ?_
              refine V_gz (pc := 81) X dX9_moves_81 f_RX9_19 (by first | rfl | assumption | (simp only [*]; done) | omega) 1 rfl (show _ = (3 : Int) from by show z_st (z_st (c_advH h 4) (c_advR h 4) 2 m) (c_advR h 4) 3 s 0 1 = 3; rw [z_st_cell _ (by omega), z_st_cell _ (by omega)]; exact oA1) ?_
              refine V_FV (pc := 84) X dX9_moves_84 oX5_lostAtFirstHour l_RX9_141 eX5_lostAtFirstHour vX5_lostAtFirstHour ⟨Nat.le_of_ble_eq_true rfl, Nat.le_of_ble_eq_true rfl⟩ ⟨rfl, rfl⟩ ⟨Nat.le_of_ble_eq_true rfl, Nat.le_of_ble_eq_true rfl⟩ (ct_X5_lostAtFirstHour hSM) rfl (by first | rfl | assumption | (simp only [*]; done) | omega) (by intro q h; cases h; rfl) rfl (by rfl) (by exact Nat.le_of_ble_eq_true rfl) ?_
              refine V_iret (st := []) (pc := 87) X hQ dX9_moves_87 rfl rfl ?_
              exact Or.inr (Or.inr ⟨by omega, by omega, rfl, rfl⟩)
            · skip
              refine V_bipush (pc := 56) X dX9_moves_56 (by decide) ?_
              refine V_iret (st := []) (pc := 58) X hQ dX9_moves_58 rfl rfl ?_
              exact Or.inr (Or.inl ⟨by omega, ⟨c_36, c_53⟩, rfl, rfl⟩)
        · skip
          refine V_iconst (pc := 20) X dX9_moves_20 ?_
          refine V_iret (st := []) (pc := 21) X hQ dX9_moves_21 rfl rfl ?_
          exact Or.inl ⟨by omega, rfl, rfl⟩
set_option maxHeartbeats 4000000 in
set_option maxRecDepth 100000 in
theorem ct_X9_undo {h : z_H} (hO : c_Ob h) {pl mo : Int} (hS : c_Sc h pl mo) (hSt : c_St h 4) : z_Ct mX9_undo 107 [(2, 0)] h (fun r h2 => (h 4 1 = 0 ∧ r = some (0, -2) ∧ h2 = h) ∨ (¬ h 4 1 = 0 ∧ r = some (0, h 4 1 - 1) ∧ h2 = c_undH h)) := by
  refine z_mk (L := [(2, 0)]) oX9_undo.2.2.2.2 (Nat.le_of_ble_eq_true rfl) rfl ?_
  intro Γ X hQ
  obtain ⟨ob0, ob1, ob2, ob3, ob4, ob5, ob6, ob7, r320⟩ := id hO
  obtain ⟨r30, r31, r42, ⟨kp, rp0, rp1, kp1, kp2, hw, hh, hs, hgl, hpi⟩, ⟨km, rm0, km1, hbr, hmi, hse, hbf⟩⟩ := id hS
  obtain ⟨t1, t2, t3, t4, t5, t6, t7⟩ := id hSt
  have t3b : z_kd 107 (4 + 1) = (3, 11) := t3
  refine V_aload_n (pc := 0) X dX9_undo_0 rfl (by first | decide | omega | assumption) ?_
  refine V_gz (pc := 1) X dX9_undo_1 f_RX9_19 (by first | rfl | assumption | (simp only [*]; done) | omega) 1 rfl ob1 ?_
  refine V_gz (pc := 4) X dX9_undo_4 f_RX9_58 (by first | rfl | assumption | (simp only [*]; done) | omega) 0 rfl r30 ?_
  refine V_gz (pc := 7) X dX9_undo_7 f_RX9_145 (by first | rfl | assumption | (simp only [*]; done) | omega) 1 rfl rfl ?_
  refine V_if_ne (pc := 10) X 16 dX9_undo_10 (by decide) ⟨by omega, by omega⟩ (fun c_10 => ?_) (fun c_10 => ?_)
  · skip
    refine V_aload_n (pc := 16) X dX9_undo_16 rfl (by first | decide | omega | assumption) ?_
    refine V_gz (pc := 17) X dX9_undo_17 f_RX9_19 (by first | rfl | assumption | (simp only [*]; done) | omega) 1 rfl ob1 ?_
    refine V_gz (pc := 20) X dX9_undo_20 f_RX9_58 (by first | rfl | assumption | (simp only [*]; done) | omega) 0 rfl r30 ?_
    refine V_CV (pc := 23) X dX9_undo_23 oX6_retreat l_RX9_148 eX6_retreat vX6_retreat ⟨Nat.le_of_ble_eq_true rfl, Nat.le_of_ble_eq_true rfl⟩ ⟨rfl, rfl⟩ ⟨Nat.le_of_ble_eq_true rfl, Nat.le_of_ble_eq_true rfl⟩ (ct_X6_retreat t1 t2 t3 (fun i a b => (t4 i a b).1) ⟨by omega, by omega⟩) rfl (by first | rfl | assumption | (simp only [*]; done) | omega) (by intro q h; cases h; rfl) rfl (by rfl) (by exact Nat.le_of_ble_eq_true rfl) (fun r h1 hp => ?_)
    obtain ⟨rfl, rfl⟩ := hp
    refine V_aload_n (pc := 26) X dX9_undo_26 rfl (by first | decide | omega | assumption) ?_
    refine V_gz (pc := 27) X dX9_undo_27 f_RX9_19 (by first | rfl | assumption | (simp only [*]; done) | omega) 1 rfl (show _ = (3 : Int) from by rw [z_st_cell _ (by decide), z_st_cell _ (by decide)]; exact ob1) ?_
    refine V_gz (pc := 30) X dX9_undo_30 f_RX9_58 (by first | rfl | assumption | (simp only [*]; done) | omega) 0 rfl (show _ = (4 : Int) from by rw [z_st_cell _ (by decide), z_st_cell _ (by decide)]; exact r30) ?_
    refine V_gz (pc := 33) X dX9_undo_33 f_RX9_145 (by first | rfl | assumption | (simp only [*]; done) | omega) 1 rfl (show _ = h 4 1 - 1 from by rw [z_st_slot _ (by decide), z_st_at]) ?_
    refine V_iret (st := []) (pc := 36) X hQ dX9_undo_36 rfl rfl ?_
    exact Or.inr ⟨c_10, rfl, rfl⟩
  · skip
    refine V_bipush (pc := 13) X dX9_undo_13 (by decide) ?_
    refine V_iret (st := []) (pc := 15) X hQ dX9_undo_15 rfl rfl ?_
    exact Or.inl ⟨c_10, rfl, rfl⟩
