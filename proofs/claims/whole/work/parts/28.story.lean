/-! fill, Moment, Plan -/
set_option maxHeartbeats 4000000 in
set_option maxRecDepth 100000 in
theorem ct_J7_fill_53178 {n N : Nat} {h : z_H} {K v : Int} (hk : z_kd n K = (1, N)) (hN : N < 100000) : z_Ct mJ7_fill_53178 n [(2, K), (0, v)] h (z_void (z_rw h K (fun r => if 0 ≤ r ∧ r < N then v else h K r))) := by
  refine z_mk (L := [(2, K), (0, v), (9, 0), (9, 0)]) oJ7_fill_53178.2.2.2.2 (Nat.le_of_ble_eq_true rfl) rfl ?_
  intro Γ X hQ
  have hK0 := (z_kd_spec hk (Nat.ne_of_beq_eq_false rfl)).1
  refine V_iconst (pc := 0) X dJ7_fill_53178_0 ?_
  refine V_istore_n (pc := 1) X dJ7_fill_53178_1 (by exact Nat.le_of_ble_eq_true rfl) rfl ?_
  refine V_aload_n (pc := 2) X dJ7_fill_53178_2 rfl (by first | decide | omega | assumption) ?_
  refine V_alen (pc := 3) X dJ7_fill_53178_3 (by first | rfl | assumption | (simp only [*]; done) | omega) ?_
  refine V_istore_n (pc := 4) X dJ7_fill_53178_4 (by exact Nat.le_of_ble_eq_true rfl) rfl ?_
  have lp_5 : ∀ (m : Nat) (i : Int), ((N : Int) - i).toNat < m → 0 ≤ i → i ≤ N → z_V Γ (n, 0, 0) 5 [(2, K), (0, v), (0, i), (0, (N : Int))] [] (z_rw h K (fun r => if 0 ≤ r ∧ r < i then v else h K r)) := by
    intro m
    induction m with
    | zero => intro i hm; exact absurd hm (Nat.not_lt_zero _)
    | succ m ih_5 =>
      intro i hm hi0 hi1
      refine V_iload_n (pc := 5) X dJ7_fill_53178_5 rfl ?_
      refine V_iload_n (pc := 6) X dJ7_fill_53178_6 rfl ?_
      refine V_icmp_ge (pc := 7) X 20 dJ7_fill_53178_7 (by decide) ⟨by omega, by omega⟩ ⟨by omega, by omega⟩ (fun c_7 => ?_) (fun c_7 => ?_)
      · skip
        refine V_vret (st := []) (pc := 20) X hQ dJ7_fill_53178_20 rfl rfl ?_
        exact ⟨rfl, by (obtain rfl : i = N := by omega); rfl⟩
      · skip
        refine V_aload_n (pc := 10) X dJ7_fill_53178_10 rfl (by first | decide | omega | assumption) ?_
        refine V_iload_n (pc := 11) X dJ7_fill_53178_11 rfl ?_
        refine V_iload_n (pc := 12) X dJ7_fill_53178_12 rfl ?_
        refine V_iast (pc := 13) X dJ7_fill_53178_13 (by first | rfl | assumption | (simp only [*]; done) | omega) (by omega) (by omega) (by omega) ?_
        rw [z_rw_st]
        refine V_iinc (pc := 14) X dJ7_fill_53178_14 rfl rfl ?_
        refine V_goto (pc := 17) X 5 dJ7_fill_53178_17 (by decide) ?_
        refine V_heap ?_ (ih_5 (i + 1) (by omega) (by omega) (by omega))
        congr 1
        funext r
        by_cases e : r = i
        · rw [if_pos e, if_pos (by omega)]
        · rw [if_neg e]
          by_cases e2 : 0 ≤ r ∧ r < i
          · rw [if_pos e2, if_pos (by omega)]
          · rw [if_neg e2, if_neg (by omega)]
  refine V_heap (h' := z_rw h K (fun r => if 0 ≤ r ∧ r < 0 then v else h K r)) (by rw [show (fun r => if 0 ≤ r ∧ r < 0 then v else h K r) = h K from by funext r; rw [if_neg (by omega)]]; exact (z_rw_same h K).symm) ?_
  exact lp_5 _ 0 (Nat.lt_succ_self _) (by decide) (by omega)
set_option maxHeartbeats 4000000 in
set_option maxRecDepth 100000 in
theorem ct_X2_become {h : z_H} (hMs : c_Ms h) {m o : Int} (km : z_kd 107 m = (0, 1)) (ko : z_kd 107 o = (0, 1)) (hne : m ≠ o) : z_Ct mX2_become 107 [(2, m), (2, o)] h (z_void (c_becH h m o)) := by
  refine z_mk (L := [(2, m), (2, o)]) oX2_become.2.2.2.2 (Nat.le_of_ble_eq_true rfl) rfl ?_
  intro Γ X hQ
  have km1 := z_mo_row km
  have ko1 := z_mo_row ko
  have m0 := (z_kd_spec km (Nat.ne_of_beq_eq_false rfl)).1
  have o0 := (z_kd_spec ko (Nat.ne_of_beq_eq_false rfl)).1
  have e1 : o ≠ m + 1 := z_ne_kd ko km1 (by decide)
  have e2 : m ≠ m + 1 := by omega
  have hne2 : o ≠ m := fun e => hne e.symm
  refine V_aload_n (pc := 0) X dX2_become_0 rfl (by first | decide | omega | assumption) ?_
  refine V_gz (pc := 1) X dX2_become_1 f_RX2_9 (by first | rfl | assumption | (simp only [*]; done) | omega) 0 rfl (hMs o ko) ?_
  refine V_iconst (pc := 4) X dX2_become_4 ?_
  refine V_aload_n (pc := 5) X dX2_become_5 rfl (by first | decide | omega | assumption) ?_
  refine V_gz (pc := 6) X dX2_become_6 f_RX2_9 (by first | rfl | assumption | (simp only [*]; done) | omega) 0 rfl (hMs m km) ?_
  refine V_iconst (pc := 9) X dX2_become_9 ?_
  refine V_bipush (pc := 10) X dX2_become_10 (by decide) ?_
  refine V_acopy (pc := 12) X dX2_become_12 l_RX2_15 nCpy sCpy iCpy (by first | rfl | assumption | (simp only [*]; done) | omega) (by first | rfl | assumption | (simp only [*]; done) | omega) rfl (by decide) (by decide) (by decide) ⟨by decide, by decide +kernel⟩ ?_
  refine V_aload_n (pc := 15) X dX2_become_15 rfl (by first | decide | omega | assumption) ?_
  refine V_aload_n (pc := 16) X dX2_become_16 rfl (by first | decide | omega | assumption) ?_
  refine V_gz (pc := 17) X dX2_become_17 f_RX2_21 (by first | rfl | assumption | (simp only [*]; done) | omega) 1 rfl (show _ = h o 1 from by simp [z_cp, e1]) ?_
  refine V_pz (pc := 20) X dX2_become_20 f_RX2_21 (by first | rfl | assumption | (simp only [*]; done) | omega) (fun b => z_fitI b _) 1 rfl ?_
  refine V_aload_n (pc := 23) X dX2_become_23 rfl (by first | decide | omega | assumption) ?_
  refine V_aload_n (pc := 24) X dX2_become_24 rfl (by first | decide | omega | assumption) ?_
  refine V_gz (pc := 25) X dX2_become_25 f_RX2_25 (by first | rfl | assumption | (simp only [*]; done) | omega) 2 rfl (show _ = h o 2 from by simp [z_st, z_cp, e1, hne2]) ?_
  refine V_pz (pc := 28) X dX2_become_28 f_RX2_25 (by first | rfl | assumption | (simp only [*]; done) | omega) (fun b => z_fitI b _) 2 rfl ?_
  refine V_aload_n (pc := 31) X dX2_become_31 rfl (by first | decide | omega | assumption) ?_
  refine V_aload_n (pc := 32) X dX2_become_32 rfl (by first | decide | omega | assumption) ?_
  refine V_gz (pc := 33) X dX2_become_33 f_RX2_28 (by first | rfl | assumption | (simp only [*]; done) | omega) 3 rfl (show _ = h o 3 from by simp [z_st, z_cp, e1, hne2]) ?_
  refine V_pz (pc := 36) X dX2_become_36 f_RX2_28 (by first | rfl | assumption | (simp only [*]; done) | omega) (fun b => z_fitI b _) 3 rfl ?_
  refine V_vret (st := []) (pc := 39) X hQ dX2_become_39 rfl rfl ?_
  exact ⟨rfl, rfl⟩
set_option maxHeartbeats 4000000 in
set_option maxRecDepth 100000 in
theorem ct_X3_restart {n : Nat} {h : z_H} {P : Int} (kp : z_kd n P = (0, 2)) (rp0 : h P 0 = P + 1) (rp1 : h P 1 = P + 2) (kp1 : z_kd n (P + 1) = (1, 20)) (kp2 : z_kd n (P + 2) = (1, 256)) : z_Ct mX3_restart n [(2, P)] h (z_void (c_rstH h P)) := by
  refine z_mk (L := [(2, P)]) oX3_restart.2.2.2.2 (Nat.le_of_ble_eq_true rfl) rfl ?_
  intro Γ X hQ
  have P0 := (z_kd_spec kp (Nat.ne_of_beq_eq_false rfl)).1
  have e1 : P ≠ P + 1 := by omega
  have e2 : P ≠ P + 2 := by omega
  refine V_aload_n (pc := 0) X dX3_restart_0 rfl (by first | decide | omega | assumption) ?_
  refine V_iconst (pc := 1) X dX3_restart_1 ?_
  refine V_pz (pc := 2) X dX3_restart_2 f_RX3_21 (by first | rfl | assumption | (simp only [*]; done) | omega) (fun b => z_fitI b _) 2 rfl ?_
  refine V_aload_n (pc := 5) X dX3_restart_5 rfl (by first | decide | omega | assumption) ?_
  refine V_iconst (pc := 6) X dX3_restart_6 ?_
  refine V_pz (pc := 7) X dX3_restart_7 f_RX3_25 (by first | rfl | assumption | (simp only [*]; done) | omega) (fun b => z_fitI b _) 3 rfl ?_
  refine V_aload_n (pc := 10) X dX3_restart_10 rfl (by first | decide | omega | assumption) ?_
  refine V_gz (pc := 11) X dX3_restart_11 f_RX3_9 (by first | rfl | assumption | (simp only [*]; done) | omega) 0 rfl (show _ = P + 1 from by simp [z_st, rp0]) ?_
  refine V_bipush (pc := 14) X dX3_restart_14 (by decide) ?_
  refine V_CS (pc := 16) X dX3_restart_16 oJ7_fill_53178 l_RX3_28 sJ7_fill_53178 ⟨Nat.le_of_ble_eq_true rfl, Nat.le_of_ble_eq_true rfl⟩ ⟨rfl, rfl⟩ ⟨Nat.le_of_ble_eq_true rfl, Nat.le_of_ble_eq_true rfl⟩ (ct_J7_fill_53178 (N := 20) (by assumption) (by decide)) rfl (by rfl) (by exact Nat.le_of_ble_eq_true rfl) (fun r h1 hp => ?_)
  obtain ⟨rfl, rfl⟩ := hp
  refine V_aload_n (pc := 19) X dX3_restart_19 rfl (by first | decide | omega | assumption) ?_
  refine V_gz (pc := 20) X dX3_restart_20 f_RX3_15 (by first | rfl | assumption | (simp only [*]; done) | omega) 1 rfl (show _ = P + 2 from by simp [z_st, z_rw, rp1, e1]) ?_
  refine V_iconst (pc := 23) X dX3_restart_23 ?_
  refine V_bipush (pc := 24) X dX3_restart_24 (by decide) ?_
  refine V_iast (pc := 26) X dX3_restart_26 (by first | rfl | assumption | (simp only [*]; done) | omega) (by omega) (by omega) (by decide) ?_
  refine V_aload_n (pc := 27) X dX3_restart_27 rfl (by first | decide | omega | assumption) ?_
  refine V_iconst (pc := 28) X dX3_restart_28 ?_
  refine V_pz (pc := 29) X dX3_restart_29 f_RX3_34 (by first | rfl | assumption | (simp only [*]; done) | omega) (fun b => z_fitI b _) 4 rfl ?_
  refine V_aload_n (pc := 32) X dX3_restart_32 rfl (by first | decide | omega | assumption) ?_
  refine V_bipush (pc := 33) X dX3_restart_33 (by decide) ?_
  refine V_pz (pc := 35) X dX3_restart_35 f_RX3_37 (by first | rfl | assumption | (simp only [*]; done) | omega) (fun b => z_fitI b _) 5 rfl ?_
  refine V_aload_n (pc := 38) X dX3_restart_38 rfl (by first | decide | omega | assumption) ?_
  refine V_iconst (pc := 39) X dX3_restart_39 ?_
  refine V_pz (pc := 40) X dX3_restart_40 f_RX3_40 (by first | rfl | assumption | (simp only [*]; done) | omega) (fun b => z_fitI b _) 6 rfl ?_
  refine V_vret (st := []) (pc := 43) X hQ dX3_restart_43 rfl rfl ?_
  exact ⟨rfl, rfl⟩
set_option maxHeartbeats 4000000 in
set_option maxRecDepth 100000 in
theorem ct_X3_addSheet {h : z_H} {P : Int} (kp : z_kd 107 P = (0, 2)) (rp1 : h P 1 = P + 2) (kp2 : z_kd 107 (P + 2) = (1, 256)) {s : Nat} (hs : s < 8) (hsh : h P 4 = s) {c : Int} : z_Ct mX3_addSheet 107 [(2, P), (0, c)] h (z_void (c_shtH h P s c)) := by
  refine z_mk (L := [(2, P), (0, c), (9, 0), (9, 0)]) oX3_addSheet.2.2.2.2 (Nat.le_of_ble_eq_true rfl) rfl ?_
  intro Γ X hQ
  have P0 := (z_kd_spec kp (Nat.ne_of_beq_eq_false rfl)).1
  have e2 : P ≠ P + 2 := by omega
  have hB : (2 : Nat) ^ s ≤ 2 ^ 7 := Nat.pow_le_pow_right (by decide) (by omega)
  have hB1 : 0 < (2 : Nat) ^ s := Nat.two_pow_pos s
  refine V_iconst (pc := 0) X dX3_addSheet_0 ?_
  refine V_aload_n (pc := 1) X dX3_addSheet_1 rfl (by first | decide | omega | assumption) ?_
  refine V_gz (pc := 2) X dX3_addSheet_2 f_RX3_34 (by first | rfl | assumption | (simp only [*]; done) | omega) 4 rfl hsh ?_
  refine V_ishl (pc := 5) X dX3_addSheet_5 ?_
  rw [z_shl1 (by omega) (by omega), Int.toNat_natCast]
  refine V_istore_n (pc := 6) X dX3_addSheet_6 (by exact Nat.le_of_ble_eq_true rfl) rfl ?_
  refine V_iconst (pc := 7) X dX3_addSheet_7 ?_
  refine V_istore_n (pc := 8) X dX3_addSheet_8 (by exact Nat.le_of_ble_eq_true rfl) rfl ?_
  have lp_9 : ∀ (m : Nat) (i : Int), ((2 ^ s : Nat) - i).toNat < m → 0 ≤ i → i ≤ ((2 ^ s : Nat) : Int) → z_V Γ (107, 0, 0) 9 [(2, P), (0, c), (0, ((2 ^ s : Nat) : Int)), (0, i)] [] (z_rw h (P + 2) (fun r => if ((2 ^ s : Nat) : Int) ≤ r ∧ r < ((2 ^ s : Nat) : Int) + i then z_and (h (P + 2) (r - ((2 ^ s : Nat) : Int))) c else h (P + 2) r)) := by
    intro m
    induction m with
    | zero => intro i hm; exact absurd hm (Nat.not_lt_zero _)
    | succ m ih_9 =>
      intro i hm hi0 hi1
      have e3 : z_rw h (P + 2) (fun r => if ((2 ^ s : Nat) : Int) ≤ r ∧ r < ((2 ^ s : Nat) : Int) + i then z_and (h (P + 2) (r - ((2 ^ s : Nat) : Int))) c else h (P + 2) r) P 1 = P + 2 := by rw [z_rw_ne h _ e2]; exact rp1
      refine V_iload_n (pc := 9) X dX3_addSheet_9 rfl ?_
      refine V_iload_n (pc := 10) X dX3_addSheet_10 rfl ?_
      refine V_icmp_ge (pc := 11) X 36 dX3_addSheet_11 (by decide) ⟨by omega, by omega⟩ ⟨by omega, by omega⟩ (fun c_11 => ?_) (fun c_11 => ?_)
      · skip
        refine V_aload_n (pc := 36) X dX3_addSheet_36 rfl (by first | decide | omega | assumption) ?_
        refine V_dup (pc := 37) X dX3_addSheet_37 (Nat.ne_of_beq_eq_false rfl) ?_
        refine V_gz (pc := 38) X dX3_addSheet_38 f_RX3_34 (by first | rfl | assumption | (simp only [*]; done) | omega) 4 rfl (show _ = (s : Int) from by rw [z_rw_ne h _ e2]; exact hsh) ?_
        refine V_iconst (pc := 41) X dX3_addSheet_41 ?_
        refine V_iadd (pc := 42) X dX3_addSheet_42 ?_
        refine V_pz (pc := 43) X dX3_addSheet_43 f_RX3_34 (by first | rfl | assumption | (simp only [*]; done) | omega) (fun b => z_fitI b _) 4 rfl ?_
        refine V_vret (st := []) (pc := 46) X hQ dX3_addSheet_46 rfl rfl ?_
        exact ⟨rfl, by (obtain rfl : i = ((2 ^ s : Nat) : Int) := by omega); rfl⟩
      · skip
        refine V_aload_n (pc := 14) X dX3_addSheet_14 rfl (by first | decide | omega | assumption) ?_
        refine V_gz (pc := 15) X dX3_addSheet_15 f_RX3_15 (by first | rfl | assumption | (simp only [*]; done) | omega) 1 rfl e3 ?_
        refine V_iload_n (pc := 18) X dX3_addSheet_18 rfl ?_
        refine V_iload_n (pc := 19) X dX3_addSheet_19 rfl ?_
        refine V_iadd (pc := 20) X dX3_addSheet_20 ?_
        refine V_aload_n (pc := 21) X dX3_addSheet_21 rfl (by first | decide | omega | assumption) ?_
        refine V_gz (pc := 22) X dX3_addSheet_22 f_RX3_15 (by first | rfl | assumption | (simp only [*]; done) | omega) 1 rfl e3 ?_
        refine V_iload_n (pc := 25) X dX3_addSheet_25 rfl ?_
        refine V_iald (pc := 26) X dX3_addSheet_26 (by first | rfl | assumption | (simp only [*]; done) | omega) (by omega) (by omega) (by decide) ?_
        refine V_iload_n (pc := 27) X dX3_addSheet_27 rfl ?_
        refine V_iand (pc := 28) X dX3_addSheet_28 ?_
        refine V_iast (pc := 29) X dX3_addSheet_29 (by first | rfl | assumption | (simp only [*]; done) | omega) (by omega) (by omega) (by decide) ?_
        rw [z_rw_st]
        refine V_iinc (pc := 30) X dX3_addSheet_30 rfl rfl ?_
        refine V_goto (pc := 33) X 9 dX3_addSheet_33 (by decide) ?_
        refine V_heap ?_ (ih_9 (i + 1) (by omega) (by omega) (by omega))
        congr 1
        funext r
        rw [z_rw_at]
        rw [if_neg (show ¬ (((2 ^ s : Nat) : Int) ≤ i ∧ i < ((2 ^ s : Nat) : Int) + i) by omega)]
        by_cases e : r = ((2 ^ s : Nat) : Int) + i
        · rw [if_pos e, if_pos (by omega), e, show ((2 ^ s : Nat) : Int) + i - ((2 ^ s : Nat) : Int) = i by omega]
        · rw [if_neg e]
          by_cases e5 : ((2 ^ s : Nat) : Int) ≤ r ∧ r < ((2 ^ s : Nat) : Int) + i
          · rw [if_pos e5, if_pos (by omega)]
          · rw [if_neg e5, if_neg (by omega)]
  refine V_loc (show _ = [(2, P), (0, c), (0, ((2 ^ s : Nat) : Int)), (0, 0)] from rfl) ?_
  refine V_heap (h' := z_rw h (P + 2) (fun r => if ((2 ^ s : Nat) : Int) ≤ r ∧ r < ((2 ^ s : Nat) : Int) + 0 then z_and (h (P + 2) (r - ((2 ^ s : Nat) : Int))) c else h (P + 2) r)) (by rw [show (fun r => if ((2 ^ s : Nat) : Int) ≤ r ∧ r < ((2 ^ s : Nat) : Int) + 0 then z_and (h (P + 2) (r - ((2 ^ s : Nat) : Int))) c else h (P + 2) r) = h (P + 2) from by funext r; rw [if_neg (by omega)]]; exact (z_rw_same h (P + 2)).symm) ?_
  exact lp_9 _ 0 (Nat.lt_succ_self _) (by decide) (by omega)
set_option maxHeartbeats 4000000 in
set_option maxRecDepth 100000 in
theorem ct_X6_restart {n : Nat} {h : z_H} {k P m : Int} (kk : z_kd n k = (0, 5)) (rk0 : h k 0 = k + 1) (kk1 : z_kd n (k + 1) = (3, 11)) (rm : h (k + 1) 0 = m) (km : z_kd n m = (0, 1)) (rm0 : h m 0 = m + 1) (km1 : z_kd n (m + 1) = (1, 20)) (kp : z_kd n P = (0, 2)) : z_Ct mX6_restart n [(2, k), (2, P)] h (z_void (c_srsH h k P m)) := by
  refine z_mk (L := [(2, k), (2, P)]) oX6_restart.2.2.2.2 (Nat.le_of_ble_eq_true rfl) rfl ?_
  intro Γ X hQ
  have k0 := (z_kd_spec kk (Nat.ne_of_beq_eq_false rfl)).1
  have m0 := (z_kd_spec km (Nat.ne_of_beq_eq_false rfl)).1
  have p0 := (z_kd_spec kp (Nat.ne_of_beq_eq_false rfl)).1
  have e1 : k + 1 ≠ k := by omega
  have e2 : m ≠ k := z_ne_kd km kk (by decide)
  have e3 : m + 1 ≠ k := z_ne_kd km1 kk (by decide)
  have e4 : P ≠ m := z_ne_kd kp km (by decide)
  have e5 : P ≠ m + 1 := z_ne_kd kp km1 (by decide)
  have e6 : P ≠ k := z_ne_kd kp kk (by decide)
  have e7 : k ≠ m + 1 := fun e => e3 e.symm
  have e8 : k ≠ m := fun e => e2 e.symm
  have e9 : m ≠ m + 1 := by omega
  refine V_aload_n (pc := 0) X dX6_restart_0 rfl (by first | decide | omega | assumption) ?_
  refine V_iconst (pc := 1) X dX6_restart_1 ?_
  refine V_pz (pc := 2) X dX6_restart_2 f_RX6_20 (by first | rfl | assumption | (simp only [*]; done) | omega) (fun b => z_fitI b _) 1 rfl ?_
  refine V_aload_n (pc := 5) X dX6_restart_5 rfl (by first | decide | omega | assumption) ?_
  refine V_aload_n (pc := 6) X dX6_restart_6 rfl (by first | decide | omega | assumption) ?_
  refine V_gz (pc := 7) X dX6_restart_7 f_RX6_11 (by first | rfl | assumption | (simp only [*]; done) | omega) 0 rfl (show _ = k + 1 from by simp [z_st, rk0]) ?_
  refine V_iconst (pc := 10) X dX6_restart_10 ?_
  refine V_aald3 (pc := 11) X dX6_restart_11 (by first | rfl | assumption | (simp only [*]; done) | omega) (by omega) (by omega) (by decide) (show _ = m from by simp [z_st, rm, e1]) ?_
  refine V_pz (pc := 12) X dX6_restart_12 f_RX6_16 (by first | rfl | assumption | (simp only [*]; done) | omega) (fun b => z_fitR b _ rfl) 2 rfl ?_
  refine V_aload_n (pc := 15) X dX6_restart_15 rfl (by first | decide | omega | assumption) ?_
  refine V_gz (pc := 16) X dX6_restart_16 f_RX6_16 (by first | rfl | assumption | (simp only [*]; done) | omega) 2 rfl (show _ = m from by simp [z_st]) ?_
  refine V_gz (pc := 19) X dX6_restart_19 f_RX6_24 (by first | rfl | assumption | (simp only [*]; done) | omega) 0 rfl (show _ = m + 1 from by simp [z_st, rm0, e2]) ?_
  refine V_iconst (pc := 22) X dX6_restart_22 ?_
  refine V_CS (pc := 23) X dX6_restart_23 oJ7_fill_53178 l_RX6_28 sJ7_fill_53178 ⟨Nat.le_of_ble_eq_true rfl, Nat.le_of_ble_eq_true rfl⟩ ⟨rfl, rfl⟩ ⟨Nat.le_of_ble_eq_true rfl, Nat.le_of_ble_eq_true rfl⟩ (ct_J7_fill_53178 (N := 20) (by assumption) (by decide)) rfl (by rfl) (by exact Nat.le_of_ble_eq_true rfl) (fun r h1 hp => ?_)
  obtain ⟨rfl, rfl⟩ := hp
  refine V_aload_n (pc := 26) X dX6_restart_26 rfl (by first | decide | omega | assumption) ?_
  refine V_gz (pc := 27) X dX6_restart_27 f_RX6_16 (by first | rfl | assumption | (simp only [*]; done) | omega) 2 rfl (show _ = m from by simp [z_st, z_rw, *]) ?_
  refine V_iconst (pc := 30) X dX6_restart_30 ?_
  refine V_pz (pc := 31) X dX6_restart_31 f_RX6_34 (by first | rfl | assumption | (simp only [*]; done) | omega) (fun b => z_fitI b _) 1 rfl ?_
  refine V_aload_n (pc := 34) X dX6_restart_34 rfl (by first | decide | omega | assumption) ?_
  refine V_gz (pc := 35) X dX6_restart_35 f_RX6_16 (by first | rfl | assumption | (simp only [*]; done) | omega) 2 rfl (show _ = m from by simp [z_st, z_rw, *]) ?_
  refine V_aload_n (pc := 38) X dX6_restart_38 rfl (by first | decide | omega | assumption) ?_
  refine V_gz (pc := 39) X dX6_restart_39 f_RX6_37 (by first | rfl | assumption | (simp only [*]; done) | omega) 5 rfl (show _ = h P 5 from by simp [z_st, z_rw, *]) ?_
  refine V_pz (pc := 42) X dX6_restart_42 f_RX6_42 (by first | rfl | assumption | (simp only [*]; done) | omega) (fun b => z_fitI b _) 2 rfl ?_
  refine V_aload_n (pc := 45) X dX6_restart_45 rfl (by first | decide | omega | assumption) ?_
  refine V_gz (pc := 46) X dX6_restart_46 f_RX6_16 (by first | rfl | assumption | (simp only [*]; done) | omega) 2 rfl (show _ = m from by simp [z_st, z_rw, *]) ?_
  refine V_aload_n (pc := 49) X dX6_restart_49 rfl (by first | decide | omega | assumption) ?_
  refine V_gz (pc := 50) X dX6_restart_50 f_RX6_43 (by first | rfl | assumption | (simp only [*]; done) | omega) 6 rfl (show _ = h P 6 from by simp [z_st, z_rw, *]) ?_
  refine V_pz (pc := 53) X dX6_restart_53 f_RX6_46 (by first | rfl | assumption | (simp only [*]; done) | omega) (fun b => z_fitI b _) 3 rfl ?_
  refine V_vret (st := []) (pc := 56) X hQ dX6_restart_56 rfl rfl ?_
  exact ⟨rfl, rfl⟩
set_option maxHeartbeats 4000000 in
set_option maxRecDepth 100000 in
theorem ct_X6_loseOldest {h : z_H} {k : Int} (kk : z_kd 107 k = (0, 5)) (rk0 : h k 0 = k + 1) (kk1 : z_kd 107 (k + 1) = (3, 11)) (hmm : ∀ i, 0 ≤ i → i < 11 → z_kd 107 (h (k + 1) i) = (0, 1)) : z_Ct mX6_loseOldest 107 [(2, k)] h (z_void (z_rw h (k + 1) (c_losF h k))) := by
  refine z_mk (L := [(2, k), (9, 0), (9, 0)]) oX6_loseOldest.2.2.2.2 (Nat.le_of_ble_eq_true rfl) rfl ?_
  intro Γ X hQ
  have k0 := (z_kd_spec kk (Nat.ne_of_beq_eq_false rfl)).1
  have e1 : k ≠ k + 1 := by omega
  have hm0 := hmm 0 (by decide) (by decide)
  have hp0 := (z_kd_spec hm0 (Nat.ne_of_beq_eq_false rfl)).1
  refine V_aload_n (pc := 0) X dX6_loseOldest_0 rfl (by first | decide | omega | assumption) ?_
  refine V_gz (pc := 1) X dX6_loseOldest_1 f_RX6_11 (by first | rfl | assumption | (simp only [*]; done) | omega) 0 rfl rk0 ?_
  refine V_iconst (pc := 4) X dX6_loseOldest_4 ?_
  refine V_aald3 (pc := 5) X dX6_loseOldest_5 (by first | rfl | assumption | (simp only [*]; done) | omega) (by omega) (by omega) (by decide) rfl ?_
  refine V_astore_n (pc := 6) X dX6_loseOldest_6 (by exact Nat.le_of_ble_eq_true rfl) rfl (by first | decide | omega | assumption) ?_
  refine V_iconst (pc := 7) X dX6_loseOldest_7 ?_
  refine V_istore_n (pc := 8) X dX6_loseOldest_8 (by exact Nat.le_of_ble_eq_true rfl) rfl ?_
  have lp_9 : ∀ (m : Nat) (i : Int), (10 - i).toNat < m → 0 ≤ i → i ≤ 10 → z_V Γ (107, 0, 0) 9 [(2, k), (2, h (k + 1) 0), (0, i)] [] (z_rw h (k + 1) (fun r => if 0 ≤ r ∧ r < i then h (k + 1) (r + 1) else h (k + 1) r)) := by
    intro m
    induction m with
    | zero => intro i hm; exact absurd hm (Nat.not_lt_zero _)
    | succ m ih_9 =>
      intro i hm hi0 hi1
      have e3 : z_rw h (k + 1) (fun r => if 0 ≤ r ∧ r < i then h (k + 1) (r + 1) else h (k + 1) r) k 0 = k + 1 := by rw [z_rw_ne h _ e1]; exact rk0
      have hmi := hmm (i + 1) (by omega)
      refine V_iload_n (pc := 9) X dX6_loseOldest_9 rfl ?_
      refine V_bipush (pc := 10) X dX6_loseOldest_10 (by decide) ?_
      refine V_icmp_ge (pc := 12) X 35 dX6_loseOldest_12 (by decide) ⟨by omega, by omega⟩ ⟨by omega, by omega⟩ (fun c_12 => ?_) (fun c_12 => ?_)
      · skip
        refine V_aload_n (pc := 35) X dX6_loseOldest_35 rfl (by first | decide | omega | assumption) ?_
        refine V_gz (pc := 36) X dX6_loseOldest_36 f_RX6_11 (by first | rfl | assumption | (simp only [*]; done) | omega) 0 rfl e3 ?_
        refine V_bipush (pc := 39) X dX6_loseOldest_39 (by decide) ?_
        refine V_aload_n (pc := 41) X dX6_loseOldest_41 rfl (by first | decide | omega | assumption) ?_
        refine V_aast3 (pc := 42) X dX6_loseOldest_42 (by first | rfl | assumption | (simp only [*]; done) | omega) hm0 (by omega) (by omega) (by decide) ?_
        rw [z_rw_st]
        refine V_vret (st := []) (pc := 43) X hQ dX6_loseOldest_43 rfl rfl ?_
        exact ⟨rfl, by (obtain rfl : i = 10 := by omega); rfl⟩
      · skip
        refine V_aload_n (pc := 15) X dX6_loseOldest_15 rfl (by first | decide | omega | assumption) ?_
        refine V_gz (pc := 16) X dX6_loseOldest_16 f_RX6_11 (by first | rfl | assumption | (simp only [*]; done) | omega) 0 rfl e3 ?_
        refine V_iload_n (pc := 19) X dX6_loseOldest_19 rfl ?_
        refine V_aload_n (pc := 20) X dX6_loseOldest_20 rfl (by first | decide | omega | assumption) ?_
        refine V_gz (pc := 21) X dX6_loseOldest_21 f_RX6_11 (by first | rfl | assumption | (simp only [*]; done) | omega) 0 rfl e3 ?_
        refine V_iload_n (pc := 24) X dX6_loseOldest_24 rfl ?_
        refine V_iconst (pc := 25) X dX6_loseOldest_25 ?_
        refine V_iadd (pc := 26) X dX6_loseOldest_26 ?_
        refine V_aald3 (pc := 27) X dX6_loseOldest_27 (by first | rfl | assumption | (simp only [*]; done) | omega) (by omega) (by omega) (by decide) (show _ = h (k + 1) (i + 1) from by rw [z_rw_at]; exact if_neg (by omega)) ?_
        refine V_aast3 (pc := 28) X dX6_loseOldest_28 (by first | rfl | assumption | (simp only [*]; done) | omega) (hmi (by omega)) (by omega) (by omega) (by decide) ?_
        rw [z_rw_st]
        refine V_iinc (pc := 29) X dX6_loseOldest_29 rfl rfl ?_
        refine V_goto (pc := 32) X 9 dX6_loseOldest_32 (by decide) ?_
        refine V_heap ?_ (ih_9 (i + 1) (by omega) (by omega) (by omega))
        congr 1
        funext r
        by_cases e : r = i
        · rw [if_pos e, if_pos (by omega), e]
        · rw [if_neg e]
          by_cases e5 : 0 ≤ r ∧ r < i
          · rw [if_pos e5, if_pos (by omega)]
          · rw [if_neg e5, if_neg (by omega)]
  refine V_heap (h' := z_rw h (k + 1) (fun r => if 0 ≤ r ∧ r < 0 then h (k + 1) (r + 1) else h (k + 1) r)) (by rw [show (fun r => if 0 ≤ r ∧ r < 0 then h (k + 1) (r + 1) else h (k + 1) r) = h (k + 1) from by funext r; rw [if_neg (by omega)]]; exact (z_rw_same h (k + 1)).symm) ?_
  exact lp_9 _ 0 (Nat.lt_succ_self _) (by decide) (by decide)
set_option maxHeartbeats 4000000 in
set_option maxRecDepth 100000 in
theorem ct_X6_retreat {h : z_H} {k : Int} (kk : z_kd 107 k = (0, 5)) (rk0 : h k 0 = k + 1) (kk1 : z_kd 107 (k + 1) = (3, 11)) (hmm : ∀ i, 0 ≤ i → i < 11 → z_kd 107 (h (k + 1) i) = (0, 1)) (hp : 1 ≤ h k 1 ∧ h k 1 ≤ 10) : z_Ct mX6_retreat 107 [(2, k)] h (z_void (z_st (z_st h k 1 (h k 1 - 1)) k 2 (h (k + 1) (h k 1 - 1)))) := by
  refine z_mk (L := [(2, k)]) oX6_retreat.2.2.2.2 (Nat.le_of_ble_eq_true rfl) rfl ?_
  intro Γ X hQ
  have k0 := (z_kd_spec kk (Nat.ne_of_beq_eq_false rfl)).1
  have e1 : k ≠ k + 1 := by omega
  have e2 : k + 1 ≠ k := by omega
  refine V_aload_n (pc := 0) X dX6_retreat_0 rfl (by first | decide | omega | assumption) ?_
  refine V_dup (pc := 1) X dX6_retreat_1 (Nat.ne_of_beq_eq_false rfl) ?_
  refine V_gz (pc := 2) X dX6_retreat_2 f_RX6_20 (by first | rfl | assumption | (simp only [*]; done) | omega) 1 rfl rfl ?_
  refine V_iconst (pc := 5) X dX6_retreat_5 ?_
  refine V_isub (pc := 6) X dX6_retreat_6 ?_
  refine V_pz (pc := 7) X dX6_retreat_7 f_RX6_20 (by first | rfl | assumption | (simp only [*]; done) | omega) (fun b => z_fitI b _) 1 rfl ?_
  refine V_aload_n (pc := 10) X dX6_retreat_10 rfl (by first | decide | omega | assumption) ?_
  refine V_aload_n (pc := 11) X dX6_retreat_11 rfl (by first | decide | omega | assumption) ?_
  refine V_gz (pc := 12) X dX6_retreat_12 f_RX6_11 (by first | rfl | assumption | (simp only [*]; done) | omega) 0 rfl (show _ = k + 1 from by simp [z_st, rk0]) ?_
  refine V_aload_n (pc := 15) X dX6_retreat_15 rfl (by first | decide | omega | assumption) ?_
  refine V_gz (pc := 16) X dX6_retreat_16 f_RX6_20 (by first | rfl | assumption | (simp only [*]; done) | omega) 1 rfl (show _ = h k 1 - 1 from by simp [z_st]) ?_
  refine V_aald3 (pc := 19) X dX6_retreat_19 (by first | rfl | assumption | (simp only [*]; done) | omega) (by omega) (by omega) (by decide) (show _ = h (k + 1) (h k 1 - 1) from by simp [z_st, e2]) ?_
  refine V_pz (pc := 20) X dX6_retreat_20 f_RX6_16 (by first | rfl | assumption | (simp only [*]; done) | omega) (fun b => z_fitR b _ rfl) 2 rfl ?_
  refine V_vret (st := []) (pc := 23) X hQ dX6_retreat_23 rfl rfl ?_
  exact ⟨rfl, rfl⟩
set_option maxHeartbeats 4000000 in
set_option maxRecDepth 100000 in
theorem ct_X6_advance {h : z_H} {k : Int} (hSt : c_St h k) (hMs : c_Ms h) : z_Ct mX6_advance 107 [(2, k)] h (z_ans (2, c_advR h k) (c_advH h k)) := by
  refine z_mk (L := [(2, k)]) oX6_advance.2.2.2.2 (Nat.le_of_ble_eq_true rfl) rfl ?_
  intro Γ X hQ
  obtain ⟨kk, rk0, kk1, hmm, hinj, hp, hpr⟩ := id hSt
  have k0 := (z_kd_spec kk (Nat.ne_of_beq_eq_false rfl)).1
  have cut_26 : ∀ (h1 : z_H), h1 = c_adv1 h k → z_V Γ (107, 0, 0) 26 [(2, k)] [] h1 := by
    intro h1 eh1
    obtain ⟨g1, g2, g3, g3j, g4⟩ := c_adv1_ok hSt hMs
    have q1 := (g3 (c_adv1 h k k 1) (by omega) (by omega)).1
    have q2 := (g3 (c_adv1 h k k 1 - 1) (by omega) (by omega)).1
    have g5 : c_adv1 h k (k + 1) (c_adv1 h k k 1) ≠ c_adv1 h k (k + 1) (c_adv1 h k k 1 - 1) := fun e => by have := g3j _ _ (by omega) (by omega) (by omega) (by omega) e; omega
    have q3 := (z_kd_spec q1 (Nat.ne_of_beq_eq_false rfl)).1
    have q4 := (z_kd_spec q2 (Nat.ne_of_beq_eq_false rfl)).1
    have n1 : c_adv1 h k (k + 1) (c_adv1 h k k 1) ≠ k := z_ne_kd q1 kk (by decide)
    have gM : c_Ms (z_st (c_adv1 h k) k 2 (c_adv1 h k (k + 1) (c_adv1 h k k 1))) := fun m hm => by rw [z_st_cell _ (z_ne_kd hm kk (by decide))]; exact g1 m hm
    have n2 : k + 1 ≠ k := by omega
    have n3 : k ≠ c_adv1 h k (k + 1) (c_adv1 h k k 1) := fun e => n1 e.symm
    have n4 : k ≠ c_adv1 h k (k + 1) (c_adv1 h k k 1) + 1 := z_ne_kd kk (z_mo_row q1) (by decide)
    subst eh1
    refine V_aload_n (pc := 26) X dX6_advance_26 rfl (by first | decide | omega | assumption) ?_
    refine V_aload_n (pc := 27) X dX6_advance_27 rfl (by first | decide | omega | assumption) ?_
    refine V_gz (pc := 28) X dX6_advance_28 f_RX6_11 (by first | rfl | assumption | (simp only [*]; done) | omega) 0 rfl g2 ?_
    refine V_aload_n (pc := 31) X dX6_advance_31 rfl (by first | decide | omega | assumption) ?_
    refine V_gz (pc := 32) X dX6_advance_32 f_RX6_20 (by first | rfl | assumption | (simp only [*]; done) | omega) 1 rfl rfl ?_
    refine V_aald3 (pc := 35) X dX6_advance_35 (by first | rfl | assumption | (simp only [*]; done) | omega) (by omega) (by omega) (by decide) rfl ?_
    refine V_pz (pc := 36) X dX6_advance_36 f_RX6_16 (by first | rfl | assumption | (simp only [*]; done) | omega) (fun b => z_fitR b _ rfl) 2 rfl ?_
    refine V_aload_n (pc := 39) X dX6_advance_39 rfl (by first | decide | omega | assumption) ?_
    refine V_gz (pc := 40) X dX6_advance_40 f_RX6_16 (by first | rfl | assumption | (simp only [*]; done) | omega) 2 rfl (show _ = c_adv1 h k (k + 1) (c_adv1 h k k 1) from by simp [z_st]) ?_
    refine V_aload_n (pc := 43) X dX6_advance_43 rfl (by first | decide | omega | assumption) ?_
    refine V_gz (pc := 44) X dX6_advance_44 f_RX6_11 (by first | rfl | assumption | (simp only [*]; done) | omega) 0 rfl (show _ = k + 1 from by simp [z_st, g2]) ?_
    refine V_aload_n (pc := 47) X dX6_advance_47 rfl (by first | decide | omega | assumption) ?_
    refine V_gz (pc := 48) X dX6_advance_48 f_RX6_20 (by first | rfl | assumption | (simp only [*]; done) | omega) 1 rfl (show _ = c_adv1 h k k 1 from by simp [z_st]) ?_
    refine V_iconst (pc := 51) X dX6_advance_51 ?_
    refine V_isub (pc := 52) X dX6_advance_52 ?_
    refine V_aald3 (pc := 53) X dX6_advance_53 (by first | rfl | assumption | (simp only [*]; done) | omega) (by omega) (by omega) (by decide) (show _ = c_adv1 h k (k + 1) (c_adv1 h k k 1 - 1) from by simp [z_st, n2]) ?_
    refine V_CV (pc := 54) X dX6_advance_54 oX2_become l_RX6_50 eX2_become vX2_become ⟨Nat.le_of_ble_eq_true rfl, Nat.le_of_ble_eq_true rfl⟩ ⟨rfl, rfl⟩ ⟨Nat.le_of_ble_eq_true rfl, Nat.le_of_ble_eq_true rfl⟩ (ct_X2_become gM q1 q2 g5) rfl (by first | rfl | assumption | (simp only [*]; done) | omega) (by intro q h; cases h; rfl) rfl (by rfl) (by exact Nat.le_of_ble_eq_true rfl) (fun r h1 hp => ?_)
    obtain ⟨rfl, rfl⟩ := hp
    refine V_aload_n (pc := 57) X dX6_advance_57 rfl (by first | decide | omega | assumption) ?_
    refine V_gz (pc := 58) X dX6_advance_58 f_RX6_16 (by first | rfl | assumption | (simp only [*]; done) | omega) 2 rfl (show _ = c_adv1 h k (k + 1) (c_adv1 h k k 1) from by simp [c_becH, z_st, z_cp, n3, n4]) ?_
    refine V_aret (st := []) (pc := 61) X hQ dX6_advance_61 rfl (by first | decide | omega | assumption) rfl ?_
    exact ⟨rfl, rfl⟩
  refine V_aload_n (pc := 0) X dX6_advance_0 rfl (by first | decide | omega | assumption) ?_
  refine V_gz (pc := 1) X dX6_advance_1 f_RX6_20 (by first | rfl | assumption | (simp only [*]; done) | omega) 1 rfl rfl ?_
  refine V_bipush (pc := 4) X dX6_advance_4 (by decide) ?_
  refine V_icmp_ge (pc := 6) X 22 dX6_advance_6 (by decide) ⟨by omega, by omega⟩ ⟨by omega, by omega⟩ (fun c_6 => ?_) (fun c_6 => ?_)
  · skip
    refine V_aload_n (pc := 22) X dX6_advance_22 rfl (by first | decide | omega | assumption) ?_
    refine V_CV (pc := 23) X dX6_advance_23 oX6_loseOldest l_RX6_47 eX6_loseOldest vX6_loseOldest ⟨Nat.le_of_ble_eq_true rfl, Nat.le_of_ble_eq_true rfl⟩ ⟨rfl, rfl⟩ ⟨Nat.le_of_ble_eq_true rfl, Nat.le_of_ble_eq_true rfl⟩ (ct_X6_loseOldest kk rk0 kk1 (fun i a b => (hmm i a b).1)) rfl (by first | rfl | assumption | (simp only [*]; done) | omega) (by intro q h; cases h; rfl) rfl (by rfl) (by exact Nat.le_of_ble_eq_true rfl) (fun r h1 hp => ?_)
    obtain ⟨rfl, rfl⟩ := hp
    exact cut_26 _ (by unfold c_adv1; first | rw [if_pos (by omega)] | rw [if_neg (by omega)])
  · skip
    refine V_aload_n (pc := 9) X dX6_advance_9 rfl (by first | decide | omega | assumption) ?_
    refine V_dup (pc := 10) X dX6_advance_10 (Nat.ne_of_beq_eq_false rfl) ?_
    refine V_gz (pc := 11) X dX6_advance_11 f_RX6_20 (by first | rfl | assumption | (simp only [*]; done) | omega) 1 rfl rfl ?_
    refine V_iconst (pc := 14) X dX6_advance_14 ?_
    refine V_iadd (pc := 15) X dX6_advance_15 ?_
    refine V_pz (pc := 16) X dX6_advance_16 f_RX6_20 (by first | rfl | assumption | (simp only [*]; done) | omega) (fun b => z_fitI b _) 1 rfl ?_
    refine V_goto (pc := 19) X 26 dX6_advance_19 (by decide) ?_
    exact cut_26 _ (by unfold c_adv1; first | rw [if_pos (by omega)] | rw [if_neg (by omega)])
set_option maxHeartbeats 4000000 in
set_option maxRecDepth 100000 in
theorem ct_X6_become {h : z_H} {k k2 : Int} (hSt : c_St h k) (hS2 : c_St h k2) (hMs : c_Ms h) (hd : k + 22 < k2 ∨ k2 + 22 < k) : z_Ct mX6_become 107 [(2, k), (2, k2)] h (z_void (c_sbH h k k2)) := by
  refine z_mk (L := [(2, k), (2, k2), (9, 0)]) oX6_become.2.2.2.2 (Nat.le_of_ble_eq_true rfl) rfl ?_
  intro Γ X hQ
  obtain ⟨kk, rk0, kk1, hmm, hinj, hp, hpr⟩ := id hSt
  obtain ⟨lk, rl0, lk1, hml, hinjl, hpl, hprl⟩ := id hS2
  have k0 := (z_kd_spec kk (Nat.ne_of_beq_eq_false rfl)).1
  have l0 := (z_kd_spec lk (Nat.ne_of_beq_eq_false rfl)).1
  have hmA : ∀ i, 0 ≤ i → i < 11 → z_kd 107 (h (k + 1) i) = (0, 1) := fun i a b => (hmm i a b).1
  refine V_aload_n (pc := 0) X dX6_become_0 rfl (by first | decide | omega | assumption) ?_
  refine V_aload_n (pc := 1) X dX6_become_1 rfl (by first | decide | omega | assumption) ?_
  refine V_gz (pc := 2) X dX6_become_2 f_RX6_20 (by first | rfl | assumption | (simp only [*]; done) | omega) 1 rfl rfl ?_
  refine V_pz (pc := 5) X dX6_become_5 f_RX6_20 (by first | rfl | assumption | (simp only [*]; done) | omega) (fun b => z_fitI b _) 1 rfl ?_
  refine V_iconst (pc := 8) X dX6_become_8 ?_
  refine V_istore_n (pc := 9) X dX6_become_9 (by exact Nat.le_of_ble_eq_true rfl) rfl ?_
  have lp_10 : ∀ (m : Nat) (i : Nat), 12 - i < m → (i : Int) ≤ h k2 1 + 1 → z_V Γ (107, 0, 0) 10 [(2, k), (2, k2), (0, (i : Int))] [] (c_sbN h k k2 i) := by
    intro m
    induction m with
    | zero => intro i hm; exact absurd hm (Nat.not_lt_zero _)
    | succ m ih_10 =>
      intro i hm hi1
      have hi11 : i ≤ 11 := by omega
      have c1 := c_sbN_k (k' := k2) kk hmA i hi11
      have c2 := c_sbN_cell (k := k) (k' := k2) hmA (q := k + 1) (by omega) (by rw [kk1]; decide) (by rw [kk1]; decide) i hi11
      have c3 := c_sbN_cell (k := k) (k' := k2) hmA (q := k2) (by omega) (by rw [lk]; decide) (by rw [lk]; decide) i hi11
      have c4 := c_sbN_cell (k := k) (k' := k2) hmA (q := k2 + 1) (by omega) (by rw [lk1]; decide) (by rw [lk1]; decide) i hi11
      have c5 := c_sbN_Ms (k' := k2) kk hMs hmA i hi11
      have v1 : c_sbN h k k2 i k 1 = h k2 1 := by rw [c1, z_st_at]
      have v2 : c_sbN h k k2 i k 0 = k + 1 := by rw [c1, z_st_slot h (by decide)]; exact rk0
      have v3 : c_sbN h k k2 i k2 0 = k2 + 1 := by rw [c3]; exact rl0
      refine V_iload_n (pc := 10) X dX6_become_10 rfl ?_
      refine V_aload_n (pc := 11) X dX6_become_11 rfl (by first | decide | omega | assumption) ?_
      refine V_gz (pc := 12) X dX6_become_12 f_RX6_20 (by first | rfl | assumption | (simp only [*]; done) | omega) 1 rfl v1 ?_
      refine V_icmp_gt (pc := 15) X 39 dX6_become_15 (by decide) ⟨by omega, by omega⟩ ⟨by omega, by omega⟩ (fun c_15 => ?_) (fun c_15 => ?_)
      · skip
        refine V_aload_n (pc := 39) X dX6_become_39 rfl (by first | decide | omega | assumption) ?_
        refine V_aload_n (pc := 40) X dX6_become_40 rfl (by first | decide | omega | assumption) ?_
        refine V_gz (pc := 41) X dX6_become_41 f_RX6_11 (by first | rfl | assumption | (simp only [*]; done) | omega) 0 rfl v2 ?_
        refine V_aload_n (pc := 44) X dX6_become_44 rfl (by first | decide | omega | assumption) ?_
        refine V_gz (pc := 45) X dX6_become_45 f_RX6_20 (by first | rfl | assumption | (simp only [*]; done) | omega) 1 rfl v1 ?_
        refine V_aald3 (pc := 48) X dX6_become_48 (by first | rfl | assumption | (simp only [*]; done) | omega) (by omega) (by omega) (by decide) (show _ = h (k + 1) (h k2 1) from by rw [c2]) ?_
        refine V_pz (pc := 49) X dX6_become_49 f_RX6_16 (by first | rfl | assumption | (simp only [*]; done) | omega) (fun b => z_fitR b _ rfl) 2 rfl ?_
        refine V_vret (st := []) (pc := 52) X hQ dX6_become_52 rfl rfl ?_
        exact ⟨rfl, by unfold c_sbH; rw [show (h k2 1).toNat + 1 = i by omega]⟩
      · skip
        refine V_aload_n (pc := 18) X dX6_become_18 rfl (by first | decide | omega | assumption) ?_
        have m1 := (hmm i (by omega) (by omega)).1
        have m2 := (hml i (by omega) (by omega)).1
        have m3 : h (k + 1) i ≠ h (k2 + 1) i := by have a1 := (hmm i (by omega) (by omega)).2; have a2 := (hml i (by omega) (by omega)).2; omega
        have m4 := (z_kd_spec m1 (Nat.ne_of_beq_eq_false rfl)).1
        have m5 := (z_kd_spec m2 (Nat.ne_of_beq_eq_false rfl)).1
        refine V_gz (pc := 19) X dX6_become_19 f_RX6_11 (by first | rfl | assumption | (simp only [*]; done) | omega) 0 rfl v2 ?_
        refine V_iload_n (pc := 22) X dX6_become_22 rfl ?_
        refine V_aald3 (pc := 23) X dX6_become_23 (by first | rfl | assumption | (simp only [*]; done) | omega) (by omega) (by omega) (by decide) (show _ = h (k + 1) i from by rw [c2]) ?_
        refine V_aload_n (pc := 24) X dX6_become_24 rfl (by first | decide | omega | assumption) ?_
        refine V_gz (pc := 25) X dX6_become_25 f_RX6_11 (by first | rfl | assumption | (simp only [*]; done) | omega) 0 rfl v3 ?_
        refine V_iload_n (pc := 28) X dX6_become_28 rfl ?_
        refine V_aald3 (pc := 29) X dX6_become_29 (by first | rfl | assumption | (simp only [*]; done) | omega) (by omega) (by omega) (by decide) (show _ = h (k2 + 1) i from by rw [c4]) ?_
        refine V_CV (pc := 30) X dX6_become_30 oX2_become l_RX6_50 eX2_become vX2_become ⟨Nat.le_of_ble_eq_true rfl, Nat.le_of_ble_eq_true rfl⟩ ⟨rfl, rfl⟩ ⟨Nat.le_of_ble_eq_true rfl, Nat.le_of_ble_eq_true rfl⟩ (ct_X2_become c5 m1 m2 m3) rfl (by first | rfl | assumption | (simp only [*]; done) | omega) (by intro q h; cases h; rfl) rfl (by rfl) (by exact Nat.le_of_ble_eq_true rfl) (fun r h1 hp => ?_)
        obtain ⟨rfl, rfl⟩ := hp
        refine V_iinc (pc := 33) X dX6_become_33 rfl rfl ?_
        refine V_goto (pc := 36) X 10 dX6_become_36 (by decide) ?_
        exact ih_10 (i + 1) (by omega) (by omega)
  exact lp_10 _ 0 (Nat.lt_succ_self _) (by omega)
