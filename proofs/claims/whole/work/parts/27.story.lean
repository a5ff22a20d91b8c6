/-! rows replaced; the story's cells -/
def z_rw (h : z_H) (K : Int) (f : Int → Int) : z_H := fun q r => if q = K then f r else h q r
theorem z_rw_same (h : z_H) (K : Int) : z_rw h K (h K) = h := by
  funext q r
  unfold z_rw
  by_cases e : q = K
  · rw [if_pos e, e]
  · rw [if_neg e]
theorem z_rw_ne (h : z_H) {K : Int} (f : Int → Int) {q : Int} (e : q ≠ K) : z_rw h K f q = h q := by
  funext r
  unfold z_rw
  rw [if_neg e]
theorem z_rw_at (h : z_H) (K : Int) (f : Int → Int) : z_rw h K f K = f := by
  funext r
  unfold z_rw
  rw [if_pos rfl]
theorem z_rw_st (h : z_H) (K : Int) (f : Int → Int) (i v : Int) : z_st (z_rw h K f) K i v = z_rw h K (fun r => if r = i then v else f r) := by
  funext q r
  unfold z_st z_rw
  by_cases e : q = K
  · simp [e]
  · simp [e]
theorem z_ne_kd {n : Nat} {a b : Int} {x y : Nat × Nat} (h1 : z_kd n a = x) (h2 : z_kd n b = y) (h : x ≠ y) : a ≠ b := fun e => h (by rw [← h1, ← h2, e])
set_option maxRecDepth 100000 in
theorem z_kd_mo : ∀ k : Nat, k < 107 → z_kd 107 (k : Int) = (0, 1) → z_kd 107 ((k : Int) + 1) = (1, 20) := by decide +kernel
theorem z_mo_row {m : Int} (h : z_kd 107 m = (0, 1)) : z_kd 107 (m + 1) = (1, 20) := by
  obtain ⟨h0, h1, h2⟩ := z_kd_spec h (Nat.ne_of_beq_eq_false rfl)
  have := z_kd_mo m.toNat h1 (by rw [h2]; exact h)
  rw [h2] at this
  exact this
/-- every moment has its row of sheets behind it -/
def c_Ms (h : z_H) : Prop := ∀ m, z_kd 107 m = (0, 1) → h m 0 = m + 1
def c_becH (h : z_H) (m o : Int) : z_H := z_st (z_st (z_st (z_cp h (o + 1) (m + 1) 20) m 1 (h o 1)) m 2 (h o 2)) m 3 (h o 3)
def c_rstH (h : z_H) (P : Int) : z_H := z_st (z_st (z_st (z_st (z_rw (z_st (z_st h P 2 5) P 3 4) (P + 1) (fun r => if 0 ≤ r ∧ r < (20 : Nat) then 7 else z_st (z_st h P 2 5) P 3 4 (P + 1) r)) (P + 2) 0 7) P 4 0) P 5 12) P 6 0
def c_shtH (h : z_H) (P : Int) (s : Nat) (c : Int) : z_H := z_st (z_rw h (P + 2) (fun r => if ((2 ^ s : Nat) : Int) ≤ r ∧ r < ((2 ^ s : Nat) : Int) + ((2 ^ s : Nat) : Int) then z_and (h (P + 2) (r - ((2 ^ s : Nat) : Int))) c else h (P + 2) r)) P 4 ((s : Int) + 1)
def c_srsH (h : z_H) (k P m : Int) : z_H := z_st (z_st (z_st (z_rw (z_st (z_st h k 1 0) k 2 m) (m + 1) (fun r => if 0 ≤ r ∧ r < (20 : Nat) then 0 else z_st (z_st h k 1 0) k 2 m (m + 1) r)) m 1 0) m 2 (h P 5)) m 3 (h P 6)
def c_losF (h : z_H) (k : Int) : Int → Int := fun r => if r = 10 then h (k + 1) 0 else if 0 ≤ r ∧ r < 10 then h (k + 1) (r + 1) else h (k + 1) r
def c_adv1 (h : z_H) (k : Int) : z_H := if h k 1 < 10 then z_st h k 1 (h k 1 + 1) else z_rw h (k + 1) (c_losF h k)
def c_tail (h1 : z_H) (k : Int) : z_H := c_becH (z_st h1 k 2 (h1 (k + 1) (h1 k 1))) (h1 (k + 1) (h1 k 1)) (h1 (k + 1) (h1 k 1 - 1))
def c_advR (h : z_H) (k : Int) : Int := c_adv1 h k (k + 1) (c_adv1 h k k 1)
def c_advH (h : z_H) (k : Int) : z_H := c_tail (c_adv1 h k) k
/-- a story: its row of moments, how many are past -/
def c_St (h : z_H) (k : Int) : Prop := z_kd 107 k = (0, 5) ∧ h k 0 = k + 1 ∧ z_kd 107 (k + 1) = (3, 11) ∧ (∀ i, 0 ≤ i → i < 11 → z_kd 107 (h (k + 1) i) = (0, 1) ∧ k + 2 ≤ h (k + 1) i ∧ h (k + 1) i ≤ k + 22) ∧ (∀ i j, 0 ≤ i → i < 11 → 0 ≤ j → j < 11 → h (k + 1) i = h (k + 1) j → i = j) ∧ (0 ≤ h k 1 ∧ h k 1 ≤ 10) ∧ h k 2 = h (k + 1) (h k 1)
theorem c_adv1_ok {h : z_H} {k : Int} (hSt : c_St h k) (hMs : c_Ms h) : c_Ms (c_adv1 h k) ∧ c_adv1 h k k 0 = k + 1 ∧ (∀ i, 0 ≤ i → i < 11 → z_kd 107 (c_adv1 h k (k + 1) i) = (0, 1) ∧ k + 2 ≤ c_adv1 h k (k + 1) i ∧ c_adv1 h k (k + 1) i ≤ k + 22) ∧ (∀ i j, 0 ≤ i → i < 11 → 0 ≤ j → j < 11 → c_adv1 h k (k + 1) i = c_adv1 h k (k + 1) j → i = j) ∧ (1 ≤ c_adv1 h k k 1 ∧ c_adv1 h k k 1 ≤ 10) := by
  obtain ⟨kk, rk0, kk1, hmm, hinj, hp, hpr⟩ := hSt
  have e1 : k + 1 ≠ k := by omega
  have e2 : k ≠ k + 1 := by omega
  unfold c_adv1
  by_cases hc : h k 1 < 10
  · rw [if_pos hc]
    rw [z_st_cell h e1]
    refine ⟨fun m km => by rw [z_st_cell h (z_ne_kd km kk (by decide))]; exact hMs m km, by rw [z_st_slot h (by decide)]; exact rk0, hmm, hinj, by rw [z_st_at]; omega⟩
  · rw [if_neg hc, z_rw_at, z_rw_ne h _ e2]
    refine ⟨fun m km => by rw [z_rw_ne h _ (z_ne_kd km kk1 (by decide))]; exact hMs m km, rk0, fun i h0 h1 => ?_, fun i j h0 h1 h2 h3 he => ?_, by omega⟩
    · unfold c_losF
      by_cases e : i = 10
      · rw [if_pos e]; exact hmm 0 (by decide) (by decide)
      · rw [if_neg e, if_pos (by omega)]; exact hmm (i + 1) (by omega) (by omega)
    · unfold c_losF at he
      by_cases ei : i = 10
      · by_cases ej : j = 10
        · omega
        · rw [if_pos ei, if_neg ej, if_pos (by omega)] at he
          have := hinj 0 (j + 1) (by decide) (by decide) (by omega) (by omega) he
          omega
      · by_cases ej : j = 10
        · rw [if_neg ei, if_pos (by omega), if_pos ej] at he
          have := hinj (i + 1) 0 (by omega) (by omega) (by decide) (by decide) he
          omega
        · rw [if_neg ei, if_pos (by omega), if_neg ej, if_pos (by omega)] at he
          have := hinj (i + 1) (j + 1) (by omega) (by omega) (by omega) (by omega) he
          omega
theorem c_bec_cell {h : z_H} {m o q : Int} (h1 : q ≠ m) (h2 : q ≠ m + 1) : c_becH h m o q = h q := by
  unfold c_becH
  rw [z_st_cell _ h1, z_st_cell _ h1, z_st_cell _ h1]
  funext r
  unfold z_cp
  rw [if_neg h2]
theorem c_bec_Ms {h : z_H} {m o : Int} (hMs : c_Ms h) (km : z_kd 107 m = (0, 1)) : c_Ms (c_becH h m o) := by
  intro q kq
  have e2 : q ≠ m + 1 := z_ne_kd kq (z_mo_row km) (by decide)
  by_cases e : q = m
  · subst e
    unfold c_becH
    rw [z_st_slot _ (by decide), z_st_slot _ (by decide), z_st_slot _ (by decide)]
    unfold z_cp
    rw [if_neg e2]
    exact hMs q kq
  · rw [c_bec_cell e e2]
    exact hMs q kq
def c_sbN (h : z_H) (k k' : Int) : Nat → z_H
  | 0 => z_st h k 1 (h k' 1)
  | n + 1 => c_becH (c_sbN h k k' n) (h (k + 1) (n : Int)) (h (k' + 1) (n : Int))
theorem c_sbN_cell {h : z_H} {k k' : Int} (hmm : ∀ i, 0 ≤ i → i < 11 → z_kd 107 (h (k + 1) i) = (0, 1)) {q : Int} (h0 : q ≠ k) (h1 : z_kd 107 q ≠ (0, 1)) (h2 : z_kd 107 q ≠ (1, 20)) : ∀ n : Nat, n ≤ 11 → c_sbN h k k' n q = h q
  | 0, _ => z_st_cell h h0
  | n + 1, hn => by
    have km := hmm (n : Int) (by omega) (by omega)
    show c_becH (c_sbN h k k' n) (h (k + 1) (n : Int)) (h (k' + 1) (n : Int)) q = h q
    rw [c_bec_cell (fun e => h1 (by rw [e]; exact km)) (fun e => h2 (by rw [e]; exact z_mo_row km))]
    exact c_sbN_cell hmm h0 h1 h2 n (by omega)
theorem c_sbN_k {h : z_H} {k k' : Int} (kk : z_kd 107 k = (0, 5)) (hmm : ∀ i, 0 ≤ i → i < 11 → z_kd 107 (h (k + 1) i) = (0, 1)) : ∀ n : Nat, n ≤ 11 → c_sbN h k k' n k = z_st h k 1 (h k' 1) k
  | 0, _ => rfl
  | n + 1, hn => by
    have km := hmm (n : Int) (by omega) (by omega)
    show c_becH (c_sbN h k k' n) (h (k + 1) (n : Int)) (h (k' + 1) (n : Int)) k = _
    rw [c_bec_cell (z_ne_kd kk km (by decide)) (z_ne_kd kk (z_mo_row km) (by decide))]
    exact c_sbN_k kk hmm n (by omega)
theorem c_sbN_Ms {h : z_H} {k k' : Int} (kk : z_kd 107 k = (0, 5)) (hMs : c_Ms h) (hmm : ∀ i, 0 ≤ i → i < 11 → z_kd 107 (h (k + 1) i) = (0, 1)) : ∀ n : Nat, n ≤ 11 → c_Ms (c_sbN h k k' n)
  | 0, _ => fun m km => by
    show z_st h k 1 (h k' 1) m 0 = m + 1
    rw [z_st_slot h (by decide)]
    exact hMs m km
  | n + 1, hn => c_bec_Ms (c_sbN_Ms kk hMs hmm n (by omega)) (hmm (n : Int) (by omega) (by omega))
/-- a story made like another -/
def c_sbH (h : z_H) (k k' : Int) : z_H := z_st (c_sbN h k k' ((h k' 1).toNat + 1)) k 2 (h (k + 1) (h k' 1))
