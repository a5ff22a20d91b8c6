/-! CLASS AND REFERENCE: a token -/
def g_Tk (q : t_Q) (s : t_R) : Prop := q.1 = s.1 ∧ q.2.1 = s.2.1 ∧ (q.2.2.1 = 0 ↔ s.2.2.1 = 0) ∧ (q.2.2.1 = 3 ↔ s.2.2.1 = 3) ∧ (q.2.2.1 = 1 → s.2.2.1 = 1 ∧ s.2.2.2.1 = q.2.2.2) ∧ (¬ q.2.2.1 = 1 → s.2.2.2.1 = 0) ∧ ∀ lo hi, hi ≤ 99 → t_nm lo hi q = m_nm lo hi s ∧ (t_nm lo hi q = true → q.2.2.2 = s.2.2.2.2)
theorem g_tok (T : Int → Int) (N n v : Int) : g_Tk (t_tok T N n v) (m_tok T N n) := by
  unfold g_Tk t_tok m_tok t_nm m_nm
  dsimp only
  generalize t_go isB T N n = s
  refine ⟨rfl, rfl, ?_⟩
  unfold t_k m_k m_l t_v m_v
  by_cases h1 : N ≤ s
  · simp only [if_pos h1]
    refine ⟨by simp, by simp, by simp, by simp, fun lo hi _ => ⟨by simp, by simp⟩⟩
  · simp only [if_neg h1]
    by_cases h2 : isL (T s) = true
    · simp only [if_pos h2]
      by_cases h3 : t_go isL T N s - s = 1
      · simp only [if_pos h3]
        refine ⟨by simp, by simp, by simp, by simp, fun lo hi _ => ⟨by simp, by simp⟩⟩
      · simp only [if_neg h3]
        refine ⟨by simp, by simp, by simp, by simp, fun lo hi _ => ⟨by simp, by simp⟩⟩
    · simp only [if_neg h2]
      by_cases h4 : isD (T s) = true
      · simp only [if_pos h4]
        by_cases h5 : 99 < t_acc T s (t_go isD T N s - s).toNat ∨ (T s = 48 ∧ 1 < t_go isD T N s - s)
        · simp only [if_pos h5]
          refine ⟨by simp, by simp, by simp, by simp, fun lo hi hh => ⟨?_, by simp⟩⟩
          rw [decide_eq_false (by simp), decide_eq_false (fun g => ?_)]
          by_cases h6 : 1 < t_go isD T N s - s ∧ T s = 48
          · rw [if_pos h6] at g; omega
          · rw [if_neg h6] at g
            rcases h5 with h5 | h5
            · omega
            · exact h6 ⟨h5.2, h5.1⟩
        · simp only [if_neg h5]
          have h6 : ¬ (1 < t_go isD T N s - s ∧ T s = 48) := fun g => h5 (Or.inr ⟨g.2, g.1⟩)
          simp only [if_neg h6]
          refine ⟨by simp, by simp, by simp, by simp, fun lo hi hh => ⟨by simp, by simp⟩⟩
      · simp only [if_neg h4]
        by_cases h5 : T s = 59
        · simp only [if_pos h5]
          refine ⟨by simp, by simp, by simp, by simp, fun lo hi hh => ⟨by simp, by simp⟩⟩
        · simp only [if_neg h5]
          refine ⟨by simp, by simp, by simp, by simp, fun lo hi hh => ⟨by simp, by simp⟩⟩
theorem g_nxt {T : Int → Int} {N : Int} {q : t_Q} {s : t_R} (h : g_Tk q s) : g_Tk (t_nx T N q) (m_nx T N s) := by
  unfold t_nx m_nx
  rw [h.1]
  exact g_tok T N s.1 q.2.2.2
/-- light through sheets of the colours in a row -/
def g_thr (C : Int → Int) (a : Int) : Nat → Int
  | 0 => 7
  | n + 1 => z_and (g_thr C a n) (if tb a (n : Int) = true then C (n : Int) else 7)
theorem g_thr_eq (h : z_H) (a : Int) : ∀ n, r_thr h a n = g_thr (h 91) a n
  | 0 => rfl
  | n + 1 => by
    unfold r_thr g_thr
    rw [g_thr_eq h a n]
theorem g_thr_rng (C : Int → Int) (a : Int) : ∀ n, 0 ≤ g_thr C a n ∧ g_thr C a n < 8
  | 0 => by unfold g_thr; omega
  | n + 1 => by
    have ih := g_thr_rng C a n
    have := z_and_rngL (x := g_thr C a n) (y := if tb a (n : Int) = true then C (n : Int) else 7) ih.1 (by omega)
    unfold g_thr
    omega
theorem g_thr_cg {C D : Int → Int} {a b : Int} : ∀ {n : Nat}, (∀ i : Nat, i < n → tb a (i : Int) = tb b (i : Int) ∧ C (i : Int) = D (i : Int)) → g_thr C a n = g_thr D b n
  | 0, _ => rfl
  | n + 1, h => by
    have ih := g_thr_cg (C := C) (D := D) (a := a) (b := b) (n := n) (fun i hi => h i (by omega))
    have := h n (by omega)
    unfold g_thr
    rw [ih, this.1, this.2]
/-- the plan being told at P, and what the reference has read -/
def g_R (H G : z_H) (P : Int) : Prop := H P 2 = G 89 23 ∧ H P 3 = G 89 24 ∧ H P 4 = G 89 27 ∧ ((H 1 6 = 0 ∧ G 89 28 = -9 ∧ H P 5 = 12) ∨ (H 1 6 = 1 ∧ ¬ G 89 28 = -9 ∧ H P 5 = G 89 28)) ∧ ((H 1 7 = 0 ∧ G 89 29 = -9 ∧ H P 6 = 0) ∨ (H 1 7 = 1 ∧ ¬ G 89 29 = -9 ∧ H P 6 = G 89 29)) ∧ (∀ p, 0 ≤ p → p < 20 → H (P + 1) p = G 101 p) ∧ ∀ a : Nat, a < 2 ^ (G 89 27).toNat → H (P + 2) (a : Int) = g_thr (G 102) (a : Int) (G 89 27).toNat
theorem g_R.num {H G : z_H} {P : Int} (h : g_R H G P) (p1 : P ≠ 1) {j k v : Int} (hj : (j = 2 ∧ k = 23) ∨ (j = 3 ∧ k = 24)) : g_R (z_st H P j v) (z_st G 89 k v) P := by
  obtain ⟨a, b, c, d, e, f, g⟩ := h
  have c1 : z_st H P j v 1 = H 1 := z_st_cell H (fun w => p1 w.symm)
  have c2 : z_st H P j v (P + 1) = H (P + 1) := z_st_cell H (by omega)
  have c3 : z_st H P j v (P + 2) = H (P + 2) := z_st_cell H (by omega)
  have c4 : z_st G 89 k v 101 = G 101 := z_st_cell G (by decide)
  have c5 : z_st G 89 k v 102 = G 102 := z_st_cell G (by decide)
  have hP : ∀ i : Int, i ≠ j → z_st H P j v P i = H P i := fun i hi => z_st_slot H hi
  have hG : ∀ i : Int, i ≠ k → z_st G 89 k v 89 i = G 89 i := fun i hi => z_st_slot G hi
  unfold g_R
  rw [c1, c2, c3, c4, c5, hP 4 (by omega), hP 5 (by omega), hP 6 (by omega), hG 27 (by omega), hG 28 (by omega), hG 29 (by omega)]
  rcases hj with ⟨rfl, rfl⟩ | ⟨rfl, rfl⟩
  · rw [z_st_at, z_st_at, hP 3 (by decide), hG 24 (by decide)]
    exact ⟨rfl, b, c, d, e, f, g⟩
  · rw [z_st_at, z_st_at, hP 2 (by decide), hG 23 (by decide)]
    exact ⟨a, rfl, c, d, e, f, g⟩
theorem g_R.mi {H G : z_H} {P : Int} (h : g_R H G P) (p1 : P ≠ 1) (q1 : P + 1 ≠ 1) (q2 : P + 2 ≠ 1) {v : Int} (hv : ¬ v = -9) : g_R (z_st (z_st H P 5 v) 1 6 1) (z_st G 89 28 v) P := by
  obtain ⟨a, b, c, d, e, f, g⟩ := h
  have hP : ∀ i : Int, i ≠ 5 → z_st (z_st H P 5 v) 1 6 1 P i = H P i := fun i hi => by rw [z_st_cell _ p1, z_st_slot _ hi]
  have hG : ∀ i : Int, i ≠ 28 → z_st G 89 28 v 89 i = G 89 i := fun i hi => z_st_slot G hi
  have e5 : z_st (z_st H P 5 v) 1 6 1 P 5 = v := by rw [z_st_cell _ p1, z_st_at]
  have e7 : z_st (z_st H P 5 v) 1 6 1 1 7 = H 1 7 := by rw [z_st_slot _ (by decide), z_st_cell _ (fun w => p1 w.symm)]
  have c2 : z_st (z_st H P 5 v) 1 6 1 (P + 1) = H (P + 1) := by rw [z_st_cell _ q1, z_st_cell _ (by omega)]
  have c3 : z_st (z_st H P 5 v) 1 6 1 (P + 2) = H (P + 2) := by rw [z_st_cell _ q2, z_st_cell _ (by omega)]
  have c4 : z_st G 89 28 v 101 = G 101 := z_st_cell G (by decide)
  have c5 : z_st G 89 28 v 102 = G 102 := z_st_cell G (by decide)
  unfold g_R
  rw [c2, c3, c4, c5, e5, e7, hP 2 (by decide), hP 3 (by decide), hP 4 (by decide), hP 6 (by decide), hG 23 (by decide), hG 24 (by decide), hG 27 (by decide), hG 29 (by decide), z_st_at, z_st_at]
  exact ⟨a, b, c, Or.inr ⟨rfl, hv, rfl⟩, e, f, g⟩
theorem g_R.se {H G : z_H} {P : Int} (h : g_R H G P) (p1 : P ≠ 1) (q1 : P + 1 ≠ 1) (q2 : P + 2 ≠ 1) {v : Int} (hv : ¬ v = -9) : g_R (z_st (z_st H P 6 v) 1 7 1) (z_st G 89 29 v) P := by
  obtain ⟨a, b, c, d, e, f, g⟩ := h
  have hP : ∀ i : Int, i ≠ 6 → z_st (z_st H P 6 v) 1 7 1 P i = H P i := fun i hi => by rw [z_st_cell _ p1, z_st_slot _ hi]
  have hG : ∀ i : Int, i ≠ 29 → z_st G 89 29 v 89 i = G 89 i := fun i hi => z_st_slot G hi
  have e5 : z_st (z_st H P 6 v) 1 7 1 P 6 = v := by rw [z_st_cell _ p1, z_st_at]
  have e7 : z_st (z_st H P 6 v) 1 7 1 1 6 = H 1 6 := by rw [z_st_slot _ (by decide), z_st_cell _ (fun w => p1 w.symm)]
  have c2 : z_st (z_st H P 6 v) 1 7 1 (P + 1) = H (P + 1) := by rw [z_st_cell _ q1, z_st_cell _ (by omega)]
  have c3 : z_st (z_st H P 6 v) 1 7 1 (P + 2) = H (P + 2) := by rw [z_st_cell _ q2, z_st_cell _ (by omega)]
  have c4 : z_st G 89 29 v 101 = G 101 := z_st_cell G (by decide)
  have c5 : z_st G 89 29 v 102 = G 102 := z_st_cell G (by decide)
  unfold g_R
  rw [c2, c3, c4, c5, e5, e7, hP 2 (by decide), hP 3 (by decide), hP 4 (by decide), hP 5 (by decide), hG 23 (by decide), hG 24 (by decide), hG 27 (by decide), hG 28 (by decide), z_st_at, z_st_at]
  exact ⟨a, b, c, d, Or.inr ⟨rfl, hv, rfl⟩, f, g⟩
theorem g_R.gl {H G : z_H} {P : Int} (h : g_R H G P) (q1 : P + 1 ≠ 1) {i v : Int} : g_R (z_st H (P + 1) i v) (z_st G 101 i v) P := by
  obtain ⟨a, b, c, d, e, f, g⟩ := h
  have c1 : z_st H (P + 1) i v 1 = H 1 := z_st_cell H (fun w => q1 w.symm)
  have c2 : z_st H (P + 1) i v P = H P := z_st_cell H (by omega)
  have c3 : z_st H (P + 1) i v (P + 2) = H (P + 2) := z_st_cell H (by omega)
  have c4 : z_st G 101 i v 89 = G 89 := z_st_cell G (by decide)
  have c5 : z_st G 101 i v 102 = G 102 := z_st_cell G (by decide)
  unfold g_R
  rw [c1, c2, c3, c4, c5]
  refine ⟨a, b, c, d, e, fun p h0 h1 => ?_, g⟩
  by_cases w : p = i
  · rw [w, z_st_at, z_st_at]
  · rw [z_st_slot H w, z_st_slot G w]; exact f p h0 h1
theorem tb_hi {a n : Nat} (h1 : 2 ^ n ≤ a) (h2 : a < 2 ^ n + 2 ^ n) : tb (a : Int) (n : Int) = true ∧ ∀ i : Nat, i < n → tb (a : Int) (i : Int) = tb ((a - 2 ^ n : Nat) : Int) (i : Int) := by
  unfold tb
  have e : a = 2 ^ n * 1 + (a - 2 ^ n) := by omega
  rw [Int.toNat_natCast, Int.toNat_natCast]
  constructor
  · rw [e, Nat.testBit_two_pow_mul_add _ (by omega), if_neg (by omega), Nat.sub_self]
    rfl
  · intro i hi
    rw [Int.toNat_natCast, Int.toNat_natCast]
    conv => lhs; rw [e]
    rw [Nat.testBit_two_pow_mul_add _ (by omega), if_pos hi]
theorem tb_lo {a n : Nat} (h1 : a < 2 ^ n) : tb (a : Int) (n : Int) = false := by
  unfold tb
  rw [Int.toNat_natCast, Int.toNat_natCast]
  exact Nat.testBit_lt_two_pow h1
theorem g_R.sh {H G : z_H} {P : Int} (h : g_R H G P) (p1 : P ≠ 1) (q2 : P + 2 ≠ 1) (h0 : 0 ≤ G 89 27) {v : Int} : g_R (c_shtH H P (H P 4).toNat v) (z_st (z_st G 102 (G 89 27) v) 89 27 (G 89 27 + 1)) P := by
  obtain ⟨a, b, c, d, e, f, g⟩ := h
  unfold c_shtH
  rw [c]
  generalize hn : (G 89 27).toNat = n at *
  have hn2 : G 89 27 = (n : Int) := by omega
  have hP : ∀ (F : Int → Int) (i : Int), i ≠ 4 → z_st (z_rw H (P + 2) F) P 4 ((n : Int) + 1) P i = H P i := fun F i hi => by rw [z_st_slot _ hi, z_rw_ne _ _ (by omega)]
  have hG : ∀ i : Int, i ≠ 27 → z_st (z_st G 102 (G 89 27) v) 89 27 (G 89 27 + 1) 89 i = G 89 i := fun i hi => by rw [z_st_slot _ hi, z_st_cell _ (by decide)]
  have c1 : ∀ F : Int → Int, z_st (z_rw H (P + 2) F) P 4 ((n : Int) + 1) 1 = H 1 := fun F => by rw [z_st_cell _ (fun w => p1 w.symm), z_rw_ne _ _ (fun w => q2 w.symm)]
  have c2 : ∀ F : Int → Int, z_st (z_rw H (P + 2) F) P 4 ((n : Int) + 1) (P + 1) = H (P + 1) := fun F => by rw [z_st_cell _ (by omega), z_rw_ne _ _ (by omega)]
  have c3 : ∀ F : Int → Int, z_st (z_rw H (P + 2) F) P 4 ((n : Int) + 1) (P + 2) = F := fun F => by rw [z_st_cell _ (by omega), z_rw_at]
  have c4 : z_st (z_st G 102 (G 89 27) v) 89 27 (G 89 27 + 1) 101 = G 101 := by rw [z_st_cell _ (by decide), z_st_cell _ (by decide)]
  have c5 : z_st (z_st G 102 (G 89 27) v) 89 27 (G 89 27 + 1) 102 = z_st G 102 (G 89 27) v 102 := z_st_cell _ (by decide)
  unfold g_R
  rw [c1, c2, c3, c4, c5, hP _ 2 (by decide), hP _ 3 (by decide), hP _ 5 (by decide), hP _ 6 (by decide), hG 23 (by decide), hG 24 (by decide), hG 28 (by decide), hG 29 (by decide), z_st_at, z_st_at, hn2]
  refine ⟨a, b, rfl, d, e, f, fun x hx => ?_⟩
  rw [show ((n : Int) + 1).toNat = n + 1 by omega] at hx ⊢
  have hpow : 2 ^ (n + 1) = 2 ^ n + 2 ^ n := by rw [Nat.pow_succ]; omega
  have hrow : ∀ i : Nat, i < n → z_st G 102 (n : Int) v 102 (i : Int) = G 102 (i : Int) := fun i hi => z_st_slot G (by omega)
  show (if ((2 ^ n : Nat) : Int) ≤ (x : Int) ∧ (x : Int) < ((2 ^ n : Nat) : Int) + ((2 ^ n : Nat) : Int) then z_and (H (P + 2) ((x : Int) - ((2 ^ n : Nat) : Int))) v else H (P + 2) (x : Int)) = z_and (g_thr (z_st G 102 (n : Int) v 102) (x : Int) n) (if tb (x : Int) (n : Int) = true then z_st G 102 (n : Int) v 102 (n : Int) else 7)
  by_cases w : 2 ^ n ≤ x
  · have hb := tb_hi w (by omega)
    rw [if_pos (c := ((2 ^ n : Nat) : Int) ≤ (x : Int) ∧ (x : Int) < ((2 ^ n : Nat) : Int) + ((2 ^ n : Nat) : Int)) ⟨by omega, by omega⟩, if_pos hb.1, z_st_at, show (x : Int) - ((2 ^ n : Nat) : Int) = ((x - 2 ^ n : Nat) : Int) by omega, g (x - 2 ^ n) (by omega)]
    congr 1
    exact g_thr_cg (fun i hi => ⟨(hb.2 i hi).symm, (hrow i hi).symm⟩)
  · rw [if_neg (c := ((2 ^ n : Nat) : Int) ≤ (x : Int) ∧ (x : Int) < ((2 ^ n : Nat) : Int) + ((2 ^ n : Nat) : Int)) (fun q => w (by omega)), if_neg (c := tb (x : Int) (n : Int) = true) (by rw [tb_lo (by omega)]; decide), g x (by omega)]
    have hr := g_thr_rng (z_st G 102 (n : Int) v 102) (x : Int) n
    rw [z_and_7r hr.1 hr.2]
    exact g_thr_cg (fun i hi => ⟨rfl, (hrow i hi).symm⟩)
