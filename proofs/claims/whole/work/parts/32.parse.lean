/-! the class's reading of ITEMS, as functions -/
theorem t_go_all (P : Int → Bool) (T : Int → Int) (N : Int) : ∀ (f : Nat) (s : Int), (N - s).toNat = f → ∀ i, s ≤ i → i < t_go P T N s → P (T i) = true
  | 0, s, h, i, h1, h2 => by rw [t_go_no (Or.inl (by omega))] at h2; omega
  | f + 1, s, h, i, h1, h2 => by
    by_cases hp : P (T s) = true
    · by_cases e : i = s
      · rw [e]; exact hp
      · rw [t_go_yes (by omega) hp] at h2
        exact t_go_all P T N f (s + 1) (by omega) i (by omega) h2
    · rw [t_go_no (Or.inr (by simpa using hp))] at h2; omega
def t_nm (lo hi : Int) (q : t_Q) : Bool := decide (q.2.2.1 = 2 ∧ lo ≤ q.2.2.2 ∧ q.2.2.2 ≤ hi)
def t_nx (T : Int → Int) (N : Int) (q : t_Q) : t_Q := t_tok T N q.1 q.2.2.2
def t_OK (N : Int) (q : t_Q) : Prop := (0 ≤ q.1 ∧ q.1 ≤ N) ∧ (0 ≤ q.2.1 ∧ q.2.1 ≤ N) ∧ (0 ≤ q.2.2.1 ∧ q.2.2.1 ≤ 4) ∧ 0 ≤ q.2.2.2 ∧ q.2.2.2 ≤ 999
theorem t_nx_ok {T : Int → Int} {N : Int} {q : t_Q} (hN : 0 ≤ N ∧ N ≤ 170) (hT : ∀ i, 0 ≤ i → i < 170 → 0 ≤ T i ∧ T i ≤ 255) (hq : t_OK N q) : t_OK N (t_nx T N q) := by
  obtain ⟨h1, h2, h3, h4⟩ := hq
  unfold t_nx t_tok
  have s0 := t_go_ge isB T N q.1
  have s1 := t_go_le isB T h1.2
  generalize t_go isB T N q.1 = s at s0 s1
  have e := t_e_rng (T := T) (N := N) (s := s) (by omega) s1
  refine ⟨⟨?_, ?_⟩, ⟨?_, ?_⟩, ?_, ?_⟩
  · show 0 ≤ t_e T N s; omega
  · show t_e T N s ≤ N; omega
  · show 0 ≤ s; omega
  · show s ≤ N; omega
  · show 0 ≤ t_k T N s ∧ t_k T N s ≤ 4
    unfold t_k
    repeat (split <;> try omega)
  · show 0 ≤ t_v T N s q.2.2.2 ∧ t_v T N s q.2.2.2 ≤ 999
    unfold t_v
    split
    · exact h4
    · have := hT s (by omega) (by omega)
      split
      · omega
      · split
        · refine t_acc_rng (fun i a b => ?_)
          have g := t_go_ge isD T N s
          have := t_go_all isD T N _ s rfl i a (by omega)
          simpa [isD] using this
        · exact h4
def c_szR (T : Int → Int) (N : Int) (H : z_H) (P : Int) (q : t_Q) : Bool × z_H × t_Q :=
  if t_nm 1 5 (t_nx T N q) = false then (false, H, t_nx T N q)
  else if t_nm 1 4 (t_nx T N (t_nx T N q)) = false then (false, z_st H P 2 (t_nx T N q).2.2.2, t_nx T N (t_nx T N q))
  else (decide ((t_nx T N (t_nx T N (t_nx T N q))).2.2.1 = 3), z_st (z_st H P 2 (t_nx T N q).2.2.2) P 3 (t_nx T N (t_nx T N q)).2.2.2, t_nx T N (t_nx T N (t_nx T N q)))
def c_glR (T : Int → Int) (N : Int) (H : z_H) (P : Int) (q : t_Q) : Bool × z_H × t_Q :=
  if t_nm 0 (H P 2 - 1) (t_nx T N q) = false then (false, H, t_nx T N q)
  else if t_nm 0 (H P 3 - 1) (t_nx T N (t_nx T N q)) = false then (false, H, t_nx T N (t_nx T N q))
  else if t_nm 0 7 (t_nx T N (t_nx T N (t_nx T N q))) = false then (false, H, t_nx T N (t_nx T N (t_nx T N q)))
  else (decide ((t_nx T N (t_nx T N (t_nx T N (t_nx T N q)))).2.2.1 = 3), z_st H (P + 1) (4 * (t_nx T N q).2.2.2 + (t_nx T N (t_nx T N q)).2.2.2) (t_nx T N (t_nx T N (t_nx T N q))).2.2.2, t_nx T N (t_nx T N (t_nx T N (t_nx T N q))))
def c_scR (T : Int → Int) (N : Int) (H : z_H) (P : Int) (q : t_Q) : Bool × z_H × t_Q :=
  if t_nm 0 7 (t_nx T N q) = false then (false, H, t_nx T N q)
  else (decide ((t_nx T N (t_nx T N q)).2.2.1 = 3), c_shtH H P (H P 4).toNat (t_nx T N q).2.2.2, t_nx T N (t_nx T N q))
def c_miR (T : Int → Int) (N : Int) (H : z_H) (P : Int) (q : t_Q) : Bool × z_H × t_Q :=
  if t_nm 1 12 (t_nx T N q) = false then (false, H, t_nx T N q)
  else (decide ((t_nx T N (t_nx T N q)).2.2.1 = 3), z_st (z_st H P 5 (t_nx T N q).2.2.2) 1 6 1, t_nx T N (t_nx T N q))
def c_seR (T : Int → Int) (N : Int) (H : z_H) (P : Int) (q : t_Q) : Bool × z_H × t_Q :=
  if t_nm 0 3 (t_nx T N q) = false then (false, H, t_nx T N q)
  else (decide ((t_nx T N (t_nx T N q)).2.2.1 = 3), z_st (z_st H P 6 (t_nx T N q).2.2.2) 1 7 1, t_nx T N (t_nx T N q))
def c_itR (T : Int → Int) (N : Int) (H : z_H) (P : Int) (q : t_Q) (fb : Bool) : Bool × z_H × t_Q :=
  if ¬ q.2.2.1 = 1 then (false, H, q)
  else if q.2.2.2 = 103 then (if fb then c_szR T N H P q else (false, H, q))
  else if q.2.2.2 = 109 then (if H 1 6 = 0 then c_miR T N H P q else (false, H, q))
  else if q.2.2.2 = 112 then c_glR T N H P q
  else if q.2.2.2 = 115 then (if H P 4 < 8 then c_scR T N H P q else (false, H, q))
  else if q.2.2.2 = 121 then (if H 1 7 = 0 then c_seR T N H P q else (false, H, q))
  else (false, H, q)
/-- what stands while the plan at P is being told -/
def c_PR (H : z_H) (P : Int) (T : Int → Int) (N : Int) : Prop := c_Rd H T N ∧ c_Pl H P ∧ (H 1 6 = 0 ∨ H 1 6 = 1) ∧ (H 1 7 = 0 ∨ H 1 7 = 1) ∧ (1 ≤ H P 5 ∧ H P 5 ≤ 12) ∧ (0 ≤ H P 6 ∧ H P 6 ≤ 3)
theorem c_Rd_st {H : z_H} {T : Int → Int} {N P j w : Int} (h1 : P ≠ 1) (h2 : P ≠ 2) (hR : c_Rd H T N) : c_Rd (z_st H P j w) T N := by
  obtain ⟨a, b, c, d, e⟩ := hR
  refine ⟨?_, ?_, ?_, d, e⟩
  · rw [z_st_cell H (fun e => h1 e.symm)]; exact a
  · rw [z_st_cell H (fun e => h1 e.symm)]; exact b
  · rw [z_st_cell H (fun e => h2 e.symm)]; exact c
theorem c_Rd_st1 {H : z_H} {T : Int → Int} {N j w : Int} (h1 : j ≠ 0) (h2 : j ≠ 1) (hR : c_Rd H T N) : c_Rd (z_st H 1 j w) T N := by
  obtain ⟨a, b, c, d, e⟩ := hR
  refine ⟨?_, ?_, ?_, d, e⟩
  · rw [z_st_slot H (fun e => h1 e.symm)]; exact a
  · rw [z_st_slot H (fun e => h2 e.symm)]; exact b
  · rw [z_st_cell H (by decide)]; exact c
theorem c_Rd_rw {H : z_H} {T : Int → Int} {N K : Int} {f : Int → Int} (h1 : K ≠ 1) (h2 : K ≠ 2) (hR : c_Rd H T N) : c_Rd (z_rw H K f) T N := by
  obtain ⟨a, b, c, d, e⟩ := hR
  refine ⟨?_, ?_, ?_, d, e⟩
  · rw [z_rw_ne H _ (fun e => h1 e.symm)]; exact a
  · rw [z_rw_ne H _ (fun e => h1 e.symm)]; exact b
  · rw [z_rw_ne H _ (fun e => h2 e.symm)]; exact c
theorem c_tk_rw (h : z_H) (q : t_Q) {K : Int} (f : Int → Int) (e : K ≠ 1) : z_rw (c_tk h q) K f = c_tk (z_rw h K f) q := by
  funext k r
  unfold z_rw c_tk z_st
  by_cases e1 : k = K
  · subst e1
    simp [e]
  · have e2 : ¬ (1 = K) := fun g => e g.symm
    simp [e1, e2]
theorem c_tk_sht (h : z_H) (q : t_Q) {P : Int} {s : Nat} {c : Int} (e : P ≠ 1) (e2 : P + 2 ≠ 1) : c_shtH (c_tk h q) P s c = c_tk (c_shtH h P s c) q := by
  unfold c_shtH
  rw [c_tk_cell h q e2, c_tk_rw h q _ e2, c_tk_out _ _ (Or.inl e)]
theorem t_nx_ok2 {T : Int → Int} {N : Int} {q : t_Q} (hN : 0 ≤ N ∧ N ≤ 170) (hT : ∀ i, 0 ≤ i → i < 170 → 0 ≤ T i ∧ T i ≤ 255) (h1 : 0 ≤ q.1 ∧ q.1 ≤ N) (h4 : 0 ≤ q.2.2.2 ∧ q.2.2.2 ≤ 999) : t_OK N (t_nx T N q) := t_nx_ok (q := (q.1, 0, 0, q.2.2.2)) hN hT ⟨h1, ⟨Int.le_refl 0, hN.1⟩, ⟨by show (0 : Int) ≤ 0; decide, by show (0 : Int) ≤ 4; decide⟩, h4⟩
theorem c_PR_put {H : z_H} {P : Int} {T : Int → Int} {N j v : Int} (h : c_PR H P T N) (hj : (j = 2 ∧ 1 ≤ v ∧ v ≤ 5) ∨ (j = 3 ∧ 1 ≤ v ∧ v ≤ 4) ∨ (j = 4 ∧ 0 ≤ v ∧ v ≤ 8) ∨ (j = 5 ∧ 1 ≤ v ∧ v ≤ 12) ∨ (j = 6 ∧ 0 ≤ v ∧ v ≤ 3)) : c_PR (z_st H P j v) P T N := by
  obtain ⟨hR, ⟨kp, rp0, rp1, kp1, kp2, hw, hh, hs, hgl, hpi⟩, t6, t7, hm, hse⟩ := h
  have pn1 : P ≠ 1 := fun e => by subst e; revert kp; decide
  have pn2 : P ≠ 2 := fun e => by subst e; revert kp; decide
  have q1 : (1 : Int) ≠ P := fun e => pn1 e.symm
  have e1 : P + 1 ≠ P := by omega
  have e2 : P + 2 ≠ P := by omega
  refine ⟨c_Rd_st pn1 pn2 hR, ⟨kp, ?_, ?_, kp1, kp2, ?_, ?_, ?_, ?_, ?_⟩, ?_, ?_, ?_, ?_⟩
  · rw [z_st_slot H (by omega)]; exact rp0
  · rw [z_st_slot H (by omega)]; exact rp1
  · by_cases e : j = 2
    · subst e; rw [z_st_at]; omega
    · rw [z_st_slot H (by omega)]; exact hw
  · by_cases e : j = 3
    · subst e; rw [z_st_at]; omega
    · rw [z_st_slot H (by omega)]; exact hh
  · by_cases e : j = 4
    · subst e; rw [z_st_at]; omega
    · rw [z_st_slot H (by omega)]; exact hs
  · rw [z_st_cell H e1]; exact hgl
  · rw [z_st_cell H e2]; exact hpi
  · rw [z_st_cell H q1]; exact t6
  · rw [z_st_cell H q1]; exact t7
  · by_cases e : j = 5
    · subst e; rw [z_st_at]; omega
    · rw [z_st_slot H (by omega)]; exact hm
  · by_cases e : j = 6
    · subst e; rw [z_st_at]; omega
    · rw [z_st_slot H (by omega)]; exact hse
theorem c_PR_row {H : z_H} {P : Int} {T : Int → Int} {N K : Int} {f : Int → Int} (h : c_PR H P T N) (hK : (K = P + 1 ∧ ∀ p, 0 ≤ p → p < 20 → 0 ≤ f p ∧ f p < 8) ∨ (K = P + 2 ∧ ∀ p, 0 ≤ p → p < 256 → 0 ≤ f p ∧ f p < 8)) : c_PR (z_rw H K f) P T N := by
  obtain ⟨hR, ⟨kp, rp0, rp1, kp1, kp2, hw, hh, hs, hgl, hpi⟩, t6, t7, hm, hse⟩ := h
  have a1 : P + 1 ≠ 1 := fun e => by rw [e] at kp1; revert kp1; decide
  have a2 : P + 1 ≠ 2 := fun e => by rw [e] at kp1; revert kp1; decide
  have b1 : P + 2 ≠ 1 := fun e => by rw [e] at kp2; revert kp2; decide
  have b2 : P + 2 ≠ 2 := fun e => by rw [e] at kp2; revert kp2; decide
  have k1 : K ≠ 1 := by omega
  have k2 : K ≠ 2 := by omega
  have k3 : (1 : Int) ≠ K := fun e => k1 e.symm
  have k4 : P ≠ K := by omega
  refine ⟨c_Rd_rw k1 k2 hR, ⟨kp, ?_, ?_, kp1, kp2, ?_, ?_, ?_, ?_, ?_⟩, ?_, ?_, ?_, ?_⟩
  · rw [z_rw_ne H _ k4]; exact rp0
  · rw [z_rw_ne H _ k4]; exact rp1
  · rw [z_rw_ne H _ k4]; exact hw
  · rw [z_rw_ne H _ k4]; exact hh
  · rw [z_rw_ne H _ k4]; exact hs
  · rcases hK with ⟨e, hf⟩ | ⟨e, hf⟩
    · subst e; rw [z_rw_at]; exact hf
    · rw [z_rw_ne H _ (by omega)]; exact hgl
  · rcases hK with ⟨e, hf⟩ | ⟨e, hf⟩
    · rw [z_rw_ne H _ (by omega)]; exact hpi
    · subst e; rw [z_rw_at]; exact hf
  · rw [z_rw_ne H _ k3]; exact t6
  · rw [z_rw_ne H _ k3]; exact t7
  · rw [z_rw_ne H _ k4]; exact hm
  · rw [z_rw_ne H _ k4]; exact hse
theorem z_st_rw (H : z_H) (K j v : Int) : z_st H K j v = z_rw H K (fun r => if r = j then v else H K r) := by
  funext q r
  unfold z_st z_rw
  rfl
theorem c_PR_told {H : z_H} {P : Int} {T : Int → Int} {N j : Int} (h : c_PR H P T N) (hj : j = 6 ∨ j = 7) {v : Int} (hv : v = 0 ∨ v = 1) : c_PR (z_st H 1 j v) P T N := by
  obtain ⟨hR, ⟨kp, rp0, rp1, kp1, kp2, hw, hh, hs, hgl, hpi⟩, t6, t7, hm, hse⟩ := h
  have pn1 : P ≠ 1 := fun e => by subst e; revert kp; decide
  have a1 : P + 1 ≠ 1 := fun e => by rw [e] at kp1; revert kp1; decide
  have b1 : P + 2 ≠ 1 := fun e => by rw [e] at kp2; revert kp2; decide
  refine ⟨c_Rd_st1 (by omega) (by omega) hR, ?_, ?_, ?_, ?_, ?_⟩
  · unfold c_Pl
    rw [z_st_cell H pn1, z_st_cell H a1, z_st_cell H b1]
    exact ⟨kp, rp0, rp1, kp1, kp2, hw, hh, hs, hgl, hpi⟩
  · by_cases e : j = 6
    · subst e; rw [z_st_at]; exact hv
    · rw [z_st_slot H (by omega)]; exact t6
  · by_cases e : j = 7
    · subst e; rw [z_st_at]; exact hv
    · rw [z_st_slot H (by omega)]; exact t7
  · rw [z_st_cell H pn1]; exact hm
  · rw [z_st_cell H pn1]; exact hse
theorem t_nm_of {lo hi : Int} {q : t_Q} (h : ¬ t_nm lo hi q = false) : lo ≤ q.2.2.2 ∧ q.2.2.2 ≤ hi := (of_decide_eq_true (show t_nm lo hi q = true by simpa using h)).2
theorem c_PR_sht {H : z_H} {P : Int} {T : Int → Int} {N c : Int} (h : c_PR H P T N) (hs4 : H P 4 < 8) : c_PR (c_shtH H P (H P 4).toNat c) P T N := by
  have hr : c_PR (z_rw H (P + 2) (fun r => if ((2 ^ (H P 4).toNat : Nat) : Int) ≤ r ∧ r < ((2 ^ (H P 4).toNat : Nat) : Int) + ((2 ^ (H P 4).toNat : Nat) : Int) then z_and (H (P + 2) (r - ((2 ^ (H P 4).toNat : Nat) : Int))) c else H (P + 2) r)) P T N := by
    refine c_PR_row h (Or.inr ⟨rfl, fun p a b => ?_⟩)
    obtain ⟨-, ⟨-, -, -, -, -, -, -, -, -, hpi⟩, -⟩ := h
    split
    · have g := hpi (p - ((2 ^ (H P 4).toNat : Nat) : Int)) (by omega) (by omega)
      have := z_and_rngL (x := H (P + 2) (p - ((2 ^ (H P 4).toNat : Nat) : Int))) (y := c) g.1 (by omega)
      omega
    · exact hpi p a b
  exact c_PR_put hr (Or.inr (Or.inr (Or.inl ⟨rfl, by omega, by omega⟩)))
theorem c_itR_ok {H : z_H} {P : Int} {T : Int → Int} {N : Int} {q : t_Q} {fb : Bool} (h : c_PR H P T N) (hq : t_OK N q) : c_PR (c_itR T N H P q fb).2.1 P T N ∧ t_OK N (c_itR T N H P q fb).2.2 := by
  obtain ⟨r10, r11, r2, hN, hT⟩ := h.1
  have k1 := t_nx_ok hN hT hq
  have k2 := t_nx_ok hN hT k1
  have k3 := t_nx_ok hN hT k2
  have k4 := t_nx_ok hN hT k3
  unfold c_itR
  split
  · exact ⟨h, hq⟩
  split
  · split
    · unfold c_szR
      split
      · exact ⟨h, k1⟩
      · split
        · exact ⟨c_PR_put h (Or.inl ⟨rfl, t_nm_of (by assumption)⟩), k2⟩
        · exact ⟨c_PR_put (c_PR_put h (Or.inl ⟨rfl, t_nm_of (by assumption)⟩)) (Or.inr (Or.inl ⟨rfl, t_nm_of (by assumption)⟩)), k3⟩
    · exact ⟨h, hq⟩
  split
  · split
    · unfold c_miR
      split
      · exact ⟨h, k1⟩
      · exact ⟨c_PR_told (c_PR_put h (Or.inr (Or.inr (Or.inr (Or.inl ⟨rfl, t_nm_of (by assumption)⟩))))) (Or.inl rfl) (Or.inr rfl), k2⟩
    · exact ⟨h, hq⟩
  split
  · unfold c_glR
    split
    · exact ⟨h, k1⟩
    · split
      · exact ⟨h, k2⟩
      · split
        · exact ⟨h, k3⟩
        · refine ⟨?_, k4⟩
          rename_i c1 c2 c3
          have b3 := t_nm_of c3
          show c_PR (z_st H (P + 1) _ _) P T N
          rw [z_st_rw]
          refine c_PR_row h (Or.inl ⟨rfl, fun p a b => ?_⟩)
          split
          · omega
          · exact h.2.1.2.2.2.2.2.2.2.2.1 p a b
  split
  · split
    · unfold c_scR
      split
      · exact ⟨h, k1⟩
      · exact ⟨c_PR_sht h (by assumption), k2⟩
    · exact ⟨h, hq⟩
  split
  · split
    · unfold c_seR
      split
      · exact ⟨h, k1⟩
      · exact ⟨c_PR_told (c_PR_put h (Or.inr (Or.inr (Or.inr (Or.inr ⟨rfl, t_nm_of (by assumption)⟩))))) (Or.inr rfl) (Or.inr rfl), k2⟩
    · exact ⟨h, hq⟩
  · exact ⟨h, hq⟩
def c_rdL (T : Int → Int) (N P : Int) : Nat → z_H → t_Q → Int → Int × z_H × t_Q
  | 0, H, q, i => (i, H, q)
  | f + 1, H, q, i => if N ≤ i ∨ q.2.2.1 = 0 then (i, H, q) else if (c_itR T N H P q (decide (i = 0))).1 = false then (-10 - (c_itR T N H P q (decide (i = 0))).2.2.2.1, (c_itR T N H P q (decide (i = 0))).2.1, (c_itR T N H P q (decide (i = 0))).2.2) else c_rdL T N P f (c_itR T N H P q (decide (i = 0))).2.1 (t_nx T N (c_itR T N H P q (decide (i = 0))).2.2) (i + 1)
/-- where the reading begins -/
def c_rd0 (h : z_H) (P : Int) : z_H := z_st (z_st (c_rstH h P) 1 6 0) 1 7 0
theorem c_rd0_ok {h : z_H} {P : Int} {T : Int → Int} {N : Int} (hR : c_Rd h T N) (kp : z_kd 107 P = (0, 2)) (rp0 : h P 0 = P + 1) (rp1 : h P 1 = P + 2) (kp1 : z_kd 107 (P + 1) = (1, 20)) (kp2 : z_kd 107 (P + 2) = (1, 256)) (hpi : ∀ p, 0 ≤ p → p < 256 → 0 ≤ h (P + 2) p ∧ h (P + 2) p < 8) : c_PR (c_rd0 h P) P T N := by
  have pn1 : P ≠ 1 := fun e => by subst e; revert kp; decide
  have pn2 : P ≠ 2 := fun e => by subst e; revert kp; decide
  have a1 : P + 1 ≠ 1 := fun e => by rw [e] at kp1; revert kp1; decide
  have a2 : P + 1 ≠ 2 := fun e => by rw [e] at kp1; revert kp1; decide
  have b1 : P + 2 ≠ 1 := fun e => by rw [e] at kp2; revert kp2; decide
  have b2 : P + 2 ≠ 2 := fun e => by rw [e] at kp2; revert kp2; decide
  have e1 : P ≠ P + 1 := by omega
  have e2 : P ≠ P + 2 := by omega
  have e3 : P + 1 ≠ P := by omega
  have e4 : P + 1 ≠ P + 2 := by omega
  have e5 : P + 2 ≠ P := by omega
  have e6 : P + 2 ≠ P + 1 := by omega
  have hR1 : c_Rd (c_rd0 h P) T N := by
    unfold c_rd0 c_rstH
    exact c_Rd_st1 (by decide) (by decide) (c_Rd_st1 (by decide) (by decide) (c_Rd_st pn1 pn2 (c_Rd_st pn1 pn2 (c_Rd_st pn1 pn2 (c_Rd_st b1 b2 (c_Rd_rw a1 a2 (c_Rd_st pn1 pn2 (c_Rd_st pn1 pn2 hR))))))))
  refine ⟨hR1, ⟨kp, ?_, ?_, kp1, kp2, ?_, ?_, ?_, fun p g1 g2 => ?_, fun p g1 g2 => ?_⟩, ?_, ?_, ?_, ?_⟩
  · simp [c_rd0, c_rstH, z_st, z_rw, pn1, e1, e2, rp0]
  · simp [c_rd0, c_rstH, z_st, z_rw, pn1, e1, e2, rp1]
  · simp [c_rd0, c_rstH, z_st, z_rw, pn1, e1, e2]
  · simp [c_rd0, c_rstH, z_st, z_rw, pn1, e1, e2]
  · simp [c_rd0, c_rstH, z_st, z_rw, pn1, e1, e2]
  · simp [c_rd0, c_rstH, z_st, z_rw, a1, e3, e4, g1, g2]
  · have := hpi p g1 g2
    by_cases hp : p = 0
    · simp [c_rd0, c_rstH, z_st, z_rw, b1, e5, e6, hp]
    · simp [c_rd0, c_rstH, z_st, z_rw, b1, e5, e6, hp]
      exact this
  · exact Or.inl (by simp [c_rd0, z_st])
  · exact Or.inl (by simp [c_rd0, z_st])
  · simp [c_rd0, c_rstH, z_st, z_rw, pn1, e1, e2]
  · simp [c_rd0, c_rstH, z_st, z_rw, pn1, e1, e2]
