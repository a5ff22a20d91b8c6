/-! the class's reading of ITEMS, as functions -/
theorem t_go_all (P : Int → Bool) (T : Int → Int) (N : Int) : ∀ (f : Nat) (s : Int), (N - s).toNat = f → ∀ i, s ≤ i → i < t_go P T N s → P (T i) = true
  | 0, s, h, i, h1, h2 => by rw [t_go_no (Or.inl (by omega))] at h2; omega
  | f + 1, s, h, i, h1, h2 => by
    by_cases hp : P (T s) = true
    · by_cases e : i = s
      · rw [e]; exact hp
      · rw [t_go_yes (by omega) hp] at h2
        exact t_go_all P T N f (s + 1) (by omega) i (by omega) h2
    · rw [t_go_no (Or.inr (by simpa using hp))] at h2; omega
def t_nm (lo hi : Int) (q : t_Q) : Bool := decide (q.2.2.1 = 2 ∧ lo ≤ q.2.2.2 ∧ q.2.2.2 ≤ hi)
def t_nx (T : Int → Int) (N : Int) (q : t_Q) : t_Q := t_tok T N q.1 q.2.2.2
def t_OK (N : Int) (q : t_Q) : Prop := (0 ≤ q.1 ∧ q.1 ≤ N) ∧ (0 ≤ q.2.1 ∧ q.2.1 ≤ N) ∧ (0 ≤ q.2.2.1 ∧ q.2.2.1 ≤ 4) ∧ 0 ≤ q.2.2.2 ∧ q.2.2.2 ≤ 999
theorem t_nx_ok {T : Int → Int} {N : Int} {q : t_Q} (hN : 0 ≤ N ∧ N ≤ 170) (hT : ∀ i, 0 ≤ i → i < 170 → 0 ≤ T i ∧ T i ≤ 255) (hq : t_OK N q) : t_OK N (t_nx T N q) := by
  obtain ⟨h1, h2, h3, h4⟩ := hq
  unfold t_nx t_tok
  have s0 := t_go_ge isB T N q.1
  have s1 := t_go_le isB T h1.2
  generalize t_go isB T N q.1 = s at s0 s1
  have e := t_e_rng (T := T) (N := N) (s := s) (by omega) s1
  refine ⟨⟨?_, ?_⟩, ⟨?_, ?_⟩, ?_, ?_⟩
  · show 0 ≤ t_e T N s; omega
  · show t_e T N s ≤ N; omega
  · show 0 ≤ s; omega
  · show s ≤ N; omega
  · show 0 ≤ t_k T N s ∧ t_k T N s ≤ 4
    unfold t_k
    repeat (split <;> try omega)
  · show 0 ≤ t_v T N s q.2.2.2 ∧ t_v T N s q.2.2.2 ≤ 999
    unfold t_v
    split
    · exact h4
    · have := hT s (by omega) (by omega)
      split
      · omega
      · split
        · refine t_acc_rng (fun i a b => ?_)
          have g := t_go_ge isD T N s
          have := t_go_all isD T N _ s rfl i a (by omega)
          simpa [isD] using this
        · exact h4
def c_szR (T : Int → Int) (N : Int) (H : z_H) (P : Int) (q : t_Q) : Bool × z_H × t_Q :=
  if t_nm 1 5 (t_nx T N q) = false then (false, H, t_nx T N q)
  else if t_nm 1 4 (t_nx T N (t_nx T N q)) = false then (false, z_st H P 2 (t_nx T N q).2.2.2, t_nx T N (t_nx T N q))
  else (decide ((t_nx T N (t_nx T N (t_nx T N q))).2.2.1 = 3), z_st (z_st H P 2 (t_nx T N q).2.2.2) P 3 (t_nx T N (t_nx T N q)).2.2.2, t_nx T N (t_nx T N (t_nx T N q)))
def c_glR (T : Int → Int) (N : Int) (H : z_H) (P : Int) (q : t_Q) : Bool × z_H × t_Q :=
  if t_nm 0 (H P 2 - 1) (t_nx T N q) = false then (false, H, t_nx T N q)
  else if t_nm 0 (H P 3 - 1) (t_nx T N (t_nx T N q)) = false then (false, H, t_nx T N (t_nx T N q))
  else if t_nm 0 7 (t_nx T N (t_nx T N (t_nx T N q))) = false then (false, H, t_nx T N (t_nx T N (t_nx T N q)))
  else (decide ((t_nx T N (t_nx T N (t_nx T N (t_nx T N q)))).2.2.1 = 3), z_st H (P + 1) (4 * (t_nx T N q).2.2.2 + (t_nx T N (t_nx T N q)).2.2.2) (t_nx T N (t_nx T N (t_nx T N q))).2.2.2, t_nx T N (t_nx T N (t_nx T N (t_nx T N q))))
def c_scR (T : Int → Int) (N : Int) (H : z_H) (P : Int) (q : t_Q) : Bool × z_H × t_Q :=
  if t_nm 0 7 (t_nx T N q) = false then (false, H, t_nx T N q)
  else (decide ((t_nx T N (t_nx T N q)).2.2.1 = 3), c_shtH H P (H P 4).toNat (t_nx T N q).2.2.2, t_nx T N (t_nx T N q))
def c_miR (T : Int → Int) (N : Int) (H : z_H) (P : Int) (q : t_Q) : Bool × z_H × t_Q :=
  if t_nm 1 12 (t_nx T N q) = false then (false, H, t_nx T N q)
  else (decide ((t_nx T N (t_nx T N q)).2.2.1 = 3), z_st (z_st H P 5 (t_nx T N q).2.2.2) 1 6 1, t_nx T N (t_nx T N q))
def c_seR (T : Int → Int) (N : Int) (H : z_H) (P : Int) (q : t_Q) : Bool × z_H × t_Q :=
  if t_nm 0 3 (t_nx T N q) = false then (false, H, t_nx T N q)
  else (decide ((t_nx T N (t_nx T N q)).2.2.1 = 3), z_st (z_st H P 6 (t_nx T N q).2.2.2) 1 7 1, t_nx T N (t_nx T N q))
def c_itR (T : Int → Int) (N : Int) (H : z_H) (P : Int) (q : t_Q) (fb : Bool) : Bool × z_H × t_Q :=
  if ¬ q.2.2.1 = 1 then (false, H, q)
  else if q.2.2.2 = 103 then (if fb then c_szR T N H P q else (false, H, q))
  else if q.2.2.2 = 109 then (if H 1 6 = 0 then c_miR T N H P q else (false, H, q))
  else if q.2.2.2 = 112 then c_glR T N H P q
  else if q.2.2.2 = 115 then (if H P 4 < 8 then c_scR T N H P q else (false, H, q))
  else if q.2.2.2 = 121 then (if H 1 7 = 0 then c_seR T N H P q else (false, H, q))
  else (false, H, q)
/-- what stands while the plan at P is being told -/
def c_PR (H : z_H) (P : Int) (T : Int → Int) (N : Int) : Prop := c_Rd H T N ∧ c_Pl H P ∧ (H 1 6 = 0 ∨ H 1 6 = 1) ∧ (H 1 7 = 0 ∨ H 1 7 = 1) ∧ (1 ≤ H P 5 ∧ H P 5 ≤ 12) ∧ (0 ≤ H P 6 ∧ H P 6 ≤ 3)
theorem c_Rd_st {H : z_H} {T : Int → Int} {N P j w : Int} (h1 : P ≠ 1) (h2 : P ≠ 2) (hR : c_Rd H T N) : c_Rd (z_st H P j w) T N := by
  obtain ⟨a, b, c, d, e⟩ := hR
  refine ⟨?_, ?_, ?_, d, e⟩
  · rw [z_st_cell H (fun e => h1 e.symm)]; exact a
  · rw [z_st_cell H (fun e => h1 e.symm)]; exact b
  · rw [z_st_cell H (fun e => h2 e.symm)]; exact c
theorem c_Rd_st1 {H : z_H} {T : Int → Int} {N j w : Int} (h1 : j ≠ 0) (h2 : j ≠ 1) (hR : c_Rd H T N) : c_Rd (z_st H 1 j w) T N := by
  obtain ⟨a, b, c, d, e⟩ := hR
  refine ⟨?_, ?_, ?_, d, e⟩
  · rw [z_st_slot H (fun e => h1 e.symm)]; exact a
  · rw [z_st_slot H (fun e => h2 e.symm)]; exact b
  · rw [z_st_cell H (by decide)]; exact c
theorem c_Rd_rw {H : z_H} {T : Int → Int} {N K : Int} {f : Int → Int} (h1 : K ≠ 1) (h2 : K ≠ 2) (hR : c_Rd H T N) : c_Rd (z_rw H K f) T N := by
  obtain ⟨a, b, c, d, e⟩ := hR
  refine ⟨?_, ?_, ?_, d, e⟩
  · rw [z_rw_ne H _ (fun e => h1 e.symm)]; exact a
  · rw [z_rw_ne H _ (fun e => h1 e.symm)]; exact b
  · rw [z_rw_ne H _ (fun e => h2 e.symm)]; exact c
theorem c_tk_rw (h : z_H) (q : t_Q) {K : Int} (f : Int → Int) (e : K ≠ 1) : z_rw (c_tk h q) K f = c_tk (z_rw h K f) q := by
  funext k r
  unfold z_rw c_tk z_st
  by_cases e1 : k = K
  · subst e1
    simp [e]
  · simp [e1]
theorem c_tk_sht (h : z_H) (q : t_Q) {P : Int} {s : Nat} {c : Int} (e : P ≠ 1) (e2 : P + 2 ≠ 1) : c_shtH (c_tk h q) P s c = c_tk (c_shtH h P s c) q := by
  unfold c_shtH
  rw [c_tk_cell h q e2, c_tk_rw h q _ e2, c_tk_out _ _ (Or.inl e)]
