/-! CLASS AND REFERENCE: the child's next tile -/
/-- c before d: more hours, or as many and a smaller number -/
def g_D (row : Int → Int) (c d : Int) : Prop := row d < row c ∨ (row d = row c ∧ c ≤ d)
theorem g_D.rf (row : Int → Int) (c : Int) : g_D row c c := Or.inr ⟨rfl, Int.le_refl c⟩
theorem g_D.tr {row : Int → Int} {a b c : Int} (h1 : g_D row a b) (h2 : g_D row b c) : g_D row a c := by
  unfold g_D at *
  omega
theorem g_D.eq {row : Int → Int} {a b : Int} (h1 : g_D row a b) (h2 : g_D row b a) : a = b := by
  unfold g_D at *
  omega
theorem g_bet (row : Int → Int) (a b : Int) : (w_bet row a b = a ∨ w_bet row a b = b) ∧ g_D row (w_bet row a b) a ∧ g_D row (w_bet row a b) b := by
  unfold w_bet g_D
  split
  · split
    · exact ⟨Or.inr rfl, by omega, by omega⟩
    · exact ⟨Or.inl rfl, by omega, by omega⟩
  · split
    · exact ⟨Or.inr rfl, by omega, by omega⟩
    · exact ⟨Or.inl rfl, by omega, by omega⟩
def g_V (t d : Int) : Prop := d = t ∨ (d = t - 7 ∧ 7 ≤ t) ∨ (d = t - 1 ∧ 0 < t % 7) ∨ (d = t + 1 ∧ t % 7 < 6) ∨ (d = t + 7 ∧ t + 7 < 84)
theorem g_onw (row : Int → Int) (t : Int) : g_V t (w_onw row t) ∧ ∀ d, g_V t d → g_D row (w_onw row t) d := by
  have s1 : (w_s1 row t = t ∨ (w_s1 row t = t - 7 ∧ 7 ≤ t)) ∧ g_D row (w_s1 row t) t ∧ (7 ≤ t → g_D row (w_s1 row t) (t - 7)) := by
    unfold w_s1
    by_cases g : 7 ≤ t
    · rw [if_pos g]
      obtain ⟨a, b, c⟩ := g_bet row t (t - 7)
      exact ⟨a.elim Or.inl (fun e => Or.inr ⟨e, g⟩), b, fun _ => c⟩
    · rw [if_neg g]
      exact ⟨Or.inl rfl, g_D.rf row t, fun e => absurd e g⟩
  have s2 : (w_s2 row t = w_s1 row t ∨ (w_s2 row t = t - 1 ∧ 0 < t % 7)) ∧ g_D row (w_s2 row t) (w_s1 row t) ∧ (0 < t % 7 → g_D row (w_s2 row t) (t - 1)) := by
    unfold w_s2
    by_cases g : 0 < t % 7
    · rw [if_pos g]
      obtain ⟨a, b, c⟩ := g_bet row (w_s1 row t) (t - 1)
      exact ⟨a.elim Or.inl (fun e => Or.inr ⟨e, g⟩), b, fun _ => c⟩
    · rw [if_neg g]
      exact ⟨Or.inl rfl, g_D.rf row _, fun e => absurd e g⟩
  have s3 : (w_s3 row t = w_s2 row t ∨ (w_s3 row t = t + 1 ∧ t % 7 < 6)) ∧ g_D row (w_s3 row t) (w_s2 row t) ∧ (t % 7 < 6 → g_D row (w_s3 row t) (t + 1)) := by
    unfold w_s3
    by_cases g : t % 7 < 6
    · rw [if_pos g]
      obtain ⟨a, b, c⟩ := g_bet row (w_s2 row t) (t + 1)
      exact ⟨a.elim Or.inl (fun e => Or.inr ⟨e, g⟩), b, fun _ => c⟩
    · rw [if_neg g]
      exact ⟨Or.inl rfl, g_D.rf row _, fun e => absurd e g⟩
  have s4 : (w_onw row t = w_s3 row t ∨ (w_onw row t = t + 7 ∧ t + 7 < 84)) ∧ g_D row (w_onw row t) (w_s3 row t) ∧ (t + 7 < 84 → g_D row (w_onw row t) (t + 7)) := by
    unfold w_onw
    by_cases g : t + 7 < 84
    · rw [if_pos g]
      obtain ⟨a, b, c⟩ := g_bet row (w_s3 row t) (t + 7)
      exact ⟨a.elim Or.inl (fun e => Or.inr ⟨e, g⟩), b, fun _ => c⟩
    · rw [if_neg g]
      exact ⟨Or.inl rfl, g_D.rf row _, fun e => absurd e g⟩
  refine ⟨?_, fun d hd => ?_⟩
  · unfold g_V
    omega
  · rcases hd with e | ⟨e, c⟩ | ⟨e, c⟩ | ⟨e, c⟩ | ⟨e, c⟩
    · subst e; exact s4.2.1.tr (s3.2.1.tr (s2.2.1.tr s1.2.1))
    · subst e; exact s4.2.1.tr (s3.2.1.tr (s2.2.1.tr (s1.2.2 c)))
    · subst e; exact s4.2.1.tr (s3.2.1.tr (s2.2.2 c))
    · subst e; exact s4.2.1.tr (s3.2.2 c)
    · subst e; exact s4.2.2 c
