/-! THE REFERENCE's tokens -/
def r_tk (h : z_H) (a b c d e : Int) : z_H := fun q r => if q = 89 then (if r = 18 then a else if r = 19 then b else if r = 20 then c else if r = 21 then d else if r = 22 then e else h 89 r) else h q r
theorem r_tk_c {h : z_H} {a b c d e q : Int} (hq : q ≠ 89) : r_tk h a b c d e q = h q := by
  funext r
  unfold r_tk
  rw [if_neg hq]
theorem r_tk_s {h : z_H} {a b c d e j : Int} (hj : ¬ (18 ≤ j ∧ j ≤ 22)) : r_tk h a b c d e 89 j = h 89 j := by
  unfold r_tk
  rw [if_pos rfl, if_neg (by omega), if_neg (by omega), if_neg (by omega), if_neg (by omega), if_neg (by omega)]
theorem r_tk_18 (h : z_H) (a b c d e : Int) : r_tk h a b c d e 89 18 = a := rfl
theorem r_tk_19 (h : z_H) (a b c d e : Int) : r_tk h a b c d e 89 19 = b := rfl
theorem r_tk_20 (h : z_H) (a b c d e : Int) : r_tk h a b c d e 89 20 = c := rfl
theorem r_tk_21 (h : z_H) (a b c d e : Int) : r_tk h a b c d e 89 21 = d := rfl
theorem r_tk_22 (h : z_H) (a b c d e : Int) : r_tk h a b c d e 89 22 = e := rfl
theorem r_tk_p18 (h : z_H) (a b c d e v : Int) : z_st (r_tk h a b c d e) 89 18 v = r_tk h v b c d e := by
  funext q r
  by_cases h1 : q = 89 ∧ r = 18
  · obtain ⟨rfl, rfl⟩ := h1
    rw [z_st_at, r_tk_18]
  · rw [z_st_ne _ h1]
    unfold r_tk
    by_cases h2 : q = 89
    · rw [if_pos h2, if_pos h2, if_neg (fun g => h1 ⟨h2, g⟩), if_neg (fun g => h1 ⟨h2, g⟩)]
    · rw [if_neg h2, if_neg h2]
theorem r_tk_p19 (h : z_H) (a b c d e v : Int) : z_st (r_tk h a b c d e) 89 19 v = r_tk h a v c d e := by
  funext q r
  by_cases h1 : q = 89 ∧ r = 19
  · obtain ⟨rfl, rfl⟩ := h1
    rw [z_st_at, r_tk_19]
  · rw [z_st_ne _ h1]
    unfold r_tk
    by_cases h2 : q = 89
    · rw [if_pos h2, if_pos h2, if_neg (c := r = 19) (fun g => h1 ⟨h2, g⟩), if_neg (c := r = 19) (fun g => h1 ⟨h2, g⟩)]
    · rw [if_neg h2, if_neg h2]
theorem r_tk_p20 (h : z_H) (a b c d e v : Int) : z_st (r_tk h a b c d e) 89 20 v = r_tk h a b v d e := by
  funext q r
  by_cases h1 : q = 89 ∧ r = 20
  · obtain ⟨rfl, rfl⟩ := h1
    rw [z_st_at, r_tk_20]
  · rw [z_st_ne _ h1]
    unfold r_tk
    by_cases h2 : q = 89
    · rw [if_pos h2, if_pos h2, if_neg (c := r = 20) (fun g => h1 ⟨h2, g⟩), if_neg (c := r = 20) (fun g => h1 ⟨h2, g⟩)]
    · rw [if_neg h2, if_neg h2]
theorem r_tk_p21 (h : z_H) (a b c d e v : Int) : z_st (r_tk h a b c d e) 89 21 v = r_tk h a b c v e := by
  funext q r
  by_cases h1 : q = 89 ∧ r = 21
  · obtain ⟨rfl, rfl⟩ := h1
    rw [z_st_at, r_tk_21]
  · rw [z_st_ne _ h1]
    unfold r_tk
    by_cases h2 : q = 89
    · rw [if_pos h2, if_pos h2, if_neg (c := r = 21) (fun g => h1 ⟨h2, g⟩), if_neg (c := r = 21) (fun g => h1 ⟨h2, g⟩)]
    · rw [if_neg h2, if_neg h2]
theorem r_tk_p22 (h : z_H) (a b c d e v : Int) : z_st (r_tk h a b c d e) 89 22 v = r_tk h a b c d v := by
  funext q r
  by_cases h1 : q = 89 ∧ r = 22
  · obtain ⟨rfl, rfl⟩ := h1
    rw [z_st_at, r_tk_22]
  · rw [z_st_ne _ h1]
    unfold r_tk
    by_cases h2 : q = 89
    · rw [if_pos h2, if_pos h2, if_neg (c := r = 22) (fun g => h1 ⟨h2, g⟩), if_neg (c := r = 22) (fun g => h1 ⟨h2, g⟩)]
    · rw [if_neg h2, if_neg h2]
theorem r_tk_out (h : z_H) (a b c d e : Int) {k j v : Int} (hk : k ≠ 89 ∨ ¬ (18 ≤ j ∧ j ≤ 22)) : z_st (r_tk h a b c d e) k j v = r_tk (z_st h k j v) a b c d e := by
  funext q r
  by_cases h1 : q = k ∧ r = j
  · obtain ⟨rfl, rfl⟩ := h1
    rw [z_st_at]
    by_cases h2 : q = 89
    · subst h2
      rw [r_tk_s (by omega), z_st_at]
    · rw [r_tk_c h2, z_st_at]
  · rw [z_st_ne _ h1]
    unfold r_tk
    by_cases h2 : q = 89
    · subst h2
      rw [if_pos rfl, if_pos rfl]
      by_cases h3 : 18 ≤ r ∧ r ≤ 22
      · rcases (show r = 18 ∨ r = 19 ∨ r = 20 ∨ r = 21 ∨ r = 22 by omega) with g | g | g | g | g <;> subst g <;> rfl
      · rw [if_neg (by omega), if_neg (by omega), if_neg (by omega), if_neg (by omega), if_neg (by omega), if_neg (by omega), if_neg (by omega), if_neg (by omega), if_neg (by omega), if_neg (by omega), z_st_ne _ h1]
    · rw [if_neg h2, if_neg h2, z_st_ne _ h1]
theorem r_tk_same (h : z_H) : r_tk h (h 89 18) (h 89 19) (h 89 20) (h 89 21) (h 89 22) = h := by
  funext q r
  unfold r_tk
  by_cases h2 : q = 89
  · subst h2
    rw [if_pos rfl]
    by_cases e1 : r = 18
    · rw [if_pos e1, e1]
    · rw [if_neg e1]
      by_cases e2 : r = 19
      · rw [if_pos e2, e2]
      · rw [if_neg e2]
        by_cases e3 : r = 20
        · rw [if_pos e3, e3]
        · rw [if_neg e3]
          by_cases e4 : r = 21
          · rw [if_pos e4, e4]
          · rw [if_neg e4]
            by_cases e5 : r = 22
            · rw [if_pos e5, e5]
            · rw [if_neg e5]
  · rw [if_neg h2]
theorem r_tk_ob {h : z_H} {a b c d e : Int} (hO : r_Ob h) : r_Ob (r_tk h a b c d e) := hO.to (fun j hj => r_tk_s (fun g => by
  have : r_mut j = true := decide_eq_true (by omega)
  rw [this] at hj
  exact absurd hj (by decide)))
/-- what the reading needs to know -/
def r_Tx (h : z_H) (T : Int → Int) (N : Int) : Prop := h 100 = T ∧ h 89 16 = N ∧ (0 ≤ N ∧ N ≤ 170) ∧ ∀ i, 0 ≤ i → i < 170 → 0 ≤ T i ∧ T i ≤ 255
def r_isC (P : Int → Bool) (T : Int → Int) (N a : Int) : Bool := decide (a < N) && P (T a)
theorem r_isC_t {P : Int → Bool} {T : Int → Int} {N a : Int} (h : r_isC P T N a = true) : a < N ∧ P (T a) = true := by
  unfold r_isC at h
  rw [Bool.and_eq_true] at h
  exact ⟨of_decide_eq_true h.1, h.2⟩
theorem r_isC_f {P : Int → Bool} {T : Int → Int} {N a : Int} (h : r_isC P T N a = false) : N ≤ a ∨ P (T a) = false := by
  unfold r_isC at h
  rw [Bool.and_eq_false_iff] at h
  rcases h with g | g
  · exact Or.inl (Int.not_lt.mp (of_decide_eq_false g))
  · exact Or.inr g
/-- at, begin, token, letters, value -/
abbrev t_R : Type := Int × Int × Int × Int × Int
def r_tq (h : z_H) (q : t_R) : z_H := r_tk h q.1 q.2.1 q.2.2.1 q.2.2.2.1 q.2.2.2.2
def m_k (T : Int → Int) (N s : Int) : Int := if N ≤ s then 0 else if isL (T s) then 1 else if isD (T s) then 2 else if T s = 59 then 3 else 4
def m_l (T : Int → Int) (N s : Int) : Int := if N ≤ s then 0 else if isL (T s) then (if t_go isL T N s - s = 1 then T s else 0) else 0
def m_v (T : Int → Int) (N s : Int) : Int := if N ≤ s then 0 else if isL (T s) then 0 else if isD (T s) then (if 1 < t_go isD T N s - s ∧ T s = 48 then 1000 else t_acc T s (t_go isD T N s - s).toNat) else 0
def m_tok (T : Int → Int) (N n : Int) : t_R := (t_e T N (t_go isB T N n), t_go isB T N n, m_k T N (t_go isB T N n), m_l T N (t_go isB T N n), m_v T N (t_go isB T N n))
def m_nx (T : Int → Int) (N : Int) (q : t_R) : t_R := m_tok T N q.1
def m_nm (lo hi : Int) (q : t_R) : Bool := decide (q.2.2.1 = 2 ∧ lo ≤ q.2.2.2.2 ∧ q.2.2.2.2 ≤ hi)
def m_OK (N : Int) (q : t_R) : Prop := (0 ≤ q.1 ∧ q.1 ≤ N) ∧ (0 ≤ q.2.1 ∧ q.2.1 ≤ N) ∧ (0 ≤ q.2.2.1 ∧ q.2.2.1 ≤ 4) ∧ (0 ≤ q.2.2.2.1 ∧ q.2.2.2.1 ≤ 255) ∧ 0 ≤ q.2.2.2.2 ∧ q.2.2.2.2 ≤ 1000
theorem m_nx_ok {T : Int → Int} {N : Int} {q : t_R} (hN : 0 ≤ N ∧ N ≤ 170) (hT : ∀ i, 0 ≤ i → i < 170 → 0 ≤ T i ∧ T i ≤ 255) (h1 : 0 ≤ q.1 ∧ q.1 ≤ N) : m_OK N (m_nx T N q) := by
  unfold m_nx m_tok
  have s0 := t_go_ge isB T N q.1
  have s1 := t_go_le isB T h1.2
  generalize t_go isB T N q.1 = s at s0 s1
  have e := t_e_rng (T := T) (N := N) (s := s) (by omega) s1
  refine ⟨⟨?_, ?_⟩, ⟨?_, ?_⟩, ?_, ?_, ?_⟩
  · show 0 ≤ t_e T N s; omega
  · show t_e T N s ≤ N; omega
  · show 0 ≤ s; omega
  · show s ≤ N; omega
  · show 0 ≤ m_k T N s ∧ m_k T N s ≤ 4
    unfold m_k
    repeat (split <;> try omega)
  · show 0 ≤ m_l T N s ∧ m_l T N s ≤ 255
    unfold m_l
    split
    · omega
    · have := hT s (by omega) (by omega)
      split
      · split <;> omega
      · omega
  · show 0 ≤ m_v T N s ∧ m_v T N s ≤ 1000
    unfold m_v
    split
    · omega
    · split
      · omega
      · split
        · split
          · omega
          · have := t_acc_rng (T := T) (s := s) (n := (t_go isD T N s - s).toNat) (fun i a b => by
              have g := t_go_ge isD T N s
              have := t_go_all isD T N _ s rfl i a (by omega)
              simpa [isD] using this)
            omega
        · omega
