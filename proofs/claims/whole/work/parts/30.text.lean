/-! THE TEXT's tokens, as both sides read them -/
def isB (c : Int) : Bool := decide (c = 32)
def isL (c : Int) : Bool := decide (97 ≤ c ∧ c ≤ 122)
def isD (c : Int) : Bool := decide (48 ≤ c ∧ c ≤ 57)
def t_run (P : Int → Bool) (T : Int → Int) (N : Int) : Nat → Int → Int
  | 0, p => p
  | f + 1, p => if p < N ∧ P (T p) = true then t_run P T N f (p + 1) else p
def t_go (P : Int → Bool) (T : Int → Int) (N p : Int) : Int := t_run P T N (N - p).toNat p
theorem t_go_yes {P : Int → Bool} {T : Int → Int} {N p : Int} (h1 : p < N) (h2 : P (T p) = true) : t_go P T N p = t_go P T N (p + 1) := by
  unfold t_go
  rw [show (N - p).toNat = (N - (p + 1)).toNat + 1 by omega]
  exact if_pos ⟨h1, h2⟩
theorem t_go_no {P : Int → Bool} {T : Int → Int} {N p : Int} (h : N ≤ p ∨ P (T p) = false) : t_go P T N p = p := by
  unfold t_go
  cases hf : (N - p).toNat with
  | zero => rfl
  | succ f =>
    refine if_neg (fun q => ?_)
    rcases h with h | h
    · omega
    · rw [h] at q; exact absurd q.2 (by decide)
theorem t_go_rng (P : Int → Bool) (T : Int → Int) (N : Int) : ∀ (f : Nat) (p : Int), (N - p).toNat = f → p ≤ t_go P T N p ∧ (p ≤ N → t_go P T N p ≤ N)
  | 0, p, h => by rw [t_go_no (Or.inl (by omega))]; omega
  | f + 1, p, h => by
    by_cases hp : P (T p) = true
    · rw [t_go_yes (by omega) hp]
      have := t_go_rng P T N f (p + 1) (by omega)
      omega
    · rw [t_go_no (Or.inr (by simpa using hp))]; omega
theorem t_go_ge (P : Int → Bool) (T : Int → Int) (N p : Int) : p ≤ t_go P T N p := (t_go_rng P T N _ p rfl).1
theorem t_go_le (P : Int → Bool) (T : Int → Int) {N p : Int} (h : p ≤ N) : t_go P T N p ≤ N := (t_go_rng P T N _ p rfl).2 h
/-- a number's value by its first n figures from s on -/
def t_acc (T : Int → Int) (s : Int) : Nat → Int
  | 0 => 0
  | n + 1 => if 99 < t_acc T s n then t_acc T s n else t_acc T s n * 10 + T (s + (n : Int)) - 48
theorem t_acc_succ (T : Int → Int) (s : Int) (n : Nat) : t_acc T s (n + 1) = if 99 < t_acc T s n then t_acc T s n else t_acc T s n * 10 + T (s + (n : Int)) - 48 := rfl
theorem t_acc_rng {T : Int → Int} {s : Int} : ∀ {n : Nat}, (∀ i : Int, s ≤ i → i < s + n → 48 ≤ T i ∧ T i ≤ 57) → 0 ≤ t_acc T s n ∧ t_acc T s n ≤ 999
  | 0, _ => by simp [t_acc]
  | n + 1, h => by
    have ih := t_acc_rng (T := T) (s := s) (n := n) (fun i a b => h i a (by omega))
    have := h (s + (n : Int)) (by omega) (by omega)
    unfold t_acc
    split <;> omega
/-- of a token that begins at s: its end, the class's word for it, its value -/
def t_e (T : Int → Int) (N s : Int) : Int := if N ≤ s then s else if isL (T s) then t_go isL T N s else if isD (T s) then t_go isD T N s else s + 1
def t_k (T : Int → Int) (N s : Int) : Int := if N ≤ s then 0 else if isL (T s) then (if t_go isL T N s - s = 1 then 1 else 4) else if isD (T s) then (if 99 < t_acc T s (t_go isD T N s - s).toNat ∨ (T s = 48 ∧ 1 < t_go isD T N s - s) then 4 else 2) else if T s = 59 then 3 else 4
def t_v (T : Int → Int) (N s v : Int) : Int := if N ≤ s then v else if isL (T s) then T s else if isD (T s) then t_acc T s (t_go isD T N s - s).toNat else v
/-- next, start, sort, value -/
abbrev t_Q : Type := Int × Int × Int × Int
def t_tok (T : Int → Int) (N n v : Int) : t_Q := (t_e T N (t_go isB T N n), t_go isB T N n, t_k T N (t_go isB T N n), t_v T N (t_go isB T N n) v)
theorem t_e_rng {T : Int → Int} {N s : Int} (h0 : 0 ≤ s) (h : s ≤ N) : s ≤ t_e T N s ∧ t_e T N s ≤ N := by
  unfold t_e
  split
  · omega
  · split
    · exact ⟨t_go_ge _ _ _ _, t_go_le _ _ h⟩
    · split
      · exact ⟨t_go_ge _ _ _ _, t_go_le _ _ h⟩
      · omega
/-- the reader's cell with a token -/
def c_tk (h : z_H) (q : t_Q) : z_H := z_st (z_st (z_st (z_st h 1 2 q.1) 1 3 q.2.1) 1 4 q.2.2.1) 1 5 q.2.2.2
theorem c_tk_same (h : z_H) : c_tk h (h 1 2, h 1 3, h 1 4, h 1 5) = h := by
  unfold c_tk
  dsimp only
  rw [z_st_same h rfl, z_st_same h rfl, z_st_same h rfl, z_st_same h rfl]
theorem c_tk_cell (h : z_H) (q : t_Q) {k : Int} (e : k ≠ 1) : c_tk h q k = h k := by
  unfold c_tk
  rw [z_st_cell _ e, z_st_cell _ e, z_st_cell _ e, z_st_cell _ e]
theorem c_tk_slot (h : z_H) (q : t_Q) {j : Int} (h2 : j ≠ 2) (h3 : j ≠ 3) (h4 : j ≠ 4) (h5 : j ≠ 5) : c_tk h q 1 j = h 1 j := by
  unfold c_tk
  rw [z_st_slot _ h5, z_st_slot _ h4, z_st_slot _ h3, z_st_slot _ h2]
theorem c_tk_2 (h : z_H) (q : t_Q) : c_tk h q 1 2 = q.1 := by
  unfold c_tk
  rw [z_st_slot _ (by decide), z_st_slot _ (by decide), z_st_slot _ (by decide), z_st_at]
theorem c_tk_3 (h : z_H) (q : t_Q) : c_tk h q 1 3 = q.2.1 := by
  unfold c_tk
  rw [z_st_slot _ (by decide), z_st_slot _ (by decide), z_st_at]
theorem c_tk_4 (h : z_H) (q : t_Q) : c_tk h q 1 4 = q.2.2.1 := by
  unfold c_tk
  rw [z_st_slot _ (by decide), z_st_at]
theorem c_tk_5 (h : z_H) (q : t_Q) : c_tk h q 1 5 = q.2.2.2 := by
  unfold c_tk
  rw [z_st_at]
theorem c_tk_p2 (h : z_H) (n s o v w : Int) : z_st (c_tk h (n, s, o, v)) 1 2 w = c_tk h (w, s, o, v) := by
  unfold c_tk
  dsimp only
  rw [z_st_swap _ (by decide), z_st_swap (z_st (z_st h 1 2 n) 1 3 s) (by decide), z_st_swap (z_st h 1 2 n) (by decide), z_st_twice]
theorem c_tk_p3 (h : z_H) (n s o v w : Int) : z_st (c_tk h (n, s, o, v)) 1 3 w = c_tk h (n, w, o, v) := by
  unfold c_tk
  dsimp only
  rw [z_st_swap _ (by decide), z_st_swap (z_st (z_st h 1 2 n) 1 3 s) (by decide), z_st_twice]
theorem c_tk_p4 (h : z_H) (n s o v w : Int) : z_st (c_tk h (n, s, o, v)) 1 4 w = c_tk h (n, s, w, v) := by
  unfold c_tk
  dsimp only
  rw [z_st_swap _ (by decide), z_st_twice]
theorem c_tk_p5 (h : z_H) (n s o v w : Int) : z_st (c_tk h (n, s, o, v)) 1 5 w = c_tk h (n, s, o, w) := by
  unfold c_tk
  dsimp only
  rw [z_st_twice]
theorem c_tk_out (h : z_H) (q : t_Q) {k j w : Int} (e : k ≠ 1 ∨ (j ≠ 2 ∧ j ≠ 3 ∧ j ≠ 4 ∧ j ≠ 5)) : z_st (c_tk h q) k j w = c_tk (z_st h k j w) q := by
  unfold c_tk
  rw [z_st_swap _ (by omega), z_st_swap (z_st (z_st h 1 2 q.1) 1 3 q.2.1) (by omega), z_st_swap (z_st h 1 2 q.1) (by omega), z_st_swap h (by omega)]
/-- what the reader's methods need to know -/
def c_Rd (h : z_H) (T : Int → Int) (N : Int) : Prop := h 1 0 = 2 ∧ h 1 1 = N ∧ h 2 = T ∧ (0 ≤ N ∧ N ≤ 170) ∧ ∀ i, 0 ≤ i → i < 170 → 0 ≤ T i ∧ T i ≤ 255
