/-! THE REFERENCE: hail, look -/
theorem r_h1_te1 {T B : Int → Int} {p : Int} {b : Bool} (t : r_TE T B) (e : b = false) : r_TE (r_h1 T p b) B := by
  unfold r_h1
  rw [if_neg (fun g => by rw [e] at g; exact absurd g.1 (by decide))]
  exact t
theorem r_h1_te2 {T B : Int → Int} {p : Int} {b : Bool} (t : r_TE T B) (e : p = -9) : r_TE (r_h1 T p b) B := by
  unfold r_h1
  rw [if_neg (fun g => g.2 e)]
  exact t
theorem r_h1_te3 {T B : Int → Int} {p : Int} {b : Bool} (t : r_TE T B) (e : b = true) (e2 : ¬ p = -9) : r_TE (r_h1 T p b) (r_brk B p) := by
  unfold r_h1
  rw [if_pos ⟨e, e2⟩]
  exact t.brk p
theorem r_TE.tr {T U V : Int → Int} (a : r_TE T U) (b : r_TE U V) : r_TE T V := fun r h0 h1 => (b r h0 h1).trans (a r h0 h1)
theorem r_abT_te {h : z_H} {x y k s : Int} {B C : Int → Int} (t : r_TE (r_h1 (h 92) (r_pn h (h 92) x y k false) (tb s 0)) B) (t2 : r_TE (r_h1 B (r_pn h (h 92) x y k true) (tb s 1)) C) : r_TE (r_abT h x y k s) C := (t.h1 _ _).tr t2
def r_gc (u : Int) : Int := ((Nat.gcd u.toNat 100 : Nat) : Int)
theorem r_gc_rng (u : Int) : 1 ≤ r_gc u ∧ r_gc u ≤ 100 := by
  unfold r_gc
  have h1 : 0 < Nat.gcd u.toNat 100 := Nat.gcd_pos_of_pos_right _ (by decide)
  have h2 : Nat.gcd u.toNat 100 ≤ 100 := Nat.gcd_le_right _ (by decide)
  omega
theorem r_gc_step {u v : Int} (h0 : 0 ≤ u) (h1 : 0 < v) : Nat.gcd v.toNat (u % v).toNat = Nat.gcd u.toNat v.toNat := by
  obtain ⟨a, rfl⟩ := Int.eq_ofNat_of_zero_le h0
  obtain ⟨b, rfl⟩ := Int.eq_ofNat_of_zero_le (show 0 ≤ v by omega)
  rw [show ((a : Int) % (b : Int)) = ((a % b : Nat) : Int) from (Int.natCast_emod a b).symm, Int.toNat_natCast, Int.toNat_natCast, Int.toNat_natCast, Nat.gcd_comm a b, Nat.gcd_rec b a, Nat.gcd_comm b]
/-- where the light of pane p's breaking falls -/
def r_lk (h : z_H) (k p : Int) : Int := r_on h (r_brP (h 92) p) (k / 8 / 7) (k / 8 % 7) (k % 8)
def r_cnt (h : z_H) (S k c : Int) : Nat → Int
  | 0 => 0
  | n + 1 => r_cnt h S k c n + (if tb S (n : Int) = true ∧ r_lk h k (n : Int) = c then 1 else 0)
def r_most (h : z_H) (S k : Int) : Nat → Int
  | 0 => 0
  | n + 1 => if tb S (n : Int) = true then (if r_most h S k n < r_cnt h S k (r_lk h k (n : Int)) (n + 1) then r_cnt h S k (r_lk h k (n : Int)) (n + 1) else r_most h S k n) else r_most h S k n
theorem r_cnt_rng (h : z_H) (S k c : Int) : ∀ n, 0 ≤ r_cnt h S k c n ∧ r_cnt h S k c n ≤ n
  | 0 => by unfold r_cnt; simp
  | n + 1 => by
    have ih := r_cnt_rng h S k c n
    unfold r_cnt
    split <;> omega
theorem r_most_rng (h : z_H) (S k : Int) : ∀ n, 0 ≤ r_most h S k n ∧ r_most h S k n ≤ n
  | 0 => by unfold r_most; simp
  | n + 1 => by
    have ih := r_most_rng h S k n
    have := r_cnt_rng h S k (r_lk h k (n : Int)) (n + 1)
    unfold r_most
    split
    · split <;> omega
    · omega
def r_best (h : z_H) (S : Int) : Nat → Int × Int := z_amin (fun _ => true) (fun k => r_most h S k 21) 1000000
theorem r_best_rng (h : z_H) (S : Int) : ∀ n : Nat, n ≤ 672 → -9 ≤ (r_best h S n).1 ∧ (r_best h S n).1 < 672 ∧ 0 ≤ (r_best h S n).2 ∧ (r_best h S n).2 ≤ 1000000
  | 0, _ => by unfold r_best z_amin; simp
  | n + 1, hn => by
    have ih := r_best_rng h S n (by omega)
    have := r_most_rng h S (n : Int) 21
    unfold r_best at ih ⊢
    unfold z_amin
    split
    · simp only
      omega
    · exact ih
def r_lookF (h : z_H) : Int := if ((r_sus h : Nat) : Int) = 0 then -9 else (r_best h ((r_sus h : Nat) : Int) 672).1
theorem z_rw_swap (h : z_H) {a b : Int} (e : a ≠ b) (f g : Int → Int) : z_rw (z_rw h a f) b g = z_rw (z_rw h b g) a f := by
  funext q r
  unfold z_rw
  by_cases h1 : q = b
  · rw [if_pos h1, if_neg (fun e2 => e (e2.symm.trans h1)), if_pos h1]
  · rw [if_neg h1]
    by_cases h2 : q = a
    · rw [if_pos h2, if_pos h2]
    · rw [if_neg h2, if_neg h2, if_neg h1]
theorem r_lbT_te2 {h H : z_H} (e : H 92 = h 92) (p : Int) : r_TE (r_brP (h 92) p) (r_lbT H p) := by
  have t : r_TE (h 92) (r_asd H) := fun r a b => by rw [r_asd_te H r a b, e]
  unfold r_brP r_lbT
  split
  · exact t.brk p
  · exact t
theorem r_Same.two (h : z_H) (A B : Int → Int) : r_Same h (z_rw (z_rw h 93 A) 106 B) := ⟨by rw [z_rw_ne _ _ (by decide), z_rw_ne _ _ (by decide)], by rw [z_rw_ne _ _ (by decide), z_rw_ne _ _ (by decide)], by rw [z_rw_ne _ _ (by decide), z_rw_ne _ _ (by decide)], by rw [z_rw_ne _ _ (by decide), z_rw_ne _ _ (by decide)], by rw [z_rw_ne _ _ (by decide), z_rw_ne _ _ (by decide)]⟩
theorem r_sus_lt (h : z_H) : r_sus h < 2097152 := z_set_lt _ 21
theorem z_nl_set {L : List (Nat × Int)} {i : Nat} {c : Nat × Int} (h : z_nl L = true) (hc : c.1 ≠ 1) : z_nl (L.set i c) = true := by
  unfold z_nl at h ⊢
  rw [List.all_eq_true] at h ⊢
  intro x hx
  rcases List.mem_or_eq_of_mem_set hx with g | g
  · exact h x g
  · subst g
    simp [hc]
