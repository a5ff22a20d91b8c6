/-! THE REFERENCE: mixing -/
abbrev r_Q3 : Type := Int × Int × Int
def r_mxB (h : z_H) (o t bx c a : Int) (s : r_Q3) : Nat → r_Q3
  | 0 => s
  | n + 1 => if (z_and (n : Int) (z_or a (z_xor bx (-1))) = 0 ∧ z_pop (n : Int) ≤ r_free h t ∧ z_pop a + z_pop (n : Int) < (r_mxB h o t bx c a s n).1) ∧ z_or (z_and (r_ln h (h 92) o) (r_th h a)) (z_and (r_ln h (h 92) t) (r_th h (n : Int))) = c then (z_pop a + z_pop (n : Int), a, (n : Int)) else r_mxB h o t bx c a s n
def r_mxA (h : z_H) (o t bx c : Int) (lim : Nat) : Nat → r_Q3
  | 0 => (1000000, 0, 0)
  | n + 1 => if z_and (n : Int) (z_xor bx (-1)) = 0 ∧ z_pop (n : Int) ≤ r_free h o then r_mxB h o t bx c (n : Int) (r_mxA h o t bx c lim n) lim else r_mxA h o t bx c lim n
def r_3ok (s : r_Q3) : Prop := (0 ≤ s.1 ∧ s.1 ≤ 1000000) ∧ (0 ≤ s.2.1 ∧ s.2.1 < 256) ∧ (0 ≤ s.2.2 ∧ s.2.2 < 256)
theorem r_mxB_ok {h : z_H} {o t bx c a : Int} {s : r_Q3} (hs : r_3ok s) (h0 : 0 ≤ a) (h1 : a < 256) : ∀ n : Nat, n ≤ 256 → r_3ok (r_mxB h o t bx c a s n)
  | 0, _ => hs
  | n + 1, hn => by
    have ih := r_mxB_ok (h := h) (o := o) (t := t) (bx := bx) (c := c) hs h0 h1 n (by omega)
    unfold r_mxB
    split
    · have p1 := z_pop_rng a
      have p2 := z_pop_rng (n : Int)
      exact ⟨⟨by show 0 ≤ z_pop a + z_pop (n : Int); omega, by show z_pop a + z_pop (n : Int) ≤ 1000000; omega⟩, ⟨h0, h1⟩, ⟨by show 0 ≤ (n : Int); omega, by show (n : Int) < 256; omega⟩⟩
    · exact ih
theorem r_mxA_ok {h : z_H} {o t bx c : Int} {lim : Nat} (hl : lim ≤ 256) : ∀ n : Nat, n ≤ 256 → r_3ok (r_mxA h o t bx c lim n)
  | 0, _ => ⟨⟨by show (0 : Int) ≤ 1000000; decide, by show (1000000 : Int) ≤ 1000000; decide⟩, ⟨by show (0 : Int) ≤ 0; decide, by show (0 : Int) < 256; decide⟩, ⟨by show (0 : Int) ≤ 0; decide, by show (0 : Int) < 256; decide⟩⟩
  | n + 1, hn => by
    have ih := r_mxA_ok (h := h) (o := o) (t := t) (bx := bx) (c := c) hl n (by omega)
    unfold r_mxA
    split
    · exact r_mxB_ok ih (by omega) (by omega) lim hl
    · exact ih
theorem r_free_rng (h : z_H) (p : Int) : -28 ≤ r_free h p ∧ r_free h p ≤ 3 := by
  have := z_pop_rng ((r_at h (h 92) p : Nat) : Int)
  unfold r_free
  split <;> omega
def r_mixQ (h : z_H) (x y k c : Int) : r_Q3 := r_mxA h (r_pn h (h 92) x y k false) (r_pn h (h 92) x y k true) ((r_at h (h 92) (-9) : Nat) : Int) c (2 ^ (h 89 4).toNat) (2 ^ (h 89 4).toNat)
def r_mixA (q : r_Q3) (w : Int) : Int := if q.1 = 1000000 then -9 else if w = 0 then q.1 else if w = 1 then q.2.1 else q.2.2
