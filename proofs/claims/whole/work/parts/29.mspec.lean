/-! Mixture: its cell and functions -/
def c_mx (h : z_H) (q : Int × Int × Int × Int) : z_H := z_st (z_st (z_st (z_st h 31 0 q.1) 31 1 q.2.1) 31 2 q.2.2.1) 31 3 q.2.2.2
theorem c_mx_same (h : z_H) : c_mx h (h 31 0, h 31 1, h 31 2, h 31 3) = h := by
  unfold c_mx
  dsimp only
  rw [z_st_same h rfl, z_st_same h rfl, z_st_same h rfl, z_st_same h rfl]
theorem c_mx_cell (h : z_H) (q : Int × Int × Int × Int) {k : Int} (e : k ≠ 31) : c_mx h q k = h k := by
  unfold c_mx
  rw [z_st_cell _ e, z_st_cell _ e, z_st_cell _ e, z_st_cell _ e]
theorem c_mx_0 (h : z_H) (q : Int × Int × Int × Int) : c_mx h q 31 0 = q.1 := by
  unfold c_mx
  rw [z_st_slot _ (by decide), z_st_slot _ (by decide), z_st_slot _ (by decide), z_st_at]
theorem c_mx_1 (h : z_H) (q : Int × Int × Int × Int) : c_mx h q 31 1 = q.2.1 := by
  unfold c_mx
  rw [z_st_slot _ (by decide), z_st_slot _ (by decide), z_st_at]
theorem c_mx_2 (h : z_H) (q : Int × Int × Int × Int) : c_mx h q 31 2 = q.2.2.1 := by
  unfold c_mx
  rw [z_st_slot _ (by decide), z_st_at]
theorem c_mx_3 (h : z_H) (q : Int × Int × Int × Int) : c_mx h q 31 3 = q.2.2.2 := by
  unfold c_mx
  rw [z_st_at]
theorem c_mx_p0 (h : z_H) (n s o v w : Int) : z_st (c_mx h (n, s, o, v)) 31 0 w = c_mx h (w, s, o, v) := by
  unfold c_mx
  dsimp only
  rw [z_st_swap _ (by decide), z_st_swap (z_st (z_st h 31 0 n) 31 1 s) (by decide), z_st_swap (z_st h 31 0 n) (by decide), z_st_twice]
theorem c_mx_p1 (h : z_H) (n s o v w : Int) : z_st (c_mx h (n, s, o, v)) 31 1 w = c_mx h (n, w, o, v) := by
  unfold c_mx
  dsimp only
  rw [z_st_swap _ (by decide), z_st_swap (z_st (z_st h 31 0 n) 31 1 s) (by decide), z_st_twice]
theorem c_mx_p2 (h : z_H) (n s o v w : Int) : z_st (c_mx h (n, s, o, v)) 31 2 w = c_mx h (n, s, w, v) := by
  unfold c_mx
  dsimp only
  rw [z_st_swap _ (by decide), z_st_twice]
theorem c_mx_p3 (h : z_H) (n s o v w : Int) : z_st (c_mx h (n, s, o, v)) 31 3 w = c_mx h (n, s, o, w) := by
  unfold c_mx
  dsimp only
  rw [z_st_twice]
theorem c_mx_eq {h : z_H} {q : Int × Int × Int × Int} {pl mo : Int} (hS : c_Sc h pl mo) : c_Eq h (c_mx h q) pl mo := c_Eq.of hS (fun k hk => c_mx_cell h q (fun e => by subst e; revert hk; decide))
def m_ok (q : Int × Int × Int × Int) : Prop := (q.1 = 0 ∨ q.1 = 1) ∧ 0 ≤ q.2.1 ∧ q.2.1 ≤ 62
def m_off (q : Int × Int × Int × Int) (a b : Int) : Int × Int × Int × Int := if q.1 = 0 ∨ z_pop a + z_pop b < q.2.1 then (1, z_pop a + z_pop b, a, b) else q
theorem m_off_ok {q : Int × Int × Int × Int} (hq : m_ok q) (a b : Int) : m_ok (m_off q a b) := by
  have h1 := z_pop_rng a
  have h2 := z_pop_rng b
  unfold m_off
  split
  · exact ⟨Or.inr rfl, by show 0 ≤ z_pop a + z_pop b; omega, by show z_pop a + z_pop b ≤ 62; omega⟩
  · exact hq
def m_b (R : Int) : Nat → Int
  | 0 => 0
  | n + 1 => z_and (m_b R n - R) R
theorem m_b_rng {R : Int} (h0 : 0 ≤ R) (h1 : R < 256) : ∀ n, 0 ≤ m_b R n ∧ m_b R n ≤ R
  | 0 => ⟨Int.le_refl 0, h0⟩
  | n + 1 => z_and_rng h0 (by omega)
/-- the ways with a before the former pane: tuple q, the latter's rest R, room r, own light w, colours pile, the former's light f, the colour c -/
def m_lat (pile : Int → Int) (R r w f c a : Int) (q : Int × Int × Int × Int) : Nat → Int × Int × Int × Int
  | 0 => q
  | n + 1 => if z_or f (z_and w (pile (m_b R n))) = c ∧ z_pop (m_b R n) ≤ r then m_off (m_lat pile R r w f c a q n) a (m_b R n) else m_lat pile R r w f c a q n
theorem m_lat_ok {pile : Int → Int} {R r w f c a : Int} {q : Int × Int × Int × Int} (hq : m_ok q) : ∀ n, m_ok (m_lat pile R r w f c a q n)
  | 0 => hq
  | n + 1 => by
    unfold m_lat
    split
    · exact m_off_ok (m_lat_ok hq n) _ _
    · exact m_lat_ok hq n
theorem z_ct_hi {p : Nat → Bool} {k : Nat} (h : ∀ i, k ≤ i → p i = false) : ∀ n, z_ct p (k + n) = z_ct p k
  | 0 => rfl
  | n + 1 => by
    show z_ct p (k + n) + (if p (k + n) = true then 1 else 0) = _
    rw [h (k + n) (by omega), z_ct_hi h n]
    rfl
theorem z_pop8 {x : Int} (h0 : 0 ≤ x) (h1 : x < 256) : z_pop x ≤ 8 := by
  unfold z_pop
  have := z_ct_hi (p := x.toNat.testBit) (k := 8) (fun i hi => Nat.testBit_lt_two_pow (Nat.lt_of_lt_of_le (show x.toNat < 2 ^ 8 by omega) (Nat.pow_le_pow_right (by decide) hi))) 23
  have h2 := z_ct_le x.toNat.testBit 8
  rw [show (31 : Nat) = 8 + 23 from rfl, this]
  omega
theorem c_box_rng {h : z_H} {pl mo : Int} (hS : c_Sc h pl mo) : 0 ≤ c_box h pl mo ∧ c_box h pl mo < 256 := by
  obtain ⟨r30, r31, r42, ⟨kp, rp0, rp1, kp1, kp2, hw, hh, hs, hgl, hpi⟩, -⟩ := hS
  unfold c_box
  have h1 := z_shl1_rng (k := h pl 4) (by omega) (by omega)
  have h2 := z_and_rngL (x := z_shl 1 (h pl 4) - 1) (y := z_xor (z_orf (h (mo + 1)) 20) (-1)) (by omega) (by omega)
  have h3 : z_shl 1 (h pl 4) ≤ 256 := by
    rw [z_shl1 (by omega) (by omega)]
    have : (2 : Nat) ^ (h pl 4).toNat ≤ 2 ^ 8 := Nat.pow_le_pow_right (by decide) (by omega)
    omega
  omega
theorem c_room_rng (h : z_H) (mo p : Int) : -28 ≤ c_room h mo p ∧ c_room h mo p ≤ 3 := by
  have := z_pop_rng (h (mo + 1) p)
  unfold c_room
  split <;> omega
/-- the latter's rest, a being before the former -/
def m_R (h : z_H) (pl mo a : Int) : Int := z_and (c_box h pl mo) (z_xor a (-1))
theorem m_R_rng {h : z_H} {pl mo a : Int} (hS : c_Sc h pl mo) : 0 ≤ m_R h pl mo a ∧ m_R h pl mo a < 256 := by
  have := c_box_rng hS
  have := z_and_rngL (x := c_box h pl mo) (y := z_xor a (-1)) (by omega) (by omega)
  unfold m_R
  omega
def m_N (h : z_H) (pl mo a : Int) : Nat := 2 ^ (z_pop (m_R h pl mo a)).toNat
def m_latH (h : z_H) (pl mo p a f c : Int) (q : Int × Int × Int × Int) (n : Nat) : Int × Int × Int × Int := m_lat (h (pl + 2)) (m_R h pl mo a) (c_room h mo p) (c_lets h pl mo p) f c a q n
/-- all ways, those with fewer than n before the former first -/
def m_sk (h : z_H) (pl mo t k c : Int) (q : Int × Int × Int × Int) : Nat → Int × Int × Int × Int
  | 0 => q
  | n + 1 => if z_and (n : Int) (z_xor (c_box h pl mo) (-1)) = 0 ∧ z_pop (n : Int) ≤ c_room h mo (c_own h pl mo t k) then m_latH h pl mo (c_mir h pl mo t k) (n : Int) (z_and (c_lets h pl mo (c_own h pl mo t k)) (h (pl + 2) (n : Int))) c (m_sk h pl mo t k c q n) (m_N h pl mo (n : Int)) else m_sk h pl mo t k c q n
theorem m_sk_ok {h : z_H} {pl mo t k c : Int} {q : Int × Int × Int × Int} (hq : m_ok q) : ∀ n, m_ok (m_sk h pl mo t k c q n)
  | 0 => hq
  | n + 1 => by
    unfold m_sk
    split
    · exact m_lat_ok (m_sk_ok hq n) _
    · exact m_sk_ok hq n
