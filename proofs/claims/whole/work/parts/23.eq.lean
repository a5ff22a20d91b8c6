/-! when the scene's cells are as they were -/
def c_Eq (h h' : z_H) (pl mo : Int) : Prop := h' 3 = h 3 ∧ h' 4 = h 4 ∧ h' pl = h pl ∧ h' (pl + 1) = h (pl + 1) ∧ h' (pl + 2) = h (pl + 2) ∧ h' mo = h mo ∧ h' (mo + 1) = h (mo + 1)
theorem c_Eq.of {h h' : z_H} {pl mo : Int} (hS : c_Sc h pl mo) (ho : ∀ q, z_kd 107 q = (0, 4) ∨ z_kd 107 q = (0, 5) ∨ z_kd 107 q = (0, 2) ∨ z_kd 107 q = (1, 20) ∨ z_kd 107 q = (1, 256) ∨ z_kd 107 q = (0, 1) → h' q = h q) : c_Eq h h' pl mo := by
  obtain ⟨r30, r31, r42, ⟨kp, rp0, rp1, kp1, kp2, hw, hh, hs, hgl, hpi⟩, ⟨km, rm0, km1, hbr, hmi, hse, hbf⟩⟩ := hS
  exact ⟨ho 3 (Or.inl rfl), ho 4 (Or.inr (Or.inl rfl)), ho pl (by simp [kp]), ho _ (by simp [kp1]), ho _ (by simp [kp2]), ho mo (by simp [km]), ho _ (by simp [km1])⟩
theorem c_Eq.rf (h : z_H) (pl mo : Int) : c_Eq h h pl mo := ⟨rfl, rfl, rfl, rfl, rfl, rfl, rfl⟩
section EQS
variable {h h' : z_H} {pl mo : Int}
theorem c_Eq.sc (E : c_Eq h h' pl mo) (hS : c_Sc h pl mo) : c_Sc h' pl mo := by
  obtain ⟨e1, e2, e3, e4, e5, e6, e7⟩ := E
  simp only [c_Sc, c_Pl, c_Mo, e1, e2, e3, e4, e5, e6, e7] at *
  exact hS
theorem c_Eq.paneAt (E : c_Eq h h' pl mo) : c_paneAt h' pl = c_paneAt h pl := by
  obtain ⟨e1, e2, e3, e4, e5, e6, e7⟩ := E
  funext x y
  simp only [c_paneAt, e3]
theorem c_Eq.has (E : c_Eq h h' pl mo) : c_has h' pl = c_has h pl := by
  funext p
  simp only [c_has, E.paneAt]
theorem c_Eq.broken (E : c_Eq h h' pl mo) : c_broken h' mo = c_broken h mo := by
  obtain ⟨e1, e2, e3, e4, e5, e6, e7⟩ := E
  funext p
  simp only [c_broken, e6]
theorem c_Eq.colour (E : c_Eq h h' pl mo) : c_colour h' pl mo = c_colour h pl mo := by
  have e := E.broken
  obtain ⟨e1, e2, e3, e4, e5, e6, e7⟩ := E
  funext p
  simp only [c_colour, e, e4]
theorem c_Eq.lets (E : c_Eq h h' pl mo) : c_lets h' pl mo = c_lets h pl mo := by
  have e := E.colour
  obtain ⟨e1, e2, e3, e4, e5, e6, e7⟩ := E
  funext p
  simp only [c_lets, e, e5, e7]
theorem c_Eq.own (E : c_Eq h h' pl mo) : c_own h' pl mo = c_own h pl mo := by
  have e := E.paneAt
  obtain ⟨e1, e2, e3, e4, e5, e6, e7⟩ := E
  funext t k
  simp only [c_own, e, e6]
theorem c_Eq.mir (E : c_Eq h h' pl mo) : c_mir h' pl mo = c_mir h pl mo := by
  have e := E.paneAt
  obtain ⟨e1, e2, e3, e4, e5, e6, e7⟩ := E
  funext t k
  simp only [c_mir, e, e6]
theorem c_Eq.light (E : c_Eq h h' pl mo) : c_light h' pl mo = c_light h pl mo := by
  funext t k
  simp only [c_light, E.lets, E.own, E.mir]
theorem c_Eq.box (E : c_Eq h h' pl mo) : c_box h' pl mo = c_box h pl mo := by
  obtain ⟨e1, e2, e3, e4, e5, e6, e7⟩ := E
  simp only [c_box, e3, e7]
theorem c_Eq.room (E : c_Eq h h' pl mo) : c_room h' mo = c_room h mo := by
  have e := E.broken
  obtain ⟨e1, e2, e3, e4, e5, e6, e7⟩ := E
  funext p
  simp only [c_room, e, e7]
end EQS
theorem c_colour_rng' {h : z_H} {pl mo p : Int} (hS : c_Sc h pl mo) (h0 : 0 ≤ p) (h1 : p < 20) : 0 ≤ c_colour h pl mo p ∧ c_colour h pl mo p < 8 := c_colour_rng hS h0 h1
theorem c_lets_rng {h : z_H} {pl mo p : Int} (hS : c_Sc h pl mo) (h0 : -1 ≤ p) (h1 : p < 20) : 0 ≤ c_lets h pl mo p ∧ c_lets h pl mo p < 8 := by
  unfold c_lets
  split
  · omega
  · have hc := c_colour_rng hS (show 0 ≤ p by omega) h1
    have := z_and_rngL (x := c_colour h pl mo p) (y := h (pl + 2) (h (mo + 1) p)) hc.1 (by omega)
    omega
theorem c_light_rng {h : z_H} {pl mo t k : Int} (hS : c_Sc h pl mo) : 0 ≤ c_light h pl mo t k ∧ c_light h pl mo t k < 8 := by
  have g1 := c_own_rng (t := t) (k := k) hS
  have g2 := c_mir_rng (t := t) (k := k) hS
  have l1 := c_lets_rng hS g1.1 g1.2
  have l2 := c_lets_rng hS g2.1 g2.2
  exact z_or_rng8 l1.1 l1.2 l2.1 l2.2
/-! the walk's pure functions -/
def w_bet (row : Int → Int) (a b : Int) : Int := if row a = row b then (if b < a then b else a) else if row a ≤ row b then b else a
theorem w_bet_rng {row : Int → Int} {a b : Int} (ha : 0 ≤ a ∧ a < 84) (hb : 0 ≤ b ∧ b < 84) : 0 ≤ w_bet row a b ∧ w_bet row a b < 84 := by
  unfold w_bet
  split
  · split <;> omega
  · split <;> omega
def w_s1 (row : Int → Int) (t : Int) : Int := if 7 ≤ t then w_bet row t (t - 7) else t
def w_s2 (row : Int → Int) (t : Int) : Int := if 0 < t % 7 then w_bet row (w_s1 row t) (t - 1) else w_s1 row t
def w_s3 (row : Int → Int) (t : Int) : Int := if t % 7 < 6 then w_bet row (w_s2 row t) (t + 1) else w_s2 row t
def w_onw (row : Int → Int) (t : Int) : Int := if t + 7 < 84 then w_bet row (w_s3 row t) (t + 7) else w_s3 row t
theorem w_s1_rng {row : Int → Int} {t : Int} (h : 0 ≤ t ∧ t < 84) : 0 ≤ w_s1 row t ∧ w_s1 row t < 84 := by
  unfold w_s1
  split
  · exact w_bet_rng h (by omega)
  · exact h
theorem w_s2_rng {row : Int → Int} {t : Int} (h : 0 ≤ t ∧ t < 84) : 0 ≤ w_s2 row t ∧ w_s2 row t < 84 := by
  unfold w_s2
  split
  · exact w_bet_rng (w_s1_rng h) (by omega)
  · exact w_s1_rng h
theorem w_s3_rng {row : Int → Int} {t : Int} (h : 0 ≤ t ∧ t < 84) : 0 ≤ w_s3 row t ∧ w_s3 row t < 84 := by
  unfold w_s3
  split
  · exact w_bet_rng (w_s2_rng h) (by omega)
  · exact w_s2_rng h
theorem w_onw_rng {row : Int → Int} {t : Int} (h : 0 ≤ t ∧ t < 84) : 0 ≤ w_onw row t ∧ w_onw row t < 84 := by
  unfold w_onw
  split
  · exact w_bet_rng (w_s3_rng h) (by omega)
  · exact w_s3_rng h
theorem w_bet_congr {row row' : Int → Int} {a b : Int} (e : ∀ t, 0 ≤ t → t < 84 → row t = row' t) (ha : 0 ≤ a ∧ a < 84) (hb : 0 ≤ b ∧ b < 84) : w_bet row a b = w_bet row' a b := by
  unfold w_bet
  rw [e a ha.1 ha.2, e b hb.1 hb.2]
theorem w_onw_congr {row row' : Int → Int} {t : Int} (e : ∀ t, 0 ≤ t → t < 84 → row t = row' t) (h : 0 ≤ t ∧ t < 84) : w_onw row t = w_onw row' t := by
  have e1 : w_s1 row t = w_s1 row' t := by
    unfold w_s1
    split
    · exact w_bet_congr e h (by omega)
    · rfl
  have e2 : w_s2 row t = w_s2 row' t := by
    unfold w_s2
    rw [← e1]
    split
    · exact w_bet_congr e (w_s1_rng h) (by omega)
    · rfl
  have e3 : w_s3 row t = w_s3 row' t := by
    unfold w_s3
    rw [← e2]
    split
    · exact w_bet_congr e (w_s2_rng h) (by omega)
    · rfl
  unfold w_onw
  rw [← e3]
  split
  · exact w_bet_congr e (w_s3_rng h) (by omega)
  · rfl
/-- for how many hours, d hours being left -/
def w_S (lt : Int → Int → Bool) : Nat → Int → Int
  | 0 => fun _ => 0
  | d + 1 => fun t => if lt t (7 - (d : Int)) then 1 + w_S lt d (w_onw (w_S lt d) t) else 0
theorem w_S_rng (lt : Int → Int → Bool) : ∀ (d : Nat) (t : Int), 0 ≤ w_S lt d t ∧ w_S lt d t ≤ d
  | 0, t => by simp [w_S]
  | d + 1, t => by
    have := w_S_rng lt d (w_onw (w_S lt d) t)
    unfold w_S
    split <;> omega
/-- the contents with row 33 as f has it -/
def w_H (h : z_H) (f : Int → Int) : z_H := fun q r => if q = 33 then f r else h q r
theorem w_H_same (h : z_H) : w_H h (h 33) = h := by
  funext q r
  unfold w_H
  by_cases e : q = 33
  · rw [if_pos e, e]
  · rw [if_neg e]
theorem w_H_ne (h : z_H) (f : Int → Int) {q : Int} (e : q ≠ 33) : w_H h f q = h q := by
  funext r
  unfold w_H
  rw [if_neg e]
theorem w_H_at (h : z_H) (f : Int → Int) (r : Int) : w_H h f 33 r = f r := by
  unfold w_H
  rw [if_pos rfl]
theorem w_H_st (h : z_H) (f : Int → Int) (i v : Int) : z_st (w_H h f) 33 i v = w_H h (fun r => if r = i then v else f r) := by
  funext q r
  unfold z_st w_H
  by_cases e : q = 33
  · simp [e]
  · simp [e]
theorem w_H_eq {h : z_H} {f : Int → Int} {pl mo : Int} (hS : c_Sc h pl mo) : c_Eq h (w_H h f) pl mo := c_Eq.of hS (fun q hq => w_H_ne h f (fun e => by subst e; revert hq; decide))
def w_after (h : z_H) (k t : Int) : Nat → Int
  | 0 => t
  | n + 1 => w_onw (fun t' => h 33 ((k + (n : Int) + 1) * 84 + t')) (w_after h k t n)
theorem w_after_rng {h : z_H} {k t : Int} (ht : 0 ≤ t ∧ t < 84) : ∀ n, 0 ≤ w_after h k t n ∧ w_after h k t n < 84
  | 0 => ht
  | n + 1 => w_onw_rng (w_after_rng ht n)
def w_lt (h : z_H) (pl mo c t k : Int) : Bool := decide (z_and (c_light h pl mo t k) c = c)
theorem w_step {lt : Int → Int → Bool} {j : Nat} (hj : j ≤ 7) (u : Int) : w_S lt (8 - j) u = if lt u (j : Int) then 1 + w_S lt (7 - j) (w_onw (w_S lt (7 - j)) u) else 0 := by
  have e : 8 - j = (7 - j) + 1 := by omega
  rw [e]
  show (if lt u (7 - ((7 - j : Nat) : Int)) then 1 + w_S lt (7 - j) (w_onw (w_S lt (7 - j)) u) else 0) = _
  rw [show (7 : Int) - ((7 - j : Nat) : Int) = (j : Int) by omega]
theorem w_stepA {h : z_H} {pl mo c : Int} {g : Int → Int} {j : Nat} {u : Int} (hj : j ≤ 7) (hu : 0 ≤ u ∧ u < 84) (hc : z_and (c_light h pl mo u j) c = c) (hrr : ∀ kk : Nat, j + 1 ≤ kk → kk ≤ 8 → ∀ u, 0 ≤ u → u < 84 → g (kk * 84 + u) = w_S (w_lt h pl mo c) (8 - kk) u) : 1 + w_H h g 33 (((j : Int) + 1) * 84 + w_onw (fun t' => w_H h g 33 (((j : Int) + 1) * 84 + t')) u) = w_S (w_lt h pl mo c) (8 - j) u := by
  have hrow : ∀ t', 0 ≤ t' → t' < 84 → w_H h g 33 (((j : Int) + 1) * 84 + t') = w_S (w_lt h pl mo c) (7 - j) t' := fun t' q1 q2 => by
    have := hrr (j + 1) (by omega) (by omega) t' q1 q2
    rw [show 8 - (j + 1) = 7 - j by omega] at this
    rw [w_H_at, ← this]
    congr 1
  have eo := w_onw_congr (row := fun t' => w_H h g 33 (((j : Int) + 1) * 84 + t')) (row' := w_S (w_lt h pl mo c) (7 - j)) (t := u) hrow hu
  rw [eo, w_step hj, if_pos (show w_lt h pl mo c u j = true from decide_eq_true hc)]
  have hw2 := w_onw_rng (row := w_S (w_lt h pl mo c) (7 - j)) (t := u) hu
  rw [hrow _ hw2.1 hw2.2]
theorem w_stepB {h : z_H} {pl mo c : Int} {j : Nat} {u : Int} (hj : j ≤ 7) (hc : ¬ z_and (c_light h pl mo u j) c = c) : 0 = w_S (w_lt h pl mo c) (8 - j) u := by
  rw [w_step hj, if_neg (by unfold w_lt; simp [hc])]
