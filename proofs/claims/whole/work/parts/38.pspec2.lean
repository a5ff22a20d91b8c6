/-! PaneLight, 3: its functions -/
def c_mixOk (x y k c w : Int) : Prop := c_tile x y = true ∧ c_hour k = true ∧ c_hour c = true ∧ 0 ≤ w ∧ w ≤ 2
def c_mixQ (h : z_H) (pl mo t k c : Int) : Int × Int × Int × Int := m_sk h pl mo t k c (0, h 31 1, h 31 2, h 31 3) ((c_box h pl mo).toNat + 1)
def c_mixA (q : Int × Int × Int × Int) (w : Int) : Int := if q.1 = 0 then -9 else if w = 0 then q.2.1 else if w = 1 then q.2.2.1 else q.2.2.2
def c_paintF (h : z_H) (pl mo w : Int) : Int := if 0 ≤ w ∧ w ≤ 1 then (if w = 0 then (c_paint h pl mo 160).1 else c_leads h pl mo + c_add h pl mo ((c_paint h pl mo 160).1 / 8) ((c_paint h pl mo 160).1 % 8)) else -1
def c_glsF (h : z_H) (pl mo x y : Int) : Int := if c_paneAt h pl x y = -1 then -1 else ((c_gls h pl mo (c_paneAt h pl x y) : Nat) : Int)
def c_lookF (h : z_H) (pl mo : Int) : Int := if ((c_sus h pl mo : Nat) : Int) = 0 then -9 else (c_best h pl mo ((c_sus h pl mo : Nat) : Int) 672).1
theorem c_sus_lt (h : z_H) (pl mo : Int) : c_sus h pl mo < 2097152 := z_set_lt _ 21
/-- the best way to paint is a pane's -/
theorem z_amin_ok {ok : Int → Bool} {f : Int → Int} {lim : Int} : ∀ {n : Nat}, (z_amin ok f lim n).1 = -9 ∨ (0 ≤ (z_amin ok f lim n).1 ∧ (z_amin ok f lim n).1 < n ∧ ok (z_amin ok f lim n).1 = true)
  | 0 => Or.inl rfl
  | n + 1 => by
    have ih := z_amin_ok (ok := ok) (f := f) (lim := lim) (n := n)
    unfold z_amin
    split
    · rename_i g
      exact Or.inr ⟨by show (0 : Int) ≤ (n : Int); omega, by show (n : Int) < ((n + 1 : Nat) : Int); omega, g.1⟩
    · rcases ih with g | ⟨a, b, c⟩
      · exact Or.inl g
      · exact Or.inr ⟨a, by omega, c⟩
theorem z_amin_hit {ok : Int → Bool} {f : Int → Int} {lim : Int} {i : Int} (h0 : 0 ≤ i) (hi : ok i = true) (hf : f i < lim) : ∀ {n : Nat}, i < n → ¬ (z_amin ok f lim n).1 = -9
  | 0, h => by omega
  | n + 1, h => by
    unfold z_amin
    split
    · show ¬ (n : Int) = -9
      omega
    · rename_i g
      by_cases e : i < n
      · exact z_amin_hit h0 hi hf e
      · intro g2
        have e2 : i = n := by omega
        subst e2
        have hlim : (z_amin ok f lim n).2 = lim := by
          have : ∀ m : Nat, (z_amin ok f lim m).1 = -9 → (z_amin ok f lim m).2 = lim := by
            intro m
            induction m with
            | zero => intro _; rfl
            | succ m ih =>
              intro q
              unfold z_amin at q ⊢
              split at q
              · have q : (m : Int) = -9 := q
                omega
              · rename_i g3
                rw [if_neg g3]
                exact ih q
          exact this n g2
        exact g ⟨hi, by rw [hlim]; exact hf⟩
theorem c_paint_is {h : z_H} {pl mo : Int} (hS : c_Sc h pl mo) : 0 ≤ (c_paint h pl mo 160).1 ∧ (c_paint h pl mo 160).1 < 160 := by
  have h1 : ¬ (c_paint h pl mo 160).1 = -9 := by
    obtain ⟨r30, r31, r42, ⟨kp, rp0, rp1, kp1, kp2, hw, hh, hs, hgl, hpi⟩, -⟩ := id hS
    have hc := c_colour_rng hS (show (0 : Int) ≤ 0 by decide) (show (0 : Int) < 20 by decide)
    have hhas : c_has h pl 0 = true := by
      unfold c_has c_paneAt
      rw [if_pos ⟨by decide, by show (0 : Int) / 4 < h pl 2; omega, by decide, by show (0 : Int) % 4 < h pl 3; omega⟩]
      decide
    have key : ∀ w : Int, 0 ≤ w → w < 8 → ¬ c_colour h pl mo 0 = w → ¬ (c_paint h pl mo 160).1 = -9 := fun w a b e => by
      refine z_amin_hit (i := w) a ?_ ?_ (by omega)
      · unfold c_pok
        rw [show w / 8 = 0 by omega, show w % 8 = w by omega, hhas]
        simp [e]
      · have g1 := c_unb_rng h pl mo (w / 8) (w % 8)
        have g2 := c_unb_rng h pl mo (w / 8) (c_colour h pl mo (w / 8))
        show c_add h pl mo (w / 8) (w % 8) < 20
        unfold c_add
        omega
    by_cases e : c_colour h pl mo 0 = 0
    · exact key 1 (by decide) (by decide) (by omega)
    · exact key 0 (by decide) (by decide) e
  rcases z_amin_ok (ok := c_pok h pl mo) (f := fun w => c_add h pl mo (w / 8) (w % 8)) (lim := 20) (n := 160) with g | ⟨a, b, -⟩
  · exact absurd g h1
  · exact ⟨a, b⟩
/-- THE TRACE grown -/
def c_tr (h : z_H) (k : Int) : z_H := z_st h 0 8 (h 0 8 + k)
theorem c_tr_eq {h : z_H} {pl mo k : Int} (hS : c_Sc h pl mo) : c_Eq h (c_tr h k) pl mo := c_Eq.of hS (fun q hq => z_st_cell h (fun e => by subst e; revert hq; decide))
theorem c_tr_ob {h : z_H} {k : Int} (hO : c_Ob h) : c_Ob (c_tr h k) := by
  obtain ⟨a, b, c, d, e, f, g, i, j⟩ := hO
  unfold c_tr
  exact ⟨by rw [z_st_slot h (by decide)]; exact a, by rw [z_st_slot h (by decide)]; exact b, by rw [z_st_slot h (by decide)]; exact c, by rw [z_st_slot h (by decide)]; exact d, by rw [z_st_slot h (by decide)]; exact e, by rw [z_st_slot h (by decide)]; exact f, by rw [z_st_cell h (by decide)]; exact g, by rw [z_st_cell h (by decide)]; exact i, by rw [z_st_cell h (by decide)]; exact j⟩
theorem c_tr_tr (h : z_H) (a b : Int) : c_tr (c_tr h a) b = c_tr h (a + b) := by
  unfold c_tr
  rw [z_st_at, z_st_twice, Int.add_assoc]
def c_markF (h : z_H) (pl mo kd p : Int) : Int := if kd = 0 then c_lets h pl mo p else if kd = 1 then c_lets h pl mo p + z_pop (h (mo + 1) p) else if kd = 2 then c_lets h pl mo p - p % 4 else if kd = 3 then (c_lets h pl mo p + z_pop (h (mo + 1) p)) * 2 else if kd = 4 then c_lets h pl mo p - p % 4 + p else c_lets h pl mo p + h mo 2
def c_markT (kd : Int) : Int := if kd = 0 then 1 else if kd = 1 then 11 else if kd = 2 then 101 else if kd = 3 then 1011 else if kd = 4 then 10101 else 100001
/-- which story an image is -/
def c_img (i : Int) : Int := if i = 0 then 41 else 65
def c_keepH (h : z_H) (i : Int) : z_H := z_st (c_sbH h (c_img i) 4) 0 7 (z_or (h 0 7) (z_shl 1 i))
theorem c_clr_rng {h : z_H} {pl mo t k x : Int} (h0 : 0 ≤ x) (h1 : x ≤ 10) : 0 ≤ c_clr100 h pl mo t k x ∧ c_clr100 h pl mo t k x ≤ 100 := by
  unfold c_clr100
  split
  · omega
  · have key : ∀ v : Int, 0 ≤ v → v ≤ 100 → 0 ≤ v * (10 - x) / 10 ∧ v * (10 - x) / 10 ≤ 100 := fun v a b => by
      have g1 := Int.mul_nonneg a (show 0 ≤ 10 - x by omega)
      have g2 := Int.mul_le_mul b (show 10 - x ≤ 10 by omega) (by omega) (by decide)
      omega
    split
    · split <;> omega
    · split
      · have := key 100 (by decide) (by decide); omega
      · have := key (10 * (10 - x)) (by omega) (by omega); omega
