/-! WHAT THE CLASS HOLDS, and its functions over the cells -/
/-- the plan's cells -/
def c_Pl (h : z_H) (pl : Int) : Prop := z_kd 107 pl = (0, 2) ∧ h pl 0 = pl + 1 ∧ h pl 1 = pl + 2 ∧ z_kd 107 (pl + 1) = (1, 20) ∧ z_kd 107 (pl + 2) = (1, 256) ∧ (1 ≤ h pl 2 ∧ h pl 2 ≤ 5) ∧ (1 ≤ h pl 3 ∧ h pl 3 ≤ 4) ∧ (0 ≤ h pl 4 ∧ h pl 4 ≤ 8) ∧ (∀ p, 0 ≤ p → p < 20 → 0 ≤ h (pl + 1) p ∧ h (pl + 1) p < 8) ∧ ∀ p, 0 ≤ p → p < 256 → 0 ≤ h (pl + 2) p ∧ h (pl + 2) p < 8
/-- a moment's cells -/
def c_Mo (h : z_H) (mo : Int) : Prop := z_kd 107 mo = (0, 1) ∧ h mo 0 = mo + 1 ∧ z_kd 107 (mo + 1) = (1, 20) ∧ (0 ≤ h mo 1 ∧ h mo 1 < 1048576) ∧ (1 ≤ h mo 2 ∧ h mo 2 ≤ 12) ∧ (0 ≤ h mo 3 ∧ h mo 3 ≤ 3) ∧ ∀ p, 0 ≤ p → p < 20 → 0 ≤ h (mo + 1) p ∧ h (mo + 1) p < 256
/-- the scene: its plan, the story's present -/
def c_Sc (h : z_H) (pl mo : Int) : Prop := h 3 0 = 4 ∧ h 3 1 = pl ∧ h 4 2 = mo ∧ c_Pl h pl ∧ c_Mo h mo
def c_paneAt (h : z_H) (pl x y : Int) : Int := if 0 ≤ x ∧ x < h pl 2 ∧ 0 ≤ y ∧ y < h pl 3 then 4 * x + y else -1
theorem c_paneAt_rng {h : z_H} {pl x y : Int} (h1 : h pl 2 ≤ 5) (h2 : h pl 3 ≤ 4) : -1 ≤ c_paneAt h pl x y ∧ c_paneAt h pl x y < 20 := by
  unfold c_paneAt
  split <;> omega
def c_broken (h : z_H) (mo p : Int) : Bool := tb (h mo 1) p
def c_colour (h : z_H) (pl mo p : Int) : Int := if c_broken h mo p then 7 else h (pl + 1) p
def c_lets (h : z_H) (pl mo p : Int) : Int := if p = -1 then 0 else z_and (c_colour h pl mo p) (h (pl + 2) (h (mo + 1) p))
def c_own (h : z_H) (pl mo t k : Int) : Int := if h mo 2 ≤ t / 7 then -1 else c_paneAt h pl (t / 7 - k) (t % 7 - h mo 3)
def c_mir (h : z_H) (pl mo t k : Int) : Int := if h mo 2 ≤ t / 7 then -1 else c_paneAt h pl (2 * h mo 2 - 1 - t / 7 - k) (t % 7 - h mo 3)
def c_light (h : z_H) (pl mo t k : Int) : Int := z_or (c_lets h pl mo (c_own h pl mo t k)) (c_lets h pl mo (c_mir h pl mo t k))
def c_room (h : z_H) (mo p : Int) : Int := if p = -1 ∨ c_broken h mo p = true then 0 else 3 - z_pop (h (mo + 1) p)
def c_has (h : z_H) (pl p : Int) : Bool := !decide (c_paneAt h pl (p / 4) (p % 4) = -1)
def c_behind (h : z_H) (mo s : Int) : Int := z_find (fun p => tb (h (mo + 1) p) s) 20
/-- f 0 or f 1 or .. -/
def z_orf (f : Int → Int) : Nat → Int
  | 0 => 0
  | n + 1 => z_or (z_orf f n) (f (n : Int))
def c_box (h : z_H) (pl mo : Int) : Int := z_and (z_shl 1 (h pl 4) - 1) (z_xor (z_orf (h (mo + 1)) 20) (-1))
def c_lost (h : z_H) (pl mo : Int) : Int := h pl 3 * (if 0 < h pl 2 - 2 * h mo 2 then h pl 2 - 2 * h mo 2 else 0)
/-- LIGHT, were it so that pane q lets v through -/
def c_lightIf (h : z_H) (pl mo t k q v : Int) : Int := z_or (if c_own h pl mo t k = q then v else c_lets h pl mo (c_own h pl mo t k)) (if c_mir h pl mo t k = q then v else c_lets h pl mo (c_mir h pl mo t k))
theorem c_own_rng {h : z_H} {pl mo t k : Int} (hS : c_Sc h pl mo) : -1 ≤ c_own h pl mo t k ∧ c_own h pl mo t k < 20 := by
  unfold c_own
  split
  · omega
  · exact c_paneAt_rng hS.2.2.2.1.2.2.2.2.2.1.2 hS.2.2.2.1.2.2.2.2.2.2.1.2
theorem c_mir_rng {h : z_H} {pl mo t k : Int} (hS : c_Sc h pl mo) : -1 ≤ c_mir h pl mo t k ∧ c_mir h pl mo t k < 20 := by
  unfold c_mir
  split
  · omega
  · exact c_paneAt_rng hS.2.2.2.1.2.2.2.2.2.1.2 hS.2.2.2.1.2.2.2.2.2.2.1.2
theorem c_colour_rng {h : z_H} {pl mo p : Int} (hS : c_Sc h pl mo) (h0 : 0 ≤ p) (h1 : p < 20) : 0 ≤ c_colour h pl mo p ∧ c_colour h pl mo p < 8 := by
  unfold c_colour
  split
  · omega
  · exact hS.2.2.2.1.2.2.2.2.2.2.2.2.1 p h0 h1
def c_unl (h : z_H) (pl mo p c : Int) : Int := if p = -1 ∨ c_colour h pl mo p = c then 0 else 1
def c_unb (h : z_H) (pl mo p c : Int) : Int := c_unl h pl mo (c_paneAt h pl (p / 4 - 1) (p % 4)) c + c_unl h pl mo (c_paneAt h pl (p / 4 + 1) (p % 4)) c + c_unl h pl mo (c_paneAt h pl (p / 4) (p % 4 - 1)) c + c_unl h pl mo (c_paneAt h pl (p / 4) (p % 4 + 1)) c
theorem c_unl_rng (h : z_H) (pl mo p c : Int) : 0 ≤ c_unl h pl mo p c ∧ c_unl h pl mo p c ≤ 1 := by
  unfold c_unl
  split <;> omega
theorem c_unb_rng (h : z_H) (pl mo p c : Int) : 0 ≤ c_unb h pl mo p c ∧ c_unb h pl mo p c ≤ 4 := by
  have h1 := c_unl_rng h pl mo (c_paneAt h pl (p / 4 - 1) (p % 4)) c
  have h2 := c_unl_rng h pl mo (c_paneAt h pl (p / 4 + 1) (p % 4)) c
  have h3 := c_unl_rng h pl mo (c_paneAt h pl (p / 4) (p % 4 - 1)) c
  have h4 := c_unl_rng h pl mo (c_paneAt h pl (p / 4) (p % 4 + 1)) c
  unfold c_unb
  omega
def c_add (h : z_H) (pl mo p c : Int) : Int := c_unb h pl mo p c - c_unb h pl mo p (c_colour h pl mo p)
def c_ldf (h : z_H) (pl mo p : Int) : Int := if c_has h pl p then c_unb h pl mo p (c_colour h pl mo p) else 0
theorem c_ldf_rng (h : z_H) (pl mo : Int) (n : Nat) : 0 ≤ z_sum (c_ldf h pl mo) n ∧ z_sum (c_ldf h pl mo) n ≤ n * 4 := z_sum_rng (fun k _ _ => by
  have := c_unb_rng h pl mo k (c_colour h pl mo k)
  unfold c_ldf
  split <;> omega)
def c_leads (h : z_H) (pl mo : Int) : Int := z_sum (c_ldf h pl mo) 20 / 2
def c_pok (h : z_H) (pl mo w : Int) : Bool := c_has h pl (w / 8) && !decide (c_colour h pl mo (w / 8) = w % 8)
def c_paint (h : z_H) (pl mo : Int) (n : Nat) : Int × Int := z_amin (c_pok h pl mo) (fun w => c_add h pl mo (w / 8) (w % 8)) 20 n
theorem c_paint_rng (h : z_H) (pl mo : Int) : ∀ n : Nat, n ≤ 160 → -9 ≤ (c_paint h pl mo n).1 ∧ (c_paint h pl mo n).1 < 160 ∧ -4 ≤ (c_paint h pl mo n).2 ∧ (c_paint h pl mo n).2 ≤ 20
  | 0, _ => by unfold c_paint z_amin; simp
  | n + 1, hn => by
    have ih := c_paint_rng h pl mo n (by omega)
    unfold c_paint at ih ⊢
    unfold z_amin
    have h1 := c_unb_rng h pl mo ((n : Int) / 8) ((n : Int) % 8)
    have h2 := c_unb_rng h pl mo ((n : Int) / 8) (c_colour h pl mo ((n : Int) / 8))
    split
    · simp only [c_add]
      omega
    · exact ih
def c_alike (h : z_H) (pl mo c : Int) : Nat := z_set (fun p => c_has h pl (p : Int) && decide (c_colour h pl mo (p : Int) = c)) 20
def c_beside (x : Int) : Int := z_or (z_or (z_shl x 4) (z_shr x 4)) (z_or (z_shl (z_and x (-559241)) 1) (z_shr (z_and x (-69906)) 1))
def c_partN (h : z_H) (pl mo p : Int) : Nat → Int
  | 0 => z_shl 1 p
  | n + 1 => z_and (z_or (c_partN h pl mo p n) (c_beside (c_partN h pl mo p n))) ((c_alike h pl mo (c_colour h pl mo p) : Nat) : Int)
def c_part (h : z_H) (pl mo p : Int) : Int := c_partN h pl mo p 19
theorem c_part_rng (h : z_H) (pl mo p : Int) : 0 ≤ c_part h pl mo p ∧ c_part h pl mo p < 1048576 := by
  have hl : c_alike h pl mo (c_colour h pl mo p) < 2 ^ 20 := z_set_lt _ 20
  have := z_and_mr (z_or (c_partN h pl mo p 18) (c_beside (c_partN h pl mo p 18))) (b := c_alike h pl mo (c_colour h pl mo p)) (by omega)
  exact ⟨this.1, Int.lt_of_le_of_lt this.2 (by omega)⟩
def c_ptf (h : z_H) (pl mo p : Int) : Int := if c_has h pl p = true ∧ z_and (c_part h pl mo p) (z_shl 1 p - 1) = 0 then 1 else 0
def c_parts (h : z_H) (pl mo : Int) : Int := z_sum (c_ptf h pl mo) 20
def c_great (h : z_H) (pl mo : Int) : Int := z_gr (c_has h pl) (fun p => z_pop (c_part h pl mo p)) 20
