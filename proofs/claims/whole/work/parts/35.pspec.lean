/-! PaneLight: its own cell and functions -/
def c_Ob (h : z_H) : Prop := h 0 0 = 1 ∧ h 0 1 = 3 ∧ h 0 2 = 31 ∧ h 0 3 = 32 ∧ h 0 4 = 34 ∧ h 0 5 = 37 ∧ h 37 0 = 41 ∧ h 37 1 = 65 ∧ h 32 0 = 33
def c_tile (x y : Int) : Bool := decide (0 ≤ x ∧ x < 12 ∧ 0 ≤ y ∧ y < 7)
def c_hour (x : Int) : Bool := decide (0 ≤ x ∧ x < 8)
def c_isSh (h : z_H) (pl s : Int) : Bool := decide (0 ≤ s ∧ s < h pl 4)
/-- g is the greatest that divides both 100 and u -/
def c_gd (u g : Int) : Prop := 1 ≤ g ∧ g ≤ 100 ∧ (100 % g = 0 ∧ u % g = 0) ∧ ∀ j : Int, g < j → j ≤ 100 → ¬ (100 % j = 0 ∧ u % j = 0)
def c_clr100 (h : z_H) (pl mo t k x : Int) : Int := if c_light h pl mo t k = 7 then 100 else 100 - (if c_mir h pl mo t k = -1 then (if c_own h pl mo t k = -1 then 100 else 10 * (10 - x)) else (if c_own h pl mo t k = -1 then 100 else 10 * (10 - x)) * (10 - x) / 10)
theorem V_dup2 {Γ : z_C} {M : z_M} {a : Nat × Nat × Nat} {pc : Nat} {L st : List (Nat × Int)} {h : z_H} {x y : Nat × Int} (X : z_Ok Γ M) (d : decode M.2.1 pc = .ok (.dup2, 1)) (hx : x.1 ≠ 1) (hy : y.1 ≠ 1) (k : z_V Γ a (pc + 1) L (x :: y :: x :: y :: st) h) : z_V Γ a pc L (x :: y :: st) h := by
  obtain ⟨p, l, e, R, s, m, args, below, meth, c, Q, D, ca, base⟩ := Γ
  obtain ⟨y', cc, nL, ret, fr, lo, rc, rs⟩ := M
  obtain ⟨n, cells, slots⟩ := a
  obtain ⟨hex, hb, hml, hown, hts, hlk, hrt, hfr, hlo, hrc, hrs, hK, hbs, hnm⟩ := X
  intro H locs ls hW hS hL
  exact lv_dup2_11 hex hb d (by rw [z_cat, if_neg hx]) (by rw [z_cat, if_neg hy]) (k H locs ls hW hS hL)
def c_paneF (h : z_H) (pl mo x y w : Int) : Int := if c_paneAt h pl x y = -1 then -1 else if w = 0 then h (pl + 1) (c_paneAt h pl x y) else if w = 1 then z_b (c_broken h mo (c_paneAt h pl x y)) else if w = 2 then h (mo + 1) (c_paneAt h pl x y) else if w = 3 then c_lets h pl mo (c_paneAt h pl x y) else -1
def c_sheetF (h : z_H) (pl mo s w : Int) : Int := if c_isSh h pl s = false then -1 else if w = 0 then h (pl + 2) (z_shl 1 s) else if w = 1 then c_behind h mo s else -1
/-- a sheet laid before pane p -/
def c_layH (h : z_H) (s p : Int) : z_H := z_st (c_advH h 4) (c_advR h 4 + 1) p (z_or (c_advH h 4 (c_advR h 4 + 1) p) (z_shl 1 s))
def c_takH (h : z_H) (s p : Int) : z_H := z_st (c_advH h 4) (c_advR h 4 + 1) p (z_and (c_advH h 4 (c_advR h 4 + 1) p) (z_xor (z_shl 1 s) (-1)))
def c_brkH (h : z_H) (p : Int) : z_H := z_st (z_st (c_advH h 4) (c_advR h 4 + 1) p 0) (c_advR h 4) 1 (z_or (c_advH h 4 (c_advR h 4) 1) (z_shl 1 p))
def c_menH (h : z_H) (p : Int) : z_H := z_st (c_advH h 4) (c_advR h 4) 1 (z_and (c_advH h 4 (c_advR h 4) 1) (z_xor (z_shl 1 p) (-1)))
def c_movH (h : z_H) (m s : Int) : z_H := z_st (z_st (c_advH h 4) (c_advR h 4) 2 m) (c_advR h 4) 3 s
def c_undH (h : z_H) : z_H := z_st (z_st h 4 1 (h 4 1 - 1)) 4 2 (h 5 (h 4 1 - 1))
theorem z_or_256 {x s : Int} (h0 : 0 ≤ x) (h1 : x < 256) (s0 : 0 ≤ s) (s1 : s < 8) : 0 ≤ z_or x (z_shl 1 s) ∧ z_or x (z_shl 1 s) < 256 := by
  rw [z_shl1 s0 (by omega)]
  obtain ⟨a, rfl⟩ := Int.eq_ofNat_of_zero_le h0
  have hb : (2 : Nat) ^ s.toNat < 2 ^ 8 := Nat.pow_lt_pow_right (by decide) (by omega)
  rw [z_or_nat (by omega) (by omega)]
  have : a ||| 2 ^ s.toNat < 2 ^ 8 := Nat.or_lt_two_pow (by omega) hb
  omega
theorem z_or_20 {x s : Int} (h0 : 0 ≤ x) (h1 : x < 1048576) (s0 : 0 ≤ s) (s1 : s < 20) : 0 ≤ z_or x (z_shl 1 s) ∧ z_or x (z_shl 1 s) < 1048576 := by
  rw [z_shl1 s0 (by omega)]
  obtain ⟨a, rfl⟩ := Int.eq_ofNat_of_zero_le h0
  have hb : (2 : Nat) ^ s.toNat < 2 ^ 20 := Nat.pow_lt_pow_right (by decide) (by omega)
  rw [z_or_nat (by omega) (by omega)]
  have : a ||| 2 ^ s.toNat < 2 ^ 20 := Nat.or_lt_two_pow (by omega) hb
  omega
/-- the scene when a place of the present moment's row, or its own, is written -/
theorem c_Sc_row {h : z_H} {pl mo p v : Int} (hS : c_Sc h pl mo) (hv : 0 ≤ v ∧ v < 256) (hm : mo + 1 ≠ pl + 1) : c_Sc (z_st h (mo + 1) p v) pl mo := by
  obtain ⟨r30, r31, r42, ⟨kp, rp0, rp1, kp1, kp2, hw, hh, hs, hgl, hpi⟩, ⟨km, rm0, km1, hbr, hmi, hse, hbf⟩⟩ := hS
  have e3 : (3 : Int) ≠ mo + 1 := fun e => by rw [← e] at km1; revert km1; decide
  have e4 : (4 : Int) ≠ mo + 1 := fun e => by rw [← e] at km1; revert km1; decide
  have e5 : pl ≠ mo + 1 := z_ne_kd kp km1 (by decide)
  have e6 : pl + 2 ≠ mo + 1 := z_ne_kd kp2 km1 (by decide)
  have e7 : mo ≠ mo + 1 := by omega
  have e8 : pl + 1 ≠ mo + 1 := fun e => hm e.symm
  unfold c_Sc c_Pl c_Mo
  rw [z_st_cell h e3, z_st_cell h e4, z_st_cell h e5, z_st_cell h e6, z_st_cell h e7, z_st_cell h e8]
  refine ⟨r30, r31, r42, ⟨kp, rp0, rp1, kp1, kp2, hw, hh, hs, hgl, hpi⟩, ⟨km, rm0, km1, hbr, hmi, hse, fun q a b => ?_⟩⟩
  by_cases e : q = p
  · rw [e, z_st_at]; exact hv
  · rw [z_st_slot h e]; exact hbf q a b
theorem c_Sc_mo {h : z_H} {pl mo j v : Int} (hS : c_Sc h pl mo) (hv : (j = 1 ∧ 0 ≤ v ∧ v < 1048576) ∨ (j = 2 ∧ 1 ≤ v ∧ v ≤ 12) ∨ (j = 3 ∧ 0 ≤ v ∧ v ≤ 3)) : c_Sc (z_st h mo j v) pl mo := by
  obtain ⟨r30, r31, r42, ⟨kp, rp0, rp1, kp1, kp2, hw, hh, hs, hgl, hpi⟩, ⟨km, rm0, km1, hbr, hmi, hse, hbf⟩⟩ := hS
  have e3 : (3 : Int) ≠ mo := fun e => by rw [← e] at km; revert km; decide
  have e4 : (4 : Int) ≠ mo := fun e => by rw [← e] at km; revert km; decide
  have e5 : pl ≠ mo := z_ne_kd kp km (by decide)
  have e6 : pl + 2 ≠ mo := z_ne_kd kp2 km (by decide)
  have e7 : mo + 1 ≠ mo := by omega
  have e8 : pl + 1 ≠ mo := z_ne_kd kp1 km (by decide)
  unfold c_Sc c_Pl c_Mo
  rw [z_st_cell h e3, z_st_cell h e4, z_st_cell h e5, z_st_cell h e6, z_st_cell h e7, z_st_cell h e8]
  refine ⟨r30, r31, r42, ⟨kp, rp0, rp1, kp1, kp2, hw, hh, hs, hgl, hpi⟩, ⟨km, by rw [z_st_slot h (by omega)]; exact rm0, km1, ?_, ?_, ?_, hbf⟩⟩
  · by_cases e : (1 : Int) = j
    · subst e; rw [z_st_at]; omega
    · rw [z_st_slot h e]; exact hbr
  · by_cases e : (2 : Int) = j
    · subst e; rw [z_st_at]; omega
    · rw [z_st_slot h e]; exact hmi
  · by_cases e : (3 : Int) = j
    · subst e; rw [z_st_at]; omega
    · rw [z_st_slot h e]; exact hse
theorem c_pl_is {pl : Int} (hk : z_kd 107 pl = (0, 2)) : pl = 28 ∨ pl = 38 := by
  have := z_kd_spec hk (Nat.ne_of_beq_eq_false rfl)
  have hall : ∀ k : Nat, k < 107 → z_kd 107 (k : Int) = (0, 2) → k = 28 ∨ k = 38 := by decide +kernel
  have := hall pl.toNat this.2.1 (by rw [this.2.2]; exact hk)
  omega
def c_nowF (h : z_H) (pl mo w : Int) : Int := if w = 0 then h mo 2 else if w = 1 then h mo 3 else if w = 2 then h mo 1 else if w = 3 then c_box h pl mo else if w = 4 then c_leads h pl mo else if w = 5 then c_parts h pl mo else if w = 6 then c_great h pl mo else -1
/-- tiles of just that colour among the n highest numbers: how many, the first -/
def c_litN (h : z_H) (pl mo c k : Int) : Nat → Int × Int
  | 0 => (0, -9)
  | n + 1 => if c_light h pl mo (83 - (n : Int)) k = c then ((c_litN h pl mo c k n).1 + 1, 83 - (n : Int)) else c_litN h pl mo c k n
theorem c_litN_rng (h : z_H) (pl mo c k : Int) : ∀ n : Nat, 0 ≤ (c_litN h pl mo c k n).1 ∧ (c_litN h pl mo c k n).1 ≤ n
  | 0 => ⟨Int.le_refl 0, Int.le_refl 0⟩
  | n + 1 => by
    have := c_litN_rng h pl mo c k n
    unfold c_litN
    split
    · dsimp only
      omega
    · omega
def c_litF (h : z_H) (pl mo c k w : Int) : Int := if c_hour c = true ∧ c_hour k = true ∧ 0 ≤ w ∧ w ≤ 1 then (if w = 0 then (c_litN h pl mo c k 84).1 else (c_litN h pl mo c k 84).2) else -1
def c_whenF (h : z_H) (pl mo x y c : Int) : Int := if c_tile x y = true ∧ c_hour c = true then z_find (fun k => decide (c_light h pl mo (7 * x + y) k = c)) 8 else -1
def c_lightF (h : z_H) (pl mo x y k : Int) : Int := if c_tile x y = true ∧ c_hour k = true then c_light h pl mo (7 * x + y) k else -1
def c_countF (h : z_H) (pl w : Int) : Int := if w = 0 then h pl 2 else if w = 1 then h pl 3 else if w = 2 then h pl 4 else if w = 3 then h 34 2 else if w = 4 then h 4 1 else if w = 5 then h 1 1 else -1
