/-! PaneLight: its own cell and functions -/
def c_Ob (h : z_H) : Prop := h 0 0 = 1 ∧ h 0 1 = 3 ∧ h 0 2 = 31 ∧ h 0 3 = 32 ∧ h 0 4 = 34 ∧ h 0 5 = 37 ∧ h 37 0 = 41 ∧ h 37 1 = 65 ∧ h 32 0 = 33
def c_tile (x y : Int) : Bool := decide (0 ≤ x ∧ x < 12 ∧ 0 ≤ y ∧ y < 7)
def c_hour (x : Int) : Bool := decide (0 ≤ x ∧ x < 8)
def c_isSh (h : z_H) (pl s : Int) : Bool := decide (0 ≤ s ∧ s < h pl 4)
/-- g is the greatest that divides both 100 and u -/
def c_gd (u g : Int) : Prop := 1 ≤ g ∧ g ≤ 100 ∧ (100 % g = 0 ∧ u % g = 0) ∧ ∀ j : Int, g < j → j ≤ 100 → ¬ (100 % j = 0 ∧ u % j = 0)
def c_clr100 (h : z_H) (pl mo t k x : Int) : Int := if c_light h pl mo t k = 7 then 100 else 100 - (if c_mir h pl mo t k = -1 then (if c_own h pl mo t k = -1 then 100 else 10 * (10 - x)) else (if c_own h pl mo t k = -1 then 100 else 10 * (10 - x)) * (10 - x) / 10)
theorem V_dup2 {Γ : z_C} {M : z_M} {a : Nat × Nat × Nat} {pc : Nat} {L st : List (Nat × Int)} {h : z_H} {x y : Nat × Int} (X : z_Ok Γ M) (d : decode M.2.1 pc = .ok (.dup2, 1)) (hx : x.1 ≠ 1) (hy : y.1 ≠ 1) (k : z_V Γ a (pc + 1) L (x :: y :: x :: y :: st) h) : z_V Γ a pc L (x :: y :: st) h := by
  obtain ⟨p, l, e, R, s, m, args, below, meth, c, Q, D, ca, base⟩ := Γ
  obtain ⟨y', cc, nL, ret, fr, lo, rc, rs⟩ := M
  obtain ⟨n, cells, slots⟩ := a
  obtain ⟨hex, hb, hml, hown, hts, hlk, hrt, hfr, hlo, hrc, hrs, hK, hbs, hnm⟩ := X
  intro H locs ls hW hS hL
  exact lv_dup2_11 hex hb d (by rw [z_cat, if_neg hx]) (by rw [z_cat, if_neg hy]) (k H locs ls hW hS hL)
