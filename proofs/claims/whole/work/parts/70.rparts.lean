/-! THE REFERENCE: parts -/
def r_sx (i : Int) : Int := if i = 0 then 1 else if i = 1 then -1 else 0
def r_sy (i : Int) : Int := if i = 2 then 1 else if i = 3 then -1 else 0
theorem r_sx_rng (i : Int) : -1 ≤ r_sx i ∧ r_sx i ≤ 1 := by
  unfold r_sx
  split
  · omega
  · split <;> omega
theorem r_sy_rng (i : Int) : -1 ≤ r_sy i ∧ r_sy i ≤ 1 := by
  unfold r_sy
  split
  · omega
  · split <;> omega
/-- paint, waits, many -/
abbrev r_B : Type := (Int → Int) × (Int → Int) × Int
def r_bS (h : z_H) (col k : Int) (s : r_B) : Nat → r_B
  | 0 => s
  | n + 1 => if r_isP h ((r_bS h col k s n).2.1 k / 4 + r_sx (n : Int)) ((r_bS h col k s n).2.1 k % 4 + r_sy (n : Int)) = true ∧ (r_bS h col k s n).1 (4 * ((r_bS h col k s n).2.1 k / 4 + r_sx (n : Int)) + ((r_bS h col k s n).2.1 k % 4 + r_sy (n : Int))) = col then (r_up (r_bS h col k s n).1 (4 * ((r_bS h col k s n).2.1 k / 4 + r_sx (n : Int)) + ((r_bS h col k s n).2.1 k % 4 + r_sy (n : Int))) (-1), r_up (r_bS h col k s n).2.1 (r_bS h col k s n).2.2 (4 * ((r_bS h col k s n).2.1 k / 4 + r_sx (n : Int)) + ((r_bS h col k s n).2.1 k % 4 + r_sy (n : Int))), (r_bS h col k s n).2.2 + 1) else r_bS h col k s n
def r_bK (h : z_H) (col : Int) : Nat → Int → r_B → r_B
  | 0, _, s => s
  | f + 1, k, s => if k < s.2.2 then r_bK h col f (k + 1) (r_bS h col k s 4) else s
def r_pf (h : z_H) (P W : Int → Int) (p : Int) : r_B := r_bK h (P p) 21 0 (r_up P p (-1), r_up W 0 p, 1)
def r_neg (P : Int → Int) : Int := ((z_ct (fun i => decide (P (i : Int) = -1)) 20 : Nat) : Int)
theorem z_ct_cg {f g : Nat → Bool} : ∀ {n : Nat}, (∀ i, i < n → f i = g i) → z_ct f n = z_ct g n
  | 0, _ => rfl
  | n + 1, h => by
    unfold z_ct
    rw [z_ct_cg (f := f) (g := g) (n := n) (fun i hi => h i (by omega)), h n (by omega)]
theorem z_ct_up {f g : Nat → Bool} {q : Nat} (h1 : f q = false) (h2 : g q = true) (h3 : ∀ i, i ≠ q → g i = f i) : ∀ {n : Nat}, q < n → z_ct g n = z_ct f n + 1
  | 0, h => by omega
  | n + 1, h => by
    unfold z_ct
    by_cases e : q = n
    · subst e
      rw [h1, h2, z_ct_cg (f := g) (g := f) (n := q) (fun i hi => h3 i (by omega))]
      simp
    · rw [z_ct_up h1 h2 h3 (n := n) (by omega), h3 n (fun g => e g.symm)]
      omega
theorem r_neg_up {P : Int → Int} {q : Int} (h0 : 0 ≤ q) (h1 : q < 20) (hq : ¬ P q = -1) : r_neg (r_up P q (-1)) = r_neg P + 1 := by
  unfold r_neg
  rw [z_ct_up (f := fun i => decide (P (i : Int) = -1)) (g := fun i => decide (r_up P q (-1) (i : Int) = -1)) (q := q.toNat) ?_ ?_ ?_ (n := 20) (by omega)]
  · rfl
  · show decide (P (q.toNat : Int) = -1) = false
    rw [Int.toNat_of_nonneg h0]
    exact decide_eq_false hq
  · show decide (r_up P q (-1) (q.toNat : Int) = -1) = true
    rw [Int.toNat_of_nonneg h0]
    unfold r_up
    rw [if_pos rfl]
    rfl
  · intro i hi
    show decide (r_up P q (-1) (i : Int) = -1) = decide (P (i : Int) = -1)
    unfold r_up
    rw [if_neg (by omega)]
theorem r_neg_le (P : Int → Int) : r_neg P ≤ 20 := by
  have := z_ct_le (fun i => decide (P (i : Int) = -1)) 20
  unfold r_neg
  omega
def r_bI (s : r_B) : Prop := r_Pt s.1 ∧ 1 ≤ s.2.2 ∧ s.2.2 ≤ r_neg s.1 ∧ ∀ i, 0 ≤ i → i < s.2.2 → 0 ≤ s.2.1 i ∧ s.2.1 i < 20
theorem r_bI.rng {s : r_B} (h : r_bI s) : 1 ≤ s.2.2 ∧ s.2.2 ≤ 20 := ⟨h.2.1, Int.le_trans h.2.2.1 (r_neg_le _)⟩
theorem r_bI.add {h : z_H} (hP : r_Pl h) {s : r_B} (hs : r_bI s) {x y col : Int} (hc : 0 ≤ col) (hp : r_isP h x y = true) (he : s.1 (4 * x + y) = col) : r_bI (r_up s.1 (4 * x + y) (-1), r_up s.2.1 s.2.2 (4 * x + y), s.2.2 + 1) ∧ s.2.2 < 20 := by
  obtain ⟨a, b, c, d⟩ := hs
  have hq := of_decide_eq_true hp
  obtain ⟨⟨w1, w2⟩, ⟨g1, g2⟩, -⟩ := hP
  have hn := r_neg_up (P := s.1) (q := 4 * x + y) (by omega) (by omega) (by omega)
  have hl := r_neg_le (r_up s.1 (4 * x + y) (-1))
  refine ⟨⟨a.up ⟨by decide, by decide⟩, by show 1 ≤ s.2.2 + 1; omega, by show s.2.2 + 1 ≤ r_neg (r_up s.1 (4 * x + y) (-1)); omega, fun i h0 h1 => ?_⟩, by omega⟩
  have h1 : i < s.2.2 + 1 := h1
  show 0 ≤ r_up s.2.1 s.2.2 (4 * x + y) i ∧ r_up s.2.1 s.2.2 (4 * x + y) i < 20
  unfold r_up
  by_cases e : i = s.2.2
  · rw [if_pos e]; omega
  · rw [if_neg e]; exact d i h0 (by omega)
theorem r_bS_ok {h : z_H} (hP : r_Pl h) {col k : Int} (hc : 0 ≤ col) {s : r_B} (hs : r_bI s) : ∀ n, r_bI (r_bS h col k s n) ∧ s.2.2 ≤ (r_bS h col k s n).2.2
  | 0 => ⟨hs, Int.le_refl _⟩
  | n + 1 => by
    have ih := r_bS_ok hP (k := k) hc hs n
    unfold r_bS
    split
    · rename_i g
      exact ⟨(ih.1.add hP hc g.1 g.2).1, by show s.2.2 ≤ (r_bS h col k s n).2.2 + 1; omega⟩
    · exact ih
theorem r_bK_ok {h : z_H} (hP : r_Pl h) {col : Int} (hc : 0 ≤ col) : ∀ (f : Nat) (k : Int) (s : r_B), r_bI s → r_bI (r_bK h col f k s)
  | 0, _, _, hs => hs
  | f + 1, k, s, hs => by
    unfold r_bK
    split
    · exact r_bK_ok hP hc f (k + 1) _ (r_bS_ok hP hc hs 4).1
    · exact hs
theorem r_pf_in {h : z_H} {P W : Int → Int} {p : Int} (hPt : r_Pt P) (h0 : 0 ≤ p) (h1 : p < 20) (hc : 0 ≤ P p) : r_bI (r_up P p (-1), r_up W 0 p, 1) := by
  have hn := r_neg_up (P := P) (q := p) h0 h1 (by omega)
  have hz : 0 ≤ r_neg P := by unfold r_neg; omega
  refine ⟨hPt.up ⟨by decide, by decide⟩, by show (1 : Int) ≤ 1; decide, by show (1 : Int) ≤ r_neg (r_up P p (-1)); omega, fun i g0 g1 => ?_⟩
  have g1 : i < 1 := g1
  show 0 ≤ r_up W 0 p i ∧ r_up W 0 p i < 20
  unfold r_up
  rw [if_pos (by omega)]
  exact ⟨h0, h1⟩
theorem r_pf_ok {h : z_H} (hP : r_Pl h) {P W : Int → Int} {p : Int} (hPt : r_Pt P) (h0 : 0 ≤ p) (h1 : p < 20) (hc : 0 ≤ P p) : r_bI (r_pf h P W p) := r_bK_ok hP hc 21 0 _ (r_pf_in (h := h) hPt h0 h1 hc)
/-- the two rows -/
def r_2 (h : z_H) (P W : Int → Int) : z_H := z_rw (z_rw h 103 P) 104 W
theorem r_2_3 (h : z_H) (P W : Int → Int) : r_2 h P W 103 = P := by unfold r_2; rw [z_rw_ne _ _ (by decide), z_rw_at]
theorem r_2_4 (h : z_H) (P W : Int → Int) : r_2 h P W 104 = W := z_rw_at _ _ _
theorem r_2_ne (h : z_H) (P W : Int → Int) {q : Int} (h1 : q ≠ 103) (h2 : q ≠ 104) : r_2 h P W q = h q := by unfold r_2; rw [z_rw_ne _ _ h2, z_rw_ne _ _ h1]
theorem r_2_p4 (h : z_H) (P W : Int → Int) (i v : Int) : z_st (r_2 h P W) 104 i v = r_2 h P (r_up W i v) := by unfold r_2; rw [z_rw_st]; rfl
theorem r_2_p3 (h : z_H) (P W : Int → Int) (i v : Int) : z_st (r_2 h P W) 103 i v = r_2 h (r_up P i v) W := by
  unfold r_2
  rw [z_rw_swap h (by decide), z_rw_st, z_rw_swap (h := h) (a := 104) (b := 103) (by decide)]
  rfl
theorem r_2_self (h : z_H) : r_2 h (h 103) (h 104) = h := by
  unfold r_2
  rw [z_rw_same h 103, z_rw_same h 104]
theorem r_2_ob {h : z_H} (hO : r_Ob h) (P W : Int → Int) : r_Ob (r_2 h P W) := (hO.rw_ (by decide)).rw_ (by decide)
theorem r_2_pl {h : z_H} (hP : r_Pl h) (P W : Int → Int) : r_Pl (r_2 h P W) := (hP.rw_ (by decide) (by decide) (by decide)).rw_ (by decide) (by decide) (by decide)
theorem r_2_isP (h : z_H) (P W : Int → Int) (x y : Int) : r_isP (r_2 h P W) x y = r_isP h x y := by
  unfold r_isP
  rw [r_2_ne _ _ _ (by decide) (by decide)]
/-- paint, waits, parts, most -/
abbrev r_C : Type := (Int → Int) × (Int → Int) × Int × Int
def r_ptS (h : z_H) (p : Int) (t : r_C) : r_C := if 0 ≤ t.1 p then ((r_pf h t.1 t.2.1 p).1, (r_pf h t.1 t.2.1 p).2.1, t.2.2.1 + 1, if t.2.2.2 < (r_pf h t.1 t.2.1 p).2.2 then (r_pf h t.1 t.2.1 p).2.2 else t.2.2.2) else t
def r_ptY (h : z_H) (x : Int) (s : r_C) : Nat → r_C
  | 0 => s
  | y + 1 => r_ptS h (4 * x + (y : Int)) (r_ptY h x s y)
def r_ptX (h : z_H) (s : r_C) : Nat → r_C
  | 0 => s
  | x + 1 => r_ptY h (x : Int) (r_ptX h s x) (h 89 1).toNat
def r_cI (t : r_C) : Prop := r_Pt t.1 ∧ 0 ≤ t.2.2.2 ∧ t.2.2.2 ≤ 20
theorem r_ptS_ok {h : z_H} (hP : r_Pl h) {p : Int} {t : r_C} (ht : r_cI t) (h0 : 0 ≤ p) (h1 : p < 20) : r_cI (r_ptS h p t) := by
  unfold r_ptS
  by_cases g : 0 ≤ t.1 p
  · rw [if_pos g]
    have hf := r_pf_ok hP (W := t.2.1) ht.1 h0 h1 g
    have hr := hf.rng
    refine ⟨hf.1, ?_, ?_⟩
    · show 0 ≤ (if t.2.2.2 < (r_pf h t.1 t.2.1 p).2.2 then (r_pf h t.1 t.2.1 p).2.2 else t.2.2.2)
      have := ht.2
      split <;> omega
    · show (if t.2.2.2 < (r_pf h t.1 t.2.1 p).2.2 then (r_pf h t.1 t.2.1 p).2.2 else t.2.2.2) ≤ 20
      have := ht.2
      split <;> omega
  · rw [if_neg g]
    exact ht
theorem r_ptY_ok {h : z_H} (hP : r_Pl h) {x : Int} {t : r_C} (ht : r_cI t) (h0 : 0 ≤ x) (h1 : x < 5) : ∀ n : Nat, n ≤ 4 → r_cI (r_ptY h x t n)
  | 0, _ => ht
  | n + 1, hn => r_ptS_ok hP (r_ptY_ok hP ht h0 h1 n (by omega)) (by omega) (by omega)
theorem r_ptX_ok {h : z_H} (hP : r_Pl h) {t : r_C} (ht : r_cI t) : ∀ n : Nat, n ≤ 5 → r_cI (r_ptX h t n)
  | 0, _ => ht
  | n + 1, hn => r_ptY_ok hP (r_ptX_ok hP ht n (by omega)) (by omega) (by omega) _ (by have := hP.2.1; omega)
def r_pt0 (h : z_H) : r_C := (r_lay h, h 104, 0, 0)
def r_pts (h : z_H) : r_C := r_ptX h (r_pt0 h) (h 89 0).toNat
