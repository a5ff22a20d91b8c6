/-! CLASS AND REFERENCE: leads -/
theorem z_sum_s (f : Int → Int) (n : Nat) : z_sum f (n + 1) = z_sum f n + f (n : Int) := rfl
theorem z_sum_cg {f g : Int → Int} : ∀ {n : Nat}, (∀ k : Int, 0 ≤ k → k < n → f k = g k) → z_sum f n = z_sum g n
  | 0, _ => rfl
  | n + 1, h => by
    rw [z_sum_s, z_sum_s, z_sum_cg (f := f) (g := g) (n := n) (fun k a b => h k a (by omega)), h (n : Int) (by omega) (by omega)]
theorem z_sum_add (f g : Int → Int) : ∀ n : Nat, z_sum (fun k => f k + g k) n = z_sum f n + z_sum g n
  | 0 => rfl
  | n + 1 => by
    rw [z_sum_s, z_sum_s, z_sum_s, z_sum_add f g n]
    omega
theorem z_sum_sh (f : Int → Int) : ∀ n : Nat, z_sum (fun k => f (k - 1)) (n + 1) = f (-1) + z_sum f n
  | 0 => by
    rw [z_sum_s]
    show 0 + f (0 - 1) = f (-1) + 0
    rw [show (0 : Int) - 1 = -1 from rfl]
    omega
  | n + 1 => by
    rw [z_sum_s, z_sum_sh f n, z_sum_s f n, show (((n + 1 : Nat) : Int) - 1) = (n : Int) by omega]
    omega
theorem z_sum_0 {f : Int → Int} {n : Nat} (h : ∀ k : Int, 0 ≤ k → k < n → f k = 0) : z_sum f n = 0 := by
  induction n with
  | zero => rfl
  | succ n ih => rw [z_sum_s, ih (fun k a b => h k a (by omega)), h (n : Int) (by omega) (by omega)]; rfl
theorem z_sum_up {f : Int → Int} {n : Nat} : ∀ {m : Nat}, (∀ k : Int, n ≤ k → f k = 0) → z_sum f (n + m) = z_sum f n
  | 0, _ => rfl
  | m + 1, h => by
    show z_sum f ((n + m) + 1) = _
    rw [z_sum_s, z_sum_up (n := n) (m := m) h, h _ (by omega)]
    omega
theorem z_sum_4 (g : Int → Int) : ∀ x : Nat, z_sum g (4 * x) = z_sum (fun i => z_sum (fun j => g (4 * i + j)) 4) x
  | 0 => rfl
  | x + 1 => by
    show z_sum g (4 * x + 1 + 1 + 1 + 1) = _
    rw [z_sum_s, z_sum_s, z_sum_s, z_sum_s, z_sum_4 g x, z_sum_s]
    show _ = _ + (0 + g (4 * (x : Int) + ((0 : Nat) : Int)) + g (4 * (x : Int) + ((1 : Nat) : Int)) + g (4 * (x : Int) + ((2 : Nat) : Int)) + g (4 * (x : Int) + ((3 : Nat) : Int)))
    rw [show ((4 * x : Nat) : Int) = 4 * (x : Int) + ((0 : Nat) : Int) by omega, show ((4 * x + 1 : Nat) : Int) = 4 * (x : Int) + ((1 : Nat) : Int) by omega, show ((4 * x + 1 + 1 : Nat) : Int) = 4 * (x : Int) + ((2 : Nat) : Int) by omega, show ((4 * x + 1 + 1 + 1 : Nat) : Int) = 4 * (x : Int) + ((3 : Nat) : Int) by omega]
    omega
/-- the sum over all places of the window's greatest -/
def g_S2 (F : Int → Int → Int) : Int := z_sum (fun x => z_sum (fun y => F x y) 4) 5
theorem g_S2_add (F G : Int → Int → Int) : g_S2 (fun x y => F x y + G x y) = g_S2 F + g_S2 G := by
  unfold g_S2
  rw [← z_sum_add]
  exact z_sum_cg (fun x _ _ => z_sum_add _ _ 4)
theorem g_S2_cg {F G : Int → Int → Int} (h : ∀ x y, 0 ≤ x → x < 5 → 0 ≤ y → y < 4 → F x y = G x y) : g_S2 F = g_S2 G := z_sum_cg (fun x a b => z_sum_cg (fun y c d => h x y a b c d))
def g_one (a b K : Int) : Int → Int → Int := fun x y => if x = a ∧ y = b then K else 0
theorem z_sum_one {a K : Int} : ∀ n : Nat, z_sum (fun k => if k = a then K else 0) n = if 0 ≤ a ∧ a < n then K else 0
  | 0 => by rw [if_neg (by omega)]; rfl
  | n + 1 => by
    rw [z_sum_s, z_sum_one n]
    by_cases e : (n : Int) = a
    · rw [if_pos e, if_neg (by omega), if_pos (by omega)]; omega
    · rw [if_neg e]
      by_cases g : 0 ≤ a ∧ a < n
      · rw [if_pos g, if_pos (by omega)]; omega
      · rw [if_neg g, if_neg (by omega)]; omega
theorem g_S2_one {a b K : Int} (h0 : (0 ≤ a ∧ 0 ≤ b) ∨ K = 0) (h1 : a < 5) (h2 : b < 4) : g_S2 (g_one a b K) = K := by
  unfold g_S2 g_one
  have e : ∀ x : Int, z_sum (fun y => if x = a ∧ y = b then K else 0) 4 = if x = a then (if 0 ≤ b ∧ b < 4 then K else 0) else 0 := fun x => by
    by_cases g : x = a
    · rw [if_pos g]
      refine Eq.trans ?_ (z_sum_one (a := b) (K := K) 4)
      exact z_sum_cg (fun y _ _ => by
        by_cases w : y = b
        · rw [if_pos ⟨g, w⟩, if_pos w]
        · rw [if_neg (fun q => w q.2), if_neg w])
    · rw [if_neg g]
      exact z_sum_0 (fun y _ _ => if_neg (fun q => g q.1))
  rw [z_sum_cg (fun x _ _ => e x), z_sum_one 5]
  rcases h0 with h0 | h0
  · rw [if_pos (by omega), if_pos (by omega)]
  · subst h0
    split
    · split <;> rfl
    · rfl
/-- an unlike pane there -/
def g_un (h : z_H) (P : Int → Int) (u v c : Int) : Int := if r_isP h u v = true ∧ ¬ P (4 * u + v) = c then 1 else 0
def g_e1 (h : z_H) (P : Int → Int) (x y : Int) : Int := if r_isP h x y = true then g_un h P (x + 1) y (P (4 * x + y)) else 0
def g_e2 (h : z_H) (P : Int → Int) (x y : Int) : Int := if r_isP h x y = true then g_un h P x (y + 1) (P (4 * x + y)) else 0
theorem r_isP_iff {h : z_H} {x y : Int} : r_isP h x y = true ↔ (0 ≤ x ∧ x < h 89 0 ∧ 0 ≤ y ∧ y < h 89 1) := by
  unfold r_isP
  exact decide_eq_true_iff
theorem g_un_no {h : z_H} {P : Int → Int} {u v c : Int} (e : ¬ r_isP h u v = true) : g_un h P u v c = 0 := if_neg (fun g => e g.1)
theorem g_un_unl {h : z_H} {P : Int → Int} {x y u v : Int} : z_b (r_unl h P x y u v) = g_un h P u v (P (4 * x + y)) := by
  unfold r_unl g_un
  by_cases e : r_isP h u v = true
  · by_cases g : P (4 * u + v) = P (4 * x + y)
    · rw [e, decide_eq_true g.symm, if_neg (fun w => w.2 g)]; rfl
    · rw [e, decide_eq_false (fun w => g w.symm), if_pos ⟨rfl, g⟩]; rfl
  · have e2 : r_isP h u v = false := by simpa using e
    rw [e2, if_neg (fun w => absurd w.1 (by decide))]; rfl
theorem g_ldc {h : z_H} {P : Int → Int} {x y : Int} (h0 : 0 ≤ x) (h1 : 0 ≤ y) : r_ldc h P x y = g_e1 h P x y + g_e2 h P x y := by
  unfold r_ldc g_e1 g_e2
  rw [g_un_unl, g_un_unl]
  by_cases e : r_isP h x y = true
  · rw [if_pos e, if_pos e]
  · rw [if_neg e, if_neg e, g_un_no (fun g => e (by rw [r_isP_iff] at g ⊢; omega)), g_un_no (fun g => e (by rw [r_isP_iff] at g ⊢; omega))]
theorem g_e1_no {h : z_H} {P : Int → Int} {x y : Int} (e : ¬ r_isP h x y = true) : g_e1 h P x y = 0 := if_neg e
theorem g_e2_no {h : z_H} {P : Int → Int} {x y : Int} (e : ¬ r_isP h x y = true) : g_e2 h P x y = 0 := if_neg e
theorem g_leadsR {h : z_H} (hr : r_Pl h) (P : Int → Int) : r_leads h P = g_S2 (fun x y => g_e1 h P x y + g_e2 h P x y) := by
  obtain ⟨hw, hh, -⟩ := hr
  unfold r_leads r_ldX r_ldY g_S2
  have eY : ∀ x : Int, 0 ≤ x → z_sum (fun y => r_ldc h P x y) (h 89 1).toNat = z_sum (fun y => g_e1 h P x y + g_e2 h P x y) 4 := fun x h0 => by
    rw [z_sum_cg (fun y a b => g_ldc h0 a), show 4 = (h 89 1).toNat + (4 - (h 89 1).toNat) by omega]
    exact (z_sum_up (fun k hk => by
      rw [g_e1_no (fun g => by rw [r_isP_iff] at g; omega), g_e2_no (fun g => by rw [r_isP_iff] at g; omega)]; rfl)).symm
  rw [z_sum_cg (fun x a b => eY x a)]
  rw [show 5 = (h 89 0).toNat + (5 - (h 89 0).toNat) by omega]
  refine (z_sum_up (fun k hk => ?_)).symm
  exact z_sum_0 (fun y a b => by
    rw [g_e1_no (fun g => by rw [r_isP_iff] at g; omega), g_e2_no (fun g => by rw [r_isP_iff] at g; omega)]; rfl)
/-- the class's colours are those laid out -/
theorem g_colour {h : z_H} {pl mo : Int} (hp : g_Pl h pl) (hm : g_Mo h mo (h 92)) {p : Int} (h0 : 0 ≤ p) (h1 : p < 20) : c_colour h pl mo p = r_lay h p := by
  unfold c_colour c_broken r_lay r_cl
  rw [if_pos (c := 0 ≤ p ∧ p < 20) ⟨h0, h1⟩, hm.1, hp.2.2.2.1 p h0 h1]
theorem g_unl {h : z_H} {pl mo : Int} (hr : r_Pl h) (hp : g_Pl h pl) (hm : g_Mo h mo (h 92)) (u v c : Int) : c_unl h pl mo (c_paneAt h pl u v) c = g_un h (r_lay h) u v c := by
  unfold c_unl g_un
  rw [g_paneAt hp]
  by_cases e : r_isP h u v = true
  · have hb := g_isP hr e
    rw [if_pos e, g_colour hp hm hb.1 hb.2]
    by_cases g : r_lay h (4 * u + v) = c
    · rw [if_pos (Or.inr g), if_neg (fun w => w.2 g)]
    · rw [if_neg (fun w => by rcases w with w | w; omega; exact g w), if_pos ⟨e, g⟩]
  · rw [if_neg e, if_pos (Or.inl rfl), if_neg (fun w => e w.1)]
theorem g_unb {h : z_H} {pl mo : Int} (hr : r_Pl h) (hp : g_Pl h pl) (hm : g_Mo h mo (h 92)) {x y : Int} (h0 : 0 ≤ y) (h1 : y < 4) (c : Int) : c_unb h pl mo (4 * x + y) c = g_un h (r_lay h) (x - 1) y c + g_un h (r_lay h) (x + 1) y c + g_un h (r_lay h) x (y - 1) c + g_un h (r_lay h) x (y + 1) c := by
  unfold c_unb
  rw [show (4 * x + y) / 4 = x by omega, show (4 * x + y) % 4 = y by omega, g_unl hr hp hm, g_unl hr hp hm, g_unl hr hp hm, g_unl hr hp hm]
theorem g_un_e1 {h : z_H} {P : Int → Int} {x y : Int} (e : r_isP h x y = true) : g_un h P (x - 1) y (P (4 * x + y)) = g_e1 h P (x - 1) y := by
  unfold g_e1 g_un
  rw [show x - 1 + 1 = x by omega]
  by_cases g : r_isP h (x - 1) y = true
  · rw [if_pos (c := r_isP h (x - 1) y = true) g]
    by_cases w : P (4 * (x - 1) + y) = P (4 * x + y)
    · rw [if_neg (fun q => q.2 w), if_neg (fun q => q.2 w.symm)]
    · rw [if_pos ⟨g, w⟩, if_pos ⟨e, fun q => w q.symm⟩]
  · rw [if_neg (fun q => g q.1), if_neg g]
theorem g_un_e2 {h : z_H} {P : Int → Int} {x y : Int} (e : r_isP h x y = true) : g_un h P x (y - 1) (P (4 * x + y)) = g_e2 h P x (y - 1) := by
  unfold g_e2 g_un
  rw [show y - 1 + 1 = y by omega]
  by_cases g : r_isP h x (y - 1) = true
  · rw [if_pos (c := r_isP h x (y - 1) = true) g]
    by_cases w : P (4 * x + (y - 1)) = P (4 * x + y)
    · rw [if_neg (fun q => q.2 w), if_neg (fun q => q.2 w.symm)]
    · rw [if_pos ⟨g, w⟩, if_pos ⟨e, fun q => w q.symm⟩]
  · rw [if_neg (fun q => g q.1), if_neg g]
theorem g_e1_hi {h : z_H} {P : Int → Int} {x y : Int} (e : ¬ r_isP h (x + 1) y = true) : g_e1 h P x y = 0 := by
  unfold g_e1
  split
  · exact g_un_no e
  · rfl
theorem g_e2_hi {h : z_H} {P : Int → Int} {x y : Int} (e : ¬ r_isP h x (y + 1) = true) : g_e2 h P x y = 0 := by
  unfold g_e2
  split
  · exact g_un_no e
  · rfl
theorem g_ldf {h : z_H} {pl mo : Int} (hr : r_Pl h) (hp : g_Pl h pl) (hm : g_Mo h mo (h 92)) {x y : Int} (hx : 0 ≤ x) (h0 : 0 ≤ y) (h1 : y < 4) : c_ldf h pl mo (4 * x + y) = (g_e1 h (r_lay h) (x - 1) y + g_e1 h (r_lay h) x y) + (g_e2 h (r_lay h) x (y - 1) + g_e2 h (r_lay h) x y) := by
  unfold c_ldf
  rw [g_has hp _ (by omega), show (4 * x + y) / 4 = x by omega, show (4 * x + y) % 4 = y by omega]
  by_cases e : r_isP h x y = true
  · have hb := g_isP hr e
    rw [if_pos e, g_unb hr hp hm h0 h1, g_colour hp hm hb.1 hb.2, g_un_e1 e, g_un_e2 e]
    unfold g_e1 g_e2
    rw [if_pos (c := r_isP h x y = true) e, if_pos (c := r_isP h x y = true) e]
    omega
  · rw [if_neg e, g_e1_no e, g_e2_no e, g_e1_hi (by rw [show x - 1 + 1 = x by omega]; exact e), g_e2_hi (by rw [show y - 1 + 1 = y by omega]; exact e)]
    rfl
theorem g_leads {h : z_H} {pl mo : Int} (hr : r_Pl h) (hp : g_Pl h pl) (hm : g_Mo h mo (h 92)) : c_leads h pl mo = r_leads h (r_lay h) := by
  have hw := hr.1
  have hh := hr.2.1
  have e0 : z_sum (c_ldf h pl mo) 20 = g_S2 (fun x y => c_ldf h pl mo (4 * x + y)) := z_sum_4 (c_ldf h pl mo) 5
  have e1 : g_S2 (fun x y => c_ldf h pl mo (4 * x + y)) = g_S2 (fun x y => (g_e1 h (r_lay h) (x - 1) y + g_e1 h (r_lay h) x y) + (g_e2 h (r_lay h) x (y - 1) + g_e2 h (r_lay h) x y)) := g_S2_cg (fun x y a b c d => g_ldf hr hp hm a c d)
  have e2 := g_S2_add (fun x y => g_e1 h (r_lay h) (x - 1) y + g_e1 h (r_lay h) x y) (fun x y => g_e2 h (r_lay h) x (y - 1) + g_e2 h (r_lay h) x y)
  have e3 := g_S2_add (fun x y => g_e1 h (r_lay h) (x - 1) y) (fun x y => g_e1 h (r_lay h) x y)
  have e4 := g_S2_add (fun x y => g_e2 h (r_lay h) x (y - 1)) (fun x y => g_e2 h (r_lay h) x y)
  have e5 : g_S2 (fun x y => g_e1 h (r_lay h) (x - 1) y) = g_S2 (fun x y => g_e1 h (r_lay h) x y) := by
    show z_sum (fun x => z_sum (fun y => g_e1 h (r_lay h) (x - 1) y) 4) 5 = z_sum (fun x => z_sum (fun y => g_e1 h (r_lay h) x y) 4) 5
    rw [z_sum_sh (fun x => z_sum (fun y => g_e1 h (r_lay h) x y) 4) 4, z_sum_s _ 4]
    rw [z_sum_0 (f := fun y => g_e1 h (r_lay h) (-1) y) (fun y _ _ => g_e1_no (fun g => by rw [r_isP_iff] at g; omega))]
    rw [z_sum_0 (f := fun y => g_e1 h (r_lay h) ((4 : Nat) : Int) y) (fun y _ _ => g_e1_hi (fun g => by rw [r_isP_iff] at g; omega))]
    omega
  have e6 : g_S2 (fun x y => g_e2 h (r_lay h) x (y - 1)) = g_S2 (fun x y => g_e2 h (r_lay h) x y) := by
    unfold g_S2
    refine z_sum_cg (fun x _ _ => ?_)
    show z_sum (fun y => g_e2 h (r_lay h) x (y - 1)) 4 = z_sum (fun y => g_e2 h (r_lay h) x y) 4
    rw [z_sum_sh (fun y => g_e2 h (r_lay h) x y) 3, z_sum_s _ 3, g_e2_no (h := h) (P := r_lay h) (x := x) (y := -1) (fun g => by rw [r_isP_iff] at g; omega)]
    rw [g_e2_hi (h := h) (P := r_lay h) (x := x) (y := ((3 : Nat) : Int)) (fun g => by rw [r_isP_iff] at g; omega)]
    omega
  have e7 := g_leadsR hr (r_lay h)
  have e8 := g_S2_add (fun x y => g_e1 h (r_lay h) x y) (fun x y => g_e2 h (r_lay h) x y)
  unfold c_leads
  rw [e0, e1, e2, e3, e4, e5, e6, e7, e8]
  omega
