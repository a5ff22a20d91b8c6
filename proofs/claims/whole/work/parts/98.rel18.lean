/-! CLASS AND REFERENCE: painting -/
theorem r_up_at (P : Int → Int) (p c : Int) : r_up P p c p = c := if_pos rfl
theorem r_up_ne (P : Int → Int) {p q : Int} (c : Int) (e : q ≠ p) : r_up P p c q = P q := if_neg e
theorem g_one_yes (a b K : Int) {x y : Int} (h1 : x = a) (h2 : y = b) : g_one a b K x y = K := if_pos ⟨h1, h2⟩
theorem g_one_no (a b K : Int) {x y : Int} (h1 : ¬ (x = a ∧ y = b)) : g_one a b K x y = 0 := if_neg h1
theorem g_un_up {h : z_H} {P : Int → Int} {p u v c d : Int} (e : r_isP h u v = true → 4 * u + v ≠ p) : g_un h (r_up P p c) u v d = g_un h P u v d := by
  unfold g_un
  by_cases g : r_isP h u v = true
  · rw [r_up_ne P c (e g)]
  · rw [if_neg (fun w => g w.1), if_neg (fun w => g w.1)]
theorem g_un_flip {h : z_H} {P Q : Int → Int} {a b u v : Int} (h1 : r_isP h a b = true) (h2 : r_isP h u v = true) (e : P (4 * u + v) = Q (4 * u + v)) : g_un h P a b (P (4 * u + v)) = g_un h Q u v (P (4 * a + b)) := by
  unfold g_un
  by_cases g : P (4 * a + b) = P (4 * u + v)
  · rw [if_neg (fun w => w.2 g), if_neg (fun w => w.2 (by rw [← e, g]))]
  · rw [if_pos ⟨h1, g⟩, if_pos ⟨h2, fun w => g (by rw [e, w])⟩]
theorem g_e1_up {h : z_H} (hr : r_Pl h) {P : Int → Int} {a b c x y : Int} (hp : r_isP h a b = true) (hy : 0 ≤ y ∧ y < 4) : g_e1 h (r_up P (4 * a + b) c) x y = g_e1 h P x y + (g_one a b (g_un h P (a + 1) b c - g_un h P (a + 1) b (P (4 * a + b))) x y + g_one (a - 1) b (g_un h P (a - 1) b c - g_un h P (a - 1) b (P (4 * a + b))) x y) := by
  have hq := r_isP_iff.mp hp
  have h4 := hr.2.1
  by_cases e : r_isP h x y = true
  · have hx := r_isP_iff.mp e
    by_cases g1 : x = a ∧ y = b
    · obtain ⟨rfl, rfl⟩ := g1
      rw [g_one_yes _ _ _ rfl rfl, g_one_no _ _ _ (by omega)]
      unfold g_e1
      rw [if_pos e, if_pos e, r_up_at, g_un_up (fun _ => by omega)]
      omega
    · rw [g_one_no _ _ _ g1]
      by_cases g2 : x = a - 1 ∧ y = b
      · obtain ⟨rfl, rfl⟩ := g2
        rw [g_one_yes _ _ _ rfl rfl]
        unfold g_e1
        rw [if_pos e, if_pos e, show a - 1 + 1 = a by omega]
        rw [g_un_flip (P := P) (Q := P) hp e rfl, g_un_flip (P := r_up P (4 * a + y) c) (Q := P) hp e (r_up_ne P c (by omega)), r_up_at]
        omega
      · rw [g_one_no _ _ _ g2]
        unfold g_e1
        rw [if_pos e, if_pos e, r_up_ne P c (by omega), g_un_up (fun _ => by omega)]
        omega
  · rw [g_e1_no e, g_e1_no e, g_one_no _ _ _ (fun w => e (by rw [w.1, w.2]; exact hp))]
    by_cases g2 : x = a - 1 ∧ y = b
    · obtain ⟨rfl, rfl⟩ := g2
      rw [g_one_yes _ _ _ rfl rfl, g_un_no e, g_un_no e]
      rfl
    · rw [g_one_no _ _ _ g2]
      rfl
theorem g_e2_up {h : z_H} (hr : r_Pl h) {P : Int → Int} {a b c x y : Int} (hp : r_isP h a b = true) (hy : 0 ≤ y ∧ y < 4) : g_e2 h (r_up P (4 * a + b) c) x y = g_e2 h P x y + (g_one a b (g_un h P a (b + 1) c - g_un h P a (b + 1) (P (4 * a + b))) x y + g_one a (b - 1) (g_un h P a (b - 1) c - g_un h P a (b - 1) (P (4 * a + b))) x y) := by
  have hq := r_isP_iff.mp hp
  have h4 := hr.2.1
  by_cases e : r_isP h x y = true
  · have hx := r_isP_iff.mp e
    by_cases g1 : x = a ∧ y = b
    · obtain ⟨rfl, rfl⟩ := g1
      rw [g_one_yes _ _ _ rfl rfl, g_one_no _ _ _ (by omega)]
      unfold g_e2
      rw [if_pos e, if_pos e, r_up_at, g_un_up (fun _ => by omega)]
      omega
    · rw [g_one_no _ _ _ g1]
      by_cases g2 : x = a ∧ y = b - 1
      · obtain ⟨rfl, rfl⟩ := g2
        rw [g_one_yes _ _ _ rfl rfl]
        unfold g_e2
        rw [if_pos e, if_pos e, show b - 1 + 1 = b by omega]
        rw [g_un_flip (P := P) (Q := P) hp e rfl, g_un_flip (P := r_up P (4 * x + b) c) (Q := P) hp e (r_up_ne P c (by omega)), r_up_at]
        omega
      · rw [g_one_no _ _ _ g2]
        unfold g_e2
        rw [if_pos e, if_pos e, r_up_ne P c (by omega), g_un_up (fun w => by have := r_isP_iff.mp w; omega)]
        omega
  · rw [g_e2_no e, g_e2_no e, g_one_no _ _ _ (fun w => e (by rw [w.1, w.2]; exact hp))]
    by_cases g2 : x = a ∧ y = b - 1
    · obtain ⟨rfl, rfl⟩ := g2
      rw [g_one_yes _ _ _ rfl rfl, g_un_no e, g_un_no e]
      rfl
    · rw [g_one_no _ _ _ g2]
      rfl
theorem g_leads_up {h : z_H} (hr : r_Pl h) {P : Int → Int} {a b c : Int} (hp : r_isP h a b = true) : r_leads h (r_up P (4 * a + b) c) = r_leads h P + (((g_un h P (a + 1) b c - g_un h P (a + 1) b (P (4 * a + b))) + (g_un h P (a - 1) b c - g_un h P (a - 1) b (P (4 * a + b)))) + ((g_un h P a (b + 1) c - g_un h P a (b + 1) (P (4 * a + b))) + (g_un h P a (b - 1) c - g_un h P a (b - 1) (P (4 * a + b))))) := by
  have hq := r_isP_iff.mp hp
  have hw := hr.1
  have h4 := hr.2.1
  have s1 := g_S2_one (a := a) (b := b) (K := g_un h P (a + 1) b c - g_un h P (a + 1) b (P (4 * a + b))) (Or.inl ⟨hq.1, hq.2.2.1⟩) (by omega) (by omega)
  have s3 := g_S2_one (a := a) (b := b) (K := g_un h P a (b + 1) c - g_un h P a (b + 1) (P (4 * a + b))) (Or.inl ⟨hq.1, hq.2.2.1⟩) (by omega) (by omega)
  have s2 := g_S2_one (a := a - 1) (b := b) (K := g_un h P (a - 1) b c - g_un h P (a - 1) b (P (4 * a + b))) (by
    by_cases g : 0 ≤ a - 1
    · exact Or.inl ⟨g, hq.2.2.1⟩
    · exact Or.inr (by rw [g_un_no (fun w => g (r_isP_iff.mp w).1), g_un_no (fun w => g (r_isP_iff.mp w).1)]; rfl)) (by omega) (by omega)
  have s4 := g_S2_one (a := a) (b := b - 1) (K := g_un h P a (b - 1) c - g_un h P a (b - 1) (P (4 * a + b))) (by
    by_cases g : 0 ≤ b - 1
    · exact Or.inl ⟨hq.1, g⟩
    · exact Or.inr (by rw [g_un_no (fun w => g (r_isP_iff.mp w).2.2.1), g_un_no (fun w => g (r_isP_iff.mp w).2.2.1)]; rfl)) (by omega) (by omega)
  rw [g_leadsR hr, g_leadsR hr, g_S2_add, g_S2_add]
  rw [g_S2_cg (fun x y _ _ y0 y1 => g_e1_up hr hp ⟨y0, y1⟩), g_S2_cg (fun x y _ _ y0 y1 => g_e2_up hr hp ⟨y0, y1⟩)]
  have t1 := g_S2_add (g_e1 h P) (fun x y => g_one a b (g_un h P (a + 1) b c - g_un h P (a + 1) b (P (4 * a + b))) x y + g_one (a - 1) b (g_un h P (a - 1) b c - g_un h P (a - 1) b (P (4 * a + b))) x y)
  have t2 := g_S2_add (g_e2 h P) (fun x y => g_one a b (g_un h P a (b + 1) c - g_un h P a (b + 1) (P (4 * a + b))) x y + g_one a (b - 1) (g_un h P a (b - 1) c - g_un h P a (b - 1) (P (4 * a + b))) x y)
  have t3 := g_S2_add (fun x y => g_one a b (g_un h P (a + 1) b c - g_un h P (a + 1) b (P (4 * a + b))) x y) (fun x y => g_one (a - 1) b (g_un h P (a - 1) b c - g_un h P (a - 1) b (P (4 * a + b))) x y)
  have t4 := g_S2_add (fun x y => g_one a b (g_un h P a (b + 1) c - g_un h P a (b + 1) (P (4 * a + b))) x y) (fun x y => g_one a (b - 1) (g_un h P a (b - 1) c - g_un h P a (b - 1) (P (4 * a + b))) x y)
  rw [t1, t2, t3, t4]
  rw [show g_S2 (fun x y => g_one a b (g_un h P (a + 1) b c - g_un h P (a + 1) b (P (4 * a + b))) x y) = _ from s1, show g_S2 (fun x y => g_one (a - 1) b (g_un h P (a - 1) b c - g_un h P (a - 1) b (P (4 * a + b))) x y) = _ from s2, show g_S2 (fun x y => g_one a b (g_un h P a (b + 1) c - g_un h P a (b + 1) (P (4 * a + b))) x y) = _ from s3, show g_S2 (fun x y => g_one a (b - 1) (g_un h P a (b - 1) c - g_un h P a (b - 1) (P (4 * a + b))) x y) = _ from s4]
  omega
theorem g_add {h : z_H} {pl mo : Int} (hr : r_Pl h) (hp : g_Pl h pl) (hm : g_Mo h mo (h 92)) {a b : Int} (e : r_isP h a b = true) (c : Int) : r_leads h (r_up (r_lay h) (4 * a + b) c) = r_leads h (r_lay h) + c_add h pl mo (4 * a + b) c := by
  have hq := r_isP_iff.mp e
  have h4 := hr.2.1
  have hb := g_isP hr e
  rw [g_leads_up hr e]
  unfold c_add
  rw [g_unb hr hp hm (by omega) (by omega), g_unb hr hp hm (by omega) (by omega), g_colour hp hm hb.1 hb.2]
  omega
/-- the best so far, of both -/
def g_A (L : Int) (u s : Int × Int) : Prop := (u = (-9, 20) ∧ s = (-9, 1000000)) ∨ (s.1 = u.1 ∧ s.2 = L + u.2 ∧ u.2 ≤ 4)
theorem g_pC {h : z_H} {pl mo : Int} (hr : r_Pl h) (hp : g_Pl h pl) (hm : g_Mo h mo (h 92)) {a b : Int} (e : r_isP h a b = true) {s : Int × Int} {N : Nat} (hN : (N : Int) = 8 * (4 * a + b)) (hs : g_A (r_leads h (r_lay h)) (c_paint h pl mo N) s) : ∀ n : Nat, n ≤ 8 → g_A (r_leads h (r_lay h)) (c_paint h pl mo (N + n)) (r_pC h (r_lay h) (4 * a + b) s n)
  | 0, _ => hs
  | n + 1, hn => by
    have ih := g_pC hr hp hm e hN hs n (by omega)
    have hb := g_isP hr e
    have h4 := hr.2.1
    have hq := r_isP_iff.mp e
    have hl := r_ldX_rng hr (r_lay h) (h 89 0).toNat
    have hw := hr.1
    have hL : 0 ≤ r_leads h (r_lay h) ∧ r_leads h (r_lay h) ≤ 40 := by unfold r_leads; omega
    have u1 := c_unb_rng h pl mo (4 * a + b) (n : Int)
    have u2 := c_unb_rng h pl mo (4 * a + b) (c_colour h pl mo (4 * a + b))
    have ha : c_add h pl mo (4 * a + b) (n : Int) ≤ 4 := by unfold c_add; omega
    have e8 : ((N + n : Nat) : Int) / 8 = 4 * a + b := by omega
    have e9 : ((N + n : Nat) : Int) % 8 = (n : Int) := by omega
    have hok : c_pok h pl mo ((N + n : Nat) : Int) = !decide (r_lay h (4 * a + b) = (n : Int)) := by
      unfold c_pok
      rw [e8, e9, g_has hp _ (by omega), show (4 * a + b) / 4 = a by omega, show (4 * a + b) % 4 = b by omega, e, g_colour hp hm hb.1 hb.2, Bool.true_and]
    unfold r_pC r_by
    show g_A _ (c_paint h pl mo (N + n + 1)) _
    unfold c_paint at ih ⊢
    unfold z_amin
    rw [hok, e8, e9]
    by_cases g : (n : Int) = r_lay h (4 * a + b)
    · rw [decide_eq_true g.symm, if_neg (fun w => absurd w.1 (by decide)), if_pos g]
      rw [if_neg (by rcases ih with ⟨-, w⟩ | ⟨w1, w2, w3⟩; rw [w]; decide; omega)]
      exact ih
    · rw [decide_eq_false (fun w => g w.symm), if_neg (c := (n : Int) = r_lay h (4 * a + b)) g, g_add hr hp hm e]
      rcases ih with ⟨w1, w2⟩ | ⟨w1, w2, w3⟩
      · rw [w1, w2, if_pos ⟨rfl, show c_add h pl mo (4 * a + b) (n : Int) < 20 by omega⟩, if_pos (show r_leads h (r_lay h) + c_add h pl mo (4 * a + b) (n : Int) < 1000000 by omega)]
        exact Or.inr ⟨by show 8 * (4 * a + b) + (n : Int) = ((N + n : Nat) : Int); omega, rfl, ha⟩
      · by_cases k : c_add h pl mo (4 * a + b) (n : Int) < (z_amin (c_pok h pl mo) (fun w => c_add h pl mo (w / 8) (w % 8)) 20 (N + n)).2
        · rw [if_pos ⟨rfl, k⟩, if_pos (by omega)]
          exact Or.inr ⟨by show 8 * (4 * a + b) + (n : Int) = ((N + n : Nat) : Int); omega, rfl, ha⟩
        · rw [if_neg (fun w => k w.2), if_neg (by omega)]
          exact Or.inr ⟨w1, w2, w3⟩
theorem g_skip {h : z_H} {pl mo : Int} (hp : g_Pl h pl) {N : Nat} : ∀ n : Nat, (∀ k : Int, N ≤ k → k < N + n → ¬ r_isP h (k / 8 / 4) (k / 8 % 4) = true) → c_paint h pl mo (N + n) = c_paint h pl mo N
  | 0, _ => rfl
  | n + 1, hk => by
    have ih := g_skip (mo := mo) hp n (fun k a b => hk k a (by omega))
    have := hk ((N + n : Nat) : Int) (by omega) (by omega)
    show c_paint h pl mo (N + n + 1) = _
    rw [← ih]
    unfold c_paint
    rw [z_amin_no (n := N + n)]
    refine Or.inl ?_
    unfold c_pok
    rw [g_has hp _ (by omega)]
    have e : r_isP h (((N + n : Nat) : Int) / 8 / 4) (((N + n : Nat) : Int) / 8 % 4) = false := by simpa using this
    rw [e]
    rfl
theorem g_pY {h : z_H} {pl mo : Int} (hr : r_Pl h) (hp : g_Pl h pl) (hm : g_Mo h mo (h 92)) {x : Nat} (hx : (x : Int) < h 89 0) {s : Int × Int} (hs : g_A (r_leads h (r_lay h)) (c_paint h pl mo (32 * x)) s) : ∀ n : Nat, n ≤ (h 89 1).toNat → g_A (r_leads h (r_lay h)) (c_paint h pl mo (32 * x + 8 * n)) (r_pY h (r_lay h) (x : Int) s n)
  | 0, _ => hs
  | n + 1, hn => by
    have ih := g_pY hr hp hm hx hs n (by omega)
    have e : r_isP h (x : Int) (n : Int) = true := r_isP_iff.mpr ⟨by omega, hx, by omega, by omega⟩
    have := g_pC hr hp hm e (N := 32 * x + 8 * n) (by omega) ih 8 (by omega)
    rw [show 32 * x + 8 * (n + 1) = 32 * x + 8 * n + 8 by omega]
    exact this
theorem g_pX {h : z_H} {pl mo : Int} (hr : r_Pl h) (hp : g_Pl h pl) (hm : g_Mo h mo (h 92)) : ∀ n : Nat, n ≤ (h 89 0).toNat → g_A (r_leads h (r_lay h)) (c_paint h pl mo (32 * n)) (r_pX h (r_lay h) n)
  | 0, _ => Or.inl ⟨rfl, rfl⟩
  | n + 1, hn => by
    have ih := g_pX hr hp hm n (by omega)
    have h4 := hr.2.1
    have := g_pY hr hp hm (x := n) (by omega) ih (h 89 1).toNat (Nat.le_refl _)
    have sk := g_skip (mo := mo) hp (N := 32 * n + 8 * (h 89 1).toNat) (32 - 8 * (h 89 1).toNat) (fun k a b g => by
      have := r_isP_iff.mp g
      omega)
    rw [show 32 * n + 8 * (h 89 1).toNat + (32 - 8 * (h 89 1).toNat) = 32 * (n + 1) by omega] at sk
    rw [sk]
    exact this
theorem g_paintF {h : z_H} {pl mo w : Int} (hr : r_Pl h) (hp : g_Pl h pl) (hm : g_Mo h mo (h 92)) (hw : 0 ≤ w ∧ w ≤ 1) : c_paintF h pl mo w = r_paintF h w := by
  have h1 := hr.1
  have key := g_pX hr hp hm (h 89 0).toNat (Nat.le_refl _)
  have sk := g_skip (mo := mo) hp (N := 32 * (h 89 0).toNat) (160 - 32 * (h 89 0).toNat) (fun k a b g => by
    have := r_isP_iff.mp g
    omega)
  rw [show 32 * (h 89 0).toNat + (160 - 32 * (h 89 0).toNat) = 160 by omega] at sk
  rw [← sk] at key
  have hc0 : ∃ i : Int, 0 ≤ i ∧ i < 8 ∧ c_pok h pl mo i = true ∧ c_add h pl mo (i / 8) (i % 8) < 20 := by
    have hg : ∀ i : Int, 0 ≤ i → i < 8 → c_add h pl mo (i / 8) (i % 8) < 20 := fun i _ _ => by
      have u1 := c_unb_rng h pl mo (i / 8) (i % 8)
      have u2 := c_unb_rng h pl mo (i / 8) (c_colour h pl mo (i / 8))
      unfold c_add
      omega
    have e : r_isP h (0 : Int) (0 : Int) = true := r_isP_iff.mpr ⟨by omega, by omega, by omega, by have := hr.2.1; omega⟩
    have hk : ∀ i : Int, 0 ≤ i → i < 8 → ¬ c_colour h pl mo 0 = i → c_pok h pl mo i = true := fun i a b g => by
      unfold c_pok
      rw [show i / 8 = 0 by omega, show i % 8 = i by omega, g_has hp _ (by decide), show (0 : Int) / 4 = 0 from rfl, show (0 : Int) % 4 = 0 from rfl, e, decide_eq_false g]
      rfl
    by_cases g : c_colour h pl mo 0 = 0
    · exact ⟨1, by decide, by decide, hk 1 (by decide) (by decide) (by omega), hg 1 (by decide) (by decide)⟩
    · exact ⟨0, by decide, by decide, hk 0 (by decide) (by decide) g, hg 0 (by decide) (by decide)⟩
  obtain ⟨i, i0, i1, i2, i3⟩ := hc0
  have hit := z_amin_hit (ok := c_pok h pl mo) (f := fun w => c_add h pl mo (w / 8) (w % 8)) (lim := 20) i0 i2 i3 (n := 160) (by omega)
  unfold c_paintF r_paintF
  rw [if_pos hw]
  rcases key with ⟨k1, k2⟩ | ⟨k1, k2, k3⟩
  · exfalso
    apply hit
    show (c_paint h pl mo 160).1 = -9
    rw [k1]
  · by_cases e : w = 0
    · rw [if_pos e, if_pos e, k1]
    · rw [if_neg e, if_neg e, k2, g_leads hr hp hm]
      congr 1
      have val : ∀ n : Nat, ¬ (c_paint h pl mo n).1 = -9 → c_add h pl mo ((c_paint h pl mo n).1 / 8) ((c_paint h pl mo n).1 % 8) = (c_paint h pl mo n).2 := by
        intro n
        unfold c_paint
        induction n with
        | zero => intro g; exact absurd rfl g
        | succ n ih =>
          unfold z_amin
          split
          · intro _; rfl
          · exact ih
      exact val 160 hit
