/-! CLASS AND REFERENCE: a part, as the reference fills it -/
def g_pa (h : z_H) (q : Nat) : Prop := q < 20 ∧ r_isP h ((q : Int) / 4) ((q : Int) % 4) = true
def g_M (h : z_H) (pl mo : Int) (p q : Nat) : Prop := (c_part h pl mo (p : Int)).toNat.testBit q = true
section PARTS
variable {h : z_H} {pl mo : Int}
theorem g_al_bit (hp : g_Pl h pl) (hm : g_Mo h mo (h 92)) (c : Int) (q : Nat) : (c_alike h pl mo c).testBit q = true ↔ g_pa h q ∧ r_lay h (q : Int) = c := by
  unfold c_alike g_pa
  rw [z_set_bit, Bool.and_eq_true, Bool.and_eq_true, decide_eq_true_iff, decide_eq_true_iff, g_has hp _ (by omega)]
  constructor
  · rintro ⟨a, b, e⟩
    exact ⟨⟨a, b⟩, by rw [← g_colour hp hm (by omega) (by omega)]; exact e⟩
  · rintro ⟨⟨a, b⟩, e⟩
    exact ⟨a, b, by rw [g_colour hp hm (by omega) (by omega)]; exact e⟩
theorem g_M_eq {p : Nat} (hp : p < 20) (q : Nat) : g_M h pl mo p q ↔ (g_it (c_alike h pl mo (c_colour h pl mo (p : Int))) p 19).testBit q = true := by
  unfold g_M c_part
  rw [g_partN hp, Int.toNat_natCast]
theorem g_al_p (hp : g_Pl h pl) (hm : g_Mo h mo (h 92)) {p : Nat} (g : g_pa h p) : (c_alike h pl mo (c_colour h pl mo (p : Int))).testBit p = true := (g_al_bit hp hm _ p).mpr ⟨g, (g_colour hp hm (by omega) (by have := g.1; omega)).symm⟩
theorem g_al_lt (c : Int) : c_alike h pl mo c < 2 ^ 20 := z_set_lt _ 20
theorem g_M1 (hp : g_Pl h pl) (hm : g_Mo h mo (h 92)) {p : Nat} (g : g_pa h p) : g_M h pl mo p p := (g_M_eq g.1 p).mpr (g_it_p (g_al_lt _) g.1 (g_al_p hp hm g) 19)
theorem g_M2 (hp : g_Pl h pl) (hm : g_Mo h mo (h 92)) {p q : Nat} (g : g_pa h p) (w : g_M h pl mo p q) : g_pa h q ∧ r_lay h (q : Int) = r_lay h (p : Int) := by
  have := (g_al_bit hp hm _ q).mp (g_it_al (g_al_lt _) g.1 (g_al_p hp hm g) 19 q ((g_M_eq g.1 q).mp w))
  rw [g_colour hp hm (by omega) (by have := g.1; omega)] at this
  exact this
theorem g_M3 (hp : g_Pl h pl) (hm : g_Mo h mo (h 92)) {p u q : Nat} (g : g_pa h p) (w : g_M h pl mo p u) (a : g_ad u q) (gq : g_pa h q) (e : r_lay h (q : Int) = r_lay h (p : Int)) : g_M h pl mo p q := by
  refine (g_M_eq g.1 q).mpr (g_it_cl (g_al_lt _) g.1 (g_al_p hp hm g) ((g_M_eq g.1 u).mp w) a ((g_al_bit hp hm _ q).mpr ⟨gq, ?_⟩))
  rw [g_colour hp hm (by omega) (by have := g.1; omega)]
  exact e
theorem g_M4 (hp : g_Pl h pl) (hm : g_Mo h mo (h 92)) {p : Nat} (g : g_pa h p) {S : Nat → Prop} (h0 : S p) (hc : ∀ u q, S u → g_ad u q → g_pa h q → r_lay h (q : Int) = r_lay h (p : Int) → S q) {q : Nat} (w : g_M h pl mo p q) : S q := by
  refine g_it_min (g_al_lt (h := h) (pl := pl) (mo := mo) (c_colour h pl mo (p : Int))) g.1 h0 (fun u v su a b => ?_) 19 q ((g_M_eq g.1 q).mp w)
  have := (g_al_bit hp hm _ v).mp b
  rw [g_colour hp hm (by omega) (by have := g.1; omega)] at this
  exact hc u v su a this.1 this.2
theorem g_M_in (hp : g_Pl h pl) (hm : g_Mo h mo (h 92)) {p q u : Nat} (g : g_pa h p) (w : g_M h pl mo p q) (w2 : g_M h pl mo q u) : g_M h pl mo p u := by
  have k := g_M2 hp hm g w
  exact g_M4 hp hm k.1 (S := fun u => g_M h pl mo p u) w (fun a b s d e f => g_M3 hp hm g s d e (f.trans k.2)) w2
theorem g_M_sym (hp : g_Pl h pl) (hm : g_Mo h mo (h 92)) {p q : Nat} (g : g_pa h p) (w : g_M h pl mo p q) : g_M h pl mo q p := by
  have key := g_M4 hp hm g (S := fun u => g_M h pl mo p u ∧ g_M h pl mo u p) ⟨g_M1 hp hm g, g_M1 hp hm g⟩ (fun u v s a gv e => by
    have ku := g_M2 hp hm g s.1
    refine ⟨g_M3 hp hm g s.1 a gv e, ?_⟩
    have h1 : g_M h pl mo v u := g_M3 hp hm gv (g_M1 hp hm gv) (g_ad_sym a) ku.1 (ku.2.trans e.symm)
    exact g_M_in hp hm gv h1 s.2) w
  exact key.2
theorem g_M_same (hp : g_Pl h pl) (hm : g_Mo h mo (h 92)) {p q : Nat} (g : g_pa h p) (w : g_M h pl mo p q) : z_pop (c_part h pl mo (p : Int)) = z_pop (c_part h pl mo (q : Int)) := by
  have k := g_M2 hp hm g w
  have e : (c_part h pl mo (p : Int)).toNat = (c_part h pl mo (q : Int)).toNat := by
    apply Nat.eq_of_testBit_eq
    intro i
    have h1 : g_M h pl mo p i → g_M h pl mo q i := fun a => g_M_in hp hm k.1 (g_M_sym hp hm g w) a
    have h2 : g_M h pl mo q i → g_M h pl mo p i := fun a => g_M_in hp hm g w a
    unfold g_M at h1 h2
    cases e1 : (c_part h pl mo (p : Int)).toNat.testBit i with
    | true => exact (h1 e1).symm
    | false =>
      cases e2 : (c_part h pl mo (q : Int)).toNat.testBit i with
      | false => rfl
      | true => rw [h2 e2] at e1; cases e1
  unfold z_pop
  rw [e]
end PARTS
/-- the cell beside, the i-th way -/
def g_tg (q : Int) (i : Nat) : Int := 4 * (q / 4 + r_sx (i : Int)) + (q % 4 + r_sy (i : Int))
def g_tP (h : z_H) (q : Int) (i : Nat) : Prop := r_isP h (q / 4 + r_sx (i : Int)) (q % 4 + r_sy (i : Int)) = true
theorem g_tg_ad {h : z_H} (hr : r_Pl h) {q i : Nat} (hq : q < 20) (hi : i < 4) (g : g_tP h (q : Int) i) : ∃ v : Nat, g_tg (q : Int) i = (v : Int) ∧ g_ad q v ∧ g_pa h v := by
  have hb := r_isP_iff.mp g
  have hw := hr.1
  have h4 := hr.2.1
  unfold g_tP at g
  refine ⟨(g_tg (q : Int) i).toNat, ?_, ?_, ?_, ?_⟩
  · unfold g_tg; omega
  · unfold g_tg g_ad
    have c4 : i = 0 ∨ i = 1 ∨ i = 2 ∨ i = 3 := by omega
    rcases c4 with rfl | rfl | rfl | rfl
    · rw [show r_sx ((0 : Nat) : Int) = 1 from rfl, show r_sy ((0 : Nat) : Int) = 0 from rfl] at hb ⊢
      omega
    · rw [show r_sx ((1 : Nat) : Int) = -1 from rfl, show r_sy ((1 : Nat) : Int) = 0 from rfl] at hb ⊢
      omega
    · rw [show r_sx ((2 : Nat) : Int) = 0 from rfl, show r_sy ((2 : Nat) : Int) = 1 from rfl] at hb ⊢
      omega
    · rw [show r_sx ((3 : Nat) : Int) = 0 from rfl, show r_sy ((3 : Nat) : Int) = -1 from rfl] at hb ⊢
      omega
  · unfold g_tg; omega
  · rw [Int.toNat_of_nonneg (by unfold g_tg; omega)]
    unfold g_tg
    rw [show (4 * ((q : Int) / 4 + r_sx (i : Int)) + ((q : Int) % 4 + r_sy (i : Int))) / 4 = (q : Int) / 4 + r_sx (i : Int) by omega, show (4 * ((q : Int) / 4 + r_sx (i : Int)) + ((q : Int) % 4 + r_sy (i : Int))) % 4 = (q : Int) % 4 + r_sy (i : Int) by omega]
    exact g
theorem g_ad_tg {h : z_H} {q v : Nat} (a : g_ad q v) (g : g_pa h v) : ∃ i : Nat, i < 4 ∧ g_tP h (q : Int) i ∧ g_tg (q : Int) i = (v : Int) := by
  have mk : ∀ i : Nat, i < 4 → (q : Int) / 4 + r_sx (i : Int) = (v : Int) / 4 → (q : Int) % 4 + r_sy (i : Int) = (v : Int) % 4 → ∃ i : Nat, i < 4 ∧ g_tP h (q : Int) i ∧ g_tg (q : Int) i = (v : Int) := fun i hi e1 e2 => ⟨i, hi, by unfold g_tP; rw [e1, e2]; exact g.2, by unfold g_tg; rw [e1, e2]; omega⟩
  rcases a with e | e | ⟨e, e2⟩ | ⟨e, e2⟩
  · exact mk 0 (by decide) (by rw [show r_sx ((0 : Nat) : Int) = 1 from rfl]; omega) (by rw [show r_sy ((0 : Nat) : Int) = 0 from rfl]; omega)
  · exact mk 1 (by decide) (by rw [show r_sx ((1 : Nat) : Int) = -1 from rfl]; omega) (by rw [show r_sy ((1 : Nat) : Int) = 0 from rfl]; omega)
  · exact mk 2 (by decide) (by rw [show r_sx ((2 : Nat) : Int) = 0 from rfl]; omega) (by rw [show r_sy ((2 : Nat) : Int) = 1 from rfl]; omega)
  · exact mk 3 (by decide) (by rw [show r_sx ((3 : Nat) : Int) = 0 from rfl]; omega) (by rw [show r_sy ((3 : Nat) : Int) = -1 from rfl]; omega)
def g_bI (P : Int → Int) (M : Nat → Prop) (s : r_B) : Prop := (∀ q : Nat, q < 20 → s.1 (q : Int) = P (q : Int) ∨ s.1 (q : Int) = -1) ∧ (∀ q : Nat, q < 20 → s.1 (q : Int) = -1 → ¬ P (q : Int) = -1 → ∃ i : Nat, (i : Int) < s.2.2 ∧ s.2.1 (i : Int) = (q : Int)) ∧ (∀ i : Nat, (i : Int) < s.2.2 → ∃ q : Nat, q < 20 ∧ M q ∧ s.2.1 (i : Int) = (q : Int)) ∧ r_neg s.1 = r_neg P + s.2.2 ∧ 0 ≤ s.2.2
theorem r_neg_0 (P : Int → Int) : 0 ≤ r_neg P := by unfold r_neg; omega
theorem g_bI.le {P : Int → Int} {M : Nat → Prop} {s : r_B} (hs : g_bI P M s) : s.2.2 ≤ 20 := by
  have h1 := r_neg_le s.1
  have h2 := r_neg_0 P
  have := hs.2.2.2.1
  omega
theorem g_bI.add {P : Int → Int} {M : Nat → Prop} {s : r_B} (hs : g_bI P M s) {v : Nat} (hv : v < 20) (hM : M v) (e : ¬ s.1 (v : Int) = -1) : g_bI P M (r_up s.1 (v : Int) (-1), r_up s.2.1 s.2.2 (v : Int), s.2.2 + 1) := by
  obtain ⟨a, b, c, d, f⟩ := hs
  have hn := r_neg_up (P := s.1) (q := (v : Int)) (by omega) (by omega) e
  refine ⟨fun q hq => ?_, fun q hq g1 g2 => ?_, fun i hi => ?_, ?_, ?_⟩
  · show r_up s.1 (v : Int) (-1) (q : Int) = P (q : Int) ∨ r_up s.1 (v : Int) (-1) (q : Int) = -1
    by_cases w : (q : Int) = (v : Int)
    · rw [w, r_up_at]; exact Or.inr rfl
    · rw [r_up_ne _ _ w]; exact a q hq
  · have g1 : r_up s.1 (v : Int) (-1) (q : Int) = -1 := g1
    show ∃ i : Nat, (i : Int) < s.2.2 + 1 ∧ r_up s.2.1 s.2.2 (v : Int) (i : Int) = (q : Int)
    by_cases w : (q : Int) = (v : Int)
    · exact ⟨s.2.2.toNat, by omega, by rw [Int.toNat_of_nonneg f, r_up_at, w]⟩
    · rw [r_up_ne _ _ w] at g1
      obtain ⟨i, hi, e⟩ := b q hq g1 g2
      exact ⟨i, by omega, by rw [r_up_ne _ _ (by omega)]; exact e⟩
  · have hi : (i : Int) < s.2.2 + 1 := hi
    show ∃ q : Nat, q < 20 ∧ M q ∧ r_up s.2.1 s.2.2 (v : Int) (i : Int) = (q : Int)
    by_cases w : (i : Int) = s.2.2
    · exact ⟨v, hv, hM, by rw [w, r_up_at]⟩
    · rw [r_up_ne _ _ w]; exact c i (by omega)
  · show r_neg (r_up s.1 (v : Int) (-1)) = r_neg P + (s.2.2 + 1)
    omega
  · show 0 ≤ s.2.2 + 1
    omega
/-- what holds when some ways from cell k were gone -/
def g_bT (h : z_H) (P : Int → Int) (M : Nat → Prop) (col : Int) (k : Nat) (s : r_B) (n : Nat) (t : r_B) : Prop := g_bI P M t ∧ s.2.2 ≤ t.2.2 ∧ (∀ i : Nat, (i : Int) < s.2.2 → t.2.1 (i : Int) = s.2.1 (i : Int)) ∧ (∀ q : Nat, q < 20 → s.1 (q : Int) = -1 → t.1 (q : Int) = -1) ∧ ∀ j : Nat, j < n → g_tP h (s.2.1 (k : Int)) j → P (g_tg (s.2.1 (k : Int)) j) = col → t.1 (g_tg (s.2.1 (k : Int)) j) = -1
theorem g_bS {h : z_H} (hr : r_Pl h) {P : Int → Int} {M : Nat → Prop} {col : Int} (hc : 0 ≤ col) (hcl : ∀ u v : Nat, M u → g_ad u v → g_pa h v → P (v : Int) = col → M v) {s : r_B} (hs : g_bI P M s) {k : Nat} (hk : (k : Int) < s.2.2) : ∀ n : Nat, n ≤ 4 → g_bT h P M col k s n (r_bS h col (k : Int) s n)
  | 0, _ => ⟨hs, Int.le_refl _, fun _ _ => rfl, fun _ _ e => e, fun j hj => by omega⟩
  | n + 1, hn => by
    obtain ⟨a, b, c, d, f⟩ := g_bS hr hc hcl hs hk n (by omega)
    obtain ⟨u, hu, hMu, eu⟩ := hs.2.2.1 k hk
    unfold r_bS
    generalize hT : r_bS h col (k : Int) s n = t at *
    rw [c k hk, eu]
    rw [eu] at f
    by_cases g : r_isP h ((u : Int) / 4 + r_sx (n : Int)) ((u : Int) % 4 + r_sy (n : Int)) = true ∧ t.1 (4 * ((u : Int) / 4 + r_sx (n : Int)) + ((u : Int) % 4 + r_sy (n : Int))) = col
    · rw [if_pos g]
      obtain ⟨v, ev, va, vp⟩ := g_tg_ad hr hu (by omega) g.1
      have ev' : 4 * ((u : Int) / 4 + r_sx (n : Int)) + ((u : Int) % 4 + r_sy (n : Int)) = (v : Int) := ev
      rw [ev'] at g ⊢
      have hPv : P (v : Int) = col := by
        rcases a.1 v vp.1 with e | e
        · rw [← e]; exact g.2
        · omega
      have hMv := hcl u v hMu va vp hPv
      refine ⟨a.add vp.1 hMv (by omega), by show s.2.2 ≤ t.2.2 + 1; omega, fun i hi => ?_, fun q hq e => ?_, fun j hj g1 g2 => ?_⟩
      · show r_up t.2.1 t.2.2 (v : Int) (i : Int) = s.2.1 (i : Int)
        rw [r_up_ne _ _ (by omega)]; exact c i hi
      · show r_up t.1 (v : Int) (-1) (q : Int) = -1
        by_cases w : (q : Int) = (v : Int)
        · rw [w, r_up_at]
        · rw [r_up_ne _ _ w]; exact d q hq e
      · rw [eu] at g1 g2 ⊢
        show r_up t.1 (v : Int) (-1) (g_tg (u : Int) j) = -1
        by_cases w : g_tg (u : Int) j = (v : Int)
        · rw [w, r_up_at]
        · rw [r_up_ne _ _ w]
          exact f j (Nat.lt_of_le_of_ne (by omega) (fun e => w (by rw [e]; exact ev))) g1 g2
    · rw [if_neg g]
      refine ⟨a, b, c, d, fun j hj g1 g2 => ?_⟩
      rw [eu] at g1 g2 ⊢
      by_cases w : j = n
      · subst w
        obtain ⟨v, ev, va, vp⟩ := g_tg_ad hr hu (by omega) g1
        have hne : ¬ t.1 (g_tg (u : Int) j) = col := fun e => g ⟨g1, e⟩
        rw [ev] at g2 hne ⊢
        rcases a.1 v vp.1 with e | e
        · exact absurd (e.trans g2) hne
        · exact e
      · exact f j (by omega) g1 g2
def g_bD (h : z_H) (P : Int → Int) (col : Int) (k : Nat) (s : r_B) : Prop := ∀ i : Nat, i < k → (i : Int) < s.2.2 → ∀ u v : Nat, s.2.1 (i : Int) = (u : Int) → g_ad u v → g_pa h v → P (v : Int) = col → s.1 (v : Int) = -1
theorem g_bK {h : z_H} (hr : r_Pl h) {P : Int → Int} {M : Nat → Prop} {col : Int} (hc : 0 ≤ col) (hcl : ∀ u v : Nat, M u → g_ad u v → g_pa h v → P (v : Int) = col → M v) {p : Nat} (hp : p < 20) : ∀ (f k : Nat) (s : r_B), 21 ≤ k + f → g_bI P M s → s.1 (p : Int) = -1 → g_bD h P col k s → g_bI P M (r_bK h col f (k : Int) s) ∧ (r_bK h col f (k : Int) s).1 (p : Int) = -1 ∧ g_bD h P col 21 (r_bK h col f (k : Int) s)
  | 0, k, s, hk, hs, h0, hd => by
    refine ⟨hs, h0, fun i hi => hd i (by omega)⟩
  | f + 1, k, s, hk, hs, h0, hd => by
    unfold r_bK
    by_cases g : (k : Int) < s.2.2
    · rw [if_pos g]
      obtain ⟨a, b, c, d, e⟩ := g_bS hr hc hcl hs g 4 (Nat.le_refl 4)
      refine g_bK hr hc hcl hp f (k + 1) _ (by omega) a (d p hp h0) (fun i hi h1 u v e1 e2 e3 e4 => ?_)
      by_cases w : i = k
      · subst w
        rw [c i g] at e1
        obtain ⟨j, hj, j1, j2⟩ := g_ad_tg e2 e3
        have := e j hj (by rw [e1]; exact j1) (by rw [e1, j2]; exact e4)
        rw [e1, j2] at this
        exact this
      · have hi2 : (i : Int) < s.2.2 := by omega
        rw [c i hi2] at e1
        exact d v e3.1 (hd i (by omega) hi2 u v e1 e2 e3 e4)
    · rw [if_neg g]
      exact ⟨hs, h0, fun i hi h1 => hd i (by omega) h1⟩
theorem z_ct_or {f g k : Nat → Bool} : ∀ {n : Nat}, (∀ i, i < n → k i = (f i || g i) ∧ (f i && g i) = false) → z_ct k n = z_ct f n + z_ct g n
  | 0, _ => rfl
  | n + 1, h => by
    have ih := z_ct_or (f := f) (g := g) (k := k) (n := n) (fun i hi => h i (by omega))
    have := h n (by omega)
    unfold z_ct
    rw [ih, this.1]
    have h2 := this.2
    cases e1 : f n <;> cases e2 : g n
    · simp
    · simp; omega
    · simp; omega
    · rw [e1, e2] at h2; cases h2
theorem z_pop20 {S : Int} (h0 : 0 ≤ S) (hS : S < 1048576) : z_pop S = ((z_ct S.toNat.testBit 20 : Nat) : Int) := by
  unfold z_pop
  rw [show (31 : Nat) = 20 + 11 from rfl, z_ct_hi (p := S.toNat.testBit) (k := 20) (fun i hi => g_bit_hi (by omega) (by omega)) 11]
theorem g_pf {h : z_H} {pl mo : Int} (hr : r_Pl h) (hp : g_Pl h pl) (hm : g_Mo h mo (h 92)) {P W : Int → Int} {p : Nat} (g : g_pa h p) (hM : ∀ q, g_M h pl mo p q → P (q : Int) = r_lay h (q : Int)) (hl : ∀ q : Nat, q < 20 → P (q : Int) = -1 ∨ P (q : Int) = r_lay h (q : Int)) : (∀ q : Nat, q < 20 → g_M h pl mo p q → (r_pf h P W (p : Int)).1 (q : Int) = -1) ∧ (∀ q : Nat, q < 20 → ¬ g_M h pl mo p q → (r_pf h P W (p : Int)).1 (q : Int) = P (q : Int)) ∧ (r_pf h P W (p : Int)).2.2 = z_pop (c_part h pl mo (p : Int)) := by
  have hlay := r_lay_pt hr
  have l0 : ∀ q : Nat, q < 20 → 0 ≤ r_lay h (q : Int) := fun q hq => by
    unfold r_lay
    rw [if_pos ⟨by omega, by omega⟩]
    have := hr.2.2.2.1 (q : Int) (by omega) (by omega)
    unfold r_cl
    split <;> omega
  have hPp : P (p : Int) = r_lay h (p : Int) := hM p (g_M1 hp hm g)
  have hc : 0 ≤ P (p : Int) := by rw [hPp]; exact l0 p g.1
  have hcl : ∀ u v : Nat, g_M h pl mo p u → g_ad u v → g_pa h v → P (v : Int) = P (p : Int) → g_M h pl mo p v := fun u v a b c d => g_M3 hp hm g a b c (by
    rcases hl v c.1 with e | e
    · omega
    · rw [← e, d, hPp])
  have s0 : g_bI P (g_M h pl mo p) (r_up P (p : Int) (-1), r_up W 0 (p : Int), 1) := by
    refine ⟨fun q hq => ?_, fun q hq g1 g2 => ?_, fun i hi => ?_, ?_, by show (0 : Int) ≤ 1; decide⟩
    · show r_up P (p : Int) (-1) (q : Int) = P (q : Int) ∨ r_up P (p : Int) (-1) (q : Int) = -1
      by_cases w : (q : Int) = (p : Int)
      · rw [w, r_up_at]; exact Or.inr rfl
      · rw [r_up_ne _ _ w]; exact Or.inl rfl
    · have g1 : r_up P (p : Int) (-1) (q : Int) = -1 := g1
      by_cases w : (q : Int) = (p : Int)
      · exact ⟨0, by show ((0 : Nat) : Int) < 1; decide, by show r_up W 0 (p : Int) 0 = (q : Int); rw [r_up_at, w]⟩
      · rw [r_up_ne _ _ w] at g1; exact absurd g1 g2
    · have hi : (i : Int) < 1 := hi
      exact ⟨p, g.1, g_M1 hp hm g, by show r_up W 0 (p : Int) (i : Int) = (p : Int); rw [show (i : Int) = 0 by omega, r_up_at]⟩
    · show r_neg (r_up P (p : Int) (-1)) = r_neg P + 1
      exact r_neg_up (by omega) (by have := g.1; omega) (by omega)
  obtain ⟨a, b, d⟩ := g_bK hr hc hcl g.1 21 0 _ (by omega) s0 (r_up_at P (p : Int) (-1)) (fun i hi => by omega)
  have eqf : r_pf h P W (p : Int) = r_bK h (P (p : Int)) 21 ((0 : Nat) : Int) (r_up P (p : Int) (-1), r_up W 0 (p : Int), 1) := rfl
  rw [← eqf] at a b d
  generalize r_pf h P W (p : Int) = s at *
  have hle := a.le
  have A : ∀ q : Nat, q < 20 → g_M h pl mo p q → s.1 (q : Int) = -1 := fun q hq w => by
    have := g_M4 hp hm g (S := fun u => g_M h pl mo p u ∧ s.1 (u : Int) = -1) ⟨g_M1 hp hm g, b⟩ (fun u v su ad pv e => by
      have hu := g_M2 hp hm g su.1
      have hPu : ¬ P (u : Int) = -1 := by
        rw [hM u su.1]
        have := l0 u hu.1.1
        omega
      obtain ⟨i, i1, i2⟩ := a.2.1 u hu.1.1 su.2 hPu
      have hMv := g_M3 hp hm g su.1 ad pv e
      exact ⟨hMv, d i (by omega) i1 u v i2 ad pv (by rw [hM v hMv, e, hPp])⟩) w
    exact this.2
  have B : ∀ q : Nat, q < 20 → ¬ g_M h pl mo p q → s.1 (q : Int) = P (q : Int) := fun q hq w => by
    rcases a.1 q hq with e | e
    · exact e
    · by_cases k : P (q : Int) = -1
      · rw [e, k]
      · obtain ⟨i, i1, i2⟩ := a.2.1 q hq e k
        obtain ⟨u, u1, u2, u3⟩ := a.2.2.1 i i1
        have : u = q := by omega
        subst this
        exact absurd u2 w
  refine ⟨A, B, ?_⟩
  have hrng := c_part_rng h pl mo (p : Int)
  rw [z_pop20 hrng.1 hrng.2]
  have hn := a.2.2.2.1
  have hct : z_ct (fun i => decide (s.1 (i : Int) = -1)) 20 = z_ct (fun i => decide (P (i : Int) = -1)) 20 + z_ct (c_part h pl mo (p : Int)).toNat.testBit 20 := z_ct_or (fun i hi => by
    show decide (s.1 (i : Int) = -1) = (decide (P (i : Int) = -1) || (c_part h pl mo (p : Int)).toNat.testBit i) ∧ (decide (P (i : Int) = -1) && (c_part h pl mo (p : Int)).toNat.testBit i) = false
    by_cases w : g_M h pl mo p i
    · have w' : (c_part h pl mo (p : Int)).toNat.testBit i = true := w
      have := l0 i hi
      rw [A i hi w, w', decide_eq_false (show ¬ P (i : Int) = -1 by rw [hM i w]; omega)]
      exact ⟨rfl, rfl⟩
    · have w' : (c_part h pl mo (p : Int)).toNat.testBit i = false := by
        cases e : (c_part h pl mo (p : Int)).toNat.testBit i with
        | false => rfl
        | true => exact absurd e w
      rw [B i hi w, w', Bool.or_false, Bool.and_false]
      exact ⟨rfl, rfl⟩)
  unfold r_neg at hn
  omega
