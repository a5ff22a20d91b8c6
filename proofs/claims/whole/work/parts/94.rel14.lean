/-! CLASS AND REFERENCE: where to look -/
theorem g_owr {h : z_H} {pl mo : Int} {T : Int → Int} (hr : r_Pl h) (hp : g_Pl h pl) (hm : g_Mo h mo T) (t k : Int) : c_own h pl mo t k = -1 ∨ (0 ≤ c_own h pl mo t k ∧ c_own h pl mo t k < 20) := by
  have := r_pn_rng hr (T := T) (x := t / 7) (y := t % 7) (k := k) (tn := false)
  rw [g_own hp hm]
  unfold g_p
  split <;> omega
theorem g_mir_r {h : z_H} {pl mo : Int} {T : Int → Int} (hr : r_Pl h) (hp : g_Pl h pl) (hm : g_Mo h mo T) (t k : Int) : c_mir h pl mo t k = -1 ∨ (0 ≤ c_mir h pl mo t k ∧ c_mir h pl mo t k < 20) := by
  have := r_pn_rng hr (T := T) (x := t / 7) (y := t % 7) (k := k) (tn := true)
  rw [g_mir hp hm]
  unfold g_p
  split <;> omega
theorem g_two {h : z_H} {pl mo : Int} {T : Int → Int} (hr : r_Pl h) (hp : g_Pl h pl) (hm : g_Mo h mo T) (t k : Int) : c_own h pl mo t k = -1 ∨ c_own h pl mo t k ≠ c_mir h pl mo t k := by
  have h1 := r_pn_rng hr (T := T) (x := t / 7) (y := t % 7) (k := k) (tn := false)
  have h2 := r_pn_rng hr (T := T) (x := t / 7) (y := t % 7) (k := k) (tn := true)
  have h3 := r_pn_two (h := h) (T := T) (x := t / 7) (y := t % 7) (k := k)
  rw [g_own hp hm, g_mir hp hm]
  generalize r_pn h T (t / 7) (t % 7) k false = o at *
  generalize r_pn h T (t / 7) (t % 7) k true = q at *
  unfold g_p
  by_cases e : o = -9
  · rw [if_pos e]; exact Or.inl rfl
  · have h4 := h3 e hr
    rw [if_neg e]
    refine Or.inr ?_
    split <;> omega
theorem g_lk {h : z_H} {pl mo : Int} (hr : r_Pl h) (hp : g_Pl h pl) (hm : g_Mo h mo (h 92)) (k : Int) {n : Nat} (hn : n ≤ 20) : r_lk h k (n : Int) = if c_own h pl mo (k / 8) (k % 8) = (n : Int) ∨ c_mir h pl mo (k / 8) (k % 8) = (n : Int) then 7 else c_light h pl mo (k / 8) (k % 8) := by
  have ho := g_owr hr hp hm (k / 8) (k % 8)
  have hi := g_mir_r hr hp hm (k / 8) (k % 8)
  have l1 : 0 ≤ c_lets h pl mo (c_own h pl mo (k / 8) (k % 8)) ∧ c_lets h pl mo (c_own h pl mo (k / 8) (k % 8)) < 8 := by
    rw [g_own hp hm, g_ln hr hp hm (r_pn_rng hr)]
    exact r_ln_rng hr
  have l2 : 0 ≤ c_lets h pl mo (c_mir h pl mo (k / 8) (k % 8)) ∧ c_lets h pl mo (c_mir h pl mo (k / 8) (k % 8)) < 8 := by
    rw [g_mir hp hm, g_ln hr hp hm (r_pn_rng hr)]
    exact r_ln_rng hr
  unfold r_lk r_brP
  by_cases e : n = 20
  · subst e
    rw [if_neg (by decide), if_neg (by omega), g_light hr hp hm]
  · rw [if_pos (by omega), ← g_lightIf hr hp hm (by omega) (by omega)]
    unfold c_lightIf c_light
    generalize c_own h pl mo (k / 8) (k % 8) = o at *
    generalize c_mir h pl mo (k / 8) (k % 8) = q at *
    by_cases e1 : o = (n : Int)
    · rw [if_pos e1, if_pos (Or.inl e1)]
      by_cases e2 : q = (n : Int)
      · rw [if_pos e2]; exact z_or_7l (by decide) (by decide)
      · rw [if_neg e2]; exact z_or_7l l2.1 l2.2
    · rw [if_neg e1]
      by_cases e2 : q = (n : Int)
      · rw [if_pos e2, if_pos (Or.inr e2)]; exact z_or_7r l1.1 l1.2
      · rw [if_neg e2, if_neg (fun g => g.elim e1 e2)]
theorem r_cnt_s (h : z_H) (S k c : Int) (n : Nat) : r_cnt h S k c (n + 1) = r_cnt h S k c n + (if tb S (n : Int) = true ∧ r_lk h k (n : Int) = c then 1 else 0) := rfl
theorem g_mostN {h : z_H} {S k L : Int} : ∀ n : Nat, (∀ i : Nat, i < n → r_lk h k (i : Int) = 7 ∨ r_lk h k (i : Int) = L) → r_most h S k n = if r_cnt h S k 7 n < r_cnt h S k L n then r_cnt h S k L n else r_cnt h S k 7 n
  | 0, _ => rfl
  | n + 1, hl => by
    have ih := g_mostN (S := S) n (fun i hi => hl i (by omega))
    unfold r_most
    rw [ih, r_cnt_s h S k 7, r_cnt_s h S k L, r_cnt_s h S k (r_lk h k (n : Int))]
    by_cases ht : tb S (n : Int) = true
    · rw [if_pos ht, if_pos (c := tb S (n : Int) = true ∧ r_lk h k (n : Int) = r_lk h k (n : Int)) ⟨ht, rfl⟩]
      have hc7 := r_cnt_rng h S k 7 n
      have hcL := r_cnt_rng h S k L n
      rcases hl n (by omega) with e | e
      · rw [e, if_pos (c := tb S (n : Int) = true ∧ (7 : Int) = 7) ⟨ht, rfl⟩]
        by_cases eL : (7 : Int) = L
        · rw [if_pos (c := tb S (n : Int) = true ∧ (7 : Int) = L) ⟨ht, eL⟩]
          rw [← eL]
          split <;> split <;> split <;> omega
        · rw [if_neg (c := tb S (n : Int) = true ∧ (7 : Int) = L) (fun g => eL g.2)]
          split <;> split <;> split <;> omega
      · rw [e, if_pos (c := tb S (n : Int) = true ∧ L = L) ⟨ht, rfl⟩]
        by_cases eL : L = 7
        · rw [if_pos (c := tb S (n : Int) = true ∧ L = 7) ⟨ht, eL⟩]
          rw [eL]
          split <;> split <;> split <;> omega
        · rw [if_neg (c := tb S (n : Int) = true ∧ L = 7) (fun g => eL g.2)]
          split <;> split <;> split <;> omega
    · rw [if_neg ht, if_neg (c := tb S (n : Int) = true ∧ r_lk h k (n : Int) = 7) (fun g => ht g.1), if_neg (c := tb S (n : Int) = true ∧ r_lk h k (n : Int) = L) (fun g => ht g.1), Int.add_zero, Int.add_zero]
def g_bt (S q : Int) (n : Nat) : Int := if 0 ≤ q ∧ q < n ∧ tb S q = true then 1 else 0
theorem g_cnt7 {h : z_H} {S k L o q : Int} (hL : ¬ L = 7) (ho : o = -1 ∨ o ≠ q) : ∀ n : Nat, (∀ i : Nat, i < n → r_lk h k (i : Int) = if o = (i : Int) ∨ q = (i : Int) then 7 else L) → r_cnt h S k 7 n = g_bt S o n + g_bt S q n
  | 0, _ => by
    unfold g_bt
    rw [if_neg (by omega), if_neg (by omega)]
    rfl
  | n + 1, hl => by
    have ih := g_cnt7 (S := S) hL ho n (fun i hi => hl i (by omega))
    rw [r_cnt_s, ih, hl n (by omega)]
    have st : ∀ z : Int, g_bt S z (n + 1) = g_bt S z n + (if z = (n : Int) ∧ tb S (n : Int) = true then 1 else 0) := fun z => by
      unfold g_bt
      by_cases e : z = (n : Int)
      · subst e
        rw [if_neg (c := 0 ≤ (n : Int) ∧ (n : Int) < (n : Int) ∧ tb S (n : Int) = true) (by omega)]
        by_cases ht : tb S (n : Int) = true
        · rw [if_pos ⟨by omega, by omega, ht⟩, if_pos ⟨rfl, ht⟩]; rfl
        · rw [if_neg (fun g => ht g.2.2), if_neg (fun g => ht g.2)]; rfl
      · rw [if_neg (c := z = (n : Int) ∧ tb S (n : Int) = true) (fun g => e g.1), Int.add_zero]
        by_cases g : 0 ≤ z ∧ z < n ∧ tb S z = true
        · rw [if_pos g, if_pos ⟨g.1, by omega, g.2.2⟩]
        · rw [if_neg g, if_neg (fun w => g ⟨w.1, by omega, w.2.2⟩)]
    rw [st o, st q]
    by_cases ht : tb S (n : Int) = true
    · by_cases e1 : o = (n : Int)
      · rw [if_pos (c := o = (n : Int) ∨ q = (n : Int)) (Or.inl e1), if_pos (c := o = (n : Int) ∧ tb S (n : Int) = true) ⟨e1, ht⟩, if_neg (c := q = (n : Int) ∧ tb S (n : Int) = true) (by omega), if_pos ⟨ht, rfl⟩]
        omega
      · by_cases e2 : q = (n : Int)
        · rw [if_pos (c := o = (n : Int) ∨ q = (n : Int)) (Or.inr e2), if_neg (c := o = (n : Int) ∧ tb S (n : Int) = true) (fun g => e1 g.1), if_pos (c := q = (n : Int) ∧ tb S (n : Int) = true) ⟨e2, ht⟩, if_pos ⟨ht, rfl⟩]
          omega
        · rw [if_neg (c := o = (n : Int) ∨ q = (n : Int)) (fun g => g.elim e1 e2), if_neg (c := o = (n : Int) ∧ tb S (n : Int) = true) (fun g => e1 g.1), if_neg (c := q = (n : Int) ∧ tb S (n : Int) = true) (fun g => e2 g.1), if_neg (fun g => hL g.2)]
          omega
    · rw [if_neg (c := o = (n : Int) ∧ tb S (n : Int) = true) (fun g => ht g.2), if_neg (c := q = (n : Int) ∧ tb S (n : Int) = true) (fun g => ht g.2), if_neg (fun g => ht g.1)]
      omega
theorem g_cntA {h : z_H} {S k L : Int} : ∀ n : Nat, (∀ i : Nat, i < n → r_lk h k (i : Int) = 7 ∨ r_lk h k (i : Int) = L) → (if L = 7 then r_cnt h S k 7 n else r_cnt h S k 7 n + r_cnt h S k L n) = ((z_ct S.toNat.testBit n : Nat) : Int)
  | 0, _ => by
    show (if L = 7 then (0 : Int) else 0 + 0) = 0
    split <;> rfl
  | n + 1, hl => by
    have ih := g_cntA (S := S) n (fun i hi => hl i (by omega))
    have e0 : tb S (n : Int) = S.toNat.testBit n := by unfold tb; rw [Int.toNat_natCast]
    rw [r_cnt_s, r_cnt_s]
    unfold z_ct
    rw [← e0]
    by_cases ht : tb S (n : Int) = true
    · rw [if_pos (c := tb S (n : Int) = true) ht]
      by_cases eL : L = 7
      · subst eL
        have e : r_lk h k (n : Int) = 7 := (hl n (by omega)).elim id id
        rw [if_pos rfl] at ih ⊢
        rw [if_pos ⟨ht, e⟩]
        omega
      · rw [if_neg eL] at ih ⊢
        rcases hl n (by omega) with e | e
        · rw [if_pos (c := tb S (n : Int) = true ∧ r_lk h k (n : Int) = 7) ⟨ht, e⟩, if_neg (c := tb S (n : Int) = true ∧ r_lk h k (n : Int) = L) (fun g => eL (by rw [← g.2, e]))]
          omega
        · rw [if_neg (c := tb S (n : Int) = true ∧ r_lk h k (n : Int) = 7) (fun g => eL (by rw [← e, g.2])), if_pos (c := tb S (n : Int) = true ∧ r_lk h k (n : Int) = L) ⟨ht, e⟩]
          omega
    · rw [if_neg (c := tb S (n : Int) = true) ht, if_neg (c := tb S (n : Int) = true ∧ r_lk h k (n : Int) = 7) (fun g => ht g.1), if_neg (c := tb S (n : Int) = true ∧ r_lk h k (n : Int) = L) (fun g => ht g.1), Int.add_zero, Int.add_zero]
      exact ih
theorem z_pop21 {S : Nat} (hS : S < 2 ^ 21) : z_pop (S : Int) = ((z_ct S.testBit 21 : Nat) : Int) := by
  unfold z_pop
  rw [Int.toNat_natCast, show (31 : Nat) = 21 + 10 from rfl, z_ct_hi (p := S.testBit) (k := 21) (fun i hi => Nat.testBit_lt_two_pow (Nat.lt_of_lt_of_le hS (Nat.pow_le_pow_right (by decide) hi))) 10]
theorem g_bitOf {S q : Int} (hq : q = -1 ∨ (0 ≤ q ∧ q < 20)) : c_bitOf S q = g_bt S q 21 := by
  unfold c_bitOf g_bt
  by_cases e : q = -1
  · rw [if_pos e, if_neg (by omega)]
  · rw [if_neg e]
    cases ht : tb S q with
    | true => rw [if_pos ⟨by omega, by omega, rfl⟩]; rfl
    | false => rw [if_neg (fun g => absurd g.2.2 (by decide))]; rfl
theorem g_most {h : z_H} {pl mo : Int} (hr : r_Pl h) (hp : g_Pl h pl) (hm : g_Mo h mo (h 92)) {S : Nat} (hS : S < 2 ^ 21) (w : Int) : c_most h pl mo (S : Int) (w / 8) (w % 8) = r_most h (S : Int) w 21 := by
  have hlk : ∀ i : Nat, i < 21 → r_lk h w (i : Int) = if c_own h pl mo (w / 8) (w % 8) = (i : Int) ∨ c_mir h pl mo (w / 8) (w % 8) = (i : Int) then 7 else c_light h pl mo (w / 8) (w % 8) := fun i hi => g_lk hr hp hm w (by omega)
  have hl2 : ∀ i : Nat, i < 21 → r_lk h w (i : Int) = 7 ∨ r_lk h w (i : Int) = c_light h pl mo (w / 8) (w % 8) := fun i hi => by
    rw [hlk i hi]
    split
    · exact Or.inl rfl
    · exact Or.inr rfl
  have hA := g_cntA (S := (S : Int)) 21 hl2
  have hM := g_mostN (S := (S : Int)) 21 hl2
  have hc := r_cnt_rng h (S : Int) w 7 21
  rw [Int.toNat_natCast, ← z_pop21 hS] at hA
  unfold c_most c_clr
  rw [hM, g_bitOf (g_owr hr hp hm _ _), g_bitOf (g_mir_r hr hp hm _ _)]
  by_cases eL : c_light h pl mo (w / 8) (w % 8) = 7
  · rw [if_pos eL] at hA ⊢
    rw [eL, if_neg (by omega)]
    exact hA.symm
  · rw [if_neg eL] at hA ⊢
    rw [← g_cnt7 (S := (S : Int)) eL (g_two hr hp hm _ _) 21 hlk, ← hA]
    split <;> split <;> omega
theorem z_amin_lim {f g : Int → Int} {a b : Int} (he : ∀ k : Int, f k = g k) (ha : ∀ k, f k < a) (hb : ∀ k, f k < b) : ∀ n : Nat, z_amin (fun _ => true) f a (n + 1) = z_amin (fun _ => true) g b (n + 1)
  | 0 => by
    have e : f = g := funext he
    subst e
    rw [z_amin_yes rfl (ha _), z_amin_yes rfl (hb _)]
  | n + 1 => by
    have ih := z_amin_lim he ha hb n
    have e : f = g := funext he
    subst e
    unfold z_amin
    rw [ih]
theorem g_lookF {h : z_H} {pl mo : Int} (hr : r_Pl h) (hp : g_Pl h pl) (hm : g_Mo h mo (h 92)) (hs : g_Sg h) (hG : r_Sg h) : c_lookF h pl mo = r_lookF h := by
  unfold c_lookF r_lookF
  rw [g_sus hr hp hm hs hG]
  have hlt : r_sus h < 2 ^ 21 := r_sus_lt h
  have e : c_best h pl mo ((r_sus h : Nat) : Int) 672 = r_best h ((r_sus h : Nat) : Int) 672 := by
    unfold c_best r_best
    have hb : ∀ k, c_most h pl mo ((r_sus h : Nat) : Int) (k / 8) (k % 8) < 22 := fun k => by
      rw [g_most hr hp hm hlt k]
      have := r_most_rng h ((r_sus h : Nat) : Int) k 21
      omega
    exact z_amin_lim (fun k => g_most hr hp hm hlt k) hb (fun k => by have := hb k; omega) 671
  rw [e]
