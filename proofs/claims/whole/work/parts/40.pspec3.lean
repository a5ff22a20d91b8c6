/-! PaneLight, 4: its functions -/
/-- what reading leaves alone -/
def c_Out (g h : z_H) (P : Int) : Prop := (∀ k, k ≠ 1 → k ≠ P → k ≠ P + 1 → k ≠ P + 2 → h k = g k) ∧ h 1 0 = g 1 0 ∧ h 1 1 = g 1 1
theorem c_Out.rf (h : z_H) (P : Int) : c_Out h h P := ⟨fun _ _ _ _ _ => rfl, rfl, rfl⟩
theorem c_Out.tr {f g h : z_H} {P : Int} (a : c_Out f g P) (b : c_Out g h P) : c_Out f h P := ⟨fun k h1 h2 h3 h4 => (b.1 k h1 h2 h3 h4).trans (a.1 k h1 h2 h3 h4), b.2.1.trans a.2.1, b.2.2.trans a.2.2⟩
theorem c_Out.st {g h : z_H} {P k j v : Int} (a : c_Out g h P) (hk : (k = 1 ∧ j ≠ 0 ∧ j ≠ 1) ∨ (k = P ∧ k ≠ 1) ∨ (k = P + 1 ∧ k ≠ 1) ∨ (k = P + 2 ∧ k ≠ 1)) : c_Out g (z_st h k j v) P := by
  refine ⟨fun q h1 h2 h3 h4 => ?_, ?_, ?_⟩
  · rw [z_st_cell h (by omega)]; exact a.1 q h1 h2 h3 h4
  · by_cases e : k = 1
    · subst e; rw [z_st_slot h (by omega)]; exact a.2.1
    · rw [z_st_cell h (by omega)]; exact a.2.1
  · by_cases e : k = 1
    · subst e; rw [z_st_slot h (by omega)]; exact a.2.2
    · rw [z_st_cell h (by omega)]; exact a.2.2
theorem c_Out.rw_ {g h : z_H} {P k : Int} {f : Int → Int} (a : c_Out g h P) (hk : (k = P + 1 ∧ k ≠ 1) ∨ (k = P + 2 ∧ k ≠ 1)) : c_Out g (z_rw h k f) P := by
  refine ⟨fun q h1 h2 h3 h4 => ?_, ?_, ?_⟩
  · rw [z_rw_ne h _ (by omega)]; exact a.1 q h1 h2 h3 h4
  · rw [z_rw_ne h _ (by omega)]; exact a.2.1
  · rw [z_rw_ne h _ (by omega)]; exact a.2.2
theorem c_Out.tk {g h : z_H} {P : Int} {q : t_Q} (a : c_Out g h P) : c_Out g (c_tk h q) P := by
  unfold c_tk
  exact (((a.st (Or.inl ⟨rfl, by decide, by decide⟩)).st (Or.inl ⟨rfl, by decide, by decide⟩)).st (Or.inl ⟨rfl, by decide, by decide⟩)).st (Or.inl ⟨rfl, by decide, by decide⟩)
theorem c_itR_out {T : Int → Int} {N P : Int} {H : z_H} {q : t_Q} {fb : Bool} (p0 : P ≠ 1) (p1 : P + 1 ≠ 1) (p2 : P + 2 ≠ 1) : c_Out H (c_itR T N H P q fb).2.1 P := by
  have r := c_Out.rf H P
  have a0 : (P = 1 ∧ (2 : Int) ≠ 0 ∧ (2 : Int) ≠ 1) ∨ (P = P ∧ P ≠ 1) ∨ (P = P + 1 ∧ P ≠ 1) ∨ (P = P + 2 ∧ P ≠ 1) := Or.inr (Or.inl ⟨rfl, p0⟩)
  unfold c_itR
  split
  · exact r
  split
  · split
    · unfold c_szR
      split
      · exact r
      · split
        · exact r.st (Or.inr (Or.inl ⟨rfl, p0⟩))
        · exact (r.st (Or.inr (Or.inl ⟨rfl, p0⟩))).st (Or.inr (Or.inl ⟨rfl, p0⟩))
    · exact r
  split
  · split
    · unfold c_miR
      split
      · exact r
      · exact (r.st (Or.inr (Or.inl ⟨rfl, p0⟩))).st (Or.inl ⟨rfl, by decide, by decide⟩)
    · exact r
  split
  · unfold c_glR
    split
    · exact r
    · split
      · exact r
      · split
        · exact r
        · exact r.st (Or.inr (Or.inr (Or.inl ⟨rfl, p1⟩)))
  split
  · split
    · unfold c_scR
      split
      · exact r
      · exact (r.rw_ (Or.inr ⟨rfl, p2⟩)).st (Or.inr (Or.inl ⟨rfl, p0⟩))
    · exact r
  split
  · split
    · unfold c_seR
      split
      · exact r
      · exact (r.st (Or.inr (Or.inl ⟨rfl, p0⟩))).st (Or.inl ⟨rfl, by decide, by decide⟩)
    · exact r
  · exact r
/-- the end of the reading -/
theorem c_rdL_ok {T : Int → Int} {N P : Int} (p0 : P ≠ 1) (p1 : P + 1 ≠ 1) (p2 : P + 2 ≠ 1) : ∀ (f : Nat) (H : z_H) (q : t_Q) (i : Int), 0 ≤ i → i + f ≤ 171 → c_PR H P T N → t_OK N q → c_PR (c_rdL T N P f H q i).2.1 P T N ∧ t_OK N (c_rdL T N P f H q i).2.2 ∧ c_Out H (c_rdL T N P f H q i).2.1 P ∧ -180 ≤ (c_rdL T N P f H q i).1 ∧ (c_rdL T N P f H q i).1 ≤ 171
  | 0, H, q, i, h0, h1, h2, h3 => ⟨h2, h3, c_Out.rf H P, by show (-180 : Int) ≤ i; omega, by show i ≤ 171; omega⟩
  | f + 1, H, q, i, h0, h1, h2, h3 => by
    obtain ⟨hk1, hk2⟩ := c_itR_ok (fb := decide (i = 0)) h2 h3
    have ho := c_itR_out (T := T) (N := N) (H := H) (q := q) (fb := decide (i = 0)) p0 p1 p2
    obtain ⟨r10, r11, r2, hN, hT⟩ := h2.1
    rw [c_rdL]
    split
    · exact ⟨h2, h3, c_Out.rf H P, by show (-180 : Int) ≤ i; omega, by show i ≤ 171; omega⟩
    · split
      · have := hk2.2.1
        exact ⟨hk1, hk2, ho, by show (-180 : Int) ≤ -10 - _; omega, by show -10 - _ ≤ (171 : Int); omega⟩
      · obtain ⟨g1, g2, g3, g4⟩ := c_rdL_ok p0 p1 p2 f _ _ (i + 1) (by omega) (by omega) hk1 (t_nx_ok hN hT hk2)
        exact ⟨g1, g2, ho.tr g3, g4⟩
theorem c_rd0_out {h : z_H} {P : Int} (p0 : P ≠ 1) (p1 : P + 1 ≠ 1) (p2 : P + 2 ≠ 1) : c_Out h (c_rd0 h P) P := by
  unfold c_rd0 c_rstH
  have r := c_Out.rf h P
  exact (((((((((r.st (Or.inr (Or.inl ⟨rfl, p0⟩))).st (Or.inr (Or.inl ⟨rfl, p0⟩))).rw_ (Or.inl ⟨rfl, p1⟩)).st (Or.inr (Or.inr (Or.inr ⟨rfl, p2⟩)))).st (Or.inr (Or.inl ⟨rfl, p0⟩))).st (Or.inr (Or.inl ⟨rfl, p0⟩))).st (Or.inr (Or.inl ⟨rfl, p0⟩))).st (Or.inl ⟨rfl, by decide, by decide⟩)).st (Or.inl ⟨rfl, by decide, by decide⟩))
/-- the text read into the plan at P -/
def c_rdF (h : z_H) (T : Int → Int) (N P : Int) : Int × z_H × t_Q := c_rdL T N P 171 (c_rd0 h P) (t_tok T N 0 (h 1 5)) 0
theorem c_rdF_ok {h : z_H} {T : Int → Int} {N P : Int} (hR : c_Rd h T N) (hP : c_Pl h P) (hv : 0 ≤ h 1 5 ∧ h 1 5 ≤ 999) : c_PR (c_rdF h T N P).2.1 P T N ∧ t_OK N (c_rdF h T N P).2.2 ∧ c_Out h (c_rdF h T N P).2.1 P ∧ -180 ≤ (c_rdF h T N P).1 ∧ (c_rdF h T N P).1 ≤ 171 := by
  obtain ⟨r10, r11, r2, hN, hT⟩ := id hR
  obtain ⟨kp, rp0, rp1, kp1, kp2, hw, hh, hs, hgl, hpi⟩ := id hP
  have pn1 : P ≠ 1 := fun e => by subst e; revert kp; decide
  have pa1 : P + 1 ≠ 1 := fun e => by rw [e] at kp1; revert kp1; decide
  have pb1 : P + 2 ≠ 1 := fun e => by rw [e] at kp2; revert kp2; decide
  obtain ⟨g1, g2, g3, g4⟩ := c_rdL_ok pn1 pa1 pb1 171 (c_rd0 h P) (t_tok T N 0 (h 1 5)) 0 (by decide) (by decide) (c_rd0_ok hR kp rp0 rp1 kp1 kp2 hpi) (t_nx_ok2 (q := (0, 0, 0, h 1 5)) hN hT ⟨by show (0 : Int) ≤ 0; decide, hN.1⟩ hv)
  exact ⟨g1, g2, (c_rd0_out pn1 pa1 pb1).tr g3, g4⟩
/-- a window told: the plans change places, the story begins again -/
def c_winH (G : z_H) (pl dr m : Int) : z_H := z_st (z_st (z_st (c_srsH (z_st (z_st G 3 1 dr) 0 6 pl) 4 dr m) 0 7 0) 34 2 0) 1 1 0
/-- cells that a story's making anew leaves alone -/
theorem c_sbH_cell {h : z_H} {k k2 q : Int} (hSt : c_St h k) (hS2 : c_St h k2) (h0 : q ≠ k) (h1 : z_kd 107 q ≠ (0, 1)) (h2 : z_kd 107 q ≠ (1, 20)) : c_sbH h k k2 q = h q := by
  unfold c_sbH
  rw [z_st_cell _ h0]
  exact c_sbN_cell (fun i a b => (hSt.2.2.2.1 i a b).1) h0 h1 h2 _ (by have := hS2.2.2.2.2.2.1; omega)
theorem z_kd_story {k : Int} (h : z_kd 107 k = (0, 5)) : k = 4 ∨ k = 41 ∨ k = 65 := by
  have h3 := z_kd_spec h (Nat.ne_of_beq_eq_false rfl)
  have hall : ∀ k : Nat, k < 107 → z_kd 107 (k : Int) = (0, 5) → k = 4 ∨ k = 41 ∨ k = 65 := by decide +kernel
  have := hall k.toNat h3.2.1 (by rw [h3.2.2]; exact h)
  omega
/-- each moment of a story made like another is like its moment -/
theorem c_sb_spec {h : z_H} {k k2 : Int} (hSt : c_St h k) (hS2 : c_St h k2) (hMs : c_Ms h) (hd : k + 22 < k2 ∨ k2 + 22 < k) : ∀ n : Nat, n ≤ 11 → (∀ i, 0 ≤ i → i < (n : Int) → c_Like h (c_sbN h k k2 n) (h (k2 + 1) i) (h (k + 1) i)) ∧ ∀ q, (∀ i, 0 ≤ i → i < (n : Int) → q ≠ h (k + 1) i ∧ q ≠ h (k + 1) i + 1) → q ≠ k → c_sbN h k k2 n q = h q
  | 0, _ => ⟨fun i a b => absurd b (by omega), fun q _ hq => z_st_cell h hq⟩
  | n + 1, hn => by
    obtain ⟨ih1, ih2⟩ := c_sb_spec hSt hS2 hMs hd n (by omega)
    obtain ⟨kk, rk0, kk1, hmm, hinj, hp, hpr⟩ := id hSt
    obtain ⟨lk, rl0, lk1, hml, hinjl, hpl, hprl⟩ := id hS2
    have a1 := hmm (n : Int) (by omega) (by omega)
    have a2 := hml (n : Int) (by omega) (by omega)
    have a3 := z_mo_row a1.1
    have a4 := z_mo_row a2.1
    have hsrc1 : c_sbN h k k2 n (h (k2 + 1) (n : Int)) = h (h (k2 + 1) (n : Int)) := ih2 _ (fun i a b => by
      have := hmm i a (by omega)
      exact ⟨by omega, z_ne_kd a2.1 (z_mo_row this.1) (by decide)⟩) (z_ne_kd a2.1 kk (by decide))
    have hsrc2 : c_sbN h k k2 n (h (k2 + 1) (n : Int) + 1) = h (h (k2 + 1) (n : Int) + 1) := ih2 _ (fun i a b => by
      have := hmm i a (by omega)
      exact ⟨z_ne_kd a4 this.1 (by decide), by omega⟩) (z_ne_kd a4 kk (by decide))
    show (∀ i, 0 ≤ i → i < ((n + 1 : Nat) : Int) → c_Like h (c_becH (c_sbN h k k2 n) (h (k + 1) (n : Int)) (h (k2 + 1) (n : Int))) (h (k2 + 1) i) (h (k + 1) i)) ∧ ∀ q, (∀ i, 0 ≤ i → i < ((n + 1 : Nat) : Int) → q ≠ h (k + 1) i ∧ q ≠ h (k + 1) i + 1) → q ≠ k → c_becH (c_sbN h k k2 n) (h (k + 1) (n : Int)) (h (k2 + 1) (n : Int)) q = h q
    refine ⟨fun i a b => ?_, fun q hq hk => ?_⟩
    · by_cases e : i = (n : Int)
      · subst e
        refine ⟨?_, ?_, ?_, fun p g1 g2 => ?_⟩
        · unfold c_becH; rw [z_st_slot _ (by decide), z_st_slot _ (by decide), z_st_at, hsrc1]
        · unfold c_becH; rw [z_st_slot _ (by decide), z_st_at, hsrc1]
        · unfold c_becH; rw [z_st_at, hsrc1]
        · unfold c_becH
          rw [z_st_cell _ (by omega), z_st_cell _ (by omega), z_st_cell _ (by omega)]
          unfold z_cp
          rw [if_pos rfl, if_pos ⟨g1, by omega⟩, hsrc2]
      · have b1 := hmm i a (by omega)
        have hne : h (k + 1) i ≠ h (k + 1) (n : Int) := fun g => e (hinj i (n : Int) a (by omega) (by omega) (by omega) g)
        refine (ih1 i a (by omega)).tr (c_Like.cells (c_bec_cell hne (z_ne_kd b1.1 a3 (by decide))) (c_bec_cell (z_ne_kd (z_mo_row b1.1) a1.1 (by decide)) (by omega)))
    · rw [c_bec_cell (hq (n : Int) (by omega) (by omega)).1 (hq (n : Int) (by omega) (by omega)).2]
      exact ih2 q (fun i a b => hq i a (by omega)) hk
/-- the present moment, when another story is made like its own -/
theorem c_sbH_mo {h : z_H} {k k2 m : Int} (hSt : c_St h k) (hS2 : c_St h k2) (hMs : c_Ms h) (hd : k + 22 < k2 ∨ k2 + 22 < k) (hm : m < k ∨ k + 24 ≤ m) : c_sbH h k k2 m = h m := by
  unfold c_sbH
  rw [z_st_cell _ (by omega)]
  have hq := hS2.2.2.2.2.2.1
  exact (c_sb_spec hSt hS2 hMs hd ((h k2 1).toNat + 1) (by omega)).2 m (fun i a b => by
    have := hSt.2.2.2.1 i a (by omega)
    omega) (by omega)
theorem c_sbH_like {h : z_H} {k k2 i : Int} (hSt : c_St h k) (hS2 : c_St h k2) (hMs : c_Ms h) (hd : k + 22 < k2 ∨ k2 + 22 < k) (h0 : 0 ≤ i) (h1 : i ≤ h k2 1) : c_Like h (c_sbH h k k2) (h (k2 + 1) i) (h (k + 1) i) := by
  have hq := hS2.2.2.2.2.2.1
  have h2 := (c_sb_spec hSt hS2 hMs hd ((h k2 1).toNat + 1) (by omega)).1 i h0 (by omega)
  have km := (hSt.2.2.2.1 i h0 (by omega)).1
  unfold c_sbH
  exact h2.tr (c_Like.cells (z_st_cell _ (z_ne_kd km hSt.1 (by decide))) (z_st_cell _ (z_ne_kd (z_mo_row km) hSt.1 (by decide))))
theorem c_sbH_pr {h : z_H} {k k2 : Int} (hSt : c_St h k) (hS2 : c_St h k2) (hMs : c_Ms h) (hd : k + 22 < k2 ∨ k2 + 22 < k) : c_sbH h k k2 (h (k + 1) (h k2 1)) 1 = h (h (k2 + 1) (h k2 1)) 1 := (c_sbH_like hSt hS2 hMs hd hS2.2.2.2.2.2.1.1 (Int.le_refl _)).1
/-- a story begun again -/
theorem c_srs_cell {h : z_H} {k P m q : Int} (h0 : q ≠ k) (h1 : q ≠ m) (h2 : q ≠ m + 1) : c_srsH h k P m q = h q := by
  unfold c_srsH
  rw [z_st_cell _ h1, z_st_cell _ h1, z_st_cell _ h1, z_rw_ne _ _ h2, z_st_cell _ h0, z_st_cell _ h0]
