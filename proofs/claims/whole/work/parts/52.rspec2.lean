/-! THE REFERENCE, 2 -/
theorem r_Pl.to {h h' : z_H} (hP : r_Pl h) (e0 : h' 89 0 = h 89 0) (e1 : h' 89 1 = h 89 1) (e4 : h' 89 4 = h 89 4) (eg : h' 90 = h 90) (ec : h' 91 = h 91) : r_Pl h' := by
  unfold r_Pl
  rw [e0, e1, e4, eg, ec]
  exact hP
theorem r_Pl.st {h : z_H} {k j v : Int} (hP : r_Pl h) (h1 : k ≠ 90) (h2 : k ≠ 91) (h3 : k ≠ 89 ∨ (j ≠ 0 ∧ j ≠ 1 ∧ j ≠ 4)) : r_Pl (z_st h k j v) :=
  hP.to (z_st_ne h (by omega)) (z_st_ne h (by omega)) (z_st_ne h (by omega)) (z_st_cell h (fun e => h1 e.symm)) (z_st_cell h (fun e => h2 e.symm))
theorem r_Pl.rw_ {h : z_H} {k : Int} {f : Int → Int} (hP : r_Pl h) (h1 : k ≠ 90) (h2 : k ≠ 91) (h3 : k ≠ 89) : r_Pl (z_rw h k f) := by
  have e : z_rw h k f 89 = h 89 := z_rw_ne h f (fun e => h3 e.symm)
  exact hP.to (by rw [e]) (by rw [e]) (by rw [e]) (z_rw_ne h f (fun e => h1 e.symm)) (z_rw_ne h f (fun e => h2 e.symm))
theorem r_cp_ne {h : z_H} {A i B j m q : Int} (e : q ≠ B) : r_cp h A i B j m q = h q := z_rw_ne h _ e
/-- what is remembered -/
def r_u (h : z_H) : Int := if h 89 8 = 10 then 9 else h 89 8
def r_shift (T : Int → Int) : Int → Int := fun r => if 0 ≤ r ∧ r < 99 then T (r + 11) else T r
def r_pst (h : z_H) : Int → Int := fun r => if 11 * r_u h ≤ r ∧ r < 11 * r_u h + 11 then h 92 (r - 11 * r_u h) else if h 89 8 = 10 then r_shift (h 94) r else h 94 r
def r_rem (h : z_H) : z_H := z_st (z_rw h 94 (r_pst h)) 89 8 (r_u h + 1)
theorem r_rem_s {h : z_H} {j : Int} (e : j ≠ 8) : r_rem h 89 j = h 89 j := by
  unfold r_rem
  rw [z_st_slot _ e, z_rw_ne _ _ (by decide)]
theorem r_rem_c {h : z_H} {q : Int} (e1 : q ≠ 89) (e2 : q ≠ 94) : r_rem h q = h q := by
  unfold r_rem
  rw [z_st_cell _ e1, z_rw_ne _ _ e2]
theorem r_rem_no {h : z_H} (e : ¬ h 89 8 = 10) : z_st (r_cp h 92 0 94 (11 * r_u h) 11) 89 8 (r_u h + 1) = r_rem h := by
  unfold r_rem r_cp
  congr 2
  funext r
  unfold r_pst
  by_cases g : 11 * r_u h ≤ r ∧ r < 11 * r_u h + 11
  · rw [if_pos g, if_pos g, Int.zero_add]
  · rw [if_neg g, if_neg g, if_neg e]
theorem r_rem_yes {h : z_H} (e : h 89 8 = 10) {F : Int → Int} {v : Int} (hF : F = r_shift (h 94)) : z_st (r_cp (z_st (z_rw h 94 F) 89 8 v) 92 0 94 (11 * r_u h) 11) 89 8 (r_u h + 1) = r_rem h := by
  subst hF
  unfold r_rem r_cp
  funext q r
  by_cases e1 : q = 94
  · subst e1
    simp only [z_st_cell _ (show (94 : Int) ≠ 89 by decide), z_st_cell _ (show (92 : Int) ≠ 89 by decide), z_rw_at, z_rw_ne _ _ (show (92 : Int) ≠ 94 by decide)]
    unfold r_pst
    by_cases g : 11 * r_u h ≤ r ∧ r < 11 * r_u h + 11
    · rw [if_pos g, if_pos g, Int.zero_add]
    · rw [if_neg g, if_neg g, if_pos e]
  · by_cases e2 : q = 89 ∧ r = 8
    · obtain ⟨rfl, rfl⟩ := e2
      rw [z_st_at, z_st_at]
    · rw [z_st_ne _ e2, z_st_ne _ e2, z_rw_ne _ _ e1, z_rw_ne _ _ e1, z_st_ne _ e2, z_rw_ne _ _ e1]
theorem r_rem_ob {h : z_H} (hO : r_Ob h) : r_Ob (r_rem h) := (hO.rw_ (by decide)).st (Or.inr (by decide))
theorem r_rem_pl {h : z_H} (hP : r_Pl h) : r_Pl (r_rem h) := (hP.rw_ (by decide) (by decide) (by decide)).st (by decide) (by decide) (Or.inr ⟨by decide, by decide, by decide⟩)
theorem r_u_rng {h : z_H} (hU : 0 ≤ h 89 8 ∧ h 89 8 ≤ 10) : 0 ≤ r_u h ∧ r_u h ≤ 9 := by
  unfold r_u
  split <;> omega
theorem r_Mt.put' {T T' : Int → Int} {s p : Int} (hT : r_Mt T) (h0 : 0 ≤ s) (h1 : s < 8) (hp : p = -9 ∨ (0 ≤ p ∧ p < 20)) (e : ∀ r, T' r = if r = s then p else T r) : r_Mt T' := by
  obtain ⟨a, b, c, d⟩ := hT
  refine ⟨fun q g0 g1 => ?_, ?_, ?_, ?_⟩
  · rw [e]
    by_cases e : q = s
    · rw [if_pos e]; exact hp
    · rw [if_neg e]; exact a q g0 g1
  · rw [e, if_neg (by omega)]; exact b
  · rw [e, if_neg (by omega)]; exact c
  · rw [e, if_neg (by omega)]; exact d
theorem r_Mt.put {T : Int → Int} {s p : Int} (hT : r_Mt T) (h0 : 0 ≤ s) (h1 : s < 8) (hp : p = -9 ∨ (0 ≤ p ∧ p < 20)) : r_Mt (fun r => if r = s then p else T r) := hT.put' h0 h1 hp (fun _ => rfl)
theorem r_Mt.brk {T : Int → Int} {p : Int} (hT : r_Mt T) (h0 : 0 ≤ p) (h1 : p < 20) : r_Mt (r_brk T p) := by
  obtain ⟨a, b, c, d⟩ := hT
  have ev : ∀ r, r_brk T p r = if 0 ≤ r ∧ r < 8 ∧ T r = p then -9 else if r = 8 then z_or (T 8) (z_shl 1 p) else T r := fun _ => rfl
  refine ⟨fun q g0 g1 => ?_, ?_, ?_, ?_⟩
  · rw [ev]
    by_cases e : 0 ≤ q ∧ q < 8 ∧ T q = p
    · rw [if_pos e]; exact Or.inl rfl
    · rw [if_neg e, if_neg (by omega)]; exact a q g0 g1
  · rw [ev, if_neg (by omega), if_pos rfl]
    exact z_or_20 b.1 b.2 h0 h1
  · rw [ev, if_neg (by omega), if_neg (by decide)]
    exact c
  · rw [ev, if_neg (by omega), if_neg (by decide)]
    exact d
theorem r_Mt.at8' {T T' : Int → Int} {v : Int} (hT : r_Mt T) (hv : 0 ≤ v ∧ v < 1048576) (e : ∀ r, T' r = if r = 8 then v else T r) : r_Mt T' := by
  obtain ⟨a, b, c, d⟩ := hT
  refine ⟨fun q g0 g1 => ?_, ?_, ?_, ?_⟩
  · rw [e, if_neg (by omega)]
    exact a q g0 g1
  · rw [e, if_pos rfl]; exact hv
  · rw [e, if_neg (by decide)]; exact c
  · rw [e, if_neg (by decide)]; exact d
theorem r_Mt.at8 {T : Int → Int} {v : Int} (hT : r_Mt T) (hv : 0 ≤ v ∧ v < 1048576) : r_Mt (fun r => if r = 8 then v else T r) := hT.at8' hv (fun _ => rfl)
theorem r_Mt.to {T T' : Int → Int} (hT : r_Mt T) (e : ∀ r, 0 ≤ r → r < 11 → T' r = T r) : r_Mt T' := by
  obtain ⟨a, b, c, d⟩ := hT
  refine ⟨fun q g0 g1 => ?_, ?_, ?_, ?_⟩
  · rw [e q g0 (by omega)]; exact a q g0 g1
  · rw [e 8 (by decide) (by decide)]; exact b
  · rw [e 9 (by decide) (by decide)]; exact c
  · rw [e 10 (by decide) (by decide)]; exact d
theorem z_st_row {h : z_H} {k j v : Int} : z_st h k j v k = fun r => if r = j then v else h k r := by
  rw [z_st_rw, z_rw_at]
/-- what the reference answers -/
def r_paneF (h : z_H) (x y w : Int) : Int := if r_isP h x y = false then -1 else if w = 0 then h 90 (4 * x + y) else if w = 1 then z_b (tb (h 92 8) (4 * x + y)) else if w = 2 then ((r_at h (h 92) (4 * x + y) : Nat) : Int) else if w = 3 then r_lets h (h 92) (4 * x + y) else -1
def r_isS (h : z_H) (s : Int) : Bool := decide (0 ≤ s ∧ s < h 89 4)
def r_sheetF (h : z_H) (s w : Int) : Int := if r_isS h s = true ∧ 0 ≤ w ∧ w ≤ 1 then (if w = 0 then h 91 s else h 92 s) else -1
def r_layH (h : z_H) (s p : Int) : z_H := z_st (r_rem h) 92 s p
def r_brkH (h : z_H) (p : Int) : z_H := z_rw (r_rem h) 92 (r_brk (h 92) p)
def r_menH (h : z_H) (p : Int) : z_H := z_st (r_rem h) 92 8 (z_and (h 92 8) (z_xor (z_shl 1 p) (-1)))
def r_movH (h : z_H) (m s : Int) : z_H := z_st (z_st (r_rem h) 92 9 m) 92 10 s
def r_lost (h : z_H) (m : Int) : Int := z_sum (fun x => if m ≤ x ∧ 2 * m - 1 - x < 0 then h 89 1 else 0) (h 89 0).toNat
def r_undH (h : z_H) : z_H := r_cp (z_st h 89 8 (h 89 8 - 1)) 94 (11 * (h 89 8 - 1)) 92 0 11
def r_lightF (h : z_H) (x y k : Int) : Int := if c_tile x y = true ∧ c_hour k = true then r_on h (h 92) x y k else -1
def r_litN (h : z_H) (c k : Int) : Nat → Int × Int
  | 0 => (-9, 0)
  | n + 1 => if r_on h (h 92) ((83 - (n : Int)) / 7) ((83 - (n : Int)) % 7) k = c then (83 - (n : Int), (r_litN h c k n).2 + 1) else r_litN h c k n
theorem r_litN_rng (h : z_H) (c k : Int) : ∀ n : Nat, n ≤ 84 → 0 ≤ (r_litN h c k n).2 ∧ (r_litN h c k n).2 ≤ n ∧ -9 ≤ (r_litN h c k n).1 ∧ (r_litN h c k n).1 < 84
  | 0, _ => by unfold r_litN; simp
  | n + 1, hn => by
    have ih := r_litN_rng h c k n (by omega)
    unfold r_litN
    split
    · simp only
      omega
    · omega
def r_litF (h : z_H) (c k w : Int) : Int := if c_hour c = true ∧ c_hour k = true ∧ 0 ≤ w ∧ w ≤ 1 then (if w = 0 then (r_litN h c k 84).2 else (r_litN h c k 84).1) else -1
def r_whenF (h : z_H) (x y c : Int) : Int := if c_tile x y = true ∧ c_hour c = true then z_find (fun k => decide (r_on h (h 92) x y k = c)) 8 else -1
def r_free (h : z_H) (p : Int) : Int := if p = -9 ∨ tb (h 92 8) p = true then 0 else 3 - z_pop ((r_at h (h 92) p : Nat) : Int)
/-- the sights -/
def r_Sg (h : z_H) : Prop := (0 ≤ h 89 14 ∧ h 89 14 ≤ 6) ∧ ∀ i, 0 ≤ i → i < h 89 14 → (0 ≤ h 99 (4 * i) ∧ h 99 (4 * i) < 12) ∧ (0 ≤ h 99 (4 * i + 1) ∧ h 99 (4 * i + 1) < 7) ∧ (0 ≤ h 99 (4 * i + 2) ∧ h 99 (4 * i + 2) < 8) ∧ (0 ≤ h 99 (4 * i + 3) ∧ h 99 (4 * i + 3) < 8)
def r_soP (h : z_H) (T : Int → Int) (i : Int) : Bool := decide (r_on h T (h 99 (4 * i)) (h 99 (4 * i + 1)) (h 99 (4 * i + 2)) = h 99 (4 * i + 3))
def r_so (h : z_H) (T : Int → Int) : Bool := z_all (r_soP h T) (h 89 14).toNat
def r_sawH (h : z_H) (x y k c : Int) : z_H := z_st (z_st (z_st (z_st (z_st h 99 (4 * h 89 14) x) 99 (4 * h 89 14 + 1) y) 99 (4 * h 89 14 + 2) k) 99 (4 * h 89 14 + 3) c) 89 14 (h 89 14 + 1)
def r_asd (h : z_H) : Int → Int := fun r => if 0 ≤ r ∧ r < 11 then h 92 r else h 93 r
theorem r_cp_asd (h : z_H) : r_cp h 92 0 93 0 11 = z_rw h 93 (r_asd h) := by
  unfold r_cp
  congr 1
  funext r
  unfold r_asd
  rw [show (0 : Int) + 11 = 11 from rfl, Int.sub_zero, Int.zero_add]
theorem r_asd_mt {h : z_H} (hT : r_Mt (h 92)) : r_Mt (r_asd h) := hT.to (fun r a b => by unfold r_asd; rw [if_pos ⟨a, b⟩])
def r_lbT (h : z_H) (p : Int) : Int → Int := if p < 20 then r_brk (r_asd h) p else r_asd h
def r_lb (h : z_H) (p : Int) : z_H := z_rw h 93 (r_lbT h p)
theorem r_lbT_mt {h : z_H} (hT : r_Mt (h 92)) {p : Int} (h0 : 0 ≤ p) : r_Mt (r_lbT h p) := by
  unfold r_lbT
  split
  · exact (r_asd_mt hT).brk h0 (by assumption)
  · exact r_asd_mt hT
def r_may (h : z_H) (p : Int) : Bool := decide (p = 20) || (r_isP h (p / 4) (p % 4) && !tb (h 92 8) p)
def r_markF (h : z_H) (w x y : Int) : Int := if w = 0 then r_lets h (h 92) (4 * x + y) else if w = 1 then r_lets h (h 92) (4 * x + y) + z_pop ((r_at h (h 92) (4 * x + y) : Nat) : Int) else if w = 2 then r_lets h (h 92) (4 * x + y) - y else if w = 3 then 2 * (r_lets h (h 92) (4 * x + y) + z_pop ((r_at h (h 92) (4 * x + y) : Nat) : Int)) else if w = 4 then r_lets h (h 92) (4 * x + y) - y + (4 * x + y) else r_lets h (h 92) (4 * x + y) + h 92 9
def r_countF (h : z_H) (w : Int) : Int := if w = 0 then h 89 0 else if w = 1 then h 89 1 else if w = 2 then h 89 4 else if w = 3 then h 89 14 else if w = 4 then h 89 8 else if w = 5 then h 89 16 else -1
def r_keepH (h : z_H) (i : Int) : z_H := z_st (z_st (r_cp (r_cp h 92 0 95 (11 * i) 11) 94 0 96 (110 * i) 110) 97 i (h 89 8)) 98 i 1
def r_backH (h : z_H) (i : Int) : z_H := z_st (r_cp (r_cp h 95 (11 * i) 92 0 11) 96 (110 * i) 94 0 110) 89 8 (h 97 i)
theorem z_rw_twice (h : z_H) (k : Int) (f g : Int → Int) : z_rw (z_rw h k f) k g = z_rw h k g := by
  funext q r
  unfold z_rw
  by_cases e : q = k
  · rw [if_pos e, if_pos e]
  · rw [if_neg e, if_neg e, if_neg e]
