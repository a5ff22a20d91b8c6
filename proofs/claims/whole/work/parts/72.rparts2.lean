/-! THE REFERENCE: parts, 2 -/
theorem r_2_2 (h : z_H) (P W P' W' : Int → Int) : r_2 (r_2 h P W) P' W' = r_2 h P' W' := by
  unfold r_2
  rw [z_rw_swap (z_rw h 103 P) (by decide), z_rw_twice, z_rw_twice]
theorem r_2_lay (h : z_H) (P : Int → Int) : z_rw h 103 P = r_2 h P (h 104) := by
  unfold r_2
  rw [show h 104 = z_rw h 103 P 104 from (z_rw_ne h P (by decide)).symm, z_rw_same]
theorem r_bS_cg {h h' : z_H} (e : ∀ x y, r_isP h' x y = r_isP h x y) (col k : Int) (s : r_B) : ∀ n, r_bS h' col k s n = r_bS h col k s n
  | 0 => rfl
  | n + 1 => by
    unfold r_bS
    rw [r_bS_cg e col k s n, e]
theorem r_bK_cg {h h' : z_H} (e : ∀ x y, r_isP h' x y = r_isP h x y) (col : Int) : ∀ (f : Nat) (k : Int) (s : r_B), r_bK h' col f k s = r_bK h col f k s
  | 0, _, _ => rfl
  | f + 1, k, s => by
    unfold r_bK
    rw [r_bS_cg e, r_bK_cg e col f]
theorem r_pf_2 (h : z_H) (P W : Int → Int) (p : Int) : r_pf (r_2 h P W) (r_2 h P W 103) (r_2 h P W 104) p = r_pf h P W p := by
  rw [r_2_3, r_2_4]
  exact r_bK_cg (r_2_isP h P W) _ _ _ _
theorem r_pt0_ok {h : z_H} (hP : r_Pl h) : r_cI (r_pt0 h) := ⟨r_lay_pt hP, by show (0 : Int) ≤ 0; decide, by show (0 : Int) ≤ 20; decide⟩
def r_nowF (h : z_H) (w : Int) : Int := if w = 0 then h 92 9 else if w = 1 then h 92 10 else if w = 2 then h 92 8 else if w = 3 then ((r_at h (h 92) (-9) : Nat) : Int) else if w = 4 then r_leads h (r_lay h) else if w = 5 then (r_pts h).2.2.1 else if w = 6 then (r_pts h).2.2.2 else -1
