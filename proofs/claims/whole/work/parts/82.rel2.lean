/-! CLASS AND REFERENCE: the plain answers -/
theorem g_paneAt {h : z_H} {pl : Int} (hp : g_Pl h pl) (x y : Int) : c_paneAt h pl x y = if r_isP h x y = true then 4 * x + y else -1 := by
  obtain ⟨p2, p3, -⟩ := hp
  unfold c_paneAt r_isP
  rw [p2, p3]
  by_cases g : 0 ≤ x ∧ x < h 89 0 ∧ 0 ≤ y ∧ y < h 89 1
  · rw [if_pos g, if_pos (decide_eq_true g)]
  · rw [if_neg g, if_neg (fun q => g (of_decide_eq_true q))]
theorem g_isP {h : z_H} (hr : r_Pl h) {x y : Int} (g : r_isP h x y = true) : 0 ≤ 4 * x + y ∧ 4 * x + y < 20 := by
  have := of_decide_eq_true g
  obtain ⟨a, b, -⟩ := hr
  omega
theorem g_paneF {h : z_H} {pl mo : Int} (hr : r_Pl h) (hp : g_Pl h pl) (hm : g_Mo h mo (h 92)) (x y w : Int) : c_paneF h pl mo x y w = r_paneF h x y w := by
  unfold c_paneF r_paneF
  rw [g_paneAt hp]
  by_cases g : r_isP h x y = true
  · have hb := g_isP hr g
    rw [if_pos g, if_neg (show ¬ 4 * x + y = -1 by omega), if_neg (show ¬ r_isP h x y = false by rw [g]; decide), hp.2.2.2.1 _ hb.1 hb.2, hm.2.2.2.1 _ hb.1 hb.2, g_lets hr hp hm hb.1 hb.2]
    unfold c_broken
    rw [hm.1]
  · have g2 : r_isP h x y = false := by simpa using g
    rw [if_neg g, if_pos rfl, if_pos g2]
theorem g_tile {x y : Int} (g : c_tile x y = true) : (7 * x + y) / 7 = x ∧ (7 * x + y) % 7 = y := by
  have := of_decide_eq_true g
  omega
theorem g_lightF {h : z_H} {pl mo : Int} (hr : r_Pl h) (hp : g_Pl h pl) (hm : g_Mo h mo (h 92)) (x y k : Int) : c_lightF h pl mo x y k = r_lightF h x y k := by
  unfold c_lightF r_lightF
  by_cases g : c_tile x y = true ∧ c_hour k = true
  · have := g_tile g.1
    rw [if_pos g, if_pos g, g_light hr hp hm, this.1, this.2]
  · rw [if_neg g, if_neg g]
theorem g_litN {h : z_H} {pl mo : Int} (hr : r_Pl h) (hp : g_Pl h pl) (hm : g_Mo h mo (h 92)) (c k : Int) : ∀ n, (c_litN h pl mo c k n).1 = (r_litN h c k n).2 ∧ (c_litN h pl mo c k n).2 = (r_litN h c k n).1
  | 0 => ⟨rfl, rfl⟩
  | n + 1 => by
    have ih := g_litN hr hp hm c k n
    unfold c_litN r_litN
    rw [g_light hr hp hm]
    split
    · exact ⟨by show (c_litN h pl mo c k n).1 + 1 = (r_litN h c k n).2 + 1; rw [ih.1], rfl⟩
    · exact ih
theorem g_litF {h : z_H} {pl mo : Int} (hr : r_Pl h) (hp : g_Pl h pl) (hm : g_Mo h mo (h 92)) (c k w : Int) : c_litF h pl mo c k w = r_litF h c k w := by
  unfold c_litF r_litF
  rw [(g_litN hr hp hm c k 84).1, (g_litN hr hp hm c k 84).2]
theorem z_find_cg {P Q : Int → Bool} {n : Nat} (e : P = Q) : z_find P n = z_find Q n := by rw [e]
theorem g_whenF {h : z_H} {pl mo : Int} (hr : r_Pl h) (hp : g_Pl h pl) (hm : g_Mo h mo (h 92)) (x y c : Int) : c_whenF h pl mo x y c = r_whenF h x y c := by
  unfold c_whenF r_whenF
  by_cases g : c_tile x y = true ∧ c_hour c = true
  · have := g_tile g.1
    rw [if_pos g, if_pos g]
    exact z_find_cg (by funext k; rw [g_light hr hp hm, this.1, this.2])
  · rw [if_neg g, if_neg g]
theorem g_room {h : z_H} {pl mo : Int} (hr : r_Pl h) (hp : g_Pl h pl) (hm : g_Mo h mo (h 92)) {p : Int} (h0 : p = -9 ∨ (0 ≤ p ∧ p < 20)) : c_room h mo (g_p p) = r_free h p := by
  unfold c_room r_free g_p c_broken
  by_cases e : p = -9
  · rw [if_pos e, if_pos (Or.inl rfl), if_pos (Or.inl e)]
  · rw [if_neg e, hm.1]
    by_cases hb : tb (h 92 8) p = true
    · rw [if_pos (Or.inr hb), if_pos (Or.inr hb)]
    · rw [if_neg (fun g => by rcases g with g | g; omega; exact hb g), if_neg (fun g => by rcases g with g | g; exact e g; exact hb g), hm.2.2.2.1 p (by omega) (by omega)]
