/-! CLASS AND REFERENCE: the child -/
theorem r_ntN_cg {f g : Int → Int} {t : Int} (e : ∀ u, 0 ≤ u → u < 84 → f u = g u) : ∀ n, r_ntN f t n = r_ntN g t n
  | 0 => rfl
  | n + 1 => by
    have ih := r_ntN_cg (t := t) e n
    have hr := r_ntN_rng (f := g) (t := t) n
    rw [r_ntN, r_ntN, ih]
    by_cases ht : c_tile (t / 7 + r_dx (n : Int)) (t % 7 + r_dy (n : Int)) = true
    · have hb := of_decide_eq_true ht
      rw [e (7 * (t / 7 + r_dx (n : Int)) + (t % 7 + r_dy (n : Int))) (by omega) (by omega)]
      by_cases h9 : r_ntN g t n = -9
      · rw [if_pos ⟨ht, Or.inl h9⟩, if_pos ⟨ht, Or.inl h9⟩]
      · rw [e (r_ntN g t n) (by omega) (by omega)]
    · rw [if_neg (fun q => ht q.1), if_neg (fun q => ht q.1)]
theorem g_S {h : z_H} {pl mo : Int} (hr : r_Pl h) (hp : g_Pl h pl) (hm : g_Mo h mo (h 92)) (c : Int) : ∀ (n : Nat) (u : Int), 0 ≤ u → u < 84 → w_S (w_lt h pl mo c) n u = r_D h c n u
  | 0, _, _, _ => rfl
  | n + 1, u, h0, h1 => by
    have ih := g_S hr hp hm c n
    have hn : w_onw (w_S (w_lt h pl mo c) n) u = r_nt (r_D h c n) u := (g_next _ h0 h1).trans (r_ntN_cg ih 5)
    have hb := r_nt_rng (f := r_D h c n) h0 h1
    show (if w_lt h pl mo c u (7 - (n : Int)) = true then 1 + w_S (w_lt h pl mo c) n (w_onw (w_S (w_lt h pl mo c) n) u) else 0) = if r_std h c (7 - (n : Int)) u = true then 1 + r_D h c n (r_nt (r_D h c n) u) else 0
    rw [hn, ih _ hb.1 hb.2]
    unfold w_lt r_std
    rw [g_light hr hp hm]
theorem g_after {h H : z_H} {c k t : Int} {F : Int → Int} (k0 : 0 ≤ k) (t0 : 0 ≤ t) (t1 : t < 84) (hH : H 33 = F) (hF : ∀ kk : Nat, k ≤ (kk : Int) → kk ≤ 8 → ∀ u, 0 ≤ u → u < 84 → F (kk * 84 + u) = r_D h c (8 - kk) u) : ∀ n : Nat, k + n ≤ 8 → w_after H k t n = r_go h c k t n
  | 0, _ => rfl
  | n + 1, hn => by
    have ih := g_after k0 t0 t1 hH hF n (by omega)
    have hb := r_go_rng (h := h) (c := c) (k := k) t0 t1 n
    show w_onw (fun t' => H 33 ((k + (n : Int) + 1) * 84 + t')) (w_after H k t n) = r_nt (r_D h c (7 - (k.toNat + n))) (r_go h c k t n)
    rw [ih, g_next _ hb.1 hb.2]
    refine r_ntN_cg (fun u a b => ?_) 5
    have := hF (k.toNat + n + 1) (by omega) (by omega) u a b
    show H 33 ((k + (n : Int) + 1) * 84 + u) = _
    rw [hH, show (k + (n : Int) + 1) * 84 + u = ((k.toNat + n + 1 : Nat) : Int) * 84 + u by omega, this, show 8 - (k.toNat + n + 1) = 7 - (k.toNat + n) by omega]
