/-! THE LAW: its loop -/
section LAW
variable {p : Program} {l : Launch} {e : Env} {s : State} {m : MethodId} {below : List Frame} {meth : Method} {c : Code} {b L : Nat} {xs : Nat → Int32} {D : va_G} {ca : Nat → ClassId} {i : Int32} {h : z_H}
/-- one call read -/
theorem y_sw (C : y_At p s m meth c b L xs D ca) (hL : L ≤ 384) {n : Nat} (hi : i = nI n) (hn : n + 5 < L) (v : v_N h) (x : Int32) (kk : ∀ h2, v_N h2 → y_V p l e s m below meth c b D ca 1082 i [] h2) : y_V p l e s m below meth c b D ca 33 i [.int x] h := by
  have C0 := C
  obtain ⟨hx, hb, hr, hml, hown, hts, hX, hbl, hlk, hK⟩ := C
  intro H locs ls hW hS hl
  by_cases ho : x.toInt < 0 ∨ 28 < x.toInt
  · exact lv_tableOut (tgt := 1082) hx hb dL_law_33 ho (by decide) (kk h v H locs ls hW hS hl)
  · have h1 : ¬ x.toInt < 0 := fun q => ho (Or.inl q)
    have h2 : ¬ 28 < x.toInt := fun q => ho (Or.inr q)
    have hc : x.toInt = 0 ∨ x.toInt = 1 ∨ x.toInt = 2 ∨ x.toInt = 3 ∨ x.toInt = 4 ∨ x.toInt = 5 ∨ x.toInt = 6 ∨ x.toInt = 7 ∨ x.toInt = 8 ∨ x.toInt = 9 ∨ x.toInt = 10 ∨ x.toInt = 11 ∨ x.toInt = 12 ∨ x.toInt = 13 ∨ x.toInt = 14 ∨ x.toInt = 15 ∨ x.toInt = 16 ∨ x.toInt = 17 ∨ x.toInt = 18 ∨ x.toInt = 19 ∨ x.toInt = 20 ∨ x.toInt = 21 ∨ x.toInt = 22 ∨ x.toInt = 23 ∨ x.toInt = 24 ∨ x.toInt = 25 ∨ x.toInt = 26 ∨ x.toInt = 27 ∨ x.toInt = 28 := by omega
    rcases hc with g | g | g | g | g | g | g | g | g | g | g | g | g | g | g | g | g | g | g | g | g | g | g | g | g | g | g | g | g
    · exact lv_tableIn (tgt := 164) (off := 131) hx hb dL_law_33 h1 h2 (by rw [g]; rfl) (by decide) (y_c0 C0 hL hi hn v kk H locs ls hW hS hl)
    · exact lv_tableIn (tgt := 187) (off := 154) hx hb dL_law_33 h1 h2 (by rw [g]; rfl) (by decide) (y_c1 C0 hL hi hn v kk H locs ls hW hS hl)
    · exact lv_tableIn (tgt := 200) (off := 167) hx hb dL_law_33 h1 h2 (by rw [g]; rfl) (by decide) (y_c2 C0 hL hi hn v kk H locs ls hW hS hl)
    · exact lv_tableIn (tgt := 213) (off := 180) hx hb dL_law_33 h1 h2 (by rw [g]; rfl) (by decide) (y_c3 C0 hL hi hn v kk H locs ls hW hS hl)
    · exact lv_tableIn (tgt := 256) (off := 223) hx hb dL_law_33 h1 h2 (by rw [g]; rfl) (by decide) (y_c4 C0 hL hi hn v kk H locs ls hW hS hl)
    · exact lv_tableIn (tgt := 289) (off := 256) hx hb dL_law_33 h1 h2 (by rw [g]; rfl) (by decide) (y_c5 C0 hL hi hn v kk H locs ls hW hS hl)
    · exact lv_tableIn (tgt := 332) (off := 299) hx hb dL_law_33 h1 h2 (by rw [g]; rfl) (by decide) (y_c6 C0 hL hi hn v kk H locs ls hW hS hl)
    · exact lv_tableIn (tgt := 355) (off := 322) hx hb dL_law_33 h1 h2 (by rw [g]; rfl) (by decide) (y_c7 C0 hL hi hn v kk H locs ls hW hS hl)
    · exact lv_tableIn (tgt := 388) (off := 355) hx hb dL_law_33 h1 h2 (by rw [g]; rfl) (by decide) (y_c8 C0 hL hi hn v kk H locs ls hW hS hl)
    · exact lv_tableIn (tgt := 421) (off := 388) hx hb dL_law_33 h1 h2 (by rw [g]; rfl) (by decide) (y_c9 C0 hL hi hn v kk H locs ls hW hS hl)
    · exact lv_tableIn (tgt := 454) (off := 421) hx hb dL_law_33 h1 h2 (by rw [g]; rfl) (by decide) (y_c10 C0 hL hi hn v kk H locs ls hW hS hl)
    · exact lv_tableIn (tgt := 467) (off := 434) hx hb dL_law_33 h1 h2 (by rw [g]; rfl) (by decide) (y_c11 C0 hL hi hn v kk H locs ls hW hS hl)
    · exact lv_tableIn (tgt := 490) (off := 457) hx hb dL_law_33 h1 h2 (by rw [g]; rfl) (by decide) (y_c12 C0 hL hi hn v kk H locs ls hW hS hl)
    · exact lv_tableIn (tgt := 533) (off := 500) hx hb dL_law_33 h1 h2 (by rw [g]; rfl) (by decide) (y_c13 C0 hL hi hn v kk H locs ls hW hS hl)
    · exact lv_tableIn (tgt := 576) (off := 543) hx hb dL_law_33 h1 h2 (by rw [g]; rfl) (by decide) (y_c14 C0 hL hi hn v kk H locs ls hW hS hl)
    · exact lv_tableIn (tgt := 619) (off := 586) hx hb dL_law_33 h1 h2 (by rw [g]; rfl) (by decide) (y_c15 C0 hL hi hn v kk H locs ls hW hS hl)
    · exact lv_tableIn (tgt := 682) (off := 649) hx hb dL_law_33 h1 h2 (by rw [g]; rfl) (by decide) (y_c16 C0 hL hi hn v kk H locs ls hW hS hl)
    · exact lv_tableIn (tgt := 745) (off := 712) hx hb dL_law_33 h1 h2 (by rw [g]; rfl) (by decide) (y_c17 C0 hL hi hn v kk H locs ls hW hS hl)
    · exact lv_tableIn (tgt := 768) (off := 735) hx hb dL_law_33 h1 h2 (by rw [g]; rfl) (by decide) (y_c18 C0 hL hi hn v kk H locs ls hW hS hl)
    · exact lv_tableIn (tgt := 831) (off := 798) hx hb dL_law_33 h1 h2 (by rw [g]; rfl) (by decide) (y_c19 C0 hL hi hn v kk H locs ls hW hS hl)
    · exact lv_tableIn (tgt := 884) (off := 851) hx hb dL_law_33 h1 h2 (by rw [g]; rfl) (by decide) (y_c20 C0 hL hi hn v kk H locs ls hW hS hl)
    · exact lv_tableIn (tgt := 897) (off := 864) hx hb dL_law_33 h1 h2 (by rw [g]; rfl) (by decide) (y_c21 C0 hL hi hn v kk H locs ls hW hS hl)
    · exact lv_tableIn (tgt := 910) (off := 877) hx hb dL_law_33 h1 h2 (by rw [g]; rfl) (by decide) (y_c22 C0 hL hi hn v kk H locs ls hW hS hl)
    · exact lv_tableIn (tgt := 943) (off := 910) hx hb dL_law_33 h1 h2 (by rw [g]; rfl) (by decide) (y_c23 C0 hL hi hn v kk H locs ls hW hS hl)
    · exact lv_tableIn (tgt := 956) (off := 923) hx hb dL_law_33 h1 h2 (by rw [g]; rfl) (by decide) (y_c24 C0 hL hi hn v kk H locs ls hW hS hl)
    · exact lv_tableIn (tgt := 999) (off := 966) hx hb dL_law_33 h1 h2 (by rw [g]; rfl) (by decide) (y_c25 C0 hL hi hn v kk H locs ls hW hS hl)
    · exact lv_tableIn (tgt := 1022) (off := 989) hx hb dL_law_33 h1 h2 (by rw [g]; rfl) (by decide) (y_c26 C0 hL hi hn v kk H locs ls hW hS hl)
    · exact lv_tableIn (tgt := 1045) (off := 1012) hx hb dL_law_33 h1 h2 (by rw [g]; rfl) (by decide) (y_c27 C0 hL hi hn v kk H locs ls hW hS hl)
    · exact lv_tableIn (tgt := 1068) (off := 1035) hx hb dL_law_33 h1 h2 (by rw [g]; rfl) (by decide) (y_c28 C0 hL hi hn v kk H locs ls hW hS hl)
theorem y_loop (C : y_At p s m meth c b L xs D ca) (hL : L ≤ 384) : ∀ (f n : Nat) (h : z_H), L + 6 ≤ n + f → n ≤ L + 5 → v_N h → y_V p l e s m below meth c b D ca 18 (nI n) [] h
  | 0, n, h, hf, hn, v => by omega
  | f + 1, n, h, hf, hn, v => by
    have C0 := C
    obtain ⟨hx, hb, hr, hml, hown, hts, hX, hbl, hlk, hK⟩ := C
    intro H locs ls hW hS hl
    have e6 : (Int32.ofNat L - 6 : Int32) = z_i ((L : Int) - 6) := by
      apply Int32.toBitVec_inj.1
      show BitVec.ofNat 32 L - 6#32 = BitVec.ofInt 32 ((L : Int) - 6)
      apply BitVec.eq_of_toNat_eq
      rw [BitVec.toNat_ofInt, BitVec.toNat_sub, BitVec.toNat_ofNat, BitVec.toNat_ofNat]
      omega
    have en : nI n = z_i (n : Int) := (z_i_nat n).symm
    have hc : z_i ((L : Int) - 6) < nI n ↔ (L : Int) - 6 < (n : Int) := by
      rw [en]
      exact z_i_lt ⟨by omega, by omega⟩ ⟨by omega, by omega⟩
    refine lv_iload_n hx hb dL_law_18 rfl (lv_at hl 3 rfl) ?_
    refine lv_aload_n hx hb dL_law_19 rfl (lv_at hl 0 rfl) ?_
    refine va_slen hx hb hX hbl (Nat.not_le.mpr hbl) hS dL_law_20 ?_
    refine lv_bipush (v := 6) hx hb dL_law_21 (by decide) ?_
    refine lv_isub hx hb dL_law_23 ?_
    rw [e6]
    refine lv_icmp_gt (tgt := 1088) hx hb dL_law_24 (by decide) (fun g => ?_) (fun g => ?_)
    · refine lv_iconst (v := 1) hx hb dL_law_1088 (by decide) ?_
      refine va_forget (fun q hq => hS.2.2 q hq) ?_
      refine W.widen (k := 600000) (n := 7302250) (by omega) (by omega) ?_
      exact lw_ret hx hb hr hlk dL_law_1089
    · have hlt : n + 5 < L := by
        have g2 : ¬ ((L : Int) - 6 < (n : Int)) := fun q => g (hc.mpr q)
        omega
      have e2 : (nI n).toNatClampNeg = n := nI_clamp (by omega)
      refine lv_aload_n hx hb dL_law_27 rfl (lv_at hl 0 rfl) ?_
      refine lv_iload_n hx hb dL_law_28 rfl (lv_at hl 3 rfl) ?_
      refine va_sld hx hb hX hbl (Nat.not_le.mpr hbl) hS (vp_in_nI (show n < L by omega) (by omega)) dL_law_29 ?_
      refine lv_bipush (v := 31) hx hb dL_law_30 (by decide) ?_
      refine lv_iand hx hb dL_law_32 ?_
      refine y_sw C0 hL rfl hlt v _ (fun h2 v2 => ?_) H locs ls hW hS hl
      intro H2 locs2 ls2 hW2 hS2 hl2
      have e3 : nI n + Int32.ofInt 6 = nI (n + 6) := nI_add n 6
      refine lv_iinc (v := nI (n + 6)) (lv' := [(3, .int (nI (n + 6))), (0, .ref b), (1, .ref s.heap.size), (2, .ref (s.heap.size + 89))]) hx hb dL_law_1082 hl2 (k := 3) rfl e3 (by decide) rfl (fun ls3 hl3 => ?_)
      refine lv_goto (tgt := 18) hx hb dL_law_1085 (by decide) ?_
      exact y_loop C0 hL f (n + 6) h2 (by omega) (by omega) v2 H2 locs2 ls3 hW2 hS2 (lv_sub hl3 [1, 2, 3, 0] rfl)
end LAW
