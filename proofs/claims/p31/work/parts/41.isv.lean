/-! isVariance: lowest terms, roots, the time variance -/
section ISV
variable {Ls : Nat} {xs : Nat → Int32} {P : qSem} {M : qMem} {Q : qPost} {n : Nat} {f : Nat → Int} {w : Int} {m : Nat}
theorem C_var0 (hG : qGood Ls xs P) (hR : cRd M 1 n f) (hw : wOK w) (h1 : 1 ≤ m) (h2 : m ≤ 31) {xw xm : Int32} (ew : xw = iI w) (em : xm = iI m) (hQ : ∀ M', qFm [34, 35] M M' → cRd M' 1 n f → Q (some (.long (lI (if vD n f w m = 0 then (-1000000001) else (vN n f w m : Int))))) M') : P 49 0 [(0, .ref 0), (1, .int xw), (2, .int xm), (3, .int (0 : Int32))] [] M Q := by
  subst ew em
  obtain ⟨ha, hb⟩ := id hw
  rw [iL0]
  refine C_variance hG hR (w := w) (m := m) (p := 0) ⟨by omega, by omega⟩ ⟨by omega, by omega⟩ ⟨by decide, by decide⟩ (fun M' hF => ?_)
  have e : aVar n f w m 0 = if vD n f w m = 0 then (-1000000001) else (vN n f w m : Int) := by
    unfold aVar
    rw [if_pos (by omega), Int.toNat_natCast, if_pos (rfl : (0 : Int) = 0)]
  rw [e]
  exact hQ M' hF (hR.fm hF (by decide) (by decide))
theorem C_var1 (hG : qGood Ls xs P) (hR : cRd M 1 n f) (hw : wOK w) (h1 : 1 ≤ m) (h2 : m ≤ 31) {xw xm : Int32} (ew : xw = iI w) (em : xm = iI m) (hQ : ∀ M', qFm [34, 35] M M' → cRd M' 1 n f → Q (some (.long (lI (if vD n f w m = 0 then (-1000000001) else (vD n f w m : Int))))) M') : P 49 0 [(0, .ref 0), (1, .int xw), (2, .int xm), (3, .int (1 : Int32))] [] M Q := by
  subst ew em
  obtain ⟨ha, hb⟩ := id hw
  rw [iL1]
  refine C_variance hG hR (w := w) (m := m) (p := 1) ⟨by omega, by omega⟩ ⟨by omega, by omega⟩ ⟨by decide, by decide⟩ (fun M' hF => ?_)
  have e : aVar n f w m 1 = if vD n f w m = 0 then (-1000000001) else (vD n f w m : Int) := by
    unfold aVar
    rw [if_pos (by omega), Int.toNat_natCast, if_neg (by decide : ¬ (1 : Int) = 0)]
  rw [e]
  exact hQ M' hF (hR.fm hF (by decide) (by decide))
theorem C_cmpv (hG : qGood Ls xs P) (hR : cRd M 1 n f) (hw : wOK w) {o : Nat} (h1 : 1 ≤ m) (h2 : m ≤ 31) (h3 : 1 ≤ o) (h4 : o ≤ 31) (hQ : ∀ M', qFm [34, 35] M M' → cRd M' 1 n f → Q (some (.int (iI (if vD n f w m = 0 ∨ vD n f w o = 0 then (-1000000001) else if aCmp2 n f w m o = 0 then 0 else if aCmp2 n f w m o < 0 then 1 else 2)))) M') : P 51 0 [(0, .ref 0), (1, .int (iI w)), (2, .int (iI m)), (3, .int (iI o))] [] M Q := by
  obtain ⟨ha, hb⟩ := id hw
  refine C_compare hG hR (w := w) (m := m) (o := o) ⟨by omega, by omega⟩ ⟨by omega, by omega⟩ ⟨by omega, by omega⟩ (fun M' hF => ?_)
  have e : aCmp n f w m o = if vD n f w m = 0 ∨ vD n f w o = 0 then (-1000000001) else if aCmp2 n f w m o = 0 then 0 else if aCmp2 n f w m o < 0 then 1 else 2 := by
    unfold aCmp
    rw [if_pos (by omega), Int.toNat_natCast, Int.toNat_natCast]
  rw [e]
  exact hQ M' hF (hR.fm hF (by decide) (by decide))
theorem aCmp2_r : aCmp2 n f w m m = 0 := (cmpZ_0 _ _).mpr rfl
theorem C_devv (hG : qGood Ls xs P) (hR : cRd M 1 n f) (hw : wOK w) (h1 : 1 ≤ m) (h2 : m ≤ 31) (hQ : ∀ M', qFm [34, 35] M M' → cRd M' 1 n f → Q (some (.long (lI (if vD n f w m = 0 then (-1000000001) else isq (tr6 (vN n f w m) (vD n f w m)))))) M') : P 50 0 [(0, .ref 0), (1, .int (iI w)), (2, .int (iI m))] [] M Q := by
  obtain ⟨ha, hb⟩ := id hw
  refine C_deviation hG hR (w := w) (m := m) ⟨by omega, by omega⟩ ⟨by omega, by omega⟩ (fun M' hF => ?_)
  have e : aDev n f w m = if vD n f w m = 0 then (-1000000001) else isq (tr6 (vN n f w m) (vD n f w m)) := by
    unfold aDev
    rw [if_pos (by omega), Int.toNat_natCast]
  rw [e]
  exact hQ M' hF (hR.fm hF (by decide) (by decide))
theorem od_c (hw : wOK w) : w = 0 ∧ od w = 2 ∨ w = 1 ∧ od w = 3 ∨ w = 2 ∧ od w = 4 ∨ w = 3 ∧ od w = 4 := by
  obtain ⟨ha, hb⟩ := hw
  rcases (show w = 0 ∨ w = 1 ∨ w = 2 ∨ w = 3 by omega) with e | e | e | e
  · subst e
    exact Or.inl ⟨rfl, rfl⟩
  · subst e
    exact Or.inr (Or.inl ⟨rfl, rfl⟩)
  · subst e
    exact Or.inr (Or.inr (Or.inl ⟨rfl, rfl⟩))
  · subst e
    exact Or.inr (Or.inr (Or.inr ⟨rfl, rfl⟩))
theorem is_194 (hG : qGood Ls xs P) (hR : cRd M 1 n f) (hw : wOK w) (h1 : 1 ≤ m) (h2 : m ≤ 31) (hD : vD n f w m ≠ 0) (hQ : ∀ M', qFm [34, 35] M M' → Q (some (.int (1 : Int32))) M') :
    P 77 194 [(0, .ref 0), (1, .int (iI w)), (2, .int (iI m)), (3, .long (lI (vN n f w m))), (5, .long (lI (vD n f w m))), (16, .int (1 : Int32))] [] M Q := by
  obtain ⟨ha, hb⟩ := id hw
  have hT : narrow .boolean (.int (1 : Int32)) = .int (1 : Int32) ∧ Q (some (.int (1 : Int32))) M := ⟨by decide, hQ M qFm.rf⟩
  refine v_lw_isVariance_194 hG ⟨fun c => absurd c (by decide), fun _ => ⟨fun _ => hT, fun c1 => ⟨fun _ => hT, fun c2 => ?_⟩⟩⟩
  rw [iL1, iI_lt (by omega) (by omega) (by omega) (by omega)] at c1
  have c2 := Classical.not_not.mp c2
  rw [iL2, iI_eq (by omega) (by omega) (by omega) (by omega)] at c2
  have e1 : m = 1 := by omega
  subst e1 c2
  have e2 := vND_1 (n := n) (f := f) hR.ok
  have hb2 := vND hR.ok hR.2.1 (m := 1) (by omega) (by omega) (w := 0) ⟨by decide, by decide⟩
  rw [e2.1, e2.2]
  rw [e2.2] at hD
  have rA : r64 (vN n f 0 1 : Nat) := ⟨by omega, by omega⟩
  have rB : r64 (vD n f 0 1 : Nat) := ⟨by omega, by omega⟩
  refine C_var0 hG hR (w := 0) (m := 1) ⟨by decide, by decide⟩ (by omega) (by omega) iL0 iL1 (fun M1 hF1 hR1 => ?_)
  rw [if_neg hD]
  refine v_lw_isVariance_208 hG ⟨fun c => absurd ((lgE rA rA).1.mpr rfl) c, fun _ => ?_⟩
  refine C_var1 hG hR1 (w := 0) (m := 1) ⟨by decide, by decide⟩ (by omega) (by omega) iL0 iL1 (fun M2 hF2 hR2 => ?_)
  rw [if_neg hD]
  exact v_lw_isVariance_216 hG ⟨fun c => absurd ((lgE rB rB).1.mpr rfl) c, fun _ => ⟨by decide, hQ M2 (hF1.tr hF2)⟩⟩
theorem is_163 (hG : qGood Ls xs P) {l1 l2 l16 : Int32} {l3 l5 l21 l23 : Int64} {a b : Nat} (h1 : (a : Int) < 9223372036854775808) (h2 : (b : Int) < 9223372036854775808)
    (hX : P 77 176 [(0, .ref 0), (1, .int l1), (2, .int l2), (3, .long l3), (5, .long l5), (16, .int l16), (21, .long l21), (23, .long l23), (25, .long (lI (Nat.gcd a b : Nat)))] [] M Q) :
    P 77 163 [(0, .ref 0), (1, .int l1), (2, .int l2), (3, .long l3), (5, .long l5), (16, .int l16), (21, .long l21), (23, .long l23), (25, .long (lI a)), (27, .long (lI b))] [] M Q := by
  have key : ∀ (d l g : Nat), l ≤ d → (g : Int) < 9223372036854775808 → (l : Int) < 9223372036854775808 → Nat.gcd g l = Nat.gcd a b → P 77 163 [(0, .ref 0), (1, .int l1), (2, .int l2), (3, .long l3), (5, .long l5), (16, .int l16), (21, .long l21), (23, .long l23), (25, .long (lI g)), (27, .long (lI l))] [] M Q := by
    intro d
    induction d with
    | zero =>
      intro l g hl hg hl2 he
      have e : l = 0 := by omega
      subst e
      rw [Nat.gcd_zero_right] at he
      rw [← he] at hX
      refine v_lw_isVariance_163 hG ⟨fun _ => hX, fun c => absurd ?_ c⟩
      rw [lL0]
      exact (lgE ⟨by omega, by omega⟩ ⟨by omega, by omega⟩).1.mpr rfl
    | succ d ih =>
      intro l g hl hg hl2 he
      refine v_lw_isVariance_163 hG ⟨fun c => ?_, fun c => ⟨?_, ?_⟩⟩
      · rw [lL0, (lgE ⟨by omega, by omega⟩ ⟨by omega, by omega⟩).1] at c
        have e : l = 0 := by omega
        subst e
        rw [Nat.gcd_zero_right] at he
        rw [← he] at hX
        exact hX
      · rw [lL0, (lgE ⟨by omega, by omega⟩ ⟨by omega, by omega⟩).1] at c
        rw [lL0, lI_eq (by omega) (by omega) (by omega) (by omega)]
        exact c
      · rw [lL0, (lgE ⟨by omega, by omega⟩ ⟨by omega, by omega⟩).1] at c
        have hl0 : 0 < l := by omega
        have hm := Nat.mod_lt g hl0
        rw [lI_rem hl0 hg hl2]
        refine ih (g % l) l (by omega) hl2 (by omega) ?_
        rw [← gcd_st]
        exact he
  exact key b b a (Nat.le_refl _) h1 h2 rfl
theorem is_58 (hG : qGood Ls xs P) {l1 l2 : Int32} {l3 l5 : Int64} {a b : Nat} (h1 : (a : Int) < 9223372036854775808) (h2 : (b : Int) < 9223372036854775808)
    (hX : P 50 0 [(0, .ref 0), (1, .int l1), (2, .int l2)] [] M (fun v M' => P 77 75 [(0, .ref 0), (1, .int l1), (2, .int l2), (3, .long l3), (5, .long l5), (8, .long (lI (Nat.gcd a b : Nat)))] (v.toList ++ []) M' Q)) :
    P 77 58 [(0, .ref 0), (1, .int l1), (2, .int l2), (3, .long l3), (5, .long l5), (8, .long (lI a)), (10, .long (lI b))] [] M Q := by
  have key : ∀ (d l g : Nat), l ≤ d → (g : Int) < 9223372036854775808 → (l : Int) < 9223372036854775808 → Nat.gcd g l = Nat.gcd a b → P 77 58 [(0, .ref 0), (1, .int l1), (2, .int l2), (3, .long l3), (5, .long l5), (8, .long (lI g)), (10, .long (lI l))] [] M Q := by
    intro d
    induction d with
    | zero =>
      intro l g hl hg hl2 he
      have e : l = 0 := by omega
      subst e
      rw [Nat.gcd_zero_right] at he
      rw [← he] at hX
      refine v_lw_isVariance_58 hG ⟨fun _ => hX, fun c => absurd ?_ c⟩
      rw [lL0]
      exact (lgE ⟨by omega, by omega⟩ ⟨by omega, by omega⟩).1.mpr rfl
    | succ d ih =>
      intro l g hl hg hl2 he
      refine v_lw_isVariance_58 hG ⟨fun c => ?_, fun c => ⟨?_, ?_⟩⟩
      · rw [lL0, (lgE ⟨by omega, by omega⟩ ⟨by omega, by omega⟩).1] at c
        have e : l = 0 := by omega
        subst e
        rw [Nat.gcd_zero_right] at he
        rw [← he] at hX
        exact hX
      · rw [lL0, (lgE ⟨by omega, by omega⟩ ⟨by omega, by omega⟩).1] at c
        rw [lL0, lI_eq (by omega) (by omega) (by omega) (by omega)]
        exact c
      · rw [lL0, (lgE ⟨by omega, by omega⟩ ⟨by omega, by omega⟩).1] at c
        have hl0 : 0 < l := by omega
        have hm := Nat.mod_lt g hl0
        rw [lI_rem hl0 hg hl2]
        refine ih (g % l) l (by omega) hl2 (by omega) ?_
        rw [← gcd_st]
        exact he
  exact key b b a (Nat.le_refl _) h1 h2 rfl
theorem is_132 (hG : qGood Ls xs P) (hR : cRd M 1 n f) (hw : wOK w) (h1 : 1 ≤ m) (h2 : m ≤ 31) (hc : cnd n f (od w) m ≠ 0) (hD : vD n f w m ≠ 0) (hQ : ∀ M', qFm [34, 35] M M' → Q (some (.int (1 : Int32))) M') :
    P 77 132 [(0, .ref 0), (1, .int (iI w)), (2, .int (iI m)), (3, .long (lI (vN n f w m))), (5, .long (lI (vD n f w m))), (16, .int (1 : Int32))] [] M Q := by
  obtain ⟨ha, hb⟩ := id hw
  refine v_lw_isVariance_132 hG ⟨fun _ => is_194 hG hR hw h1 h2 hD hQ, fun c => ?_⟩
  have c := Classical.not_not.mp c
  rw [iL3, iI_eq (by omega) (by omega) (by omega) (by omega)] at c
  subst c
  have hc : cnd n f 4 m ≠ 0 := hc
  obtain ⟨t1, t2, t3, t4⟩ := vT hR.ok hR.2.1 h1 h2 hc
  have b2 := vND hR.ok hR.2.1 h1 h2 (w := 2) ⟨by decide, by decide⟩
  have b3 := vND hR.ok hR.2.1 h1 h2 (w := 3) ⟨by decide, by decide⟩
  refine C_var0 hG hR (w := 2) (m := m) ⟨by decide, by decide⟩ h1 h2 iL2 rfl (fun M1 hF1 hR1 => ?_)
  rw [if_neg (by omega)]
  refine v_lw_isVariance_140 hG ?_
  refine C_var1 hG hR1 (w := 2) (m := m) ⟨by decide, by decide⟩ h1 h2 iL2 rfl (fun M2 hF2 hR2 => ?_)
  rw [if_neg (by omega)]
  refine v_lw_isVariance_146 hG ?_
  have e1 : ((vN n f 2 m : Nat) : Int) * (m : Int) * (m : Int) = ((vN n f 2 m * m * m : Nat) : Int) := by
    rw [Int.natCast_mul, Int.natCast_mul]
  have e2 : (3 : Int) * ((vD n f 2 m : Nat) : Int) = ((3 * vD n f 2 m : Nat) : Int) := by omega
  rw [i2l (by omega) (by omega), lI_mul, lI_mul, e1, show (3 : Int64) = lI 3 by decide, lI_mul, e2]
  have hg : 0 < Nat.gcd (vN n f 2 m * m * m) (3 * vD n f 2 m) := Nat.gcd_pos_of_pos_right _ (by omega)
  have hg2 : Nat.gcd (vN n f 2 m * m * m) (3 * vD n f 2 m) ≤ 3 * vD n f 2 m := Nat.le_of_dvd (by omega) (Nat.gcd_dvd_right _ _)
  refine is_163 hG (by omega) (by omega) ?_
  have nz : ¬ lI ((Nat.gcd (vN n f 2 m * m * m) (3 * vD n f 2 m) : Nat) : Int) = 0 := by
    rw [lL0, lI_eq (by omega) (by omega) (by omega) (by omega)]
    omega
  have r3 : r64 (vN n f 3 m : Nat) := ⟨by omega, by omega⟩
  have r4 : r64 (vD n f 3 m : Nat) := ⟨by omega, by omega⟩
  refine v_lw_isVariance_176 hG ⟨fun c => absurd c (by decide), fun _ => ⟨nz, ⟨fun c => absurd ?_ c, fun _ => ⟨nz, ⟨fun c => absurd ?_ c, fun _ => ?_⟩⟩⟩⟩⟩
  · rw [lI_div (by omega) (by omega), ← t3]
    exact (lgE r3 r3).1.mpr rfl
  · rw [lI_div (by omega) (by omega), ← t4]
    exact (lgE r4 r4).1.mpr rfl
  · exact is_194 hG hR2 hw h1 h2 hD (fun M' hF => hQ M' ((hF1.tr hF2).tr hF))
theorem is_75 (hG : qGood Ls xs P) (hR : cRd M 1 n f) (hw : wOK w) (h1 : 1 ≤ m) (h2 : m ≤ 31) (hc : cnd n f (od w) m ≠ 0) (hD : vD n f w m ≠ 0) (hQ : ∀ M', qFm [34, 35] M M' → Q (some (.int (1 : Int32))) M') :
    P 77 75 [(0, .ref 0), (1, .int (iI w)), (2, .int (iI m)), (3, .long (lI (vN n f w m))), (5, .long (lI (vD n f w m))), (8, .long (lI 1))] [.long (lI (isq (tr6 (vN n f w m) (vD n f w m))))] M Q := by
  have b := vND hR.ok hR.2.1 h1 h2 hw
  have b2 := tr6_in hR.ok hR.2.1 h1 h2 hw hD
  have hpos : 0 < vD n f w m := by omega
  have m1 := Nat.mod_lt (vN n f w m) hpos
  have e3 : ((vN n f w m % vD n f w m : Nat) : Int) * 1000000 = ((vN n f w m % vD n f w m * 1000000 : Nat) : Int) := by omega
  have e4 : ((vN n f w m / vD n f w m : Nat) : Int) * 1000000 = ((vN n f w m / vD n f w m * 1000000 : Nat) : Int) := by omega
  have nz : ¬ lI ((vD n f w m : Nat) : Int) = 0 := by
    rw [lL0, lI_eq (by omega) (by omega) (by omega) (by omega)]
    omega
  refine v_lw_isVariance_75 hG ⟨nz, nz, nz, ?_⟩
  rw [lI_rem hpos (by omega) (by omega), lI_div (by omega) (by omega), show (1000000 : Int64) = lI 1000000 by decide, lI_mul, lI_mul, e3, e4, lI_div (by omega) (by omega), lI_add]
  have e5 : ((vN n f w m / vD n f w m * 1000000 : Nat) : Int) + ((vN n f w m % vD n f w m * 1000000 / vD n f w m : Nat) : Int) = ((tr6 (vN n f w m) (vD n f w m) : Nat) : Int) := by
    unfold tr6
    omega
  rw [e5]
  have hsp := isq_sp (tr6 (vN n f w m) (vD n f w m))
  generalize tr6 (vN n f w m) (vD n f w m) = W at *
  generalize isq (W : Nat) = r at *
  obtain ⟨hr0, hrr, hr1⟩ := hsp
  have hrb : r < 500000000 := by
    rcases Int.lt_or_le r 500000000 with q | q
    · exact q
    · have := Int.mul_le_mul q q (by omega) (by omega)
      omega
  have k0 := mul_bd (A := 500000000) (C := 500000000) (a := r) (c := r) (by omega) (by omega) (by omega) (by omega)
  have k1 := mul_bd (A := 500000000) (C := 500000000) (a := r + 1) (c := r + 1) (by omega) (by omega) (by omega) (by omega)
  have h0 : r64 0 := ⟨by decide, by decide⟩
  have ho : r64 1 := ⟨by decide, by decide⟩
  have hA : r64 (vN n f w m : Nat) := ⟨by omega, by omega⟩
  have hB : r64 (vD n f w m : Nat) := ⟨by omega, by omega⟩
  have hW : r64 (W : Nat) := ⟨by omega, by omega⟩
  have hr : r64 r := ⟨by omega, by omega⟩
  have hq0 : r64 (r * r) := ⟨by omega, by omega⟩
  have hq1 : r64 ((r + 1) * (r + 1)) := ⟨by omega, by omega⟩
  refine v_lw_isVariance_90 hG ?_
  rw [lL0, lL1, lI_add, lI_mul, lI_mul]
  refine ⟨fun c => absurd ((lgE hA h0).2.1.mp c) (by omega), fun _ => ⟨fun c => absurd ((lgE hB h0).2.2.1.mp c) (by omega), fun _ => ⟨fun c => absurd ((lgE ho ho).1.mpr rfl) c, fun _ => ⟨fun c => absurd ((lgE hr h0).2.1.mp c) (by omega), fun _ => ⟨fun c => absurd ((lgE hq0 hW).2.2.2.mp c) (by omega), fun _ => ⟨fun c => absurd ((lgE hq1 hW).2.2.1.mp c) (by omega), fun _ => ?_⟩⟩⟩⟩⟩⟩
  refine C_cmpv hG hR hw h1 h2 h1 h2 (fun M1 hF1 hR1 => ?_)
  rw [if_neg (by omega), if_pos aCmp2_r]
  exact v_lw_isVariance_127 hG ⟨fun c => absurd iL0.symm c, fun _ => is_132 hG hR1 hw h1 h2 hc hD (fun M' hF => hQ M' (hF1.tr hF))⟩
theorem is_27 (hG : qGood Ls xs P) (hR : cRd M 1 n f) (hw : wOK w) (h1 : 1 ≤ m) (h2 : m ≤ 31) (hQ : ∀ M', qFm [34, 35] M M' → Q (some (.int (1 : Int32))) M') :
    P 77 27 [(0, .ref 0), (1, .int (iI w)), (2, .int (iI m)), (3, .long (lI (if vD n f w m = 0 then (-1000000001) else (vN n f w m : Int)))), (5, .long (lI (if vD n f w m = 0 then (-1000000001) else (vD n f w m : Int))))] [.int (iI (cnd n f (od w) m))] M Q := by
  have b := vND hR.ok hR.2.1 h1 h2 hw
  have b2 := vB_c (n := n) (f := f) hR.2.1 h1 h2 hw
  have hci : 0 ≤ cnd n f (od w) m ∧ cnd n f (od w) m ≤ n := cz_in _ n
  have hn := hR.2.1
  have hN : r64 ((-1000000001)) := ⟨by decide, by decide⟩
  refine v_lw_isVariance_27 hG ⟨fun c => ?_, fun c => ?_⟩
  · rw [iz0 (by omega) (by omega)] at c
    have hD : vD n f w m ≠ 0 := fun z => c (b2.2.2.mp (b.2.2.1.mp z))
    have hB : vB n f w m ≠ 0 := fun z => hD (b.2.2.1.mpr z)
    rw [if_neg hD, if_neg hD]
    refine is_58 hG (by omega) (by omega) ?_
    rw [(vNB w m hB).2.1]
    refine C_devv hG hR hw h1 h2 (fun M1 hF1 hR1 => ?_)
    rw [if_neg hD]
    exact is_75 hG hR1 hw h1 h2 c hD (fun M' hF => hQ M' (hF1.tr hF))
  · have c := (iz0 (by omega) (by omega)).mp (Classical.not_not.mp c)
    have hD : vD n f w m = 0 := b.2.2.1.mpr (b2.2.2.mpr c)
    rw [if_pos hD, if_pos hD, show (-1000000001 : Int64) = lI (-1000000001) by decide]
    refine ⟨fun z => absurd ((lgE hN hN).1.mpr rfl) z, fun _ => ⟨fun z => absurd ((lgE hN hN).1.mpr rfl) z, fun _ => ?_⟩⟩
    refine C_devv hG hR hw h1 h2 (fun M1 hF1 hR1 => ?_)
    rw [if_pos hD]
    refine v_lw_isVariance_40 hG ?_
    rw [show (-1000000001 : Int64) = lI (-1000000001) by decide]
    refine ⟨fun z => absurd ((lgE hN hN).1.mpr rfl) z, fun _ => ?_⟩
    refine C_cmpv hG hR1 hw h1 h2 h1 h2 (fun M2 hF2 hR2 => ?_)
    rw [if_pos (Or.inl hD)]
    exact v_lw_isVariance_48 hG ⟨fun z => absurd iLn1000000001.symm z, fun _ => ⟨by decide, hQ M2 (hF1.tr hF2)⟩⟩
theorem L_isVariance (hG : qGood Ls xs P) (hR : cRd M 1 n f) (hw : wOK w) (h1 : 1 ≤ m) (h2 : m ≤ 31) (hQ : ∀ M', qFm [34, 35] M M' → Q (some (.int (1 : Int32))) M') : P 77 0 [(0, .ref 0), (1, .int (iI w)), (2, .int (iI m))] [] M Q := by
  obtain ⟨ha, hb⟩ := id hw
  refine v_lw_isVariance_0 hG ?_
  refine C_var0 hG hR hw h1 h2 rfl rfl (fun M1 hF1 hR1 => ?_)
  refine v_lw_isVariance_5 hG ?_
  refine C_var1 hG hR1 hw h1 h2 rfl rfl (fun M2 hF2 hR2 => ?_)
  have g := is_27 hG hR2 hw h1 h2 (fun M' hF => hQ M' ((hF1.tr hF2).tr hF))
  refine v_lw_isVariance_11 hG ?_
  rw [iL0, iL1, iI_eq (by omega) (by omega) (by omega) (by omega), iI_eq (by omega) (by omega) (by omega) (by omega)]
  rcases od_c hw with e | e | e | e <;> rw [e.2] at g
  · exact ⟨fun c => absurd e.1 c, fun _ => C_cnt hG hR2 h1 h2 iL2 (by omega) g⟩
  · exact ⟨fun _ => ⟨fun c => absurd e.1 c, fun _ => C_cnt hG hR2 h1 h2 iL3 (by omega) g⟩, fun c => absurd (show ¬ w = 0 by omega) c⟩
  · exact ⟨fun _ => ⟨fun _ => C_cnt hG hR2 h1 h2 iL4 (by omega) g, fun c => absurd (show ¬ w = 1 by omega) c⟩, fun c => absurd (show ¬ w = 0 by omega) c⟩
  · exact ⟨fun _ => ⟨fun _ => C_cnt hG hR2 h1 h2 iL4 (by omega) g, fun c => absurd (show ¬ w = 1 by omega) c⟩, fun c => absurd (show ¬ w = 0 by omega) c⟩
end ISV
