/-! areCompared: the best is no greater than any, and the first of its value -/
section CMP
variable {Ls : Nat} {xs : Nat → Int32} {P : qSem} {M : qMem} {Q : qPost} {n : Nat} {f : Nat → Int} {w : Int}
theorem aCmp2_le (a b : Nat) : aCmp2 n f w a b ≤ 0 ↔ vN n f w a * vD n f w b ≤ vN n f w b * vD n f w a := by
  unfold aCmp2
  rw [cmpZ_le]
  omega
theorem aCmp2_0 (a b : Nat) : aCmp2 n f w a b = 0 ↔ vN n f w a * vD n f w b = vN n f w b * vD n f w a := by
  unfold aCmp2
  rw [cmpZ_0]
  omega
theorem aCmp2_n (a b : Nat) : aCmp2 n f w a b = - aCmp2 n f w b a := by
  have h1 := aCmp2_le (n := n) (f := f) (w := w) a b
  have h2 := aCmp2_le (n := n) (f := f) (w := w) b a
  have h3 := aCmp2_0 (n := n) (f := f) (w := w) a b
  have h4 := aCmp2_0 (n := n) (f := f) (w := w) b a
  have h5 : -1 ≤ aCmp2 n f w a b ∧ aCmp2 n f w a b ≤ 1 := cmpZ_in _ _
  have h6 : -1 ≤ aCmp2 n f w b a ∧ aCmp2 n f w b a ≤ 1 := cmpZ_in _ _
  generalize vN n f w a * vD n f w b = x at *
  generalize vN n f w b * vD n f w a = y at *
  omega
theorem bsz_min (n : Nat) (f : Nat → Int) (w : Int) : ∀ k, (bsz n f w k = 0 → ∀ j, 1 ≤ j → j ≤ k → vD n f w j = 0) ∧ (bsz n f w k ≠ 0 → ∀ j, 1 ≤ j → j ≤ k → vD n f w j ≠ 0 → aCmp2 n f w (bsz n f w k) j ≤ 0 ∧ (aCmp2 n f w (bsz n f w k) j = 0 → bsz n f w k ≤ j)) := by
  intro k
  induction k with
  | zero => exact ⟨fun _ j h1 h2 => by omega, fun h => absurd rfl h⟩
  | succ k ih =>
    have hb := bsz_in n f w k
    by_cases c : vD n f w (k + 1) ≠ 0 ∧ (bsz n f w k = 0 ∨ aCmp2 n f w (k + 1) (bsz n f w k) < 0)
    · have e : bsz n f w (k + 1) = k + 1 := by rw [bsz_s, if_pos c]
      rw [e]
      refine ⟨fun h => by omega, fun _ j h1 h2 hj => ?_⟩
      rcases Nat.lt_or_ge k j with q | q
      · have e2 : j = k + 1 := by omega
        subst e2
        exact ⟨by rw [aCmp2_r]; exact Int.le_refl _, fun _ => Nat.le_refl _⟩
      · have hlt : aCmp2 n f w (k + 1) j < 0 := by
          rcases c.2 with z | z
          · exact absurd (ih.1 z j h1 q) hj
          · by_cases z0 : bsz n f w k = 0
            · exact absurd (ih.1 z0 j h1 q) hj
            · have g1 := (ih.2 z0 j h1 q hj).1
              rw [aCmp2_le] at g1
              have g2 : ¬ aCmp2 n f w (bsz n f w k) (k + 1) ≤ 0 := by
                rw [aCmp2_n]
                omega
              rw [aCmp2_le] at g2
              have g3 : ¬ aCmp2 n f w j (k + 1) ≤ 0 := by
                rw [aCmp2_le]
                intro g4
                apply g2
                have hpos : 0 < vD n f w j := by omega
                refine Nat.le_of_mul_le_mul_left ?_ hpos
                generalize vN n f w (bsz n f w k) = bN at *
                generalize vD n f w (bsz n f w k) = bD at *
                generalize vN n f w (k + 1) = kN at *
                generalize vD n f w (k + 1) = kD at *
                generalize vN n f w j = jN at *
                generalize vD n f w j = jD at *
                have s1 : bN * jD * kD ≤ jN * bD * kD := Nat.mul_le_mul_right kD g1
                have s2 : jN * kD * bD ≤ kN * jD * bD := Nat.mul_le_mul_right bD g4
                have s3 : jD * (bN * kD) = bN * jD * kD := by ac_rfl
                have s4 : jD * (kN * bD) = kN * jD * bD := by ac_rfl
                have s5 : jN * bD * kD = jN * kD * bD := by ac_rfl
                omega
              rw [aCmp2_n]
              omega
        exact ⟨by omega, fun z => by omega⟩
    · have e : bsz n f w (k + 1) = bsz n f w k := by rw [bsz_s, if_neg c]
      rw [e]
      refine ⟨fun h j h1 h2 => ?_, fun h j h1 h2 hj => ?_⟩
      · rcases Nat.lt_or_ge k j with q | q
        · have e2 : j = k + 1 := by omega
          subst e2
          by_cases z : vD n f w (k + 1) = 0
          · exact z
          · exact absurd ⟨z, Or.inl h⟩ c
        · exact ih.1 h j h1 q
      · rcases Nat.lt_or_ge k j with q | q
        · have e2 : j = k + 1 := by omega
          subst e2
          have g : ¬ aCmp2 n f w (k + 1) (bsz n f w k) < 0 := fun z => c ⟨hj, Or.inr z⟩
          rw [aCmp2_n] at g
          exact ⟨by omega, fun _ => by omega⟩
        · exact ih.2 h j h1 q hj
theorem L_areCompared (hG : qGood Ls xs P) (hR : cRd M 1 n f) (hw : wOK w) (hQ : ∀ M', qFm [34, 35] M M' → Q (some (.int (1 : Int32))) M') : P 78 0 [(0, .ref 0), (1, .int (iI w))] [] M Q := by
  obtain ⟨ha, hb⟩ := id hw
  have hbi := bsz_in n f w 31
  have hmin := bsz_min n f w 31
  refine v_lw_areCompared_0 hG ?_
  refine C_best hG hR ⟨by omega, by omega⟩ (fun M1 hF1 => ?_)
  have eb : aBest n f w = if bsz n f w 31 = 0 then (-1000000001) else (bsz n f w 31 : Int) := by
    unfold aBest
    rw [if_pos ⟨ha, hb⟩]
  rw [eb]
  refine v_lw_areCompared_3 hG ?_
  have key : ∀ (d j : Nat) (M1 : qMem), j + d = 32 → 1 ≤ j → qFm [34, 35] M M1 → P 78 6 [(0, .ref 0), (1, .int (iI w)), (2, .int (iI (if bsz n f w 31 = 0 then (-1000000001) else (bsz n f w 31 : Int)))), (3, .int (iI j))] [] M1 Q := by
    intro d
    induction d with
    | zero =>
      intro j M1 hj h1 hF
      have e : j = 32 := by omega
      subst e
      refine v_lw_areCompared_6 hG ⟨fun _ => ⟨by decide, hQ M1 hF⟩, fun c => absurd (by decide) c⟩
    | succ d ih =>
      intro j M1 hj h1 hF
      have hR1 : cRd M1 1 n f := hR.fm hF (by decide) (by decide)
      have bj := vND hR.ok hR.2.1 (m := j) h1 (by omega) hw
      have h0 : r64 0 := ⟨by decide, by decide⟩
      have next : ∀ M2 : qMem, qFm [34, 35] M M2 → P 78 70 [(0, .ref 0), (1, .int (iI w)), (2, .int (iI (if bsz n f w 31 = 0 then (-1000000001) else (bsz n f w 31 : Int)))), (3, .int (iI j))] [] M2 Q := by
        intro M2 hF2
        refine v_lw_areCompared_70 hG ?_
        have hI := ih (j + 1) M2 (by omega) (by omega) hF2
        rw [show iI j + (1 : Int32) = iI (j + 1 : Nat) by rw [iL1, iI_add]; rfl]
        exact hI
      refine v_lw_areCompared_6 hG ⟨fun c => ?_, fun _ => ?_⟩
      · rw [show (32 : Int32) = iI 32 by decide, iI_le (by omega) (by omega) (by omega) (by omega)] at c
        omega
      refine C_var1 hG hR1 hw h1 (by omega) rfl rfl (fun M2 hF2 hR2 => ?_)
      have hF2 := hF.tr hF2
      by_cases hD : vD n f w j = 0
      · rw [if_pos hD]
        have g21 : P 78 21 [(0, .ref 0), (1, .int (iI w)), (2, .int (iI (if bsz n f w 31 = 0 then (-1000000001) else (bsz n f w 31 : Int)))), (3, .int (iI j)), (4, .int (0 : Int32))] [] M2 Q := by
          have g49 : P 78 49 [(0, .ref 0), (1, .int (iI w)), (2, .int (iI (if bsz n f w 31 = 0 then (-1000000001) else (bsz n f w 31 : Int)))), (3, .int (iI j)), (4, .int (0 : Int32))] [] M2 Q :=
            v_lw_areCompared_49 hG ⟨fun _ => next M2 hF2, fun _ => ⟨fun _ => next M2 hF2, fun c => absurd rfl c⟩⟩
          have g26 : P 78 26 [(0, .ref 0), (1, .int (iI w)), (2, .int (iI (if bsz n f w 31 = 0 then (-1000000001) else (bsz n f w 31 : Int)))), (3, .int (iI j)), (4, .int (0 : Int32))] [] M2 Q :=
            v_lw_areCompared_26 hG ⟨fun _ => g49, fun _ => ⟨fun _ => g49, fun c => absurd rfl c⟩⟩
          exact v_lw_areCompared_21 hG ⟨fun _ => g26, fun _ => ⟨fun c => absurd rfl c, fun _ => g26⟩⟩
        refine v_lw_areCompared_14 hG ⟨fun _ => g21, fun c => absurd ?_ c⟩
        rw [lL0]
        exact (lgE ⟨by decide, by decide⟩ h0).2.2.1.mpr (by decide)
      · rw [if_neg hD]
        have hB : bsz n f w 31 ≠ 0 := fun z => hD (hmin.1 z j h1 (by omega))
        have hBD := bsz_D n f w 31 hB
        obtain ⟨m1, m2⟩ := hmin.2 hB j h1 (by omega) hD
        have hn2 := aCmp2_n (n := n) (f := f) (w := w) j (bsz n f w 31)
        have h5 : -1 ≤ aCmp2 n f w (bsz n f w 31) j ∧ aCmp2 n f w (bsz n f w 31) j ≤ 1 := cmpZ_in _ _
        rw [if_neg hB] at next ⊢
        refine v_lw_areCompared_14 hG ⟨fun c => ?_, fun _ => ?_⟩
        · rw [lL0, (lgE ⟨by omega, by omega⟩ h0).2.2.1] at c
          omega
        have nN : ¬ iI ((bsz n f w 31 : Nat) : Int) = (-1000000001 : Int32) := by
          rw [iLn1000000001, iI_eq (by omega) (by omega) (by omega) (by omega)]
          omega
        have g49 : ∀ M3 : qMem, qFm [34, 35] M M3 → P 78 49 [(0, .ref 0), (1, .int (iI w)), (2, .int (iI (bsz n f w 31 : Nat))), (3, .int (iI j)), (4, .int (1 : Int32))] [] M3 Q := by
          intro M3 hF3
          refine v_lw_areCompared_49 hG ⟨fun c => absurd c nN, fun _ => ⟨fun c => absurd c (by decide), fun _ => ?_⟩⟩
          refine C_cmpv hG (hR.fm hF3 (by decide) (by decide)) hw (by omega) (by omega) h1 (by omega) (fun M4 hF4 hR4 => ?_)
          refine v_lw_areCompared_59 hG ?_
          refine C_cmpv hG hR4 hw h1 (by omega) (by omega) (by omega) (fun M5 hF5 hR5 => ?_)
          rw [if_neg (show ¬ (vD n f w (bsz n f w 31) = 0 ∨ vD n f w j = 0) by omega), if_neg (show ¬ (vD n f w j = 0 ∨ vD n f w (bsz n f w 31) = 0) by omega)]
          have hF5 := (hF3.tr hF4).tr hF5
          refine v_lw_areCompared_64 hG ⟨by decide, ?_⟩
          by_cases z : aCmp2 n f w (bsz n f w 31) j = 0
          · rw [if_pos z, if_pos (show aCmp2 n f w j (bsz n f w 31) = 0 by omega)]
            exact ⟨fun _ => next M5 hF5, fun c => absurd (by decide) c⟩
          · rw [if_neg z, if_pos (show aCmp2 n f w (bsz n f w 31) j < 0 by omega), if_neg (show ¬ aCmp2 n f w j (bsz n f w 31) = 0 by omega), if_neg (show ¬ aCmp2 n f w j (bsz n f w 31) < 0 by omega)]
            exact ⟨fun _ => next M5 hF5, fun c => absurd (by decide) c⟩
        refine v_lw_areCompared_21 hG ⟨fun _ => ?_, fun c => absurd nN c⟩
        refine v_lw_areCompared_26 hG ⟨fun c => absurd c nN, fun _ => ⟨fun c => absurd c (by decide), fun _ => ?_⟩⟩
        refine C_cmpv hG hR2 hw (by omega) (by omega) h1 (by omega) (fun M3 hF3 hR3 => ?_)
        have hF3 := hF2.tr hF3
        rw [if_neg (by omega)]
        have hv : (if aCmp2 n f w (bsz n f w 31) j = 0 then (0 : Int) else if aCmp2 n f w (bsz n f w 31) j < 0 then 1 else 2) = 0 ∧ aCmp2 n f w (bsz n f w 31) j = 0 ∨ (if aCmp2 n f w (bsz n f w 31) j = 0 then (0 : Int) else if aCmp2 n f w (bsz n f w 31) j < 0 then 1 else 2) = 1 := by
          by_cases z : aCmp2 n f w (bsz n f w 31) j = 0
          · exact Or.inl ⟨if_pos z, z⟩
          · refine Or.inr ?_
            rw [if_neg z, if_pos (by omega)]
        rcases hv with ⟨hv, z⟩ | hv
        · rw [hv]
          refine v_lw_areCompared_36 hG ⟨fun c => absurd c (by decide), fun _ => ?_⟩
          refine C_cmpv hG hR3 hw (by omega) (by omega) h1 (by omega) (fun M4 hF4 hR4 => ?_)
          rw [if_neg (by omega), hv]
          refine v_lw_areCompared_43 hG ⟨fun c => absurd (by decide) c, fun _ => ⟨fun _ => g49 M4 (hF3.tr hF4), fun c => absurd ?_ c⟩⟩
          rw [iI_le (by omega) (by omega) (by omega) (by omega)]
          have := m2 z
          omega
        · rw [hv]
          refine v_lw_areCompared_36 hG ⟨fun c => absurd c (by decide), fun _ => ?_⟩
          refine C_cmpv hG hR3 hw (by omega) (by omega) h1 (by omega) (fun M4 hF4 hR4 => ?_)
          rw [if_neg (by omega), hv]
          exact v_lw_areCompared_43 hG ⟨fun _ => g49 M4 (hF3.tr hF4), fun c => absurd (by decide) c⟩
  exact key 31 1 M1 (by omega) (by omega) hF1
end CMP
