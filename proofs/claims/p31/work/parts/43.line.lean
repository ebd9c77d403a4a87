/-! isLine: a line changes no difference; what is undone is as it was -/
theorem CS.q {s : zSt} {M M' : qMem} (h : CS s M) (hF : qFm [34, 35] M M') : CS s M' := h.nx hF (by decide)
section LIN
variable {Ls : Nat} {xs : Nat → Int32} {P : qSem} {M : qMem} {Q : qPost} {n : Nat} {f : Nat → Int} {s : zSt}
theorem cz_mono {p q : Nat → Bool} : ∀ {k : Nat}, (∀ j, j < k → p j = true → q j = true) → cz p k ≤ cz q k := by
  intro k
  induction k with
  | zero => intro _; exact Int.le_refl _
  | succ k ih =>
    intro h
    have h1 := ih (fun j hj => h j (by omega))
    rw [czs, czs]
    by_cases c : p k = true
    · rw [if_pos c, if_pos (h k (by omega) c)]
      omega
    · rw [if_neg c]
      split <;> omega
theorem vl_sb {a b : Int} (h : sbO f (fun t => -(a * t + b)) n = true) (x : Int) : (vl n f x = (-1000000001) ∧ vl n (sbR f (fun t => -(a * t + b))) x = (-1000000001)) ∨ (vl n f x ≠ (-1000000001) ∧ vl n (sbR f (fun t => -(a * t + b))) x ≠ (-1000000001) ∧ vl n (sbR f (fun t => -(a * t + b))) x = vl n f x + (a * x + b)) := by
  unfold vl
  by_cases c : 0 ≤ x ∧ x < n
  · rw [if_pos c, if_pos c]
    have hm := sbO_m n (show x.toNat < n by omega) h
    have hx : ((x.toNat : Nat) : Int) = x := by omega
    rw [hx] at hm
    have er : sbR f (fun t => -(a * t + b)) x.toNat = if f x.toNat = (-1000000001) then (-1000000001) else f x.toNat - -(a * ((x.toNat : Nat) : Int) + b) := rfl
    rw [hx] at er
    rw [er]
    by_cases e : f x.toNat = (-1000000001)
    · rw [if_pos e]
      exact Or.inl ⟨e, rfl⟩
    · rw [if_neg e]
      rcases hm with q | q
      · exact absurd q e
      · exact Or.inr ⟨e, by omega, by omega⟩
  · rw [if_neg c, if_neg c]
    exact Or.inl ⟨rfl, rfl⟩
theorem sec_sb {a b : Int} (h : sbO f (fun t => -(a * t + b)) n = true) (m i : Int) : sec n (sbR f (fun t => -(a * t + b))) m i = sec n f m i := by
  have h0 := vl_sb h i
  have h1 := vl_sb h (i + m)
  have h2 := vl_sb h (i + 2 * m)
  have e1 : a * (i + m) = a * i + a * m := Int.mul_add _ _ _
  have e2 : a * (i + 2 * m) = a * i + 2 * (a * m) := by rw [Int.mul_add, Int.mul_left_comm]
  rw [e1] at h1
  rw [e2] at h2
  unfold sec
  generalize vl n (sbR f (fun t => -(a * t + b))) i = p0 at *
  generalize vl n (sbR f (fun t => -(a * t + b))) (i + m) = p1 at *
  generalize vl n (sbR f (fun t => -(a * t + b))) (i + 2 * m) = p2 at *
  generalize vl n f i = q0 at *
  generalize vl n f (i + m) = q1 at *
  generalize vl n f (i + 2 * m) = q2 at *
  by_cases c : q0 = (-1000000001) ∨ q1 = (-1000000001) ∨ q2 = (-1000000001)
  · rw [if_pos c, if_pos (by omega)]
  · rw [if_neg c, if_neg (by omega)]
    omega
theorem sbN_le {g : Nat → Int} (h : sbO f g n = true) : sbN f g n ≤ cz (fun j => decide (sbR f g j ≠ (-1000000001))) n := by
  refine cz_mono (fun j hj hp => ?_)
  have hp := of_decide_eq_true hp
  have hm := sbO_m n hj h
  refine decide_eq_true ?_
  unfold sbR
  rw [if_neg hp.1]
  rcases hm with q | q
  · exact absurd q hp.1
  · omega
theorem C_told1 (hG : qGood Ls xs P) (hS : CS s M) (hQ : Q (some (.int (iI (cz (fun j => decide (s.1.2 j ≠ (-1000000001))) s.1.1)))) M) : P 45 0 [(0, .ref 0), (1, .int (1 : Int32))] [] M Q := by
  rw [iL1]
  exact C_told hG hS.1 hS.2.2.2.1.1 hS.dep ⟨by decide, by decide⟩ hQ
theorem undo_chg (s : zSt) (r : zRow) : (tUndo (zChg s r)).1 = (hpD s.2.1.1 : Int) - 1 ∧ (tUndo (zChg s r)).2.1 = s.1 := by
  have h0 : (zChg s r).2.1.1 = hpD s.2.1.1 := rfl
  have h1 : (zChg s r).2.1.2 = hpH s.2.1.1 s.2.1.2 s.1 := rfl
  have hp : hpD s.2.1.1 ≠ 0 := by
    unfold hpD
    split <;> omega
  unfold tUndo
  rw [h0, h1, if_neg hp]
  refine ⟨rfl, ?_⟩
  show hpH s.2.1.1 s.2.1.2 s.1 (hpD s.2.1.1 - 1) = s.1
  unfold hpH hpD
  by_cases c : s.2.1.1 = 8
  · rw [if_pos c, if_pos c, if_pos rfl]
  · rw [if_neg c, if_neg c, if_pos (by omega)]
theorem hpD_in (hS : CS s M) : 1 ≤ hpD s.2.1.1 ∧ hpD s.2.1.1 ≤ 9 := by
  obtain ⟨o, h1, h2, h3, h4, h5⟩ := hS.2.1
  unfold hpD
  split <;> omega
theorem li_33 (hG : qGood Ls xs P) (hS : CS s M) {a b : Int} (ha : -20 ≤ a ∧ a ≤ 20) (hb : -100 ≤ b ∧ b ≤ 100) {m : Nat} (h1 : 1 ≤ m) (h2 : m ≤ 4) {l9 : Int32} (h9 : 0 < s.1.1 → l9 = iI (vl s.1.1 s.1.2 0)) (hQ : ∀ M', Q (some (.int (1 : Int32))) M') :
    P 39 0 [(0, .ref 0), (1, .int (iI a)), (2, .int (iI b))] [] M (fun v M' => P 79 33 [(0, .ref 0), (3, .int (iI m)), (4, .int (iI (sec s.1.1 s.1.2 m 0))), (5, .int (iI (cnd s.1.1 s.1.2 2 m))), (6, .long (lI (if vD s.1.1 s.1.2 0 m = 0 then (-1000000001) else (vN s.1.1 s.1.2 0 m : Int)))), (8, .int (iI s.1.1)), (9, .int l9)] (v.toList ++ []) M' Q) := by
  have hn := hS.1.2.1
  refine C_addLine hG hS ⟨by omega, by omega⟩ ⟨by omega, by omega⟩ (fun M1 hF1 hS1 => ?_)
  have et : tALine s a b = tSub s (fun t => -(a * t + b)) := if_pos ⟨by omega, by omega⟩
  rw [et] at hS1 ⊢
  by_cases c : sbO s.1.2 (fun t => -(a * t + b)) s.1.1 = true
  · have e2 : tSub s (fun t => -(a * t + b)) = (sbN s.1.2 (fun t => -(a * t + b)) s.1.1, zChg s (s.1.1, sbR s.1.2 (fun t => -(a * t + b)))) := if_pos c
    rw [e2] at hS1 ⊢
    have hle := sbN_le c
    have hN : 0 ≤ sbN s.1.2 (fun t => -(a * t + b)) s.1.1 ∧ sbN s.1.2 (fun t => -(a * t + b)) s.1.1 ≤ s.1.1 := cz_in _ _
    have hN2 := cz_in (fun j => decide (sbR s.1.2 (fun t => -(a * t + b)) j ≠ (-1000000001))) s.1.1
    have hu := undo_chg s (s.1.1, sbR s.1.2 (fun t => -(a * t + b)))
    have hd := hpD_in hS
    have hs1 : ∀ i : Int, sec s.1.1 (sbR s.1.2 (fun t => -(a * t + b))) m i = sec s.1.1 s.1.2 m i := sec_sb c m
    have hdf : ∀ i : Nat, dif s.1.1 (sbR s.1.2 (fun t => -(a * t + b))) 2 m i = dif s.1.1 s.1.2 2 m i := fun i => by
      rw [dif2 (by omega), dif2 (by omega), hs1]
    have hv := vND_c (n := s.1.1) (f := sbR s.1.2 (fun t => -(a * t + b))) (f' := s.1.2) (w := 0) (w' := 0) (m := m) (m' := m) hdf rfl
    have hcn : cnd s.1.1 (sbR s.1.2 (fun t => -(a * t + b))) 2 m = cnd s.1.1 s.1.2 2 m := cz_c (fun i => by rw [hdf i]) _
    have hR1 : cRd M1 1 s.1.1 (sbR s.1.2 (fun t => -(a * t + b))) := hS1.1
    have bv := vND hS.1.ok hn (m := m) h1 (by omega) (w := 0) ⟨by decide, by decide⟩
    have rV : r64 (if vD s.1.1 s.1.2 0 m = 0 then (-1000000001) else (vN s.1.1 s.1.2 0 m : Int)) := by
      split
      · exact ⟨by decide, by decide⟩
      · exact ⟨by omega, by omega⟩
    generalize sbR s.1.2 (fun t => -(a * t + b)) = f1 at *
    generalize sbN s.1.2 (fun t => -(a * t + b)) s.1.1 = r at *
    have hS1 : CS (zChg s (s.1.1, f1)) M1 := hS1
    refine v_lw_isLine_33 hG ⟨fun _ => ?_, fun z => absurd ?_ z⟩
    · refine C_dif2 hG hR1 h1 (by omega) iL0 (by omega) (by omega) ?_
      rw [hs1]
      refine v_lw_isLine_48 hG ⟨fun z => absurd rfl z, fun _ => ?_⟩
      refine C_cnt hG hR1 h1 (by omega) iL2 (by omega) ?_
      rw [hcn]
      refine v_lw_isLine_54 hG ⟨fun z => absurd rfl z, fun _ => ?_⟩
      refine C_var0 hG hR1 (w := 0) ⟨by decide, by decide⟩ h1 (by omega) iL0 rfl (fun M2 hF2 hR2 => ?_)
      rw [hv.1, hv.2]
      have hS2 := hS1.q hF2
      refine v_lw_isLine_61 hG ⟨fun z => absurd ((lgE rV rV).1.mpr rfl) z, fun _ => ?_⟩
      refine C_told1 hG (s := zChg s (s.1.1, f1)) hS2 ?_
      show P 79 68 [(0, .ref 0), (8, .int (iI s.1.1)), (9, .int l9)] [.int (iI (cz (fun j => decide (f1 j ≠ (-1000000001))) s.1.1)), .int (iI r)] M2 Q
      refine v_lw_isLine_68 hG ⟨fun z => absurd z ?_, fun _ => ⟨fun z => absurd z (by decide), fun _ => ?_⟩⟩
      · rw [iI_lt (by omega) (by omega) (by omega) (by omega)]
        exact Int.not_lt.mpr hle
      refine C_undo hG hS2 (fun M3 hF3 hS3 => ?_)
      rw [hu.1]
      have hR3 := hS3.1
      rw [hu.2] at hR3
      refine v_lw_isLine_77 hG ⟨fun z => absurd z ?_, fun _ => ⟨fun _ => ⟨by decide, hQ M3⟩, fun z => ?_⟩⟩
      · rw [iL0, iI_lt (by omega) (by omega) (by omega) (by omega)]
        omega
      · rw [iz0 (by omega) (by omega)] at z
        refine C_rdg hG hR3 iL0 (by omega) ?_
        rw [h9 (by omega)]
        exact v_lw_isLine_83 hG ⟨fun z => absurd rfl z, fun _ => ⟨by decide, hQ M3⟩⟩
    · rw [iL0, iI_le (by omega) (by omega) (by omega) (by omega)]
      exact hN.1
  · have e2 : tSub s (fun t => -(a * t + b)) = (-1000000005, s) := if_neg c
    rw [e2]
    exact v_lw_isLine_33 hG ⟨fun z => absurd (show (0 : Int32) ≤ iI (-1000000005) from z) (by decide), fun _ => ⟨fun z => absurd iLn1000000005.symm z, fun _ => ⟨by decide, hQ M1⟩⟩⟩
theorem L_isLine (hG : qGood Ls xs P) (hS : CS s M) {a b : Int} (ha : -20 ≤ a ∧ a ≤ 20) (hb : -100 ≤ b ∧ b ≤ 100) {m : Nat} (h1 : 1 ≤ m) (h2 : m ≤ 4) (hQ : ∀ M', Q (some (.int (1 : Int32))) M') : P 79 0 [(0, .ref 0), (1, .int (iI a)), (2, .int (iI b)), (3, .int (iI m))] [] M Q := by
  have hn := hS.1.2.1
  refine v_lw_isLine_0 hG ?_
  refine C_dif2 hG hS.1 h1 (by omega) iL0 (by omega) (by omega) ?_
  refine v_lw_isLine_5 hG ?_
  refine C_cnt hG hS.1 h1 (by omega) iL2 (by omega) ?_
  refine v_lw_isLine_10 hG ?_
  refine C_var0 hG hS.1 (w := 0) ⟨by decide, by decide⟩ h1 (by omega) iL0 rfl (fun M1 hF1 hR1 => ?_)
  have hS1 := hS.q hF1
  refine v_lw_isLine_16 hG ?_
  refine C_told0 hG hS1 ?_
  refine v_lw_isLine_20 hG ⟨fun z => ?_, fun z => ?_⟩
  · rw [iL0, iI_le (by omega) (by omega) (by omega) (by omega)] at z
    exact li_33 hG hS1 ha hb h1 h2 (fun q => by omega) hQ
  · rw [iL0, iI_le (by omega) (by omega) (by omega) (by omega)] at z
    refine C_rdg hG hS1.1 iL0 (by omega) ?_
    refine v_lw_isLine_26 hG ?_
    exact li_33 hG hS1 ha hb h1 h2 (fun _ => rfl) hQ
end LIN
