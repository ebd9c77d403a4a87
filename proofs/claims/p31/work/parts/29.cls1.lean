/-! the changes, for both sides; the class's first half -/
def tAdd (s : zSt) (x : Int) : Int × zSt := if -99999 ≤ x ∧ x ≤ 99999 then (if s.1.1 = 64 then (-1000000004, s) else ((s.1.1 : Int), zChg s (s.1.1 + 1, fun j => if j = s.1.1 then x else s.1.2 j))) else (-1000000002, s)
def tSkip (s : zSt) (k : Int) : Int × zSt := if 1 ≤ k ∧ k ≤ 64 then (if 64 < s.1.1 + k then (-1000000004, s) else (s.1.1 + k, zChg s (s.1.1 + k.toNat, fun j => if j < s.1.1 then s.1.2 j else (-1000000001)))) else (-1000000002, s)
def tSet (s : zSt) (i x : Int) : Int × zSt := if (0 ≤ i ∧ i < s.1.1) ∧ (x = (-1000000001) ∨ (-99999 ≤ x ∧ x ≤ 99999)) then (s.1.2 i.toNat, zChg s (s.1.1, fun j => if j = i.toNat then x else s.1.2 j)) else (-1000000002, s)
def tClear (s : zSt) : Int × zSt := ((s.1.1 : Int), zChg s (0, s.1.2))
def tUndo (s : zSt) : Int × zSt := if s.2.1.1 = 0 then (-1000000003, s) else ((s.2.1.1 : Int) - 1, (s.2.1.2 (s.2.1.1 - 1), (s.2.1.1 - 1, s.2.1.2), s.2.2))
def thz (n e : Nat) : Nat → Nat → Nat
  | 0, _ => 0
  | c + 1, i => if i < n then thz n e c (i + e) + 1 else 0
def tThin (s : zSt) (e k : Int) : Int × zSt := if (1 ≤ e ∧ e ≤ 16) ∧ 0 ≤ k ∧ k < e then ((thz s.1.1 e.toNat 64 k.toNat : Int), zChg s (thz s.1.1 e.toNat 64 k.toNat, fun j => s.1.2 (k.toNat + e.toNat * j))) else (-1000000002, s)
def tOutl (s : zSt) (lim : Int) : Int × zSt := if 0 ≤ lim ∧ lim ≤ 99999 then (cz (otl s.1.1 s.1.2 lim) s.1.1, zChg s (s.1.1, fun j => if otl s.1.1 s.1.2 lim j = true then (-1000000001) else s.1.2 j)) else (-1000000002, s)
def zTx (s : zSt) (t : zRow) : zSt := (s.1, s.2.1, s.2.2.1, t, s.2.2.2.2)
def tWrite (s : zSt) (c : Int) : Int × zSt := if 32 ≤ c ∧ c ≤ 126 then (if s.2.2.2.1.1 = 120 then (-1000000004, s) else ((s.2.2.2.1.1 : Int) + 1, zTx s (s.2.2.2.1.1 + 1, fun j => if j = s.2.2.2.1.1 then c else s.2.2.2.1.2 j))) else (-1000000002, s)
def tWipe (s : zSt) : Int × zSt := ((s.2.2.2.1.1 : Int), zTx s (0, s.2.2.2.1.2))
def aFault (u : Int × Int) (w : Int) : Int := if w = 0 then u.1 else if w = 1 then u.2 else -1000000002
def zIm (s : zSt) (i : Nat) (r : zRow) : zSt := (s.1, s.2.1, (fun a => if a = i then some r else s.2.2.1 a), s.2.2.2)
def tKeep (s : zSt) (i : Int) : Int × zSt := if 0 ≤ i ∧ i ≤ 1 then ((s.1.1 : Int), zIm s i.toNat s.1) else (-1000000002, s)
def tBack (s : zSt) (i : Int) : Int × zSt := if 0 ≤ i ∧ i ≤ 1 then (match s.2.2.1 i.toNat with | none => (-1000000003, s) | some r => ((r.1 : Int), zChg s r)) else (-1000000002, s)
theorem thz_s (n e c i : Nat) : thz n e (c + 1) i = if i < n then thz n e c (i + e) + 1 else 0 := rfl
theorem cHi.f {M M' : qMem} {d : Nat} {h : Nat → zRow} (hH : cHi M d h) (hF : ∀ a, a = 6 ∨ (8 ≤ a ∧ a ≤ 23) → M'.1 a = M.1 a) : cHi M' d h := by
  obtain ⟨o, ho, hd, hO, hD, hA⟩ := hH
  refine ⟨o, ho, hd, by rw [hF 6 (by omega)]; exact hO, by rw [hF 6 (by omega)]; exact hD, fun a ha => (hA a ha).f1 (hF _ (by omega)) (hF _ ?_)⟩
  rw [(qd8 ((o + a) % 8) (by omega)).2.1]
  omega
theorem im2 : ∀ i, i < 2 → rf 24 i = 25 + 3 * i ∧ shT (25 + 3 * i) = 2 ∧ (shT (26 + 3 * i) = 4 ∧ shT (rf (26 + 3 * i) 0) = 100 ∧ shL (rf (26 + 3 * i) 0) = 64) ∧ rf (25 + 3 * i) 0 = 26 + 3 * i ∧ rf (26 + 3 * i) 0 = 27 + 3 * i := by decide
theorem cIm.f {M M' : qMem} {g : Nat → Option zRow} (h : cIm M g) (hF : ∀ a, 25 ≤ a → a ≤ 30 → M'.1 a = M.1 a) : cIm M' g := by
  intro i hi
  refine ⟨by rw [hF _ (by omega) (by omega)]; exact (h i hi).1, fun r hr => ((h i hi).2 r hr).f1 (hF _ (by omega) (by omega)) (hF _ ?_ ?_)⟩
  · rw [(im2 i hi).2.2.2.2]; omega
  · rw [(im2 i hi).2.2.2.2]; omega
theorem CS.chg {s : zSt} {M M' : qMem} {r : zRow} (h : CS s M) (hF : ∀ a, 24 ≤ a → a < 34 → M'.1 a = M.1 a) (hH : cHi M' (hpD s.2.1.1) (hpH s.2.1.1 s.2.1.2 s.1)) (hR : cRd M' 1 r.1 r.2) : CS (zChg s r) M' := by
  obtain ⟨_, _, h3, h4, h5⟩ := h
  refine ⟨hR, hH, h3.f (fun a h1 h2 => hF a (by omega) (by omega)), ⟨?_, h4.2.1, fun j hj => ?_⟩, ⟨?_, ?_⟩⟩
  · rw [hF 31 (by omega) (by omega)]; exact h4.1
  · rw [hF 32 (by omega) (by omega)]; exact h4.2.2 j hj
  · rw [hF 33 (by omega) (by omega)]; exact h5.1
  · rw [hF 33 (by omega) (by omega)]; exact h5.2
theorem CS.nx {s : zSt} {M M' : qMem} {A : List Nat} (h : CS s M) (hF : qFm A M M') (hA : A.all (fun a => decide (a = 3 ∨ a = 4 ∨ a = 5 ∨ a = 34 ∨ a = 35)) = true) : CS s M' := by
  have hf : ∀ a, a ≠ 3 → a ≠ 4 → a ≠ 5 → a ≠ 34 → a ≠ 35 → M'.1 a = M.1 a := fun a h1 h2 h3 h4 h5 => (hF a (fun q => by
    have e := List.all_eq_true.mp hA a q
    rw [decide_eq_true_eq] at e
    omega)).1
  obtain ⟨h1, h2, h3, h4, h5⟩ := h
  refine ⟨h1.f1 (hf 1 (by omega) (by omega) (by omega) (by omega) (by omega)) (hf 2 (by omega) (by omega) (by omega) (by omega) (by omega)), h2.f (fun a ha => hf a (by omega) (by omega) (by omega) (by omega) (by omega)), h3.f (fun a _ _ => hf a (by omega) (by omega) (by omega) (by omega) (by omega)), ⟨?_, h4.2.1, fun j hj => ?_⟩, ⟨?_, ?_⟩⟩
  · rw [hf 31 (by omega) (by omega) (by omega) (by omega) (by omega)]; exact h4.1
  · rw [hf 32 (by omega) (by omega) (by omega) (by omega) (by omega)]; exact h4.2.2 j hj
  · rw [hf 33 (by omega) (by omega) (by omega) (by omega) (by omega)]; exact h5.1
  · rw [hf 33 (by omega) (by omega) (by omega) (by omega) (by omega)]; exact h5.2
theorem not12 {a : Nat} (h1 : a ≠ 1) (h2 : a ≠ 2) : a ∉ [1, 2] := by
  simp only [List.mem_cons, List.not_mem_nil, or_false, not_or]
  exact ⟨h1, h2⟩
section CL1
variable {Ls : Nat} {xs : Nat → Int32} {P : qSem} {M : qMem} {Q : qPost} {s : zSt}
theorem C_rec (hG : qGood Ls xs P) (hS : CS s M) (hQ : ∀ M1, cRd M1 1 s.1.1 s.1.2 → qFm hiL M M1 → (∀ M2 (r : zRow), qFm [1, 2] M1 M2 → cRd M2 1 r.1 r.2 → cFrm M M2 ∧ CS (zChg s r) M2) → Q none M1) : P 7 0 [(0, .ref 6), (1, .ref 1)] [] M Q := by
  refine s_hi_record hG hS.1 hS.2.1 (fun M1 hF1 hH1 => hQ M1 (hS.1.fm hF1 (by decide) (by decide)) hF1 (fun M2 r hF2 hR2 => ⟨fun a ha => ?_, CS.chg hS (fun a h1 h2 => ?_) (hH1.f (fun a ha => ?_)) hR2⟩))
  · rw [(hF2 a (not12 (by omega) (by omega))).1, (hF1 a (hiL_no (by omega) (by omega))).1]
  · rw [(hF2 a (not12 (by omega) (by omega))).1, (hF1 a (hiL_no (by omega) (by omega))).1]
  · rw [(hF2 a (not12 (by omega) (by omega))).1]
theorem C_add (hG : qGood Ls xs P) {x : Int} (hS : CS s M) (hx : r32 x) (hQ : ∀ M', cFrm M M' → CS (tAdd s x).2 M' → Q (some (.int (iI (tAdd s x).1))) M') : P 34 0 [(0, .ref 0), (1, .int (iI x))] [] M Q := by
  obtain ⟨h1, h2⟩ := hx
  have hQ0 := hQ M cFrm.rf
  have hn := hS.1.2.1
  unfold tAdd at hQ hQ0
  refine v_sa_add_0 hG ?_
  rw [i2l h1 h2]
  refine s_sa_isPhase hG (by omega) (by omega) ?_
  refine v_sa_add_3 hG ?_
  have hz := bZ_in (-99999 ≤ x ∧ x ≤ 99999)
  simp (disch := omega) only [iI_add, iI_sub, iI_mul, iI_neg, iI_lt, iI_le, iI_eq, iI_cl, vp_iI, Classical.not_not, iLn1000000005, iLn1000000004, iLn1000000003, iLn1000000002, iLn1000000001, iLn99999, iLn9999, iLn2, iLn1, iL0, iL1, iL2, iL3, iL4, iL5, iL6, iL7, iL8, iL9, iL10, iL15, iL16, iL31, iL32, iL40, iL42, iL45, iL48, iL57, iL59, iL63, iL64, iL65, iL120, iL126, iL455, iL520, iL9999, iL99999, iN2, iN8, iN64, iN65, iN120, iN130, iN520, bZ_0]
  refine ⟨fun c => ?_, fun c => ?_⟩
  · simp only [if_pos c] at hQ hQ0
    refine s_rd_size hG q1Rd hS.1 ?_
    refine v_sa_add_9 hG ?_
    simp (disch := omega) only [iI_add, iI_sub, iI_mul, iI_neg, iI_lt, iI_le, iI_eq, iI_cl, vp_iI, Classical.not_not, iLn1000000005, iLn1000000004, iLn1000000003, iLn1000000002, iLn1000000001, iLn99999, iLn9999, iLn2, iLn1, iL0, iL1, iL2, iL3, iL4, iL5, iL6, iL7, iL8, iL9, iL10, iL15, iL16, iL31, iL32, iL40, iL42, iL45, iL48, iL57, iL59, iL63, iL64, iL65, iL120, iL126, iL455, iL520, iL9999, iL99999, iN2, iN8, iN64, iN65, iN120, iN130, iN520]
    refine ⟨fun c2 => ?_, fun c2 => ?_⟩
    · simp only [if_neg (show ¬ s.1.1 = 64 by omega)] at hQ
      refine C_rec hG hS (fun M1 hR1 hF1 hK => ?_)
      refine v_sa_add_18 hG ?_
      refine s_rd_append hG q1Rd hR1 (Or.inr c) (by omega) (fun M2 hR2 hF2 => ?_)
      refine v_sa_add_22 hG ?_
      refine s_rd_size hG q1Rd hR2 ?_
      refine v_sa_add_25 hG ?_
      simp (disch := omega) only [iI_add, iI_sub, iI_mul, iI_neg, iI_lt, iI_le, iI_eq, iI_cl, vp_iI, Classical.not_not, iLn1000000005, iLn1000000004, iLn1000000003, iLn1000000002, iLn1000000001, iLn99999, iLn9999, iLn2, iLn1, iL0, iL1, iL2, iL3, iL4, iL5, iL6, iL7, iL8, iL9, iL10, iL15, iL16, iL31, iL32, iL40, iL42, iL45, iL48, iL57, iL59, iL63, iL64, iL65, iL120, iL126, iL455, iL520, iL9999, iL99999, iN2, iN8, iN64, iN65, iN120, iN130, iN520]
      obtain ⟨k1, k2⟩ := hK M2 (_, _) hF2 hR2
      exact q_i (by omega) (hQ M2 k1 k2)
    · simp only [if_pos (show s.1.1 = 64 by omega)] at hQ0
      exact hQ0 hS
  · simp only [if_neg c] at hQ0
    exact hQ0 hS
theorem C_skip (hG : qGood Ls xs P) {x : Int} (hS : CS s M) (hx : r32 x) (hQ : ∀ M', cFrm M M' → CS (tSkip s x).2 M' → Q (some (.int (iI (tSkip s x).1))) M') : P 35 0 [(0, .ref 0), (1, .int (iI x))] [] M Q := by
  obtain ⟨h1, h2⟩ := hx
  have hQ0 := hQ M cFrm.rf
  have hn := hS.1.2.1
  unfold tSkip at hQ hQ0
  refine v_sa_skip_0 hG ?_
  simp (disch := omega) only [iI_add, iI_sub, iI_mul, iI_neg, iI_lt, iI_le, iI_eq, iI_cl, vp_iI, Classical.not_not, iLn1000000005, iLn1000000004, iLn1000000003, iLn1000000002, iLn1000000001, iLn99999, iLn9999, iLn2, iLn1, iL0, iL1, iL2, iL3, iL4, iL5, iL6, iL7, iL8, iL9, iL10, iL15, iL16, iL31, iL32, iL40, iL42, iL45, iL48, iL57, iL59, iL63, iL64, iL65, iL120, iL126, iL455, iL520, iL9999, iL99999, iN2, iN8, iN64, iN65, iN120, iN130, iN520]
  refine ⟨fun c => ?_, fun c => ⟨fun c2 => ?_, fun c2 => ?_⟩⟩
  · simp only [if_neg (show ¬ (1 ≤ x ∧ x ≤ 64) by omega)] at hQ0
    exact hQ0 hS
  · simp only [if_pos (show 1 ≤ x ∧ x ≤ 64 by omega)] at hQ hQ0
    refine s_rd_size hG q1Rd hS.1 ?_
    refine v_sa_skip_11 hG ?_
    simp (disch := omega) only [iI_add, iI_sub, iI_mul, iI_neg, iI_lt, iI_le, iI_eq, iI_cl, vp_iI, Classical.not_not, iLn1000000005, iLn1000000004, iLn1000000003, iLn1000000002, iLn1000000001, iLn99999, iLn9999, iLn2, iLn1, iL0, iL1, iL2, iL3, iL4, iL5, iL6, iL7, iL8, iL9, iL10, iL15, iL16, iL31, iL32, iL40, iL42, iL45, iL48, iL57, iL59, iL63, iL64, iL65, iL120, iL126, iL455, iL520, iL9999, iL99999, iN2, iN8, iN64, iN65, iN120, iN130, iN520]
    refine ⟨fun c3 => ?_, fun c3 => ?_⟩
    · simp only [if_neg (show ¬ 64 < s.1.1 + x by omega)] at hQ
      refine C_rec hG hS (fun M1 hR1 hF1 hK => ?_)
      have e : x = ((x.toNat : Nat) : Int) := by omega
      refine v_sa_skip_22 hG ?_
      rw [iLn1000000001, e]
      refine s_rd_appendTimes hG q1Rd hR1 (Or.inl rfl) (by omega) (fun M2 hR2 hF2 => ?_)
      refine v_sa_skip_27 hG ?_
      refine s_rd_size hG q1Rd hR2 ?_
      refine v_sa_skip_30 hG ?_
      obtain ⟨k1, k2⟩ := hK M2 (_, _) hF2 hR2
      exact q_i (by omega) (hQ M2 k1 k2)
    · simp only [if_pos (show 64 < s.1.1 + x by omega)] at hQ0
      exact hQ0 hS
  · simp only [if_neg (show ¬ (1 ≤ x ∧ x ≤ 64) by omega)] at hQ0
    exact hQ0 hS
theorem C_set (hG : qGood Ls xs P) {i x : Int} (hS : CS s M) (hi : r32 i) (hx : r32 x) (hQ : ∀ M', cFrm M M' → CS (tSet s i x).2 M' → Q (some (.int (iI (tSet s i x).1))) M') : P 36 0 [(0, .ref 0), (1, .int (iI i)), (2, .int (iI x))] [] M Q := by
  obtain ⟨h1, h2⟩ := hx
  obtain ⟨g1, g2⟩ := hi
  have hQ0 := hQ M cFrm.rf
  have hn := hS.1.2.1
  unfold tSet at hQ hQ0
  have tail : (0 ≤ i ∧ i < s.1.1) → (x = (-1000000001) ∨ (-99999 ≤ x ∧ x ≤ 99999)) → P 13 0 [(0, .ref 1), (1, .int (iI i))] [] M (fun v M' => P 36 18 [(0, .ref 0), (1, .int (iI i)), (2, .int (iI x))] (v.toList ++ []) M' Q) := by
    intro c1 c2
    simp only [if_pos (show (0 ≤ i ∧ i < s.1.1) ∧ (x = (-1000000001) ∨ (-99999 ≤ x ∧ x ≤ 99999)) from ⟨c1, c2⟩)] at hQ
    refine s_rd_at hG q1Rd hS.1 g1 g2 ?_
    refine v_sa_set_18 hG ?_
    refine C_rec hG hS (fun M1 hR1 hF1 hK => ?_)
    refine v_sa_set_24 hG ?_
    refine s_rd_put hG q1Rd hR1 c2 c1.1 c1.2 (fun M2 hR2 hF2 => ?_)
    obtain ⟨k1, k2⟩ := hK M2 (s.1.1, fun j => if j = i.toNat then x else s.1.2 j) hF2 hR2
    refine v_sa_set_29 hG (q_i ?_ (hQ M2 k1 k2))
    unfold vl
    rw [if_pos c1]
  refine v_sa_set_0 hG ?_
  refine s_rd_reaches hG q1Rd hS.1 g1 g2 ?_
  refine v_sa_set_4 hG ?_
  have hz := bZ_in (0 ≤ i ∧ i < s.1.1)
  rw [i2l h1 h2]
  simp (disch := omega) only [iI_add, iI_sub, iI_mul, iI_neg, iI_lt, iI_le, iI_eq, iI_cl, vp_iI, Classical.not_not, iLn1000000005, iLn1000000004, iLn1000000003, iLn1000000002, iLn1000000001, iLn99999, iLn9999, iLn2, iLn1, iL0, iL1, iL2, iL3, iL4, iL5, iL6, iL7, iL8, iL9, iL10, iL15, iL16, iL31, iL32, iL40, iL42, iL45, iL48, iL57, iL59, iL63, iL64, iL65, iL120, iL126, iL455, iL520, iL9999, iL99999, iN2, iN8, iN64, iN65, iN120, iN130, iN520, bZ_0]
  refine ⟨fun c => ?_, fun c => ⟨fun c2 => ?_, fun c2 => ?_⟩⟩
  · simp only [if_neg (show ¬ ((0 ≤ i ∧ i < s.1.1) ∧ (x = (-1000000001) ∨ (-99999 ≤ x ∧ x ≤ 99999))) from fun z => c z.1)] at hQ0
    exact hQ0 hS
  · exact tail c (Or.inl c2)
  · refine s_sa_isPhase hG (by omega) (by omega) ?_
    refine v_sa_set_11 hG ?_
    have hz2 := bZ_in (-99999 ≤ x ∧ x ≤ 99999)
    simp (disch := omega) only [iI_add, iI_sub, iI_mul, iI_neg, iI_lt, iI_le, iI_eq, iI_cl, vp_iI, Classical.not_not, iLn1000000005, iLn1000000004, iLn1000000003, iLn1000000002, iLn1000000001, iLn99999, iLn9999, iLn2, iLn1, iL0, iL1, iL2, iL3, iL4, iL5, iL6, iL7, iL8, iL9, iL10, iL15, iL16, iL31, iL32, iL40, iL42, iL45, iL48, iL57, iL59, iL63, iL64, iL65, iL120, iL126, iL455, iL520, iL9999, iL99999, iN2, iN8, iN64, iN65, iN120, iN130, iN520, bZ_0]
    refine ⟨fun c3 => tail c (Or.inr c3), fun c3 => ?_⟩
    simp only [if_neg (show ¬ ((0 ≤ i ∧ i < s.1.1) ∧ (x = (-1000000001) ∨ (-99999 ≤ x ∧ x ≤ 99999))) from fun z => z.2.elim c2 c3)] at hQ0
    exact hQ0 hS
theorem C_clear (hG : qGood Ls xs P) (hS : CS s M) (hQ : ∀ M', cFrm M M' → CS (tClear s).2 M' → Q (some (.int (iI (tClear s).1))) M') : P 37 0 [(0, .ref 0)] [] M Q := by
  refine v_sa_clear_0 hG ?_
  refine s_rd_size hG q1Rd hS.1 ?_
  refine v_sa_clear_3 hG ?_
  refine C_rec hG hS (fun M1 hR1 hF1 hK => ?_)
  refine v_sa_clear_9 hG ?_
  refine s_rd_empty (f := s.1.2) hG q1Rd (fun M2 hR2 hF2 => ?_)
  obtain ⟨k1, k2⟩ := hK M2 (_, _) (hF2.up (by simp)) hR2
  exact v_sa_clear_12 hG (hQ M2 k1 k2)
theorem C_undo (hG : qGood Ls xs P) (hS : CS s M) (hQ : ∀ M', cFrm M M' → CS (tUndo s).2 M' → Q (some (.int (iI (tUndo s).1))) M') : P 44 0 [(0, .ref 0)] [] M Q := by
  obtain ⟨h1, ⟨o, ho, hd, hO, hD, hA⟩, h3, h4, h5⟩ := id hS
  have hQ0 := hQ M cFrm.rf
  unfold tUndo at hQ hQ0
  refine v_sa_undo_0 hG ?_
  refine v_hi_depth_0 hG ?_
  rw [hD]
  refine v_sa_undo_3 hG ?_
  simp (disch := omega) only [iI_add, iI_sub, iI_mul, iI_neg, iI_lt, iI_le, iI_eq, iI_cl, vp_iI, Classical.not_not, iLn1000000005, iLn1000000004, iLn1000000003, iLn1000000002, iLn1000000001, iLn99999, iLn9999, iLn2, iLn1, iL0, iL1, iL2, iL3, iL4, iL5, iL6, iL7, iL8, iL9, iL10, iL15, iL16, iL31, iL32, iL40, iL42, iL45, iL48, iL57, iL59, iL63, iL64, iL65, iL120, iL126, iL455, iL520, iL9999, iL99999, iN2, iN8, iN64, iN65, iN120, iN130, iN520]
  refine ⟨fun c => ?_, fun c => ?_⟩
  · simp only [if_neg (show ¬ s.2.1.1 = 0 by omega)] at hQ
    refine v_hi_restore_0 hG ?_
    simp (disch := omega) only [iI_add, iI_sub, iI_mul, iI_neg, iI_lt, iI_le, iI_eq, iI_cl, vp_iI, Classical.not_not, iLn1000000005, iLn1000000004, iLn1000000003, iLn1000000002, iLn1000000001, iLn99999, iLn9999, iLn2, iLn1, iL0, iL1, iL2, iL3, iL4, iL5, iL6, iL7, iL8, iL9, iL10, iL15, iL16, iL31, iL32, iL40, iL42, iL45, iL48, iL57, iL59, iL63, iL64, iL65, iL120, iL126, iL455, iL520, iL9999, iL99999, iN2, iN8, iN64, iN65, iN120, iN130, iN520, hD]
    have ed : ((s.2.1.1 : Nat) : Int) - 1 = ((s.2.1.1 - 1 : Nat) : Int) := by omega
    rw [ed]
    have q8 := qd8 ((o + (s.2.1.1 - 1)) % 8) (by omega)
    refine s_hi_stateAt hG ho (by omega) hO ?_
    refine v_hi_restore_6 hG q8.1 ?_
    refine s_rd_copyFrom hG q1Rd q8.1 (by omega) (by rw [q8.2.1]; show _ ≠ 2; omega) (hA _ (by omega)) (fun M2 hR2 hF2 => ?_)
    have hF2' : qFm [1, 2] M M2 := hF2
    refine v_hi_restore_12 hG ?_
    refine v_sa_undo_11 hG ?_
    refine v_hi_depth_0 hG ?_
    rw [pI_e, (hF2' 6 (by decide)).1, hD]
    refine v_sa_undo_14 hG ?_
    simp (disch := omega) only [iI_add, iI_sub, iI_mul, iI_neg, iI_lt, iI_le, iI_eq, iI_cl, vp_iI, Classical.not_not, iLn1000000005, iLn1000000004, iLn1000000003, iLn1000000002, iLn1000000001, iLn99999, iLn9999, iLn2, iLn1, iL0, iL1, iL2, iL3, iL4, iL5, iL6, iL7, iL8, iL9, iL10, iL15, iL16, iL31, iL32, iL40, iL42, iL45, iL48, iL57, iL59, iL63, iL64, iL65, iL120, iL126, iL455, iL520, iL9999, iL99999, iN2, iN8, iN64, iN65, iN120, iN130, iN520]
    have fr : ∀ a, a ≠ 6 → a ≠ 1 → a ≠ 2 → (pI M2 6 2 (iI (s.2.1.1 - 1))).1 a = M.1 a := fun a e1 e2 e3 => by
      rw [pI_o e1, (hF2' a (not12 e2 e3)).1]
    refine hQ _ (fun a ha => fr a (by omega) (by omega) (by omega)) ⟨hR2.f1 (pI_o (by omega)) (pI_o (by decide)), ⟨o, ho, by dsimp only; omega, ?_, ?_, fun a ha => ?_⟩, h3.f (fun a _ _ => fr a (by omega) (by omega) (by omega)), ⟨?_, h4.2.1, fun j hj => ?_⟩, ⟨?_, ?_⟩⟩
    · rw [pI_nj (by omega), (hF2' 6 (by decide)).1]; exact hO
    · rw [pI_e, ed]
    · have ha' : a < s.2.1.1 - 1 := ha
      refine (hA a (by omega)).f1 (fr _ (by omega) (by omega) (by omega)) ?_
      rw [(qd8 ((o + a) % 8) (by omega)).2.1]
      exact fr _ (by omega) (by omega) (by omega)
    · rw [fr 31 (by omega) (by omega) (by omega)]; exact h4.1
    · rw [fr 32 (by omega) (by omega) (by omega)]; exact h4.2.2 j hj
    · rw [fr 33 (by omega) (by omega) (by omega)]; exact h5.1
    · rw [fr 33 (by omega) (by omega) (by omega)]; exact h5.2
  · simp only [if_pos (show s.2.1.1 = 0 by omega)] at hQ0
    exact hQ0 hS
theorem C_keep (hG : qGood Ls xs P) {i : Int} (hS : CS s M) (hi : r32 i) (hQ : ∀ M', cFrm M M' → CS (tKeep s i).2 M' → Q (some (.int (iI (tKeep s i).1))) M') : P 53 0 [(0, .ref 0), (1, .int (iI i))] [] M Q := by
  obtain ⟨g1, g2⟩ := hi
  obtain ⟨h1, h2, h3, h4, h5⟩ := id hS
  have hQ0 := hQ M cFrm.rf
  unfold tKeep at hQ hQ0
  refine v_sa_keep_0 hG ?_
  refine v_sa_imageAt_0 hG ?_
  simp (disch := omega) only [iI_add, iI_sub, iI_mul, iI_neg, iI_lt, iI_le, iI_eq, iI_cl, vp_iI, Classical.not_not, iLn1000000005, iLn1000000004, iLn1000000003, iLn1000000002, iLn1000000001, iLn99999, iLn9999, iLn2, iLn1, iL0, iL1, iL2, iL3, iL4, iL5, iL6, iL7, iL8, iL9, iL10, iL15, iL16, iL31, iL32, iL40, iL42, iL45, iL48, iL57, iL59, iL63, iL64, iL65, iL120, iL126, iL455, iL520, iL9999, iL99999, iN2, iN8, iN64, iN65, iN120, iN130, iN520]
  refine ⟨fun c => ?_, fun c => ⟨fun c2 => ⟨by omega, ?_⟩, fun c2 => ?_⟩⟩
  · simp only [if_neg (show ¬ (0 ≤ i ∧ i ≤ 1) by omega)] at hQ0
    exact v_sa_keep_3n hG (hQ0 hS)
  · simp only [if_pos (show 0 ≤ i ∧ i ≤ 1 by omega)] at hQ
    have hj : i.toNat < 2 := by omega
    generalize i.toNat = j at hj hQ
    obtain ⟨e1, e2, e3, e4, e5⟩ := im2 j hj
    rw [e1]
    refine v_sa_keep_3 hG ⟨e2, by rw [e4]; exact e3⟩ ?_
    rw [e4]
    refine s_rd_copyFrom hG e3 q1Rd (by omega) (by rw [e5]; show 2 ≠ _; omega) h1 (fun M2 hR2 hF2 => ?_)
    rw [e5] at hF2
    refine v_sa_keep_13 hG ⟨e2, by rw [e4]; exact e3⟩ ⟨by decide, ?_⟩
    have fr : ∀ a, a ≠ 25 + 3 * j → a ≠ 26 + 3 * j → a ≠ 27 + 3 * j → (pI M2 (25 + 3 * j) 1 (1 : Int32)).1 a = M.1 a := fun a q1 q2 q3 => by
      rw [pI_o q1, (hF2 a (by simp only [List.mem_cons, List.not_mem_nil, or_false, not_or]; exact ⟨q2, q3⟩)).1]
    have h1' : cRd (pI M2 (25 + 3 * j) 1 (1 : Int32)) 1 s.1.1 s.1.2 := h1.f1 (fr _ (by omega) (by omega) (by omega)) (by show (pI M2 (25 + 3 * j) 1 (1 : Int32)).1 2 = M.1 2; exact fr _ (by omega) (by omega) (by omega))
    refine s_rd_size hG q1Rd h1' ?_
    refine v_sa_keep_19 hG ?_
    refine hQ _ (fun a ha => fr a (by omega) (by omega) (by omega)) ⟨h1', h2.f (fun a ha => fr a (by omega) (by omega) (by omega)), fun a ha => ⟨?_, fun r hr => ?_⟩, ⟨?_, h4.2.1, fun j hj => ?_⟩, ⟨?_, ?_⟩⟩
    · show _ = iI (oB (if a = j then some s.1 else s.2.2.1 a))
      by_cases q : a = j
      · rw [if_pos q, q, pI_e]; rfl
      · rw [if_neg q, fr _ (by omega) (by omega) (by omega)]
        exact (h3 a ha).1
    · have hr' : (if a = j then some s.1 else s.2.2.1 a) = some r := hr
      by_cases q : a = j
      · rw [if_pos q] at hr'
        cases hr'
        rw [q]
        exact hR2.f1 (pI_o (by omega)) (pI_o (by rw [e5]; omega))
      · rw [if_neg q] at hr'
        refine ((h3 a ha).2 r hr').f1 (fr _ (by omega) (by omega) (by omega)) ?_
        rw [(im2 a ha).2.2.2.2]
        exact fr _ (by omega) (by omega) (by omega)
    · rw [fr 31 (by omega) (by omega) (by omega)]; exact h4.1
    · rw [fr 32 (by omega) (by omega) (by omega)]; exact h4.2.2 j hj
    · rw [fr 33 (by omega) (by omega) (by omega)]; exact h5.1
    · rw [fr 33 (by omega) (by omega) (by omega)]; exact h5.2
  · simp only [if_neg (show ¬ (0 ≤ i ∧ i ≤ 1) by omega)] at hQ0
    exact v_sa_keep_3n hG (hQ0 hS)
theorem C_back (hG : qGood Ls xs P) {i : Int} (hS : CS s M) (hi : r32 i) (hQ : ∀ M', cFrm M M' → CS (tBack s i).2 M' → Q (some (.int (iI (tBack s i).1))) M') : P 54 0 [(0, .ref 0), (1, .int (iI i))] [] M Q := by
  obtain ⟨g1, g2⟩ := hi
  obtain ⟨h1, h2, h3, h4, h5⟩ := id hS
  have hQ0 := hQ M cFrm.rf
  unfold tBack at hQ hQ0
  refine v_sa_back_0 hG ?_
  refine v_sa_imageAt_0 hG ?_
  simp (disch := omega) only [iI_add, iI_sub, iI_mul, iI_neg, iI_lt, iI_le, iI_eq, iI_cl, vp_iI, Classical.not_not, iLn1000000005, iLn1000000004, iLn1000000003, iLn1000000002, iLn1000000001, iLn99999, iLn9999, iLn2, iLn1, iL0, iL1, iL2, iL3, iL4, iL5, iL6, iL7, iL8, iL9, iL10, iL15, iL16, iL31, iL32, iL40, iL42, iL45, iL48, iL57, iL59, iL63, iL64, iL65, iL120, iL126, iL455, iL520, iL9999, iL99999, iN2, iN8, iN64, iN65, iN120, iN130, iN520]
  refine ⟨fun c => ?_, fun c => ⟨fun c2 => ⟨by omega, ?_⟩, fun c2 => ?_⟩⟩
  · simp only [if_neg (show ¬ (0 ≤ i ∧ i ≤ 1) by omega)] at hQ0
    exact v_sa_back_3n hG (hQ0 hS)
  · simp only [if_pos (show 0 ≤ i ∧ i ≤ 1 by omega)] at hQ hQ0
    have hj : i.toNat < 2 := by omega
    generalize i.toNat = j at hj hQ hQ0
    obtain ⟨e1, e2, e3, e4, e5⟩ := im2 j hj
    obtain ⟨u1, u2⟩ := h3 j hj
    rw [e1]
    refine v_sa_back_3 hG ⟨e2, by rw [e4]; exact e3⟩ ?_
    rw [u1]
    cases hg : s.2.2.1 j with
    | none =>
      rw [hg] at hQ0
      exact ⟨fun c => absurd (by decide) c, fun _ => hQ0 hS⟩
    | some r =>
      rw [hg] at hQ
      refine ⟨fun _ => ?_, fun c => absurd (show ¬ iI 1 = 0 by decide) c⟩
      have hr := u2 r hg
      refine C_rec hG hS (fun M1 hR1 hF1 hK => ?_)
      refine v_sa_back_18 hG ⟨e2, by rw [e4]; exact e3⟩ ?_
      rw [e4]
      refine s_rd_copyFrom hG q1Rd e3 (by omega) (by rw [e5]; show _ ≠ 2; omega) (hr.fm hF1 (hiL_no (by omega) (by omega)) (by rw [e5]; exact hiL_no (by omega) (by omega))) (fun M2 hR2 hF2 => ?_)
      refine v_sa_back_23 hG ?_
      refine s_rd_size hG q1Rd hR2 ?_
      refine v_sa_back_26 hG ?_
      obtain ⟨k1, k2⟩ := hK M2 r hF2 hR2
      exact hQ M2 k1 k2
  · simp only [if_neg (show ¬ (0 ≤ i ∧ i ≤ 1) by omega)] at hQ0
    exact v_sa_back_3n hG (hQ0 hS)
end CL1
