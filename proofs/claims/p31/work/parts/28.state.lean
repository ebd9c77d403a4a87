/-! the state on both sides, and how it is recorded -/
abbrev zRow : Type := Nat × (Nat → Int)
abbrev zSt : Type := zRow × (Nat × (Nat → zRow)) × (Nat → Option zRow) × zRow × Int × Int
def hpD (d : Nat) : Nat := if d = 8 then 8 else d + 1
def hpH (d : Nat) (h : Nat → zRow) (r : zRow) (a : Nat) : zRow := if d = 8 then (if a = 7 then r else h (a + 1)) else if a = d then r else h a
def zChg (s : zSt) (r : zRow) : zSt := (r, (hpD s.2.1.1, hpH s.2.1.1 s.2.1.2 s.1), s.2.2)
def cHi (M : qMem) (d : Nat) (h : Nat → zRow) : Prop := ∃ o, o < 8 ∧ d ≤ 8 ∧ M.1 6 1 = iI (o : Nat) ∧ M.1 6 2 = iI d ∧ ∀ a, a < d → cRd M (8 + 2 * ((o + a) % 8)) (h a).1 (h a).2
def oB (g : Option zRow) : Int := match g with | none => 0 | some _ => 1
def cIm (M : qMem) (g : Nat → Option zRow) : Prop := ∀ i, i < 2 → M.1 (25 + 3 * i) 1 = iI (oB (g i)) ∧ ∀ r, g i = some r → cRd M (26 + 3 * i) r.1 r.2
def cTx (M : qMem) (t : zRow) : Prop := M.1 31 1 = iI t.1 ∧ t.1 ≤ 120 ∧ ∀ j, j < t.1 → M.1 32 j = iI (t.2 j) ∧ 32 ≤ t.2 j ∧ t.2 j ≤ 126
def cFa (M : qMem) (u : Int × Int) : Prop := M.1 33 0 = iI u.1 ∧ M.1 33 1 = iI u.2
def CS (s : zSt) (M : qMem) : Prop := cRd M 1 s.1.1 s.1.2 ∧ cHi M s.2.1.1 s.2.1.2 ∧ cIm M s.2.2.1 ∧ cTx M s.2.2.2.1 ∧ cFa M s.2.2.2.2
/-- frames: the class's objects lie below 36 -/
def cFrm (M M' : qMem) : Prop := ∀ a, 36 ≤ a → M'.1 a = M.1 a
def mFrm (M M' : qMem) : Prop := ∀ a, a < 36 → M'.1 a = M.1 a
theorem cFrm.rf {M : qMem} : cFrm M M := fun _ _ => rfl
theorem mFrm.rf {M : qMem} : mFrm M M := fun _ _ => rfl
theorem cFrm.of {A : List Nat} {M M' : qMem} (h : qFm A M M') (hA : A.all (fun a => decide (a < 36)) = true) : cFrm M M' := fun a ha => (h a (fun q => by
  have e := List.all_eq_true.mp hA a q
  rw [decide_eq_true_eq] at e
  omega)).1
theorem cRd.f1 {k n : Nat} {f : Nat → Int} {M M' : qMem} (h : cRd M k n f) (h1 : M'.1 k = M.1 k) (h2 : M'.1 (rf k 0) = M.1 (rf k 0)) : cRd M' k n f := ⟨by rw [h1]; exact h.1, h.2.1, fun j hj => by rw [h2]; exact h.2.2 j hj⟩
theorem qd8 : ∀ s, s < 8 → (shT (8 + 2 * s) = 4 ∧ shT (rf (8 + 2 * s) 0) = 100 ∧ shL (rf (8 + 2 * s) 0) = 64) ∧ rf (8 + 2 * s) 0 = 9 + 2 * s ∧ rf 7 s = 8 + 2 * s := by decide
theorem CS.fr {s : zSt} {M M' : qMem} (h : CS s M) (hF : mFrm M M') : CS s M' := by
  obtain ⟨h1, ⟨o, ho, hd, hO, hD, hA⟩, h3, h4, h5⟩ := h
  refine ⟨h1.f1 (hF 1 (by omega)) (hF 2 (by omega)), ⟨o, ho, hd, ?_, ?_, fun a ha => (hA a ha).f1 (hF _ (by omega)) (hF _ ?_)⟩, fun i hi => ⟨?_, fun r hr => ((h3 i hi).2 r hr).f1 (hF _ (by omega)) (hF _ ?_)⟩, ⟨?_, h4.2.1, fun j hj => ?_⟩, ⟨?_, ?_⟩⟩
  · rw [hF 6 (by omega)]; exact hO
  · rw [hF 6 (by omega)]; exact hD
  · rw [(qd8 ((o + a) % 8) (by omega)).2.1]; omega
  · rw [hF _ (by omega)]; exact (h3 i hi).1
  · have : i = 0 ∨ i = 1 := by omega
    rcases this with e | e <;> subst e <;> decide
  · rw [hF 31 (by omega)]; exact h4.1
  · rw [hF 32 (by omega)]; exact h4.2.2 j hj
  · rw [hF 33 (by omega)]; exact h5.1
  · rw [hF 33 (by omega)]; exact h5.2
def hiL : List Nat := [6, 8, 9, 10, 11, 12, 13, 14, 15, 16, 17, 18, 19, 20, 21, 22, 23]
theorem hiL_in : ∀ s, s < 8 → (8 + 2 * s) ∈ hiL ∧ (9 + 2 * s) ∈ hiL := by decide
theorem hiL_no {a : Nat} (h : a ≠ 6) (h2 : a < 8 ∨ 23 < a) : a ∉ hiL := by
  intro q
  have e : hiL.all (fun a => decide (a = 6 ∨ (8 ≤ a ∧ a ≤ 23))) = true := by decide
  have e2 := List.all_eq_true.mp e a q
  rw [decide_eq_true_eq] at e2
  omega
section ST
variable {Ls : Nat} {xs : Nat → Int32} {P : qSem} {n d : Nat} {f : Nat → Int} {h : Nat → zRow} {M : qMem} {Q : qPost}
theorem s_hi_stateAt (hG : qGood Ls xs P) {o a : Nat} (ho : o < 8) (ha : a < 8) (hO : M.1 6 1 = iI o) (hQ : Q (some (.ref (8 + 2 * ((o + a) % 8)))) M) : P 9 0 [(0, .ref 6), (1, .int (iI a))] [] M Q := by
  refine v_hi_stateAt_0 hG ?_
  simp (disch := omega) only [iI_add, iI_sub, iI_mul, iI_neg, iI_lt, iI_le, iI_eq, iI_cl, vp_iI, Classical.not_not, iLn1000000005, iLn1000000004, iLn1000000003, iLn1000000002, iLn1000000001, iLn99999, iLn9999, iLn2, iLn1, iL0, iL1, iL2, iL3, iL4, iL5, iL6, iL7, iL8, iL9, iL10, iL15, iL16, iL31, iL32, iL40, iL42, iL45, iL48, iL57, iL59, iL63, iL64, iL65, iL120, iL126, iL455, iL520, iL9999, iL99999, iN2, iN8, iN64, iN65, iN120, iN130, iN520, hO, iI_div]
  have e : ((o : Int) + a - ((o : Int) + a) / 8 * 8).toNat = (o + a) % 8 := by omega
  rw [e, (qd8 ((o + a) % 8) (by omega)).2.2]
  exact ⟨by omega, fun c => by omega, fun c => ⟨fun c2 => by omega, fun c2 => ⟨fun c3 => ⟨by omega, hQ⟩, fun c3 => by omega⟩⟩⟩
theorem s_hi_record (hG : qGood Ls xs P) (hR : cRd M 1 n f) (hH : cHi M d h) (hQ : ∀ M', qFm hiL M M' → cHi M' (hpD d) (hpH d h (n, f)) → Q none M') : P 7 0 [(0, .ref 6), (1, .ref 1)] [] M Q := by
  obtain ⟨o, ho, hd, hO, hD, hA⟩ := hH
  have tail : ∀ (M1 : qMem) (o1 d1 : Nat) (h1 : Nat → zRow), o1 < 8 → d1 < 8 → M1.1 6 1 = iI o1 → M1.1 6 2 = iI d1 → (∀ a, a < d1 → cRd M1 (8 + 2 * ((o1 + a) % 8)) (h1 a).1 (h1 a).2) → qFm hiL M M1 → (∀ a, a < d1 → hpH d h (n, f) a = h1 a) → hpH d h (n, f) d1 = (n, f) → hpD d = d1 + 1 → P 9 0 [(0, .ref 6), (1, .int (iI d1))] [] M1 (fun v M' => P 7 22 [(0, .ref 6), (1, .ref 1)] (v.toList ++ []) M' Q) := by
    intro M1 o1 d1 h1 ho1 hd1 hO1 hD1 hA1 hF e1 e2 e3
    have q8 := qd8 ((o1 + d1) % 8) (by omega)
    have l8 := hiL_in ((o1 + d1) % 8) (by omega)
    refine s_hi_stateAt hG ho1 hd1 hO1 ?_
    refine v_hi_record_22 hG q8.1 ?_
    refine s_rd_copyFrom hG q8.1 q1Rd (by omega) (by rw [q8.2.1]; show 2 ≠ _; omega) (hR.fm hF (hiL_no (by omega) (by omega)) (hiL_no (by decide) (by decide))) (fun M2 hR2 hF2 => ?_)
    rw [q8.2.1] at hF2
    have n6 : (6 : Nat) ∉ [8 + 2 * ((o1 + d1) % 8), 9 + 2 * ((o1 + d1) % 8)] := by
      simp only [List.mem_cons, List.not_mem_nil, or_false, not_or]
      omega
    have hF2' : qFm hiL M1 M2 := hF2.up (by
      intro a ha
      simp only [List.mem_cons, List.not_mem_nil, or_false] at ha
      rcases ha with e | e
      · rw [e]; exact l8.1
      · rw [e]; exact l8.2)
    refine v_hi_record_28 hG ?_
    refine hQ _ ((hF.tr hF2').tr (qFm.pI (by decide))) ⟨o1, ho1, by omega, ?_, ?_, fun a ha => ?_⟩
    · rw [pI_nj (by omega), (hF2 6 n6).1]; exact hO1
    · rw [pI_e, (hF2 6 n6).1, hD1, e3]
      simp (disch := omega) only [iI_add, iI_sub, iI_mul, iI_neg, iI_lt, iI_le, iI_eq, iI_cl, vp_iI, Classical.not_not, iLn1000000005, iLn1000000004, iLn1000000003, iLn1000000002, iLn1000000001, iLn99999, iLn9999, iLn2, iLn1, iL0, iL1, iL2, iL3, iL4, iL5, iL6, iL7, iL8, iL9, iL10, iL15, iL16, iL31, iL32, iL40, iL42, iL45, iL48, iL57, iL59, iL63, iL64, iL65, iL120, iL126, iL455, iL520, iL9999, iL99999, iN2, iN8, iN64, iN65, iN120, iN130, iN520]
      congr 1
    · rw [e3] at ha
      refine cRd.f1 (M := M2) ?_ (pI_o (by omega)) (pI_o (by
        rw [(qd8 ((o1 + a) % 8) (by omega)).2.1]; omega))
      by_cases c : a = d1
      · subst c
        rw [e2]
        exact hR2
      · rw [e1 a (by omega)]
        refine (hA1 a (by omega)).fm hF2 ?_ ?_
        · simp only [List.mem_cons, List.not_mem_nil, or_false, not_or]
          omega
        · rw [(qd8 ((o1 + a) % 8) (by omega)).2.1]
          simp only [List.mem_cons, List.not_mem_nil, or_false, not_or]
          omega
  refine v_hi_record_0 hG ?_
  simp (disch := omega) only [iI_add, iI_sub, iI_mul, iI_neg, iI_lt, iI_le, iI_eq, iI_cl, vp_iI, Classical.not_not, iLn1000000005, iLn1000000004, iLn1000000003, iLn1000000002, iLn1000000001, iLn99999, iLn9999, iLn2, iLn1, iL0, iL1, iL2, iL3, iL4, iL5, iL6, iL7, iL8, iL9, iL10, iL15, iL16, iL31, iL32, iL40, iL42, iL45, iL48, iL57, iL59, iL63, iL64, iL65, iL120, iL126, iL455, iL520, iL9999, iL99999, iN2, iN8, iN64, iN65, iN120, iN130, iN520, hO, hD, iI_div]
  refine ⟨fun c => ?_, fun c => ⟨by omega, ?_⟩⟩
  · refine tail M o d h ho (by omega) hO hD hA qFm.rf (fun a ha => ?_) ?_ ?_
    · unfold hpH; rw [if_neg (by omega), if_neg (by omega)]
    · unfold hpH; rw [if_neg (by omega), if_pos rfl]
    · unfold hpD; rw [if_neg (by omega)]
  · have e : (d : Int) - 1 = ((7 : Nat) : Int) := by omega
    have e' : (o : Int) + 1 - ((o : Int) + 1) / 8 * 8 = (((o + 1) % 8 : Nat) : Int) := by omega
    have ed : d = 8 := by omega
    rw [e, e']
    subst ed
    refine tail _ ((o + 1) % 8) 7 (fun a => h (a + 1)) (by omega) (by omega) ?_ ?_ (fun a ha => ?_) ((qFm.pI (by decide)).tr (qFm.pI (by decide))) (fun a ha => ?_) rfl rfl
    · rw [pI_nj (by omega), pI_e]
    · rw [pI_e]
    · have q := hA (a + 1) (by omega)
      rw [show (o + (a + 1)) % 8 = ((o + 1) % 8 + a) % 8 by omega] at q
      exact q.f1 (by rw [pI_o (by omega), pI_o (by omega)]) (by
        rw [(qd8 (((o + 1) % 8 + a) % 8) (by omega)).2.1, pI_o (by omega), pI_o (by omega)])
    · unfold hpH; rw [if_pos rfl, if_neg (by omega)]
end ST
