/-! load: how a text is read, and the class's loader -/
def chr (t : zRow) (p : Nat) : Int := if p < t.1 then t.2 p else -1
def ndz (t : zRow) : Nat → Int → Nat → Int × Nat
  | 0, v, p => (v, p)
  | c + 1, v, p => if 48 ≤ chr t p ∧ chr t p ≤ 57 then ndz t c (10 * v + (chr t p - 48)) (p + 1) else (v, p)
theorem ndz_s (t : zRow) (c : Nat) (v : Int) (p : Nat) : ndz t (c + 1) v p = if 48 ≤ chr t p ∧ chr t p ≤ 57 then ndz t c (10 * v + (chr t p - 48)) (p + 1) else (v, p) := rfl
def pNeg (t : zRow) (p : Nat) : Nat := if chr t p = 45 then p + 1 else p
def pPh (t : zRow) (p : Nat) : (Int × Int) ⊕ (Int × Nat) := if chr t p = 63 then .inr ((-1000000001), p + 1) else if 48 ≤ chr t (pNeg t p) ∧ chr t (pNeg t p) ≤ 57 then .inr (if chr t p = 45 then -(ndz t 5 0 (pNeg t p)).1 else (ndz t 5 0 (pNeg t p)).1, (ndz t 5 0 (pNeg t p)).2) else .inl (1, ((pNeg t p : Nat) : Int))
def pTi (t : zRow) (p : Nat) : (Int × Int) ⊕ (Int × Nat) := if chr t p = 42 then (if 48 ≤ chr t (p + 1) ∧ chr t (p + 1) ≤ 57 then (if 1 ≤ (ndz t 2 0 (p + 1)).1 ∧ (ndz t 2 0 (p + 1)).1 ≤ 64 then .inr (ndz t 2 0 (p + 1)) else .inl (2, ((p + 1 : Nat) : Int))) else .inl (1, ((p + 1 : Nat) : Int))) else .inr (1, p)
def pEn (t : zRow) (k p : Nat) (ph ti : Int) (r : Nat) : (Int × Int) ⊕ (Int × Int × Nat) := if chr t r = 59 then (if (k : Int) + ti ≤ 64 then .inr (ph, ti, r + 1) else .inl (3, ((p : Nat) : Int))) else .inl (1, ((r : Nat) : Int))
def pIt (t : zRow) (k p : Nat) : (Int × Int) ⊕ (Int × Int × Nat) := match pPh t p with
  | .inl e => .inl e
  | .inr a => match pTi t a.2 with
    | .inl e => .inl e
    | .inr b => pEn t k p a.1 b.1 b.2
def pLd (t : zRow) : Nat → Nat → Nat → (Nat → Int) → (Int × Int) ⊕ zRow
  | 0, _, k, f => .inr (k, f)
  | c + 1, p, k, f => if p < t.1 then (match pIt t k p with
    | .inl e => .inl e
    | .inr a => pLd t c a.2.2 (k + a.2.1.toNat) (fun j => if j < k then f j else a.1)) else .inr (k, f)
theorem pLd_s (t : zRow) (c p k : Nat) (f : Nat → Int) : pLd t (c + 1) p k f = if p < t.1 then (match pIt t k p with
    | .inl e => .inl e
    | .inr a => pLd t c a.2.2 (k + a.2.1.toNat) (fun j => if j < k then f j else a.1)) else .inr (k, f) := rfl
def zFa (s : zSt) (e : Int × Int) : zSt := (s.1, s.2.1, s.2.2.1, s.2.2.2.1, e)
def tLoad (s : zSt) : Int × zSt := match pLd s.2.2.2.1 120 0 0 (fun _ => (-1000000001)) with
  | .inl e => (-1000000003, zFa s e)
  | .inr r => ((r.1 : Int), zChg s r)
def tOK (t : zRow) : Prop := t.1 ≤ 120 ∧ ∀ j, j < t.1 → 32 ≤ t.2 j ∧ t.2 j ≤ 126
theorem cTx.tok {M : qMem} {t : zRow} (h : cTx M t) : tOK t := ⟨h.2.1, fun j hj => (h.2.2 j hj).2⟩
theorem mTx.tok {M : qMem} {t : zRow} (h : mTx M t) : tOK t := ⟨h.2.1, fun j hj => (h.2.2 j hj).2⟩
theorem chr_in {t : zRow} (h : tOK t) (p : Nat) : -1 ≤ chr t p ∧ chr t p ≤ 126 := by
  unfold chr
  split
  · have := h.2 p (by assumption)
    omega
  · omega
theorem ndz_p (t : zRow) : ∀ (c : Nat) (v : Int) (p : Nat), p ≤ (ndz t c v p).2 ∧ (ndz t c v p).2 ≤ p + c := by
  intro c
  induction c with
  | zero => intro v p; exact ⟨Nat.le_refl _, Nat.le_refl _⟩
  | succ c ih =>
    intro v p
    rw [ndz_s]
    split
    · have := ih (10 * v + (chr t p - 48)) (p + 1)
      omega
    · dsimp only
      omega
def bnz : Nat → Int → Int
  | 0, b => b
  | c + 1, b => bnz c (10 * b + 9)
theorem ndz_b (t : zRow) : ∀ (c : Nat) (v b : Int) (p : Nat), 0 ≤ v → v ≤ b → 0 ≤ (ndz t c v p).1 ∧ (ndz t c v p).1 ≤ bnz c b := by
  intro c
  induction c with
  | zero => intro v b p h1 h2; exact ⟨h1, h2⟩
  | succ c ih =>
    intro v b p h1 h2
    rw [ndz_s]
    unfold bnz
    split
    · exact ih _ _ _ (by omega) (by omega)
    · have h3 : ∀ (c : Nat) (b : Int), 0 ≤ b → b ≤ bnz c b := by
        intro c
        induction c with
        | zero => intro b _; exact Int.le_refl _
        | succ c ih => intro b hb; have := ih (10 * b + 9) (by omega); unfold bnz; omega
      have := h3 c (10 * b + 9) (by omega)
      dsimp only
      omega
theorem ndz5 (t : zRow) (p : Nat) : 0 ≤ (ndz t 5 0 p).1 ∧ (ndz t 5 0 p).1 ≤ 99999 := ndz_b t 5 0 0 p (by omega) (by omega)
theorem ndz2 (t : zRow) (p : Nat) : 0 ≤ (ndz t 2 0 p).1 ∧ (ndz t 2 0 p).1 ≤ 99 := ndz_b t 2 0 0 p (by omega) (by omega)
theorem pNeg_in (t : zRow) (p : Nat) : p ≤ pNeg t p ∧ pNeg t p ≤ p + 1 := by unfold pNeg; split <;> omega
theorem pPh_in {t : zRow} {p : Nat} {a : Int × Nat} (h : pPh t p = .inr a) : okv a.1 ∧ p ≤ a.2 ∧ a.2 ≤ p + 6 := by
  have h1 := pNeg_in t p
  have h2 := ndz_p t 5 0 (pNeg t p)
  have h3 := ndz5 t (pNeg t p)
  unfold pPh at h
  split at h
  · cases h
    exact ⟨Or.inl rfl, by dsimp only; omega, by dsimp only; omega⟩
  · split at h
    · cases h
      refine ⟨Or.inr ?_, by dsimp only; omega, by dsimp only; omega⟩
      dsimp only
      split <;> omega
    · cases h
theorem pTi_in {t : zRow} {p : Nat} {a : Int × Nat} (h : pTi t p = .inr a) : 1 ≤ a.1 ∧ a.1 ≤ 64 ∧ p ≤ a.2 ∧ a.2 ≤ p + 3 := by
  have h2 := ndz_p t 2 0 (p + 1)
  unfold pTi at h
  split at h
  · split at h
    · split at h
      · cases h
        omega
      · cases h
    · cases h
  · cases h
    dsimp only
    omega
def lFx (A B : List Nat) (M M' : qMem) : Prop := (∀ a, a ∉ A → a ≠ 33 → M'.1 a = M.1 a) ∧ ∀ j, j ∉ B → M'.1 33 j = M.1 33 j
theorem lFx.rf {A B : List Nat} {M : qMem} : lFx A B M M := ⟨fun _ _ _ => rfl, fun _ _ => rfl⟩
theorem lFx.tr {A B : List Nat} {M M1 M2 : qMem} (h : lFx A B M M1) (h2 : lFx A B M1 M2) : lFx A B M M2 := ⟨fun a ha hb => (h2.1 a ha hb).trans (h.1 a ha hb), fun j hj => (h2.2 j hj).trans (h.2 j hj)⟩
theorem lFx.up {A B A2 B2 : List Nat} {M M1 : qMem} (h : lFx A B M M1) (hA : ∀ a ∈ A, a ∈ A2) (hB : ∀ a ∈ B, a ∈ B2) : lFx A2 B2 M M1 := ⟨fun a ha hb => h.1 a (fun q => ha (hA a q)) hb, fun j hj => h.2 j (fun q => hj (hB j q))⟩
theorem lFx.p33 {A B : List Nat} {M : qMem} {j : Nat} {x : Int32} (h : j ∈ B) : lFx A B M (pI M 33 j x) := ⟨fun _ _ hb => pI_o hb, fun j' hj => pI_nj (fun e => hj (e ▸ h))⟩
theorem lFx.of {A B : List Nat} {M M' : qMem} (h : qFm A M M') (hA : 33 ∉ A) : lFx A B M M' := ⟨fun a ha _ => (h a ha).1, fun j _ => by rw [(h 33 hA).1]⟩
theorem cTx.l {A B : List Nat} {M M' : qMem} {t : zRow} (h : cTx M t) (hF : lFx A B M M') (h1 : 31 ∉ A) (h2 : 32 ∉ A) : cTx M' t := ⟨by rw [hF.1 31 h1 (by decide)]; exact h.1, h.2.1, fun j hj => by rw [hF.1 32 h2 (by decide)]; exact h.2.2 j hj⟩
section LC
variable {Ls : Nat} {xs : Nat → Int32} {P : qSem} {M : qMem} {Q : qPost} {s : zSt} {t : zRow} {p k : Nat} {f : Nat → Int}
theorem s_tx_at (hG : qGood Ls xs P) (hT : cTx M t) (hp : p ≤ 1000) (hQ : Q (some (.int (iI (chr t p)))) M) : P 41 0 [(0, .ref 31), (1, .int (iI p))] [] M Q := by
  obtain ⟨h1, h2, h3⟩ := hT
  refine v_tx_at_0 hG ?_
  simp (disch := omega) only [iI_add, iI_sub, iI_mul, iI_neg, iI_lt, iI_le, iI_eq, iI_cl, vp_iI, Classical.not_not, iLn1000000005, iLn1000000004, iLn1000000003, iLn1000000002, iLn1000000001, iLn99999, iLn9999, iLn2, iLn1, iL0, iL1, iL2, iL3, iL4, iL5, iL6, iL7, iL8, iL9, iL10, iL15, iL16, iL31, iL32, iL40, iL42, iL45, iL48, iL57, iL59, iL63, iL64, iL65, iL120, iL126, iL455, iL520, iL9999, iL99999, iN2, iN8, iN64, iN65, iN120, iN130, iN520, h1]
  refine ⟨fun c => by omega, fun c => ⟨fun c2 => ?_, fun c2 => ⟨fun c3 => ⟨by omega, ?_⟩, fun c3 => by omega⟩⟩⟩
  · refine q_i ?_ hQ
    unfold chr
    rw [if_neg (by omega)]
  · rw [show ((p : Nat) : Int).toNat = p by omega, (h3 p (by omega)).1]
    refine q_i ?_ hQ
    unfold chr
    rw [if_pos (by omega)]
theorem s_lo_isDigit (hG : qGood Ls xs P) {x : Int} (h1 : -1 ≤ x) (h2 : x ≤ 126) (hQ : Q (some (.int (iI (bZ (48 ≤ x ∧ x ≤ 57))))) M) : P 15 0 [(0, .int (iI x))] [] M Q := by
  refine v_lo_isDigit_0 hG ?_
  simp (disch := omega) only [iI_add, iI_sub, iI_mul, iI_neg, iI_lt, iI_le, iI_eq, iI_cl, vp_iI, Classical.not_not, iLn1000000005, iLn1000000004, iLn1000000003, iLn1000000002, iLn1000000001, iLn99999, iLn9999, iLn2, iLn1, iL0, iL1, iL2, iL3, iL4, iL5, iL6, iL7, iL8, iL9, iL10, iL15, iL16, iL31, iL32, iL40, iL42, iL45, iL48, iL57, iL59, iL63, iL64, iL65, iL120, iL126, iL455, iL520, iL9999, iL99999, iN2, iN8, iN64, iN65, iN120, iN130, iN520]
  exact ⟨fun c => q_b hQ (bZ_f (by omega)), fun c => ⟨fun c2 => q_b hQ (bZ_f (by omega)), fun c2 => q_b hQ (bZ_t (by omega))⟩⟩
theorem s_lo_refuses (hG : qGood Ls xs P) {k w : Int} (hQ : ∀ M', lFx [] [0, 1] M M' → M'.1 33 0 = iI k → M'.1 33 1 = iI w → Q (some (.int (iI 0))) M') : P 16 0 [(0, .ref 33), (1, .int (iI k)), (2, .int (iI w))] [] M Q := by
  refine v_lo_refuses_0 hG ⟨by decide, ?_⟩
  refine hQ _ ((lFx.p33 (by decide)).tr (lFx.p33 (by decide))) ?_ ?_
  · rw [pI_nj (by omega), pI_e]
  · rw [pI_e]
theorem s_lo_readNumber (hG : qGood Ls xs P) {c : Nat} (hT : cTx M t) (hp : p ≤ 500) (hc : c ≤ 5) (hP : M.1 33 2 = iI p) (hQ : ∀ M', lFx [] [2] M M' → M'.1 33 2 = iI (ndz t c 0 p).2 → Q (some (.int (iI (ndz t c 0 p).1))) M') : P 14 0 [(0, .ref 33), (1, .ref 31), (2, .int (iI c))] [] M Q := by
  refine v_lo_readNumber_0 hG ?_
  have key : ∀ (d i : Nat) (v : Int) (q : Nat) (M1 : qMem), i + d = c → q ≤ 500 + i → lFx [] [2] M M1 → M1.1 33 2 = iI q → ndz t d v q = ndz t c 0 p → P 14 4 [(0, .ref 33), (1, .ref 31), (2, .int (iI c)), (3, .int (iI v)), (4, .int (iI i))] [] M1 Q := by
    intro d
    induction d with
    | zero =>
      intro i v q M1 hi hq hF1 hP1 he
      rw [← he] at hQ
      refine v_lo_readNumber_4 hG ?_
      simp (disch := omega) only [iI_add, iI_sub, iI_mul, iI_neg, iI_lt, iI_le, iI_eq, iI_cl, vp_iI, Classical.not_not, iLn1000000005, iLn1000000004, iLn1000000003, iLn1000000002, iLn1000000001, iLn99999, iLn9999, iLn2, iLn1, iL0, iL1, iL2, iL3, iL4, iL5, iL6, iL7, iL8, iL9, iL10, iL15, iL16, iL31, iL32, iL40, iL42, iL45, iL48, iL57, iL59, iL63, iL64, iL65, iL120, iL126, iL455, iL520, iL9999, iL99999, iN2, iN8, iN64, iN65, iN120, iN130, iN520]
      exact ⟨fun _ => hQ M1 hF1 hP1, fun c => by omega⟩
    | succ d ih =>
      intro i v q M1 hi hq hF1 hP1 he
      have hT1 := hT.l hF1 (by decide) (by decide)
      have hx := chr_in hT.tok q
      rw [ndz_s] at he
      refine v_lo_readNumber_4 hG ?_
      rw [hP1]
      simp (disch := omega) only [iI_add, iI_sub, iI_mul, iI_neg, iI_lt, iI_le, iI_eq, iI_cl, vp_iI, Classical.not_not, iLn1000000005, iLn1000000004, iLn1000000003, iLn1000000002, iLn1000000001, iLn99999, iLn9999, iLn2, iLn1, iL0, iL1, iL2, iL3, iL4, iL5, iL6, iL7, iL8, iL9, iL10, iL15, iL16, iL31, iL32, iL40, iL42, iL45, iL48, iL57, iL59, iL63, iL64, iL65, iL120, iL126, iL455, iL520, iL9999, iL99999, iN2, iN8, iN64, iN65, iN120, iN130, iN520]
      refine ⟨fun c => by omega, fun c => ?_⟩
      refine s_tx_at hG hT1 (by omega) ?_
      refine v_lo_readNumber_11 hG ?_
      refine s_lo_isDigit hG hx.1 hx.2 ?_
      refine v_lo_readNumber_12 hG ?_
      rw [hP1]
      by_cases h : 48 ≤ chr t q ∧ chr t q ≤ 57
      · rw [bZ_t h]
        rw [if_pos h] at he
        refine ⟨fun c => absurd c (by decide), fun _ => ?_⟩
        refine s_tx_at hG hT1 (by omega) ?_
        refine v_lo_readNumber_20 hG ?_
        rw [hP1]
        simp (disch := omega) only [iI_add, iI_sub, iI_mul, iI_neg, iI_lt, iI_le, iI_eq, iI_cl, vp_iI, Classical.not_not, iLn1000000005, iLn1000000004, iLn1000000003, iLn1000000002, iLn1000000001, iLn99999, iLn9999, iLn2, iLn1, iL0, iL1, iL2, iL3, iL4, iL5, iL6, iL7, iL8, iL9, iL10, iL15, iL16, iL31, iL32, iL40, iL42, iL45, iL48, iL57, iL59, iL63, iL64, iL65, iL120, iL126, iL455, iL520, iL9999, iL99999, iN2, iN8, iN64, iN65, iN120, iN130, iN520]
        exact ih (i + 1) _ (q + 1) _ (by omega) (by omega) (hF1.tr (lFx.p33 (by decide))) (by rw [pI_e]; rfl) he
      · rw [bZ_f h]
        rw [if_neg h] at he
        rw [← he] at hQ
        exact ⟨fun _ => hQ M1 hF1 hP1, fun c => absurd rfl c⟩
  simp (disch := omega) only [iI_add, iI_sub, iI_mul, iI_neg, iI_lt, iI_le, iI_eq, iI_cl, vp_iI, Classical.not_not, iLn1000000005, iLn1000000004, iLn1000000003, iLn1000000002, iLn1000000001, iLn99999, iLn9999, iLn2, iLn1, iL0, iL1, iL2, iL3, iL4, iL5, iL6, iL7, iL8, iL9, iL10, iL15, iL16, iL31, iL32, iL40, iL42, iL45, iL48, iL57, iL59, iL63, iL64, iL65, iL120, iL126, iL455, iL520, iL9999, iL99999, iN2, iN8, iN64, iN65, iN120, iN130, iN520]
  exact key c 0 0 p M (by omega) (by omega) lFx.rf hP rfl
theorem s_lo_readsPhase (hG : qGood Ls xs P) (hT : cTx M t) (hp : p ≤ 300) (hP : M.1 33 2 = iI p)
    (hE : ∀ e M', pPh t p = .inl e → lFx [] [0, 1, 2, 3] M M' → M'.1 33 0 = iI e.1 → M'.1 33 1 = iI e.2 → Q (some (.int (iI 0))) M')
    (hO : ∀ a M', pPh t p = .inr a → lFx [] [2, 3] M M' → M'.1 33 3 = iI a.1 → M'.1 33 2 = iI a.2 → Q (some (.int (iI 1))) M') : P 12 0 [(0, .ref 33), (1, .ref 31)] [] M Q := by
  have hx := chr_in hT.tok p
  have hng := pNeg_in t p
  have hF0 : lFx [] [2, 3] M (pI M 33 3 (-1000000001 : Int32)) := lFx.p33 (by decide)
  have hP0 : (pI M 33 3 (-1000000001 : Int32)).1 33 2 = iI p := by rw [pI_nj (by omega)]; exact hP
  have tail : ∀ (M1 : qMem) (b : Int), b = (if chr t p = 45 then 1 else 0) → chr t p ≠ 63 → lFx [] [2, 3] M M1 → M1.1 33 2 = iI (pNeg t p : Nat) → P 41 0 [(0, .ref 31), (1, .int (iI (pNeg t p : Nat)))] [] M1 (fun v M' => P 12 39 [(0, .ref 33), (1, .ref 31), (2, .int (iI b))] (v.toList ++ []) M' Q) := by
    intro M1 b hb h63 hF1 hP1
    have hT1 := hT.l hF1 (by decide) (by decide)
    have hy := chr_in hT.tok (pNeg t p)
    unfold pPh at hE hO
    simp only [if_neg h63] at hE hO
    refine s_tx_at hG hT1 (by omega) ?_
    refine v_lo_readsPhase_39 hG ?_
    refine s_lo_isDigit hG hy.1 hy.2 ?_
    refine v_lo_readsPhase_40 hG ?_
    by_cases hd : 48 ≤ chr t (pNeg t p) ∧ chr t (pNeg t p) ≤ 57
    · rw [bZ_t hd]
      simp only [if_pos hd] at hO
      refine ⟨fun _ => ?_, fun c => absurd (show ¬ iI 1 = 0 by decide) c⟩
      refine s_lo_readNumber (c := 5) hG hT1 (by omega) (by omega) hP1 (fun M2 hF2 hP2 => ?_)
      refine v_lo_readsPhase_51 hG ?_
      have hF2' : lFx [] [2, 3] M M2 := hF1.tr (hF2.up (by decide) (by decide))
      have hv := hO _ (pI M2 33 3 (iI (if chr t p = 45 then -(ndz t 5 0 (pNeg t p)).1 else (ndz t 5 0 (pNeg t p)).1))) rfl (hF2'.tr (lFx.p33 (by decide))) pI_e (by rw [pI_nj (by omega)]; exact hP2)
      by_cases h45 : chr t p = 45
      · rw [if_pos h45] at hb hv
        subst hb
        simp (disch := omega) only [iI_add, iI_sub, iI_mul, iI_neg, iI_lt, iI_le, iI_eq, iI_cl, vp_iI, Classical.not_not, iLn1000000005, iLn1000000004, iLn1000000003, iLn1000000002, iLn1000000001, iLn99999, iLn9999, iLn2, iLn1, iL0, iL1, iL2, iL3, iL4, iL5, iL6, iL7, iL8, iL9, iL10, iL15, iL16, iL31, iL32, iL40, iL42, iL45, iL48, iL57, iL59, iL63, iL64, iL65, iL120, iL126, iL455, iL520, iL9999, iL99999, iN2, iN8, iN64, iN65, iN120, iN130, iN520]
        exact ⟨fun c => by omega, fun _ => ⟨by decide, hv⟩⟩
      · rw [if_neg h45] at hb hv
        subst hb
        simp (disch := omega) only [iI_add, iI_sub, iI_mul, iI_neg, iI_lt, iI_le, iI_eq, iI_cl, vp_iI, Classical.not_not, iLn1000000005, iLn1000000004, iLn1000000003, iLn1000000002, iLn1000000001, iLn99999, iLn9999, iLn2, iLn1, iL0, iL1, iL2, iL3, iL4, iL5, iL6, iL7, iL8, iL9, iL10, iL15, iL16, iL31, iL32, iL40, iL42, iL45, iL48, iL57, iL59, iL63, iL64, iL65, iL120, iL126, iL455, iL520, iL9999, iL99999, iN2, iN8, iN64, iN65, iN120, iN130, iN520]
        exact ⟨fun _ => ⟨by decide, hv⟩, fun c => absurd trivial c⟩
    · rw [bZ_f hd]
      simp only [if_neg hd] at hE
      refine ⟨fun c => absurd (show iI 0 = 0 by decide) c, fun _ => ?_⟩
      rw [hP1, iL1]
      refine s_lo_refuses hG (fun M2 hF2 e1 e2 => ?_)
      exact v_lo_readsPhase_46 hG ⟨by decide, hE _ M2 rfl ((hF1.up (by decide) (by decide)).tr (hF2.up (by decide) (by decide))) e1 e2⟩
  refine v_lo_readsPhase_0 hG ?_
  rw [hP]
  refine s_tx_at hG (hT.l hF0 (by decide) (by decide)) (by omega) ?_
  refine v_lo_readsPhase_7 hG ?_
  rw [hP0]
  by_cases h63 : chr t p = 63
  · unfold pPh at hO
    simp only [if_pos h63] at hO
    rw [h63]
    refine ⟨fun c => absurd (show iI 63 = 63 by decide) c, fun _ => ⟨by decide, ?_⟩⟩
    rw [iL1, iI_add]
    exact hO _ _ rfl (hF0.tr (lFx.p33 (by decide))) (by rw [pI_nj (by omega), pI_e]; show (-1000000001 : Int32) = iI (-1000000001); decide) (by rw [pI_e]; rfl)
  · simp (disch := omega) only [iI_add, iI_sub, iI_mul, iI_neg, iI_lt, iI_le, iI_eq, iI_cl, vp_iI, Classical.not_not, iLn1000000005, iLn1000000004, iLn1000000003, iLn1000000002, iLn1000000001, iLn99999, iLn9999, iLn2, iLn1, iL0, iL1, iL2, iL3, iL4, iL5, iL6, iL7, iL8, iL9, iL10, iL15, iL16, iL31, iL32, iL40, iL42, iL45, iL48, iL57, iL59, iL63, iL64, iL65, iL120, iL126, iL455, iL520, iL9999, iL99999, iN2, iN8, iN64, iN65, iN120, iN130, iN520]
    refine ⟨fun _ => ?_, fun c => absurd c h63⟩
    have hT0 := hT.l hF0 (by decide) (by decide)
    rw [iLn1000000001] at hP0 hF0 hT0
    refine s_tx_at hG hT0 (by omega) ?_
    refine v_lo_readsPhase_21 hG ?_
    rw [hP0]
    by_cases h45 : chr t p = 45
    · have e : pNeg t p = p + 1 := by unfold pNeg; rw [if_pos h45]
      have hk := tail (pI (pI M 33 3 (iI (-1000000001))) 33 2 (iI (p + 1))) 1 (by rw [if_pos h45]) h63 (hF0.tr (lFx.p33 (by decide))) (by rw [pI_e, e]; rfl)
      rw [e] at hk
      rw [h45]
      simp (disch := omega) only [iI_add, iI_sub, iI_mul, iI_neg, iI_lt, iI_le, iI_eq, iI_cl, vp_iI, Classical.not_not, iLn1000000005, iLn1000000004, iLn1000000003, iLn1000000002, iLn1000000001, iLn99999, iLn9999, iLn2, iLn1, iL0, iL1, iL2, iL3, iL4, iL5, iL6, iL7, iL8, iL9, iL10, iL15, iL16, iL31, iL32, iL40, iL42, iL45, iL48, iL57, iL59, iL63, iL64, iL65, iL120, iL126, iL455, iL520, iL9999, iL99999, iN2, iN8, iN64, iN65, iN120, iN130, iN520]
      exact ⟨fun c => absurd trivial c, fun _ => ⟨fun c => by omega, fun _ => hk⟩⟩
    · have e : pNeg t p = p := by unfold pNeg; rw [if_neg h45]
      have hk := tail (pI M 33 3 (iI (-1000000001))) 0 (by rw [if_neg h45]) h63 hF0 (by rw [hP0, e])
      rw [e] at hk
      simp (disch := omega) only [iI_add, iI_sub, iI_mul, iI_neg, iI_lt, iI_le, iI_eq, iI_cl, vp_iI, Classical.not_not, iLn1000000005, iLn1000000004, iLn1000000003, iLn1000000002, iLn1000000001, iLn99999, iLn9999, iLn2, iLn1, iL0, iL1, iL2, iL3, iL4, iL5, iL6, iL7, iL8, iL9, iL10, iL15, iL16, iL31, iL32, iL40, iL42, iL45, iL48, iL57, iL59, iL63, iL64, iL65, iL120, iL126, iL455, iL520, iL9999, iL99999, iN2, iN8, iN64, iN65, iN120, iN130, iN520]
      exact ⟨fun _ => ⟨fun _ => hk, fun c => absurd trivial c⟩, fun c => absurd c h45⟩
theorem s_lo_readsTimes (hG : qGood Ls xs P) (hT : cTx M t) (hp : p ≤ 400) (hP : M.1 33 2 = iI p)
    (hE : ∀ e M', pTi t p = .inl e → lFx [] [0, 1, 2, 4] M M' → M'.1 33 0 = iI e.1 → M'.1 33 1 = iI e.2 → Q (some (.int (iI 0))) M')
    (hO : ∀ a M', pTi t p = .inr a → lFx [] [2, 4] M M' → M'.1 33 4 = iI a.1 → M'.1 33 2 = iI a.2 → Q (some (.int (iI 1))) M') : P 13 0 [(0, .ref 33), (1, .ref 31)] [] M Q := by
  have hx := chr_in hT.tok p
  have hF0 : lFx [] [2, 4] M (pI M 33 4 (1 : Int32)) := lFx.p33 (by decide)
  have hP0 : (pI M 33 4 (1 : Int32)).1 33 2 = iI p := by rw [pI_nj (by omega)]; exact hP
  have hT0 := hT.l hF0 (by decide) (by decide)
  refine v_lo_readsTimes_0 hG ?_
  rw [hP]
  refine s_tx_at hG hT0 (by omega) ?_
  refine v_lo_readsTimes_7 hG ?_
  rw [hP0]
  unfold pTi at hE hO
  by_cases h42 : chr t p = 42
  · simp only [if_pos h42] at hE hO
    rw [h42]
    refine ⟨fun _ => ?_, fun c => absurd (show iI 42 = 42 by decide) c⟩
    have hF1 : lFx [] [2, 4] M (pI (pI M 33 4 (1 : Int32)) 33 2 (iI p + 1)) := hF0.tr (lFx.p33 (by decide))
    have hP1 : (pI (pI M 33 4 (1 : Int32)) 33 2 (iI p + 1)).1 33 2 = iI (p + 1 : Nat) := by rw [pI_e, iL1, iI_add]; rfl
    have hT1 := hT.l hF1 (by decide) (by decide)
    have e1 : iI p + 1 = iI (p + 1 : Nat) := by rw [iL1, iI_add]; rfl
    generalize pI (pI M 33 4 (1 : Int32)) 33 2 (iI p + 1) = M1 at *
    rw [e1]
    have hy := chr_in hT.tok (p + 1)
    refine s_tx_at hG hT1 (by omega) ?_
    refine v_lo_readsTimes_24 hG ?_
    refine s_lo_isDigit hG hy.1 hy.2 ?_
    refine v_lo_readsTimes_25 hG ?_
    by_cases hd : 48 ≤ chr t (p + 1) ∧ chr t (p + 1) ≤ 57
    · rw [bZ_t hd]
      simp only [if_pos hd] at hE hO
      refine ⟨fun _ => ?_, fun c => absurd (show ¬ iI 1 = 0 by decide) c⟩
      have hb := ndz2 t (p + 1)
      refine s_lo_readNumber (c := 2) hG hT1 (by omega) (by omega) hP1 (fun M2 hF2 hP2 => ?_)
      refine v_lo_readsTimes_37 hG ?_
      have hF2' : lFx [] [2, 4] M (pI M2 33 4 (iI (ndz t 2 0 (p + 1)).1)) := (hF1.tr (hF2.up (by decide) (by decide))).tr (lFx.p33 (by decide))
      by_cases hr : 1 ≤ (ndz t 2 0 (p + 1)).1 ∧ (ndz t 2 0 (p + 1)).1 ≤ 64
      · simp only [if_pos hr] at hO
        simp (disch := omega) only [iI_add, iI_sub, iI_mul, iI_neg, iI_lt, iI_le, iI_eq, iI_cl, vp_iI, Classical.not_not, iLn1000000005, iLn1000000004, iLn1000000003, iLn1000000002, iLn1000000001, iLn99999, iLn9999, iLn2, iLn1, iL0, iL1, iL2, iL3, iL4, iL5, iL6, iL7, iL8, iL9, iL10, iL15, iL16, iL31, iL32, iL40, iL42, iL45, iL48, iL57, iL59, iL63, iL64, iL65, iL120, iL126, iL455, iL520, iL9999, iL99999, iN2, iN8, iN64, iN65, iN120, iN130, iN520]
        refine ⟨fun c => by omega, fun c => ⟨fun c2 => ⟨by decide, ?_⟩, fun c2 => by omega⟩⟩
        exact hO _ _ rfl hF2' pI_e (by rw [pI_nj (by omega)]; exact hP2)
      · simp only [if_neg hr] at hE
        have hw : P 16 0 [(0, .ref 33), (1, .int (iI 2)), (2, .int (iI (p + 1 : Nat)))] [] (pI M2 33 4 (iI (ndz t 2 0 (p + 1)).1)) (fun v M' => P 13 50 [] (v.toList ++ []) M' Q) := by
          refine s_lo_refuses hG (fun M3 hF3 e1 e2 => ?_)
          exact v_lo_readsTimes_50 hG ⟨by decide, hE _ M3 rfl ((hF2'.up (by decide) (by decide)).tr (hF3.up (by decide) (by decide))) e1 e2⟩
        simp (disch := omega) only [iI_add, iI_sub, iI_mul, iI_neg, iI_lt, iI_le, iI_eq, iI_cl, vp_iI, Classical.not_not, iLn1000000005, iLn1000000004, iLn1000000003, iLn1000000002, iLn1000000001, iLn99999, iLn9999, iLn2, iLn1, iL0, iL1, iL2, iL3, iL4, iL5, iL6, iL7, iL8, iL9, iL10, iL15, iL16, iL31, iL32, iL40, iL42, iL45, iL48, iL57, iL59, iL63, iL64, iL65, iL120, iL126, iL455, iL520, iL9999, iL99999, iN2, iN8, iN64, iN65, iN120, iN130, iN520]
        exact ⟨fun c => hw, fun c => ⟨fun c2 => by omega, fun c2 => hw⟩⟩
    · rw [bZ_f hd]
      simp only [if_neg hd] at hE
      refine ⟨fun c => absurd (show iI 0 = 0 by decide) c, fun _ => ?_⟩
      rw [hP1, iL1]
      refine s_lo_refuses hG (fun M2 hF2 e1 e2 => ?_)
      exact v_lo_readsTimes_31 hG ⟨by decide, hE _ M2 rfl ((hF1.up (by decide) (by decide)).tr (hF2.up (by decide) (by decide))) e1 e2⟩
  · simp only [if_neg h42] at hO
    simp (disch := omega) only [iI_add, iI_sub, iI_mul, iI_neg, iI_lt, iI_le, iI_eq, iI_cl, vp_iI, Classical.not_not, iLn1000000005, iLn1000000004, iLn1000000003, iLn1000000002, iLn1000000001, iLn99999, iLn9999, iLn2, iLn1, iL0, iL1, iL2, iL3, iL4, iL5, iL6, iL7, iL8, iL9, iL10, iL15, iL16, iL31, iL32, iL40, iL42, iL45, iL48, iL57, iL59, iL63, iL64, iL65, iL120, iL126, iL455, iL520, iL9999, iL99999, iN2, iN8, iN64, iN65, iN120, iN130, iN520]
    refine ⟨fun c => absurd c h42, fun _ => ⟨by decide, ?_⟩⟩
    rw [iL1] at hF0 hP0
    exact hO _ _ rfl hF0 pI_e hP0
theorem s_lo_readsItem (hG : qGood Ls xs P) (hT : cTx M t) (hp : p ≤ 200) (hP : M.1 33 2 = iI p) (hR : cRd M 3 k f)
    (hE : ∀ e M', pIt t k p = .inl e → lFx [] [0, 1, 2, 3, 4] M M' → M'.1 33 0 = iI e.1 → M'.1 33 1 = iI e.2 → Q (some (.int (iI 0))) M')
    (hO : ∀ a M', pIt t k p = .inr a → lFx [3, 4] [2, 3, 4] M M' → M'.1 33 2 = iI a.2.2 → cRd M' 3 (k + a.2.1.toNat) (fun j => if j < k then f j else a.1) → Q (some (.int (iI 1))) M') : P 11 0 [(0, .ref 33), (1, .ref 31), (2, .ref 3)] [] M Q := by
  have hk := hR.2.1
  refine v_lo_readsItem_0 hG ?_
  rw [hP]
  refine s_lo_readsPhase hG hT (by omega) hP (fun e M1 he hF1 e1 e2 => ?_) (fun a M1 ha hF1 e1 e2 => ?_)
  · refine v_lo_readsItem_6 hG ⟨fun _ => ⟨by decide, ?_⟩, fun c => absurd (show iI 0 = 0 by decide) c⟩
    exact hE e M1 (by unfold pIt; rw [he]) (hF1.up (by decide) (by decide)) e1 e2
  have hai := pPh_in ha
  refine v_lo_readsItem_6 hG ⟨fun c => absurd c (by decide), fun _ => ?_⟩
  refine s_lo_readsTimes hG (hT.l hF1 (by decide) (by decide)) (by omega) e2 (fun e M2 he hF2 e3 e4 => ?_) (fun b M2 hb hF2 e3 e4 => ?_)
  · refine v_lo_readsItem_10 hG ⟨fun c => absurd (show iI 0 = 0 by decide) c, fun _ => ⟨by decide, ?_⟩⟩
    exact hE e M2 (by unfold pIt; rw [ha]; dsimp only; rw [he]) ((hF1.up (by decide) (by decide)).tr (hF2.up (by decide) (by decide))) e3 e4
  have hbi := pTi_in hb
  have hF12 : lFx [] [2, 3, 4] M M2 := (hF1.up (by decide) (by decide)).tr (hF2.up (by decide) (by decide))
  have hz := chr_in hT.tok b.2
  have hpi : pIt t k p = pEn t k p a.1 b.1 b.2 := by unfold pIt; rw [ha]; dsimp only; rw [hb]
  rw [hpi] at hE hO
  unfold pEn at hE hO
  refine v_lo_readsItem_10 hG ⟨fun _ => ?_, fun c => absurd (show ¬ iI 1 = 0 by decide) c⟩
  rw [e4]
  refine s_tx_at hG (hT.l hF12 (by decide) (by decide)) (by omega) ?_
  refine v_lo_readsItem_17 hG ?_
  rw [e4]
  by_cases h59 : chr t b.2 = 59
  · simp only [if_pos h59] at hE hO
    rw [h59]
    refine ⟨fun _ => ?_, fun c => absurd (show iI 59 = 59 by decide) c⟩
    have e1' : iI (b.2 : Nat) + 1 = iI (b.2 + 1 : Nat) := by rw [iL1, iI_add]; rfl
    rw [e1']
    have hF3 : lFx [] [2, 3, 4] M (pI M2 33 2 (iI (b.2 + 1 : Nat))) := hF12.tr (lFx.p33 (by decide))
    have hP3 : (pI M2 33 2 (iI (b.2 + 1 : Nat))).1 33 2 = iI (b.2 + 1 : Nat) := pI_e
    have h33 : (pI M2 33 2 (iI (b.2 + 1 : Nat))).1 33 3 = iI a.1 := by rw [pI_nj (by omega), hF2.2 3 (by decide)]; exact e1
    have h34 : (pI M2 33 2 (iI (b.2 + 1 : Nat))).1 33 4 = iI b.1 := by rw [pI_nj (by omega)]; exact e3
    generalize pI M2 33 2 (iI (b.2 + 1 : Nat)) = M3 at *
    have hR3 : cRd M3 3 k f := hR.f1 (hF3.1 3 (by decide) (by decide)) (hF3.1 (rf 3 0) (by decide) (by decide))
    refine s_rd_size hG q3Rd hR3 ?_
    refine v_lo_readsItem_33 hG ?_
    rw [h33, h34]
    have eb : b.1 = ((b.1.toNat : Nat) : Int) := by omega
    simp (disch := omega) only [iI_add, iI_sub, iI_mul, iI_neg, iI_lt, iI_le, iI_eq, iI_cl, vp_iI, Classical.not_not, iLn1000000005, iLn1000000004, iLn1000000003, iLn1000000002, iLn1000000001, iLn99999, iLn9999, iLn2, iLn1, iL0, iL1, iL2, iL3, iL4, iL5, iL6, iL7, iL8, iL9, iL10, iL15, iL16, iL31, iL32, iL40, iL42, iL45, iL48, iL57, iL59, iL63, iL64, iL65, iL120, iL126, iL455, iL520, iL9999, iL99999, iN2, iN8, iN64, iN65, iN120, iN130, iN520]
    refine ⟨fun c => ?_, fun c => ?_⟩
    · simp only [if_pos c] at hO
      rw [eb]
      refine s_rd_appendTimes hG q3Rd hR3 hai.1 (by omega) (fun M4 hR4 hF4 => ?_)
      refine v_lo_readsItem_49 hG ⟨by decide, ?_⟩
      exact hO _ M4 rfl ((hF3.up (by decide) (by decide)).tr (lFx.of hF4 (by decide))) (by rw [(hF4 33 (by decide)).1]; exact hP3) hR4
    · simp only [if_neg c] at hE
      refine s_lo_refuses hG (fun M4 hF4 e5 e6 => ?_)
      exact v_lo_readsItem_42 hG ⟨by decide, hE _ M4 rfl ((hF3.up (by decide) (by decide)).tr (hF4.up (by decide) (by decide))) e5 e6⟩
  · simp only [if_neg h59] at hE
    simp (disch := omega) only [iI_add, iI_sub, iI_mul, iI_neg, iI_lt, iI_le, iI_eq, iI_cl, vp_iI, Classical.not_not, iLn1000000005, iLn1000000004, iLn1000000003, iLn1000000002, iLn1000000001, iLn99999, iLn9999, iLn2, iLn1, iL0, iL1, iL2, iL3, iL4, iL5, iL6, iL7, iL8, iL9, iL10, iL15, iL16, iL31, iL32, iL40, iL42, iL45, iL48, iL57, iL59, iL63, iL64, iL65, iL120, iL126, iL455, iL520, iL9999, iL99999, iN2, iN8, iN64, iN65, iN120, iN130, iN520]
    refine ⟨fun c => absurd c h59, fun _ => ?_⟩
    refine s_lo_refuses hG (fun M4 hF4 e5 e6 => ?_)
    exact v_lo_readsItem_24 hG ⟨by decide, hE _ M4 rfl ((hF12.up (by decide) (by decide)).tr (hF4.up (by decide) (by decide))) e5 e6⟩
theorem pIt_in {a : Int × Int × Nat} (h : pIt t k p = .inr a) : okv a.1 ∧ 1 ≤ a.2.1 ∧ (k : Int) + a.2.1 ≤ 64 ∧ p + 1 ≤ a.2.2 ∧ a.2.2 ≤ p + 10 := by
  unfold pIt at h
  cases h1 : pPh t p with
  | inl e => rw [h1] at h; cases h
  | inr b =>
    rw [h1] at h
    dsimp only at h
    have hb := pPh_in h1
    cases h2 : pTi t b.2 with
    | inl e => rw [h2] at h; cases h
    | inr c =>
      rw [h2] at h
      dsimp only at h
      have hc := pTi_in h2
      unfold pEn at h
      split at h
      · split at h
        · cases h
          dsimp only
          exact ⟨hb.1, by omega, by omega, by omega, by omega⟩
        · cases h
      · cases h
theorem CS.ld {M' : qMem} (h : CS s M) (hF : lFx [3, 4] [2, 3, 4] M M') : CS s M' := by
  obtain ⟨h1, h2, h3, h4, h5⟩ := h
  exact ⟨h1.f1 (hF.1 1 (by decide) (by decide)) (hF.1 (rf 1 0) (by decide) (by decide)), h2.f (fun a ha => hF.1 a (by simp only [List.mem_cons, List.not_mem_nil, or_false, not_or]; omega) (by omega)), h3.f (fun a _ _ => hF.1 a (by simp only [List.mem_cons, List.not_mem_nil, or_false, not_or]; omega) (by omega)), h4.l hF (by decide) (by decide), ⟨by rw [hF.2 0 (by decide)]; exact h5.1, by rw [hF.2 1 (by decide)]; exact h5.2⟩⟩
theorem CS.lf {M' : qMem} {e : Int × Int} (h : CS s M) (hF : lFx [3, 4] [0, 1, 2, 3, 4] M M') (e1 : M'.1 33 0 = iI e.1) (e2 : M'.1 33 1 = iI e.2) : CS (zFa s e) M' := by
  obtain ⟨h1, h2, h3, h4, h5⟩ := h
  exact ⟨h1.f1 (hF.1 1 (by decide) (by decide)) (hF.1 (rf 1 0) (by decide) (by decide)), h2.f (fun a ha => hF.1 a (by simp only [List.mem_cons, List.not_mem_nil, or_false, not_or]; omega) (by omega)), h3.f (fun a _ _ => hF.1 a (by simp only [List.mem_cons, List.not_mem_nil, or_false, not_or]; omega) (by omega)), h4.l hF (by decide) (by decide), ⟨e1, e2⟩⟩
theorem lFx.c {A B : List Nat} {M' : qMem} (h : lFx [3, 4] B M M') : cFrm M M' := fun a ha => h.1 a (by simp only [List.mem_cons, List.not_mem_nil, or_false, not_or]; omega) (by omega)
theorem C_load (hG : qGood Ls xs P) (hS : CS s M) (hQ : ∀ M', cFrm M M' → CS (tLoad s).2 M' → Q (some (.int (iI (tLoad s).1))) M') : P 68 0 [(0, .ref 0)] [] M Q := by
  have ht := hS.2.2.2.1.2.1
  unfold tLoad at hQ
  refine v_sa_load_0 hG ?_
  refine v_lo_readsAll_0 hG ?_
  refine s_rd_empty (f := fun _ => (-1000000001)) hG q3Rd (fun M0 hR0 hF0 => ?_)
  refine v_lo_readsAll_2 hG ?_
  have fin : ∀ (M1 : qMem) (k : Nat) (f : Nat → Int), pLd s.2.2.2.1 120 0 0 (fun _ => (-1000000001)) = .inr (k, f) → lFx [3, 4] [2, 3, 4] M M1 → cRd M1 3 k f → P 68 7 [(0, .ref 0)] [.int (iI 1)] M1 Q := by
    intro M1 k f hl hF1 hR1
    rw [hl] at hQ
    refine v_sa_load_7 hG ⟨fun _ => ?_, fun c => absurd (show ¬ iI 1 = 0 by decide) c⟩
    refine C_rec hG (hS.ld hF1) (fun M2 hR2 hF2 hK => ?_)
    refine v_sa_load_15 hG ?_
    refine s_rd_copyFrom hG q1Rd q3Rd (by omega) (by decide) (hR1.fm hF2 (by decide) (by decide)) (fun M3 hR3 hF3 => ?_)
    refine v_sa_load_20 hG ?_
    refine s_rd_size hG q1Rd hR3 ?_
    refine v_sa_load_23 hG ?_
    obtain ⟨k1, k2⟩ := hK M3 (k, f) hF3 hR3
    exact hQ M3 (fun a ha => by rw [k1 a ha, hF1.c (A := []) a ha]) k2
  have key : ∀ (c i p k : Nat) (f : Nat → Int) (M1 : qMem), i + c = 120 → p ≤ 130 → lFx [3, 4] [2, 3, 4] M M1 → M1.1 33 2 = iI p → cRd M1 3 k f → pLd s.2.2.2.1 c p k f = pLd s.2.2.2.1 120 0 0 (fun _ => (-1000000001)) → P 10 7 [(0, .ref 33), (1, .ref 31), (2, .ref 3), (3, .int (iI i))] [] M1 (fun v M' => P 68 7 [(0, .ref 0)] (v.toList ++ []) M' Q) := by
    intro c
    induction c with
    | zero =>
      intro i p k f M1 hi hp hF1 hP1 hR1 hl
      refine v_lo_readsAll_7 hG ?_
      simp (disch := omega) only [iI_add, iI_sub, iI_mul, iI_neg, iI_lt, iI_le, iI_eq, iI_cl, vp_iI, Classical.not_not, iLn1000000005, iLn1000000004, iLn1000000003, iLn1000000002, iLn1000000001, iLn99999, iLn9999, iLn2, iLn1, iL0, iL1, iL2, iL3, iL4, iL5, iL6, iL7, iL8, iL9, iL10, iL15, iL16, iL31, iL32, iL40, iL42, iL45, iL48, iL57, iL59, iL63, iL64, iL65, iL120, iL126, iL455, iL520, iL9999, iL99999, iN2, iN8, iN64, iN65, iN120, iN130, iN520]
      exact ⟨fun _ => ⟨by decide, fin M1 k f hl.symm hF1 hR1⟩, fun c => by omega⟩
    | succ c ih =>
      intro i p k f M1 hi hp hF1 hP1 hR1 hl
      have hT1 := (hS.ld hF1).2.2.2.1
      rw [pLd_s] at hl
      refine v_lo_readsAll_7 hG ?_
      rw [hP1]
      simp (disch := omega) only [iI_add, iI_sub, iI_mul, iI_neg, iI_lt, iI_le, iI_eq, iI_cl, vp_iI, Classical.not_not, iLn1000000005, iLn1000000004, iLn1000000003, iLn1000000002, iLn1000000001, iLn99999, iLn9999, iLn2, iLn1, iL0, iL1, iL2, iL3, iL4, iL5, iL6, iL7, iL8, iL9, iL10, iL15, iL16, iL31, iL32, iL40, iL42, iL45, iL48, iL57, iL59, iL63, iL64, iL65, iL120, iL126, iL455, iL520, iL9999, iL99999, iN2, iN8, iN64, iN65, iN120, iN130, iN520]
      refine ⟨fun c => by omega, fun _ => ?_⟩
      refine v_tx_size_0 hG ?_
      rw [hT1.1]
      refine v_lo_readsAll_14 hG ?_
      simp (disch := omega) only [iI_add, iI_sub, iI_mul, iI_neg, iI_lt, iI_le, iI_eq, iI_cl, vp_iI, Classical.not_not, iLn1000000005, iLn1000000004, iLn1000000003, iLn1000000002, iLn1000000001, iLn99999, iLn9999, iLn2, iLn1, iL0, iL1, iL2, iL3, iL4, iL5, iL6, iL7, iL8, iL9, iL10, iL15, iL16, iL31, iL32, iL40, iL42, iL45, iL48, iL57, iL59, iL63, iL64, iL65, iL120, iL126, iL455, iL520, iL9999, iL99999, iN2, iN8, iN64, iN65, iN120, iN130, iN520]
      refine ⟨fun c2 => ?_, fun c2 => ?_⟩
      · rw [if_neg (by omega)] at hl
        exact ⟨by decide, fin M1 k f hl.symm hF1 hR1⟩
      · rw [if_pos (by omega)] at hl
        refine s_lo_readsItem hG hT1 (by omega) hP1 hR1 (fun e M2 he hF2 e1 e2 => ?_) (fun a M2 ha hF2 e1 hR2 => ?_)
        · rw [he] at hl
          rw [← hl] at hQ
          refine v_lo_readsAll_19 hG ⟨fun c => absurd (show iI 0 = 0 by decide) c, fun _ => ⟨by decide, ?_⟩⟩
          refine v_sa_load_7 hG ⟨fun c => absurd (show iI 0 = 0 by decide) c, fun _ => ?_⟩
          have hFF : lFx [3, 4] [0, 1, 2, 3, 4] M M2 := (hF1.up (by decide) (by decide)).tr (hF2.up (by decide) (by decide))
          exact hQ M2 (hFF.c (A := [])) (hS.lf hFF e1 e2)
        · have hin := pIt_in ha
          rw [ha] at hl
          refine v_lo_readsAll_19 hG ⟨fun _ => ?_, fun c => absurd (show ¬ iI 1 = 0 by decide) c⟩
          simp (disch := omega) only [iI_add, iI_sub, iI_mul, iI_neg, iI_lt, iI_le, iI_eq, iI_cl, vp_iI, Classical.not_not, iLn1000000005, iLn1000000004, iLn1000000003, iLn1000000002, iLn1000000001, iLn99999, iLn9999, iLn2, iLn1, iL0, iL1, iL2, iL3, iL4, iL5, iL6, iL7, iL8, iL9, iL10, iL15, iL16, iL31, iL32, iL40, iL42, iL45, iL48, iL57, iL59, iL63, iL64, iL65, iL120, iL126, iL455, iL520, iL9999, iL99999, iN2, iN8, iN64, iN65, iN120, iN130, iN520]
          exact ih (i + 1) a.2.2 _ _ M2 (by omega) (by omega) (hF1.tr hF2) e1 hR2 hl
  simp (disch := omega) only [iI_add, iI_sub, iI_mul, iI_neg, iI_lt, iI_le, iI_eq, iI_cl, vp_iI, Classical.not_not, iLn1000000005, iLn1000000004, iLn1000000003, iLn1000000002, iLn1000000001, iLn99999, iLn9999, iLn2, iLn1, iL0, iL1, iL2, iL3, iL4, iL5, iL6, iL7, iL8, iL9, iL10, iL15, iL16, iL31, iL32, iL40, iL42, iL45, iL48, iL57, iL59, iL63, iL64, iL65, iL120, iL126, iL455, iL520, iL9999, iL99999, iN2, iN8, iN64, iN65, iN120, iN130, iN520]
  exact key 120 0 0 0 _ _ (by omega) (by omega) ((lFx.of (hF0.up (by decide)) (by decide)).tr (lFx.p33 (by decide))) pI_e (hR0.f1 (pI_o (by decide)) (pI_o (by decide))) rfl
end LC
