/-! the reference's differences, counts, gaps, outliers -/
def mF42 (M M' : qMem) : Prop := (∀ a, a ≠ 42 → M'.1 a = M.1 a) ∧ M'.2 = M.2
theorem okS_le (g : Nat → Int) : ∀ (d j : Nat), okS g (j + d) = true → okS g j = true := by
  intro d
  induction d with
  | zero => intro j h; exact h
  | succ d ih =>
    intro j h
    refine ih j ?_
    rw [← Nat.add_assoc] at h
    unfold okS at h
    simp only [Bool.and_eq_true] at h
    exact h.1
theorem okS_at (g : Nat → Int) : ∀ (m j : Nat), okS g m = true → j < m → g j ≠ (-1000000001) := by
  intro m j h hj
  have h2 := okS_le g (m - (j + 1)) (j + 1) (by rw [show j + 1 + (m - (j + 1)) = m by omega]; exact h)
  unfold okS at h2
  simp only [Bool.and_eq_true, decide_eq_true_eq] at h2
  exact h2.2
theorem men_ne {n : Nat} {f : Nat → Int} (hf : ∀ j, j < n → okv (f j)) {m : Nat} (hm : m ≤ 31) (i : Int) : men n f m i ≠ (-1000000001) ↔ okS (fun j => sec n f m (i + j)) m = true := by
  unfold men
  split
  · rename_i h
    have h1 := smS_in (B := 399996) (fun j => sec_ok hf m (i + j)) m h
    constructor
    · intro _; exact h
    · intro _; omega
  · rename_i h
    constructor
    · intro q; exact absurd rfl q
    · intro q; exact absurd q h
theorem thr_ne {n : Nat} {f : Nat → Int} (hf : ∀ j, j < n → okv (f j)) {m : Int} {i : Int} : thr n f m i ≠ (-1000000001) ↔ (sec n f m i ≠ (-1000000001) ∧ vl n f (i + 3 * m) ≠ (-1000000001)) := by
  have h1 := vl_ok hf i
  have h2 := vl_ok hf (i + m)
  have h3 := vl_ok hf (i + 2 * m)
  have h4 := vl_ok hf (i + 3 * m)
  unfold okv at h1 h2 h3 h4
  unfold thr sec
  split <;> split <;> omega
def cnd (n : Nat) (f : Nat → Int) (o : Int) (m : Nat) : Int := cz (fun j => decide (dif n f o m j ≠ (-1000000001))) n
def wdz (n : Nat) (f : Nat → Int) : Nat → Int
  | 0 => 0
  | k + 1 => if 0 < cnd n f 2 (k + 1) then ((k + 1 : Nat) : Int) else wdz n f k
theorem wdz_in (n : Nat) (f : Nat → Int) : ∀ k : Nat, 0 ≤ wdz n f k ∧ wdz n f k ≤ k := by
  intro k
  induction k with
  | zero => unfold wdz; omega
  | succ k ih => unfold wdz; split <;> omega
theorem lsz_st (f : Nat → Int) (j : Nat) : lsz f (j + 1) = if f j ≠ (-1000000001) ∧ (lsz f j = (-1000000001) ∨ f j < lsz f j) then f j else lsz f j := rfl
theorem grz_st {n : Nat} {f : Nat → Int} (hf : ∀ j, j < n → okv (f j)) {j : Nat} (hj : j < n) : grz f (j + 1) = if f j ≠ (-1000000001) ∧ (grz f j = (-1000000001) ∨ grz f j < f j) then f j else grz f j := by
  have h1 := grz_ok hf j (by omega)
  have h2 := hf j hj
  unfold okv at h1 h2
  show (if grz f j < f j then f j else grz f j) = _
  split <;> split <;> omega
section MD2
variable {Ls : Nat} {xs : Nat → Int32} {P : qSem} {n : Nat} {f : Nat → Int} {M : qMem} {Q : qPost}
theorem s_md_exists (hG : qGood Ls xs P) {o : Int} {m : Nat} {i : Nat} (hX : mX M n f) (h1 : 2 ≤ o) (h1' : o ≤ 4) (h2 : m ≤ 31) (hi : i < n) (hQ : Q (some (.int (iI (bZ (dif n f o m i ≠ (-1000000001)))))) M) : P 119 0 [(0, .ref 36), (1, .int (iI o)), (2, .int (iI m)), (3, .int (iI i))] [] M Q := by
  have hn := hX.2.1
  have hd : dif n f o m i = (if o = 2 then sec n f m i else if o = 3 then thr n f m i else men n f m i) := by
    unfold dif
    rw [if_pos (by omega)]
  rw [hd] at hQ
  refine v_md_exists_0 hG ?_
  simp (disch := omega) only [iI_add, iI_sub, iI_mul, iI_neg, iI_lt, iI_le, iI_eq, iI_cl, vp_iI, Classical.not_not, iLn1000000005, iLn1000000004, iLn1000000003, iLn1000000002, iLn1000000001, iLn99999, iLn9999, iLn2, iLn1, iL0, iL1, iL2, iL3, iL4, iL5, iL6, iL7, iL8, iL9, iL10, iL15, iL16, iL31, iL32, iL40, iL42, iL45, iL48, iL57, iL59, iL63, iL64, iL65, iL120, iL126, iL455, iL520, iL9999, iL99999, iN2, iN8, iN64, iN65, iN120, iN130, iN520]
  refine ⟨fun c => ?_, fun c => ?_⟩
  · refine s_md_exists2 hG hX (by omega) (by omega) (by omega) (by omega) ?_
    refine v_md_exists_27 hG ?_
    have hz := bZ_in (sec n f m i ≠ (-1000000001))
    simp (disch := omega) only [iI_add, iI_sub, iI_mul, iI_neg, iI_lt, iI_le, iI_eq, iI_cl, vp_iI, Classical.not_not, iLn1000000005, iLn1000000004, iLn1000000003, iLn1000000002, iLn1000000001, iLn99999, iLn9999, iLn2, iLn1, iL0, iL1, iL2, iL3, iL4, iL5, iL6, iL7, iL8, iL9, iL10, iL15, iL16, iL31, iL32, iL40, iL42, iL45, iL48, iL57, iL59, iL63, iL64, iL65, iL120, iL126, iL455, iL520, iL9999, iL99999, iN2, iN8, iN64, iN65, iN120, iN130, iN520, bZ_0]
    refine ⟨fun c2 => q_b hQ (bZ_f ?_), fun c2 => ⟨fun c3 => q_b hQ (bZ_t ?_), fun c3 => ?_⟩⟩
    · rcases (show o = 2 ∨ o = 3 by omega) with e | e
      · rw [if_pos e]
        exact fun z => z c2
      · rw [if_neg (by omega), if_pos e, thr_ne hX.ok]
        exact fun z => z.1 c2
    · rw [if_pos c3]
      exact c2
    · refine s_md_isThere hG hX (by omega) (by omega) ?_
      refine v_md_exists_38 hG ?_
      have hz2 := bZ_in (vl n f ((i : Int) + 3 * m) ≠ (-1000000001))
      simp (disch := omega) only [iI_add, iI_sub, iI_mul, iI_neg, iI_lt, iI_le, iI_eq, iI_cl, vp_iI, Classical.not_not, iLn1000000005, iLn1000000004, iLn1000000003, iLn1000000002, iLn1000000001, iLn99999, iLn9999, iLn2, iLn1, iL0, iL1, iL2, iL3, iL4, iL5, iL6, iL7, iL8, iL9, iL10, iL15, iL16, iL31, iL32, iL40, iL42, iL45, iL48, iL57, iL59, iL63, iL64, iL65, iL120, iL126, iL455, iL520, iL9999, iL99999, iN2, iN8, iN64, iN65, iN120, iN130, iN520, bZ_0]
      rw [if_neg c3, if_pos (by omega)] at hQ
      refine ⟨fun c4 => q_b hQ (bZ_f ?_), fun c4 => q_b hQ (bZ_t ?_)⟩
      · rw [thr_ne hX.ok]
        exact fun z => z.2 c4
      · rw [thr_ne hX.ok]
        exact ⟨c2, c4⟩
  · rw [if_neg (by omega), if_neg (by omega)] at hQ
    have key : ∀ (d j : Nat), j + d = m → P 119 7 [(0, .ref 36), (2, .int (iI m)), (3, .int (iI i)), (4, .int (iI (bZ (okS (fun j => sec n f m ((i : Int) + j)) j = true)))), (5, .int (iI j))] [] M Q := by
      intro d
      induction d with
      | zero =>
        intro j hj
        have e : j = m := by omega
        subst e
        refine v_md_exists_7 hG ?_
        simp (disch := omega) only [iI_add, iI_sub, iI_mul, iI_neg, iI_lt, iI_le, iI_eq, iI_cl, vp_iI, Classical.not_not, iLn1000000005, iLn1000000004, iLn1000000003, iLn1000000002, iLn1000000001, iLn99999, iLn9999, iLn2, iLn1, iL0, iL1, iL2, iL3, iL4, iL5, iL6, iL7, iL8, iL9, iL10, iL15, iL16, iL31, iL32, iL40, iL42, iL45, iL48, iL57, iL59, iL63, iL64, iL65, iL120, iL126, iL455, iL520, iL9999, iL99999, iN2, iN8, iN64, iN65, iN120, iN130, iN520]
        refine ⟨fun _ => q_b hQ ?_, fun c2 => by omega⟩
        unfold bZ
        simp only [men_ne hX.ok h2]
      | succ d ih =>
        intro j hj
        have hz := bZ_in (okS (fun j => sec n f m ((i : Int) + j)) j = true)
        refine v_md_exists_7 hG ?_
        simp (disch := omega) only [iI_add, iI_sub, iI_mul, iI_neg, iI_lt, iI_le, iI_eq, iI_cl, vp_iI, Classical.not_not, iLn1000000005, iLn1000000004, iLn1000000003, iLn1000000002, iLn1000000001, iLn99999, iLn9999, iLn2, iLn1, iL0, iL1, iL2, iL3, iL4, iL5, iL6, iL7, iL8, iL9, iL10, iL15, iL16, iL31, iL32, iL40, iL42, iL45, iL48, iL57, iL59, iL63, iL64, iL65, iL120, iL126, iL455, iL520, iL9999, iL99999, iN2, iN8, iN64, iN65, iN120, iN130, iN520, bZ_0]
        refine ⟨fun c2 => by omega, fun _ => ⟨fun c3 => q_b hQ ?_, fun c3 => ?_⟩⟩
        · rw [bZ_f c3, bZ_f]
          rw [men_ne hX.ok h2]
          intro z
          exact c3 (okS_le _ (d + 1) j (by rw [hj]; exact z))
        · refine s_md_exists2 hG hX (by omega) (by omega) (by omega) (by omega) ?_
          refine v_md_exists_18 hG ?_
          simp (disch := omega) only [iI_add, iI_sub, iI_mul, iI_neg, iI_lt, iI_le, iI_eq, iI_cl, vp_iI, Classical.not_not, iLn1000000005, iLn1000000004, iLn1000000003, iLn1000000002, iLn1000000001, iLn99999, iLn9999, iLn2, iLn1, iL0, iL1, iL2, iL3, iL4, iL5, iL6, iL7, iL8, iL9, iL10, iL15, iL16, iL31, iL32, iL40, iL42, iL45, iL48, iL57, iL59, iL63, iL64, iL65, iL120, iL126, iL455, iL520, iL9999, iL99999, iN2, iN8, iN64, iN65, iN120, iN130, iN520]
          have hI := ih (j + 1) (by omega)
          have e : bZ (okS (fun j => sec n f m ((i : Int) + j)) (j + 1) = true) = bZ (sec n f m ((i : Int) + j) ≠ (-1000000001)) := by
            unfold bZ okS
            simp only [c3, Bool.true_and, decide_eq_true_eq]
          rw [e] at hI
          exact hI
    have hI := key m 0 (by omega)
    have e : bZ (okS (fun j => sec n f m ((i : Int) + j)) 0 = true) = 1 := bZ_t rfl
    rw [e] at hI
    exact hI
theorem s_md_differenceAt (hG : qGood Ls xs P) {o : Int} {m : Nat} {i : Nat} (hX : mX M n f) (h1 : 2 ≤ o) (h1' : o ≤ 4) (h2 : m ≤ 31) (hi : i < n) (he : dif n f o m i ≠ (-1000000001)) (hQ : Q (some (.int (iI (dif n f o m i)))) M) : P 122 0 [(0, .ref 36), (1, .int (iI o)), (2, .int (iI m)), (3, .int (iI i))] [] M Q := by
  have hn := hX.2.1
  have hd : dif n f o m i = (if o = 2 then sec n f m i else if o = 3 then thr n f m i else men n f m i) := by
    unfold dif
    rw [if_pos (by omega)]
  rw [hd] at hQ he
  refine v_md_differenceAt_0 hG ?_
  simp (disch := omega) only [iI_add, iI_sub, iI_mul, iI_neg, iI_lt, iI_le, iI_eq, iI_cl, vp_iI, Classical.not_not, iLn1000000005, iLn1000000004, iLn1000000003, iLn1000000002, iLn1000000001, iLn99999, iLn9999, iLn2, iLn1, iL0, iL1, iL2, iL3, iL4, iL5, iL6, iL7, iL8, iL9, iL10, iL15, iL16, iL31, iL32, iL40, iL42, iL45, iL48, iL57, iL59, iL63, iL64, iL65, iL120, iL126, iL455, iL520, iL9999, iL99999, iN2, iN8, iN64, iN65, iN120, iN130, iN520]
  refine ⟨fun c => ⟨fun c2 => ?_, fun c2 => ?_⟩, fun c => ?_⟩
  · rw [if_neg c, if_neg c2] at hQ he
    have ho := (men_ne hX.ok h2 _).mp he
    have key : ∀ (d j : Nat), j + d = m → P 122 49 [(0, .ref 36), (2, .int (iI m)), (3, .int (iI i)), (4, .int (iI (smS (fun j => sec n f m ((i : Int) + j)) j))), (5, .int (iI j))] [] M Q := by
      intro d
      induction d with
      | zero =>
        intro j hj
        have e : j = m := by omega
        subst e
        refine v_md_differenceAt_49 hG ?_
        simp (disch := omega) only [iI_add, iI_sub, iI_mul, iI_neg, iI_lt, iI_le, iI_eq, iI_cl, vp_iI, Classical.not_not, iLn1000000005, iLn1000000004, iLn1000000003, iLn1000000002, iLn1000000001, iLn99999, iLn9999, iLn2, iLn1, iL0, iL1, iL2, iL3, iL4, iL5, iL6, iL7, iL8, iL9, iL10, iL15, iL16, iL31, iL32, iL40, iL42, iL45, iL48, iL57, iL59, iL63, iL64, iL65, iL120, iL126, iL455, iL520, iL9999, iL99999, iN2, iN8, iN64, iN65, iN120, iN130, iN520]
        refine ⟨fun _ => ?_, fun c3 => by omega⟩
        unfold men at hQ
        rw [if_pos ho] at hQ
        exact hQ
      | succ d ih =>
        intro j hj
        refine v_md_differenceAt_49 hG ?_
        simp (disch := omega) only [iI_add, iI_sub, iI_mul, iI_neg, iI_lt, iI_le, iI_eq, iI_cl, vp_iI, Classical.not_not, iLn1000000005, iLn1000000004, iLn1000000003, iLn1000000002, iLn1000000001, iLn99999, iLn9999, iLn2, iLn1, iL0, iL1, iL2, iL3, iL4, iL5, iL6, iL7, iL8, iL9, iL10, iL15, iL16, iL31, iL32, iL40, iL42, iL45, iL48, iL57, iL59, iL63, iL64, iL65, iL120, iL126, iL455, iL520, iL9999, iL99999, iN2, iN8, iN64, iN65, iN120, iN130, iN520]
        refine ⟨fun c3 => by omega, fun _ => ?_⟩
        refine s_md_second hG hX (by omega) (by omega) (by omega) (by omega) (okS_at _ m j ho (by omega)) ?_
        refine v_md_differenceAt_59 hG ?_
        simp (disch := omega) only [iI_add, iI_sub, iI_mul, iI_neg, iI_lt, iI_le, iI_eq, iI_cl, vp_iI, Classical.not_not, iLn1000000005, iLn1000000004, iLn1000000003, iLn1000000002, iLn1000000001, iLn99999, iLn9999, iLn2, iLn1, iL0, iL1, iL2, iL3, iL4, iL5, iL6, iL7, iL8, iL9, iL10, iL15, iL16, iL31, iL32, iL40, iL42, iL45, iL48, iL57, iL59, iL63, iL64, iL65, iL120, iL126, iL455, iL520, iL9999, iL99999, iN2, iN8, iN64, iN65, iN120, iN130, iN520]
        exact ih (j + 1) (by omega)
    exact key m 0 (by omega)
  · rw [if_neg c, if_pos c2] at hQ he
    have h3 := (thr_ne hX.ok).mp he
    have h4 := (sec_r h3.1).1
    have l1 := vl_lt h4.1
    have l2 := vl_lt h4.2.1
    have l3 := vl_lt h4.2.2
    have l4 := vl_lt h3.2
    rw [vl_at hX l1.1 l1.2, vl_at hX l2.1 l2.2, vl_at hX l3.1 l3.2, vl_at hX l4.1 l4.2]
    simp (disch := omega) only [iI_add, iI_sub, iI_mul, iI_neg, iI_lt, iI_le, iI_eq, iI_cl, vp_iI, Classical.not_not, iLn1000000005, iLn1000000004, iLn1000000003, iLn1000000002, iLn1000000001, iLn99999, iLn9999, iLn2, iLn1, iL0, iL1, iL2, iL3, iL4, iL5, iL6, iL7, iL8, iL9, iL10, iL15, iL16, iL31, iL32, iL40, iL42, iL45, iL48, iL57, iL59, iL63, iL64, iL65, iL120, iL126, iL455, iL520, iL9999, iL99999, iN2, iN8, iN64, iN65, iN120, iN130, iN520]
    unfold thr at hQ
    rw [if_neg (by omega)] at hQ
    exact ⟨by omega, by omega, by omega, by omega, hQ⟩
  · rw [if_pos c] at hQ he
    refine s_md_second hG hX (by omega) (by omega) (by omega) (by omega) he ?_
    exact v_md_differenceAt_7 hG hQ
theorem s_md_countOf (hG : qGood Ls xs P) {o : Int} {m : Nat} (hX : mX M n f) (h1 : 2 ≤ o) (h1' : o ≤ 4) (h2 : m ≤ 31) (hQ : Q (some (.int (iI (cnd n f o m)))) M) : P 125 0 [(0, .ref 36), (1, .int (iI o)), (2, .int (iI m))] [] M Q := by
  have hn := hX.2.1
  unfold cnd at hQ
  refine v_md_countOf_0 hG ?_
  have key : ∀ (d j : Nat), j + d = n → P 125 4 [(0, .ref 36), (1, .int (iI o)), (2, .int (iI m)), (3, .int (iI (cz (fun j => decide (dif n f o m j ≠ (-1000000001))) j))), (4, .int (iI j))] [] M Q := by
    intro d
    induction d with
    | zero =>
      intro j hj
      have e : j = n := by omega
      subst e
      refine v_md_countOf_4 hG ?_
      refine s_md_many hG hX ?_
      refine v_md_countOf_7 hG ?_
      simp (disch := omega) only [iI_add, iI_sub, iI_mul, iI_neg, iI_lt, iI_le, iI_eq, iI_cl, vp_iI, Classical.not_not, iLn1000000005, iLn1000000004, iLn1000000003, iLn1000000002, iLn1000000001, iLn99999, iLn9999, iLn2, iLn1, iL0, iL1, iL2, iL3, iL4, iL5, iL6, iL7, iL8, iL9, iL10, iL15, iL16, iL31, iL32, iL40, iL42, iL45, iL48, iL57, iL59, iL63, iL64, iL65, iL120, iL126, iL455, iL520, iL9999, iL99999, iN2, iN8, iN64, iN65, iN120, iN130, iN520]
      exact ⟨fun _ => hQ, fun c => by omega⟩
    | succ d ih =>
      intro j hj
      have hb := cz_in (fun j => decide (dif n f o m j ≠ (-1000000001))) j
      refine v_md_countOf_4 hG ?_
      refine s_md_many hG hX ?_
      refine v_md_countOf_7 hG ?_
      simp (disch := omega) only [iI_add, iI_sub, iI_mul, iI_neg, iI_lt, iI_le, iI_eq, iI_cl, vp_iI, Classical.not_not, iLn1000000005, iLn1000000004, iLn1000000003, iLn1000000002, iLn1000000001, iLn99999, iLn9999, iLn2, iLn1, iL0, iL1, iL2, iL3, iL4, iL5, iL6, iL7, iL8, iL9, iL10, iL15, iL16, iL31, iL32, iL40, iL42, iL45, iL48, iL57, iL59, iL63, iL64, iL65, iL120, iL126, iL455, iL520, iL9999, iL99999, iN2, iN8, iN64, iN65, iN120, iN130, iN520]
      refine ⟨fun c => by omega, fun _ => ?_⟩
      refine s_md_exists hG hX h1 h1' h2 (by omega) ?_
      refine v_md_countOf_14 hG ?_
      have hz := bZ_in (dif n f o m j ≠ (-1000000001))
      simp (disch := omega) only [iI_add, iI_sub, iI_mul, iI_neg, iI_lt, iI_le, iI_eq, iI_cl, vp_iI, Classical.not_not, iLn1000000005, iLn1000000004, iLn1000000003, iLn1000000002, iLn1000000001, iLn99999, iLn9999, iLn2, iLn1, iL0, iL1, iL2, iL3, iL4, iL5, iL6, iL7, iL8, iL9, iL10, iL15, iL16, iL31, iL32, iL40, iL42, iL45, iL48, iL57, iL59, iL63, iL64, iL65, iL120, iL126, iL455, iL520, iL9999, iL99999, iN2, iN8, iN64, iN65, iN120, iN130, iN520, bZ_0]
      have hI := ih (j + 1) (by omega)
      unfold cz at hI
      refine ⟨fun c => ?_, fun c => ?_⟩
      · rw [if_neg (by simpa using c)] at hI
        exact hI
      · rw [if_pos (by simpa using c)] at hI
        exact hI
  simp (disch := omega) only [iI_add, iI_sub, iI_mul, iI_neg, iI_lt, iI_le, iI_eq, iI_cl, vp_iI, Classical.not_not, iLn1000000005, iLn1000000004, iLn1000000003, iLn1000000002, iLn1000000001, iLn99999, iLn9999, iLn2, iLn1, iL0, iL1, iL2, iL3, iL4, iL5, iL6, iL7, iL8, iL9, iL10, iL15, iL16, iL31, iL32, iL40, iL42, iL45, iL48, iL57, iL59, iL63, iL64, iL65, iL120, iL126, iL455, iL520, iL9999, iL99999, iN2, iN8, iN64, iN65, iN120, iN130, iN520]
  exact key n 0 (by omega)
theorem s_md_present (hG : qGood Ls xs P) (hX : mX M n f) (hQ : Q (some (.int (iI (cz (fun j => decide (f j ≠ (-1000000001))) n)))) M) : P 114 0 [(0, .ref 36)] [] M Q := by
  have hn := hX.2.1
  refine v_md_present_0 hG ?_
  have key : ∀ (d j : Nat), j + d = n → P 114 4 [(0, .ref 36), (1, .int (iI (cz (fun j => decide (f j ≠ (-1000000001))) j))), (2, .int (iI j))] [] M Q := by
    intro d
    induction d with
    | zero =>
      intro j hj
      have e : j = n := by omega
      subst e
      refine v_md_present_4 hG ?_
      refine s_md_many hG hX ?_
      refine v_md_present_7 hG ?_
      simp (disch := omega) only [iI_add, iI_sub, iI_mul, iI_neg, iI_lt, iI_le, iI_eq, iI_cl, vp_iI, Classical.not_not, iLn1000000005, iLn1000000004, iLn1000000003, iLn1000000002, iLn1000000001, iLn99999, iLn9999, iLn2, iLn1, iL0, iL1, iL2, iL3, iL4, iL5, iL6, iL7, iL8, iL9, iL10, iL15, iL16, iL31, iL32, iL40, iL42, iL45, iL48, iL57, iL59, iL63, iL64, iL65, iL120, iL126, iL455, iL520, iL9999, iL99999, iN2, iN8, iN64, iN65, iN120, iN130, iN520]
      exact ⟨fun _ => hQ, fun c => by omega⟩
    | succ d ih =>
      intro j hj
      have hb := cz_in (fun j => decide (f j ≠ (-1000000001))) j
      refine v_md_present_4 hG ?_
      refine s_md_many hG hX ?_
      refine v_md_present_7 hG ?_
      simp (disch := omega) only [iI_add, iI_sub, iI_mul, iI_neg, iI_lt, iI_le, iI_eq, iI_cl, vp_iI, Classical.not_not, iLn1000000005, iLn1000000004, iLn1000000003, iLn1000000002, iLn1000000001, iLn99999, iLn9999, iLn2, iLn1, iL0, iL1, iL2, iL3, iL4, iL5, iL6, iL7, iL8, iL9, iL10, iL15, iL16, iL31, iL32, iL40, iL42, iL45, iL48, iL57, iL59, iL63, iL64, iL65, iL120, iL126, iL455, iL520, iL9999, iL99999, iN2, iN8, iN64, iN65, iN120, iN130, iN520]
      refine ⟨fun c => by omega, fun _ => ?_⟩
      refine s_md_isThere hG hX (by omega) (by omega) ?_
      rw [vl_nat (by omega)]
      refine v_md_present_12 hG ?_
      have hz := bZ_in (f j ≠ (-1000000001))
      simp (disch := omega) only [iI_add, iI_sub, iI_mul, iI_neg, iI_lt, iI_le, iI_eq, iI_cl, vp_iI, Classical.not_not, iLn1000000005, iLn1000000004, iLn1000000003, iLn1000000002, iLn1000000001, iLn99999, iLn9999, iLn2, iLn1, iL0, iL1, iL2, iL3, iL4, iL5, iL6, iL7, iL8, iL9, iL10, iL15, iL16, iL31, iL32, iL40, iL42, iL45, iL48, iL57, iL59, iL63, iL64, iL65, iL120, iL126, iL455, iL520, iL9999, iL99999, iN2, iN8, iN64, iN65, iN120, iN130, iN520, bZ_0]
      have hI := ih (j + 1) (by omega)
      unfold cz at hI
      refine ⟨fun c => ?_, fun c => ?_⟩
      · rw [if_neg (by simpa using c)] at hI
        exact hI
      · rw [if_pos (by simpa using c)] at hI
        exact hI
  simp (disch := omega) only [iI_add, iI_sub, iI_mul, iI_neg, iI_lt, iI_le, iI_eq, iI_cl, vp_iI, Classical.not_not, iLn1000000005, iLn1000000004, iLn1000000003, iLn1000000002, iLn1000000001, iLn99999, iLn9999, iLn2, iLn1, iL0, iL1, iL2, iL3, iL4, iL5, iL6, iL7, iL8, iL9, iL10, iL15, iL16, iL31, iL32, iL40, iL42, iL45, iL48, iL57, iL59, iL63, iL64, iL65, iL120, iL126, iL455, iL520, iL9999, iL99999, iN2, iN8, iN64, iN65, iN120, iN130, iN520]
  exact key n 0 (by omega)
theorem s_md_widest (hG : qGood Ls xs P) (hX : mX M n f) (hQ : Q (some (.int (iI (wdz n f 31)))) M) : P 116 0 [(0, .ref 36)] [] M Q := by
  have hn := hX.2.1
  refine v_md_widest_0 hG ?_
  have key : ∀ (d j : Nat), j + d = 31 → P 116 4 [(0, .ref 36), (1, .int (iI (wdz n f j))), (2, .int (iI (j + 1 : Nat)))] [] M Q := by
    intro d
    induction d with
    | zero =>
      intro j hj
      have e : j = 31 := by omega
      subst e
      refine v_md_widest_4 hG ?_
      simp (disch := omega) only [iI_add, iI_sub, iI_mul, iI_neg, iI_lt, iI_le, iI_eq, iI_cl, vp_iI, Classical.not_not, iLn1000000005, iLn1000000004, iLn1000000003, iLn1000000002, iLn1000000001, iLn99999, iLn9999, iLn2, iLn1, iL0, iL1, iL2, iL3, iL4, iL5, iL6, iL7, iL8, iL9, iL10, iL15, iL16, iL31, iL32, iL40, iL42, iL45, iL48, iL57, iL59, iL63, iL64, iL65, iL120, iL126, iL455, iL520, iL9999, iL99999, iN2, iN8, iN64, iN65, iN120, iN130, iN520]
      exact ⟨fun _ => hQ, fun c => by omega⟩
    | succ d ih =>
      intro j hj
      refine v_md_widest_4 hG ?_
      simp (disch := omega) only [iI_add, iI_sub, iI_mul, iI_neg, iI_lt, iI_le, iI_eq, iI_cl, vp_iI, Classical.not_not, iLn1000000005, iLn1000000004, iLn1000000003, iLn1000000002, iLn1000000001, iLn99999, iLn9999, iLn2, iLn1, iL0, iL1, iL2, iL3, iL4, iL5, iL6, iL7, iL8, iL9, iL10, iL15, iL16, iL31, iL32, iL40, iL42, iL45, iL48, iL57, iL59, iL63, iL64, iL65, iL120, iL126, iL455, iL520, iL9999, iL99999, iN2, iN8, iN64, iN65, iN120, iN130, iN520]
      refine ⟨fun c => by omega, fun _ => ?_⟩
      refine s_md_countOf hG hX (by omega) (by omega) (by omega) ?_
      refine v_md_widest_11 hG ?_
      have hc := cz_in (fun i => decide (dif n f 2 (j + 1) i ≠ (-1000000001))) n
      have hc2 : cnd n f 2 (j + 1) = cz (fun i => decide (dif n f 2 (j + 1) i ≠ (-1000000001))) n := rfl
      simp (disch := omega) only [iI_add, iI_sub, iI_mul, iI_neg, iI_lt, iI_le, iI_eq, iI_cl, vp_iI, Classical.not_not, iLn1000000005, iLn1000000004, iLn1000000003, iLn1000000002, iLn1000000001, iLn99999, iLn9999, iLn2, iLn1, iL0, iL1, iL2, iL3, iL4, iL5, iL6, iL7, iL8, iL9, iL10, iL15, iL16, iL31, iL32, iL40, iL42, iL45, iL48, iL57, iL59, iL63, iL64, iL65, iL120, iL126, iL455, iL520, iL9999, iL99999, iN2, iN8, iN64, iN65, iN120, iN130, iN520]
      have hI := ih (j + 1) (by omega)
      unfold wdz at hI
      refine ⟨fun c => ?_, fun c => ?_⟩
      · rw [if_neg (by omega)] at hI
        exact hI
      · rw [if_pos (by omega)] at hI
        exact hI
  simp (disch := omega) only [iI_add, iI_sub, iI_mul, iI_neg, iI_lt, iI_le, iI_eq, iI_cl, vp_iI, Classical.not_not, iLn1000000005, iLn1000000004, iLn1000000003, iLn1000000002, iLn1000000001, iLn99999, iLn9999, iLn2, iLn1, iL0, iL1, iL2, iL3, iL4, iL5, iL6, iL7, iL8, iL9, iL10, iL15, iL16, iL31, iL32, iL40, iL42, iL45, iL48, iL57, iL59, iL63, iL64, iL65, iL120, iL126, iL455, iL520, iL9999, iL99999, iN2, iN8, iN64, iN65, iN120, iN130, iN520]
  exact key 31 0 (by omega)
theorem s_md_endOfGap (hG : qGood Ls xs P) {j : Nat} (hX : mX M n f) (hj : j ≤ n) (hQ : Q (some (.int (iI (gpe f (n - j) j)))) M) : P 108 0 [(0, .ref 36), (1, .int (iI j))] [] M Q := by
  have hn := hX.2.1
  refine v_md_endOfGap_0 hG ?_
  have key : ∀ (d i : Nat), i + d = n → gpe f d i = gpe f (n - j) j → P 108 2 [(0, .ref 36), (2, .int (iI i))] [] M Q := by
    intro d
    induction d with
    | zero =>
      intro i hi he
      have e : i = n := by omega
      subst e
      refine v_md_endOfGap_2 hG ?_
      refine s_md_isReading hG hX (by omega) (by omega) ?_
      rw [bZ_f (by omega)]
      refine v_md_endOfGap_5 hG ?_
      simp (disch := omega) only [iI_add, iI_sub, iI_mul, iI_neg, iI_lt, iI_le, iI_eq, iI_cl, vp_iI, Classical.not_not, iLn1000000005, iLn1000000004, iLn1000000003, iLn1000000002, iLn1000000001, iLn99999, iLn9999, iLn2, iLn1, iL0, iL1, iL2, iL3, iL4, iL5, iL6, iL7, iL8, iL9, iL10, iL15, iL16, iL31, iL32, iL40, iL42, iL45, iL48, iL57, iL59, iL63, iL64, iL65, iL120, iL126, iL455, iL520, iL9999, iL99999, iN2, iN8, iN64, iN65, iN120, iN130, iN520]
      refine ⟨fun _ => ?_, fun c => absurd trivial c⟩
      rw [← he] at hQ
      exact hQ
    | succ d ih =>
      intro i hi he
      have hv := hX.ok i (by omega)
      unfold okv at hv
      refine v_md_endOfGap_2 hG ?_
      refine s_md_isReading hG hX (by omega) (by omega) ?_
      rw [bZ_t (by omega)]
      refine v_md_endOfGap_5 hG ?_
      simp (disch := omega) only [iI_add, iI_sub, iI_mul, iI_neg, iI_lt, iI_le, iI_eq, iI_cl, vp_iI, Classical.not_not, iLn1000000005, iLn1000000004, iLn1000000003, iLn1000000002, iLn1000000001, iLn99999, iLn9999, iLn2, iLn1, iL0, iL1, iL2, iL3, iL4, iL5, iL6, iL7, iL8, iL9, iL10, iL15, iL16, iL31, iL32, iL40, iL42, iL45, iL48, iL57, iL59, iL63, iL64, iL65, iL120, iL126, iL455, iL520, iL9999, iL99999, iN2, iN8, iN64, iN65, iN120, iN130, iN520]
      rw [show (i : Int).toNat = i by omega, (hX.2.2 i (by omega)).1]
      simp (disch := omega) only [iI_add, iI_sub, iI_mul, iI_neg, iI_lt, iI_le, iI_eq, iI_cl, vp_iI, Classical.not_not, iLn1000000005, iLn1000000004, iLn1000000003, iLn1000000002, iLn1000000001, iLn99999, iLn9999, iLn2, iLn1, iL0, iL1, iL2, iL3, iL4, iL5, iL6, iL7, iL8, iL9, iL10, iL15, iL16, iL31, iL32, iL40, iL42, iL45, iL48, iL57, iL59, iL63, iL64, iL65, iL120, iL126, iL455, iL520, iL9999, iL99999, iN2, iN8, iN64, iN65, iN120, iN130, iN520]
      rw [gpe_s] at he
      refine ⟨fun c => by omega, fun _ => ⟨by omega, fun c => ?_, fun c => ?_⟩⟩
      · rw [if_neg c] at he
        rw [← he] at hQ
        exact hQ
      · rw [if_pos c] at he
        exact ih (i + 1) (by omega) he
  exact key (n - j) j (by omega) rfl
theorem s_md_beginsGap (hG : qGood Ls xs P) {j : Nat} (hX : mX M n f) (hj : j < n) (hQ : Q (some (.int (iI (bZ (stg f j = true))))) M) : P 109 0 [(0, .ref 36), (1, .int (iI j))] [] M Q := by
  have hn := hX.2.1
  have hv := hX.ok j (by omega)
  have hv2 := hX.ok (j - 1) (by omega)
  unfold okv at hv hv2
  refine v_md_beginsGap_0 hG ?_
  simp (disch := omega) only [iI_add, iI_sub, iI_mul, iI_neg, iI_lt, iI_le, iI_eq, iI_cl, vp_iI, Classical.not_not, iLn1000000005, iLn1000000004, iLn1000000003, iLn1000000002, iLn1000000001, iLn99999, iLn9999, iLn2, iLn1, iL0, iL1, iL2, iL3, iL4, iL5, iL6, iL7, iL8, iL9, iL10, iL15, iL16, iL31, iL32, iL40, iL42, iL45, iL48, iL57, iL59, iL63, iL64, iL65, iL120, iL126, iL455, iL520, iL9999, iL99999, iN2, iN8, iN64, iN65, iN120, iN130, iN520]
  rw [show (j : Int).toNat = j by omega, (hX.2.2 j (by omega)).1]
  simp (disch := omega) only [iI_add, iI_sub, iI_mul, iI_neg, iI_lt, iI_le, iI_eq, iI_cl, vp_iI, Classical.not_not, iLn1000000005, iLn1000000004, iLn1000000003, iLn1000000002, iLn1000000001, iLn99999, iLn9999, iLn2, iLn1, iL0, iL1, iL2, iL3, iL4, iL5, iL6, iL7, iL8, iL9, iL10, iL15, iL16, iL31, iL32, iL40, iL42, iL45, iL48, iL57, iL59, iL63, iL64, iL65, iL120, iL126, iL455, iL520, iL9999, iL99999, iN2, iN8, iN64, iN65, iN120, iN130, iN520]
  refine ⟨by omega, fun c => q_b hQ (bZ_f ?_), fun c => ⟨fun c2 => q_b hQ (bZ_t ?_), fun c2 => ⟨by omega, ?_⟩⟩⟩
  · simp [stg, c]
  · have e : j = 0 := by omega
    subst e
    simp [stg, c]
  · rw [show ((j : Int) - 1).toNat = j - 1 by omega, (hX.2.2 (j - 1) (by omega)).1]
    simp (disch := omega) only [iI_add, iI_sub, iI_mul, iI_neg, iI_lt, iI_le, iI_eq, iI_cl, vp_iI, Classical.not_not, iLn1000000005, iLn1000000004, iLn1000000003, iLn1000000002, iLn1000000001, iLn99999, iLn9999, iLn2, iLn1, iL0, iL1, iL2, iL3, iL4, iL5, iL6, iL7, iL8, iL9, iL10, iL15, iL16, iL31, iL32, iL40, iL42, iL45, iL48, iL57, iL59, iL63, iL64, iL65, iL120, iL126, iL455, iL520, iL9999, iL99999, iN2, iN8, iN64, iN65, iN120, iN130, iN520]
    refine ⟨fun c3 => q_b hQ (bZ_f ?_), fun c3 => q_b hQ (bZ_t ?_)⟩
    · have : j ≠ 0 := by omega
      simp [stg, c, c3, this]
    · simp [stg, c, c3]
theorem s_md_gaps (hG : qGood Ls xs P) {w : Int} (hX : mX M n f) (hw : w = 0 ∨ w = 1) (hQ : Q (some (.int (iI (if w = 0 then cz (stg f) n else lgz n f n)))) M) : P 113 0 [(0, .ref 36), (1, .int (iI w))] [] M Q := by
  have hn := hX.2.1
  refine v_md_gaps_0 hG ?_
  have key : ∀ (d j : Nat), j + d = n → P 113 6 [(0, .ref 36), (1, .int (iI w)), (2, .int (iI (cz (stg f) j))), (3, .int (iI (lgz n f j))), (4, .int (iI j))] [] M Q := by
    intro d
    induction d with
    | zero =>
      intro j hj
      have e : j = n := by omega
      subst e
      refine v_md_gaps_6 hG ?_
      refine s_md_many hG hX ?_
      refine v_md_gaps_9 hG ?_
      simp (disch := omega) only [iI_add, iI_sub, iI_mul, iI_neg, iI_lt, iI_le, iI_eq, iI_cl, vp_iI, Classical.not_not, iLn1000000005, iLn1000000004, iLn1000000003, iLn1000000002, iLn1000000001, iLn99999, iLn9999, iLn2, iLn1, iL0, iL1, iL2, iL3, iL4, iL5, iL6, iL7, iL8, iL9, iL10, iL15, iL16, iL31, iL32, iL40, iL42, iL45, iL48, iL57, iL59, iL63, iL64, iL65, iL120, iL126, iL455, iL520, iL9999, iL99999, iN2, iN8, iN64, iN65, iN120, iN130, iN520]
      refine ⟨fun _ => ⟨fun c => ?_, fun c => ?_⟩, fun c => by omega⟩
      · rw [if_pos c] at hQ
        exact hQ
      · rw [if_neg c] at hQ
        exact hQ
    | succ d ih =>
      intro j hj
      have hb := cz_in (stg f) j
      have hb2 := lgz_in (n := n) (f := f) j (by omega)
      have hg := gpe_in f (n - j) j
      refine v_md_gaps_6 hG ?_
      refine s_md_many hG hX ?_
      refine v_md_gaps_9 hG ?_
      simp (disch := omega) only [iI_add, iI_sub, iI_mul, iI_neg, iI_lt, iI_le, iI_eq, iI_cl, vp_iI, Classical.not_not, iLn1000000005, iLn1000000004, iLn1000000003, iLn1000000002, iLn1000000001, iLn99999, iLn9999, iLn2, iLn1, iL0, iL1, iL2, iL3, iL4, iL5, iL6, iL7, iL8, iL9, iL10, iL15, iL16, iL31, iL32, iL40, iL42, iL45, iL48, iL57, iL59, iL63, iL64, iL65, iL120, iL126, iL455, iL520, iL9999, iL99999, iN2, iN8, iN64, iN65, iN120, iN130, iN520]
      refine ⟨fun c => by omega, fun _ => ?_⟩
      refine s_md_beginsGap hG hX (by omega) ?_
      refine v_md_gaps_13 hG ?_
      have hz := bZ_in (stg f j = true)
      simp (disch := omega) only [iI_add, iI_sub, iI_mul, iI_neg, iI_lt, iI_le, iI_eq, iI_cl, vp_iI, Classical.not_not, iLn1000000005, iLn1000000004, iLn1000000003, iLn1000000002, iLn1000000001, iLn99999, iLn9999, iLn2, iLn1, iL0, iL1, iL2, iL3, iL4, iL5, iL6, iL7, iL8, iL9, iL10, iL15, iL16, iL31, iL32, iL40, iL42, iL45, iL48, iL57, iL59, iL63, iL64, iL65, iL120, iL126, iL455, iL520, iL9999, iL99999, iN2, iN8, iN64, iN65, iN120, iN130, iN520, bZ_0]
      have hI := ih (j + 1) (by omega)
      unfold cz lgz at hI
      refine ⟨fun c => ?_, fun c => ?_⟩
      · rw [if_neg c, if_neg c, Int.add_zero] at hI
        exact hI
      · rw [if_pos c, if_pos c] at hI
        refine s_md_endOfGap hG hX (by omega) ?_
        refine v_md_gaps_18 hG ?_
        simp (disch := omega) only [iI_add, iI_sub, iI_mul, iI_neg, iI_lt, iI_le, iI_eq, iI_cl, vp_iI, Classical.not_not, iLn1000000005, iLn1000000004, iLn1000000003, iLn1000000002, iLn1000000001, iLn99999, iLn9999, iLn2, iLn1, iL0, iL1, iL2, iL3, iL4, iL5, iL6, iL7, iL8, iL9, iL10, iL15, iL16, iL31, iL32, iL40, iL42, iL45, iL48, iL57, iL59, iL63, iL64, iL65, iL120, iL126, iL455, iL520, iL9999, iL99999, iN2, iN8, iN64, iN65, iN120, iN130, iN520]
        refine ⟨fun c2 => ?_, fun c2 => ?_⟩
        · rw [if_neg (by omega)] at hI
          exact hI
        · rw [if_pos (by omega)] at hI
          refine s_md_endOfGap hG hX (by omega) ?_
          refine v_md_gaps_25 hG ?_
          simp (disch := omega) only [iI_add, iI_sub, iI_mul, iI_neg, iI_lt, iI_le, iI_eq, iI_cl, vp_iI, Classical.not_not, iLn1000000005, iLn1000000004, iLn1000000003, iLn1000000002, iLn1000000001, iLn99999, iLn9999, iLn2, iLn1, iL0, iL1, iL2, iL3, iL4, iL5, iL6, iL7, iL8, iL9, iL10, iL15, iL16, iL31, iL32, iL40, iL42, iL45, iL48, iL57, iL59, iL63, iL64, iL65, iL120, iL126, iL455, iL520, iL9999, iL99999, iN2, iN8, iN64, iN65, iN120, iN130, iN520]
          exact hI
  simp (disch := omega) only [iI_add, iI_sub, iI_mul, iI_neg, iI_lt, iI_le, iI_eq, iI_cl, vp_iI, Classical.not_not, iLn1000000005, iLn1000000004, iLn1000000003, iLn1000000002, iLn1000000001, iLn99999, iLn9999, iLn2, iLn1, iL0, iL1, iL2, iL3, iL4, iL5, iL6, iL7, iL8, iL9, iL10, iL15, iL16, iL31, iL32, iL40, iL42, iL45, iL48, iL57, iL59, iL63, iL64, iL65, iL120, iL126, iL455, iL520, iL9999, iL99999, iN2, iN8, iN64, iN65, iN120, iN130, iN520]
  exact key n 0 (by omega)
theorem s_md_end_g (hG : qGood Ls xs P) {w : Int} (acc : Nat → Int) (h0 : acc 0 = (-1000000001)) (hb : ∀ j, j ≤ n → okv (acc j)) (hs : ∀ j, j < n → acc (j + 1) = if f j ≠ (-1000000001) ∧ (acc j = (-1000000001) ∨ (w = 0 ∧ acc j < f j) ∨ (w ≠ 0 ∧ f j < acc j)) then f j else acc j) (hX : mX M n f) (hw : w = 0 ∨ w = 1) (hQ : Q (some (.int (iI (acc n)))) M) : P 115 0 [(0, .ref 36), (1, .int (iI w))] [] M Q := by
  have hn := hX.2.1
  refine v_md_end_0 hG ?_
  have key : ∀ (d j : Nat), j + d = n → P 115 4 [(0, .ref 36), (1, .int (iI w)), (2, .int (iI (acc j))), (3, .int (iI j))] [] M Q := by
    intro d
    induction d with
    | zero =>
      intro j hj
      have hb1 := hb j (by omega)
      unfold okv at hb1
      have e : j = n := by omega
      subst e
      refine v_md_end_4 hG ?_
      refine s_md_many hG hX ?_
      refine v_md_end_7 hG ?_
      simp (disch := omega) only [iI_add, iI_sub, iI_mul, iI_neg, iI_lt, iI_le, iI_eq, iI_cl, vp_iI, Classical.not_not, iLn1000000005, iLn1000000004, iLn1000000003, iLn1000000002, iLn1000000001, iLn99999, iLn9999, iLn2, iLn1, iL0, iL1, iL2, iL3, iL4, iL5, iL6, iL7, iL8, iL9, iL10, iL15, iL16, iL31, iL32, iL40, iL42, iL45, iL48, iL57, iL59, iL63, iL64, iL65, iL120, iL126, iL455, iL520, iL9999, iL99999, iN2, iN8, iN64, iN65, iN120, iN130, iN520]
      exact ⟨fun _ => hQ, fun c => by omega⟩
    | succ d ih =>
      intro j hj
      have hb1 := hb j (by omega)
      have hv := hX.ok j (by omega)
      unfold okv at hb1 hv
      have hI := ih (j + 1) (by omega)
      rw [hs j (by omega)] at hI
      refine v_md_end_4 hG ?_
      refine s_md_many hG hX ?_
      refine v_md_end_7 hG ?_
      simp (disch := omega) only [iI_add, iI_sub, iI_mul, iI_neg, iI_lt, iI_le, iI_eq, iI_cl, vp_iI, Classical.not_not, iLn1000000005, iLn1000000004, iLn1000000003, iLn1000000002, iLn1000000001, iLn99999, iLn9999, iLn2, iLn1, iL0, iL1, iL2, iL3, iL4, iL5, iL6, iL7, iL8, iL9, iL10, iL15, iL16, iL31, iL32, iL40, iL42, iL45, iL48, iL57, iL59, iL63, iL64, iL65, iL120, iL126, iL455, iL520, iL9999, iL99999, iN2, iN8, iN64, iN65, iN120, iN130, iN520]
      refine ⟨fun c => by omega, fun _ => ?_⟩
      refine s_md_isThere hG hX (by omega) (by omega) ?_
      rw [vl_nat (by omega)]
      refine v_md_end_11 hG ?_
      have hz := bZ_in (f j ≠ (-1000000001))
      simp (disch := omega) only [iI_add, iI_sub, iI_mul, iI_neg, iI_lt, iI_le, iI_eq, iI_cl, vp_iI, Classical.not_not, iLn1000000005, iLn1000000004, iLn1000000003, iLn1000000002, iLn1000000001, iLn99999, iLn9999, iLn2, iLn1, iL0, iL1, iL2, iL3, iL4, iL5, iL6, iL7, iL8, iL9, iL10, iL15, iL16, iL31, iL32, iL40, iL42, iL45, iL48, iL57, iL59, iL63, iL64, iL65, iL120, iL126, iL455, iL520, iL9999, iL99999, iN2, iN8, iN64, iN65, iN120, iN130, iN520, bZ_0]
      rw [show (j : Int).toNat = j by omega, (hX.2.2 j (by omega)).1]
      simp (disch := omega) only [iI_add, iI_sub, iI_mul, iI_neg, iI_lt, iI_le, iI_eq, iI_cl, vp_iI, Classical.not_not, iLn1000000005, iLn1000000004, iLn1000000003, iLn1000000002, iLn1000000001, iLn99999, iLn9999, iLn2, iLn1, iL0, iL1, iL2, iL3, iL4, iL5, iL6, iL7, iL8, iL9, iL10, iL15, iL16, iL31, iL32, iL40, iL42, iL45, iL48, iL57, iL59, iL63, iL64, iL65, iL120, iL126, iL455, iL520, iL9999, iL99999, iN2, iN8, iN64, iN65, iN120, iN130, iN520, true_implies, not_true_eq_false, false_implies, and_true]
      have put : ∀ r : Int, r = (if f j ≠ (-1000000001) ∧ (acc j = (-1000000001) ∨ (w = 0 ∧ acc j < f j) ∨ (w ≠ 0 ∧ f j < acc j)) then f j else acc j) → P 115 4 [(0, .ref 36), (1, .int (iI w)), (2, .int (iI r)), (3, .int (iI ((j : Int) + 1)))] [] M Q := fun r hr => by
        rw [hr]
        exact hI
      refine ⟨fun c => put _ ?_, fun c => ⟨fun c2 => ⟨fun c3 => by omega, fun _ => ⟨by omega, put _ ?_⟩⟩, fun c2 => ⟨fun c3 => ⟨by omega, fun c4 => put _ ?_, fun c4 => ⟨fun c5 => by omega, fun _ => ⟨by omega, put _ ?_⟩⟩⟩, fun c3 => ⟨by omega, fun c4 => put _ ?_, fun c4 => ⟨fun c5 => by omega, fun _ => ⟨by omega, put _ ?_⟩⟩⟩⟩⟩⟩
      all_goals (split <;> omega)
  simp (disch := omega) only [iI_add, iI_sub, iI_mul, iI_neg, iI_lt, iI_le, iI_eq, iI_cl, vp_iI, Classical.not_not, iLn1000000005, iLn1000000004, iLn1000000003, iLn1000000002, iLn1000000001, iLn99999, iLn9999, iLn2, iLn1, iL0, iL1, iL2, iL3, iL4, iL5, iL6, iL7, iL8, iL9, iL10, iL15, iL16, iL31, iL32, iL40, iL42, iL45, iL48, iL57, iL59, iL63, iL64, iL65, iL120, iL126, iL455, iL520, iL9999, iL99999, iN2, iN8, iN64, iN65, iN120, iN130, iN520]
  have hI := key n 0 (by omega)
  rw [h0] at hI
  exact hI
theorem s_md_end (hG : qGood Ls xs P) {w : Int} (hX : mX M n f) (hw : w = 0 ∨ w = 1) (hQ : Q (some (.int (iI (if w = 0 then grz f n else lsz f n)))) M) : P 115 0 [(0, .ref 36), (1, .int (iI w))] [] M Q := by
  rcases hw with hw | hw
  · subst hw
    refine s_md_end_g hG (grz f) rfl (grz_ok hX.ok) (fun j hj => ?_) hX (Or.inl rfl) hQ
    rw [grz_st hX.ok hj]
    split <;> split <;> omega
  · subst hw
    refine s_md_end_g hG (lsz f) rfl (lsz_ok hX.ok) (fun j hj => ?_) hX (Or.inr rfl) hQ
    rw [lsz_st]
    split <;> split <;> omega
theorem s_md_isOutlier (hG : qGood Ls xs P) {j : Nat} {lim : Int} (hX : mX M n f) (hj : j < n) (h1 : 0 ≤ lim) (h2 : lim ≤ 99999) (hQ : Q (some (.int (iI (bZ (otl n f lim j = true))))) M) : P 105 0 [(0, .ref 36), (1, .int (iI j)), (2, .int (iI lim))] [] M Q := by
  have hn := hX.2.1
  have o1 := vl_ok hX.ok ((j : Int) - 1)
  have o2 := vl_ok hX.ok (j : Int)
  have o3 := vl_ok hX.ok ((j : Int) + 1)
  have l1 := fun h => vl_lt (n := n) (f := f) (i := (j : Int) - 1) h
  have l3 := fun h => vl_lt (n := n) (f := f) (i := (j : Int) + 1) h
  have hd : dif n f 2 1 ((j : Int) - 1) = if vl n f ((j : Int) - 1) = (-1000000001) ∨ vl n f j = (-1000000001) ∨ vl n f ((j : Int) + 1) = (-1000000001) then (-1000000001) else vl n f ((j : Int) + 1) - 2 * vl n f j + vl n f ((j : Int) - 1) := by
    unfold dif
    split
    · rw [if_pos rfl]
      unfold sec
      rw [show (j : Int) - 1 + ((1 : Nat) : Int) = j by omega, show (j : Int) - 1 + 2 * ((1 : Nat) : Int) = (j : Int) + 1 by omega]
    · rename_i c
      rw [if_pos]
      refine Or.inl ?_
      unfold vl
      rw [if_neg c]
  unfold okv at o1 o2 o3
  unfold otl at hQ
  rw [hd] at hQ
  refine v_md_isOutlier_0 hG ?_
  refine s_md_isThere hG hX (by omega) (by omega) ?_
  refine v_md_isOutlier_3 hG ?_
  have z1 := bZ_in (vl n f (j : Int) ≠ (-1000000001))
  simp (disch := omega) only [iI_add, iI_sub, iI_mul, iI_neg, iI_lt, iI_le, iI_eq, iI_cl, vp_iI, Classical.not_not, iLn1000000005, iLn1000000004, iLn1000000003, iLn1000000002, iLn1000000001, iLn99999, iLn9999, iLn2, iLn1, iL0, iL1, iL2, iL3, iL4, iL5, iL6, iL7, iL8, iL9, iL10, iL15, iL16, iL31, iL32, iL40, iL42, iL45, iL48, iL57, iL59, iL63, iL64, iL65, iL120, iL126, iL455, iL520, iL9999, iL99999, iN2, iN8, iN64, iN65, iN120, iN130, iN520, bZ_0]
  refine ⟨fun c => q_b hQ (bZ_f ?_), fun c => ?_⟩
  · rw [if_pos (Or.inr (Or.inl c))]
    simp
  refine s_md_isThere hG hX (by omega) (by omega) ?_
  refine v_md_isOutlier_9 hG ?_
  have z2 := bZ_in (vl n f ((j : Int) - 1) ≠ (-1000000001))
  simp (disch := omega) only [iI_add, iI_sub, iI_mul, iI_neg, iI_lt, iI_le, iI_eq, iI_cl, vp_iI, Classical.not_not, iLn1000000005, iLn1000000004, iLn1000000003, iLn1000000002, iLn1000000001, iLn99999, iLn9999, iLn2, iLn1, iL0, iL1, iL2, iL3, iL4, iL5, iL6, iL7, iL8, iL9, iL10, iL15, iL16, iL31, iL32, iL40, iL42, iL45, iL48, iL57, iL59, iL63, iL64, iL65, iL120, iL126, iL455, iL520, iL9999, iL99999, iN2, iN8, iN64, iN65, iN120, iN130, iN520, bZ_0]
  refine ⟨fun c2 => q_b hQ (bZ_f ?_), fun c2 => ?_⟩
  · rw [if_pos (Or.inl c2)]
    simp
  refine s_md_isThere hG hX (by omega) (by omega) ?_
  refine v_md_isOutlier_15 hG ?_
  have z3 := bZ_in (vl n f ((j : Int) + 1) ≠ (-1000000001))
  simp (disch := omega) only [iI_add, iI_sub, iI_mul, iI_neg, iI_lt, iI_le, iI_eq, iI_cl, vp_iI, Classical.not_not, iLn1000000005, iLn1000000004, iLn1000000003, iLn1000000002, iLn1000000001, iLn99999, iLn9999, iLn2, iLn1, iL0, iL1, iL2, iL3, iL4, iL5, iL6, iL7, iL8, iL9, iL10, iL15, iL16, iL31, iL32, iL40, iL42, iL45, iL48, iL57, iL59, iL63, iL64, iL65, iL120, iL126, iL455, iL520, iL9999, iL99999, iN2, iN8, iN64, iN65, iN120, iN130, iN520, bZ_0]
  have hq := l1 c2
  refine ⟨fun c3 => ?_, fun c3 => q_b hQ (bZ_f ?_)⟩
  · have hq3 := l3 c3
    rw [vl_at hX (i := (j : Int)) (by omega) (by omega), vl_at hX (i := (j : Int) - 1) (by omega) (by omega), vl_at hX (i := (j : Int) + 1) (by omega) (by omega)]
    simp (disch := omega) only [iI_add, iI_sub, iI_mul, iI_neg, iI_lt, iI_le, iI_eq, iI_cl, vp_iI, Classical.not_not, iLn1000000005, iLn1000000004, iLn1000000003, iLn1000000002, iLn1000000001, iLn99999, iLn9999, iLn2, iLn1, iL0, iL1, iL2, iL3, iL4, iL5, iL6, iL7, iL8, iL9, iL10, iL15, iL16, iL31, iL32, iL40, iL42, iL45, iL48, iL57, iL59, iL63, iL64, iL65, iL120, iL126, iL455, iL520, iL9999, iL99999, iN2, iN8, iN64, iN65, iN120, iN130, iN520]
    rw [if_neg (by omega)] at hQ
    refine ⟨by omega, by omega, by omega, fun c4 => q_b hQ (bZ_t ?_), fun c4 => ⟨fun c5 => q_b hQ (bZ_f ?_), fun c5 => q_b hQ (bZ_t ?_)⟩⟩ <;>
      simp only [Bool.and_eq_true, Bool.or_eq_true, decide_eq_true_eq] <;> omega
  · rw [if_pos (Or.inr (Or.inr c3))]
    simp
theorem s_md_layOutliers (hG : qGood Ls xs P) {lim : Int} (hX : mX M n f) (h1 : 0 ≤ lim) (h2 : lim ≤ 99999) (hQ : ∀ M', mF42 M M' → (∀ j, j < n → M'.1 42 j = iI (bZ (otl n f lim j = true))) → Q (some (.int (iI (cz (otl n f lim) n)))) M') : P 106 0 [(0, .ref 36), (1, .int (iI lim))] [] M Q := by
  have hn := hX.2.1
  refine v_md_layOutliers_0 hG ?_
  have key : ∀ (d j : Nat) (M1 : qMem), j + d = n → mF42 M M1 → (∀ i, i < j → M1.1 42 i = iI (bZ (otl n f lim i = true))) → P 106 4 [(0, .ref 36), (1, .int (iI lim)), (2, .int (iI (cz (otl n f lim) j))), (3, .int (iI j))] [] M1 Q := by
    intro d
    induction d with
    | zero =>
      intro j M1 hj hF hL
      have e : j = n := by omega
      subst e
      refine v_md_layOutliers_4 hG ?_
      refine s_md_many hG (hX.fm (hF.1 37 (by decide))) ?_
      refine v_md_layOutliers_7 hG ?_
      simp (disch := omega) only [iI_add, iI_sub, iI_mul, iI_neg, iI_lt, iI_le, iI_eq, iI_cl, vp_iI, Classical.not_not, iLn1000000005, iLn1000000004, iLn1000000003, iLn1000000002, iLn1000000001, iLn99999, iLn9999, iLn2, iLn1, iL0, iL1, iL2, iL3, iL4, iL5, iL6, iL7, iL8, iL9, iL10, iL15, iL16, iL31, iL32, iL40, iL42, iL45, iL48, iL57, iL59, iL63, iL64, iL65, iL120, iL126, iL455, iL520, iL9999, iL99999, iN2, iN8, iN64, iN65, iN120, iN130, iN520]
      exact ⟨fun _ => hQ M1 hF hL, fun c => by omega⟩
    | succ d ih =>
      intro j M1 hj hF hL
      have hb := cz_in (otl n f lim) j
      have hX1 := hX.fm (M' := M1) (hF.1 37 (by decide))
      refine v_md_layOutliers_4 hG ?_
      refine s_md_many hG hX1 ?_
      refine v_md_layOutliers_7 hG ?_
      simp (disch := omega) only [iI_add, iI_sub, iI_mul, iI_neg, iI_lt, iI_le, iI_eq, iI_cl, vp_iI, Classical.not_not, iLn1000000005, iLn1000000004, iLn1000000003, iLn1000000002, iLn1000000001, iLn99999, iLn9999, iLn2, iLn1, iL0, iL1, iL2, iL3, iL4, iL5, iL6, iL7, iL8, iL9, iL10, iL15, iL16, iL31, iL32, iL40, iL42, iL45, iL48, iL57, iL59, iL63, iL64, iL65, iL120, iL126, iL455, iL520, iL9999, iL99999, iN2, iN8, iN64, iN65, iN120, iN130, iN520]
      refine ⟨fun c => by omega, fun _ => ?_⟩
      refine s_md_isOutlier hG hX1 (by omega) h1 h2 ?_
      refine v_md_layOutliers_15 hG ?_
      have hz := bZ_in (otl n f lim j = true)
      have hnar : vp_nar .boolean (iI (bZ (otl n f lim j = true))) = iI (bZ (otl n f lim j = true)) := by
        unfold bZ
        split <;> decide
      rw [hnar]
      simp (disch := omega) only [iI_add, iI_sub, iI_mul, iI_neg, iI_lt, iI_le, iI_eq, iI_cl, vp_iI, Classical.not_not, iLn1000000005, iLn1000000004, iLn1000000003, iLn1000000002, iLn1000000001, iLn99999, iLn9999, iLn2, iLn1, iL0, iL1, iL2, iL3, iL4, iL5, iL6, iL7, iL8, iL9, iL10, iL15, iL16, iL31, iL32, iL40, iL42, iL45, iL48, iL57, iL59, iL63, iL64, iL65, iL120, iL126, iL455, iL520, iL9999, iL99999, iN2, iN8, iN64, iN65, iN120, iN130, iN520]
      rw [show (j : Int).toNat = j by omega, pI_e]
      simp (disch := omega) only [iI_add, iI_sub, iI_mul, iI_neg, iI_lt, iI_le, iI_eq, iI_cl, vp_iI, Classical.not_not, iLn1000000005, iLn1000000004, iLn1000000003, iLn1000000002, iLn1000000001, iLn99999, iLn9999, iLn2, iLn1, iL0, iL1, iL2, iL3, iL4, iL5, iL6, iL7, iL8, iL9, iL10, iL15, iL16, iL31, iL32, iL40, iL42, iL45, iL48, iL57, iL59, iL63, iL64, iL65, iL120, iL126, iL455, iL520, iL9999, iL99999, iN2, iN8, iN64, iN65, iN120, iN130, iN520, bZ_0]
      have hI := ih (j + 1) (pI M1 42 j (iI (bZ (otl n f lim j = true)))) (by omega) ⟨fun a ha => (pI_o ha).trans (hF.1 a ha), hF.2⟩ (fun i hi => by
        by_cases e : i = j
        · subst e
          exact pI_e
        · rw [pI_nj e]
          exact hL i (by omega))
      unfold cz at hI
      refine ⟨by omega, by omega, fun c => ?_, fun c => ?_⟩
      · rw [if_neg c] at hI
        exact hI
      · rw [if_pos c] at hI
        exact hI
  simp (disch := omega) only [iI_add, iI_sub, iI_mul, iI_neg, iI_lt, iI_le, iI_eq, iI_cl, vp_iI, Classical.not_not, iLn1000000005, iLn1000000004, iLn1000000003, iLn1000000002, iLn1000000001, iLn99999, iLn9999, iLn2, iLn1, iL0, iL1, iL2, iL3, iL4, iL5, iL6, iL7, iL8, iL9, iL10, iL15, iL16, iL31, iL32, iL40, iL42, iL45, iL48, iL57, iL59, iL63, iL64, iL65, iL120, iL126, iL455, iL520, iL9999, iL99999, iN2, iN8, iN64, iN65, iN120, iN130, iN520]
  exact key n 0 M (by omega) ⟨fun _ _ => rfl, rfl⟩ (fun i hi => absurd hi (by omega))
end MD2
