/-! readings: their words, and what each method of the row answers -/
def okv (v : Int) : Prop := v = (-1000000001) ∨ (-99999 ≤ v ∧ v ≤ 99999)
def vl (n : Nat) (f : Nat → Int) (i : Int) : Int := if 0 ≤ i ∧ i < n then f i.toNat else (-1000000001)
def cRd (M : qMem) (k n : Nat) (f : Nat → Int) : Prop := M.1 k 1 = iI n ∧ n ≤ 64 ∧ ∀ j, j < n → M.1 (rf k 0) j = iI (f j) ∧ okv (f j)
def sec (n : Nat) (f : Nat → Int) (m i : Int) : Int := if vl n f i = (-1000000001) ∨ vl n f (i + m) = (-1000000001) ∨ vl n f (i + 2 * m) = (-1000000001) then (-1000000001) else vl n f (i + 2 * m) - 2 * vl n f (i + m) + vl n f i
def thr (n : Nat) (f : Nat → Int) (m i : Int) : Int := if vl n f i = (-1000000001) ∨ vl n f (i + m) = (-1000000001) ∨ vl n f (i + 2 * m) = (-1000000001) ∨ vl n f (i + 3 * m) = (-1000000001) then (-1000000001) else vl n f (i + 3 * m) - 3 * vl n f (i + 2 * m) + 3 * vl n f (i + m) - vl n f i
def okS (g : Nat → Int) : Nat → Bool
  | 0 => true
  | k + 1 => okS g k && decide (g k ≠ (-1000000001))
def smS (g : Nat → Int) : Nat → Int
  | 0 => 0
  | k + 1 => smS g k + g k
def men (n : Nat) (f : Nat → Int) (m : Nat) (i : Int) : Int := if okS (fun j => sec n f m (i + j)) m = true then smS (fun j => sec n f m (i + j)) m else (-1000000001)
def dif (n : Nat) (f : Nat → Int) (o : Int) (m : Nat) (i : Int) : Int := if 0 ≤ i ∧ i < n then (if o = 2 then sec n f m i else if o = 3 then thr n f m i else men n f m i) else (-1000000001)
def cz (p : Nat → Bool) : Nat → Int
  | 0 => 0
  | k + 1 => cz p k + (if p k = true then 1 else 0)
theorem cz_in (p : Nat → Bool) : ∀ k, 0 ≤ cz p k ∧ cz p k ≤ k := by
  intro k
  induction k with
  | zero => exact ⟨Int.le_refl _, Int.le_refl _⟩
  | succ k ih =>
    unfold cz
    split <;> (push_cast; omega)
theorem vl_ok {n : Nat} {f : Nat → Int} (hf : ∀ j, j < n → okv (f j)) (i : Int) : okv (vl n f i) := by
  unfold vl
  split
  · exact hf _ (by omega)
  · exact Or.inl rfl
theorem sec_ok {n : Nat} {f : Nat → Int} (hf : ∀ j, j < n → okv (f j)) (m i : Int) : sec n f m i = (-1000000001) ∨ (-399996 ≤ sec n f m i ∧ sec n f m i ≤ 399996) := by
  have h1 := vl_ok hf i
  have h2 := vl_ok hf (i + m)
  have h3 := vl_ok hf (i + 2 * m)
  unfold okv at h1 h2 h3
  unfold sec
  split <;> omega
theorem thr_ok {n : Nat} {f : Nat → Int} (hf : ∀ j, j < n → okv (f j)) (m i : Int) : thr n f m i = (-1000000001) ∨ (-799992 ≤ thr n f m i ∧ thr n f m i ≤ 799992) := by
  have h1 := vl_ok hf i
  have h2 := vl_ok hf (i + m)
  have h3 := vl_ok hf (i + 2 * m)
  have h4 := vl_ok hf (i + 3 * m)
  unfold okv at h1 h2 h3 h4
  unfold thr
  split <;> omega
theorem smS_in {g : Nat → Int} {B : Int} (hg : ∀ j, g j = (-1000000001) ∨ (-B ≤ g j ∧ g j ≤ B)) : ∀ k : Nat, okS g k = true → -(B * k) ≤ smS g k ∧ smS g k ≤ B * k := by
  intro k
  induction k with
  | zero => intro _; simp [smS]
  | succ k ih =>
    intro h
    unfold okS at h
    simp only [Bool.and_eq_true, decide_eq_true_eq] at h
    have h1 := ih h.1
    have h2 := hg k
    unfold smS
    have e : B * ((k + 1 : Nat) : Int) = B * k + B := by push_cast; rw [Int.mul_add, Int.mul_one]
    rw [e]
    omega
theorem men_ok {n : Nat} {f : Nat → Int} (hf : ∀ j, j < n → okv (f j)) {m : Nat} (hm : m ≤ 31) (i : Int) : men n f m i = (-1000000001) ∨ (-12399876 ≤ men n f m i ∧ men n f m i ≤ 12399876) := by
  unfold men
  split
  · rename_i h
    have h1 := smS_in (B := 399996) (fun j => sec_ok hf m (i + j)) m h
    omega
  · exact Or.inl rfl
theorem dif_ok {n : Nat} {f : Nat → Int} (hf : ∀ j, j < n → okv (f j)) {m : Nat} (hm : m ≤ 31) (o i : Int) : dif n f o m i = (-1000000001) ∨ (-12399876 ≤ dif n f o m i ∧ dif n f o m i ≤ 12399876) := by
  have h1 := sec_ok hf m i
  have h2 := thr_ok hf m i
  have h3 := men_ok hf hm i
  unfold dif
  split
  · split
    · omega
    · split <;> omega
  · exact Or.inl rfl
section RD
variable {Ls : Nat} {xs : Nat → Int32} {P : qSem} {k n : Nat} {f : Nat → Int} {M : qMem} {Q : qPost}
theorem cRd.ok (h : cRd M k n f) : ∀ j, j < n → okv (f j) := fun j hj => (h.2.2 j hj).2
theorem s_rd_size (hG : qGood Ls xs P) (hk : qRd k) (hR : cRd M k n f) (hQ : Q (some (.int (iI n))) M) : P 10 0 [(0, .ref k)] [] M Q := by
  refine v_rd_size_0 hG hk ?_
  rw [hR.1]
  exact hQ
theorem s_rd_reaches (hG : qGood Ls xs P) {i : Int} (hk : qRd k) (hR : cRd M k n f) (h1 : -2147483648 ≤ i) (h2 : i < 2147483648) (hQ : Q (some (.int (iI (bZ (0 ≤ i ∧ i < n))))) M) : P 11 0 [(0, .ref k), (1, .int (iI i))] [] M Q := by
  obtain ⟨r1, r2, r3⟩ := hR
  refine v_rd_reaches_0 hG hk ?_
  simp (disch := omega) only [iI_add, iI_sub, iI_mul, iI_neg, iI_lt, iI_le, iI_eq, iI_cl, vp_iI, Classical.not_not, iLn1000000005, iLn1000000004, iLn1000000003, iLn1000000002, iLn1000000001, iLn99999, iLn9999, iLn2, iLn1, iL0, iL1, iL2, iL3, iL4, iL5, iL6, iL7, iL8, iL9, iL10, iL15, iL16, iL31, iL32, iL40, iL42, iL45, iL48, iL57, iL59, iL63, iL64, iL65, iL120, iL126, iL455, iL520, iL9999, iL99999, iN2, iN8, iN64, iN65, iN120, iN130, iN520, r1]
  refine ⟨fun c => ?_, fun c => ⟨fun c2 => ?_, fun c2 => ?_⟩⟩
  · exact q_b hQ (bZ_f (by omega))
  · exact q_b hQ (bZ_f (by omega))
  · exact q_b hQ (bZ_t (by omega))
theorem s_rd_at (hG : qGood Ls xs P) {i : Int} (hk : qRd k) (hR : cRd M k n f) (h1 : -2147483648 ≤ i) (h2 : i < 2147483648) (hQ : Q (some (.int (iI (vl n f i)))) M) : P 13 0 [(0, .ref k), (1, .int (iI i))] [] M Q := by
  obtain ⟨r1, r2, r3⟩ := hR
  refine v_rd_at_0 hG hk ?_
  simp (disch := omega) only [iI_add, iI_sub, iI_mul, iI_neg, iI_lt, iI_le, iI_eq, iI_cl, vp_iI, Classical.not_not, iLn1000000005, iLn1000000004, iLn1000000003, iLn1000000002, iLn1000000001, iLn99999, iLn9999, iLn2, iLn1, iL0, iL1, iL2, iL3, iL4, iL5, iL6, iL7, iL8, iL9, iL10, iL15, iL16, iL31, iL32, iL40, iL42, iL45, iL48, iL57, iL59, iL63, iL64, iL65, iL120, iL126, iL455, iL520, iL9999, iL99999, iN2, iN8, iN64, iN65, iN120, iN130, iN520, r1]
  refine ⟨fun c => ?_, fun c => ⟨fun c2 => ?_, fun c2 => ⟨fun c3 => ⟨by omega, ?_⟩, fun c3 => ?_⟩⟩⟩
  · exact q_i (by unfold vl; split <;> omega) hQ
  · exact q_i (by unfold vl; split <;> omega) hQ
  · rw [(r3 i.toNat (by omega)).1]
    exact q_i (by unfold vl; split <;> first | rfl | omega) hQ
  · exact q_i (by unfold vl; split <;> omega) hQ
theorem s_rd_has (hG : qGood Ls xs P) {i : Int} (hk : qRd k) (hR : cRd M k n f) (h1 : -2147483648 ≤ i) (h2 : i < 2147483648) (hQ : Q (some (.int (iI (bZ (vl n f i ≠ (-1000000001)))))) M) : P 12 0 [(0, .ref k), (1, .int (iI i))] [] M Q := by
  refine v_rd_has_0 hG hk ?_
  refine s_rd_at hG hk hR h1 h2 ?_
  refine v_rd_has_3 hG ?_
  have h3 := vl_ok hR.ok i
  unfold okv at h3
  simp (disch := omega) only [iI_add, iI_sub, iI_mul, iI_neg, iI_lt, iI_le, iI_eq, iI_cl, vp_iI, Classical.not_not, iLn1000000005, iLn1000000004, iLn1000000003, iLn1000000002, iLn1000000001, iLn99999, iLn9999, iLn2, iLn1, iL0, iL1, iL2, iL3, iL4, iL5, iL6, iL7, iL8, iL9, iL10, iL15, iL16, iL31, iL32, iL40, iL42, iL45, iL48, iL57, iL59, iL63, iL64, iL65, iL120, iL126, iL455, iL520, iL9999, iL99999, iN2, iN8, iN64, iN65, iN120, iN130, iN520]
  refine ⟨fun c => q_b hQ (bZ_f (fun z => z c)), fun c => q_b hQ (bZ_t c)⟩
theorem s_rd_put (hG : qGood Ls xs P) {i : Int} {x : Int} (hk : qRd k) (hR : cRd M k n f) (hx : okv x) (h1 : 0 ≤ i) (h2 : i < n) (hQ : ∀ M', cRd M' k n (fun j => if j = i.toNat then x else f j) → qFm [k, rf k 0] M M' → Q none M') : P 14 0 [(0, .ref k), (1, .int (iI i)), (2, .int (iI x))] [] M Q := by
  obtain ⟨r1, r2, r3⟩ := id hR
  refine v_rd_put_0 hG hk ?_
  simp (disch := omega) only [iI_add, iI_sub, iI_mul, iI_neg, iI_lt, iI_le, iI_eq, iI_cl, vp_iI, Classical.not_not, iLn1000000005, iLn1000000004, iLn1000000003, iLn1000000002, iLn1000000001, iLn99999, iLn9999, iLn2, iLn1, iL0, iL1, iL2, iL3, iL4, iL5, iL6, iL7, iL8, iL9, iL10, iL15, iL16, iL31, iL32, iL40, iL42, iL45, iL48, iL57, iL59, iL63, iL64, iL65, iL120, iL126, iL455, iL520, iL9999, iL99999, iN2, iN8, iN64, iN65, iN120, iN130, iN520, r1]
  refine ⟨fun c => by omega, fun c => ⟨fun c2 => by omega, fun c2 => ⟨fun c3 => by omega, fun c3 => ⟨by omega, ?_⟩⟩⟩⟩
  have hne : k ≠ rf k 0 := fun e => by have q := hk.1; rw [e, hk.2.1] at q; omega
  refine hQ _ ⟨by rw [pI_n hne]; exact r1, r2, fun j hj => ?_⟩ (qFm.pI (by simp))
  by_cases e : j = i.toNat
  · subst e
    simp only [if_true]
    exact ⟨pI_e, hx⟩
  · dsimp only
    rw [pI_nj e, if_neg e]
    exact r3 j hj
theorem s_rd_append (hG : qGood Ls xs P) {x : Int} (hk : qRd k) (hR : cRd M k n f) (hx : okv x) (h2 : n < 64) (hQ : ∀ M', cRd M' k (n + 1) (fun j => if j = n then x else f j) → qFm [k, rf k 0] M M' → Q none M') : P 15 0 [(0, .ref k), (1, .int (iI x))] [] M Q := by
  obtain ⟨r1, r2, r3⟩ := id hR
  refine v_rd_append_0 hG hk ?_
  have hne : k ≠ rf k 0 := fun e => by have q := hk.1; rw [e, hk.2.1] at q; omega
  rw [pI_n hne]
  simp (disch := omega) only [iI_add, iI_sub, iI_mul, iI_neg, iI_lt, iI_le, iI_eq, iI_cl, vp_iI, Classical.not_not, iLn1000000005, iLn1000000004, iLn1000000003, iLn1000000002, iLn1000000001, iLn99999, iLn9999, iLn2, iLn1, iL0, iL1, iL2, iL3, iL4, iL5, iL6, iL7, iL8, iL9, iL10, iL15, iL16, iL31, iL32, iL40, iL42, iL45, iL48, iL57, iL59, iL63, iL64, iL65, iL120, iL126, iL455, iL520, iL9999, iL99999, iN2, iN8, iN64, iN65, iN120, iN130, iN520, r1]
  refine ⟨fun c => by omega, fun c => ⟨fun c2 => by omega, fun c2 => ⟨by omega, ?_⟩⟩⟩
  have en : (n : Int).toNat = n := by omega
  rw [en]
  refine hQ _ ⟨by rw [pI_e]; rfl, by omega, fun j hj => ?_⟩ ((qFm.pI (by simp)).tr (qFm.pI (by simp)))
  rw [pI_n (fun e => hne e.symm)]
  by_cases e : j = n
  · subst e
    simp only [if_true]
    exact ⟨pI_e, hx⟩
  · dsimp only
    rw [pI_nj e, if_neg e]
    exact r3 j (by omega)
theorem s_rd_empty (hG : qGood Ls xs P) (hk : qRd k) (hQ : ∀ M', cRd M' k 0 f → qFm [k] M M' → Q none M') : P 17 0 [(0, .ref k)] [] M Q := by
  refine v_rd_empty_0 hG hk ?_
  simp (disch := omega) only [iI_add, iI_sub, iI_mul, iI_neg, iI_lt, iI_le, iI_eq, iI_cl, vp_iI, Classical.not_not, iLn1000000005, iLn1000000004, iLn1000000003, iLn1000000002, iLn1000000001, iLn99999, iLn9999, iLn2, iLn1, iL0, iL1, iL2, iL3, iL4, iL5, iL6, iL7, iL8, iL9, iL10, iL15, iL16, iL31, iL32, iL40, iL42, iL45, iL48, iL57, iL59, iL63, iL64, iL65, iL120, iL126, iL455, iL520, iL9999, iL99999, iN2, iN8, iN64, iN65, iN120, iN130, iN520]
  exact hQ _ ⟨by rw [pI_e]; rfl, by omega, fun j hj => absurd hj (by omega)⟩ (qFm.pI (by simp))
theorem cRd.eqv {g : Nat → Int} (h : cRd M k n f) (hg : ∀ j, j < n → g j = f j) : cRd M k n g := ⟨h.1, h.2.1, fun j hj => by rw [hg j hj]; exact h.2.2 j hj⟩
theorem cRd.fm {M' : qMem} {A : List Nat} (h : cRd M k n f) (hF : qFm A M M') (h1 : k ∉ A) (h2 : rf k 0 ∉ A) : cRd M' k n f := ⟨by rw [(hF k h1).1]; exact h.1, h.2.1, fun j hj => by rw [(hF _ h2).1]; exact h.2.2 j hj⟩
theorem s_rd_appendTimes (hG : qGood Ls xs P) {x : Int} {t : Nat} (hk : qRd k) (hR : cRd M k n f) (hx : okv x) (h2 : n + t ≤ 64) (hQ : ∀ M', cRd M' k (n + t) (fun j => if j < n then f j else x) → qFm [k, rf k 0] M M' → Q none M') : P 16 0 [(0, .ref k), (1, .int (iI x)), (2, .int (iI t))] [] M Q := by
  refine v_rd_appendTimes_0 hG hk ?_
  have key : ∀ (d j : Nat) (M1 : qMem), j + d = t → cRd M1 k (n + j) (fun i => if i < n then f i else x) → qFm [k, rf k 0] M M1 → P 16 2 [(0, .ref k), (1, .int (iI x)), (2, .int (iI t)), (3, .int (iI j))] [] M1 Q := by
    intro d
    induction d with
    | zero =>
      intro j M1 hj hR1 hF
      refine v_rd_appendTimes_2 hG hk ?_
      simp (disch := omega) only [iI_add, iI_sub, iI_mul, iI_neg, iI_lt, iI_le, iI_eq, iI_cl, vp_iI, Classical.not_not, iLn1000000005, iLn1000000004, iLn1000000003, iLn1000000002, iLn1000000001, iLn99999, iLn9999, iLn2, iLn1, iL0, iL1, iL2, iL3, iL4, iL5, iL6, iL7, iL8, iL9, iL10, iL15, iL16, iL31, iL32, iL40, iL42, iL45, iL48, iL57, iL59, iL63, iL64, iL65, iL120, iL126, iL455, iL520, iL9999, iL99999, iN2, iN8, iN64, iN65, iN120, iN130, iN520]
      refine ⟨fun c => ?_, fun c => by omega⟩
      have e : j = t := by omega
      subst e
      exact hQ M1 hR1 hF
    | succ d ih =>
      intro j M1 hj hR1 hF
      refine v_rd_appendTimes_2 hG hk ?_
      simp (disch := omega) only [iI_add, iI_sub, iI_mul, iI_neg, iI_lt, iI_le, iI_eq, iI_cl, vp_iI, Classical.not_not, iLn1000000005, iLn1000000004, iLn1000000003, iLn1000000002, iLn1000000001, iLn99999, iLn9999, iLn2, iLn1, iL0, iL1, iL2, iL3, iL4, iL5, iL6, iL7, iL8, iL9, iL10, iL15, iL16, iL31, iL32, iL40, iL42, iL45, iL48, iL57, iL59, iL63, iL64, iL65, iL120, iL126, iL455, iL520, iL9999, iL99999, iN2, iN8, iN64, iN65, iN120, iN130, iN520]
      refine ⟨fun c => by omega, fun c => ?_⟩
      refine s_rd_append hG hk hR1 hx (by omega) (fun M2 hR2 hF2 => ?_)
      refine v_rd_appendTimes_8 hG hk ?_
      simp (disch := omega) only [iI_add, iI_sub, iI_mul, iI_neg, iI_lt, iI_le, iI_eq, iI_cl, vp_iI, Classical.not_not, iLn1000000005, iLn1000000004, iLn1000000003, iLn1000000002, iLn1000000001, iLn99999, iLn9999, iLn2, iLn1, iL0, iL1, iL2, iL3, iL4, iL5, iL6, iL7, iL8, iL9, iL10, iL15, iL16, iL31, iL32, iL40, iL42, iL45, iL48, iL57, iL59, iL63, iL64, iL65, iL120, iL126, iL455, iL520, iL9999, iL99999, iN2, iN8, iN64, iN65, iN120, iN130, iN520]
      refine ih (j + 1) M2 (by omega) ?_ (hF.tr hF2)
      refine cRd.eqv (n := n + (j + 1)) hR2 (fun i hi => ?_)
      by_cases e : i = n + j
      · subst e
        rw [if_neg (by omega), if_pos rfl]
      · rw [if_neg e]
  simp (disch := omega) only [iI_add, iI_sub, iI_mul, iI_neg, iI_lt, iI_le, iI_eq, iI_cl, vp_iI, Classical.not_not, iLn1000000005, iLn1000000004, iLn1000000003, iLn1000000002, iLn1000000001, iLn99999, iLn9999, iLn2, iLn1, iL0, iL1, iL2, iL3, iL4, iL5, iL6, iL7, iL8, iL9, iL10, iL15, iL16, iL31, iL32, iL40, iL42, iL45, iL48, iL57, iL59, iL63, iL64, iL65, iL120, iL126, iL455, iL520, iL9999, iL99999, iN2, iN8, iN64, iN65, iN120, iN130, iN520]
  exact key t 0 M (by omega) (hR.eqv (fun j hj => by rw [if_pos hj])) qFm.rf
theorem s_rd_copyFrom (hG : qGood Ls xs P) {k1 n1 : Nat} {f1 : Nat → Int} (hk : qRd k) (hk1 : qRd k1) (hne : k1 ≠ k) (hne2 : rf k1 0 ≠ rf k 0) (hR : cRd M k1 n1 f1) (hQ : ∀ M', cRd M' k n1 f1 → qFm [k, rf k 0] M M' → Q none M') : P 18 0 [(0, .ref k), (1, .ref k1)] [] M Q := by
  have a1 : k1 ∉ [k, rf k 0] := by
    simp only [List.mem_cons, List.not_mem_nil, or_false, not_or]
    exact ⟨hne, fun e => by have q := hk1.1; rw [e, hk.2.1] at q; omega⟩
  have a2 : rf k1 0 ∉ [k, rf k 0] := by
    simp only [List.mem_cons, List.not_mem_nil, or_false, not_or]
    exact ⟨fun e => by have q := hk.1; rw [← e, hk1.2.1] at q; omega, hne2⟩
  refine v_rd_copyFrom_0 hG hk hk1 ?_
  refine s_rd_empty (f := f1) hG hk (fun M0 hR0 hF0 => ?_)
  refine v_rd_copyFrom_2 hG hk hk1 ?_
  have key : ∀ (d j : Nat) (M1 : qMem), j + d = n1 → cRd M1 k j f1 → qFm [k, rf k 0] M M1 → P 18 4 [(0, .ref k), (1, .ref k1), (2, .int (iI j))] [] M1 Q := by
    intro d
    induction d with
    | zero =>
      intro j M1 hj hR1 hF
      have hn1 := hR.2.1
      refine v_rd_copyFrom_4 hG hk hk1 ?_
      refine s_rd_size hG hk1 (hR.fm hF a1 a2) ?_
      refine v_rd_copyFrom_7 hG hk hk1 ?_
      simp (disch := omega) only [iI_add, iI_sub, iI_mul, iI_neg, iI_lt, iI_le, iI_eq, iI_cl, vp_iI, Classical.not_not, iLn1000000005, iLn1000000004, iLn1000000003, iLn1000000002, iLn1000000001, iLn99999, iLn9999, iLn2, iLn1, iL0, iL1, iL2, iL3, iL4, iL5, iL6, iL7, iL8, iL9, iL10, iL15, iL16, iL31, iL32, iL40, iL42, iL45, iL48, iL57, iL59, iL63, iL64, iL65, iL120, iL126, iL455, iL520, iL9999, iL99999, iN2, iN8, iN64, iN65, iN120, iN130, iN520]
      refine ⟨fun c => ?_, fun c => by omega⟩
      have e : j = n1 := by omega
      subst e
      exact hQ M1 hR1 hF
    | succ d ih =>
      intro j M1 hj hR1 hF
      have hn1 := hR.2.1
      have hS := hR.fm hF a1 a2
      refine v_rd_copyFrom_4 hG hk hk1 ?_
      refine s_rd_size hG hk1 hS ?_
      refine v_rd_copyFrom_7 hG hk hk1 ?_
      simp (disch := omega) only [iI_add, iI_sub, iI_mul, iI_neg, iI_lt, iI_le, iI_eq, iI_cl, vp_iI, Classical.not_not, iLn1000000005, iLn1000000004, iLn1000000003, iLn1000000002, iLn1000000001, iLn99999, iLn9999, iLn2, iLn1, iL0, iL1, iL2, iL3, iL4, iL5, iL6, iL7, iL8, iL9, iL10, iL15, iL16, iL31, iL32, iL40, iL42, iL45, iL48, iL57, iL59, iL63, iL64, iL65, iL120, iL126, iL455, iL520, iL9999, iL99999, iN2, iN8, iN64, iN65, iN120, iN130, iN520]
      refine ⟨fun c => by omega, fun c => ?_⟩
      refine s_rd_at hG hk1 hS (by omega) (by omega) ?_
      refine v_rd_copyFrom_12 hG hk hk1 ?_
      refine s_rd_append hG hk hR1 (vl_ok hR.ok _) (by omega) (fun M2 hR2 hF2 => ?_)
      refine v_rd_copyFrom_13 hG hk hk1 ?_
      simp (disch := omega) only [iI_add, iI_sub, iI_mul, iI_neg, iI_lt, iI_le, iI_eq, iI_cl, vp_iI, Classical.not_not, iLn1000000005, iLn1000000004, iLn1000000003, iLn1000000002, iLn1000000001, iLn99999, iLn9999, iLn2, iLn1, iL0, iL1, iL2, iL3, iL4, iL5, iL6, iL7, iL8, iL9, iL10, iL15, iL16, iL31, iL32, iL40, iL42, iL45, iL48, iL57, iL59, iL63, iL64, iL65, iL120, iL126, iL455, iL520, iL9999, iL99999, iN2, iN8, iN64, iN65, iN120, iN130, iN520]
      refine ih (j + 1) M2 (by omega) (hR2.eqv (fun i hi => ?_)) (hF.tr hF2)
      by_cases e : i = j
      · subst e
        rw [if_pos rfl]
        unfold vl
        rw [if_pos (by omega)]
        congr 1
      · rw [if_neg e]
  simp (disch := omega) only [iI_add, iI_sub, iI_mul, iI_neg, iI_lt, iI_le, iI_eq, iI_cl, vp_iI, Classical.not_not, iLn1000000005, iLn1000000004, iLn1000000003, iLn1000000002, iLn1000000001, iLn99999, iLn9999, iLn2, iLn1, iL0, iL1, iL2, iL3, iL4, iL5, iL6, iL7, iL8, iL9, iL10, iL15, iL16, iL31, iL32, iL40, iL42, iL45, iL48, iL57, iL59, iL63, iL64, iL65, iL120, iL126, iL455, iL520, iL9999, iL99999, iN2, iN8, iN64, iN65, iN120, iN130, iN520]
  exact key n1 0 M0 (by omega) hR0 (hF0.up (by simp))
end RD
