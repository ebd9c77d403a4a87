/-! variances: bounds, and how both sides make them -/
theorem sqz_s (n : Nat) (f : Nat → Int) (o : Int) (m k : Nat) : sqz n f o m (k + 1) = sqz n f o m k + (if dif n f o m k ≠ (-1000000001) then dif n f o m k * dif n f o m k else 0) := rfl
theorem sqz_le {n : Nat} {f : Nat → Int} {o : Int} {m : Nat} {C : Int} (hC : 0 ≤ C) (h : ∀ i : Nat, dif n f o m i ≠ (-1000000001) → dif n f o m i * dif n f o m i ≤ C) : ∀ k, 0 ≤ sqz n f o m k ∧ sqz n f o m k ≤ C * cz (fun j => decide (dif n f o m j ≠ (-1000000001))) k := by
  intro k
  induction k with
  | zero => simp [sqz, cz]
  | succ k ih =>
    unfold sqz cz
    by_cases e : dif n f o m k ≠ (-1000000001)
    · rw [if_pos e, if_pos (by simpa using e), Int.mul_add, Int.mul_one]
      have h1 := h k e
      have h2 : 0 ≤ dif n f o m k * dif n f o m k := by
        rcases Int.lt_or_le (dif n f o m k) 0 with q | q
        · exact Int.mul_nonneg_of_nonpos_of_nonpos (by omega) (by omega)
        · exact Int.mul_nonneg q q
      omega
    · rw [if_neg e, if_neg (by simpa using e), Int.add_zero, Int.add_zero]
      exact ih
theorem dif_sq1 {n : Nat} {f : Nat → Int} (hf : ∀ j, j < n → okv (f j)) {m : Nat} (hm : m ≤ 31) (o : Int) (i : Nat) (h : dif n f o m i ≠ (-1000000001)) : dif n f o m i * dif n f o m i ≤ 153756924815376 := by
  have h1 := dif_ok hf hm o i
  exact (mul_bd (A := 12399876) (C := 12399876) (a := dif n f o m i) (c := dif n f o m i) (by omega) (by omega) (by omega) (by omega)).2
def wOK (w : Int) : Prop := 0 ≤ w ∧ w ≤ 3
theorem dv_0 (m : Int) : dv 0 m = 2 * (m * m) := by unfold dv; rw [if_pos rfl, Int.mul_assoc]
theorem dv_1 (m : Int) : dv 1 m = 6 * (m * m) := by unfold dv; rw [if_neg (by decide), if_neg (by decide), Int.mul_assoc]
theorem dv_2 (m : Int) : dv 2 m = 2 * (m * m) * (m * m) := by unfold dv; rw [if_neg (by decide), if_pos rfl]; simp only [Int.mul_assoc]
theorem dv_3 (m : Int) : dv 3 m = 6 * (m * m) := by unfold dv; rw [if_neg (by decide), if_neg (by decide), Int.mul_assoc]
theorem men_ok2 {n : Nat} {f : Nat → Int} (hf : ∀ j, j < n → okv (f j)) {m : Nat} (i : Int) : men n f m i = (-1000000001) ∨ (-((399996 * m : Nat) : Int) ≤ men n f m i ∧ men n f m i ≤ ((399996 * m : Nat) : Int)) := by
  unfold men
  split
  · rename_i h
    have h1 := smS_in (B := 399996) (fun j => sec_ok hf m (i + j)) m h
    right
    omega
  · exact Or.inl rfl
theorem dif_sq2 {n : Nat} {f : Nat → Int} (hf : ∀ j, j < n → okv (f j)) {m : Nat} (hm : 1 ≤ m) {w : Int} (hw : wOK w) (i : Nat) (h : dif n f (od w) m i ≠ (-1000000001)) : dif n f (od w) m i * dif n f (od w) m i ≤ 110000000000 * dv w m := by
  have hmm : (1 : Int) ≤ (m : Int) * m := by
    have := Int.mul_le_mul (a := 1) (b := 1) (c := (m : Int)) (d := m) (by omega) (by omega) (by omega) (by omega)
    omega
  unfold wOK at hw
  unfold dif at h ⊢
  split at h
  · rename_i hi
    rw [if_pos hi]
    rcases (show w = 0 ∨ w = 1 ∨ w = 2 ∨ w = 3 by omega) with e | e | e | e
    · subst e
      have ho : od 0 = 2 := rfl
      rw [ho, if_pos rfl] at h ⊢
      have h1 := sec_ok hf m i
      have h2 := (mul_bd (A := 399996) (C := 399996) (a := sec n f m i) (c := sec n f m i) (by omega) (by omega) (by omega) (by omega)).2
      rw [dv_0]
      omega
    · subst e
      have ho : od 1 = 3 := rfl
      rw [ho, if_neg (by decide), if_pos rfl] at h ⊢
      have h1 := thr_ok hf m i
      have h2 := (mul_bd (A := 799992) (C := 799992) (a := thr n f m i) (c := thr n f m i) (by omega) (by omega) (by omega) (by omega)).2
      rw [dv_1]
      omega
    · subst e
      have ho : od 2 = 4 := rfl
      rw [ho, if_neg (by decide), if_neg (by decide)] at h ⊢
      have h1 := men_ok2 hf (m := m) i
      have h2 := (mul_bd (A := 399996 * m) (C := 399996 * m) (a := men n f m i) (c := men n f m i) (by omega) (by omega) (by omega) (by omega)).2
      rw [Nat.mul_mul_mul_comm] at h2
      rw [dv_2]
      have h3 : (m : Int) * m ≤ (m : Int) * m * ((m : Int) * m) := by
        have := Int.mul_le_mul_of_nonneg_left (a := 1) (b := (m : Int) * m) (c := (m : Int) * m) hmm (by omega)
        rw [Int.mul_one] at this
        exact this
      rw [Int.mul_assoc]
      omega
    · subst e
      have ho : od 3 = 4 := rfl
      rw [ho, if_neg (by decide), if_neg (by decide)] at h ⊢
      have h1 := men_ok2 hf (m := m) i
      have h2 := (mul_bd (A := 399996 * m) (C := 399996 * m) (a := men n f m i) (c := men n f m i) (by omega) (by omega) (by omega) (by omega)).2
      rw [Nat.mul_mul_mul_comm] at h2
      rw [dv_3]
      omega
  · exact absurd rfl h
theorem dv_in {m : Nat} (hm : 1 ≤ m) (hm2 : m ≤ 31) {w : Int} (hw : wOK w) : 1 ≤ dv w m ∧ dv w m ≤ 1847042 := by
  have h1 := mul_bd (A := 31) (C := 31) (a := (m : Int)) (c := m) (by omega) (by omega) (by omega) (by omega)
  have hmm : (1 : Int) ≤ (m : Int) * m := by
    have := Int.mul_le_mul (a := 1) (b := 1) (c := (m : Int)) (d := m) (by omega) (by omega) (by omega) (by omega)
    omega
  have h2 := mul_bd (A := 961) (C := 961) (a := (m : Int) * m) (c := (m : Int) * m) (by omega) (by omega) (by omega) (by omega)
  have h3 : (m : Int) * m ≤ (m : Int) * m * ((m : Int) * m) := by
    have := Int.mul_le_mul_of_nonneg_left (a := 1) (b := (m : Int) * m) (c := (m : Int) * m) hmm (by omega)
    rw [Int.mul_one] at this
    exact this
  unfold wOK at hw
  rcases (show w = 0 ∨ w = 1 ∨ w = 2 ∨ w = 3 by omega) with e | e | e | e <;> subst e
  · rw [dv_0]; omega
  · rw [dv_1]; omega
  · rw [dv_2, Int.mul_assoc]; omega
  · rw [dv_3]; omega
theorem od_in {w : Int} : 2 ≤ od w ∧ od w ≤ 4 := by
  unfold od
  split
  · omega
  · split <;> omega
section VB
variable {n : Nat} {f : Nat → Int}
theorem vS_c (hf : ∀ j, j < n → okv (f j)) (hn : n ≤ 64) {m : Nat} (hm2 : m ≤ 31) {w : Int} : ((vS n f w m : Nat) : Int) = sqz n f (od w) m n ∧ vS n f w m < 2 ^ 54 := by
  have h1 := sqz_le (n := n) (f := f) (o := od w) (m := m) (C := 153756924815376) (by omega) (fun i h => dif_sq1 hf hm2 _ i h) n
  have h2 := cz_in (fun j => decide (dif n f (od w) m j ≠ (-1000000001))) n
  unfold vS
  omega
theorem vB_c (hn : n ≤ 64) {m : Nat} (hm : 1 ≤ m) (hm2 : m ≤ 31) {w : Int} (hw : wOK w) : ((vB n f w m : Nat) : Int) = dv w m * cnd n f (od w) m ∧ vB n f w m < 2 ^ 27 ∧ (vB n f w m = 0 ↔ cnd n f (od w) m = 0) := by
  have h1 := dv_in hm hm2 hw
  have h2 := cz_in (fun j => decide (dif n f (od w) m j ≠ (-1000000001))) n
  have h3 : cnd n f (od w) m = cz (fun j => decide (dif n f (od w) m j ≠ (-1000000001))) n := rfl
  rw [← h3] at h2
  have h4 := mul_bd (A := 1847042) (C := 64) (a := dv w m) (c := cnd n f (od w) m) (by omega) (by omega) (by omega) (by omega)
  have h5 := Int.mul_nonneg (a := dv w m) (b := cnd n f (od w) m) (by omega) (by omega)
  unfold vB
  refine ⟨by omega, by omega, ?_⟩
  constructor
  · intro h
    have h6 : dv w m * cnd n f (od w) m = 0 := by omega
    rcases Int.mul_eq_zero.mp h6 with q | q
    · omega
    · exact q
  · intro h
    rw [h, Int.mul_zero]
    rfl
theorem vS_K (hf : ∀ j, j < n → okv (f j)) (hn : n ≤ 64) {m : Nat} (hm : 1 ≤ m) (hm2 : m ≤ 31) {w : Int} (hw : wOK w) : vS n f w m ≤ 110000000000 * vB n f w m := by
  have hd := dv_in hm hm2 hw
  have h1 := (sqz_le (n := n) (f := f) (o := od w) (m := m) (C := 110000000000 * dv w m) (by omega) (fun i h => dif_sq2 hf hm hw i h) n).2
  have h2 := vS_c hf hn hm2 (w := w)
  have h3 := (vB_c (n := n) (f := f) hn hm hm2 hw).1
  have h4 : cnd n f (od w) m = cz (fun j => decide (dif n f (od w) m j ≠ (-1000000001))) n := rfl
  rw [← h4, Int.mul_assoc, ← h3] at h1
  omega
theorem vND (hf : ∀ j, j < n → okv (f j)) (hn : n ≤ 64) {m : Nat} (hm : 1 ≤ m) (hm2 : m ≤ 31) {w : Int} (hw : wOK w) : vN n f w m < 2 ^ 54 ∧ vD n f w m < 2 ^ 27 ∧ (vD n f w m = 0 ↔ vB n f w m = 0) ∧ vN n f w m ≤ 110000000000 * vD n f w m := by
  have h1 := (vS_c hf hn hm2 (w := w)).2
  have h2 := (vB_c (n := n) (f := f) hn hm hm2 hw).2.1
  have h3 := vS_K hf hn hm hm2 hw
  unfold vN vD
  split
  · rename_i e
    omega
  · rename_i e
    have hg : 0 < Nat.gcd (vS n f w m) (vB n f w m) := Nat.gcd_pos_of_pos_right _ (by omega)
    have d1 := Nat.gcd_dvd_left (vS n f w m) (vB n f w m)
    have d2 := Nat.gcd_dvd_right (vS n f w m) (vB n f w m)
    generalize Nat.gcd (vS n f w m) (vB n f w m) = g at *
    obtain ⟨u, hu⟩ := d1
    obtain ⟨v, hv⟩ := d2
    rw [hu, hv, Nat.mul_div_cancel_left _ hg, Nat.mul_div_cancel_left _ hg]
    have hv0 : 0 < v := by
      rcases Nat.eq_zero_or_pos v with q | q
      · rw [q, Nat.mul_zero] at hv
        omega
      · exact q
    have hu1 : u ≤ g * u := Nat.le_mul_of_pos_left u hg
    have hv1 : v ≤ g * v := Nat.le_mul_of_pos_left v hg
    have hgv : 0 < g * v := Nat.mul_pos hg hv0
    refine ⟨by omega, by omega, by omega, ?_⟩
    rw [hu, hv] at h3
    have h4 : g * u ≤ g * (110000000000 * v) := by
      rw [Nat.mul_left_comm]
      exact h3
    exact Nat.le_of_mul_le_mul_left h4 hg
end VB
theorem isq_u {v r r' : Int} (h1 : 0 ≤ r) (h2 : r * r ≤ v) (h3 : v < (r + 1) * (r + 1)) (h4 : 0 ≤ r') (h5 : r' * r' ≤ v) (h6 : v < (r' + 1) * (r' + 1)) : r = r' := by
  have key : ∀ {a b : Int}, 0 ≤ a → 0 ≤ b → a * a ≤ v → v < (b + 1) * (b + 1) → a ≤ b := by
    intro a b ha hb hav hvb
    rcases Int.lt_or_le b a with q | q
    · exfalso
      have := Int.mul_le_mul (a := b + 1) (b := b + 1) (c := a) (d := a) (by omega) (by omega) (by omega) (by omega)
      omega
    · exact q
  have k1 := key h1 h4 h2 h6
  have k2 := key h4 h1 h5 h3
  omega
noncomputable def isq (v : Int) : Int := @dite _ (∃ r : Int, 0 ≤ r ∧ r * r ≤ v ∧ v < (r + 1) * (r + 1)) (Classical.propDecidable _) (fun h => Classical.choose h) (fun _ => 0)
-- if h : ∃ r : Int, 0 ≤ r ∧ r * r ≤ v ∧ v < (r + 1) * (r + 1) then Classical.choose h else 0
theorem isq_eq {v r : Int} (h1 : 0 ≤ r) (h2 : r * r ≤ v) (h3 : v < (r + 1) * (r + 1)) : isq v = r := by
  have hex : ∃ r : Int, 0 ≤ r ∧ r * r ≤ v ∧ v < (r + 1) * (r + 1) := ⟨r, h1, h2, h3⟩
  have e : isq v = Classical.choose hex := dif_pos hex
  have hs := Classical.choose_spec hex
  rw [e]
  exact isq_u hs.1 hs.2.1 hs.2.2 h1 h2 h3
theorem l_pow : ∀ p, p < 31 → ((1 : Int64) <<< ((iI (p : Nat)).toInt64 &&& 63)) = lI ((2 ^ p : Nat) : Int) := by decide +kernel
section VR
variable {Ls : Nat} {xs : Nat → Int32} {P : qSem} {n : Nat} {f : Nat → Int} {M : qMem} {Q : qPost}
theorem s_sa_squareRoot (hG : qGood Ls xs P) {v : Int} (h1 : 0 ≤ v) (h2 : v < 4611686018427387904) (hQ : Q (some (.long (lI (isq v)))) M) : P 69 0 [(0, .long (lI v))] [] M Q := by
  refine v_sa_squareRoot_0 hG ?_
  have key : ∀ (j : Nat) (r : Int), j ≤ 31 → 0 ≤ r → r + (2 ^ j : Nat) ≤ 2147483648 → r * r ≤ v → v < (r + (2 ^ j : Nat)) * (r + (2 ^ j : Nat)) → P 69 4 [(0, .long (lI v)), (2, .long (lI r)), (4, .int (iI ((j : Int) - 1)))] [] M Q := by
    intro j
    induction j with
    | zero =>
      intro r _ h3 h4 h5 h6
      refine v_sa_squareRoot_4 hG ?_
      simp (disch := omega) only [iI_add, iI_sub, iI_mul, iI_neg, iI_lt, iI_le, iI_eq, iI_cl, vp_iI, Classical.not_not, iLn1000000005, iLn1000000004, iLn1000000003, iLn1000000002, iLn1000000001, iLn99999, iLn9999, iLn2, iLn1, iL0, iL1, iL2, iL3, iL4, iL5, iL6, iL7, iL8, iL9, iL10, iL15, iL16, iL31, iL32, iL40, iL42, iL45, iL48, iL57, iL59, iL63, iL64, iL65, iL120, iL126, iL455, iL520, iL9999, iL99999, iN2, iN8, iN64, iN65, iN120, iN130, iN520]
      refine ⟨fun _ => ?_, fun c => by omega⟩
      rw [isq_eq h3 h5 (by simpa using h6)] at hQ
      exact hQ
    | succ j ih =>
      intro r hj h3 h4 h5 h6
      have hp : ((2 ^ (j + 1) : Nat) : Int) = 2 * ((2 ^ j : Nat) : Int) := by rw [Nat.pow_succ]; push_cast; omega
      have hpos : (1 : Int) ≤ ((2 ^ j : Nat) : Int) := by
        have := Nat.one_le_two_pow (n := j)
        omega
      refine v_sa_squareRoot_4 hG ?_
      rw [show (((j + 1 : Nat) : Int) - 1) = ((j : Nat) : Int) by omega, l_pow j (by omega), lI_add, lI_mul]
      have hb := mul_bd (A := 2147483648) (C := 2147483648) (a := r + ((2 ^ j : Nat) : Int)) (c := r + ((2 ^ j : Nat) : Int)) (by omega) (by omega) (by omega) (by omega)
      rw [lg_cmpZ (by omega) (by omega) (by omega) (by omega)]
      have hz := cmpZ_in ((r + ((2 ^ j : Nat) : Int)) * (r + ((2 ^ j : Nat) : Int))) v
      simp (disch := omega) only [iI_add, iI_sub, iI_mul, iI_neg, iI_lt, iI_le, iI_eq, iI_cl, vp_iI, Classical.not_not, iLn1000000005, iLn1000000004, iLn1000000003, iLn1000000002, iLn1000000001, iLn99999, iLn9999, iLn2, iLn1, iL0, iL1, iL2, iL3, iL4, iL5, iL6, iL7, iL8, iL9, iL10, iL15, iL16, iL31, iL32, iL40, iL42, iL45, iL48, iL57, iL59, iL63, iL64, iL65, iL120, iL126, iL455, iL520, iL9999, iL99999, iN2, iN8, iN64, iN65, iN120, iN130, iN520, cmpZ_p]
      rw [show (j : Int) + -1 = (j : Int) - 1 by omega]
      refine ⟨fun c => by omega, fun _ => ⟨fun c => ?_, fun c => ?_⟩⟩
      · exact ih r (by omega) h3 (by omega) h5 (by omega)
      · refine ih (r + ((2 ^ j : Nat) : Int)) (by omega) (by omega) (by omega) (by omega) ?_
        rw [show r + ((2 ^ j : Nat) : Int) + ((2 ^ j : Nat) : Int) = r + ((2 ^ (j + 1) : Nat) : Int) by omega]
        exact h6
  rw [show (30 : Int32) = iI ((31 : Nat) - 1) by decide, lL0]
  exact key 31 0 (by omega) (by omega) (by omega) (by omega) (by omega)
theorem s_sa_orderFor (hG : qGood Ls xs P) {w : Int} (hw : wOK w) (hQ : Q (some (.int (iI (od w)))) M) : P 67 0 [(0, .int (iI w))] [] M Q := by
  refine v_sa_orderFor_0 hG ?_
  unfold wOK at hw
  unfold od at hQ
  simp (disch := omega) only [iI_add, iI_sub, iI_mul, iI_neg, iI_lt, iI_le, iI_eq, iI_cl, vp_iI, Classical.not_not, iLn1000000005, iLn1000000004, iLn1000000003, iLn1000000002, iLn1000000001, iLn99999, iLn9999, iLn2, iLn1, iL0, iL1, iL2, iL3, iL4, iL5, iL6, iL7, iL8, iL9, iL10, iL15, iL16, iL31, iL32, iL40, iL42, iL45, iL48, iL57, iL59, iL63, iL64, iL65, iL120, iL126, iL455, iL520, iL9999, iL99999, iN2, iN8, iN64, iN65, iN120, iN130, iN520]
  refine ⟨fun c => ⟨fun c2 => ?_, fun c2 => ?_⟩, fun c => ?_⟩
  · rw [if_neg c, if_neg c2] at hQ; exact hQ
  · rw [if_neg c, if_pos c2] at hQ; exact hQ
  · rw [if_pos c] at hQ; exact hQ
theorem s_sa_divisorFor (hG : qGood Ls xs P) {w m : Int} (hw : wOK w) (hQ : Q (some (.long (lI (dv w m)))) M) : P 68 0 [(0, .int (iI w)), (1, .long (lI m))] [] M Q := by
  refine v_sa_divisorFor_0 hG ?_
  unfold wOK at hw
  unfold dv at hQ
  rw [show Int32.ofInt 0 = iI 0 from rfl, show Int32.ofInt 2 = iI 2 from rfl, show (2 : Int64) = lI 2 by decide, show (6 : Int64) = lI 6 by decide]
  simp only [lI_mul]
  simp (disch := omega) only [iI_add, iI_sub, iI_mul, iI_neg, iI_lt, iI_le, iI_eq, iI_cl, vp_iI, Classical.not_not, iLn1000000005, iLn1000000004, iLn1000000003, iLn1000000002, iLn1000000001, iLn99999, iLn9999, iLn2, iLn1, iL0, iL1, iL2, iL3, iL4, iL5, iL6, iL7, iL8, iL9, iL10, iL15, iL16, iL31, iL32, iL40, iL42, iL45, iL48, iL57, iL59, iL63, iL64, iL65, iL120, iL126, iL455, iL520, iL9999, iL99999, iN2, iN8, iN64, iN65, iN120, iN130, iN520]
  refine ⟨fun c => ?_, fun c => ⟨fun c2 => ?_, fun c2 => ?_⟩⟩
  · rw [if_pos c] at hQ; exact hQ
  · rw [if_neg c, if_pos c2] at hQ; exact hQ
  · rw [if_neg c, if_neg c2] at hQ; exact hQ
theorem q1Rd : qRd 1 := ⟨rfl, rfl, rfl⟩
theorem s_sa_measure (hG : qGood Ls xs P) {w : Int} {m k : Nat} (hk : qFq k) (hR : cRd M 1 n f) (hw : wOK w) (hm : 1 ≤ m) (hm2 : m ≤ 31) (hQ : ∀ M', cFr M' k (vN n f w m) (vD n f w m) → qFm [k] M M' → Q none M') : P 66 0 [(0, .ref 0), (1, .int (iI w)), (2, .int (iI m)), (3, .ref k)] [] M Q := by
  have hn := hR.2.1
  have ho := od_in (w := w)
  refine v_sa_measure_0 hG hk ?_
  refine s_sa_orderFor hG hw ?_
  refine v_sa_measure_2 hG hk ?_
  have key : ∀ (d j : Nat), j + d = n → P 66 9 [(0, .ref 0), (1, .int (iI w)), (2, .int (iI m)), (3, .ref k), (4, .int (iI (od w))), (5, .long (lI (sqz n f (od w) m j))), (7, .long (lI (cz (fun j => decide (dif n f (od w) m j ≠ (-1000000001))) j))), (9, .int (iI j))] [] M Q := by
    intro d
    induction d with
    | zero =>
      intro j hj
      have e : j = n := by omega
      subst e
      refine v_sa_measure_9 hG hk ?_
      refine s_rd_size hG q1Rd hR ?_
      refine v_sa_measure_13 hG hk ?_
      simp (disch := omega) only [iI_add, iI_sub, iI_mul, iI_neg, iI_lt, iI_le, iI_eq, iI_cl, vp_iI, Classical.not_not, iLn1000000005, iLn1000000004, iLn1000000003, iLn1000000002, iLn1000000001, iLn99999, iLn9999, iLn2, iLn1, iL0, iL1, iL2, iL3, iL4, iL5, iL6, iL7, iL8, iL9, iL10, iL15, iL16, iL31, iL32, iL40, iL42, iL45, iL48, iL57, iL59, iL63, iL64, iL65, iL120, iL126, iL455, iL520, iL9999, iL99999, iN2, iN8, iN64, iN65, iN120, iN130, iN520]
      refine ⟨fun _ => ?_, fun c => by omega⟩
      rw [i2l (by omega) (by omega)]
      refine s_sa_divisorFor hG hw ?_
      refine v_sa_measure_44 hG hk ?_
      have a1 := vS_c hR.ok hn hm2 (w := w)
      have a2 := vB_c (n := j) (f := f) hn hm hm2 hw
      have h4 : cnd j f (od w) m = cz (fun i => decide (dif j f (od w) m i ≠ (-1000000001))) j := rfl
      rw [lI_mul, ← h4, ← a2.1, ← a1.1]
      refine s_fr_become hG hk (by omega) a2.2.1 (fun M' hM' hF => ?_)
      exact v_sa_measure_47 hG (hQ M' hM' hF)
    | succ d ih =>
      intro j hj
      have hd := dif_ok hR.ok hm2 (od w) j
      refine v_sa_measure_9 hG hk ?_
      refine s_rd_size hG q1Rd hR ?_
      refine v_sa_measure_13 hG hk ?_
      simp (disch := omega) only [iI_add, iI_sub, iI_mul, iI_neg, iI_lt, iI_le, iI_eq, iI_cl, vp_iI, Classical.not_not, iLn1000000005, iLn1000000004, iLn1000000003, iLn1000000002, iLn1000000001, iLn99999, iLn9999, iLn2, iLn1, iL0, iL1, iL2, iL3, iL4, iL5, iL6, iL7, iL8, iL9, iL10, iL15, iL16, iL31, iL32, iL40, iL42, iL45, iL48, iL57, iL59, iL63, iL64, iL65, iL120, iL126, iL455, iL520, iL9999, iL99999, iN2, iN8, iN64, iN65, iN120, iN130, iN520]
      refine ⟨fun c => by omega, fun _ => ?_⟩
      refine s_rd_differenceAt hG q1Rd hR ho.1 ho.2 hm2 (by omega) (by omega) ?_
      refine v_sa_measure_20 hG hk ?_
      have hz := cmpZ_in (dif n f (od w) m j) (-1000000001)
      rw [i2l (by omega) (by omega), show (-1000000001 : Int64) = lI (-1000000001) by decide, lg_cmpZ (by omega) (by omega) (by omega) (by omega), lI_mul, lI_add, lL1, lI_add]
      simp (disch := omega) only [iI_add, iI_sub, iI_mul, iI_neg, iI_lt, iI_le, iI_eq, iI_cl, vp_iI, Classical.not_not, iLn1000000005, iLn1000000004, iLn1000000003, iLn1000000002, iLn1000000001, iLn99999, iLn9999, iLn2, iLn1, iL0, iL1, iL2, iL3, iL4, iL5, iL6, iL7, iL8, iL9, iL10, iL15, iL16, iL31, iL32, iL40, iL42, iL45, iL48, iL57, iL59, iL63, iL64, iL65, iL120, iL126, iL455, iL520, iL9999, iL99999, iN2, iN8, iN64, iN65, iN120, iN130, iN520, cmpZ_0]
      have hI := ih (j + 1) (by omega)
      unfold sqz cz at hI
      refine ⟨fun c => ?_, fun c => ?_⟩
      · rw [if_neg (fun z => z c), if_neg (by simpa using c), Int.add_zero, Int.add_zero] at hI
        exact hI
      · rw [if_pos c, if_pos (by simpa using c)] at hI
        exact hI
  rw [lL0]
  simp (disch := omega) only [iI_add, iI_sub, iI_mul, iI_neg, iI_lt, iI_le, iI_eq, iI_cl, vp_iI, Classical.not_not, iLn1000000005, iLn1000000004, iLn1000000003, iLn1000000002, iLn1000000001, iLn99999, iLn9999, iLn2, iLn1, iL0, iL1, iL2, iL3, iL4, iL5, iL6, iL7, iL8, iL9, iL10, iL15, iL16, iL31, iL32, iL40, iL42, iL45, iL48, iL57, iL59, iL63, iL64, iL65, iL120, iL126, iL455, iL520, iL9999, iL99999, iN2, iN8, iN64, iN65, iN120, iN130, iN520]
  exact key n 0 (by omega)
end VR
