/-! areDifferences: what readings tell; a mean difference is a sum of second ones -/
section DIF
variable {Ls : Nat} {xs : Nat → Int32} {P : qSem} {M : qMem} {Q : qPost} {n : Nat} {f : Nat → Int}
theorem dif2 {m : Nat} {i : Int} (h : 0 ≤ i) : dif n f 2 m i = sec n f m i := by
  unfold dif
  by_cases c : i < n
  · rw [if_pos ⟨h, c⟩, if_pos rfl]
  · rw [if_neg (by omega)]
    unfold sec vl
    rw [if_pos (Or.inl (if_neg (by omega)))]
theorem dif3 {m : Nat} {i : Int} (h : 0 ≤ i ∧ i < n) : dif n f 3 m i = thr n f m i := by
  unfold dif
  rw [if_pos h, if_neg (by decide), if_pos rfl]
theorem dif4 {m : Nat} {i : Int} (h : 0 ≤ i ∧ i < n) : dif n f 4 m i = men n f m i := by
  unfold dif
  rw [if_pos h, if_neg (by decide), if_neg (by decide)]
theorem thr_sec (hf : ∀ j, j < n → okv (f j)) (m i : Int) : thr n f m i = if sec n f m i = (-1000000001) ∨ sec n f m (i + m) = (-1000000001) then (-1000000001) else sec n f m (i + m) - sec n f m i := by
  have h0 := vl_ok hf i
  have h1 := vl_ok hf (i + m)
  have h2 := vl_ok hf (i + 2 * m)
  have h3 := vl_ok hf (i + 3 * m)
  unfold thr sec
  rw [show i + m + m = i + 2 * m by omega, show i + m + 2 * m = i + 3 * m by omega]
  unfold okv at h0 h1 h2 h3
  generalize vl n f i = a at *
  generalize vl n f (i + m) = b at *
  generalize vl n f (i + 2 * m) = c at *
  generalize vl n f (i + 3 * m) = d at *
  by_cases c1 : a = (-1000000001) ∨ b = (-1000000001) ∨ c = (-1000000001)
  · rw [if_pos c1, if_pos (show a = (-1000000001) ∨ b = (-1000000001) ∨ c = (-1000000001) ∨ d = (-1000000001) by omega), if_pos (Or.inl rfl)]
  · by_cases c2 : d = (-1000000001)
    · rw [if_neg c1, if_pos (show a = (-1000000001) ∨ b = (-1000000001) ∨ c = (-1000000001) ∨ d = (-1000000001) by omega), if_pos (show b = (-1000000001) ∨ c = (-1000000001) ∨ d = (-1000000001) by omega), if_pos (Or.inr rfl)]
    · rw [if_neg c1, if_neg (show ¬ (a = (-1000000001) ∨ b = (-1000000001) ∨ c = (-1000000001) ∨ d = (-1000000001)) by omega), if_neg (show ¬ (b = (-1000000001) ∨ c = (-1000000001) ∨ d = (-1000000001)) by omega), if_neg (by omega)]
      omega
theorem czs (p : Nat → Bool) (k : Nat) : cz p (k + 1) = cz p k + (if p k = true then 1 else 0) := rfl
theorem C_dif2 (hG : qGood Ls xs P) (hR : cRd M 1 n f) {m : Nat} (h1 : 1 ≤ m) (h2 : m ≤ 31) {x : Int32} {i : Int} (e : x = iI i) (h3 : 0 ≤ i) (h4 : i ≤ 1000) (hQ : Q (some (.int (iI (sec n f m i)))) M) : P 47 0 [(0, .ref 0), (1, .int (2 : Int32)), (2, .int (iI m)), (3, .int x)] [] M Q := by
  rw [e, iL2]
  refine C_difference hG hR (o := 2) (m := m) ⟨by decide, by decide⟩ ⟨by omega, by omega⟩ ⟨by omega, by omega⟩ ?_
  have e2 : aDiff n f 2 m i = sec n f m i := by
    unfold aDiff
    rw [if_pos (by omega), Int.toNat_natCast, dif2 h3]
  rw [e2]
  exact hQ
theorem C_dif3 (hG : qGood Ls xs P) (hR : cRd M 1 n f) {m : Nat} (h1 : 1 ≤ m) (h2 : m ≤ 31) {i : Nat} (h3 : i < n) (hQ : Q (some (.int (iI (thr n f m i)))) M) : P 47 0 [(0, .ref 0), (1, .int (3 : Int32)), (2, .int (iI m)), (3, .int (iI i))] [] M Q := by
  have hn := hR.2.1
  rw [iL3]
  refine C_difference hG hR (o := 3) (m := m) ⟨by decide, by decide⟩ ⟨by omega, by omega⟩ ⟨by omega, by omega⟩ ?_
  have e2 : aDiff n f 3 m i = thr n f m i := by
    unfold aDiff
    rw [if_pos (by omega), Int.toNat_natCast, dif3 (by omega)]
  rw [e2]
  exact hQ
theorem C_dif4 (hG : qGood Ls xs P) (hR : cRd M 1 n f) {m : Nat} (h1 : 1 ≤ m) (h2 : m ≤ 31) {i : Nat} (h3 : i < n) (hQ : Q (some (.int (iI (men n f m i)))) M) : P 47 0 [(0, .ref 0), (1, .int (4 : Int32)), (2, .int (iI m)), (3, .int (iI i))] [] M Q := by
  have hn := hR.2.1
  rw [iL4]
  refine C_difference hG hR (o := 4) (m := m) ⟨by decide, by decide⟩ ⟨by omega, by omega⟩ ⟨by omega, by omega⟩ ?_
  have e2 : aDiff n f 4 m i = men n f m i := by
    unfold aDiff
    rw [if_pos (by omega), Int.toNat_natCast, dif4 (by omega)]
  rw [e2]
  exact hQ
theorem C_cnt (hG : qGood Ls xs P) (hR : cRd M 1 n f) {m : Nat} (h1 : 1 ≤ m) (h2 : m ≤ 31) {x : Int32} {o : Int} (e : x = iI o) (h3 : 2 ≤ o ∧ o ≤ 4) (hQ : Q (some (.int (iI (cnd n f o m)))) M) : P 48 0 [(0, .ref 0), (1, .int x), (2, .int (iI m))] [] M Q := by
  rw [e]
  refine C_count hG hR (o := o) (m := m) ⟨by omega, by omega⟩ ⟨by omega, by omega⟩ ?_
  have e2 : aCount n f o m = cnd n f o m := by
    unfold aCount
    rw [if_pos (by omega), Int.toNat_natCast]
  rw [e2]
  exact hQ
theorem C_rdg (hG : qGood Ls xs P) (hR : cRd M 1 n f) {x : Int32} {i : Int} (e : x = iI i) (h3 : 0 ≤ i ∧ i < n) (hQ : Q (some (.int (iI (vl n f i)))) M) : P 46 0 [(0, .ref 0), (1, .int x)] [] M Q := by
  have hn := hR.2.1
  rw [e]
  refine C_reading hG hR ⟨by omega, by omega⟩ ?_
  have e2 : aReading n f i = vl n f i := by
    unfold aReading vl
    rw [if_pos h3, if_pos h3]
  rw [e2]
  exact hQ
theorem ad_inner (hG : qGood Ls xs P) (hR : cRd M 1 n f) {m : Nat} (h1 : 1 ≤ m) (h2 : m ≤ 31) {i : Nat} (hi : i < n) {l3 l4 l5 l6 l8 l9 l10 l11 : Int32}
    (hX : ∀ sm : Int32, (okS (fun j => sec n f m ((i : Int) + j)) m = true → sm = iI (smS (fun j => sec n f m ((i : Int) + j)) m)) → P 76 49 [(0, .ref 0), (1, .int (iI m)), (2, .int (iI (-1000000001))), (3, .int l3), (4, .int l4), (5, .int l5), (6, .int l6), (7, .int (iI i)), (8, .int l8), (9, .int l9), (10, .int l10), (11, .int l11), (12, .int sm), (13, .int (iI (bZ (okS (fun j => sec n f m ((i : Int) + j)) m = true)))), (14, .int (iI m))] [] M Q) :
    P 76 49 [(0, .ref 0), (1, .int (iI m)), (2, .int (iI (-1000000001))), (3, .int l3), (4, .int l4), (5, .int l5), (6, .int l6), (7, .int (iI i)), (8, .int l8), (9, .int l9), (10, .int l10), (11, .int l11), (12, .int (0 : Int32)), (13, .int (1 : Int32)), (14, .int (0 : Int32))] [] M Q := by
  have hn := hR.2.1
  have key : ∀ (d k : Nat) (sm : Int32), k + d = m → (okS (fun j => sec n f m ((i : Int) + j)) k = true → sm = iI (smS (fun j => sec n f m ((i : Int) + j)) k)) → P 76 49 [(0, .ref 0), (1, .int (iI m)), (2, .int (iI (-1000000001))), (3, .int l3), (4, .int l4), (5, .int l5), (6, .int l6), (7, .int (iI i)), (8, .int l8), (9, .int l9), (10, .int l10), (11, .int l11), (12, .int sm), (13, .int (iI (bZ (okS (fun j => sec n f m ((i : Int) + j)) k = true)))), (14, .int (iI k))] [] M Q := by
    intro d
    induction d with
    | zero =>
      intro k sm hk hs
      have e : k = m := by omega
      subst e
      exact hX sm hs
    | succ d ih =>
      intro k sm hk hs
      refine v_lw_areDifferences_49 hG ⟨fun c => ?_, fun _ => ?_⟩
      · rw [iI_le (by omega) (by omega) (by omega) (by omega)] at c
        omega
      refine C_dif2 hG hR h1 h2 (iI_add _ _) (by omega) (by omega) ?_
      have hb := bZ_in (okS (fun j => sec n f m ((i : Int) + j)) k = true)
      have hs2 := sec_ok hR.ok m ((i : Int) + k)
      have e1 : iI k + (1 : Int32) = iI (k + 1 : Nat) := by
        rw [iL1, iI_add]
        rfl
      have ok1 : okS (fun j => sec n f m ((i : Int) + j)) (k + 1) = (okS (fun j => sec n f m ((i : Int) + j)) k && decide (sec n f m ((i : Int) + k) ≠ (-1000000001))) := rfl
      have no : ∀ sm : Int32, ¬ okS (fun j => sec n f m ((i : Int) + j)) (k + 1) = true → P 76 69 [(0, .ref 0), (1, .int (iI m)), (2, .int (iI (-1000000001))), (3, .int l3), (4, .int l4), (5, .int l5), (6, .int l6), (7, .int (iI i)), (8, .int l8), (9, .int l9), (10, .int l10), (11, .int l11), (12, .int sm), (13, .int (0 : Int32)), (14, .int (iI k)), (15, .int (iI (sec n f m ((i : Int) + k))))] [] M Q := by
        intro sm hz
        refine v_lw_areDifferences_69 hG ⟨fun _ => ?_, fun c => absurd rfl c⟩
        refine v_lw_areDifferences_77 hG ?_
        have hI := ih (k + 1) sm (by omega) (fun z => absurd z hz)
        rw [bZ_f hz, ← iL0] at hI
        rw [e1]
        exact hI
      refine v_lw_areDifferences_59 hG ⟨fun c => ?_, fun c => ⟨fun c2 => ?_, fun c2 => ?_⟩⟩
      · rw [iz0 hb.1 (by omega), bZ_0] at c
        refine no sm (fun z => c ?_)
        rw [ok1, Bool.and_eq_true] at z
        exact z.1
      · rw [iI_eq (by omega) (by omega) (by omega) (by omega)] at c2
        refine no sm (fun z => ?_)
        rw [ok1, Bool.and_eq_true] at z
        exact absurd c2 (of_decide_eq_true z.2)
      · rw [iz0 hb.1 (by omega), bZ_0] at c
        have c := Classical.not_not.mp c
        rw [iI_eq (by omega) (by omega) (by omega) (by omega)] at c2
        have hz : okS (fun j => sec n f m ((i : Int) + j)) (k + 1) = true := by
          rw [ok1, Bool.and_eq_true]
          exact ⟨c, decide_eq_true c2⟩
        refine v_lw_areDifferences_69 hG ⟨fun c3 => absurd c3 (by decide), fun _ => ?_⟩
        refine v_lw_areDifferences_77 hG ?_
        have hI := ih (k + 1) (sm + iI (sec n f m ((i : Int) + k))) (by omega) (fun _ => by rw [hs c, iI_add]; rfl)
        rw [bZ_t hz, ← iL1] at hI
        rw [e1]
        exact hI
  exact key m 0 0 (by omega) (fun _ => rfl)
theorem ad_170 (hG : qGood Ls xs P) (hR : cRd M 1 n f) {m : Nat} (h1 : 1 ≤ m) (h2 : m ≤ 31) {i : Nat} (hi : i < n)
    (hN : P 76 14 [(0, .ref 0), (1, .int (iI m)), (2, .int (iI (-1000000001))), (3, .int (iI n)), (4, .int (iI (cz (fun j => decide (dif n f 2 m j ≠ (-1000000001))) (i + 1)))), (5, .int (iI (cz (fun j => decide (dif n f 3 m j ≠ (-1000000001))) (i + 1)))), (6, .int (iI (cz (fun j => decide (dif n f 4 m j ≠ (-1000000001))) (i + 1)))), (7, .int (iI (i + 1 : Nat)))] [] M Q) :
    P 76 170 [(0, .ref 0), (1, .int (iI m)), (2, .int (iI (-1000000001))), (3, .int (iI n)), (4, .int (iI (cz (fun j => decide (dif n f 2 m j ≠ (-1000000001))) i))), (5, .int (iI (cz (fun j => decide (dif n f 3 m j ≠ (-1000000001))) i))), (6, .int (iI (cz (fun j => decide (dif n f 4 m j ≠ (-1000000001))) i))), (7, .int (iI i)), (8, .int (iI (sec n f m i))), (10, .int (iI (thr n f m i))), (11, .int (iI (men n f m i)))] [] M Q := by
  have hn := hR.2.1
  have e1 : iI i + (1 : Int32) = iI (i + 1 : Nat) := by
    rw [iL1, iI_add]
    rfl
  have b2 := sec_ok hR.ok m (i : Int)
  have b3 := thr_ok hR.ok m (i : Int)
  have b4 := men_ok hR.ok h2 (i : Int)
  have d2 := dif2 (n := n) (f := f) (m := m) (i := (i : Int)) (by omega)
  have d3 := dif3 (n := n) (f := f) (m := m) (i := (i : Int)) (by omega)
  have d4 := dif4 (n := n) (f := f) (m := m) (i := (i : Int)) (by omega)
  rw [czs, czs, czs, d2, d3, d4] at hN
  have k3 : P 76 188 [(0, .ref 0), (1, .int (iI m)), (2, .int (iI (-1000000001))), (3, .int (iI n)), (4, .int (iI (cz (fun j => decide (dif n f 2 m j ≠ (-1000000001))) i + if decide (sec n f m i ≠ (-1000000001)) = true then 1 else 0))), (5, .int (iI (cz (fun j => decide (dif n f 3 m j ≠ (-1000000001))) i + if decide (thr n f m i ≠ (-1000000001)) = true then 1 else 0))), (6, .int (iI (cz (fun j => decide (dif n f 4 m j ≠ (-1000000001))) i))), (7, .int (iI i)), (11, .int (iI (men n f m i)))] [] M Q := by
    refine v_lw_areDifferences_188 hG ⟨fun c => ?_, fun c => ?_⟩
    · rw [iI_eq (by omega) (by omega) (by omega) (by omega)] at c
      refine v_lw_areDifferences_197 hG ?_
      rw [if_neg (show ¬ decide (men n f m i ≠ (-1000000001)) = true by simpa using c), Int.add_zero] at hN
      rw [e1]
      exact hN
    · rw [iI_eq (by omega) (by omega) (by omega) (by omega)] at c
      refine v_lw_areDifferences_197 hG ?_
      rw [if_pos (show decide (men n f m i ≠ (-1000000001)) = true by simpa using c), ← iI_add (cz (fun j => decide (dif n f 4 m j ≠ (-1000000001))) i) 1, ← iL1] at hN
      rw [e1]
      exact hN
  have k2 : P 76 179 [(0, .ref 0), (1, .int (iI m)), (2, .int (iI (-1000000001))), (3, .int (iI n)), (4, .int (iI (cz (fun j => decide (dif n f 2 m j ≠ (-1000000001))) i + if decide (sec n f m i ≠ (-1000000001)) = true then 1 else 0))), (5, .int (iI (cz (fun j => decide (dif n f 3 m j ≠ (-1000000001))) i))), (6, .int (iI (cz (fun j => decide (dif n f 4 m j ≠ (-1000000001))) i))), (7, .int (iI i)), (10, .int (iI (thr n f m i))), (11, .int (iI (men n f m i)))] [] M Q := by
    refine v_lw_areDifferences_179 hG ⟨fun c => ?_, fun c => ?_⟩
    · rw [iI_eq (by omega) (by omega) (by omega) (by omega)] at c
      rw [if_neg (show ¬ decide (thr n f m i ≠ (-1000000001)) = true by simpa using c), Int.add_zero] at k3
      exact k3
    · rw [iI_eq (by omega) (by omega) (by omega) (by omega)] at c
      rw [if_pos (show decide (thr n f m i ≠ (-1000000001)) = true by simpa using c), ← iI_add (cz (fun j => decide (dif n f 3 m j ≠ (-1000000001))) i) 1, ← iL1] at k3
      exact k3
  refine v_lw_areDifferences_170 hG ⟨fun c => ?_, fun c => ?_⟩
  · rw [iI_eq (by omega) (by omega) (by omega) (by omega)] at c
    rw [if_neg (show ¬ decide (sec n f m i ≠ (-1000000001)) = true by simpa using c), Int.add_zero] at k2
    exact k2
  · rw [iI_eq (by omega) (by omega) (by omega) (by omega)] at c
    rw [if_pos (show decide (sec n f m i ≠ (-1000000001)) = true by simpa using c), ← iI_add (cz (fun j => decide (dif n f 2 m j ≠ (-1000000001))) i) 1, ← iL1] at k2
    exact k2
theorem ad_103 (hG : qGood Ls xs P) (hR : cRd M 1 n f) {m : Nat} (h1 : 1 ≤ m) (h2 : m ≤ 31) {i : Nat} (hi : i < n) {l4 l5 l6 l10 l11 : Int32}
    (hN : P 76 170 [(0, .ref 0), (1, .int (iI m)), (2, .int (iI (-1000000001))), (3, .int (iI n)), (4, .int l4), (5, .int l5), (6, .int l6), (7, .int (iI i)), (8, .int (iI (sec n f m i))), (10, .int l10), (11, .int l11)] [] M Q) :
    P 76 103 [(0, .ref 0), (1, .int (iI m)), (2, .int (iI (-1000000001))), (3, .int (iI n)), (4, .int l4), (5, .int l5), (6, .int l6), (7, .int (iI i)), (8, .int (iI (sec n f m i))), (10, .int l10), (11, .int l11), (14, .int (1 : Int32))] [] M Q := by
  have hn := hR.2.1
  have b2 := sec_ok hR.ok m (i : Int)
  have v0 := vl_ok hR.ok (i : Int)
  have v1 := vl_ok hR.ok ((i : Int) + m)
  have v2 := vl_ok hR.ok ((i : Int) + 2 * m)
  unfold okv at v0 v1 v2
  have es : sec n f m i = if vl n f i = (-1000000001) ∨ vl n f (i + m) = (-1000000001) ∨ vl n f (i + 2 * m) = (-1000000001) then (-1000000001) else vl n f (i + 2 * m) - 2 * vl n f (i + m) + vl n f i := rfl
  have ex2 : iI i + (2 : Int32) * iI m = iI ((i : Int) + 2 * m) := by rw [iL2, iI_mul, iI_add]
  have no : sec n f m i = (-1000000001) → P 76 135 [(0, .ref 0), (1, .int (iI m)), (2, .int (iI (-1000000001))), (3, .int (iI n)), (4, .int l4), (5, .int l5), (6, .int l6), (7, .int (iI i)), (8, .int (iI (sec n f m i))), (10, .int l10), (11, .int l11), (14, .int (1 : Int32)), (15, .int (0 : Int32))] [] M Q := by
    intro hz
    refine v_lw_areDifferences_135 hG ⟨fun c => absurd c (by decide), fun _ => ⟨fun _ => ⟨fun c => absurd rfl c, fun _ => ⟨fun _ => hN, fun c => absurd rfl c⟩⟩, fun c => ?_⟩⟩
    rw [hz] at c
    exact absurd rfl c
  refine v_lw_areDifferences_103 hG ⟨fun c => ?_, fun c => ?_⟩
  · rw [ex2, iI_le (by omega) (by omega) (by omega) (by omega)] at c
    refine no ?_
    rw [es, if_pos (Or.inr (Or.inr ?_))]
    unfold vl
    rw [if_neg (by omega)]
  rw [ex2, iI_le (by omega) (by omega) (by omega) (by omega)] at c
  refine C_rdg hG hR rfl (by omega) ?_
  refine v_lw_areDifferences_113 hG ⟨fun c1 => ?_, fun c1 => ?_⟩
  · rw [iI_eq (by omega) (by omega) (by omega) (by omega)] at c1
    exact no (by rw [es, if_pos (Or.inl c1)])
  rw [iI_eq (by omega) (by omega) (by omega) (by omega)] at c1
  refine C_rdg hG hR (iI_add _ _) (by omega) ?_
  refine v_lw_areDifferences_120 hG ⟨fun c2 => ?_, fun c2 => ?_⟩
  · rw [iI_eq (by omega) (by omega) (by omega) (by omega)] at c2
    exact no (by rw [es, if_pos (Or.inr (Or.inl c2))])
  rw [iI_eq (by omega) (by omega) (by omega) (by omega)] at c2
  refine C_rdg hG hR ex2 (by omega) ?_
  refine v_lw_areDifferences_129 hG ⟨fun c3 => ?_, fun c3 => ?_⟩
  · rw [iI_eq (by omega) (by omega) (by omega) (by omega)] at c3
    exact no (by rw [es, if_pos (Or.inr (Or.inr c3))])
  rw [iI_eq (by omega) (by omega) (by omega) (by omega)] at c3
  have ev : sec n f m i = vl n f (i + 2 * m) - 2 * vl n f (i + m) + vl n f i := by rw [es, if_neg (by omega)]
  refine v_lw_areDifferences_135 hG ⟨fun z => absurd z (by decide), fun _ => ⟨fun z => ?_, fun _ => ⟨fun z => absurd rfl z, fun _ => ⟨fun z => absurd z (by decide), fun _ => ?_⟩⟩⟩⟩
  · rw [iI_eq (by omega) (by omega) (by omega) (by omega)] at z
    omega
  refine C_rdg hG hR ex2 (by omega) ?_
  refine v_lw_areDifferences_155 hG ?_
  refine C_rdg hG hR (iI_add _ _) (by omega) ?_
  refine v_lw_areDifferences_161 hG ?_
  refine C_rdg hG hR rfl (by omega) ?_
  refine v_lw_areDifferences_166 hG ⟨fun _ => hN, fun z => absurd ?_ z⟩
  rw [iL2, iI_mul, iI_sub, iI_add, ev]
theorem ad_step (hG : qGood Ls xs P) (hR : cRd M 1 n f) {m : Nat} (h1 : 1 ≤ m) (h2 : m ≤ 31) {i : Nat} (hi : i < n)
    (hN : P 76 14 [(0, .ref 0), (1, .int (iI m)), (2, .int (iI (-1000000001))), (3, .int (iI n)), (4, .int (iI (cz (fun j => decide (dif n f 2 m j ≠ (-1000000001))) (i + 1)))), (5, .int (iI (cz (fun j => decide (dif n f 3 m j ≠ (-1000000001))) (i + 1)))), (6, .int (iI (cz (fun j => decide (dif n f 4 m j ≠ (-1000000001))) (i + 1)))), (7, .int (iI (i + 1 : Nat)))] [] M Q) :
    P 76 14 [(0, .ref 0), (1, .int (iI m)), (2, .int (iI (-1000000001))), (3, .int (iI n)), (4, .int (iI (cz (fun j => decide (dif n f 2 m j ≠ (-1000000001))) i))), (5, .int (iI (cz (fun j => decide (dif n f 3 m j ≠ (-1000000001))) i))), (6, .int (iI (cz (fun j => decide (dif n f 4 m j ≠ (-1000000001))) i))), (7, .int (iI i))] [] M Q := by
  have hn := hR.2.1
  have b2 := sec_ok hR.ok m (i : Int)
  have b2' := sec_ok hR.ok m ((i : Int) + m)
  have b3 := thr_ok hR.ok m (i : Int)
  have hts := thr_sec hR.ok m (i : Int)
  have hme : men n f m i = if okS (fun j => sec n f m ((i : Int) + j)) m = true then smS (fun j => sec n f m ((i : Int) + j)) m else (-1000000001) := rfl
  refine v_lw_areDifferences_14 hG ⟨fun c => ?_, fun _ => ?_⟩
  · rw [iI_le (by omega) (by omega) (by omega) (by omega)] at c
    omega
  refine C_dif2 hG hR h1 h2 rfl (by omega) (by omega) ?_
  refine v_lw_areDifferences_22 hG ?_
  refine C_dif2 hG hR h1 h2 (iI_add _ _) (by omega) (by omega) ?_
  refine v_lw_areDifferences_30 hG ?_
  refine C_dif3 hG hR h1 h2 hi ?_
  refine v_lw_areDifferences_36 hG ?_
  refine C_dif4 hG hR h1 h2 hi ?_
  refine v_lw_areDifferences_42 hG ?_
  refine ad_inner hG hR h1 h2 hi (fun sm hsm => ?_)
  have g := ad_103 hG hR h1 h2 hi (ad_170 hG hR h1 h2 hi hN)
  have hb := bZ_in (okS (fun j => sec n f m ((i : Int) + j)) m = true)
  have g92 : P 76 92 [(0, .ref 0), (1, .int (iI m)), (2, .int (iI (-1000000001))), (3, .int (iI n)), (4, .int (iI (cz (fun j => decide (dif n f 2 m j ≠ (-1000000001))) i))), (5, .int (iI (cz (fun j => decide (dif n f 3 m j ≠ (-1000000001))) i))), (6, .int (iI (cz (fun j => decide (dif n f 4 m j ≠ (-1000000001))) i))), (7, .int (iI i)), (8, .int (iI (sec n f m i))), (10, .int (iI (thr n f m i))), (11, .int (iI (men n f m i))), (12, .int sm), (13, .int (iI (bZ (okS (fun j => sec n f m ((i : Int) + j)) m = true))))] [] M Q := by
    refine v_lw_areDifferences_92 hG ⟨fun c => ?_, fun c => ?_⟩
    · rw [iz0 hb.1 (by omega), bZ_0] at c
      refine ⟨fun z => absurd ?_ z, fun _ => g⟩
      rw [hme, if_neg c]
    · rw [iz0 hb.1 (by omega), bZ_0] at c
      have c := Classical.not_not.mp c
      refine ⟨fun z => absurd ?_ z, fun _ => g⟩
      rw [hme, if_pos c, hsm c]
  refine v_lw_areDifferences_49 hG ⟨fun _ => ⟨fun c => ?_, fun c => ⟨fun c2 => ?_, fun c2 => ?_⟩⟩, fun c => ?_⟩
  · rw [iI_eq (by omega) (by omega) (by omega) (by omega)] at c
    refine ⟨fun z => absurd ?_ z, fun _ => g92⟩
    rw [hts, if_pos (Or.inl c)]
  · rw [iI_eq (by omega) (by omega) (by omega) (by omega)] at c c2
    refine ⟨fun z => absurd ?_ z, fun _ => g92⟩
    rw [hts, if_neg (by omega), iI_sub]
  · have c2 := Classical.not_not.mp c2
    rw [iI_eq (by omega) (by omega) (by omega) (by omega)] at c2
    refine ⟨fun z => absurd ?_ z, fun _ => g92⟩
    rw [hts, if_pos (Or.inr c2)]
  · rw [iI_le (by omega) (by omega) (by omega) (by omega)] at c
    omega
theorem L_areDifferences (hG : qGood Ls xs P) {s : zSt} (hS : CS s M) {m : Nat} (h1 : 1 ≤ m) (h2 : m ≤ 31) (hQ : Q (some (.int (1 : Int32))) M) : P 76 0 [(0, .ref 0), (1, .int (iI m))] [] M Q := by
  have hR := hS.1
  have hn := hR.2.1
  refine v_lw_areDifferences_0 hG ?_
  refine C_told0 hG hS ?_
  refine v_lw_areDifferences_5 hG ?_
  have key : ∀ (d i : Nat), i + d = s.1.1 → P 76 14 [(0, .ref 0), (1, .int (iI m)), (2, .int (iI (-1000000001))), (3, .int (iI s.1.1)), (4, .int (iI (cz (fun j => decide (dif s.1.1 s.1.2 2 m j ≠ (-1000000001))) i))), (5, .int (iI (cz (fun j => decide (dif s.1.1 s.1.2 3 m j ≠ (-1000000001))) i))), (6, .int (iI (cz (fun j => decide (dif s.1.1 s.1.2 4 m j ≠ (-1000000001))) i))), (7, .int (iI i))] [] M Q := by
    intro d
    induction d with
    | zero =>
      intro i hi
      have e : i = s.1.1 := by omega
      subst e
      have hd := dif2 (n := s.1.1) (f := s.1.2) (m := m) (i := (s.1.1 : Int)) (by omega)
      have hsn : sec s.1.1 s.1.2 m (s.1.1 : Int) = (-1000000001) := by
        unfold sec vl
        rw [if_pos (Or.inl (if_neg (by omega)))]
      refine v_lw_areDifferences_14 hG ⟨fun _ => ?_, fun c => ?_⟩
      · refine C_cnt hG hR h1 h2 iL2 (by omega) ?_
        refine v_lw_areDifferences_203 hG ⟨fun c => absurd rfl c, fun _ => ?_⟩
        refine C_cnt hG hR h1 h2 iL3 (by omega) ?_
        refine v_lw_areDifferences_209 hG ⟨fun c => absurd rfl c, fun _ => ?_⟩
        refine C_cnt hG hR h1 h2 iL4 (by omega) ?_
        refine v_lw_areDifferences_215 hG ⟨fun c => absurd rfl c, fun _ => ?_⟩
        refine C_dif2 hG hR h1 h2 rfl (by omega) (by omega) ?_
        rw [hsn]
        exact v_lw_areDifferences_222 hG ⟨fun c => absurd rfl c, fun _ => ⟨by decide, hQ⟩⟩
      · exact absurd (Int32.le_refl _) c
    | succ d ih =>
      intro i hi
      exact ad_step hG hR h1 h2 (by omega) (ih (i + 1) (by omega))
  exact key s.1.1 0 (by omega)
end DIF
