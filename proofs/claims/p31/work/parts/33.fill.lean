/-! fill, both sides -/
def flS (n : Nat) (L : Int) (p : (Nat → Int) × Int) (i : Nat) : (Nat → Int) × Int :=
  if p.1 (i - 1) ≠ (-1000000001) ∧ p.1 i = (-1000000001) ∧ gpe p.1 (n - i) i < n ∧ ((gpe p.1 (n - i) i : Nat) : Int) - i ≤ L then ((fun t => if i ≤ t ∧ t < gpe p.1 (n - i) i then lnz n p.1 ((i : Int) - 1) (gpe p.1 (n - i) i : Nat) t else p.1 t), p.2 + (((gpe p.1 (n - i) i : Nat) : Int) - i)) else p
def flz (n : Nat) (f : Nat → Int) (L : Int) : Nat → (Nat → Int) × Int
  | 0 => (f, 0)
  | k + 1 => flS n L (flz n f L k) (k + 1)
theorem flz_s (n : Nat) (f : Nat → Int) (L : Int) (k : Nat) : flz n f L (k + 1) = flS n L (flz n f L k) (k + 1) := rfl
def tFill (s : zSt) (L : Int) : Int × zSt := if 1 ≤ L ∧ L ≤ 64 then ((flz s.1.1 s.1.2 L (s.1.1 - 1)).2, zChg s (s.1.1, (flz s.1.1 s.1.2 L (s.1.1 - 1)).1)) else (-1000000002, s)
theorem gpe_t (f : Nat → Int) : ∀ d i, gpe f d i < i + d → f (gpe f d i) ≠ (-1000000001) := by
  intro d
  induction d with
  | zero => intro i h; exact absurd h (by show ¬ i < i + 0; omega)
  | succ d ih =>
    intro i h
    rw [gpe_s] at h ⊢
    split
    · rename_i c
      rw [if_pos c] at h
      exact ih (i + 1) (by omega)
    · rename_i c
      exact c
def glR (n : Nat) (p : Nat → Int) (i e t : Nat) (u : Nat) : Int := if i ≤ u ∧ u < t then lnz n p ((i : Int) - 1) (e : Nat) u else p u
section FI
variable {Ls : Nat} {xs : Nat → Int32} {P : qSem} {M : qMem} {Q : qPost} {s : zSt} {n k : Nat} {f g : Nat → Int}
theorem glR_l {p : Nat → Int} {i e t : Nat} (h1 : 1 ≤ i) (h2 : i ≤ t) (h3 : t < e) (h4 : e < n) : vl n (glR n p i e t) ((i : Int) - 1) = vl n p ((i : Int) - 1) ∧ vl n (glR n p i e t) (e : Nat) = vl n p (e : Nat) ∧ lnz n (glR n p i e t) ((i : Int) - 1) (e : Nat) t = lnz n p ((i : Int) - 1) (e : Nat) t := by
  have e1 : vl n (glR n p i e t) ((i : Int) - 1) = vl n p ((i : Int) - 1) := by
    rw [show (i : Int) - 1 = ((i - 1 : Nat) : Int) by omega, vl_nat (show i - 1 < n by omega), vl_nat (show i - 1 < n by omega)]
    unfold glR
    rw [if_neg (by omega)]
  have e2 : vl n (glR n p i e t) (e : Nat) = vl n p (e : Nat) := by
    rw [vl_nat h4, vl_nat h4]
    unfold glR
    rw [if_neg (by omega)]
  refine ⟨e1, e2, ?_⟩
  unfold lnz
  rw [e1, e2]
theorem glR_s {p : Nat → Int} {i e t : Nat} (h2 : i ≤ t) (u : Nat) : glR n p i e (t + 1) u = (if u = t then lnz n p ((i : Int) - 1) (e : Nat) t else glR n p i e t u) := by
  unfold glR
  by_cases q : u = t
  · rw [if_pos q, q, if_pos (by omega)]
  · rw [if_neg q]
    by_cases c : i ≤ u ∧ u < t
    · rw [if_pos c, if_pos (by omega)]
    · rw [if_neg c, if_neg (by omega)]
theorem glR_0 {p : Nat → Int} {i e : Nat} (u : Nat) : glR n p i e i u = p u := by
  unfold glR
  rw [if_neg (by omega)]
theorem s_sa_fillGap (hG : qGood Ls xs P) {i e : Nat} (hR : cRd M 1 n f) (h1 : 1 ≤ i) (h2 : i ≤ e) (h3 : e < n) (hi : f (i - 1) ≠ (-1000000001)) (he : f e ≠ (-1000000001)) (hQ : ∀ M', qFm [1, 2] M M' → cRd M' 1 n (glR n f i e e) → Q none M') : P 64 0 [(0, .ref 0), (1, .int (iI i)), (2, .int (iI e))] [] M Q := by
  have hn := hR.2.1
  have hi' : vl n f ((i : Int) - 1) ≠ (-1000000001) := by
    rw [show (i : Int) - 1 = ((i - 1 : Nat) : Int) by omega, vl_nat (show i - 1 < n by omega)]
    exact hi
  have he' : vl n f (e : Nat) ≠ (-1000000001) := by
    rw [vl_nat h3]
    exact he
  refine v_sa_fillGap_0 hG ?_
  have key : ∀ (c t : Nat) (M1 : qMem), t + c = e → i ≤ t → qFm [1, 2] M M1 → cRd M1 1 n (glR n f i e t) → P 64 2 [(0, .ref 0), (1, .int (iI i)), (2, .int (iI e)), (3, .int (iI t))] [] M1 Q := by
    intro c
    induction c with
    | zero =>
      intro t M1 ht hit hF1 hR1
      have et : t = e := by omega
      subst et
      refine v_sa_fillGap_2 hG ?_
      simp (disch := omega) only [iI_add, iI_sub, iI_mul, iI_neg, iI_lt, iI_le, iI_eq, iI_cl, vp_iI, Classical.not_not, iLn1000000005, iLn1000000004, iLn1000000003, iLn1000000002, iLn1000000001, iLn99999, iLn9999, iLn2, iLn1, iL0, iL1, iL2, iL3, iL4, iL5, iL6, iL7, iL8, iL9, iL10, iL15, iL16, iL31, iL32, iL40, iL42, iL45, iL48, iL57, iL59, iL63, iL64, iL65, iL120, iL126, iL455, iL520, iL9999, iL99999, iN2, iN8, iN64, iN65, iN120, iN130, iN520]
      exact ⟨fun _ => hQ M1 hF1 hR1, fun c => by omega⟩
    | succ c ih =>
      intro t M1 ht hit hF1 hR1
      obtain ⟨l1, l2, l3⟩ := glR_l (p := f) h1 hit (show t < e by omega) h3
      refine v_sa_fillGap_2 hG ?_
      simp (disch := omega) only [iI_add, iI_sub, iI_mul, iI_neg, iI_lt, iI_le, iI_eq, iI_cl, vp_iI, Classical.not_not, iLn1000000005, iLn1000000004, iLn1000000003, iLn1000000002, iLn1000000001, iLn99999, iLn9999, iLn2, iLn1, iL0, iL1, iL2, iL3, iL4, iL5, iL6, iL7, iL8, iL9, iL10, iL15, iL16, iL31, iL32, iL40, iL42, iL45, iL48, iL57, iL59, iL63, iL64, iL65, iL120, iL126, iL455, iL520, iL9999, iL99999, iN2, iN8, iN64, iN65, iN120, iN130, iN520]
      refine ⟨fun c => by omega, fun c => ?_⟩
      refine s_rd_lineAt hG q1Rd hR1 (by omega) (by omega) (by omega) (by omega) (by omega) (by rw [l1]; exact hi') (by rw [l2]; exact he') ?_
      rw [l3]
      refine v_sa_fillGap_16 hG ?_
      rw [l2i]
      have hb := lnz_in hR.ok hi' he' (show (i : Int) - 1 ≤ t by omega) (show (t : Int) ≤ e by omega) (by omega)
      refine s_rd_put hG q1Rd hR1 (Or.inr hb) (by omega) (by omega) (fun M2 hR2 hF2 => ?_)
      refine v_sa_fillGap_18 hG ?_
      simp (disch := omega) only [iI_add, iI_sub, iI_mul, iI_neg, iI_lt, iI_le, iI_eq, iI_cl, vp_iI, Classical.not_not, iLn1000000005, iLn1000000004, iLn1000000003, iLn1000000002, iLn1000000001, iLn99999, iLn9999, iLn2, iLn1, iL0, iL1, iL2, iL3, iL4, iL5, iL6, iL7, iL8, iL9, iL10, iL15, iL16, iL31, iL32, iL40, iL42, iL45, iL48, iL57, iL59, iL63, iL64, iL65, iL120, iL126, iL455, iL520, iL9999, iL99999, iN2, iN8, iN64, iN65, iN120, iN130, iN520]
      refine ih (t + 1) M2 (by omega) (by omega) (hF1.tr hF2) (hR2.eqv (fun u hu => ?_))
      rw [glR_s hit, show ((t : Nat) : Int).toNat = t by omega]
  exact key (e - i) i M (by omega) (by omega) qFm.rf (hR.eqv (fun u hu => glR_0 u))
theorem C_fill (hG : qGood Ls xs P) {L : Int} (hS : CS s M) (hL : r32 L) (hQ : ∀ M', cFrm M M' → CS (tFill s L).2 M' → Q (some (.int (iI (tFill s L).1))) M') : P 42 0 [(0, .ref 0), (1, .int (iI L))] [] M Q := by
  obtain ⟨g1, g2⟩ := hL
  have hQ0 := hQ M cFrm.rf
  have hn := hS.1.2.1
  unfold tFill at hQ hQ0
  refine v_sa_fill_0 hG ?_
  simp (disch := omega) only [iI_add, iI_sub, iI_mul, iI_neg, iI_lt, iI_le, iI_eq, iI_cl, vp_iI, Classical.not_not, iLn1000000005, iLn1000000004, iLn1000000003, iLn1000000002, iLn1000000001, iLn99999, iLn9999, iLn2, iLn1, iL0, iL1, iL2, iL3, iL4, iL5, iL6, iL7, iL8, iL9, iL10, iL15, iL16, iL31, iL32, iL40, iL42, iL45, iL48, iL57, iL59, iL63, iL64, iL65, iL120, iL126, iL455, iL520, iL9999, iL99999, iN2, iN8, iN64, iN65, iN120, iN130, iN520]
  refine ⟨fun c => ?_, fun c => ⟨fun c2 => ?_, fun c2 => ?_⟩⟩
  · simp only [if_neg (show ¬ (1 ≤ L ∧ L ≤ 64) by omega)] at hQ0
    exact hQ0 hS
  · simp only [if_pos (show 1 ≤ L ∧ L ≤ 64 by omega)] at hQ
    refine C_rec hG hS (fun M1 hR1 hF1 hK => ?_)
    refine v_sa_fill_13 hG ?_
    have key : ∀ (d j : Nat) (M2 : qMem), j + d = s.1.1 - 1 → qFm [1, 2] M1 M2 → cRd M2 1 s.1.1 (flz s.1.1 s.1.2 L j).1 → P 42 17 [(0, .ref 0), (1, .int (iI L)), (2, .int (iI (flz s.1.1 s.1.2 L j).2)), (3, .int (iI (j + 1 : Nat)))] [] M2 Q := by
      intro d
      induction d with
      | zero =>
        intro j M2 hj hF2 hR2
        have ej : j = s.1.1 - 1 := by omega
        subst ej
        refine v_sa_fill_17 hG ?_
        refine s_rd_size hG q1Rd hR2 ?_
        refine v_sa_fill_21 hG ?_
        simp (disch := omega) only [iI_add, iI_sub, iI_mul, iI_neg, iI_lt, iI_le, iI_eq, iI_cl, vp_iI, Classical.not_not, iLn1000000005, iLn1000000004, iLn1000000003, iLn1000000002, iLn1000000001, iLn99999, iLn9999, iLn2, iLn1, iL0, iL1, iL2, iL3, iL4, iL5, iL6, iL7, iL8, iL9, iL10, iL15, iL16, iL31, iL32, iL40, iL42, iL45, iL48, iL57, iL59, iL63, iL64, iL65, iL120, iL126, iL455, iL520, iL9999, iL99999, iN2, iN8, iN64, iN65, iN120, iN130, iN520]
        refine ⟨fun _ => ?_, fun c => by omega⟩
        obtain ⟨k1, k2⟩ := hK M2 (s.1.1, (flz s.1.1 s.1.2 L (s.1.1 - 1)).1) hF2 hR2
        exact hQ M2 k1 k2
      | succ d ih =>
        intro j M2 hj hF2 hR2
        have hI := fun M2 => ih (j + 1) M2 (by omega)
        rw [flz_s] at hI
        generalize flz s.1.1 s.1.2 L j = p at hI hR2 ⊢
        unfold flS at hI
        rw [show j + 1 - 1 = j by omega] at hI
        have skip : ¬ (p.1 j ≠ (-1000000001) ∧ p.1 (j + 1) = (-1000000001) ∧ gpe p.1 (s.1.1 - (j + 1)) (j + 1) < s.1.1 ∧ ((gpe p.1 (s.1.1 - (j + 1)) (j + 1) : Nat) : Int) - (j + 1 : Nat) ≤ L) → P 42 17 [(0, .ref 0), (1, .int (iI L)), (2, .int (iI p.2)), (3, .int (iI (j + 1 + 1 : Nat)))] [] M2 Q := by
          intro c
          rw [if_neg c] at hI
          exact hI M2 hF2 hR2
        have hb := gpe_in p.1 (s.1.1 - (j + 1)) (j + 1)
        refine v_sa_fill_17 hG ?_
        refine s_rd_size hG q1Rd hR2 ?_
        refine v_sa_fill_21 hG ?_
        simp (disch := omega) only [iI_add, iI_sub, iI_mul, iI_neg, iI_lt, iI_le, iI_eq, iI_cl, vp_iI, Classical.not_not, iLn1000000005, iLn1000000004, iLn1000000003, iLn1000000002, iLn1000000001, iLn99999, iLn9999, iLn2, iLn1, iL0, iL1, iL2, iL3, iL4, iL5, iL6, iL7, iL8, iL9, iL10, iL15, iL16, iL31, iL32, iL40, iL42, iL45, iL48, iL57, iL59, iL63, iL64, iL65, iL120, iL126, iL455, iL520, iL9999, iL99999, iN2, iN8, iN64, iN65, iN120, iN130, iN520]
        refine ⟨fun c => by omega, fun c => ?_⟩
        rw [show ((j + 1 : Nat) : Int) - 1 = (j : Nat) by omega]
        refine s_rd_has hG q1Rd hR2 (by omega) (by omega) ?_
        rw [vl_nat (show j < s.1.1 by omega)]
        refine v_sa_fill_28 hG ?_
        simp (disch := omega) only [iI_add, iI_sub, iI_mul, iI_neg, iI_lt, iI_le, iI_eq, iI_cl, vp_iI, Classical.not_not, iLn1000000005, iLn1000000004, iLn1000000003, iLn1000000002, iLn1000000001, iLn99999, iLn9999, iLn2, iLn1, iL0, iL1, iL2, iL3, iL4, iL5, iL6, iL7, iL8, iL9, iL10, iL15, iL16, iL31, iL32, iL40, iL42, iL45, iL48, iL57, iL59, iL63, iL64, iL65, iL120, iL126, iL455, iL520, iL9999, iL99999, iN2, iN8, iN64, iN65, iN120, iN130, iN520]
        rw [show ((j + 1 : Nat) : Int) + 1 = (j + 1 + 1 : Nat) by omega]
        by_cases a1 : p.1 j = (-1000000001)
        · rw [bZ_f (fun z => z a1)]
          exact ⟨fun _ => skip (fun z => z.1 a1), fun c => absurd rfl c⟩
        rw [bZ_t a1]
        refine ⟨fun c => absurd c (by decide), fun _ => ?_⟩
        refine s_rd_has hG q1Rd hR2 (by omega) (by omega) ?_
        rw [vl_nat (show j + 1 < s.1.1 by omega)]
        refine v_sa_fill_33 hG ?_
        simp (disch := omega) only [iI_add, iI_sub, iI_mul, iI_neg, iI_lt, iI_le, iI_eq, iI_cl, vp_iI, Classical.not_not, iLn1000000005, iLn1000000004, iLn1000000003, iLn1000000002, iLn1000000001, iLn99999, iLn9999, iLn2, iLn1, iL0, iL1, iL2, iL3, iL4, iL5, iL6, iL7, iL8, iL9, iL10, iL15, iL16, iL31, iL32, iL40, iL42, iL45, iL48, iL57, iL59, iL63, iL64, iL65, iL120, iL126, iL455, iL520, iL9999, iL99999, iN2, iN8, iN64, iN65, iN120, iN130, iN520]
        rw [show ((j + 1 : Nat) : Int) + 1 = (j + 1 + 1 : Nat) by omega]
        by_cases a2 : p.1 (j + 1) = (-1000000001)
        · rw [bZ_f (fun z => z a2)]
          refine ⟨fun c => absurd rfl c, fun _ => ?_⟩
          refine s_rd_gapEnd hG q1Rd hR2 (by omega) ?_
          refine v_sa_fill_38 hG ?_
          refine s_rd_size hG q1Rd hR2 ?_
          refine v_sa_fill_43 hG ?_
          simp (disch := omega) only [iI_add, iI_sub, iI_mul, iI_neg, iI_lt, iI_le, iI_eq, iI_cl, vp_iI, Classical.not_not, iLn1000000005, iLn1000000004, iLn1000000003, iLn1000000002, iLn1000000001, iLn99999, iLn9999, iLn2, iLn1, iL0, iL1, iL2, iL3, iL4, iL5, iL6, iL7, iL8, iL9, iL10, iL15, iL16, iL31, iL32, iL40, iL42, iL45, iL48, iL57, iL59, iL63, iL64, iL65, iL120, iL126, iL455, iL520, iL9999, iL99999, iN2, iN8, iN64, iN65, iN120, iN130, iN520]
          rw [show ((j + 1 : Nat) : Int) + 1 = (j + 1 + 1 : Nat) by omega]
          refine ⟨fun c3 => skip (fun z => by omega), fun c3 => ⟨fun c4 => skip (fun z => by omega), fun c4 => ?_⟩⟩
          rw [if_pos ⟨a1, a2, by omega, by omega⟩] at hI
          refine s_sa_fillGap hG hR2 (by omega) (by omega) (by omega) a1 (gpe_t _ _ _ (by omega)) (fun M3 hF3 hR3 => ?_)
          refine v_sa_fill_53 hG ?_
          simp (disch := omega) only [iI_add, iI_sub, iI_mul, iI_neg, iI_lt, iI_le, iI_eq, iI_cl, vp_iI, Classical.not_not, iLn1000000005, iLn1000000004, iLn1000000003, iLn1000000002, iLn1000000001, iLn99999, iLn9999, iLn2, iLn1, iL0, iL1, iL2, iL3, iL4, iL5, iL6, iL7, iL8, iL9, iL10, iL15, iL16, iL31, iL32, iL40, iL42, iL45, iL48, iL57, iL59, iL63, iL64, iL65, iL120, iL126, iL455, iL520, iL9999, iL99999, iN2, iN8, iN64, iN65, iN120, iN130, iN520]
          rw [show ((j + 1 : Nat) : Int) + 1 = (j + 1 + 1 : Nat) by omega]
          exact hI M3 (hF2.tr hF3) hR3
        · rw [bZ_t a2]
          exact ⟨fun _ => skip (fun z => a2 z.2.1), fun c => absurd c (by decide)⟩
    exact key (s.1.1 - 1) 0 M1 (by omega) qFm.rf hR1
  · simp only [if_neg (show ¬ (1 ≤ L ∧ L ≤ 64) by omega)] at hQ0
    exact hQ0 hS
end FI
