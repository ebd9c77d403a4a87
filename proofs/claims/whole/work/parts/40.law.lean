/-! the law: every call of the script answers alike -/
theorem lg_cmp_rf (a : Int64) : lg_cmp a a = 0 := by
  unfold lg_cmp
  rw [if_neg (Int64.lt_irrefl (a := a)), if_pos rfl]
theorem ofN (n : Nat) : Int32.ofNat n = iI n := Int32.ofInt_eq_ofNat.symm
theorem MS.q {s : zSt} {M M' : qMem} (h : MS s M) (hF : mFr M M') : MS s M' := h.sc ⟨fun a ha _ => hF.1 a (fun e => ha (by rw [e]; decide)), fun j _ => by rw [hF.1 36 (by decide)]⟩
theorem mFr.m {M M' : qMem} (hF : mFr M M') : mFrm M M' := fun a ha => hF.1 a (by omega)
section LAW
variable {Ls : Nat} {xs : Nat → Int32} {P : qSem} {M : qMem} {Q : qPost} {s : zSt} {i : Nat}
def lawN (P : qSem) (i : Nat) (Q : qPost) : Prop := ∀ M' s', CS s' M' → MS s' M' → P 155 10 [(0, .ref 1000), (1, .ref 0), (2, .ref 36), (3, .int (iI i + (4 : Int32)))] [] M' Q
theorem vpi (hL : Ls ≤ 2048) (hi : i + 4 ≤ Ls) : vp_in (iI i) Ls ∧ vp_in (iI i + (1 : Int32)) Ls ∧ vp_in (iI i + (2 : Int32)) Ls ∧ vp_in (iI i + (3 : Int32)) Ls := by
  rw [show (3 : Int32) = iI 3 by decide]
  simp (disch := omega) only [iI_add, iI_sub, iI_mul, iI_neg, iI_lt, iI_le, iI_eq, iI_cl, vp_iI, Classical.not_not, iLn1000000005, iLn1000000004, iLn1000000003, iLn1000000002, iLn1000000001, iLn99999, iLn9999, iLn2, iLn1, iL0, iL1, iL2, iL3, iL4, iL5, iL6, iL7, iL8, iL9, iL10, iL15, iL16, iL31, iL32, iL40, iL42, iL45, iL48, iL57, iL59, iL63, iL64, iL65, iL120, iL126, iL455, iL520, iL9999, iL99999, iN2, iN8, iN64, iN65, iN120, iN130, iN520]
  omega
theorem law_add (hG : qGood Ls xs P) (hL : Ls ≤ 2048) (hi : i + 4 ≤ Ls) (hS : CS s M) (hM : MS s M) (hC : lawN P i Q) : (vp_in ((iI i) + (1 : Int32)) Ls ∧ (P 44 0 [(0, .ref 0), (1, .int (xs ((iI i) + (1 : Int32)).toNatClampNeg))] [] M (fun v M' => P 155 29 [(0, .ref 1000), (1, .ref 0), (2, .ref 36), (3, .int (iI i))] (v.toList ++ []) M' Q))) := by
  obtain ⟨v0, v1, v2, v3⟩ := vpi hL hi
  obtain ⟨z1, e1, b1⟩ := iI_of (xs (iI i + (1 : Int32)).toNatClampNeg)
  refine ⟨v1, ?_⟩
  rw [e1]
  refine C_add hG hS b1 (fun M1 hF1 hS1 => ?_)
  refine v_lw_law_29 hG ⟨v1, ?_⟩
  rw [e1]
  refine M_add hG (hM.fr hF1) b1 (fun M2 hF2 hM2 => ?_)
  exact v_lw_law_36 hG ⟨fun _ => hC M2 _ (hS1.fr hF2) hM2, fun c => absurd rfl c⟩
theorem law_skip (hG : qGood Ls xs P) (hL : Ls ≤ 2048) (hi : i + 4 ≤ Ls) (hS : CS s M) (hM : MS s M) (hC : lawN P i Q) : (vp_in ((iI i) + (1 : Int32)) Ls ∧ (P 45 0 [(0, .ref 0), (1, .int (xs ((iI i) + (1 : Int32)).toNatClampNeg))] [] M (fun v M' => P 155 46 [(0, .ref 1000), (1, .ref 0), (2, .ref 36), (3, .int (iI i))] (v.toList ++ []) M' Q))) := by
  obtain ⟨v0, v1, v2, v3⟩ := vpi hL hi
  obtain ⟨z1, e1, b1⟩ := iI_of (xs (iI i + (1 : Int32)).toNatClampNeg)
  refine ⟨v1, ?_⟩
  rw [e1]
  refine C_skip hG hS b1 (fun M1 hF1 hS1 => ?_)
  refine v_lw_law_46 hG ⟨v1, ?_⟩
  rw [e1]
  refine M_skip hG (hM.fr hF1) b1 (fun M2 hF2 hM2 => ?_)
  exact v_lw_law_53 hG ⟨fun _ => hC M2 _ (hS1.fr hF2) hM2, fun c => absurd rfl c⟩
theorem law_set (hG : qGood Ls xs P) (hL : Ls ≤ 2048) (hi : i + 4 ≤ Ls) (hS : CS s M) (hM : MS s M) (hC : lawN P i Q) : (vp_in ((iI i) + (1 : Int32)) Ls ∧ (vp_in ((iI i) + (2 : Int32)) Ls ∧ (P 46 0 [(0, .ref 0), (1, .int (xs ((iI i) + (1 : Int32)).toNatClampNeg)), (2, .int (xs ((iI i) + (2 : Int32)).toNatClampNeg))] [] M (fun v M' => P 155 68 [(0, .ref 1000), (1, .ref 0), (2, .ref 36), (3, .int (iI i))] (v.toList ++ []) M' Q)))) := by
  obtain ⟨v0, v1, v2, v3⟩ := vpi hL hi
  obtain ⟨z1, e1, b1⟩ := iI_of (xs (iI i + (1 : Int32)).toNatClampNeg)
  obtain ⟨z2, e2, b2⟩ := iI_of (xs (iI i + (2 : Int32)).toNatClampNeg)
  refine ⟨v1, v2, ?_⟩
  rw [e1, e2]
  refine C_set hG hS b1 b2 (fun M1 hF1 hS1 => ?_)
  refine v_lw_law_68 hG ⟨v1, v2, ?_⟩
  rw [e1, e2]
  refine M_set hG (hM.fr hF1) b1 b2 (fun M2 hF2 hM2 => ?_)
  exact v_lw_law_80 hG ⟨fun _ => hC M2 _ (hS1.fr hF2) hM2, fun c => absurd rfl c⟩
theorem law_clear (hG : qGood Ls xs P) (hL : Ls ≤ 2048) (hi : i + 4 ≤ Ls) (hS : CS s M) (hM : MS s M) (hC : lawN P i Q) : (P 47 0 [(0, .ref 0)] [] M (fun v M' => P 155 85 [(0, .ref 1000), (1, .ref 0), (2, .ref 36), (3, .int (iI i))] (v.toList ++ []) M' Q)) := by
  obtain ⟨v0, v1, v2, v3⟩ := vpi hL hi
  refine C_clear hG hS (fun M1 hF1 hS1 => ?_)
  refine v_lw_law_85 hG ?_
  refine M_clear hG (hM.fr hF1) (fun M2 hF2 hM2 => ?_)
  exact v_lw_law_87 hG ⟨fun _ => hC M2 _ (hS1.fr hF2) hM2, fun c => absurd rfl c⟩
theorem law_removeLine (hG : qGood Ls xs P) (hL : Ls ≤ 2048) (hi : i + 4 ≤ Ls) (hS : CS s M) (hM : MS s M) (hC : lawN P i Q) : (vp_in ((iI i) + (1 : Int32)) Ls ∧ (vp_in ((iI i) + (2 : Int32)) Ls ∧ (P 48 0 [(0, .ref 0), (1, .int (xs ((iI i) + (1 : Int32)).toNatClampNeg)), (2, .int (xs ((iI i) + (2 : Int32)).toNatClampNeg))] [] M (fun v M' => P 155 102 [(0, .ref 1000), (1, .ref 0), (2, .ref 36), (3, .int (iI i))] (v.toList ++ []) M' Q)))) := by
  obtain ⟨v0, v1, v2, v3⟩ := vpi hL hi
  obtain ⟨z1, e1, b1⟩ := iI_of (xs (iI i + (1 : Int32)).toNatClampNeg)
  obtain ⟨z2, e2, b2⟩ := iI_of (xs (iI i + (2 : Int32)).toNatClampNeg)
  refine ⟨v1, v2, ?_⟩
  rw [e1, e2]
  refine C_removeLine hG hS b1 b2 (fun M1 hF1 hS1 => ?_)
  refine v_lw_law_102 hG ⟨v1, v2, ?_⟩
  rw [e1, e2]
  refine M_removeLine hG (hM.fr hF1) b1 b2 (fun M2 hF2 hM2 => ?_)
  exact v_lw_law_114 hG ⟨fun _ => hC M2 _ (hS1.fr hF2) hM2, fun c => absurd rfl c⟩
theorem law_addLine (hG : qGood Ls xs P) (hL : Ls ≤ 2048) (hi : i + 4 ≤ Ls) (hS : CS s M) (hM : MS s M) (hC : lawN P i Q) : (vp_in ((iI i) + (1 : Int32)) Ls ∧ (vp_in ((iI i) + (2 : Int32)) Ls ∧ (P 49 0 [(0, .ref 0), (1, .int (xs ((iI i) + (1 : Int32)).toNatClampNeg)), (2, .int (xs ((iI i) + (2 : Int32)).toNatClampNeg))] [] M (fun v M' => P 155 129 [(0, .ref 1000), (1, .ref 0), (2, .ref 36), (3, .int (iI i))] (v.toList ++ []) M' Q)))) := by
  obtain ⟨v0, v1, v2, v3⟩ := vpi hL hi
  obtain ⟨z1, e1, b1⟩ := iI_of (xs (iI i + (1 : Int32)).toNatClampNeg)
  obtain ⟨z2, e2, b2⟩ := iI_of (xs (iI i + (2 : Int32)).toNatClampNeg)
  refine ⟨v1, v2, ?_⟩
  rw [e1, e2]
  refine C_addLine hG hS b1 b2 (fun M1 hF1 hS1 => ?_)
  refine v_lw_law_129 hG ⟨v1, v2, ?_⟩
  rw [e1, e2]
  refine M_addLine hG (hM.fr hF1) b1 b2 (fun M2 hF2 hM2 => ?_)
  exact v_lw_law_141 hG ⟨fun _ => hC M2 _ (hS1.fr hF2) hM2, fun c => absurd rfl c⟩
theorem law_removeDrift (hG : qGood Ls xs P) (hL : Ls ≤ 2048) (hi : i + 4 ≤ Ls) (hS : CS s M) (hM : MS s M) (hC : lawN P i Q) : (P 50 0 [(0, .ref 0)] [] M (fun v M' => P 155 146 [(0, .ref 1000), (1, .ref 0), (2, .ref 36), (3, .int (iI i))] (v.toList ++ []) M' Q)) := by
  obtain ⟨v0, v1, v2, v3⟩ := vpi hL hi
  refine C_removeDrift hG hS (fun M1 hF1 hS1 => ?_)
  refine v_lw_law_146 hG ?_
  refine M_removeDrift hG (hM.fr hF1) (fun M2 hF2 hM2 => ?_)
  exact v_lw_law_148 hG ⟨fun _ => hC M2 _ (hS1.fr hF2) hM2, fun c => absurd rfl c⟩
theorem law_removeOutliers (hG : qGood Ls xs P) (hL : Ls ≤ 2048) (hi : i + 4 ≤ Ls) (hS : CS s M) (hM : MS s M) (hC : lawN P i Q) : (vp_in ((iI i) + (1 : Int32)) Ls ∧ (P 51 0 [(0, .ref 0), (1, .int (xs ((iI i) + (1 : Int32)).toNatClampNeg))] [] M (fun v M' => P 155 158 [(0, .ref 1000), (1, .ref 0), (2, .ref 36), (3, .int (iI i))] (v.toList ++ []) M' Q))) := by
  obtain ⟨v0, v1, v2, v3⟩ := vpi hL hi
  obtain ⟨z1, e1, b1⟩ := iI_of (xs (iI i + (1 : Int32)).toNatClampNeg)
  refine ⟨v1, ?_⟩
  rw [e1]
  refine C_removeOutliers hG hS b1 (fun M1 hF1 hS1 => ?_)
  refine v_lw_law_158 hG ⟨v1, ?_⟩
  rw [e1]
  refine M_removeOutliers hG (hM.fr hF1) b1 (fun M2 hF2 hM2 => ?_)
  exact v_lw_law_165 hG ⟨fun _ => hC M2 _ (hS1.fr hF2) hM2, fun c => absurd rfl c⟩
theorem law_fill (hG : qGood Ls xs P) (hL : Ls ≤ 2048) (hi : i + 4 ≤ Ls) (hS : CS s M) (hM : MS s M) (hC : lawN P i Q) : (vp_in ((iI i) + (1 : Int32)) Ls ∧ (P 52 0 [(0, .ref 0), (1, .int (xs ((iI i) + (1 : Int32)).toNatClampNeg))] [] M (fun v M' => P 155 175 [(0, .ref 1000), (1, .ref 0), (2, .ref 36), (3, .int (iI i))] (v.toList ++ []) M' Q))) := by
  obtain ⟨v0, v1, v2, v3⟩ := vpi hL hi
  obtain ⟨z1, e1, b1⟩ := iI_of (xs (iI i + (1 : Int32)).toNatClampNeg)
  refine ⟨v1, ?_⟩
  rw [e1]
  refine C_fill hG hS b1 (fun M1 hF1 hS1 => ?_)
  refine v_lw_law_175 hG ⟨v1, ?_⟩
  rw [e1]
  refine M_fill hG (hM.fr hF1) b1 (fun M2 hF2 hM2 => ?_)
  exact v_lw_law_182 hG ⟨fun _ => hC M2 _ (hS1.fr hF2) hM2, fun c => absurd rfl c⟩
theorem law_thin (hG : qGood Ls xs P) (hL : Ls ≤ 2048) (hi : i + 4 ≤ Ls) (hS : CS s M) (hM : MS s M) (hC : lawN P i Q) : (vp_in ((iI i) + (1 : Int32)) Ls ∧ (vp_in ((iI i) + (2 : Int32)) Ls ∧ (P 53 0 [(0, .ref 0), (1, .int (xs ((iI i) + (1 : Int32)).toNatClampNeg)), (2, .int (xs ((iI i) + (2 : Int32)).toNatClampNeg))] [] M (fun v M' => P 155 197 [(0, .ref 1000), (1, .ref 0), (2, .ref 36), (3, .int (iI i))] (v.toList ++ []) M' Q)))) := by
  obtain ⟨v0, v1, v2, v3⟩ := vpi hL hi
  obtain ⟨z1, e1, b1⟩ := iI_of (xs (iI i + (1 : Int32)).toNatClampNeg)
  obtain ⟨z2, e2, b2⟩ := iI_of (xs (iI i + (2 : Int32)).toNatClampNeg)
  refine ⟨v1, v2, ?_⟩
  rw [e1, e2]
  refine C_thin hG hS b1 b2 (fun M1 hF1 hS1 => ?_)
  refine v_lw_law_197 hG ⟨v1, v2, ?_⟩
  rw [e1, e2]
  refine M_thin hG (hM.fr hF1) b1 b2 (fun M2 hF2 hM2 => ?_)
  exact v_lw_law_209 hG ⟨fun _ => hC M2 _ (hS1.fr hF2) hM2, fun c => absurd rfl c⟩
theorem law_undo (hG : qGood Ls xs P) (hL : Ls ≤ 2048) (hi : i + 4 ≤ Ls) (hS : CS s M) (hM : MS s M) (hC : lawN P i Q) : (P 54 0 [(0, .ref 0)] [] M (fun v M' => P 155 214 [(0, .ref 1000), (1, .ref 0), (2, .ref 36), (3, .int (iI i))] (v.toList ++ []) M' Q)) := by
  obtain ⟨v0, v1, v2, v3⟩ := vpi hL hi
  refine C_undo hG hS (fun M1 hF1 hS1 => ?_)
  refine v_lw_law_214 hG ?_
  refine M_undo hG (hM.fr hF1) (fun M2 hF2 hM2 => ?_)
  exact v_lw_law_216 hG ⟨fun _ => hC M2 _ (hS1.fr hF2) hM2, fun c => absurd rfl c⟩
theorem law_told (hG : qGood Ls xs P) (hL : Ls ≤ 2048) (hi : i + 4 ≤ Ls) (hS : CS s M) (hM : MS s M) (hC : lawN P i Q) : (vp_in ((iI i) + (1 : Int32)) Ls ∧ (P 55 0 [(0, .ref 0), (1, .int (xs ((iI i) + (1 : Int32)).toNatClampNeg))] [] M (fun v M' => P 155 226 [(0, .ref 1000), (1, .ref 0), (2, .ref 36), (3, .int (iI i))] (v.toList ++ []) M' Q))) := by
  obtain ⟨v0, v1, v2, v3⟩ := vpi hL hi
  obtain ⟨z1, e1, b1⟩ := iI_of (xs (iI i + (1 : Int32)).toNatClampNeg)
  refine ⟨v1, ?_⟩
  rw [e1]
  obtain ⟨_, _, _, _, hD, _⟩ := hS.2.1
  refine C_told hG hS.1 hS.2.2.2.1.1 hD b1 ?_
  refine v_lw_law_226 hG ⟨v1, ?_⟩
  rw [e1]
  refine M_told hG hM.1 hM.2.2.2.1.1 hM.2.1.2.1 b1 ?_
  exact v_lw_law_233 hG ⟨fun _ => hC M s hS hM, fun c => absurd rfl c⟩
theorem law_reading (hG : qGood Ls xs P) (hL : Ls ≤ 2048) (hi : i + 4 ≤ Ls) (hS : CS s M) (hM : MS s M) (hC : lawN P i Q) : (vp_in ((iI i) + (1 : Int32)) Ls ∧ (P 56 0 [(0, .ref 0), (1, .int (xs ((iI i) + (1 : Int32)).toNatClampNeg))] [] M (fun v M' => P 155 243 [(0, .ref 1000), (1, .ref 0), (2, .ref 36), (3, .int (iI i))] (v.toList ++ []) M' Q))) := by
  obtain ⟨v0, v1, v2, v3⟩ := vpi hL hi
  obtain ⟨z1, e1, b1⟩ := iI_of (xs (iI i + (1 : Int32)).toNatClampNeg)
  refine ⟨v1, ?_⟩
  rw [e1]
  refine C_reading hG hS.1 b1 ?_
  refine v_lw_law_243 hG ⟨v1, ?_⟩
  rw [e1]
  refine M_reading hG hM.1 b1 ?_
  exact v_lw_law_250 hG ⟨fun _ => hC M s hS hM, fun c => absurd rfl c⟩
theorem law_difference (hG : qGood Ls xs P) (hL : Ls ≤ 2048) (hi : i + 4 ≤ Ls) (hS : CS s M) (hM : MS s M) (hC : lawN P i Q) : (vp_in ((iI i) + (1 : Int32)) Ls ∧ (vp_in ((iI i) + (2 : Int32)) Ls ∧ (vp_in ((iI i) + (3 : Int32)) Ls ∧ (P 57 0 [(0, .ref 0), (1, .int (xs ((iI i) + (1 : Int32)).toNatClampNeg)), (2, .int (xs ((iI i) + (2 : Int32)).toNatClampNeg)), (3, .int (xs ((iI i) + (3 : Int32)).toNatClampNeg))] [] M (fun v M' => P 155 270 [(0, .ref 1000), (1, .ref 0), (2, .ref 36), (3, .int (iI i))] (v.toList ++ []) M' Q))))) := by
  obtain ⟨v0, v1, v2, v3⟩ := vpi hL hi
  obtain ⟨z1, e1, b1⟩ := iI_of (xs (iI i + (1 : Int32)).toNatClampNeg)
  obtain ⟨z2, e2, b2⟩ := iI_of (xs (iI i + (2 : Int32)).toNatClampNeg)
  obtain ⟨z3, e3, b3⟩ := iI_of (xs (iI i + (3 : Int32)).toNatClampNeg)
  refine ⟨v1, v2, v3, ?_⟩
  rw [e1, e2, e3]
  refine C_difference hG hS.1 b1 b2 b3 ?_
  refine v_lw_law_270 hG ⟨v1, v2, v3, ?_⟩
  rw [e1, e2, e3]
  refine M_difference hG hM.1 b1 b2 b3 ?_
  exact v_lw_law_287 hG ⟨fun _ => hC M s hS hM, fun c => absurd rfl c⟩
theorem law_count (hG : qGood Ls xs P) (hL : Ls ≤ 2048) (hi : i + 4 ≤ Ls) (hS : CS s M) (hM : MS s M) (hC : lawN P i Q) : (vp_in ((iI i) + (1 : Int32)) Ls ∧ (vp_in ((iI i) + (2 : Int32)) Ls ∧ (P 58 0 [(0, .ref 0), (1, .int (xs ((iI i) + (1 : Int32)).toNatClampNeg)), (2, .int (xs ((iI i) + (2 : Int32)).toNatClampNeg))] [] M (fun v M' => P 155 302 [(0, .ref 1000), (1, .ref 0), (2, .ref 36), (3, .int (iI i))] (v.toList ++ []) M' Q)))) := by
  obtain ⟨v0, v1, v2, v3⟩ := vpi hL hi
  obtain ⟨z1, e1, b1⟩ := iI_of (xs (iI i + (1 : Int32)).toNatClampNeg)
  obtain ⟨z2, e2, b2⟩ := iI_of (xs (iI i + (2 : Int32)).toNatClampNeg)
  refine ⟨v1, v2, ?_⟩
  rw [e1, e2]
  refine C_count hG hS.1 b1 b2 ?_
  refine v_lw_law_302 hG ⟨v1, v2, ?_⟩
  rw [e1, e2]
  refine M_count hG hM.1 b1 b2 ?_
  exact v_lw_law_314 hG ⟨fun _ => hC M s hS hM, fun c => absurd rfl c⟩
theorem law_variance (hG : qGood Ls xs P) (hL : Ls ≤ 2048) (hi : i + 4 ≤ Ls) (hS : CS s M) (hM : MS s M) (hC : lawN P i Q) : (vp_in ((iI i) + (1 : Int32)) Ls ∧ (vp_in ((iI i) + (2 : Int32)) Ls ∧ (vp_in ((iI i) + (3 : Int32)) Ls ∧ (P 59 0 [(0, .ref 0), (1, .int (xs ((iI i) + (1 : Int32)).toNatClampNeg)), (2, .int (xs ((iI i) + (2 : Int32)).toNatClampNeg)), (3, .int (xs ((iI i) + (3 : Int32)).toNatClampNeg))] [] M (fun v M' => P 155 334 [(0, .ref 1000), (1, .ref 0), (2, .ref 36), (3, .int (iI i))] (v.toList ++ []) M' Q))))) := by
  obtain ⟨v0, v1, v2, v3⟩ := vpi hL hi
  obtain ⟨z1, e1, b1⟩ := iI_of (xs (iI i + (1 : Int32)).toNatClampNeg)
  obtain ⟨z2, e2, b2⟩ := iI_of (xs (iI i + (2 : Int32)).toNatClampNeg)
  obtain ⟨z3, e3, b3⟩ := iI_of (xs (iI i + (3 : Int32)).toNatClampNeg)
  refine ⟨v1, v2, v3, ?_⟩
  rw [e1, e2, e3]
  refine C_variance hG hS.1 b1 b2 b3 (fun M1 hF1 => ?_)
  refine v_lw_law_334 hG ⟨v1, v2, v3, ?_⟩
  rw [e1, e2, e3]
  have hM1 := hM.fr (cFrm.of hF1 (by decide))
  refine M_variance hG hM1.1 b1 b2 b3 (fun M2 hF2 => ?_)
  exact v_lw_law_351 hG ⟨fun _ => hC M2 s ((hS.nx hF1 (by decide)).fr hF2.m) (hM1.q hF2), fun c => absurd (lg_cmp_rf _) c⟩
theorem law_deviation (hG : qGood Ls xs P) (hL : Ls ≤ 2048) (hi : i + 4 ≤ Ls) (hS : CS s M) (hM : MS s M) (hC : lawN P i Q) : (vp_in ((iI i) + (1 : Int32)) Ls ∧ (vp_in ((iI i) + (2 : Int32)) Ls ∧ (P 60 0 [(0, .ref 0), (1, .int (xs ((iI i) + (1 : Int32)).toNatClampNeg)), (2, .int (xs ((iI i) + (2 : Int32)).toNatClampNeg))] [] M (fun v M' => P 155 367 [(0, .ref 1000), (1, .ref 0), (2, .ref 36), (3, .int (iI i))] (v.toList ++ []) M' Q)))) := by
  obtain ⟨v0, v1, v2, v3⟩ := vpi hL hi
  obtain ⟨z1, e1, b1⟩ := iI_of (xs (iI i + (1 : Int32)).toNatClampNeg)
  obtain ⟨z2, e2, b2⟩ := iI_of (xs (iI i + (2 : Int32)).toNatClampNeg)
  refine ⟨v1, v2, ?_⟩
  rw [e1, e2]
  refine C_deviation hG hS.1 b1 b2 (fun M1 hF1 => ?_)
  refine v_lw_law_367 hG ⟨v1, v2, ?_⟩
  rw [e1, e2]
  have hM1 := hM.fr (cFrm.of hF1 (by decide))
  refine M_deviation hG hM1.1 b1 b2 (fun M2 hF2 => ?_)
  exact v_lw_law_379 hG ⟨fun _ => hC M2 s ((hS.nx hF1 (by decide)).fr hF2.m) (hM1.q hF2), fun c => absurd (lg_cmp_rf _) c⟩
theorem law_compare (hG : qGood Ls xs P) (hL : Ls ≤ 2048) (hi : i + 4 ≤ Ls) (hS : CS s M) (hM : MS s M) (hC : lawN P i Q) : (vp_in ((iI i) + (1 : Int32)) Ls ∧ (vp_in ((iI i) + (2 : Int32)) Ls ∧ (vp_in ((iI i) + (3 : Int32)) Ls ∧ (P 61 0 [(0, .ref 0), (1, .int (xs ((iI i) + (1 : Int32)).toNatClampNeg)), (2, .int (xs ((iI i) + (2 : Int32)).toNatClampNeg)), (3, .int (xs ((iI i) + (3 : Int32)).toNatClampNeg))] [] M (fun v M' => P 155 400 [(0, .ref 1000), (1, .ref 0), (2, .ref 36), (3, .int (iI i))] (v.toList ++ []) M' Q))))) := by
  obtain ⟨v0, v1, v2, v3⟩ := vpi hL hi
  obtain ⟨z1, e1, b1⟩ := iI_of (xs (iI i + (1 : Int32)).toNatClampNeg)
  obtain ⟨z2, e2, b2⟩ := iI_of (xs (iI i + (2 : Int32)).toNatClampNeg)
  obtain ⟨z3, e3, b3⟩ := iI_of (xs (iI i + (3 : Int32)).toNatClampNeg)
  refine ⟨v1, v2, v3, ?_⟩
  rw [e1, e2, e3]
  refine C_compare hG hS.1 b1 b2 b3 (fun M1 hF1 => ?_)
  refine v_lw_law_400 hG ⟨v1, v2, v3, ?_⟩
  rw [e1, e2, e3]
  have hM1 := hM.fr (cFrm.of hF1 (by decide))
  refine M_compare hG hM1.1 b1 b2 b3 (fun M2 hF2 => ?_)
  exact v_lw_law_417 hG ⟨fun _ => hC M2 s ((hS.nx hF1 (by decide)).fr hF2.m) (hM1.q hF2), fun c => absurd rfl c⟩
theorem law_best (hG : qGood Ls xs P) (hL : Ls ≤ 2048) (hi : i + 4 ≤ Ls) (hS : CS s M) (hM : MS s M) (hC : lawN P i Q) : (vp_in ((iI i) + (1 : Int32)) Ls ∧ (P 62 0 [(0, .ref 0), (1, .int (xs ((iI i) + (1 : Int32)).toNatClampNeg))] [] M (fun v M' => P 155 427 [(0, .ref 1000), (1, .ref 0), (2, .ref 36), (3, .int (iI i))] (v.toList ++ []) M' Q))) := by
  obtain ⟨v0, v1, v2, v3⟩ := vpi hL hi
  obtain ⟨z1, e1, b1⟩ := iI_of (xs (iI i + (1 : Int32)).toNatClampNeg)
  refine ⟨v1, ?_⟩
  rw [e1]
  refine C_best hG hS.1 b1 (fun M1 hF1 => ?_)
  refine v_lw_law_427 hG ⟨v1, ?_⟩
  rw [e1]
  have hM1 := hM.fr (cFrm.of hF1 (by decide))
  refine M_best hG hM1.1 b1 (fun M2 hF2 => ?_)
  exact v_lw_law_434 hG ⟨fun _ => hC M2 s ((hS.nx hF1 (by decide)).fr hF2.m) (hM1.q hF2), fun c => absurd rfl c⟩
theorem law_noise (hG : qGood Ls xs P) (hL : Ls ≤ 2048) (hi : i + 4 ≤ Ls) (hS : CS s M) (hM : MS s M) (hC : lawN P i Q) : (vp_in ((iI i) + (1 : Int32)) Ls ∧ (P 63 0 [(0, .ref 0), (1, .int (xs ((iI i) + (1 : Int32)).toNatClampNeg))] [] M (fun v M' => P 155 444 [(0, .ref 1000), (1, .ref 0), (2, .ref 36), (3, .int (iI i))] (v.toList ++ []) M' Q))) := by
  obtain ⟨v0, v1, v2, v3⟩ := vpi hL hi
  obtain ⟨z1, e1, b1⟩ := iI_of (xs (iI i + (1 : Int32)).toNatClampNeg)
  refine ⟨v1, ?_⟩
  rw [e1]
  refine C_noise hG hS.1 b1 (fun M1 hF1 => ?_)
  refine v_lw_law_444 hG ⟨v1, ?_⟩
  rw [e1]
  have hM1 := hM.fr (cFrm.of hF1 (by decide))
  refine M_noise hG hM1.1 b1 (fun M2 hF2 => ?_)
  exact v_lw_law_451 hG ⟨fun _ => hC M2 s ((hS.nx hF1 (by decide)).fr hF2.m) (hM1.q hF2), fun c => absurd rfl c⟩
theorem law_freedom (hG : qGood Ls xs P) (hL : Ls ≤ 2048) (hi : i + 4 ≤ Ls) (hS : CS s M) (hM : MS s M) (hC : lawN P i Q) : (vp_in ((iI i) + (1 : Int32)) Ls ∧ (P 64 0 [(0, .ref 0), (1, .int (xs ((iI i) + (1 : Int32)).toNatClampNeg))] [] M (fun v M' => P 155 461 [(0, .ref 1000), (1, .ref 0), (2, .ref 36), (3, .int (iI i))] (v.toList ++ []) M' Q))) := by
  obtain ⟨v0, v1, v2, v3⟩ := vpi hL hi
  obtain ⟨z1, e1, b1⟩ := iI_of (xs (iI i + (1 : Int32)).toNatClampNeg)
  refine ⟨v1, ?_⟩
  rw [e1]
  refine C_freedom hG hS.1 b1 (fun M1 hF1 => ?_)
  refine v_lw_law_461 hG ⟨v1, ?_⟩
  rw [e1]
  have hM1 := hM.fr (cFrm.of hF1 (by decide))
  refine M_freedom hG hM1.1 b1 (fun M2 hF2 => ?_)
  exact v_lw_law_468 hG ⟨fun _ => hC M2 s ((hS.nx hF1 (by decide)).fr hF2.m) (hM1.q hF2), fun c => absurd rfl c⟩
theorem law_outliers (hG : qGood Ls xs P) (hL : Ls ≤ 2048) (hi : i + 4 ≤ Ls) (hS : CS s M) (hM : MS s M) (hC : lawN P i Q) : (vp_in ((iI i) + (1 : Int32)) Ls ∧ (P 65 0 [(0, .ref 0), (1, .int (xs ((iI i) + (1 : Int32)).toNatClampNeg))] [] M (fun v M' => P 155 478 [(0, .ref 1000), (1, .ref 0), (2, .ref 36), (3, .int (iI i))] (v.toList ++ []) M' Q))) := by
  obtain ⟨v0, v1, v2, v3⟩ := vpi hL hi
  obtain ⟨z1, e1, b1⟩ := iI_of (xs (iI i + (1 : Int32)).toNatClampNeg)
  refine ⟨v1, ?_⟩
  rw [e1]
  refine C_outliers hG hS.1 b1 ?_
  refine v_lw_law_478 hG ⟨v1, ?_⟩
  rw [e1]
  refine M_outliers hG hM.1 b1 (fun M2 hF2 => ?_)
  exact v_lw_law_485 hG ⟨fun _ => hC M2 s (hS.fr hF2.m) (hM.q hF2), fun c => absurd rfl c⟩
theorem law_write (hG : qGood Ls xs P) (hL : Ls ≤ 2048) (hi : i + 4 ≤ Ls) (hS : CS s M) (hM : MS s M) (hC : lawN P i Q) : (vp_in ((iI i) + (1 : Int32)) Ls ∧ (P 66 0 [(0, .ref 0), (1, .int (xs ((iI i) + (1 : Int32)).toNatClampNeg))] [] M (fun v M' => P 155 495 [(0, .ref 1000), (1, .ref 0), (2, .ref 36), (3, .int (iI i))] (v.toList ++ []) M' Q))) := by
  obtain ⟨v0, v1, v2, v3⟩ := vpi hL hi
  obtain ⟨z1, e1, b1⟩ := iI_of (xs (iI i + (1 : Int32)).toNatClampNeg)
  refine ⟨v1, ?_⟩
  rw [e1]
  refine C_write hG hS b1 (fun M1 hF1 hS1 => ?_)
  refine v_lw_law_495 hG ⟨v1, ?_⟩
  rw [e1]
  refine M_write hG (hM.fr hF1) b1 (fun M2 hF2 hM2 => ?_)
  exact v_lw_law_502 hG ⟨fun _ => hC M2 _ (hS1.fr hF2) hM2, fun c => absurd rfl c⟩
theorem law_wipe (hG : qGood Ls xs P) (hL : Ls ≤ 2048) (hi : i + 4 ≤ Ls) (hS : CS s M) (hM : MS s M) (hC : lawN P i Q) : (P 67 0 [(0, .ref 0)] [] M (fun v M' => P 155 507 [(0, .ref 1000), (1, .ref 0), (2, .ref 36), (3, .int (iI i))] (v.toList ++ []) M' Q)) := by
  obtain ⟨v0, v1, v2, v3⟩ := vpi hL hi
  refine C_wipe hG hS (fun M1 hF1 hS1 => ?_)
  refine v_lw_law_507 hG ?_
  refine M_wipe hG (hM.fr hF1) (fun M2 hF2 hM2 => ?_)
  exact v_lw_law_509 hG ⟨fun _ => hC M2 _ (hS1.fr hF2) hM2, fun c => absurd rfl c⟩
theorem law_load (hG : qGood Ls xs P) (hL : Ls ≤ 2048) (hi : i + 4 ≤ Ls) (hS : CS s M) (hM : MS s M) (hC : lawN P i Q) : (P 68 0 [(0, .ref 0)] [] M (fun v M' => P 155 514 [(0, .ref 1000), (1, .ref 0), (2, .ref 36), (3, .int (iI i))] (v.toList ++ []) M' Q)) := by
  obtain ⟨v0, v1, v2, v3⟩ := vpi hL hi
  refine C_load hG hS (fun M1 hF1 hS1 => ?_)
  refine v_lw_law_514 hG ?_
  refine M_load hG (hM.fr hF1) (fun M2 hF2 hM2 => ?_)
  exact v_lw_law_516 hG ⟨fun _ => hC M2 _ (hS1.fr hF2) hM2, fun c => absurd rfl c⟩
theorem law_fault (hG : qGood Ls xs P) (hL : Ls ≤ 2048) (hi : i + 4 ≤ Ls) (hS : CS s M) (hM : MS s M) (hC : lawN P i Q) : (vp_in ((iI i) + (1 : Int32)) Ls ∧ (P 69 0 [(0, .ref 0), (1, .int (xs ((iI i) + (1 : Int32)).toNatClampNeg))] [] M (fun v M' => P 155 526 [(0, .ref 1000), (1, .ref 0), (2, .ref 36), (3, .int (iI i))] (v.toList ++ []) M' Q))) := by
  obtain ⟨v0, v1, v2, v3⟩ := vpi hL hi
  obtain ⟨z1, e1, b1⟩ := iI_of (xs (iI i + (1 : Int32)).toNatClampNeg)
  refine ⟨v1, ?_⟩
  rw [e1]
  refine C_fault hG hS b1 ?_
  refine v_lw_law_526 hG ⟨v1, ?_⟩
  rw [e1]
  refine M_fault hG hM b1 ?_
  exact v_lw_law_533 hG ⟨fun _ => hC M s hS hM, fun c => absurd rfl c⟩
theorem law_keep (hG : qGood Ls xs P) (hL : Ls ≤ 2048) (hi : i + 4 ≤ Ls) (hS : CS s M) (hM : MS s M) (hC : lawN P i Q) : (vp_in ((iI i) + (1 : Int32)) Ls ∧ (P 70 0 [(0, .ref 0), (1, .int (xs ((iI i) + (1 : Int32)).toNatClampNeg))] [] M (fun v M' => P 155 543 [(0, .ref 1000), (1, .ref 0), (2, .ref 36), (3, .int (iI i))] (v.toList ++ []) M' Q))) := by
  obtain ⟨v0, v1, v2, v3⟩ := vpi hL hi
  obtain ⟨z1, e1, b1⟩ := iI_of (xs (iI i + (1 : Int32)).toNatClampNeg)
  refine ⟨v1, ?_⟩
  rw [e1]
  refine C_keep hG hS b1 (fun M1 hF1 hS1 => ?_)
  refine v_lw_law_543 hG ⟨v1, ?_⟩
  rw [e1]
  refine M_keep hG (hM.fr hF1) b1 (fun M2 hF2 hM2 => ?_)
  exact v_lw_law_550 hG ⟨fun _ => hC M2 _ (hS1.fr hF2) hM2, fun c => absurd rfl c⟩
theorem law_back (hG : qGood Ls xs P) (hL : Ls ≤ 2048) (hi : i + 4 ≤ Ls) (hS : CS s M) (hM : MS s M) (hC : lawN P i Q) : (vp_in ((iI i) + (1 : Int32)) Ls ∧ (P 71 0 [(0, .ref 0), (1, .int (xs ((iI i) + (1 : Int32)).toNatClampNeg))] [] M (fun v M' => P 155 560 [(0, .ref 1000), (1, .ref 0), (2, .ref 36), (3, .int (iI i))] (v.toList ++ []) M' Q))) := by
  obtain ⟨v0, v1, v2, v3⟩ := vpi hL hi
  obtain ⟨z1, e1, b1⟩ := iI_of (xs (iI i + (1 : Int32)).toNatClampNeg)
  refine ⟨v1, ?_⟩
  rw [e1]
  refine C_back hG hS b1 (fun M1 hF1 hS1 => ?_)
  refine v_lw_law_560 hG ⟨v1, ?_⟩
  rw [e1]
  refine M_back hG (hM.fr hF1) b1 (fun M2 hF2 hM2 => ?_)
  exact v_lw_law_567 hG ⟨fun _ => hC M2 _ (hS1.fr hF2) hM2, fun c => absurd rfl c⟩
theorem law_loop (hG : qGood Ls xs P) (hL : Ls ≤ 2048) (hQ : ∀ M', Q (some (.int (1 : Int32))) M') : ∀ (d i : Nat) (M : qMem) (s : zSt), Ls ≤ i + 4 * d + 3 → i ≤ 2048 → CS s M → MS s M → P 155 10 [(0, .ref 1000), (1, .ref 0), (2, .ref 36), (3, .int (iI i))] [] M Q := by
  intro d
  induction d with
  | zero =>
    intro i M s h hi hS hM
    refine v_lw_law_10 hG ⟨fun _ => ⟨by decide, hQ M⟩, fun c => ?_⟩
    exfalso
    apply c
    rw [ofN, show (4 : Int32) = iI 4 by decide]
    simp (disch := omega) only [iI_add, iI_sub, iI_mul, iI_neg, iI_lt, iI_le, iI_eq, iI_cl, vp_iI, Classical.not_not, iLn1000000005, iLn1000000004, iLn1000000003, iLn1000000002, iLn1000000001, iLn99999, iLn9999, iLn2, iLn1, iL0, iL1, iL2, iL3, iL4, iL5, iL6, iL7, iL8, iL9, iL10, iL15, iL16, iL31, iL32, iL40, iL42, iL45, iL48, iL57, iL59, iL63, iL64, iL65, iL120, iL126, iL455, iL520, iL9999, iL99999, iN2, iN8, iN64, iN65, iN120, iN130, iN520]
    omega
  | succ d ih =>
    intro i M s h hi hS hM
    refine v_lw_law_10 hG ⟨fun _ => ⟨by decide, hQ M⟩, fun c => ?_⟩
    rw [ofN, show (4 : Int32) = iI 4 by decide, iI_sub, iI_lt (by omega) (by omega) (by omega) (by omega)] at c
    have hi4 : i + 4 ≤ Ls := by omega
    have hC : lawN P i Q := by
      intro M' s' hS' hM'
      rw [show (4 : Int32) = iI 4 by decide, iI_add]
      exact ih (i + 4) M' s' (by omega) (by omega) hS' hM'
    refine ⟨(vpi hL hi4).1, ?_⟩
    refine ⟨fun _ => law_add hG hL hi4 hS hM hC, fun _ => ?_⟩
    refine ⟨fun _ => law_skip hG hL hi4 hS hM hC, fun _ => ?_⟩
    refine ⟨fun _ => law_set hG hL hi4 hS hM hC, fun _ => ?_⟩
    refine ⟨fun _ => law_clear hG hL hi4 hS hM hC, fun _ => ?_⟩
    refine ⟨fun _ => law_removeLine hG hL hi4 hS hM hC, fun _ => ?_⟩
    refine ⟨fun _ => law_addLine hG hL hi4 hS hM hC, fun _ => ?_⟩
    refine ⟨fun _ => law_removeDrift hG hL hi4 hS hM hC, fun _ => ?_⟩
    refine ⟨fun _ => law_removeOutliers hG hL hi4 hS hM hC, fun _ => ?_⟩
    refine ⟨fun _ => law_fill hG hL hi4 hS hM hC, fun _ => ?_⟩
    refine ⟨fun _ => law_thin hG hL hi4 hS hM hC, fun _ => ?_⟩
    refine ⟨fun _ => law_undo hG hL hi4 hS hM hC, fun _ => ?_⟩
    refine ⟨fun _ => law_told hG hL hi4 hS hM hC, fun _ => ?_⟩
    refine ⟨fun _ => law_reading hG hL hi4 hS hM hC, fun _ => ?_⟩
    refine ⟨fun _ => law_difference hG hL hi4 hS hM hC, fun _ => ?_⟩
    refine ⟨fun _ => law_count hG hL hi4 hS hM hC, fun _ => ?_⟩
    refine ⟨fun _ => law_variance hG hL hi4 hS hM hC, fun _ => ?_⟩
    refine ⟨fun _ => law_deviation hG hL hi4 hS hM hC, fun _ => ?_⟩
    refine ⟨fun _ => law_compare hG hL hi4 hS hM hC, fun _ => ?_⟩
    refine ⟨fun _ => law_best hG hL hi4 hS hM hC, fun _ => ?_⟩
    refine ⟨fun _ => law_noise hG hL hi4 hS hM hC, fun _ => ?_⟩
    refine ⟨fun _ => law_freedom hG hL hi4 hS hM hC, fun _ => ?_⟩
    refine ⟨fun _ => law_outliers hG hL hi4 hS hM hC, fun _ => ?_⟩
    refine ⟨fun _ => law_write hG hL hi4 hS hM hC, fun _ => ?_⟩
    refine ⟨fun _ => law_wipe hG hL hi4 hS hM hC, fun _ => ?_⟩
    refine ⟨fun _ => law_load hG hL hi4 hS hM hC, fun _ => ?_⟩
    refine ⟨fun _ => law_fault hG hL hi4 hS hM hC, fun _ => ?_⟩
    refine ⟨fun _ => law_keep hG hL hi4 hS hM hC, fun _ => ?_⟩
    refine ⟨fun _ => law_back hG hL hi4 hS hM hC, fun _ => ?_⟩
    exact hC M s hS hM
end LAW
