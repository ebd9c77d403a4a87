/-! what is to be shown, segment by segment: fr (printed by wip/genvc.py) -/
section VC
variable {Ls : Nat} {xs : Nat → Int32} {P : qSem}
def qc_fr_exists : List (Nat × List Nat) := []
theorem v_fr_exists_0 (hG : qGood Ls xs P) {k : Nat} {M : qMem} {Q : qPost} (hk : qFq k)
    (hV : (((lg_cmp (M.2 k 1) (0 : Int64)) ≤ 0 → (narrow .boolean (.int (0 : Int32)) = .int (0 : Int32) ∧ Q (some (.int (0 : Int32))) M)) ∧ (¬ ((lg_cmp (M.2 k 1) (0 : Int64)) ≤ 0) → (narrow .boolean (.int (1 : Int32)) = .int (1 : Int32) ∧ Q (some (.int (1 : Int32))) M)))) :
    P 0 0 [(0, .ref k)] [] M Q := by
  refine qRun_ok hG (ops := qo_0) (cuts := qc_fr_exists) rfl 11 0 _ _ _ _ ?_
  have hF : bif Nat.beq (shT k) 0 then (((lg_cmp (M.2 k 1) (0 : Int64)) ≤ 0 → (narrow .boolean (.int (0 : Int32)) = .int (0 : Int32) ∧ Q (some (.int (0 : Int32))) M)) ∧ (¬ ((lg_cmp (M.2 k 1) (0 : Int64)) ≤ 0) → (narrow .boolean (.int (1 : Int32)) = .int (1 : Int32) ∧ Q (some (.int (1 : Int32))) M))) else False := by
    (try rw [hk])
    exact hV
  exact hF
def qc_fr_become : List (Nat × List Nat) := [(3, [0, 1, 3])]
theorem v_fr_become_0 (hG : qGood Ls xs P) {k : Nat} {l1 l3 : Int64} {M : qMem} {Q : qPost} (hk : qFq k)
    (hV : (P 5 0 [(0, .long l1), (2, .long l3)] [] M (fun v M' => P 1 3 [(0, .ref k), (1, .long l1), (3, .long l3)] (v.toList ++ []) M' Q))) :
    P 1 0 [(0, .ref k), (1, .long l1), (3, .long l3)] [] M Q := by
  exact qRun_ok hG (ops := qo_1) (cuts := qc_fr_become) rfl 32 0 _ _ _ _ hV
theorem v_fr_become_3 (hG : qGood Ls xs P) {k : Nat} {l1 l3 s0 : Int64} {M : qMem} {Q : qPost} (hk : qFq k)
    (hV : (((lg_cmp l3 (0 : Int64)) ≤ 0 → Q none (pJ (pJ M k 0 (0 : Int64)) k 1 (0 : Int64))) ∧ (¬ ((lg_cmp l3 (0 : Int64)) ≤ 0) → ((0 < (lg_cmp s0 (0 : Int64)) → (¬ s0 = 0 ∧ (¬ s0 = 0 ∧ Q none (pJ (pJ M k 0 (l1 / s0)) k 1 (l3 / s0))))) ∧ (¬ (0 < (lg_cmp s0 (0 : Int64))) → Q none (pJ (pJ M k 0 (0 : Int64)) k 1 (0 : Int64))))))) :
    P 1 3 [(0, .ref k), (1, .long l1), (3, .long l3)] [.long s0] M Q := by
  refine qRun_ok hG (ops := qo_1) (cuts := qc_fr_become) rfl 32 3 _ _ _ _ ?_
  have hF : (((lg_cmp l3 (0 : Int64)) ≤ 0 → bif Nat.beq (shT k) 0 then bif Nat.beq (shT k) 0 then Q none (pJ (pJ M k 0 (0 : Int64)) k 1 (0 : Int64)) else False else False) ∧ (¬ ((lg_cmp l3 (0 : Int64)) ≤ 0) → ((0 < (lg_cmp s0 (0 : Int64)) → (¬ s0 = 0 ∧ bif Nat.beq (shT k) 0 then (¬ s0 = 0 ∧ bif Nat.beq (shT k) 0 then Q none (pJ (pJ M k 0 (l1 / s0)) k 1 (l3 / s0)) else False) else False)) ∧ (¬ (0 < (lg_cmp s0 (0 : Int64))) → bif Nat.beq (shT k) 0 then bif Nat.beq (shT k) 0 then Q none (pJ (pJ M k 0 (0 : Int64)) k 1 (0 : Int64)) else False else False)))) := by
    (try rw [hk])
    exact hV
  exact hF
def qc_fr_copyFrom : List (Nat × List Nat) := []
theorem v_fr_copyFrom_0 (hG : qGood Ls xs P) {k k1 : Nat} {M : qMem} {Q : qPost} (hk : qFq k) (hk1 : qFq k1)
    (hV : Q none (pJ (pJ M k 0 (M.2 k1 0)) k 1 ((pJ M k 0 (M.2 k1 0)).2 k1 1))) :
    P 2 0 [(0, .ref k), (1, .ref k1)] [] M Q := by
  refine qRun_ok hG (ops := qo_2) (cuts := qc_fr_copyFrom) rfl 11 0 _ _ _ _ ?_
  have hF : bif Nat.beq (shT k1) 0 then bif Nat.beq (shT k) 0 then bif Nat.beq (shT k1) 0 then bif Nat.beq (shT k) 0 then Q none (pJ (pJ M k 0 (M.2 k1 0)) k 1 ((pJ M k 0 (M.2 k1 0)).2 k1 1)) else False else False else False else False := by
    (try rw [hk])
    (try rw [hk1])
    exact hV
  exact hF
def qc_fr_orderOfMultiples : List (Nat × List Nat) := [(2, [0, 1, 3, 4]), (5, [0, 1, 3, 4]), (27, [0, 3, 6, 8]), (47, [])]
set_option maxRecDepth 100000 in
theorem v_fr_orderOfMultiples_0 (hG : qGood Ls xs P) {k k3 : Nat} {l1 l4 : Int64} {M : qMem} {Q : qPost} (hk : qFq k) (hk3 : qFq k3)
    (hV : (P 0 0 [(0, .ref k)] [] M (fun v M' => P 3 2 [(0, .ref k), (1, .long l1), (3, .ref k3), (4, .long l4)] (v.toList ++ []) M' Q))) :
    P 3 0 [(0, .ref k), (1, .long l1), (3, .ref k3), (4, .long l4)] [] M Q := by
  refine qRun_ok hG (ops := qo_3) (cuts := qc_fr_orderOfMultiples) rfl 50 0 _ _ _ _ ?_
  have hF : bif Nat.beq (shT k) 0 then (P 0 0 [(0, .ref k)] [] M (fun v M' => P 3 2 [(0, .ref k), (1, .long l1), (3, .ref k3), (4, .long l4)] (v.toList ++ []) M' Q)) else False := by
    (try rw [hk])
    (try rw [hk3])
    exact hV
  exact hF
set_option maxRecDepth 100000 in
theorem v_fr_orderOfMultiples_2 (hG : qGood Ls xs P) {k k3 : Nat} {l1 l4 : Int64} {s0 : Int32} {M : qMem} {Q : qPost} (hk : qFq k) (hk3 : qFq k3)
    (hV : ((s0 = 0 → Q (some (.int (0 : Int32))) M) ∧ (¬ (s0 = 0) → (P 0 0 [(0, .ref k3)] [] M (fun v M' => P 3 5 [(0, .ref k), (1, .long l1), (3, .ref k3), (4, .long l4)] (v.toList ++ []) M' Q))))) :
    P 3 2 [(0, .ref k), (1, .long l1), (3, .ref k3), (4, .long l4)] [.int s0] M Q := by
  refine qRun_ok hG (ops := qo_3) (cuts := qc_fr_orderOfMultiples) rfl 50 2 _ _ _ _ ?_
  have hF : ((s0 = 0 → Q (some (.int (0 : Int32))) M) ∧ (¬ (s0 = 0) → bif Nat.beq (shT k3) 0 then (P 0 0 [(0, .ref k3)] [] M (fun v M' => P 3 5 [(0, .ref k), (1, .long l1), (3, .ref k3), (4, .long l4)] (v.toList ++ []) M' Q)) else False)) := by
    (try rw [hk])
    (try rw [hk3])
    exact hV
  exact hF
set_option maxRecDepth 100000 in
theorem v_fr_orderOfMultiples_5 (hG : qGood Ls xs P) {k k3 : Nat} {l1 l4 : Int64} {s0 : Int32} {M : qMem} {Q : qPost} (hk : qFq k) (hk3 : qFq k3)
    (hV : ((¬ s0 = 0 → (¬ (M.2 k 1) = 0 ∧ (¬ (M.2 k3 1) = 0 ∧ (P 70 0 [(0, .long ((l1 * (M.2 k 0)) / (M.2 k 1))), (2, .long ((l4 * (M.2 k3 0)) / (M.2 k3 1)))] [] M (fun v M' => P 3 27 [(0, .ref k), (3, .ref k3), (6, .long (l1 * (M.2 k 0))), (8, .long (l4 * (M.2 k3 0)))] (v.toList ++ []) M' Q))))) ∧ (¬ (¬ s0 = 0) → Q (some (.int (0 : Int32))) M))) :
    P 3 5 [(0, .ref k), (1, .long l1), (3, .ref k3), (4, .long l4)] [.int s0] M Q := by
  refine qRun_ok hG (ops := qo_3) (cuts := qc_fr_orderOfMultiples) rfl 50 5 _ _ _ _ ?_
  have hF : ((¬ s0 = 0 → bif Nat.beq (shT k) 0 then bif Nat.beq (shT k3) 0 then bif Nat.beq (shT k) 0 then (¬ (M.2 k 1) = 0 ∧ bif Nat.beq (shT k3) 0 then (¬ (M.2 k3 1) = 0 ∧ (P 70 0 [(0, .long ((l1 * (M.2 k 0)) / (M.2 k 1))), (2, .long ((l4 * (M.2 k3 0)) / (M.2 k3 1)))] [] M (fun v M' => P 3 27 [(0, .ref k), (3, .ref k3), (6, .long (l1 * (M.2 k 0))), (8, .long (l4 * (M.2 k3 0)))] (v.toList ++ []) M' Q))) else False) else False else False else False) ∧ (¬ (¬ s0 = 0) → Q (some (.int (0 : Int32))) M)) := by
    (try rw [hk])
    (try rw [hk3])
    exact hV
  exact hF
set_option maxRecDepth 100000 in
theorem v_fr_orderOfMultiples_27 (hG : qGood Ls xs P) {k k3 : Nat} {l6 l8 : Int64} {s0 : Int32} {M : qMem} {Q : qPost} (hk : qFq k) (hk3 : qFq k3)
    (hV : ((s0 = 0 → (¬ (M.2 k 1) = 0 ∧ (¬ (M.2 k3 1) = 0 ∧ (P 70 0 [(0, .long ((l6 - l6 / (M.2 k 1) * (M.2 k 1)) * (M.2 k3 1))), (2, .long ((l8 - l8 / (M.2 k3 1) * (M.2 k3 1)) * (M.2 k 1)))] [] M (fun v M' => P 3 47 [] (v.toList ++ []) M' Q))))) ∧ (¬ (s0 = 0) → Q (some (.int s0)) M))) :
    P 3 27 [(0, .ref k), (3, .ref k3), (6, .long l6), (8, .long l8)] [.int s0] M Q := by
  refine qRun_ok hG (ops := qo_3) (cuts := qc_fr_orderOfMultiples) rfl 50 27 _ _ _ _ ?_
  have hF : ((s0 = 0 → bif Nat.beq (shT k) 0 then (¬ (M.2 k 1) = 0 ∧ bif Nat.beq (shT k3) 0 then bif Nat.beq (shT k3) 0 then (¬ (M.2 k3 1) = 0 ∧ bif Nat.beq (shT k) 0 then (P 70 0 [(0, .long ((l6 - l6 / (M.2 k 1) * (M.2 k 1)) * (M.2 k3 1))), (2, .long ((l8 - l8 / (M.2 k3 1) * (M.2 k3 1)) * (M.2 k 1)))] [] M (fun v M' => P 3 47 [] (v.toList ++ []) M' Q)) else False) else False else False) else False) ∧ (¬ (s0 = 0) → Q (some (.int s0)) M)) := by
    (try rw [hk])
    (try rw [hk3])
    exact hV
  exact hF
set_option maxRecDepth 100000 in
theorem v_fr_orderOfMultiples_47 (hG : qGood Ls xs P) {s0 : Int32} {M : qMem} {Q : qPost}
    (hV : Q (some (.int s0)) M) :
    P 3 47 [] [.int s0] M Q := by
  exact qRun_ok hG (ops := qo_3) (cuts := qc_fr_orderOfMultiples) rfl 50 47 _ _ _ _ hV
def qc_fr_timesRoundedDown : List (Nat × List Nat) := [(2, [0, 1])]
theorem v_fr_timesRoundedDown_0 (hG : qGood Ls xs P) {k : Nat} {l1 : Int64} {M : qMem} {Q : qPost} (hk : qFq k)
    (hV : (P 0 0 [(0, .ref k)] [] M (fun v M' => P 4 2 [(0, .ref k), (1, .long l1)] (v.toList ++ []) M' Q))) :
    P 4 0 [(0, .ref k), (1, .long l1)] [] M Q := by
  refine qRun_ok hG (ops := qo_4) (cuts := qc_fr_timesRoundedDown) rfl 26 0 _ _ _ _ ?_
  have hF : bif Nat.beq (shT k) 0 then (P 0 0 [(0, .ref k)] [] M (fun v M' => P 4 2 [(0, .ref k), (1, .long l1)] (v.toList ++ []) M' Q)) else False := by
    (try rw [hk])
    exact hV
  exact hF
theorem v_fr_timesRoundedDown_2 (hG : qGood Ls xs P) {k : Nat} {l1 : Int64} {s0 : Int32} {M : qMem} {Q : qPost} (hk : qFq k)
    (hV : ((¬ s0 = 0 → (¬ (M.2 k 1) = 0 ∧ (¬ (M.2 k 1) = 0 ∧ (¬ (M.2 k 1) = 0 ∧ Q (some (.long ((((M.2 k 0) / (M.2 k 1)) * l1) + ((((M.2 k 0) - (M.2 k 0) / (M.2 k 1) * (M.2 k 1)) * l1) / (M.2 k 1))))) M)))) ∧ (¬ (¬ s0 = 0) → Q (some (.long (0 : Int64))) M))) :
    P 4 2 [(0, .ref k), (1, .long l1)] [.int s0] M Q := by
  refine qRun_ok hG (ops := qo_4) (cuts := qc_fr_timesRoundedDown) rfl 26 2 _ _ _ _ ?_
  have hF : ((¬ s0 = 0 → bif Nat.beq (shT k) 0 then bif Nat.beq (shT k) 0 then (¬ (M.2 k 1) = 0 ∧ bif Nat.beq (shT k) 0 then bif Nat.beq (shT k) 0 then (¬ (M.2 k 1) = 0 ∧ bif Nat.beq (shT k) 0 then (¬ (M.2 k 1) = 0 ∧ Q (some (.long ((((M.2 k 0) / (M.2 k 1)) * l1) + ((((M.2 k 0) - (M.2 k 0) / (M.2 k 1) * (M.2 k 1)) * l1) / (M.2 k 1))))) M) else False) else False else False) else False else False) ∧ (¬ (¬ s0 = 0) → Q (some (.long (0 : Int64))) M)) := by
    (try rw [hk])
    exact hV
  exact hF
def qc_fr_greatestDivisor : List (Nat × List Nat) := [(6, [4, 6, 8])]
theorem v_fr_greatestDivisor_0 (hG : qGood Ls xs P) {l0 l2 : Int64} {M : qMem} {Q : qPost}
    (hV : (P 5 6 [(4, .long l0), (6, .long l2), (8, .int (0 : Int32))] [] M Q)) :
    P 5 0 [(0, .long l0), (2, .long l2)] [] M Q := by
  exact qRun_ok hG (ops := qo_5) (cuts := qc_fr_greatestDivisor) rfl 27 0 _ _ _ _ hV
theorem v_fr_greatestDivisor_6 (hG : qGood Ls xs P) {l4 l6 : Int64} {l8 : Int32} {M : qMem} {Q : qPost}
    (hV : (((100 : Int32) ≤ l8 → Q (some (.long l4)) M) ∧ (¬ ((100 : Int32) ≤ l8) → (((lg_cmp l6 (0 : Int64)) = 0 → Q (some (.long l4)) M) ∧ (¬ ((lg_cmp l6 (0 : Int64)) = 0) → (¬ l6 = 0 ∧ (P 5 6 [(4, .long l6), (6, .long (l4 - l4 / l6 * l6)), (8, .int (l8 + (1 : Int32)))] [] M Q))))))) :
    P 5 6 [(4, .long l4), (6, .long l6), (8, .int l8)] [] M Q := by
  exact qRun_ok hG (ops := qo_5) (cuts := qc_fr_greatestDivisor) rfl 27 6 _ _ _ _ hV
end VC
/-! what is to be shown, segment by segment: tx (printed by wip/genvc.py) -/
section VC
variable {Ls : Nat} {xs : Nat → Int32} {P : qSem}
def qc_tx_size : List (Nat × List Nat) := []
theorem v_tx_size_0 (hG : qGood Ls xs P) {M : qMem} {Q : qPost}
    (hV : Q (some (.int (M.1 31 1))) M) :
    P 33 0 [(0, .ref 31)] [] M Q := by
  exact qRun_ok hG (ops := qo_33) (cuts := qc_tx_size) rfl 5 0 _ _ _ _ hV
end VC
/-! what is to be shown, segment by segment: hi (printed by wip/genvc.py) -/
section VC
variable {Ls : Nat} {xs : Nat → Int32} {P : qSem}
def qc_hi_depth : List (Nat × List Nat) := []
theorem v_hi_depth_0 (hG : qGood Ls xs P) {M : qMem} {Q : qPost}
    (hV : Q (some (.int (M.1 6 2))) M) :
    P 6 0 [(0, .ref 6)] [] M Q := by
  exact qRun_ok hG (ops := qo_6) (cuts := qc_hi_depth) rfl 5 0 _ _ _ _ hV
def qc_hi_record : List (Nat × List Nat) := [(22, [0, 1]), (28, [0])]
theorem v_hi_record_0 (hG : qGood Ls xs P) {M : qMem} {Q : qPost}
    (hV : ((¬ (M.1 6 2) = (8 : Int32) → (P 9 0 [(0, .ref 6), (1, .int (M.1 6 2))] [] M (fun v M' => P 7 22 [(0, .ref 6), (1, .ref 1)] (v.toList ++ []) M' Q))) ∧ (¬ (¬ (M.1 6 2) = (8 : Int32)) → (¬ (8 : Int32) = 0 ∧ (P 9 0 [(0, .ref 6), (1, .int ((M.1 6 2) - (1 : Int32)))] [] (pI (pI M 6 1 (((M.1 6 1) + (1 : Int32)) - ((M.1 6 1) + (1 : Int32)) / (8 : Int32) * (8 : Int32))) 6 2 ((M.1 6 2) - (1 : Int32))) (fun v M' => P 7 22 [(0, .ref 6), (1, .ref 1)] (v.toList ++ []) M' Q)))))) :
    P 7 0 [(0, .ref 6), (1, .ref 1)] [] M Q := by
  exact qRun_ok hG (ops := qo_7) (cuts := qc_hi_record) rfl 37 0 _ _ _ _ hV
theorem v_hi_record_22 (hG : qGood Ls xs P) {ks0 : Nat} {M : qMem} {Q : qPost} (hks0 : qRd ks0)
    (hV : (P 18 0 [(0, .ref ks0), (1, .ref 1)] [] M (fun v M' => P 7 28 [(0, .ref 6)] (v.toList ++ []) M' Q))) :
    P 7 22 [(0, .ref 6), (1, .ref 1)] [.ref ks0] M Q := by
  refine qRun_ok hG (ops := qo_7) (cuts := qc_hi_record) rfl 37 22 _ _ _ _ ?_
  have hF : bif Nat.beq (shT ks0) 4 then (P 18 0 [(0, .ref ks0), (1, .ref 1)] [] M (fun v M' => P 7 28 [(0, .ref 6)] (v.toList ++ []) M' Q)) else False := by
    (try rw [hks0.1])
    (try rw [hks0.2.1])
    (try rw [hks0.2.2])
    exact hV
  exact hF
theorem v_hi_record_22n (hG : qGood Ls xs P) {M : qMem} {Q : qPost}
    (hV : Q none M) :
    P 7 22 [(0, .ref 6), (1, .ref 1)] [.null] M Q := by
  exact qRun_ok hG (ops := qo_7) (cuts := qc_hi_record) rfl 37 22 _ _ _ _ hV
theorem v_hi_record_28 (hG : qGood Ls xs P) {M : qMem} {Q : qPost}
    (hV : Q none (pI M 6 2 ((M.1 6 2) + (1 : Int32)))) :
    P 7 28 [(0, .ref 6)] [] M Q := by
  exact qRun_ok hG (ops := qo_7) (cuts := qc_hi_record) rfl 37 28 _ _ _ _ hV
def qc_hi_restore : List (Nat × List Nat) := [(6, [0, 1]), (12, [0])]
theorem v_hi_restore_0 (hG : qGood Ls xs P) {M : qMem} {Q : qPost}
    (hV : (P 9 0 [(0, .ref 6), (1, .int ((M.1 6 2) - (1 : Int32)))] [] M (fun v M' => P 8 6 [(0, .ref 6), (1, .ref 1)] (v.toList ++ []) M' Q))) :
    P 8 0 [(0, .ref 6), (1, .ref 1)] [] M Q := by
  exact qRun_ok hG (ops := qo_8) (cuts := qc_hi_restore) rfl 21 0 _ _ _ _ hV
theorem v_hi_restore_6 (hG : qGood Ls xs P) {ks0 : Nat} {M : qMem} {Q : qPost} (hks0 : qRd ks0)
    (hV : (P 18 0 [(0, .ref 1), (1, .ref ks0)] [] M (fun v M' => P 8 12 [(0, .ref 6)] (v.toList ++ []) M' Q))) :
    P 8 6 [(0, .ref 6), (1, .ref 1)] [.ref ks0] M Q := by
  exact qRun_ok hG (ops := qo_8) (cuts := qc_hi_restore) rfl 21 6 _ _ _ _ hV
theorem v_hi_restore_6n (hG : qGood Ls xs P) {M : qMem} {Q : qPost}
    (hV : Q none M) :
    P 8 6 [(0, .ref 6), (1, .ref 1)] [.null] M Q := by
  exact qRun_ok hG (ops := qo_8) (cuts := qc_hi_restore) rfl 21 6 _ _ _ _ hV
theorem v_hi_restore_12 (hG : qGood Ls xs P) {M : qMem} {Q : qPost}
    (hV : Q none (pI M 6 2 ((M.1 6 2) - (1 : Int32)))) :
    P 8 12 [(0, .ref 6)] [] M Q := by
  exact qRun_ok hG (ops := qo_8) (cuts := qc_hi_restore) rfl 21 12 _ _ _ _ hV
def qc_hi_stateAt : List (Nat × List Nat) := []
theorem v_hi_stateAt_0 (hG : qGood Ls xs P) {l1 : Int32} {M : qMem} {Q : qPost}
    (hV : (¬ (8 : Int32) = 0 ∧ ((l1 < 0 → Q (some (.null)) M) ∧ (¬ (l1 < 0) → (((((M.1 6 1) + l1) - ((M.1 6 1) + l1) / (8 : Int32) * (8 : Int32)) < 0 → Q (some (.null)) M) ∧ (¬ ((((M.1 6 1) + l1) - ((M.1 6 1) + l1) / (8 : Int32) * (8 : Int32)) < 0) → (((((M.1 6 1) + l1) - ((M.1 6 1) + l1) / (8 : Int32) * (8 : Int32)) < (Int32.ofNat 8) → (vp_in (((M.1 6 1) + l1) - ((M.1 6 1) + l1) / (8 : Int32) * (8 : Int32)) 8 ∧ Q (some (.ref (rf 7 (((M.1 6 1) + l1) - ((M.1 6 1) + l1) / (8 : Int32) * (8 : Int32)).toNatClampNeg))) M)) ∧ (¬ ((((M.1 6 1) + l1) - ((M.1 6 1) + l1) / (8 : Int32) * (8 : Int32)) < (Int32.ofNat 8)) → Q (some (.null)) M)))))))) :
    P 9 0 [(0, .ref 6), (1, .int l1)] [] M Q := by
  exact qRun_ok hG (ops := qo_9) (cuts := qc_hi_stateAt) rfl 25 0 _ _ _ _ hV
end VC
/-! what is to be shown, segment by segment: math (printed by wip/genvc.py) -/
section VC
variable {Ls : Nat} {xs : Nat → Int32} {P : qSem}
def qc_math_floorDiv : List (Nat × List Nat) := []
theorem v_math_floorDiv_0 (hG : qGood Ls xs P) {l0 l2 : Int64} {M : qMem} {Q : qPost}
    (hV : (¬ l2 = 0 ∧ ((0 ≤ (lg_cmp (l0 ^^^ l2) (0 : Int64)) → Q (some (.long (l0 / l2))) M) ∧ (¬ (0 ≤ (lg_cmp (l0 ^^^ l2) (0 : Int64))) → (((lg_cmp ((l0 / l2) * l2) l0) = 0 → Q (some (.long (l0 / l2))) M) ∧ (¬ ((lg_cmp ((l0 / l2) * l2) l0) = 0) → Q (some (.long ((l0 / l2) - (1 : Int64)))) M)))))) :
    P 71 0 [(0, .long l0), (2, .long l2)] [] M Q := by
  exact qRun_ok hG (ops := qo_71) (cuts := qc_math_floorDiv) rfl 24 0 _ _ _ _ hV
def qc_math_max : List (Nat × List Nat) := []
theorem v_math_max_0 (hG : qGood Ls xs P) {l0 l1 : Int32} {M : qMem} {Q : qPost}
    (hV : ((l0 < l1 → Q (some (.int l1)) M) ∧ (¬ (l0 < l1) → Q (some (.int l0)) M))) :
    P 72 0 [(0, .int l0), (1, .int l1)] [] M Q := by
  exact qRun_ok hG (ops := qo_72) (cuts := qc_math_max) rfl 9 0 _ _ _ _ hV
end VC
/-! what is to be shown, segment by segment: long (printed by wip/genvc.py) -/
section VC
variable {Ls : Nat} {xs : Nat → Int32} {P : qSem}
def qc_long_compare : List (Nat × List Nat) := []
theorem v_long_compare_0 (hG : qGood Ls xs P) {l0 l2 : Int64} {M : qMem} {Q : qPost}
    (hV : ((0 ≤ (lg_cmp l0 l2) → ((¬ (lg_cmp l0 l2) = 0 → Q (some (.int (1 : Int32))) M) ∧ (¬ (¬ (lg_cmp l0 l2) = 0) → Q (some (.int (0 : Int32))) M))) ∧ (¬ (0 ≤ (lg_cmp l0 l2)) → Q (some (.int (-1 : Int32))) M))) :
    P 70 0 [(0, .long l0), (2, .long l2)] [] M Q := by
  exact qRun_ok hG (ops := qo_70) (cuts := qc_long_compare) rfl 16 0 _ _ _ _ hV
end VC
