/-! objects of a kind -/
def qRd (k : Nat) : Prop := shT k = 4 ∧ shT (rf k 0) = 100 ∧ shL (rf k 0) = 64
def qFq (k : Nat) : Prop := shT k = 0
def qIm (k : Nat) : Prop := shT k = 2 ∧ qRd (rf k 0)
/-! what is to be shown, segment by segment: rd (printed by wip/genvc.py) -/
section VC
variable {Ls : Nat} {xs : Nat → Int32} {P : qSem}
def qc_rd_size : List (Nat × List Nat) := []
theorem v_rd_size_0 (hG : qGood Ls xs P) {k : Nat} {M : qMem} {Q : qPost} (hk : qRd k)
    (hV : Q (some (.int (M.1 k 1))) M) :
    P 10 0 [(0, .ref k)] [] M Q := by
  refine qRun_ok hG (ops := qo_10) (cuts := qc_rd_size) rfl 5 0 _ _ _ _ ?_
  have hF : bif Nat.beq (shT k) 4 then Q (some (.int (M.1 k 1))) M else False := by
    (try rw [hk.1])
    (try rw [hk.2.1])
    (try rw [hk.2.2])
    exact hV
  exact hF
def qc_rd_reaches : List (Nat × List Nat) := []
theorem v_rd_reaches_0 (hG : qGood Ls xs P) {k : Nat} {l1 : Int32} {M : qMem} {Q : qPost} (hk : qRd k)
    (hV : ((l1 < 0 → (narrow .boolean (.int (0 : Int32)) = .int (0 : Int32) ∧ Q (some (.int (0 : Int32))) M)) ∧ (¬ (l1 < 0) → (((M.1 k 1) ≤ l1 → (narrow .boolean (.int (0 : Int32)) = .int (0 : Int32) ∧ Q (some (.int (0 : Int32))) M)) ∧ (¬ ((M.1 k 1) ≤ l1) → (narrow .boolean (.int (1 : Int32)) = .int (1 : Int32) ∧ Q (some (.int (1 : Int32))) M)))))) :
    P 11 0 [(0, .ref k), (1, .int l1)] [] M Q := by
  refine qRun_ok hG (ops := qo_11) (cuts := qc_rd_reaches) rfl 12 0 _ _ _ _ ?_
  have hF : ((l1 < 0 → (narrow .boolean (.int (0 : Int32)) = .int (0 : Int32) ∧ Q (some (.int (0 : Int32))) M)) ∧ (¬ (l1 < 0) → bif Nat.beq (shT k) 4 then (((M.1 k 1) ≤ l1 → (narrow .boolean (.int (0 : Int32)) = .int (0 : Int32) ∧ Q (some (.int (0 : Int32))) M)) ∧ (¬ ((M.1 k 1) ≤ l1) → (narrow .boolean (.int (1 : Int32)) = .int (1 : Int32) ∧ Q (some (.int (1 : Int32))) M))) else False)) := by
    (try rw [hk.1])
    (try rw [hk.2.1])
    (try rw [hk.2.2])
    exact hV
  exact hF
def qc_rd_has : List (Nat × List Nat) := [(3, [])]
theorem v_rd_has_0 (hG : qGood Ls xs P) {k : Nat} {l1 : Int32} {M : qMem} {Q : qPost} (hk : qRd k)
    (hV : (P 13 0 [(0, .ref k), (1, .int l1)] [] M (fun v M' => P 12 3 [] (v.toList ++ []) M' Q))) :
    P 12 0 [(0, .ref k), (1, .int l1)] [] M Q := by
  refine qRun_ok hG (ops := qo_12) (cuts := qc_rd_has) rfl 11 0 _ _ _ _ ?_
  have hF : bif Nat.beq (shT k) 4 then (P 13 0 [(0, .ref k), (1, .int l1)] [] M (fun v M' => P 12 3 [] (v.toList ++ []) M' Q)) else False := by
    (try rw [hk.1])
    (try rw [hk.2.1])
    (try rw [hk.2.2])
    exact hV
  exact hF
theorem v_rd_has_3 (hG : qGood Ls xs P) {s0 : Int32} {M : qMem} {Q : qPost}
    (hV : ((s0 = (-1000000001 : Int32) → (narrow .boolean (.int (0 : Int32)) = .int (0 : Int32) ∧ Q (some (.int (0 : Int32))) M)) ∧ (¬ (s0 = (-1000000001 : Int32)) → (narrow .boolean (.int (1 : Int32)) = .int (1 : Int32) ∧ Q (some (.int (1 : Int32))) M)))) :
    P 12 3 [] [.int s0] M Q := by
  exact qRun_ok hG (ops := qo_12) (cuts := qc_rd_has) rfl 11 3 _ _ _ _ hV
def qc_rd_at : List (Nat × List Nat) := []
theorem v_rd_at_0 (hG : qGood Ls xs P) {k : Nat} {l1 : Int32} {M : qMem} {Q : qPost} (hk : qRd k)
    (hV : ((l1 < 0 → Q (some (.int (-1000000001 : Int32))) M) ∧ (¬ (l1 < 0) → (((M.1 k 1) ≤ l1 → Q (some (.int (-1000000001 : Int32))) M) ∧ (¬ ((M.1 k 1) ≤ l1) → ((l1 < (Int32.ofNat 64) → (vp_in l1 64 ∧ Q (some (.int (M.1 (rf k 0) l1.toNatClampNeg))) M)) ∧ (¬ (l1 < (Int32.ofNat 64)) → Q (some (.int (-1000000001 : Int32))) M))))))) :
    P 13 0 [(0, .ref k), (1, .int l1)] [] M Q := by
  refine qRun_ok hG (ops := qo_13) (cuts := qc_rd_at) rfl 20 0 _ _ _ _ ?_
  have hF : ((l1 < 0 → Q (some (.int (-1000000001 : Int32))) M) ∧ (¬ (l1 < 0) → bif Nat.beq (shT k) 4 then (((M.1 k 1) ≤ l1 → Q (some (.int (-1000000001 : Int32))) M) ∧ (¬ ((M.1 k 1) ≤ l1) → bif Nat.beq (shT k) 4 then bif (Nat.ble 100 (shT (rf k 0)) && Nat.ble (shT (rf k 0)) 104) then ((l1 < (Int32.ofNat (shL (rf k 0))) → bif Nat.beq (shT k) 4 then bif Nat.beq (shT (rf k 0)) 100 then (vp_in l1 (shL (rf k 0)) ∧ Q (some (.int (M.1 (rf k 0) l1.toNatClampNeg))) M) else False else False) ∧ (¬ (l1 < (Int32.ofNat (shL (rf k 0)))) → Q (some (.int (-1000000001 : Int32))) M)) else False else False)) else False)) := by
    (try rw [hk.1])
    (try rw [hk.2.1])
    (try rw [hk.2.2])
    exact hV
  exact hF
def qc_rd_put : List (Nat × List Nat) := []
theorem v_rd_put_0 (hG : qGood Ls xs P) {k : Nat} {l1 l2 : Int32} {M : qMem} {Q : qPost} (hk : qRd k)
    (hV : ((l1 < 0 → Q none M) ∧ (¬ (l1 < 0) → (((M.1 k 1) ≤ l1 → Q none M) ∧ (¬ ((M.1 k 1) ≤ l1) → (((Int32.ofNat 64) ≤ l1 → Q none M) ∧ (¬ ((Int32.ofNat 64) ≤ l1) → (vp_in l1 64 ∧ Q none (pI M (rf k 0) l1.toNatClampNeg l2))))))))) :
    P 14 0 [(0, .ref k), (1, .int l1), (2, .int l2)] [] M Q := by
  refine qRun_ok hG (ops := qo_14) (cuts := qc_rd_put) rfl 19 0 _ _ _ _ ?_
  have hF : ((l1 < 0 → Q none M) ∧ (¬ (l1 < 0) → bif Nat.beq (shT k) 4 then (((M.1 k 1) ≤ l1 → Q none M) ∧ (¬ ((M.1 k 1) ≤ l1) → bif Nat.beq (shT k) 4 then bif (Nat.ble 100 (shT (rf k 0)) && Nat.ble (shT (rf k 0)) 104) then (((Int32.ofNat (shL (rf k 0))) ≤ l1 → Q none M) ∧ (¬ ((Int32.ofNat (shL (rf k 0))) ≤ l1) → bif Nat.beq (shT k) 4 then bif Nat.beq (shT (rf k 0)) 100 then (vp_in l1 (shL (rf k 0)) ∧ Q none (pI M (rf k 0) l1.toNatClampNeg l2)) else False else False)) else False else False)) else False)) := by
    (try rw [hk.1])
    (try rw [hk.2.1])
    (try rw [hk.2.2])
    exact hV
  exact hF
def qc_rd_append : List (Nat × List Nat) := []
theorem v_rd_append_0 (hG : qGood Ls xs P) {k : Nat} {l1 : Int32} {M : qMem} {Q : qPost} (hk : qRd k)
    (hV : (((M.1 k 1) < 0 → Q none M) ∧ (¬ ((M.1 k 1) < 0) → (((Int32.ofNat 64) ≤ (M.1 k 1) → Q none M) ∧ (¬ ((Int32.ofNat 64) ≤ (M.1 k 1)) → (vp_in (M.1 k 1) 64 ∧ Q none (pI (pI M (rf k 0) (M.1 k 1).toNatClampNeg l1) k 1 (((pI M (rf k 0) (M.1 k 1).toNatClampNeg l1).1 k 1) + (1 : Int32))))))))) :
    P 15 0 [(0, .ref k), (1, .int l1)] [] M Q := by
  refine qRun_ok hG (ops := qo_15) (cuts := qc_rd_append) rfl 24 0 _ _ _ _ ?_
  have hF : bif Nat.beq (shT k) 4 then (((M.1 k 1) < 0 → Q none M) ∧ (¬ ((M.1 k 1) < 0) → bif Nat.beq (shT k) 4 then bif Nat.beq (shT k) 4 then bif (Nat.ble 100 (shT (rf k 0)) && Nat.ble (shT (rf k 0)) 104) then (((Int32.ofNat (shL (rf k 0))) ≤ (M.1 k 1) → Q none M) ∧ (¬ ((Int32.ofNat (shL (rf k 0))) ≤ (M.1 k 1)) → bif Nat.beq (shT k) 4 then bif Nat.beq (shT k) 4 then bif Nat.beq (shT (rf k 0)) 100 then (vp_in (M.1 k 1) (shL (rf k 0)) ∧ bif Nat.beq (shT k) 4 then bif Nat.beq (shT k) 4 then Q none (pI (pI M (rf k 0) (M.1 k 1).toNatClampNeg l1) k 1 (((pI M (rf k 0) (M.1 k 1).toNatClampNeg l1).1 k 1) + (1 : Int32))) else False else False) else False else False else False)) else False else False else False)) else False := by
    (try rw [hk.1])
    (try rw [hk.2.1])
    (try rw [hk.2.2])
    exact hV
  exact hF
def qc_rd_appendTimes : List (Nat × List Nat) := [(2, [0, 1, 2, 3]), (8, [0, 1, 2, 3])]
theorem v_rd_appendTimes_0 (hG : qGood Ls xs P) {k : Nat} {l1 l2 : Int32} {M : qMem} {Q : qPost} (hk : qRd k)
    (hV : (P 16 2 [(0, .ref k), (1, .int l1), (2, .int l2), (3, .int (0 : Int32))] [] M Q)) :
    P 16 0 [(0, .ref k), (1, .int l1), (2, .int l2)] [] M Q := by
  exact qRun_ok hG (ops := qo_16) (cuts := qc_rd_appendTimes) rfl 13 0 _ _ _ _ hV
theorem v_rd_appendTimes_2 (hG : qGood Ls xs P) {k : Nat} {l1 l2 l3 : Int32} {M : qMem} {Q : qPost} (hk : qRd k)
    (hV : ((l2 ≤ l3 → Q none M) ∧ (¬ (l2 ≤ l3) → (P 15 0 [(0, .ref k), (1, .int l1)] [] M (fun v M' => P 16 8 [(0, .ref k), (1, .int l1), (2, .int l2), (3, .int l3)] (v.toList ++ []) M' Q))))) :
    P 16 2 [(0, .ref k), (1, .int l1), (2, .int l2), (3, .int l3)] [] M Q := by
  refine qRun_ok hG (ops := qo_16) (cuts := qc_rd_appendTimes) rfl 13 2 _ _ _ _ ?_
  have hF : ((l2 ≤ l3 → Q none M) ∧ (¬ (l2 ≤ l3) → bif Nat.beq (shT k) 4 then (P 15 0 [(0, .ref k), (1, .int l1)] [] M (fun v M' => P 16 8 [(0, .ref k), (1, .int l1), (2, .int l2), (3, .int l3)] (v.toList ++ []) M' Q)) else False)) := by
    (try rw [hk.1])
    (try rw [hk.2.1])
    (try rw [hk.2.2])
    exact hV
  exact hF
theorem v_rd_appendTimes_8 (hG : qGood Ls xs P) {k : Nat} {l1 l2 l3 : Int32} {M : qMem} {Q : qPost} (hk : qRd k)
    (hV : (P 16 2 [(0, .ref k), (1, .int l1), (2, .int l2), (3, .int (l3 + (1 : Int32)))] [] M Q)) :
    P 16 8 [(0, .ref k), (1, .int l1), (2, .int l2), (3, .int l3)] [] M Q := by
  exact qRun_ok hG (ops := qo_16) (cuts := qc_rd_appendTimes) rfl 13 8 _ _ _ _ hV
def qc_rd_empty : List (Nat × List Nat) := []
theorem v_rd_empty_0 (hG : qGood Ls xs P) {k : Nat} {M : qMem} {Q : qPost} (hk : qRd k)
    (hV : Q none (pI M k 1 (0 : Int32))) :
    P 17 0 [(0, .ref k)] [] M Q := by
  refine qRun_ok hG (ops := qo_17) (cuts := qc_rd_empty) rfl 6 0 _ _ _ _ ?_
  have hF : bif Nat.beq (shT k) 4 then Q none (pI M k 1 (0 : Int32)) else False := by
    (try rw [hk.1])
    (try rw [hk.2.1])
    (try rw [hk.2.2])
    exact hV
  exact hF
def qc_rd_copyFrom : List (Nat × List Nat) := [(2, [0, 1]), (4, [0, 1, 2]), (7, [0, 1, 2]), (12, [0, 1, 2]), (13, [0, 1, 2])]
theorem v_rd_copyFrom_0 (hG : qGood Ls xs P) {k k1 : Nat} {M : qMem} {Q : qPost} (hk : qRd k) (hk1 : qRd k1)
    (hV : (P 17 0 [(0, .ref k)] [] M (fun v M' => P 18 2 [(0, .ref k), (1, .ref k1)] (v.toList ++ []) M' Q))) :
    P 18 0 [(0, .ref k), (1, .ref k1)] [] M Q := by
  refine qRun_ok hG (ops := qo_18) (cuts := qc_rd_copyFrom) rfl 18 0 _ _ _ _ ?_
  have hF : bif Nat.beq (shT k) 4 then (P 17 0 [(0, .ref k)] [] M (fun v M' => P 18 2 [(0, .ref k), (1, .ref k1)] (v.toList ++ []) M' Q)) else False := by
    (try rw [hk.1])
    (try rw [hk.2.1])
    (try rw [hk.2.2])
    (try rw [hk1.1])
    (try rw [hk1.2.1])
    (try rw [hk1.2.2])
    exact hV
  exact hF
theorem v_rd_copyFrom_2 (hG : qGood Ls xs P) {k k1 : Nat} {M : qMem} {Q : qPost} (hk : qRd k) (hk1 : qRd k1)
    (hV : (P 18 4 [(0, .ref k), (1, .ref k1), (2, .int (0 : Int32))] [] M Q)) :
    P 18 2 [(0, .ref k), (1, .ref k1)] [] M Q := by
  exact qRun_ok hG (ops := qo_18) (cuts := qc_rd_copyFrom) rfl 18 2 _ _ _ _ hV
theorem v_rd_copyFrom_4 (hG : qGood Ls xs P) {k k1 : Nat} {l2 : Int32} {M : qMem} {Q : qPost} (hk : qRd k) (hk1 : qRd k1)
    (hV : (P 10 0 [(0, .ref k1)] [] M (fun v M' => P 18 7 [(0, .ref k), (1, .ref k1), (2, .int l2)] (v.toList ++ [.int l2]) M' Q))) :
    P 18 4 [(0, .ref k), (1, .ref k1), (2, .int l2)] [] M Q := by
  refine qRun_ok hG (ops := qo_18) (cuts := qc_rd_copyFrom) rfl 18 4 _ _ _ _ ?_
  have hF : bif Nat.beq (shT k1) 4 then (P 10 0 [(0, .ref k1)] [] M (fun v M' => P 18 7 [(0, .ref k), (1, .ref k1), (2, .int l2)] (v.toList ++ [.int l2]) M' Q)) else False := by
    (try rw [hk.1])
    (try rw [hk.2.1])
    (try rw [hk.2.2])
    (try rw [hk1.1])
    (try rw [hk1.2.1])
    (try rw [hk1.2.2])
    exact hV
  exact hF
theorem v_rd_copyFrom_7 (hG : qGood Ls xs P) {k k1 : Nat} {l2 s0 s1 : Int32} {M : qMem} {Q : qPost} (hk : qRd k) (hk1 : qRd k1)
    (hV : ((s0 ≤ s1 → Q none M) ∧ (¬ (s0 ≤ s1) → (P 13 0 [(0, .ref k1), (1, .int l2)] [] M (fun v M' => P 18 12 [(0, .ref k), (1, .ref k1), (2, .int l2)] (v.toList ++ [.ref k]) M' Q))))) :
    P 18 7 [(0, .ref k), (1, .ref k1), (2, .int l2)] [.int s0, .int s1] M Q := by
  refine qRun_ok hG (ops := qo_18) (cuts := qc_rd_copyFrom) rfl 18 7 _ _ _ _ ?_
  have hF : ((s0 ≤ s1 → Q none M) ∧ (¬ (s0 ≤ s1) → bif Nat.beq (shT k1) 4 then (P 13 0 [(0, .ref k1), (1, .int l2)] [] M (fun v M' => P 18 12 [(0, .ref k), (1, .ref k1), (2, .int l2)] (v.toList ++ [.ref k]) M' Q)) else False)) := by
    (try rw [hk.1])
    (try rw [hk.2.1])
    (try rw [hk.2.2])
    (try rw [hk1.1])
    (try rw [hk1.2.1])
    (try rw [hk1.2.2])
    exact hV
  exact hF
theorem v_rd_copyFrom_12 (hG : qGood Ls xs P) {k k1 : Nat} {l2 s0 : Int32} {M : qMem} {Q : qPost} (hk : qRd k) (hk1 : qRd k1)
    (hV : (P 15 0 [(0, .ref k), (1, .int s0)] [] M (fun v M' => P 18 13 [(0, .ref k), (1, .ref k1), (2, .int l2)] (v.toList ++ []) M' Q))) :
    P 18 12 [(0, .ref k), (1, .ref k1), (2, .int l2)] [.int s0, .ref k] M Q := by
  refine qRun_ok hG (ops := qo_18) (cuts := qc_rd_copyFrom) rfl 18 12 _ _ _ _ ?_
  have hF : bif Nat.beq (shT k) 4 then (P 15 0 [(0, .ref k), (1, .int s0)] [] M (fun v M' => P 18 13 [(0, .ref k), (1, .ref k1), (2, .int l2)] (v.toList ++ []) M' Q)) else False := by
    (try rw [hk.1])
    (try rw [hk.2.1])
    (try rw [hk.2.2])
    (try rw [hk1.1])
    (try rw [hk1.2.1])
    (try rw [hk1.2.2])
    exact hV
  exact hF
theorem v_rd_copyFrom_13 (hG : qGood Ls xs P) {k k1 : Nat} {l2 : Int32} {M : qMem} {Q : qPost} (hk : qRd k) (hk1 : qRd k1)
    (hV : (P 18 4 [(0, .ref k), (1, .ref k1), (2, .int (l2 + (1 : Int32)))] [] M Q)) :
    P 18 13 [(0, .ref k), (1, .ref k1), (2, .int l2)] [] M Q := by
  exact qRun_ok hG (ops := qo_18) (cuts := qc_rd_copyFrom) rfl 18 13 _ _ _ _ hV
def qc_rd_present : List (Nat × List Nat) := [(4, [0, 1, 2]), (11, [0, 1, 2])]
theorem v_rd_present_0 (hG : qGood Ls xs P) {k : Nat} {M : qMem} {Q : qPost} (hk : qRd k)
    (hV : (P 19 4 [(0, .ref k), (1, .int (0 : Int32)), (2, .int (0 : Int32))] [] M Q)) :
    P 19 0 [(0, .ref k)] [] M Q := by
  exact qRun_ok hG (ops := qo_19) (cuts := qc_rd_present) rfl 19 0 _ _ _ _ hV
theorem v_rd_present_4 (hG : qGood Ls xs P) {k : Nat} {l1 l2 : Int32} {M : qMem} {Q : qPost} (hk : qRd k)
    (hV : (((M.1 k 1) ≤ l2 → Q (some (.int l1)) M) ∧ (¬ ((M.1 k 1) ≤ l2) → (P 12 0 [(0, .ref k), (1, .int l2)] [] M (fun v M' => P 19 11 [(0, .ref k), (1, .int l1), (2, .int l2)] (v.toList ++ []) M' Q))))) :
    P 19 4 [(0, .ref k), (1, .int l1), (2, .int l2)] [] M Q := by
  refine qRun_ok hG (ops := qo_19) (cuts := qc_rd_present) rfl 19 4 _ _ _ _ ?_
  have hF : bif Nat.beq (shT k) 4 then (((M.1 k 1) ≤ l2 → Q (some (.int l1)) M) ∧ (¬ ((M.1 k 1) ≤ l2) → bif Nat.beq (shT k) 4 then (P 12 0 [(0, .ref k), (1, .int l2)] [] M (fun v M' => P 19 11 [(0, .ref k), (1, .int l1), (2, .int l2)] (v.toList ++ []) M' Q)) else False)) else False := by
    (try rw [hk.1])
    (try rw [hk.2.1])
    (try rw [hk.2.2])
    exact hV
  exact hF
theorem v_rd_present_11 (hG : qGood Ls xs P) {k : Nat} {l1 l2 s0 : Int32} {M : qMem} {Q : qPost} (hk : qRd k)
    (hV : ((s0 = 0 → (P 19 4 [(0, .ref k), (1, .int l1), (2, .int (l2 + (1 : Int32)))] [] M Q)) ∧ (¬ (s0 = 0) → (P 19 4 [(0, .ref k), (1, .int (l1 + (1 : Int32))), (2, .int (l2 + (1 : Int32)))] [] M Q)))) :
    P 19 11 [(0, .ref k), (1, .int l1), (2, .int l2)] [.int s0] M Q := by
  exact qRun_ok hG (ops := qo_19) (cuts := qc_rd_present) rfl 19 11 _ _ _ _ hV
def qc_rd_least : List (Nat × List Nat) := [(4, [0, 1, 2]), (11, [0, 1, 2]), (18, [0, 1, 2]), (23, [0, 2])]
theorem v_rd_least_0 (hG : qGood Ls xs P) {k : Nat} {M : qMem} {Q : qPost} (hk : qRd k)
    (hV : (P 20 4 [(0, .ref k), (1, .int (-1000000001 : Int32)), (2, .int (0 : Int32))] [] M Q)) :
    P 20 0 [(0, .ref k)] [] M Q := by
  exact qRun_ok hG (ops := qo_20) (cuts := qc_rd_least) rfl 30 0 _ _ _ _ hV
theorem v_rd_least_4 (hG : qGood Ls xs P) {k : Nat} {l1 l2 : Int32} {M : qMem} {Q : qPost} (hk : qRd k)
    (hV : (((M.1 k 1) ≤ l2 → Q (some (.int l1)) M) ∧ (¬ ((M.1 k 1) ≤ l2) → (P 12 0 [(0, .ref k), (1, .int l2)] [] M (fun v M' => P 20 11 [(0, .ref k), (1, .int l1), (2, .int l2)] (v.toList ++ []) M' Q))))) :
    P 20 4 [(0, .ref k), (1, .int l1), (2, .int l2)] [] M Q := by
  refine qRun_ok hG (ops := qo_20) (cuts := qc_rd_least) rfl 30 4 _ _ _ _ ?_
  have hF : bif Nat.beq (shT k) 4 then (((M.1 k 1) ≤ l2 → Q (some (.int l1)) M) ∧ (¬ ((M.1 k 1) ≤ l2) → bif Nat.beq (shT k) 4 then (P 12 0 [(0, .ref k), (1, .int l2)] [] M (fun v M' => P 20 11 [(0, .ref k), (1, .int l1), (2, .int l2)] (v.toList ++ []) M' Q)) else False)) else False := by
    (try rw [hk.1])
    (try rw [hk.2.1])
    (try rw [hk.2.2])
    exact hV
  exact hF
theorem v_rd_least_11 (hG : qGood Ls xs P) {k : Nat} {l1 l2 s0 : Int32} {M : qMem} {Q : qPost} (hk : qRd k)
    (hV : ((s0 = 0 → (P 20 4 [(0, .ref k), (1, .int l1), (2, .int (l2 + (1 : Int32)))] [] M Q)) ∧ (¬ (s0 = 0) → ((l1 = (-1000000001 : Int32) → (P 13 0 [(0, .ref k), (1, .int l2)] [] M (fun v M' => P 20 23 [(0, .ref k), (2, .int l2)] (v.toList ++ []) M' Q))) ∧ (¬ (l1 = (-1000000001 : Int32)) → (P 13 0 [(0, .ref k), (1, .int l2)] [] M (fun v M' => P 20 18 [(0, .ref k), (1, .int l1), (2, .int l2)] (v.toList ++ []) M' Q))))))) :
    P 20 11 [(0, .ref k), (1, .int l1), (2, .int l2)] [.int s0] M Q := by
  refine qRun_ok hG (ops := qo_20) (cuts := qc_rd_least) rfl 30 11 _ _ _ _ ?_
  have hF : ((s0 = 0 → (P 20 4 [(0, .ref k), (1, .int l1), (2, .int (l2 + (1 : Int32)))] [] M Q)) ∧ (¬ (s0 = 0) → ((l1 = (-1000000001 : Int32) → bif Nat.beq (shT k) 4 then (P 13 0 [(0, .ref k), (1, .int l2)] [] M (fun v M' => P 20 23 [(0, .ref k), (2, .int l2)] (v.toList ++ []) M' Q)) else False) ∧ (¬ (l1 = (-1000000001 : Int32)) → bif Nat.beq (shT k) 4 then (P 13 0 [(0, .ref k), (1, .int l2)] [] M (fun v M' => P 20 18 [(0, .ref k), (1, .int l1), (2, .int l2)] (v.toList ++ []) M' Q)) else False)))) := by
    (try rw [hk.1])
    (try rw [hk.2.1])
    (try rw [hk.2.2])
    exact hV
  exact hF
theorem v_rd_least_23 (hG : qGood Ls xs P) {k : Nat} {l2 s0 : Int32} {M : qMem} {Q : qPost} (hk : qRd k)
    (hV : (P 20 4 [(0, .ref k), (1, .int s0), (2, .int (l2 + (1 : Int32)))] [] M Q)) :
    P 20 23 [(0, .ref k), (2, .int l2)] [.int s0] M Q := by
  exact qRun_ok hG (ops := qo_20) (cuts := qc_rd_least) rfl 30 23 _ _ _ _ hV
theorem v_rd_least_18 (hG : qGood Ls xs P) {k : Nat} {l1 l2 s0 : Int32} {M : qMem} {Q : qPost} (hk : qRd k)
    (hV : ((l1 ≤ s0 → (P 20 4 [(0, .ref k), (1, .int l1), (2, .int (l2 + (1 : Int32)))] [] M Q)) ∧ (¬ (l1 ≤ s0) → (P 13 0 [(0, .ref k), (1, .int l2)] [] M (fun v M' => P 20 23 [(0, .ref k), (2, .int l2)] (v.toList ++ []) M' Q))))) :
    P 20 18 [(0, .ref k), (1, .int l1), (2, .int l2)] [.int s0] M Q := by
  refine qRun_ok hG (ops := qo_20) (cuts := qc_rd_least) rfl 30 18 _ _ _ _ ?_
  have hF : ((l1 ≤ s0 → (P 20 4 [(0, .ref k), (1, .int l1), (2, .int (l2 + (1 : Int32)))] [] M Q)) ∧ (¬ (l1 ≤ s0) → bif Nat.beq (shT k) 4 then (P 13 0 [(0, .ref k), (1, .int l2)] [] M (fun v M' => P 20 23 [(0, .ref k), (2, .int l2)] (v.toList ++ []) M' Q)) else False)) := by
    (try rw [hk.1])
    (try rw [hk.2.1])
    (try rw [hk.2.2])
    exact hV
  exact hF
def qc_rd_greatest : List (Nat × List Nat) := [(4, [0, 1, 2]), (12, [0, 2]), (13, [0, 2])]
theorem v_rd_greatest_0 (hG : qGood Ls xs P) {k : Nat} {M : qMem} {Q : qPost} (hk : qRd k)
    (hV : (P 21 4 [(0, .ref k), (1, .int (-1000000001 : Int32)), (2, .int (0 : Int32))] [] M Q)) :
    P 21 0 [(0, .ref k)] [] M Q := by
  exact qRun_ok hG (ops := qo_21) (cuts := qc_rd_greatest) rfl 20 0 _ _ _ _ hV
theorem v_rd_greatest_4 (hG : qGood Ls xs P) {k : Nat} {l1 l2 : Int32} {M : qMem} {Q : qPost} (hk : qRd k)
    (hV : (((M.1 k 1) ≤ l2 → Q (some (.int l1)) M) ∧ (¬ ((M.1 k 1) ≤ l2) → (P 13 0 [(0, .ref k), (1, .int l2)] [] M (fun v M' => P 21 12 [(0, .ref k), (2, .int l2)] (v.toList ++ [.int l1]) M' Q))))) :
    P 21 4 [(0, .ref k), (1, .int l1), (2, .int l2)] [] M Q := by
  refine qRun_ok hG (ops := qo_21) (cuts := qc_rd_greatest) rfl 20 4 _ _ _ _ ?_
  have hF : bif Nat.beq (shT k) 4 then (((M.1 k 1) ≤ l2 → Q (some (.int l1)) M) ∧ (¬ ((M.1 k 1) ≤ l2) → bif Nat.beq (shT k) 4 then (P 13 0 [(0, .ref k), (1, .int l2)] [] M (fun v M' => P 21 12 [(0, .ref k), (2, .int l2)] (v.toList ++ [.int l1]) M' Q)) else False)) else False := by
    (try rw [hk.1])
    (try rw [hk.2.1])
    (try rw [hk.2.2])
    exact hV
  exact hF
theorem v_rd_greatest_12 (hG : qGood Ls xs P) {k : Nat} {l2 s0 s1 : Int32} {M : qMem} {Q : qPost} (hk : qRd k)
    (hV : (P 72 0 [(0, .int s1), (1, .int s0)] [] M (fun v M' => P 21 13 [(0, .ref k), (2, .int l2)] (v.toList ++ []) M' Q))) :
    P 21 12 [(0, .ref k), (2, .int l2)] [.int s0, .int s1] M Q := by
  exact qRun_ok hG (ops := qo_21) (cuts := qc_rd_greatest) rfl 20 12 _ _ _ _ hV
theorem v_rd_greatest_13 (hG : qGood Ls xs P) {k : Nat} {l2 s0 : Int32} {M : qMem} {Q : qPost} (hk : qRd k)
    (hV : (P 21 4 [(0, .ref k), (1, .int s0), (2, .int (l2 + (1 : Int32)))] [] M Q)) :
    P 21 13 [(0, .ref k), (2, .int l2)] [.int s0] M Q := by
  exact qRun_ok hG (ops := qo_21) (cuts := qc_rd_greatest) rfl 20 13 _ _ _ _ hV
def qc_rd_gaps : List (Nat × List Nat) := [(4, [0, 1, 2]), (11, [0, 1, 2])]
theorem v_rd_gaps_0 (hG : qGood Ls xs P) {k : Nat} {M : qMem} {Q : qPost} (hk : qRd k)
    (hV : (P 22 4 [(0, .ref k), (1, .int (0 : Int32)), (2, .int (0 : Int32))] [] M Q)) :
    P 22 0 [(0, .ref k)] [] M Q := by
  exact qRun_ok hG (ops := qo_22) (cuts := qc_rd_gaps) rfl 19 0 _ _ _ _ hV
theorem v_rd_gaps_4 (hG : qGood Ls xs P) {k : Nat} {l1 l2 : Int32} {M : qMem} {Q : qPost} (hk : qRd k)
    (hV : (((M.1 k 1) ≤ l2 → Q (some (.int l1)) M) ∧ (¬ ((M.1 k 1) ≤ l2) → (P 24 0 [(0, .ref k), (1, .int l2)] [] M (fun v M' => P 22 11 [(0, .ref k), (1, .int l1), (2, .int l2)] (v.toList ++ []) M' Q))))) :
    P 22 4 [(0, .ref k), (1, .int l1), (2, .int l2)] [] M Q := by
  refine qRun_ok hG (ops := qo_22) (cuts := qc_rd_gaps) rfl 19 4 _ _ _ _ ?_
  have hF : bif Nat.beq (shT k) 4 then (((M.1 k 1) ≤ l2 → Q (some (.int l1)) M) ∧ (¬ ((M.1 k 1) ≤ l2) → bif Nat.beq (shT k) 4 then (P 24 0 [(0, .ref k), (1, .int l2)] [] M (fun v M' => P 22 11 [(0, .ref k), (1, .int l1), (2, .int l2)] (v.toList ++ []) M' Q)) else False)) else False := by
    (try rw [hk.1])
    (try rw [hk.2.1])
    (try rw [hk.2.2])
    exact hV
  exact hF
theorem v_rd_gaps_11 (hG : qGood Ls xs P) {k : Nat} {l1 l2 s0 : Int32} {M : qMem} {Q : qPost} (hk : qRd k)
    (hV : ((s0 = 0 → (P 22 4 [(0, .ref k), (1, .int l1), (2, .int (l2 + (1 : Int32)))] [] M Q)) ∧ (¬ (s0 = 0) → (P 22 4 [(0, .ref k), (1, .int (l1 + (1 : Int32))), (2, .int (l2 + (1 : Int32)))] [] M Q)))) :
    P 22 11 [(0, .ref k), (1, .int l1), (2, .int l2)] [.int s0] M Q := by
  exact qRun_ok hG (ops := qo_22) (cuts := qc_rd_gaps) rfl 19 11 _ _ _ _ hV
def qc_rd_longestGap : List (Nat × List Nat) := [(4, [0, 1, 2]), (11, [0, 1, 2]), (16, [0, 2]), (19, [0, 2])]
theorem v_rd_longestGap_0 (hG : qGood Ls xs P) {k : Nat} {M : qMem} {Q : qPost} (hk : qRd k)
    (hV : (P 23 4 [(0, .ref k), (1, .int (0 : Int32)), (2, .int (0 : Int32))] [] M Q)) :
    P 23 0 [(0, .ref k)] [] M Q := by
  exact qRun_ok hG (ops := qo_23) (cuts := qc_rd_longestGap) rfl 26 0 _ _ _ _ hV
theorem v_rd_longestGap_4 (hG : qGood Ls xs P) {k : Nat} {l1 l2 : Int32} {M : qMem} {Q : qPost} (hk : qRd k)
    (hV : (((M.1 k 1) ≤ l2 → Q (some (.int l1)) M) ∧ (¬ ((M.1 k 1) ≤ l2) → (P 24 0 [(0, .ref k), (1, .int l2)] [] M (fun v M' => P 23 11 [(0, .ref k), (1, .int l1), (2, .int l2)] (v.toList ++ []) M' Q))))) :
    P 23 4 [(0, .ref k), (1, .int l1), (2, .int l2)] [] M Q := by
  refine qRun_ok hG (ops := qo_23) (cuts := qc_rd_longestGap) rfl 26 4 _ _ _ _ ?_
  have hF : bif Nat.beq (shT k) 4 then (((M.1 k 1) ≤ l2 → Q (some (.int l1)) M) ∧ (¬ ((M.1 k 1) ≤ l2) → bif Nat.beq (shT k) 4 then (P 24 0 [(0, .ref k), (1, .int l2)] [] M (fun v M' => P 23 11 [(0, .ref k), (1, .int l1), (2, .int l2)] (v.toList ++ []) M' Q)) else False)) else False := by
    (try rw [hk.1])
    (try rw [hk.2.1])
    (try rw [hk.2.2])
    exact hV
  exact hF
theorem v_rd_longestGap_11 (hG : qGood Ls xs P) {k : Nat} {l1 l2 s0 : Int32} {M : qMem} {Q : qPost} (hk : qRd k)
    (hV : ((s0 = 0 → (P 23 4 [(0, .ref k), (1, .int l1), (2, .int (l2 + (1 : Int32)))] [] M Q)) ∧ (¬ (s0 = 0) → (P 25 0 [(0, .ref k), (1, .int l2)] [] M (fun v M' => P 23 16 [(0, .ref k), (2, .int l2)] (v.toList ++ [.int l1]) M' Q))))) :
    P 23 11 [(0, .ref k), (1, .int l1), (2, .int l2)] [.int s0] M Q := by
  refine qRun_ok hG (ops := qo_23) (cuts := qc_rd_longestGap) rfl 26 11 _ _ _ _ ?_
  have hF : ((s0 = 0 → (P 23 4 [(0, .ref k), (1, .int l1), (2, .int (l2 + (1 : Int32)))] [] M Q)) ∧ (¬ (s0 = 0) → bif Nat.beq (shT k) 4 then (P 25 0 [(0, .ref k), (1, .int l2)] [] M (fun v M' => P 23 16 [(0, .ref k), (2, .int l2)] (v.toList ++ [.int l1]) M' Q)) else False)) := by
    (try rw [hk.1])
    (try rw [hk.2.1])
    (try rw [hk.2.2])
    exact hV
  exact hF
theorem v_rd_longestGap_16 (hG : qGood Ls xs P) {k : Nat} {l2 s0 s1 : Int32} {M : qMem} {Q : qPost} (hk : qRd k)
    (hV : (P 72 0 [(0, .int s1), (1, .int (s0 - l2))] [] M (fun v M' => P 23 19 [(0, .ref k), (2, .int l2)] (v.toList ++ []) M' Q))) :
    P 23 16 [(0, .ref k), (2, .int l2)] [.int s0, .int s1] M Q := by
  exact qRun_ok hG (ops := qo_23) (cuts := qc_rd_longestGap) rfl 26 16 _ _ _ _ hV
theorem v_rd_longestGap_19 (hG : qGood Ls xs P) {k : Nat} {l2 s0 : Int32} {M : qMem} {Q : qPost} (hk : qRd k)
    (hV : (P 23 4 [(0, .ref k), (1, .int s0), (2, .int (l2 + (1 : Int32)))] [] M Q)) :
    P 23 19 [(0, .ref k), (2, .int l2)] [.int s0] M Q := by
  exact qRun_ok hG (ops := qo_23) (cuts := qc_rd_longestGap) rfl 26 19 _ _ _ _ hV
def qc_rd_startsGap : List (Nat × List Nat) := [(3, [0, 1]), (11, [])]
theorem v_rd_startsGap_0 (hG : qGood Ls xs P) {k : Nat} {l1 : Int32} {M : qMem} {Q : qPost} (hk : qRd k)
    (hV : (P 12 0 [(0, .ref k), (1, .int l1)] [] M (fun v M' => P 24 3 [(0, .ref k), (1, .int l1)] (v.toList ++ []) M' Q))) :
    P 24 0 [(0, .ref k), (1, .int l1)] [] M Q := by
  refine qRun_ok hG (ops := qo_24) (cuts := qc_rd_startsGap) rfl 18 0 _ _ _ _ ?_
  have hF : bif Nat.beq (shT k) 4 then (P 12 0 [(0, .ref k), (1, .int l1)] [] M (fun v M' => P 24 3 [(0, .ref k), (1, .int l1)] (v.toList ++ []) M' Q)) else False := by
    (try rw [hk.1])
    (try rw [hk.2.1])
    (try rw [hk.2.2])
    exact hV
  exact hF
theorem v_rd_startsGap_3 (hG : qGood Ls xs P) {k : Nat} {l1 s0 : Int32} {M : qMem} {Q : qPost} (hk : qRd k)
    (hV : ((¬ s0 = 0 → (narrow .boolean (.int (0 : Int32)) = .int (0 : Int32) ∧ Q (some (.int (0 : Int32))) M)) ∧ (¬ (¬ s0 = 0) → ((l1 = 0 → (narrow .boolean (.int (1 : Int32)) = .int (1 : Int32) ∧ Q (some (.int (1 : Int32))) M)) ∧ (¬ (l1 = 0) → (P 12 0 [(0, .ref k), (1, .int (l1 - (1 : Int32)))] [] M (fun v M' => P 24 11 [] (v.toList ++ []) M' Q))))))) :
    P 24 3 [(0, .ref k), (1, .int l1)] [.int s0] M Q := by
  refine qRun_ok hG (ops := qo_24) (cuts := qc_rd_startsGap) rfl 18 3 _ _ _ _ ?_
  have hF : ((¬ s0 = 0 → (narrow .boolean (.int (0 : Int32)) = .int (0 : Int32) ∧ Q (some (.int (0 : Int32))) M)) ∧ (¬ (¬ s0 = 0) → ((l1 = 0 → (narrow .boolean (.int (1 : Int32)) = .int (1 : Int32) ∧ Q (some (.int (1 : Int32))) M)) ∧ (¬ (l1 = 0) → bif Nat.beq (shT k) 4 then (P 12 0 [(0, .ref k), (1, .int (l1 - (1 : Int32)))] [] M (fun v M' => P 24 11 [] (v.toList ++ []) M' Q)) else False)))) := by
    (try rw [hk.1])
    (try rw [hk.2.1])
    (try rw [hk.2.2])
    exact hV
  exact hF
theorem v_rd_startsGap_11 (hG : qGood Ls xs P) {s0 : Int32} {M : qMem} {Q : qPost}
    (hV : ((s0 = 0 → (narrow .boolean (.int (0 : Int32)) = .int (0 : Int32) ∧ Q (some (.int (0 : Int32))) M)) ∧ (¬ (s0 = 0) → (narrow .boolean (.int (1 : Int32)) = .int (1 : Int32) ∧ Q (some (.int (1 : Int32))) M)))) :
    P 24 11 [] [.int s0] M Q := by
  exact qRun_ok hG (ops := qo_24) (cuts := qc_rd_startsGap) rfl 18 11 _ _ _ _ hV
def qc_rd_gapEnd : List (Nat × List Nat) := [(2, [0, 2]), (9, [0, 2])]
theorem v_rd_gapEnd_0 (hG : qGood Ls xs P) {k : Nat} {l1 : Int32} {M : qMem} {Q : qPost} (hk : qRd k)
    (hV : (P 25 2 [(0, .ref k), (2, .int l1)] [] M Q)) :
    P 25 0 [(0, .ref k), (1, .int l1)] [] M Q := by
  exact qRun_ok hG (ops := qo_25) (cuts := qc_rd_gapEnd) rfl 16 0 _ _ _ _ hV
theorem v_rd_gapEnd_2 (hG : qGood Ls xs P) {k : Nat} {l2 : Int32} {M : qMem} {Q : qPost} (hk : qRd k)
    (hV : (((M.1 k 1) ≤ l2 → Q (some (.int l2)) M) ∧ (¬ ((M.1 k 1) ≤ l2) → (P 12 0 [(0, .ref k), (1, .int l2)] [] M (fun v M' => P 25 9 [(0, .ref k), (2, .int l2)] (v.toList ++ []) M' Q))))) :
    P 25 2 [(0, .ref k), (2, .int l2)] [] M Q := by
  refine qRun_ok hG (ops := qo_25) (cuts := qc_rd_gapEnd) rfl 16 2 _ _ _ _ ?_
  have hF : bif Nat.beq (shT k) 4 then (((M.1 k 1) ≤ l2 → Q (some (.int l2)) M) ∧ (¬ ((M.1 k 1) ≤ l2) → bif Nat.beq (shT k) 4 then (P 12 0 [(0, .ref k), (1, .int l2)] [] M (fun v M' => P 25 9 [(0, .ref k), (2, .int l2)] (v.toList ++ []) M' Q)) else False)) else False := by
    (try rw [hk.1])
    (try rw [hk.2.1])
    (try rw [hk.2.2])
    exact hV
  exact hF
theorem v_rd_gapEnd_9 (hG : qGood Ls xs P) {k : Nat} {l2 s0 : Int32} {M : qMem} {Q : qPost} (hk : qRd k)
    (hV : ((¬ s0 = 0 → Q (some (.int l2)) M) ∧ (¬ (¬ s0 = 0) → (P 25 2 [(0, .ref k), (2, .int (l2 + (1 : Int32)))] [] M Q)))) :
    P 25 9 [(0, .ref k), (2, .int l2)] [.int s0] M Q := by
  exact qRun_ok hG (ops := qo_25) (cuts := qc_rd_gapEnd) rfl 16 9 _ _ _ _ hV
def qc_rd_lineAt : List (Nat × List Nat) := [(3, [0, 1, 2, 3]), (7, [0, 1, 2, 3]), (16, [0, 1, 2, 3]), (19, [0, 1, 2, 3]), (25, [1, 2, 3, 4]), (37, [])]
theorem v_rd_lineAt_0 (hG : qGood Ls xs P) {k : Nat} {l1 l2 l3 : Int32} {M : qMem} {Q : qPost} (hk : qRd k)
    (hV : (P 12 0 [(0, .ref k), (1, .int l1)] [] M (fun v M' => P 26 3 [(0, .ref k), (1, .int l1), (2, .int l2), (3, .int l3)] (v.toList ++ []) M' Q))) :
    P 26 0 [(0, .ref k), (1, .int l1), (2, .int l2), (3, .int l3)] [] M Q := by
  refine qRun_ok hG (ops := qo_26) (cuts := qc_rd_lineAt) rfl 41 0 _ _ _ _ ?_
  have hF : bif Nat.beq (shT k) 4 then (P 12 0 [(0, .ref k), (1, .int l1)] [] M (fun v M' => P 26 3 [(0, .ref k), (1, .int l1), (2, .int l2), (3, .int l3)] (v.toList ++ []) M' Q)) else False := by
    (try rw [hk.1])
    (try rw [hk.2.1])
    (try rw [hk.2.2])
    exact hV
  exact hF
theorem v_rd_lineAt_3 (hG : qGood Ls xs P) {k : Nat} {l1 l2 l3 s0 : Int32} {M : qMem} {Q : qPost} (hk : qRd k)
    (hV : ((s0 = 0 → Q (some (.long (0 : Int64))) M) ∧ (¬ (s0 = 0) → (P 12 0 [(0, .ref k), (1, .int l2)] [] M (fun v M' => P 26 7 [(0, .ref k), (1, .int l1), (2, .int l2), (3, .int l3)] (v.toList ++ []) M' Q))))) :
    P 26 3 [(0, .ref k), (1, .int l1), (2, .int l2), (3, .int l3)] [.int s0] M Q := by
  refine qRun_ok hG (ops := qo_26) (cuts := qc_rd_lineAt) rfl 41 3 _ _ _ _ ?_
  have hF : ((s0 = 0 → Q (some (.long (0 : Int64))) M) ∧ (¬ (s0 = 0) → bif Nat.beq (shT k) 4 then (P 12 0 [(0, .ref k), (1, .int l2)] [] M (fun v M' => P 26 7 [(0, .ref k), (1, .int l1), (2, .int l2), (3, .int l3)] (v.toList ++ []) M' Q)) else False)) := by
    (try rw [hk.1])
    (try rw [hk.2.1])
    (try rw [hk.2.2])
    exact hV
  exact hF
theorem v_rd_lineAt_7 (hG : qGood Ls xs P) {k : Nat} {l1 l2 l3 s0 : Int32} {M : qMem} {Q : qPost} (hk : qRd k)
    (hV : ((s0 = 0 → Q (some (.long (0 : Int64))) M) ∧ (¬ (s0 = 0) → ((l1 < l2 → (P 13 0 [(0, .ref k), (1, .int l2)] [] M (fun v M' => P 26 16 [(0, .ref k), (1, .int l1), (2, .int l2), (3, .int l3)] (v.toList ++ []) M' Q))) ∧ (¬ (l1 < l2) → Q (some (.long (0 : Int64))) M))))) :
    P 26 7 [(0, .ref k), (1, .int l1), (2, .int l2), (3, .int l3)] [.int s0] M Q := by
  refine qRun_ok hG (ops := qo_26) (cuts := qc_rd_lineAt) rfl 41 7 _ _ _ _ ?_
  have hF : ((s0 = 0 → Q (some (.long (0 : Int64))) M) ∧ (¬ (s0 = 0) → ((l1 < l2 → bif Nat.beq (shT k) 4 then (P 13 0 [(0, .ref k), (1, .int l2)] [] M (fun v M' => P 26 16 [(0, .ref k), (1, .int l1), (2, .int l2), (3, .int l3)] (v.toList ++ []) M' Q)) else False) ∧ (¬ (l1 < l2) → Q (some (.long (0 : Int64))) M)))) := by
    (try rw [hk.1])
    (try rw [hk.2.1])
    (try rw [hk.2.2])
    exact hV
  exact hF
theorem v_rd_lineAt_16 (hG : qGood Ls xs P) {k : Nat} {l1 l2 l3 s0 : Int32} {M : qMem} {Q : qPost} (hk : qRd k)
    (hV : (P 13 0 [(0, .ref k), (1, .int l1)] [] M (fun v M' => P 26 19 [(0, .ref k), (1, .int l1), (2, .int l2), (3, .int l3)] (v.toList ++ [.int s0]) M' Q))) :
    P 26 16 [(0, .ref k), (1, .int l1), (2, .int l2), (3, .int l3)] [.int s0] M Q := by
  refine qRun_ok hG (ops := qo_26) (cuts := qc_rd_lineAt) rfl 41 16 _ _ _ _ ?_
  have hF : bif Nat.beq (shT k) 4 then (P 13 0 [(0, .ref k), (1, .int l1)] [] M (fun v M' => P 26 19 [(0, .ref k), (1, .int l1), (2, .int l2), (3, .int l3)] (v.toList ++ [.int s0]) M' Q)) else False := by
    (try rw [hk.1])
    (try rw [hk.2.1])
    (try rw [hk.2.2])
    exact hV
  exact hF
theorem v_rd_lineAt_19 (hG : qGood Ls xs P) {k : Nat} {l1 l2 l3 s0 s1 : Int32} {M : qMem} {Q : qPost} (hk : qRd k)
    (hV : (P 13 0 [(0, .ref k), (1, .int l1)] [] M (fun v M' => P 26 25 [(1, .int l1), (2, .int l2), (3, .int l3), (4, .long (s1 - s0).toInt64)] (v.toList ++ []) M' Q))) :
    P 26 19 [(0, .ref k), (1, .int l1), (2, .int l2), (3, .int l3)] [.int s0, .int s1] M Q := by
  refine qRun_ok hG (ops := qo_26) (cuts := qc_rd_lineAt) rfl 41 19 _ _ _ _ ?_
  have hF : bif Nat.beq (shT k) 4 then (P 13 0 [(0, .ref k), (1, .int l1)] [] M (fun v M' => P 26 25 [(1, .int l1), (2, .int l2), (3, .int l3), (4, .long (s1 - s0).toInt64)] (v.toList ++ []) M' Q)) else False := by
    (try rw [hk.1])
    (try rw [hk.2.1])
    (try rw [hk.2.2])
    exact hV
  exact hF
theorem v_rd_lineAt_25 (hG : qGood Ls xs P) {l4 : Int64} {l1 l2 l3 s0 : Int32} {M : qMem} {Q : qPost}
    (hV : (P 71 0 [(0, .long (l4 * (l3 - l1).toInt64)), (2, .long (l2 - l1).toInt64)] [] M (fun v M' => P 26 37 [] (v.toList ++ [.long s0.toInt64]) M' Q))) :
    P 26 25 [(1, .int l1), (2, .int l2), (3, .int l3), (4, .long l4)] [.int s0] M Q := by
  exact qRun_ok hG (ops := qo_26) (cuts := qc_rd_lineAt) rfl 41 25 _ _ _ _ hV
theorem v_rd_lineAt_37 (hG : qGood Ls xs P) {s0 s1 : Int64} {M : qMem} {Q : qPost}
    (hV : Q (some (.long (s1 + s0))) M) :
    P 26 37 [] [.long s0, .long s1] M Q := by
  exact qRun_ok hG (ops := qo_26) (cuts := qc_rd_lineAt) rfl 41 37 _ _ _ _ hV
def qc_rd_isOutlier : List (Nat × List Nat) := [(7, [2])]
theorem v_rd_isOutlier_0 (hG : qGood Ls xs P) {k : Nat} {l1 l2 : Int32} {M : qMem} {Q : qPost} (hk : qRd k)
    (hV : (P 29 0 [(0, .ref k), (1, .int (2 : Int32)), (2, .int (1 : Int32)), (3, .int (l1 - (1 : Int32)))] [] M (fun v M' => P 27 7 [(2, .int l2)] (v.toList ++ []) M' Q))) :
    P 27 0 [(0, .ref k), (1, .int l1), (2, .int l2)] [] M Q := by
  refine qRun_ok hG (ops := qo_27) (cuts := qc_rd_isOutlier) rfl 27 0 _ _ _ _ ?_
  have hF : bif Nat.beq (shT k) 4 then (P 29 0 [(0, .ref k), (1, .int (2 : Int32)), (2, .int (1 : Int32)), (3, .int (l1 - (1 : Int32)))] [] M (fun v M' => P 27 7 [(2, .int l2)] (v.toList ++ []) M' Q)) else False := by
    (try rw [hk.1])
    (try rw [hk.2.1])
    (try rw [hk.2.2])
    exact hV
  exact hF
theorem v_rd_isOutlier_7 (hG : qGood Ls xs P) {l2 s0 : Int32} {M : qMem} {Q : qPost}
    (hV : ((s0 = (-1000000001 : Int32) → (narrow .boolean (.int (0 : Int32)) = .int (0 : Int32) ∧ Q (some (.int (0 : Int32))) M)) ∧ (¬ (s0 = (-1000000001 : Int32)) → ((((2 : Int32) * l2) < s0 → (narrow .boolean (.int (1 : Int32)) = .int (1 : Int32) ∧ Q (some (.int (1 : Int32))) M)) ∧ (¬ (((2 : Int32) * l2) < s0) → ((((-2 : Int32) * l2) ≤ s0 → (narrow .boolean (.int (0 : Int32)) = .int (0 : Int32) ∧ Q (some (.int (0 : Int32))) M)) ∧ (¬ (((-2 : Int32) * l2) ≤ s0) → (narrow .boolean (.int (1 : Int32)) = .int (1 : Int32) ∧ Q (some (.int (1 : Int32))) M)))))))) :
    P 27 7 [(2, .int l2)] [.int s0] M Q := by
  exact qRun_ok hG (ops := qo_27) (cuts := qc_rd_isOutlier) rfl 27 7 _ _ _ _ hV
def qc_rd_countOf : List (Nat × List Nat) := [(4, [0, 1, 2, 3, 4]), (13, [0, 1, 2, 3, 4])]
theorem v_rd_countOf_0 (hG : qGood Ls xs P) {k : Nat} {l1 l2 : Int32} {M : qMem} {Q : qPost} (hk : qRd k)
    (hV : (P 28 4 [(0, .ref k), (1, .int l1), (2, .int l2), (3, .int (0 : Int32)), (4, .int (0 : Int32))] [] M Q)) :
    P 28 0 [(0, .ref k), (1, .int l1), (2, .int l2)] [] M Q := by
  exact qRun_ok hG (ops := qo_28) (cuts := qc_rd_countOf) rfl 22 0 _ _ _ _ hV
theorem v_rd_countOf_4 (hG : qGood Ls xs P) {k : Nat} {l1 l2 l3 l4 : Int32} {M : qMem} {Q : qPost} (hk : qRd k)
    (hV : (((M.1 k 1) ≤ l4 → Q (some (.int l3)) M) ∧ (¬ ((M.1 k 1) ≤ l4) → (P 29 0 [(0, .ref k), (1, .int l1), (2, .int l2), (3, .int l4)] [] M (fun v M' => P 28 13 [(0, .ref k), (1, .int l1), (2, .int l2), (3, .int l3), (4, .int l4)] (v.toList ++ []) M' Q))))) :
    P 28 4 [(0, .ref k), (1, .int l1), (2, .int l2), (3, .int l3), (4, .int l4)] [] M Q := by
  refine qRun_ok hG (ops := qo_28) (cuts := qc_rd_countOf) rfl 22 4 _ _ _ _ ?_
  have hF : bif Nat.beq (shT k) 4 then (((M.1 k 1) ≤ l4 → Q (some (.int l3)) M) ∧ (¬ ((M.1 k 1) ≤ l4) → bif Nat.beq (shT k) 4 then (P 29 0 [(0, .ref k), (1, .int l1), (2, .int l2), (3, .int l4)] [] M (fun v M' => P 28 13 [(0, .ref k), (1, .int l1), (2, .int l2), (3, .int l3), (4, .int l4)] (v.toList ++ []) M' Q)) else False)) else False := by
    (try rw [hk.1])
    (try rw [hk.2.1])
    (try rw [hk.2.2])
    exact hV
  exact hF
theorem v_rd_countOf_13 (hG : qGood Ls xs P) {k : Nat} {l1 l2 l3 l4 s0 : Int32} {M : qMem} {Q : qPost} (hk : qRd k)
    (hV : ((s0 = (-1000000001 : Int32) → (P 28 4 [(0, .ref k), (1, .int l1), (2, .int l2), (3, .int l3), (4, .int (l4 + (1 : Int32)))] [] M Q)) ∧ (¬ (s0 = (-1000000001 : Int32)) → (P 28 4 [(0, .ref k), (1, .int l1), (2, .int l2), (3, .int (l3 + (1 : Int32))), (4, .int (l4 + (1 : Int32)))] [] M Q)))) :
    P 28 13 [(0, .ref k), (1, .int l1), (2, .int l2), (3, .int l3), (4, .int l4)] [.int s0] M Q := by
  exact qRun_ok hG (ops := qo_28) (cuts := qc_rd_countOf) rfl 22 13 _ _ _ _ hV
def qc_rd_differenceAt : List (Nat × List Nat) := [(3, [0, 1, 2, 3]), (13, []), (21, []), (26, [])]
theorem v_rd_differenceAt_0 (hG : qGood Ls xs P) {k : Nat} {l1 l2 l3 : Int32} {M : qMem} {Q : qPost} (hk : qRd k)
    (hV : (P 11 0 [(0, .ref k), (1, .int l3)] [] M (fun v M' => P 29 3 [(0, .ref k), (1, .int l1), (2, .int l2), (3, .int l3)] (v.toList ++ []) M' Q))) :
    P 29 0 [(0, .ref k), (1, .int l1), (2, .int l2), (3, .int l3)] [] M Q := by
  refine qRun_ok hG (ops := qo_29) (cuts := qc_rd_differenceAt) rfl 29 0 _ _ _ _ ?_
  have hF : bif Nat.beq (shT k) 4 then (P 11 0 [(0, .ref k), (1, .int l3)] [] M (fun v M' => P 29 3 [(0, .ref k), (1, .int l1), (2, .int l2), (3, .int l3)] (v.toList ++ []) M' Q)) else False := by
    (try rw [hk.1])
    (try rw [hk.2.1])
    (try rw [hk.2.2])
    exact hV
  exact hF
theorem v_rd_differenceAt_3 (hG : qGood Ls xs P) {k : Nat} {l1 l2 l3 s0 : Int32} {M : qMem} {Q : qPost} (hk : qRd k)
    (hV : ((¬ s0 = 0 → ((¬ l1 = (2 : Int32) → ((¬ l1 = (3 : Int32) → (P 32 0 [(0, .ref k), (1, .int l2), (2, .int l3)] [] M (fun v M' => P 29 26 [] (v.toList ++ []) M' Q))) ∧ (¬ (¬ l1 = (3 : Int32)) → (P 31 0 [(0, .ref k), (1, .int l2), (2, .int l3)] [] M (fun v M' => P 29 21 [] (v.toList ++ []) M' Q))))) ∧ (¬ (¬ l1 = (2 : Int32)) → (P 30 0 [(0, .ref k), (1, .int l2), (2, .int l3)] [] M (fun v M' => P 29 13 [] (v.toList ++ []) M' Q))))) ∧ (¬ (¬ s0 = 0) → Q (some (.int (-1000000001 : Int32))) M))) :
    P 29 3 [(0, .ref k), (1, .int l1), (2, .int l2), (3, .int l3)] [.int s0] M Q := by
  refine qRun_ok hG (ops := qo_29) (cuts := qc_rd_differenceAt) rfl 29 3 _ _ _ _ ?_
  have hF : ((¬ s0 = 0 → ((¬ l1 = (2 : Int32) → ((¬ l1 = (3 : Int32) → bif Nat.beq (shT k) 4 then (P 32 0 [(0, .ref k), (1, .int l2), (2, .int l3)] [] M (fun v M' => P 29 26 [] (v.toList ++ []) M' Q)) else False) ∧ (¬ (¬ l1 = (3 : Int32)) → bif Nat.beq (shT k) 4 then (P 31 0 [(0, .ref k), (1, .int l2), (2, .int l3)] [] M (fun v M' => P 29 21 [] (v.toList ++ []) M' Q)) else False))) ∧ (¬ (¬ l1 = (2 : Int32)) → bif Nat.beq (shT k) 4 then (P 30 0 [(0, .ref k), (1, .int l2), (2, .int l3)] [] M (fun v M' => P 29 13 [] (v.toList ++ []) M' Q)) else False))) ∧ (¬ (¬ s0 = 0) → Q (some (.int (-1000000001 : Int32))) M)) := by
    (try rw [hk.1])
    (try rw [hk.2.1])
    (try rw [hk.2.2])
    exact hV
  exact hF
theorem v_rd_differenceAt_26 (hG : qGood Ls xs P) {s0 : Int32} {M : qMem} {Q : qPost}
    (hV : Q (some (.int s0)) M) :
    P 29 26 [] [.int s0] M Q := by
  exact qRun_ok hG (ops := qo_29) (cuts := qc_rd_differenceAt) rfl 29 26 _ _ _ _ hV
theorem v_rd_differenceAt_21 (hG : qGood Ls xs P) {s0 : Int32} {M : qMem} {Q : qPost}
    (hV : (P 29 26 [] [.int s0] M Q)) :
    P 29 21 [] [.int s0] M Q := by
  exact qRun_ok hG (ops := qo_29) (cuts := qc_rd_differenceAt) rfl 29 21 _ _ _ _ hV
theorem v_rd_differenceAt_13 (hG : qGood Ls xs P) {s0 : Int32} {M : qMem} {Q : qPost}
    (hV : Q (some (.int s0)) M) :
    P 29 13 [] [.int s0] M Q := by
  exact qRun_ok hG (ops := qo_29) (cuts := qc_rd_differenceAt) rfl 29 13 _ _ _ _ hV
def qc_rd_secondAt : List (Nat × List Nat) := [(3, [0, 1, 2]), (9, [0, 1, 2, 3]), (17, [3, 4])]
theorem v_rd_secondAt_0 (hG : qGood Ls xs P) {k : Nat} {l1 l2 : Int32} {M : qMem} {Q : qPost} (hk : qRd k)
    (hV : (P 13 0 [(0, .ref k), (1, .int l2)] [] M (fun v M' => P 30 3 [(0, .ref k), (1, .int l1), (2, .int l2)] (v.toList ++ []) M' Q))) :
    P 30 0 [(0, .ref k), (1, .int l1), (2, .int l2)] [] M Q := by
  refine qRun_ok hG (ops := qo_30) (cuts := qc_rd_secondAt) rfl 39 0 _ _ _ _ ?_
  have hF : bif Nat.beq (shT k) 4 then (P 13 0 [(0, .ref k), (1, .int l2)] [] M (fun v M' => P 30 3 [(0, .ref k), (1, .int l1), (2, .int l2)] (v.toList ++ []) M' Q)) else False := by
    (try rw [hk.1])
    (try rw [hk.2.1])
    (try rw [hk.2.2])
    exact hV
  exact hF
theorem v_rd_secondAt_3 (hG : qGood Ls xs P) {k : Nat} {l1 l2 s0 : Int32} {M : qMem} {Q : qPost} (hk : qRd k)
    (hV : (P 13 0 [(0, .ref k), (1, .int (l2 + l1))] [] M (fun v M' => P 30 9 [(0, .ref k), (1, .int l1), (2, .int l2), (3, .int s0)] (v.toList ++ []) M' Q))) :
    P 30 3 [(0, .ref k), (1, .int l1), (2, .int l2)] [.int s0] M Q := by
  refine qRun_ok hG (ops := qo_30) (cuts := qc_rd_secondAt) rfl 39 3 _ _ _ _ ?_
  have hF : bif Nat.beq (shT k) 4 then (P 13 0 [(0, .ref k), (1, .int (l2 + l1))] [] M (fun v M' => P 30 9 [(0, .ref k), (1, .int l1), (2, .int l2), (3, .int s0)] (v.toList ++ []) M' Q)) else False := by
    (try rw [hk.1])
    (try rw [hk.2.1])
    (try rw [hk.2.2])
    exact hV
  exact hF
theorem v_rd_secondAt_9 (hG : qGood Ls xs P) {k : Nat} {l1 l2 l3 s0 : Int32} {M : qMem} {Q : qPost} (hk : qRd k)
    (hV : (P 13 0 [(0, .ref k), (1, .int (l2 + ((2 : Int32) * l1)))] [] M (fun v M' => P 30 17 [(3, .int l3), (4, .int s0)] (v.toList ++ []) M' Q))) :
    P 30 9 [(0, .ref k), (1, .int l1), (2, .int l2), (3, .int l3)] [.int s0] M Q := by
  refine qRun_ok hG (ops := qo_30) (cuts := qc_rd_secondAt) rfl 39 9 _ _ _ _ ?_
  have hF : bif Nat.beq (shT k) 4 then (P 13 0 [(0, .ref k), (1, .int (l2 + ((2 : Int32) * l1)))] [] M (fun v M' => P 30 17 [(3, .int l3), (4, .int s0)] (v.toList ++ []) M' Q)) else False := by
    (try rw [hk.1])
    (try rw [hk.2.1])
    (try rw [hk.2.2])
    exact hV
  exact hF
theorem v_rd_secondAt_17 (hG : qGood Ls xs P) {l3 l4 s0 : Int32} {M : qMem} {Q : qPost}
    (hV : ((l3 = (-1000000001 : Int32) → Q (some (.int (-1000000001 : Int32))) M) ∧ (¬ (l3 = (-1000000001 : Int32)) → ((l4 = (-1000000001 : Int32) → Q (some (.int (-1000000001 : Int32))) M) ∧ (¬ (l4 = (-1000000001 : Int32)) → ((¬ s0 = (-1000000001 : Int32) → Q (some (.int ((s0 - ((2 : Int32) * l4)) + l3))) M) ∧ (¬ (¬ s0 = (-1000000001 : Int32)) → Q (some (.int (-1000000001 : Int32))) M))))))) :
    P 30 17 [(3, .int l3), (4, .int l4)] [.int s0] M Q := by
  exact qRun_ok hG (ops := qo_30) (cuts := qc_rd_secondAt) rfl 39 17 _ _ _ _ hV
def qc_rd_thirdAt : List (Nat × List Nat) := [(3, [0, 1, 2]), (9, [0, 1, 2, 3]), (17, [0, 1, 2, 3, 4]), (25, [3, 4, 5])]
set_option maxRecDepth 100000 in
theorem v_rd_thirdAt_0 (hG : qGood Ls xs P) {k : Nat} {l1 l2 : Int32} {M : qMem} {Q : qPost} (hk : qRd k)
    (hV : (P 13 0 [(0, .ref k), (1, .int l2)] [] M (fun v M' => P 31 3 [(0, .ref k), (1, .int l1), (2, .int l2)] (v.toList ++ []) M' Q))) :
    P 31 0 [(0, .ref k), (1, .int l1), (2, .int l2)] [] M Q := by
  refine qRun_ok hG (ops := qo_31) (cuts := qc_rd_thirdAt) rfl 54 0 _ _ _ _ ?_
  have hF : bif Nat.beq (shT k) 4 then (P 13 0 [(0, .ref k), (1, .int l2)] [] M (fun v M' => P 31 3 [(0, .ref k), (1, .int l1), (2, .int l2)] (v.toList ++ []) M' Q)) else False := by
    (try rw [hk.1])
    (try rw [hk.2.1])
    (try rw [hk.2.2])
    exact hV
  exact hF
set_option maxRecDepth 100000 in
theorem v_rd_thirdAt_3 (hG : qGood Ls xs P) {k : Nat} {l1 l2 s0 : Int32} {M : qMem} {Q : qPost} (hk : qRd k)
    (hV : (P 13 0 [(0, .ref k), (1, .int (l2 + l1))] [] M (fun v M' => P 31 9 [(0, .ref k), (1, .int l1), (2, .int l2), (3, .int s0)] (v.toList ++ []) M' Q))) :
    P 31 3 [(0, .ref k), (1, .int l1), (2, .int l2)] [.int s0] M Q := by
  refine qRun_ok hG (ops := qo_31) (cuts := qc_rd_thirdAt) rfl 54 3 _ _ _ _ ?_
  have hF : bif Nat.beq (shT k) 4 then (P 13 0 [(0, .ref k), (1, .int (l2 + l1))] [] M (fun v M' => P 31 9 [(0, .ref k), (1, .int l1), (2, .int l2), (3, .int s0)] (v.toList ++ []) M' Q)) else False := by
    (try rw [hk.1])
    (try rw [hk.2.1])
    (try rw [hk.2.2])
    exact hV
  exact hF
set_option maxRecDepth 100000 in
theorem v_rd_thirdAt_9 (hG : qGood Ls xs P) {k : Nat} {l1 l2 l3 s0 : Int32} {M : qMem} {Q : qPost} (hk : qRd k)
    (hV : (P 13 0 [(0, .ref k), (1, .int (l2 + ((2 : Int32) * l1)))] [] M (fun v M' => P 31 17 [(0, .ref k), (1, .int l1), (2, .int l2), (3, .int l3), (4, .int s0)] (v.toList ++ []) M' Q))) :
    P 31 9 [(0, .ref k), (1, .int l1), (2, .int l2), (3, .int l3)] [.int s0] M Q := by
  refine qRun_ok hG (ops := qo_31) (cuts := qc_rd_thirdAt) rfl 54 9 _ _ _ _ ?_
  have hF : bif Nat.beq (shT k) 4 then (P 13 0 [(0, .ref k), (1, .int (l2 + ((2 : Int32) * l1)))] [] M (fun v M' => P 31 17 [(0, .ref k), (1, .int l1), (2, .int l2), (3, .int l3), (4, .int s0)] (v.toList ++ []) M' Q)) else False := by
    (try rw [hk.1])
    (try rw [hk.2.1])
    (try rw [hk.2.2])
    exact hV
  exact hF
set_option maxRecDepth 100000 in
theorem v_rd_thirdAt_17 (hG : qGood Ls xs P) {k : Nat} {l1 l2 l3 l4 s0 : Int32} {M : qMem} {Q : qPost} (hk : qRd k)
    (hV : (P 13 0 [(0, .ref k), (1, .int (l2 + ((3 : Int32) * l1)))] [] M (fun v M' => P 31 25 [(3, .int l3), (4, .int l4), (5, .int s0)] (v.toList ++ []) M' Q))) :
    P 31 17 [(0, .ref k), (1, .int l1), (2, .int l2), (3, .int l3), (4, .int l4)] [.int s0] M Q := by
  refine qRun_ok hG (ops := qo_31) (cuts := qc_rd_thirdAt) rfl 54 17 _ _ _ _ ?_
  have hF : bif Nat.beq (shT k) 4 then (P 13 0 [(0, .ref k), (1, .int (l2 + ((3 : Int32) * l1)))] [] M (fun v M' => P 31 25 [(3, .int l3), (4, .int l4), (5, .int s0)] (v.toList ++ []) M' Q)) else False := by
    (try rw [hk.1])
    (try rw [hk.2.1])
    (try rw [hk.2.2])
    exact hV
  exact hF
set_option maxRecDepth 100000 in
theorem v_rd_thirdAt_25 (hG : qGood Ls xs P) {l3 l4 l5 s0 : Int32} {M : qMem} {Q : qPost}
    (hV : ((l3 = (-1000000001 : Int32) → Q (some (.int (-1000000001 : Int32))) M) ∧ (¬ (l3 = (-1000000001 : Int32)) → ((l4 = (-1000000001 : Int32) → Q (some (.int (-1000000001 : Int32))) M) ∧ (¬ (l4 = (-1000000001 : Int32)) → ((l5 = (-1000000001 : Int32) → Q (some (.int (-1000000001 : Int32))) M) ∧ (¬ (l5 = (-1000000001 : Int32)) → ((¬ s0 = (-1000000001 : Int32) → Q (some (.int (((s0 - ((3 : Int32) * l5)) + ((3 : Int32) * l4)) - l3))) M) ∧ (¬ (¬ s0 = (-1000000001 : Int32)) → Q (some (.int (-1000000001 : Int32))) M))))))))) :
    P 31 25 [(3, .int l3), (4, .int l4), (5, .int l5)] [.int s0] M Q := by
  exact qRun_ok hG (ops := qo_31) (cuts := qc_rd_thirdAt) rfl 54 25 _ _ _ _ hV
def qc_rd_meanAt : List (Nat × List Nat) := [(4, [0, 1, 2, 3, 4]), (13, [0, 1, 2, 3, 4])]
theorem v_rd_meanAt_0 (hG : qGood Ls xs P) {k : Nat} {l1 l2 : Int32} {M : qMem} {Q : qPost} (hk : qRd k)
    (hV : (P 32 4 [(0, .ref k), (1, .int l1), (2, .int l2), (3, .int (0 : Int32)), (4, .int (0 : Int32))] [] M Q)) :
    P 32 0 [(0, .ref k), (1, .int l1), (2, .int l2)] [] M Q := by
  exact qRun_ok hG (ops := qo_32) (cuts := qc_rd_meanAt) rfl 29 0 _ _ _ _ hV
theorem v_rd_meanAt_4 (hG : qGood Ls xs P) {k : Nat} {l1 l2 l3 l4 : Int32} {M : qMem} {Q : qPost} (hk : qRd k)
    (hV : ((l1 ≤ l4 → Q (some (.int l3)) M) ∧ (¬ (l1 ≤ l4) → (P 30 0 [(0, .ref k), (1, .int l1), (2, .int (l2 + l4))] [] M (fun v M' => P 32 13 [(0, .ref k), (1, .int l1), (2, .int l2), (3, .int l3), (4, .int l4)] (v.toList ++ []) M' Q))))) :
    P 32 4 [(0, .ref k), (1, .int l1), (2, .int l2), (3, .int l3), (4, .int l4)] [] M Q := by
  refine qRun_ok hG (ops := qo_32) (cuts := qc_rd_meanAt) rfl 29 4 _ _ _ _ ?_
  have hF : ((l1 ≤ l4 → Q (some (.int l3)) M) ∧ (¬ (l1 ≤ l4) → bif Nat.beq (shT k) 4 then (P 30 0 [(0, .ref k), (1, .int l1), (2, .int (l2 + l4))] [] M (fun v M' => P 32 13 [(0, .ref k), (1, .int l1), (2, .int l2), (3, .int l3), (4, .int l4)] (v.toList ++ []) M' Q)) else False)) := by
    (try rw [hk.1])
    (try rw [hk.2.1])
    (try rw [hk.2.2])
    exact hV
  exact hF
theorem v_rd_meanAt_13 (hG : qGood Ls xs P) {k : Nat} {l1 l2 l3 l4 s0 : Int32} {M : qMem} {Q : qPost} (hk : qRd k)
    (hV : ((¬ s0 = (-1000000001 : Int32) → (P 32 4 [(0, .ref k), (1, .int l1), (2, .int l2), (3, .int (l3 + s0)), (4, .int (l4 + (1 : Int32)))] [] M Q)) ∧ (¬ (¬ s0 = (-1000000001 : Int32)) → Q (some (.int (-1000000001 : Int32))) M))) :
    P 32 13 [(0, .ref k), (1, .int l1), (2, .int l2), (3, .int l3), (4, .int l4)] [.int s0] M Q := by
  exact qRun_ok hG (ops := qo_32) (cuts := qc_rd_meanAt) rfl 29 13 _ _ _ _ hV
end VC
