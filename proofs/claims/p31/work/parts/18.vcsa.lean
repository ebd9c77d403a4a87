/-! what is to be shown, segment by segment: sa (printed by wip/genvc.py) -/
section VC
variable {Ls : Nat} {xs : Nat → Int32} {P : qSem}
def qc_sa_add : List (Nat × List Nat) := [(3, [0, 1]), (9, [0, 1]), (18, [0, 1]), (22, [0]), (25, [])]
theorem v_sa_add_0 (hG : qGood Ls xs P) {l1 : Int32} {M : qMem} {Q : qPost}
    (hV : (P 55 0 [(0, .long l1.toInt64)] [] M (fun v M' => P 34 3 [(0, .ref 0), (1, .int l1)] (v.toList ++ []) M' Q))) :
    P 34 0 [(0, .ref 0), (1, .int l1)] [] M Q := by
  exact qRun_ok hG (ops := qo_34) (cuts := qc_sa_add) rfl 30 0 _ _ _ _ hV
theorem v_sa_add_3 (hG : qGood Ls xs P) {l1 s0 : Int32} {M : qMem} {Q : qPost}
    (hV : ((¬ s0 = 0 → (P 10 0 [(0, .ref 1)] [] M (fun v M' => P 34 9 [(0, .ref 0), (1, .int l1)] (v.toList ++ []) M' Q))) ∧ (¬ (¬ s0 = 0) → Q (some (.int (-1000000002 : Int32))) M))) :
    P 34 3 [(0, .ref 0), (1, .int l1)] [.int s0] M Q := by
  exact qRun_ok hG (ops := qo_34) (cuts := qc_sa_add) rfl 30 3 _ _ _ _ hV
theorem v_sa_add_9 (hG : qGood Ls xs P) {l1 s0 : Int32} {M : qMem} {Q : qPost}
    (hV : ((s0 < (64 : Int32) → (P 7 0 [(0, .ref 6), (1, .ref 1)] [] M (fun v M' => P 34 18 [(0, .ref 0), (1, .int l1)] (v.toList ++ []) M' Q))) ∧ (¬ (s0 < (64 : Int32)) → Q (some (.int (-1000000004 : Int32))) M))) :
    P 34 9 [(0, .ref 0), (1, .int l1)] [.int s0] M Q := by
  exact qRun_ok hG (ops := qo_34) (cuts := qc_sa_add) rfl 30 9 _ _ _ _ hV
theorem v_sa_add_18 (hG : qGood Ls xs P) {l1 : Int32} {M : qMem} {Q : qPost}
    (hV : (P 15 0 [(0, .ref 1), (1, .int l1)] [] M (fun v M' => P 34 22 [(0, .ref 0)] (v.toList ++ []) M' Q))) :
    P 34 18 [(0, .ref 0), (1, .int l1)] [] M Q := by
  exact qRun_ok hG (ops := qo_34) (cuts := qc_sa_add) rfl 30 18 _ _ _ _ hV
theorem v_sa_add_22 (hG : qGood Ls xs P) {M : qMem} {Q : qPost}
    (hV : (P 10 0 [(0, .ref 1)] [] M (fun v M' => P 34 25 [] (v.toList ++ []) M' Q))) :
    P 34 22 [(0, .ref 0)] [] M Q := by
  exact qRun_ok hG (ops := qo_34) (cuts := qc_sa_add) rfl 30 22 _ _ _ _ hV
theorem v_sa_add_25 (hG : qGood Ls xs P) {s0 : Int32} {M : qMem} {Q : qPost}
    (hV : Q (some (.int (s0 - (1 : Int32)))) M) :
    P 34 25 [] [.int s0] M Q := by
  exact qRun_ok hG (ops := qo_34) (cuts := qc_sa_add) rfl 30 25 _ _ _ _ hV
def qc_sa_skip : List (Nat × List Nat) := [(11, [0, 1]), (22, [0, 1]), (27, [0]), (30, [])]
theorem v_sa_skip_0 (hG : qGood Ls xs P) {l1 : Int32} {M : qMem} {Q : qPost}
    (hV : ((l1 < (1 : Int32) → Q (some (.int (-1000000002 : Int32))) M) ∧ (¬ (l1 < (1 : Int32)) → ((l1 ≤ (64 : Int32) → (P 10 0 [(0, .ref 1)] [] M (fun v M' => P 35 11 [(0, .ref 0), (1, .int l1)] (v.toList ++ []) M' Q))) ∧ (¬ (l1 ≤ (64 : Int32)) → Q (some (.int (-1000000002 : Int32))) M))))) :
    P 35 0 [(0, .ref 0), (1, .int l1)] [] M Q := by
  exact qRun_ok hG (ops := qo_35) (cuts := qc_sa_skip) rfl 33 0 _ _ _ _ hV
theorem v_sa_skip_11 (hG : qGood Ls xs P) {l1 s0 : Int32} {M : qMem} {Q : qPost}
    (hV : (((s0 + l1) ≤ (64 : Int32) → (P 7 0 [(0, .ref 6), (1, .ref 1)] [] M (fun v M' => P 35 22 [(0, .ref 0), (1, .int l1)] (v.toList ++ []) M' Q))) ∧ (¬ ((s0 + l1) ≤ (64 : Int32)) → Q (some (.int (-1000000004 : Int32))) M))) :
    P 35 11 [(0, .ref 0), (1, .int l1)] [.int s0] M Q := by
  exact qRun_ok hG (ops := qo_35) (cuts := qc_sa_skip) rfl 33 11 _ _ _ _ hV
theorem v_sa_skip_22 (hG : qGood Ls xs P) {l1 : Int32} {M : qMem} {Q : qPost}
    (hV : (P 16 0 [(0, .ref 1), (1, .int (-1000000001 : Int32)), (2, .int l1)] [] M (fun v M' => P 35 27 [(0, .ref 0)] (v.toList ++ []) M' Q))) :
    P 35 22 [(0, .ref 0), (1, .int l1)] [] M Q := by
  exact qRun_ok hG (ops := qo_35) (cuts := qc_sa_skip) rfl 33 22 _ _ _ _ hV
theorem v_sa_skip_27 (hG : qGood Ls xs P) {M : qMem} {Q : qPost}
    (hV : (P 10 0 [(0, .ref 1)] [] M (fun v M' => P 35 30 [] (v.toList ++ []) M' Q))) :
    P 35 27 [(0, .ref 0)] [] M Q := by
  exact qRun_ok hG (ops := qo_35) (cuts := qc_sa_skip) rfl 33 27 _ _ _ _ hV
theorem v_sa_skip_30 (hG : qGood Ls xs P) {s0 : Int32} {M : qMem} {Q : qPost}
    (hV : Q (some (.int s0)) M) :
    P 35 30 [] [.int s0] M Q := by
  exact qRun_ok hG (ops := qo_35) (cuts := qc_sa_skip) rfl 33 30 _ _ _ _ hV
def qc_sa_set : List (Nat × List Nat) := [(4, [0, 1, 2]), (11, [0, 1, 2]), (18, [0, 1, 2]), (24, [0, 1, 2, 3]), (29, [3])]
theorem v_sa_set_0 (hG : qGood Ls xs P) {l1 l2 : Int32} {M : qMem} {Q : qPost}
    (hV : (P 11 0 [(0, .ref 1), (1, .int l1)] [] M (fun v M' => P 36 4 [(0, .ref 0), (1, .int l1), (2, .int l2)] (v.toList ++ []) M' Q))) :
    P 36 0 [(0, .ref 0), (1, .int l1), (2, .int l2)] [] M Q := by
  exact qRun_ok hG (ops := qo_36) (cuts := qc_sa_set) rfl 33 0 _ _ _ _ hV
theorem v_sa_set_4 (hG : qGood Ls xs P) {l1 l2 s0 : Int32} {M : qMem} {Q : qPost}
    (hV : ((s0 = 0 → Q (some (.int (-1000000002 : Int32))) M) ∧ (¬ (s0 = 0) → ((l2 = (-1000000001 : Int32) → (P 13 0 [(0, .ref 1), (1, .int l1)] [] M (fun v M' => P 36 18 [(0, .ref 0), (1, .int l1), (2, .int l2)] (v.toList ++ []) M' Q))) ∧ (¬ (l2 = (-1000000001 : Int32)) → (P 55 0 [(0, .long l2.toInt64)] [] M (fun v M' => P 36 11 [(0, .ref 0), (1, .int l1), (2, .int l2)] (v.toList ++ []) M' Q))))))) :
    P 36 4 [(0, .ref 0), (1, .int l1), (2, .int l2)] [.int s0] M Q := by
  exact qRun_ok hG (ops := qo_36) (cuts := qc_sa_set) rfl 33 4 _ _ _ _ hV
theorem v_sa_set_18 (hG : qGood Ls xs P) {l1 l2 s0 : Int32} {M : qMem} {Q : qPost}
    (hV : (P 7 0 [(0, .ref 6), (1, .ref 1)] [] M (fun v M' => P 36 24 [(0, .ref 0), (1, .int l1), (2, .int l2), (3, .int s0)] (v.toList ++ []) M' Q))) :
    P 36 18 [(0, .ref 0), (1, .int l1), (2, .int l2)] [.int s0] M Q := by
  exact qRun_ok hG (ops := qo_36) (cuts := qc_sa_set) rfl 33 18 _ _ _ _ hV
theorem v_sa_set_11 (hG : qGood Ls xs P) {l1 l2 s0 : Int32} {M : qMem} {Q : qPost}
    (hV : ((¬ s0 = 0 → (P 13 0 [(0, .ref 1), (1, .int l1)] [] M (fun v M' => P 36 18 [(0, .ref 0), (1, .int l1), (2, .int l2)] (v.toList ++ []) M' Q))) ∧ (¬ (¬ s0 = 0) → Q (some (.int (-1000000002 : Int32))) M))) :
    P 36 11 [(0, .ref 0), (1, .int l1), (2, .int l2)] [.int s0] M Q := by
  exact qRun_ok hG (ops := qo_36) (cuts := qc_sa_set) rfl 33 11 _ _ _ _ hV
theorem v_sa_set_24 (hG : qGood Ls xs P) {l1 l2 l3 : Int32} {M : qMem} {Q : qPost}
    (hV : (P 14 0 [(0, .ref 1), (1, .int l1), (2, .int l2)] [] M (fun v M' => P 36 29 [(3, .int l3)] (v.toList ++ []) M' Q))) :
    P 36 24 [(0, .ref 0), (1, .int l1), (2, .int l2), (3, .int l3)] [] M Q := by
  exact qRun_ok hG (ops := qo_36) (cuts := qc_sa_set) rfl 33 24 _ _ _ _ hV
theorem v_sa_set_29 (hG : qGood Ls xs P) {l3 : Int32} {M : qMem} {Q : qPost}
    (hV : Q (some (.int l3)) M) :
    P 36 29 [(3, .int l3)] [] M Q := by
  exact qRun_ok hG (ops := qo_36) (cuts := qc_sa_set) rfl 33 29 _ _ _ _ hV
def qc_sa_clear : List (Nat × List Nat) := [(3, [0]), (9, [0, 1]), (12, [1])]
theorem v_sa_clear_0 (hG : qGood Ls xs P) {M : qMem} {Q : qPost}
    (hV : (P 10 0 [(0, .ref 1)] [] M (fun v M' => P 37 3 [(0, .ref 0)] (v.toList ++ []) M' Q))) :
    P 37 0 [(0, .ref 0)] [] M Q := by
  exact qRun_ok hG (ops := qo_37) (cuts := qc_sa_clear) rfl 16 0 _ _ _ _ hV
theorem v_sa_clear_3 (hG : qGood Ls xs P) {s0 : Int32} {M : qMem} {Q : qPost}
    (hV : (P 7 0 [(0, .ref 6), (1, .ref 1)] [] M (fun v M' => P 37 9 [(0, .ref 0), (1, .int s0)] (v.toList ++ []) M' Q))) :
    P 37 3 [(0, .ref 0)] [.int s0] M Q := by
  exact qRun_ok hG (ops := qo_37) (cuts := qc_sa_clear) rfl 16 3 _ _ _ _ hV
theorem v_sa_clear_9 (hG : qGood Ls xs P) {l1 : Int32} {M : qMem} {Q : qPost}
    (hV : (P 17 0 [(0, .ref 1)] [] M (fun v M' => P 37 12 [(1, .int l1)] (v.toList ++ []) M' Q))) :
    P 37 9 [(0, .ref 0), (1, .int l1)] [] M Q := by
  exact qRun_ok hG (ops := qo_37) (cuts := qc_sa_clear) rfl 16 9 _ _ _ _ hV
theorem v_sa_clear_12 (hG : qGood Ls xs P) {l1 : Int32} {M : qMem} {Q : qPost}
    (hV : Q (some (.int l1)) M) :
    P 37 12 [(1, .int l1)] [] M Q := by
  exact qRun_ok hG (ops := qo_37) (cuts := qc_sa_clear) rfl 16 12 _ _ _ _ hV
def qc_sa_removeLine : List (Nat × List Nat) := [(4, [0, 1, 2]), (9, [0, 1, 2]), (19, [0, 1, 2]), (24, [0, 1, 2]), (29, [0, 1, 2, 3]), (43, [0, 1, 2, 3]), (48, [])]
set_option maxRecDepth 100000 in
theorem v_sa_removeLine_0 (hG : qGood Ls xs P) {l1 l2 : Int32} {M : qMem} {Q : qPost}
    (hV : (P 11 0 [(0, .ref 1), (1, .int l1)] [] M (fun v M' => P 38 4 [(0, .ref 0), (1, .int l1), (2, .int l2)] (v.toList ++ []) M' Q))) :
    P 38 0 [(0, .ref 0), (1, .int l1), (2, .int l2)] [] M Q := by
  exact qRun_ok hG (ops := qo_38) (cuts := qc_sa_removeLine) rfl 51 0 _ _ _ _ hV
set_option maxRecDepth 100000 in
theorem v_sa_removeLine_4 (hG : qGood Ls xs P) {l1 l2 s0 : Int32} {M : qMem} {Q : qPost}
    (hV : ((s0 = 0 → Q (some (.int (-1000000002 : Int32))) M) ∧ (¬ (s0 = 0) → (P 11 0 [(0, .ref 1), (1, .int l2)] [] M (fun v M' => P 38 9 [(0, .ref 0), (1, .int l1), (2, .int l2)] (v.toList ++ []) M' Q))))) :
    P 38 4 [(0, .ref 0), (1, .int l1), (2, .int l2)] [.int s0] M Q := by
  exact qRun_ok hG (ops := qo_38) (cuts := qc_sa_removeLine) rfl 51 4 _ _ _ _ hV
set_option maxRecDepth 100000 in
theorem v_sa_removeLine_9 (hG : qGood Ls xs P) {l1 l2 s0 : Int32} {M : qMem} {Q : qPost}
    (hV : ((s0 = 0 → Q (some (.int (-1000000002 : Int32))) M) ∧ (¬ (s0 = 0) → ((l1 < l2 → (P 12 0 [(0, .ref 1), (1, .int l1)] [] M (fun v M' => P 38 19 [(0, .ref 0), (1, .int l1), (2, .int l2)] (v.toList ++ []) M' Q))) ∧ (¬ (l1 < l2) → Q (some (.int (-1000000002 : Int32))) M))))) :
    P 38 9 [(0, .ref 0), (1, .int l1), (2, .int l2)] [.int s0] M Q := by
  exact qRun_ok hG (ops := qo_38) (cuts := qc_sa_removeLine) rfl 51 9 _ _ _ _ hV
set_option maxRecDepth 100000 in
theorem v_sa_removeLine_19 (hG : qGood Ls xs P) {l1 l2 s0 : Int32} {M : qMem} {Q : qPost}
    (hV : ((s0 = 0 → Q (some (.int (-1000000003 : Int32))) M) ∧ (¬ (s0 = 0) → (P 12 0 [(0, .ref 1), (1, .int l2)] [] M (fun v M' => P 38 24 [(0, .ref 0), (1, .int l1), (2, .int l2)] (v.toList ++ []) M' Q))))) :
    P 38 19 [(0, .ref 0), (1, .int l1), (2, .int l2)] [.int s0] M Q := by
  exact qRun_ok hG (ops := qo_38) (cuts := qc_sa_removeLine) rfl 51 19 _ _ _ _ hV
set_option maxRecDepth 100000 in
theorem v_sa_removeLine_24 (hG : qGood Ls xs P) {l1 l2 s0 : Int32} {M : qMem} {Q : qPost}
    (hV : ((¬ s0 = 0 → (P 38 29 [(0, .ref 0), (1, .int l1), (2, .int l2), (3, .int (0 : Int32))] [] M Q)) ∧ (¬ (¬ s0 = 0) → Q (some (.int (-1000000003 : Int32))) M))) :
    P 38 24 [(0, .ref 0), (1, .int l1), (2, .int l2)] [.int s0] M Q := by
  exact qRun_ok hG (ops := qo_38) (cuts := qc_sa_removeLine) rfl 51 24 _ _ _ _ hV
set_option maxRecDepth 100000 in
theorem v_sa_removeLine_29 (hG : qGood Ls xs P) {l1 l2 l3 : Int32} {M : qMem} {Q : qPost}
    (hV : (((Int32.ofNat 64) ≤ l3 → (P 61 0 [(0, .ref 0)] [] M (fun v M' => P 38 48 [] (v.toList ++ []) M' Q))) ∧ (¬ ((Int32.ofNat 64) ≤ l3) → (P 26 0 [(0, .ref 1), (1, .int l1), (2, .int l2), (3, .int l3)] [] M (fun v M' => P 38 43 [(0, .ref 0), (1, .int l1), (2, .int l2), (3, .int l3)] (v.toList ++ [.int l3, .ref 5]) M' Q))))) :
    P 38 29 [(0, .ref 0), (1, .int l1), (2, .int l2), (3, .int l3)] [] M Q := by
  exact qRun_ok hG (ops := qo_38) (cuts := qc_sa_removeLine) rfl 51 29 _ _ _ _ hV
set_option maxRecDepth 100000 in
theorem v_sa_removeLine_48 (hG : qGood Ls xs P) {s0 : Int32} {M : qMem} {Q : qPost}
    (hV : Q (some (.int s0)) M) :
    P 38 48 [] [.int s0] M Q := by
  exact qRun_ok hG (ops := qo_38) (cuts := qc_sa_removeLine) rfl 51 48 _ _ _ _ hV
set_option maxRecDepth 100000 in
theorem v_sa_removeLine_43 (hG : qGood Ls xs P) {s0 : Int64} {l1 l2 l3 s1 : Int32} {M : qMem} {Q : qPost}
    (hV : (vp_in s1 64 ∧ (P 38 29 [(0, .ref 0), (1, .int l1), (2, .int l2), (3, .int (l3 + (1 : Int32)))] [] (pJ M 5 s1.toNatClampNeg s0) Q))) :
    P 38 43 [(0, .ref 0), (1, .int l1), (2, .int l2), (3, .int l3)] [.long s0, .int s1, .ref 5] M Q := by
  exact qRun_ok hG (ops := qo_38) (cuts := qc_sa_removeLine) rfl 51 43 _ _ _ _ hV
def qc_sa_addLine : List (Nat × List Nat) := [(9, [0, 1, 2]), (14, [0, 1, 2, 3]), (36, [])]
theorem v_sa_addLine_0 (hG : qGood Ls xs P) {l1 l2 : Int32} {M : qMem} {Q : qPost}
    (hV : ((l1 < (-9999 : Int32) → Q (some (.int (-1000000002 : Int32))) M) ∧ (¬ (l1 < (-9999 : Int32)) → (((9999 : Int32) < l1 → Q (some (.int (-1000000002 : Int32))) M) ∧ (¬ ((9999 : Int32) < l1) → (P 55 0 [(0, .long l2.toInt64)] [] M (fun v M' => P 39 9 [(0, .ref 0), (1, .int l1), (2, .int l2)] (v.toList ++ []) M' Q))))))) :
    P 39 0 [(0, .ref 0), (1, .int l1), (2, .int l2)] [] M Q := by
  exact qRun_ok hG (ops := qo_39) (cuts := qc_sa_addLine) rfl 39 0 _ _ _ _ hV
theorem v_sa_addLine_9 (hG : qGood Ls xs P) {l1 l2 s0 : Int32} {M : qMem} {Q : qPost}
    (hV : ((¬ s0 = 0 → (P 39 14 [(0, .ref 0), (1, .int l1), (2, .int l2), (3, .int (0 : Int32))] [] M Q)) ∧ (¬ (¬ s0 = 0) → Q (some (.int (-1000000002 : Int32))) M))) :
    P 39 9 [(0, .ref 0), (1, .int l1), (2, .int l2)] [.int s0] M Q := by
  exact qRun_ok hG (ops := qo_39) (cuts := qc_sa_addLine) rfl 39 9 _ _ _ _ hV
theorem v_sa_addLine_14 (hG : qGood Ls xs P) {l1 l2 l3 : Int32} {M : qMem} {Q : qPost}
    (hV : (((Int32.ofNat 64) ≤ l3 → (P 61 0 [(0, .ref 0)] [] M (fun v M' => P 39 36 [] (v.toList ++ []) M' Q))) ∧ (¬ ((Int32.ofNat 64) ≤ l3) → (vp_in l3 64 ∧ (P 39 14 [(0, .ref 0), (1, .int l1), (2, .int l2), (3, .int (l3 + (1 : Int32)))] [] (pJ M 5 l3.toNatClampNeg (-((l1.toInt64 * l3.toInt64) + l2.toInt64))) Q))))) :
    P 39 14 [(0, .ref 0), (1, .int l1), (2, .int l2), (3, .int l3)] [] M Q := by
  exact qRun_ok hG (ops := qo_39) (cuts := qc_sa_addLine) rfl 39 14 _ _ _ _ hV
theorem v_sa_addLine_36 (hG : qGood Ls xs P) {s0 : Int32} {M : qMem} {Q : qPost}
    (hV : Q (some (.int s0)) M) :
    P 39 36 [] [.int s0] M Q := by
  exact qRun_ok hG (ops := qo_39) (cuts := qc_sa_addLine) rfl 39 36 _ _ _ _ hV
def qc_sa_removeDrift : List (Nat × List Nat) := [(5, [0]), (13, [0, 1]), (16, [0]), (20, [0, 2, 3]), (45, [2])]
set_option maxRecDepth 100000 in
theorem v_sa_removeDrift_0 (hG : qGood Ls xs P) {M : qMem} {Q : qPost}
    (hV : (P 28 0 [(0, .ref 1), (1, .int (2 : Int32)), (2, .int (1 : Int32))] [] M (fun v M' => P 40 5 [(0, .ref 0)] (v.toList ++ []) M' Q))) :
    P 40 0 [(0, .ref 0)] [] M Q := by
  exact qRun_ok hG (ops := qo_40) (cuts := qc_sa_removeDrift) rfl 53 0 _ _ _ _ hV
set_option maxRecDepth 100000 in
theorem v_sa_removeDrift_5 (hG : qGood Ls xs P) {s0 : Int32} {M : qMem} {Q : qPost}
    (hV : (((1 : Int32) ≤ s0 → (P 63 0 [(0, .ref 0)] [] M (fun v M' => P 40 13 [(0, .ref 0), (1, .int s0)] (v.toList ++ []) M' Q))) ∧ (¬ ((1 : Int32) ≤ s0) → Q (some (.int (-1000000003 : Int32))) M))) :
    P 40 5 [(0, .ref 0)] [.int s0] M Q := by
  exact qRun_ok hG (ops := qo_40) (cuts := qc_sa_removeDrift) rfl 53 5 _ _ _ _ hV
set_option maxRecDepth 100000 in
theorem v_sa_removeDrift_13 (hG : qGood Ls xs P) {s0 : Int64} {l1 : Int32} {M : qMem} {Q : qPost}
    (hV : (P 71 0 [(0, .long s0), (2, .long l1.toInt64)] [] M (fun v M' => P 40 16 [(0, .ref 0)] (v.toList ++ []) M' Q))) :
    P 40 13 [(0, .ref 0), (1, .int l1)] [.long s0] M Q := by
  exact qRun_ok hG (ops := qo_40) (cuts := qc_sa_removeDrift) rfl 53 13 _ _ _ _ hV
set_option maxRecDepth 100000 in
theorem v_sa_removeDrift_16 (hG : qGood Ls xs P) {s0 : Int64} {M : qMem} {Q : qPost}
    (hV : (P 40 20 [(0, .ref 0), (2, .int s0.toInt32), (3, .int (0 : Int32))] [] M Q)) :
    P 40 16 [(0, .ref 0)] [.long s0] M Q := by
  exact qRun_ok hG (ops := qo_40) (cuts := qc_sa_removeDrift) rfl 53 16 _ _ _ _ hV
set_option maxRecDepth 100000 in
theorem v_sa_removeDrift_20 (hG : qGood Ls xs P) {l2 l3 : Int32} {M : qMem} {Q : qPost}
    (hV : (((Int32.ofNat 64) ≤ l3 → (P 61 0 [(0, .ref 0)] [] M (fun v M' => P 40 45 [(2, .int l2)] (v.toList ++ []) M' Q))) ∧ (¬ ((Int32.ofNat 64) ≤ l3) → (¬ (2 : Int64) = 0 ∧ (vp_in l3 64 ∧ (P 40 20 [(0, .ref 0), (2, .int l2), (3, .int (l3 + (1 : Int32)))] [] (pJ M 5 l3.toNatClampNeg (((l2.toInt64 * l3.toInt64) * (l3 - (1 : Int32)).toInt64) / (2 : Int64))) Q)))))) :
    P 40 20 [(0, .ref 0), (2, .int l2), (3, .int l3)] [] M Q := by
  exact qRun_ok hG (ops := qo_40) (cuts := qc_sa_removeDrift) rfl 53 20 _ _ _ _ hV
set_option maxRecDepth 100000 in
theorem v_sa_removeDrift_45 (hG : qGood Ls xs P) {l2 s0 : Int32} {M : qMem} {Q : qPost}
    (hV : ((¬ s0 = (-1000000005 : Int32) → Q (some (.int l2)) M) ∧ (¬ (¬ s0 = (-1000000005 : Int32)) → Q (some (.int (-1000000005 : Int32))) M))) :
    P 40 45 [(2, .int l2)] [.int s0] M Q := by
  exact qRun_ok hG (ops := qo_40) (cuts := qc_sa_removeDrift) rfl 53 45 _ _ _ _ hV
def qc_sa_removeOutliers : List (Nat × List Nat) := [(2, [0, 1]), (12, [0, 1, 2]), (14, [0, 1, 2, 3]), (18, [0, 1, 2, 3]), (24, [0, 1, 2, 3]), (30, [0, 1, 2, 3]), (38, [0, 2]), (43, [2])]
set_option maxRecDepth 100000 in
theorem v_sa_removeOutliers_0 (hG : qGood Ls xs P) {l1 : Int32} {M : qMem} {Q : qPost}
    (hV : (P 56 0 [(0, .int l1)] [] M (fun v M' => P 41 2 [(0, .ref 0), (1, .int l1)] (v.toList ++ []) M' Q))) :
    P 41 0 [(0, .ref 0), (1, .int l1)] [] M Q := by
  exact qRun_ok hG (ops := qo_41) (cuts := qc_sa_removeOutliers) rfl 47 0 _ _ _ _ hV
set_option maxRecDepth 100000 in
theorem v_sa_removeOutliers_2 (hG : qGood Ls xs P) {l1 s0 : Int32} {M : qMem} {Q : qPost}
    (hV : ((¬ s0 = 0 → (P 18 0 [(0, .ref 3), (1, .ref 1)] [] M (fun v M' => P 41 12 [(0, .ref 0), (1, .int l1), (2, .int (0 : Int32))] (v.toList ++ []) M' Q))) ∧ (¬ (¬ s0 = 0) → Q (some (.int (-1000000002 : Int32))) M))) :
    P 41 2 [(0, .ref 0), (1, .int l1)] [.int s0] M Q := by
  exact qRun_ok hG (ops := qo_41) (cuts := qc_sa_removeOutliers) rfl 47 2 _ _ _ _ hV
set_option maxRecDepth 100000 in
theorem v_sa_removeOutliers_12 (hG : qGood Ls xs P) {l1 l2 : Int32} {M : qMem} {Q : qPost}
    (hV : (P 41 14 [(0, .ref 0), (1, .int l1), (2, .int l2), (3, .int (0 : Int32))] [] M Q)) :
    P 41 12 [(0, .ref 0), (1, .int l1), (2, .int l2)] [] M Q := by
  exact qRun_ok hG (ops := qo_41) (cuts := qc_sa_removeOutliers) rfl 47 12 _ _ _ _ hV
set_option maxRecDepth 100000 in
theorem v_sa_removeOutliers_14 (hG : qGood Ls xs P) {l1 l2 l3 : Int32} {M : qMem} {Q : qPost}
    (hV : (P 10 0 [(0, .ref 1)] [] M (fun v M' => P 41 18 [(0, .ref 0), (1, .int l1), (2, .int l2), (3, .int l3)] (v.toList ++ [.int l3]) M' Q))) :
    P 41 14 [(0, .ref 0), (1, .int l1), (2, .int l2), (3, .int l3)] [] M Q := by
  exact qRun_ok hG (ops := qo_41) (cuts := qc_sa_removeOutliers) rfl 47 14 _ _ _ _ hV
set_option maxRecDepth 100000 in
theorem v_sa_removeOutliers_18 (hG : qGood Ls xs P) {l1 l2 l3 s0 s1 : Int32} {M : qMem} {Q : qPost}
    (hV : ((s0 ≤ s1 → (P 7 0 [(0, .ref 6), (1, .ref 1)] [] M (fun v M' => P 41 38 [(0, .ref 0), (2, .int l2)] (v.toList ++ []) M' Q))) ∧ (¬ (s0 ≤ s1) → (P 27 0 [(0, .ref 1), (1, .int l3), (2, .int l1)] [] M (fun v M' => P 41 24 [(0, .ref 0), (1, .int l1), (2, .int l2), (3, .int l3)] (v.toList ++ []) M' Q))))) :
    P 41 18 [(0, .ref 0), (1, .int l1), (2, .int l2), (3, .int l3)] [.int s0, .int s1] M Q := by
  exact qRun_ok hG (ops := qo_41) (cuts := qc_sa_removeOutliers) rfl 47 18 _ _ _ _ hV
set_option maxRecDepth 100000 in
theorem v_sa_removeOutliers_38 (hG : qGood Ls xs P) {l2 : Int32} {M : qMem} {Q : qPost}
    (hV : (P 18 0 [(0, .ref 1), (1, .ref 3)] [] M (fun v M' => P 41 43 [(2, .int l2)] (v.toList ++ []) M' Q))) :
    P 41 38 [(0, .ref 0), (2, .int l2)] [] M Q := by
  exact qRun_ok hG (ops := qo_41) (cuts := qc_sa_removeOutliers) rfl 47 38 _ _ _ _ hV
set_option maxRecDepth 100000 in
theorem v_sa_removeOutliers_24 (hG : qGood Ls xs P) {l1 l2 l3 s0 : Int32} {M : qMem} {Q : qPost}
    (hV : ((s0 = 0 → (P 41 14 [(0, .ref 0), (1, .int l1), (2, .int l2), (3, .int (l3 + (1 : Int32)))] [] M Q)) ∧ (¬ (s0 = 0) → (P 14 0 [(0, .ref 3), (1, .int l3), (2, .int (-1000000001 : Int32))] [] M (fun v M' => P 41 30 [(0, .ref 0), (1, .int l1), (2, .int l2), (3, .int l3)] (v.toList ++ []) M' Q))))) :
    P 41 24 [(0, .ref 0), (1, .int l1), (2, .int l2), (3, .int l3)] [.int s0] M Q := by
  exact qRun_ok hG (ops := qo_41) (cuts := qc_sa_removeOutliers) rfl 47 24 _ _ _ _ hV
set_option maxRecDepth 100000 in
theorem v_sa_removeOutliers_43 (hG : qGood Ls xs P) {l2 : Int32} {M : qMem} {Q : qPost}
    (hV : Q (some (.int l2)) M) :
    P 41 43 [(2, .int l2)] [] M Q := by
  exact qRun_ok hG (ops := qo_41) (cuts := qc_sa_removeOutliers) rfl 47 43 _ _ _ _ hV
set_option maxRecDepth 100000 in
theorem v_sa_removeOutliers_30 (hG : qGood Ls xs P) {l1 l2 l3 : Int32} {M : qMem} {Q : qPost}
    (hV : (P 41 14 [(0, .ref 0), (1, .int l1), (2, .int (l2 + (1 : Int32))), (3, .int (l3 + (1 : Int32)))] [] M Q)) :
    P 41 30 [(0, .ref 0), (1, .int l1), (2, .int l2), (3, .int l3)] [] M Q := by
  exact qRun_ok hG (ops := qo_41) (cuts := qc_sa_removeOutliers) rfl 47 30 _ _ _ _ hV
def qc_sa_fill : List (Nat × List Nat) := [(13, [0, 1]), (17, [0, 1, 2, 3]), (21, [0, 1, 2, 3]), (28, [0, 1, 2, 3]), (33, [0, 1, 2, 3]), (38, [0, 1, 2, 3]), (43, [0, 1, 2, 3, 4]), (53, [0, 1, 2, 3, 4])]
set_option maxRecDepth 100000 in
theorem v_sa_fill_0 (hG : qGood Ls xs P) {l1 : Int32} {M : qMem} {Q : qPost}
    (hV : ((l1 < (1 : Int32) → Q (some (.int (-1000000002 : Int32))) M) ∧ (¬ (l1 < (1 : Int32)) → ((l1 ≤ (64 : Int32) → (P 7 0 [(0, .ref 6), (1, .ref 1)] [] M (fun v M' => P 42 13 [(0, .ref 0), (1, .int l1)] (v.toList ++ []) M' Q))) ∧ (¬ (l1 ≤ (64 : Int32)) → Q (some (.int (-1000000002 : Int32))) M))))) :
    P 42 0 [(0, .ref 0), (1, .int l1)] [] M Q := by
  exact qRun_ok hG (ops := qo_42) (cuts := qc_sa_fill) rfl 65 0 _ _ _ _ hV
set_option maxRecDepth 100000 in
theorem v_sa_fill_13 (hG : qGood Ls xs P) {l1 : Int32} {M : qMem} {Q : qPost}
    (hV : (P 42 17 [(0, .ref 0), (1, .int l1), (2, .int (0 : Int32)), (3, .int (1 : Int32))] [] M Q)) :
    P 42 13 [(0, .ref 0), (1, .int l1)] [] M Q := by
  exact qRun_ok hG (ops := qo_42) (cuts := qc_sa_fill) rfl 65 13 _ _ _ _ hV
set_option maxRecDepth 100000 in
theorem v_sa_fill_17 (hG : qGood Ls xs P) {l1 l2 l3 : Int32} {M : qMem} {Q : qPost}
    (hV : (P 10 0 [(0, .ref 1)] [] M (fun v M' => P 42 21 [(0, .ref 0), (1, .int l1), (2, .int l2), (3, .int l3)] (v.toList ++ [.int l3]) M' Q))) :
    P 42 17 [(0, .ref 0), (1, .int l1), (2, .int l2), (3, .int l3)] [] M Q := by
  exact qRun_ok hG (ops := qo_42) (cuts := qc_sa_fill) rfl 65 17 _ _ _ _ hV
set_option maxRecDepth 100000 in
theorem v_sa_fill_21 (hG : qGood Ls xs P) {l1 l2 l3 s0 s1 : Int32} {M : qMem} {Q : qPost}
    (hV : ((s0 ≤ s1 → Q (some (.int l2)) M) ∧ (¬ (s0 ≤ s1) → (P 12 0 [(0, .ref 1), (1, .int (l3 - (1 : Int32)))] [] M (fun v M' => P 42 28 [(0, .ref 0), (1, .int l1), (2, .int l2), (3, .int l3)] (v.toList ++ []) M' Q))))) :
    P 42 21 [(0, .ref 0), (1, .int l1), (2, .int l2), (3, .int l3)] [.int s0, .int s1] M Q := by
  exact qRun_ok hG (ops := qo_42) (cuts := qc_sa_fill) rfl 65 21 _ _ _ _ hV
set_option maxRecDepth 100000 in
theorem v_sa_fill_28 (hG : qGood Ls xs P) {l1 l2 l3 s0 : Int32} {M : qMem} {Q : qPost}
    (hV : ((s0 = 0 → (P 42 17 [(0, .ref 0), (1, .int l1), (2, .int l2), (3, .int (l3 + (1 : Int32)))] [] M Q)) ∧ (¬ (s0 = 0) → (P 12 0 [(0, .ref 1), (1, .int l3)] [] M (fun v M' => P 42 33 [(0, .ref 0), (1, .int l1), (2, .int l2), (3, .int l3)] (v.toList ++ []) M' Q))))) :
    P 42 28 [(0, .ref 0), (1, .int l1), (2, .int l2), (3, .int l3)] [.int s0] M Q := by
  exact qRun_ok hG (ops := qo_42) (cuts := qc_sa_fill) rfl 65 28 _ _ _ _ hV
set_option maxRecDepth 100000 in
theorem v_sa_fill_33 (hG : qGood Ls xs P) {l1 l2 l3 s0 : Int32} {M : qMem} {Q : qPost}
    (hV : ((¬ s0 = 0 → (P 42 17 [(0, .ref 0), (1, .int l1), (2, .int l2), (3, .int (l3 + (1 : Int32)))] [] M Q)) ∧ (¬ (¬ s0 = 0) → (P 25 0 [(0, .ref 1), (1, .int l3)] [] M (fun v M' => P 42 38 [(0, .ref 0), (1, .int l1), (2, .int l2), (3, .int l3)] (v.toList ++ []) M' Q))))) :
    P 42 33 [(0, .ref 0), (1, .int l1), (2, .int l2), (3, .int l3)] [.int s0] M Q := by
  exact qRun_ok hG (ops := qo_42) (cuts := qc_sa_fill) rfl 65 33 _ _ _ _ hV
set_option maxRecDepth 100000 in
theorem v_sa_fill_38 (hG : qGood Ls xs P) {l1 l2 l3 s0 : Int32} {M : qMem} {Q : qPost}
    (hV : (P 10 0 [(0, .ref 1)] [] M (fun v M' => P 42 43 [(0, .ref 0), (1, .int l1), (2, .int l2), (3, .int l3), (4, .int s0)] (v.toList ++ [.int s0]) M' Q))) :
    P 42 38 [(0, .ref 0), (1, .int l1), (2, .int l2), (3, .int l3)] [.int s0] M Q := by
  exact qRun_ok hG (ops := qo_42) (cuts := qc_sa_fill) rfl 65 38 _ _ _ _ hV
set_option maxRecDepth 100000 in
theorem v_sa_fill_43 (hG : qGood Ls xs P) {l1 l2 l3 l4 s0 s1 : Int32} {M : qMem} {Q : qPost}
    (hV : ((s0 ≤ s1 → (P 42 17 [(0, .ref 0), (1, .int l1), (2, .int l2), (3, .int (l3 + (1 : Int32)))] [] M Q)) ∧ (¬ (s0 ≤ s1) → ((l1 < (l4 - l3) → (P 42 17 [(0, .ref 0), (1, .int l1), (2, .int l2), (3, .int (l3 + (1 : Int32)))] [] M Q)) ∧ (¬ (l1 < (l4 - l3)) → (P 64 0 [(0, .ref 0), (1, .int l3), (2, .int l4)] [] M (fun v M' => P 42 53 [(0, .ref 0), (1, .int l1), (2, .int l2), (3, .int l3), (4, .int l4)] (v.toList ++ []) M' Q))))))) :
    P 42 43 [(0, .ref 0), (1, .int l1), (2, .int l2), (3, .int l3), (4, .int l4)] [.int s0, .int s1] M Q := by
  exact qRun_ok hG (ops := qo_42) (cuts := qc_sa_fill) rfl 65 43 _ _ _ _ hV
set_option maxRecDepth 100000 in
theorem v_sa_fill_53 (hG : qGood Ls xs P) {l1 l2 l3 l4 : Int32} {M : qMem} {Q : qPost}
    (hV : (P 42 17 [(0, .ref 0), (1, .int l1), (2, .int (l2 + (l4 - l3))), (3, .int (l3 + (1 : Int32)))] [] M Q)) :
    P 42 53 [(0, .ref 0), (1, .int l1), (2, .int l2), (3, .int l3), (4, .int l4)] [] M Q := by
  exact qRun_ok hG (ops := qo_42) (cuts := qc_sa_fill) rfl 65 53 _ _ _ _ hV
def qc_sa_thin : List (Nat × List Nat) := [(16, [0, 1, 2]), (18, [0, 1, 3]), (22, [0, 1, 3]), (29, [0, 1, 3]), (30, [0, 1, 3]), (40, [0]), (45, [0]), (48, [])]
set_option maxRecDepth 100000 in
theorem v_sa_thin_0 (hG : qGood Ls xs P) {l1 l2 : Int32} {M : qMem} {Q : qPost}
    (hV : ((l1 < (1 : Int32) → Q (some (.int (-1000000002 : Int32))) M) ∧ (¬ (l1 < (1 : Int32)) → (((16 : Int32) < l1 → Q (some (.int (-1000000002 : Int32))) M) ∧ (¬ ((16 : Int32) < l1) → ((l2 < 0 → Q (some (.int (-1000000002 : Int32))) M) ∧ (¬ (l2 < 0) → ((l2 < l1 → (P 17 0 [(0, .ref 3)] [] M (fun v M' => P 43 16 [(0, .ref 0), (1, .int l1), (2, .int l2)] (v.toList ++ []) M' Q))) ∧ (¬ (l2 < l1) → Q (some (.int (-1000000002 : Int32))) M))))))))) :
    P 43 0 [(0, .ref 0), (1, .int l1), (2, .int l2)] [] M Q := by
  exact qRun_ok hG (ops := qo_43) (cuts := qc_sa_thin) rfl 51 0 _ _ _ _ hV
set_option maxRecDepth 100000 in
theorem v_sa_thin_16 (hG : qGood Ls xs P) {l1 l2 : Int32} {M : qMem} {Q : qPost}
    (hV : (P 43 18 [(0, .ref 0), (1, .int l1), (3, .int l2)] [] M Q)) :
    P 43 16 [(0, .ref 0), (1, .int l1), (2, .int l2)] [] M Q := by
  exact qRun_ok hG (ops := qo_43) (cuts := qc_sa_thin) rfl 51 16 _ _ _ _ hV
set_option maxRecDepth 100000 in
theorem v_sa_thin_18 (hG : qGood Ls xs P) {l1 l3 : Int32} {M : qMem} {Q : qPost}
    (hV : (P 10 0 [(0, .ref 1)] [] M (fun v M' => P 43 22 [(0, .ref 0), (1, .int l1), (3, .int l3)] (v.toList ++ [.int l3]) M' Q))) :
    P 43 18 [(0, .ref 0), (1, .int l1), (3, .int l3)] [] M Q := by
  exact qRun_ok hG (ops := qo_43) (cuts := qc_sa_thin) rfl 51 18 _ _ _ _ hV
set_option maxRecDepth 100000 in
theorem v_sa_thin_22 (hG : qGood Ls xs P) {l1 l3 s0 s1 : Int32} {M : qMem} {Q : qPost}
    (hV : ((s0 ≤ s1 → (P 7 0 [(0, .ref 6), (1, .ref 1)] [] M (fun v M' => P 43 40 [(0, .ref 0)] (v.toList ++ []) M' Q))) ∧ (¬ (s0 ≤ s1) → (P 13 0 [(0, .ref 1), (1, .int l3)] [] M (fun v M' => P 43 29 [(0, .ref 0), (1, .int l1), (3, .int l3)] (v.toList ++ [.ref 3]) M' Q))))) :
    P 43 22 [(0, .ref 0), (1, .int l1), (3, .int l3)] [.int s0, .int s1] M Q := by
  exact qRun_ok hG (ops := qo_43) (cuts := qc_sa_thin) rfl 51 22 _ _ _ _ hV
set_option maxRecDepth 100000 in
theorem v_sa_thin_40 (hG : qGood Ls xs P) {M : qMem} {Q : qPost}
    (hV : (P 18 0 [(0, .ref 1), (1, .ref 3)] [] M (fun v M' => P 43 45 [(0, .ref 0)] (v.toList ++ []) M' Q))) :
    P 43 40 [(0, .ref 0)] [] M Q := by
  exact qRun_ok hG (ops := qo_43) (cuts := qc_sa_thin) rfl 51 40 _ _ _ _ hV
set_option maxRecDepth 100000 in
theorem v_sa_thin_29 (hG : qGood Ls xs P) {l1 l3 s0 : Int32} {M : qMem} {Q : qPost}
    (hV : (P 15 0 [(0, .ref 3), (1, .int s0)] [] M (fun v M' => P 43 30 [(0, .ref 0), (1, .int l1), (3, .int l3)] (v.toList ++ []) M' Q))) :
    P 43 29 [(0, .ref 0), (1, .int l1), (3, .int l3)] [.int s0, .ref 3] M Q := by
  exact qRun_ok hG (ops := qo_43) (cuts := qc_sa_thin) rfl 51 29 _ _ _ _ hV
set_option maxRecDepth 100000 in
theorem v_sa_thin_45 (hG : qGood Ls xs P) {M : qMem} {Q : qPost}
    (hV : (P 10 0 [(0, .ref 1)] [] M (fun v M' => P 43 48 [] (v.toList ++ []) M' Q))) :
    P 43 45 [(0, .ref 0)] [] M Q := by
  exact qRun_ok hG (ops := qo_43) (cuts := qc_sa_thin) rfl 51 45 _ _ _ _ hV
set_option maxRecDepth 100000 in
theorem v_sa_thin_30 (hG : qGood Ls xs P) {l1 l3 : Int32} {M : qMem} {Q : qPost}
    (hV : (P 43 18 [(0, .ref 0), (1, .int l1), (3, .int (l3 + l1))] [] M Q)) :
    P 43 30 [(0, .ref 0), (1, .int l1), (3, .int l3)] [] M Q := by
  exact qRun_ok hG (ops := qo_43) (cuts := qc_sa_thin) rfl 51 30 _ _ _ _ hV
set_option maxRecDepth 100000 in
theorem v_sa_thin_48 (hG : qGood Ls xs P) {s0 : Int32} {M : qMem} {Q : qPost}
    (hV : Q (some (.int s0)) M) :
    P 43 48 [] [.int s0] M Q := by
  exact qRun_ok hG (ops := qo_43) (cuts := qc_sa_thin) rfl 51 48 _ _ _ _ hV
def qc_sa_undo : List (Nat × List Nat) := [(3, [0]), (11, [0]), (14, [])]
theorem v_sa_undo_0 (hG : qGood Ls xs P) {M : qMem} {Q : qPost}
    (hV : (P 6 0 [(0, .ref 6)] [] M (fun v M' => P 44 3 [(0, .ref 0)] (v.toList ++ []) M' Q))) :
    P 44 0 [(0, .ref 0)] [] M Q := by
  exact qRun_ok hG (ops := qo_44) (cuts := qc_sa_undo) rfl 17 0 _ _ _ _ hV
theorem v_sa_undo_3 (hG : qGood Ls xs P) {s0 : Int32} {M : qMem} {Q : qPost}
    (hV : ((¬ s0 = 0 → (P 8 0 [(0, .ref 6), (1, .ref 1)] [] M (fun v M' => P 44 11 [(0, .ref 0)] (v.toList ++ []) M' Q))) ∧ (¬ (¬ s0 = 0) → Q (some (.int (-1000000003 : Int32))) M))) :
    P 44 3 [(0, .ref 0)] [.int s0] M Q := by
  exact qRun_ok hG (ops := qo_44) (cuts := qc_sa_undo) rfl 17 3 _ _ _ _ hV
theorem v_sa_undo_11 (hG : qGood Ls xs P) {M : qMem} {Q : qPost}
    (hV : (P 6 0 [(0, .ref 6)] [] M (fun v M' => P 44 14 [] (v.toList ++ []) M' Q))) :
    P 44 11 [(0, .ref 0)] [] M Q := by
  exact qRun_ok hG (ops := qo_44) (cuts := qc_sa_undo) rfl 17 11 _ _ _ _ hV
theorem v_sa_undo_14 (hG : qGood Ls xs P) {s0 : Int32} {M : qMem} {Q : qPost}
    (hV : Q (some (.int s0)) M) :
    P 44 14 [] [.int s0] M Q := by
  exact qRun_ok hG (ops := qo_44) (cuts := qc_sa_undo) rfl 17 14 _ _ _ _ hV
def qc_sa_told : List (Nat × List Nat) := [(5, []), (9, []), (13, []), (17, []), (21, []), (25, []), (28, []), (32, []), (36, [])]
theorem v_sa_told_0 (hG : qGood Ls xs P) {l1 : Int32} {M : qMem} {Q : qPost}
    (hV : ((l1 = Int32.ofInt 0 → (P 10 0 [(0, .ref 1)] [] M (fun v M' => P 45 5 [] (v.toList ++ []) M' Q))) ∧ (¬ (l1 = Int32.ofInt 0) → ((l1 = Int32.ofInt 1 → (P 19 0 [(0, .ref 1)] [] M (fun v M' => P 45 9 [] (v.toList ++ []) M' Q))) ∧ (¬ (l1 = Int32.ofInt 1) → ((l1 = Int32.ofInt 2 → (P 20 0 [(0, .ref 1)] [] M (fun v M' => P 45 13 [] (v.toList ++ []) M' Q))) ∧ (¬ (l1 = Int32.ofInt 2) → ((l1 = Int32.ofInt 3 → (P 21 0 [(0, .ref 1)] [] M (fun v M' => P 45 17 [] (v.toList ++ []) M' Q))) ∧ (¬ (l1 = Int32.ofInt 3) → ((l1 = Int32.ofInt 4 → (P 22 0 [(0, .ref 1)] [] M (fun v M' => P 45 21 [] (v.toList ++ []) M' Q))) ∧ (¬ (l1 = Int32.ofInt 4) → ((l1 = Int32.ofInt 5 → (P 23 0 [(0, .ref 1)] [] M (fun v M' => P 45 25 [] (v.toList ++ []) M' Q))) ∧ (¬ (l1 = Int32.ofInt 5) → ((l1 = Int32.ofInt 6 → (P 65 0 [(0, .ref 0)] [] M (fun v M' => P 45 28 [] (v.toList ++ []) M' Q))) ∧ (¬ (l1 = Int32.ofInt 6) → ((l1 = Int32.ofInt 7 → (P 33 0 [(0, .ref 31)] [] M (fun v M' => P 45 32 [] (v.toList ++ []) M' Q))) ∧ (¬ (l1 = Int32.ofInt 7) → ((l1 = Int32.ofInt 8 → (P 6 0 [(0, .ref 6)] [] M (fun v M' => P 45 36 [] (v.toList ++ []) M' Q))) ∧ (¬ (l1 = Int32.ofInt 8) → Q (some (.int (-1000000002 : Int32))) M))))))))))))))))))) :
    P 45 0 [(0, .ref 0), (1, .int l1)] [] M Q := by
  exact qRun_ok hG (ops := qo_45) (cuts := qc_sa_told) rfl 41 0 _ _ _ _ hV
theorem v_sa_told_36 (hG : qGood Ls xs P) {s0 : Int32} {M : qMem} {Q : qPost}
    (hV : Q (some (.int s0)) M) :
    P 45 36 [] [.int s0] M Q := by
  exact qRun_ok hG (ops := qo_45) (cuts := qc_sa_told) rfl 41 36 _ _ _ _ hV
theorem v_sa_told_32 (hG : qGood Ls xs P) {s0 : Int32} {M : qMem} {Q : qPost}
    (hV : Q (some (.int s0)) M) :
    P 45 32 [] [.int s0] M Q := by
  exact qRun_ok hG (ops := qo_45) (cuts := qc_sa_told) rfl 41 32 _ _ _ _ hV
theorem v_sa_told_28 (hG : qGood Ls xs P) {s0 : Int32} {M : qMem} {Q : qPost}
    (hV : Q (some (.int s0)) M) :
    P 45 28 [] [.int s0] M Q := by
  exact qRun_ok hG (ops := qo_45) (cuts := qc_sa_told) rfl 41 28 _ _ _ _ hV
theorem v_sa_told_25 (hG : qGood Ls xs P) {s0 : Int32} {M : qMem} {Q : qPost}
    (hV : Q (some (.int s0)) M) :
    P 45 25 [] [.int s0] M Q := by
  exact qRun_ok hG (ops := qo_45) (cuts := qc_sa_told) rfl 41 25 _ _ _ _ hV
theorem v_sa_told_21 (hG : qGood Ls xs P) {s0 : Int32} {M : qMem} {Q : qPost}
    (hV : Q (some (.int s0)) M) :
    P 45 21 [] [.int s0] M Q := by
  exact qRun_ok hG (ops := qo_45) (cuts := qc_sa_told) rfl 41 21 _ _ _ _ hV
theorem v_sa_told_17 (hG : qGood Ls xs P) {s0 : Int32} {M : qMem} {Q : qPost}
    (hV : Q (some (.int s0)) M) :
    P 45 17 [] [.int s0] M Q := by
  exact qRun_ok hG (ops := qo_45) (cuts := qc_sa_told) rfl 41 17 _ _ _ _ hV
theorem v_sa_told_13 (hG : qGood Ls xs P) {s0 : Int32} {M : qMem} {Q : qPost}
    (hV : Q (some (.int s0)) M) :
    P 45 13 [] [.int s0] M Q := by
  exact qRun_ok hG (ops := qo_45) (cuts := qc_sa_told) rfl 41 13 _ _ _ _ hV
theorem v_sa_told_9 (hG : qGood Ls xs P) {s0 : Int32} {M : qMem} {Q : qPost}
    (hV : Q (some (.int s0)) M) :
    P 45 9 [] [.int s0] M Q := by
  exact qRun_ok hG (ops := qo_45) (cuts := qc_sa_told) rfl 41 9 _ _ _ _ hV
theorem v_sa_told_5 (hG : qGood Ls xs P) {s0 : Int32} {M : qMem} {Q : qPost}
    (hV : Q (some (.int s0)) M) :
    P 45 5 [] [.int s0] M Q := by
  exact qRun_ok hG (ops := qo_45) (cuts := qc_sa_told) rfl 41 5 _ _ _ _ hV
def qc_sa_reading : List (Nat × List Nat) := [(4, [0, 1]), (11, [])]
theorem v_sa_reading_0 (hG : qGood Ls xs P) {l1 : Int32} {M : qMem} {Q : qPost}
    (hV : (P 11 0 [(0, .ref 1), (1, .int l1)] [] M (fun v M' => P 46 4 [(0, .ref 0), (1, .int l1)] (v.toList ++ []) M' Q))) :
    P 46 0 [(0, .ref 0), (1, .int l1)] [] M Q := by
  exact qRun_ok hG (ops := qo_46) (cuts := qc_sa_reading) rfl 14 0 _ _ _ _ hV
theorem v_sa_reading_4 (hG : qGood Ls xs P) {l1 s0 : Int32} {M : qMem} {Q : qPost}
    (hV : ((¬ s0 = 0 → (P 13 0 [(0, .ref 1), (1, .int l1)] [] M (fun v M' => P 46 11 [] (v.toList ++ []) M' Q))) ∧ (¬ (¬ s0 = 0) → Q (some (.int (-1000000002 : Int32))) M))) :
    P 46 4 [(0, .ref 0), (1, .int l1)] [.int s0] M Q := by
  exact qRun_ok hG (ops := qo_46) (cuts := qc_sa_reading) rfl 14 4 _ _ _ _ hV
theorem v_sa_reading_11 (hG : qGood Ls xs P) {s0 : Int32} {M : qMem} {Q : qPost}
    (hV : Q (some (.int s0)) M) :
    P 46 11 [] [.int s0] M Q := by
  exact qRun_ok hG (ops := qo_46) (cuts := qc_sa_reading) rfl 14 11 _ _ _ _ hV
def qc_sa_difference : List (Nat × List Nat) := [(2, [0, 1, 2, 3]), (5, [0, 1, 2, 3]), (16, [])]
theorem v_sa_difference_0 (hG : qGood Ls xs P) {l1 l2 l3 : Int32} {M : qMem} {Q : qPost}
    (hV : (P 57 0 [(0, .int l1)] [] M (fun v M' => P 47 2 [(0, .ref 0), (1, .int l1), (2, .int l2), (3, .int l3)] (v.toList ++ []) M' Q))) :
    P 47 0 [(0, .ref 0), (1, .int l1), (2, .int l2), (3, .int l3)] [] M Q := by
  exact qRun_ok hG (ops := qo_47) (cuts := qc_sa_difference) rfl 19 0 _ _ _ _ hV
theorem v_sa_difference_2 (hG : qGood Ls xs P) {l1 l2 l3 s0 : Int32} {M : qMem} {Q : qPost}
    (hV : ((s0 = 0 → Q (some (.int (-1000000002 : Int32))) M) ∧ (¬ (s0 = 0) → (P 58 0 [(0, .int l2)] [] M (fun v M' => P 47 5 [(0, .ref 0), (1, .int l1), (2, .int l2), (3, .int l3)] (v.toList ++ []) M' Q))))) :
    P 47 2 [(0, .ref 0), (1, .int l1), (2, .int l2), (3, .int l3)] [.int s0] M Q := by
  exact qRun_ok hG (ops := qo_47) (cuts := qc_sa_difference) rfl 19 2 _ _ _ _ hV
theorem v_sa_difference_5 (hG : qGood Ls xs P) {l1 l2 l3 s0 : Int32} {M : qMem} {Q : qPost}
    (hV : ((s0 = 0 → Q (some (.int (-1000000002 : Int32))) M) ∧ (¬ (s0 = 0) → ((0 ≤ l3 → (P 29 0 [(0, .ref 1), (1, .int l1), (2, .int l2), (3, .int l3)] [] M (fun v M' => P 47 16 [] (v.toList ++ []) M' Q))) ∧ (¬ (0 ≤ l3) → Q (some (.int (-1000000002 : Int32))) M))))) :
    P 47 5 [(0, .ref 0), (1, .int l1), (2, .int l2), (3, .int l3)] [.int s0] M Q := by
  exact qRun_ok hG (ops := qo_47) (cuts := qc_sa_difference) rfl 19 5 _ _ _ _ hV
theorem v_sa_difference_16 (hG : qGood Ls xs P) {s0 : Int32} {M : qMem} {Q : qPost}
    (hV : Q (some (.int s0)) M) :
    P 47 16 [] [.int s0] M Q := by
  exact qRun_ok hG (ops := qo_47) (cuts := qc_sa_difference) rfl 19 16 _ _ _ _ hV
def qc_sa_count : List (Nat × List Nat) := [(2, [0, 1, 2]), (5, [0, 1, 2]), (13, [])]
theorem v_sa_count_0 (hG : qGood Ls xs P) {l1 l2 : Int32} {M : qMem} {Q : qPost}
    (hV : (P 57 0 [(0, .int l1)] [] M (fun v M' => P 48 2 [(0, .ref 0), (1, .int l1), (2, .int l2)] (v.toList ++ []) M' Q))) :
    P 48 0 [(0, .ref 0), (1, .int l1), (2, .int l2)] [] M Q := by
  exact qRun_ok hG (ops := qo_48) (cuts := qc_sa_count) rfl 16 0 _ _ _ _ hV
theorem v_sa_count_2 (hG : qGood Ls xs P) {l1 l2 s0 : Int32} {M : qMem} {Q : qPost}
    (hV : ((s0 = 0 → Q (some (.int (-1000000002 : Int32))) M) ∧ (¬ (s0 = 0) → (P 58 0 [(0, .int l2)] [] M (fun v M' => P 48 5 [(0, .ref 0), (1, .int l1), (2, .int l2)] (v.toList ++ []) M' Q))))) :
    P 48 2 [(0, .ref 0), (1, .int l1), (2, .int l2)] [.int s0] M Q := by
  exact qRun_ok hG (ops := qo_48) (cuts := qc_sa_count) rfl 16 2 _ _ _ _ hV
theorem v_sa_count_5 (hG : qGood Ls xs P) {l1 l2 s0 : Int32} {M : qMem} {Q : qPost}
    (hV : ((¬ s0 = 0 → (P 28 0 [(0, .ref 1), (1, .int l1), (2, .int l2)] [] M (fun v M' => P 48 13 [] (v.toList ++ []) M' Q))) ∧ (¬ (¬ s0 = 0) → Q (some (.int (-1000000002 : Int32))) M))) :
    P 48 5 [(0, .ref 0), (1, .int l1), (2, .int l2)] [.int s0] M Q := by
  exact qRun_ok hG (ops := qo_48) (cuts := qc_sa_count) rfl 16 5 _ _ _ _ hV
theorem v_sa_count_13 (hG : qGood Ls xs P) {s0 : Int32} {M : qMem} {Q : qPost}
    (hV : Q (some (.int s0)) M) :
    P 48 13 [] [.int s0] M Q := by
  exact qRun_ok hG (ops := qo_48) (cuts := qc_sa_count) rfl 16 13 _ _ _ _ hV
def qc_sa_variance : List (Nat × List Nat) := [(2, [0, 1, 2, 3]), (5, [0, 1, 2, 3]), (19, [0, 3]), (22, [0, 3])]
theorem v_sa_variance_0 (hG : qGood Ls xs P) {l1 l2 l3 : Int32} {M : qMem} {Q : qPost}
    (hV : (P 59 0 [(0, .int l1)] [] M (fun v M' => P 49 2 [(0, .ref 0), (1, .int l1), (2, .int l2), (3, .int l3)] (v.toList ++ []) M' Q))) :
    P 49 0 [(0, .ref 0), (1, .int l1), (2, .int l2), (3, .int l3)] [] M Q := by
  exact qRun_ok hG (ops := qo_49) (cuts := qc_sa_variance) rfl 37 0 _ _ _ _ hV
theorem v_sa_variance_2 (hG : qGood Ls xs P) {l1 l2 l3 s0 : Int32} {M : qMem} {Q : qPost}
    (hV : ((s0 = 0 → Q (some (.long (-1000000002 : Int64))) M) ∧ (¬ (s0 = 0) → (P 58 0 [(0, .int l2)] [] M (fun v M' => P 49 5 [(0, .ref 0), (1, .int l1), (2, .int l2), (3, .int l3)] (v.toList ++ []) M' Q))))) :
    P 49 2 [(0, .ref 0), (1, .int l1), (2, .int l2), (3, .int l3)] [.int s0] M Q := by
  exact qRun_ok hG (ops := qo_49) (cuts := qc_sa_variance) rfl 37 2 _ _ _ _ hV
theorem v_sa_variance_5 (hG : qGood Ls xs P) {l1 l2 l3 s0 : Int32} {M : qMem} {Q : qPost}
    (hV : ((s0 = 0 → Q (some (.long (-1000000002 : Int64))) M) ∧ (¬ (s0 = 0) → ((l3 < 0 → Q (some (.long (-1000000002 : Int64))) M) ∧ (¬ (l3 < 0) → ((l3 ≤ (1 : Int32) → (P 66 0 [(0, .ref 0), (1, .int l1), (2, .int l2), (3, .ref 34)] [] M (fun v M' => P 49 19 [(0, .ref 0), (3, .int l3)] (v.toList ++ []) M' Q))) ∧ (¬ (l3 ≤ (1 : Int32)) → Q (some (.long (-1000000002 : Int64))) M))))))) :
    P 49 5 [(0, .ref 0), (1, .int l1), (2, .int l2), (3, .int l3)] [.int s0] M Q := by
  exact qRun_ok hG (ops := qo_49) (cuts := qc_sa_variance) rfl 37 5 _ _ _ _ hV
theorem v_sa_variance_19 (hG : qGood Ls xs P) {l3 : Int32} {M : qMem} {Q : qPost}
    (hV : (P 0 0 [(0, .ref 34)] [] M (fun v M' => P 49 22 [(0, .ref 0), (3, .int l3)] (v.toList ++ []) M' Q))) :
    P 49 19 [(0, .ref 0), (3, .int l3)] [] M Q := by
  exact qRun_ok hG (ops := qo_49) (cuts := qc_sa_variance) rfl 37 19 _ _ _ _ hV
theorem v_sa_variance_22 (hG : qGood Ls xs P) {l3 s0 : Int32} {M : qMem} {Q : qPost}
    (hV : ((¬ s0 = 0 → ((¬ l3 = 0 → Q (some (.long (M.2 34 1))) M) ∧ (¬ (¬ l3 = 0) → Q (some (.long (M.2 34 0))) M))) ∧ (¬ (¬ s0 = 0) → Q (some (.long (-1000000001 : Int64))) M))) :
    P 49 22 [(0, .ref 0), (3, .int l3)] [.int s0] M Q := by
  exact qRun_ok hG (ops := qo_49) (cuts := qc_sa_variance) rfl 37 22 _ _ _ _ hV
def qc_sa_deviation : List (Nat × List Nat) := [(2, [0, 1, 2]), (5, [0, 1, 2]), (14, [0]), (17, [0]), (24, []), (25, [])]
theorem v_sa_deviation_0 (hG : qGood Ls xs P) {l1 l2 : Int32} {M : qMem} {Q : qPost}
    (hV : (P 59 0 [(0, .int l1)] [] M (fun v M' => P 50 2 [(0, .ref 0), (1, .int l1), (2, .int l2)] (v.toList ++ []) M' Q))) :
    P 50 0 [(0, .ref 0), (1, .int l1), (2, .int l2)] [] M Q := by
  exact qRun_ok hG (ops := qo_50) (cuts := qc_sa_deviation) rfl 28 0 _ _ _ _ hV
theorem v_sa_deviation_2 (hG : qGood Ls xs P) {l1 l2 s0 : Int32} {M : qMem} {Q : qPost}
    (hV : ((s0 = 0 → Q (some (.long (-1000000002 : Int64))) M) ∧ (¬ (s0 = 0) → (P 58 0 [(0, .int l2)] [] M (fun v M' => P 50 5 [(0, .ref 0), (1, .int l1), (2, .int l2)] (v.toList ++ []) M' Q))))) :
    P 50 2 [(0, .ref 0), (1, .int l1), (2, .int l2)] [.int s0] M Q := by
  exact qRun_ok hG (ops := qo_50) (cuts := qc_sa_deviation) rfl 28 2 _ _ _ _ hV
theorem v_sa_deviation_5 (hG : qGood Ls xs P) {l1 l2 s0 : Int32} {M : qMem} {Q : qPost}
    (hV : ((¬ s0 = 0 → (P 66 0 [(0, .ref 0), (1, .int l1), (2, .int l2), (3, .ref 34)] [] M (fun v M' => P 50 14 [(0, .ref 0)] (v.toList ++ []) M' Q))) ∧ (¬ (¬ s0 = 0) → Q (some (.long (-1000000002 : Int64))) M))) :
    P 50 5 [(0, .ref 0), (1, .int l1), (2, .int l2)] [.int s0] M Q := by
  exact qRun_ok hG (ops := qo_50) (cuts := qc_sa_deviation) rfl 28 5 _ _ _ _ hV
theorem v_sa_deviation_14 (hG : qGood Ls xs P) {M : qMem} {Q : qPost}
    (hV : (P 0 0 [(0, .ref 34)] [] M (fun v M' => P 50 17 [(0, .ref 0)] (v.toList ++ []) M' Q))) :
    P 50 14 [(0, .ref 0)] [] M Q := by
  exact qRun_ok hG (ops := qo_50) (cuts := qc_sa_deviation) rfl 28 14 _ _ _ _ hV
theorem v_sa_deviation_17 (hG : qGood Ls xs P) {s0 : Int32} {M : qMem} {Q : qPost}
    (hV : ((¬ s0 = 0 → (P 4 0 [(0, .ref 34), (1, .long (1000000 : Int64))] [] M (fun v M' => P 50 24 [] (v.toList ++ []) M' Q))) ∧ (¬ (¬ s0 = 0) → Q (some (.long (-1000000001 : Int64))) M))) :
    P 50 17 [(0, .ref 0)] [.int s0] M Q := by
  exact qRun_ok hG (ops := qo_50) (cuts := qc_sa_deviation) rfl 28 17 _ _ _ _ hV
theorem v_sa_deviation_24 (hG : qGood Ls xs P) {s0 : Int64} {M : qMem} {Q : qPost}
    (hV : (P 69 0 [(0, .long s0)] [] M (fun v M' => P 50 25 [] (v.toList ++ []) M' Q))) :
    P 50 24 [] [.long s0] M Q := by
  exact qRun_ok hG (ops := qo_50) (cuts := qc_sa_deviation) rfl 28 24 _ _ _ _ hV
theorem v_sa_deviation_25 (hG : qGood Ls xs P) {s0 : Int64} {M : qMem} {Q : qPost}
    (hV : Q (some (.long s0)) M) :
    P 50 25 [] [.long s0] M Q := by
  exact qRun_ok hG (ops := qo_50) (cuts := qc_sa_deviation) rfl 28 25 _ _ _ _ hV
def qc_sa_compare : List (Nat × List Nat) := [(2, [0, 1, 2, 3]), (5, [0, 1, 2, 3]), (8, [0, 1, 2, 3]), (17, [0, 1, 3]), (23, [0]), (26, [0]), (30, [0]), (40, [])]
set_option maxRecDepth 100000 in
theorem v_sa_compare_0 (hG : qGood Ls xs P) {l1 l2 l3 : Int32} {M : qMem} {Q : qPost}
    (hV : (P 59 0 [(0, .int l1)] [] M (fun v M' => P 51 2 [(0, .ref 0), (1, .int l1), (2, .int l2), (3, .int l3)] (v.toList ++ []) M' Q))) :
    P 51 0 [(0, .ref 0), (1, .int l1), (2, .int l2), (3, .int l3)] [] M Q := by
  exact qRun_ok hG (ops := qo_51) (cuts := qc_sa_compare) rfl 53 0 _ _ _ _ hV
set_option maxRecDepth 100000 in
theorem v_sa_compare_2 (hG : qGood Ls xs P) {l1 l2 l3 s0 : Int32} {M : qMem} {Q : qPost}
    (hV : ((s0 = 0 → Q (some (.int (-1000000002 : Int32))) M) ∧ (¬ (s0 = 0) → (P 58 0 [(0, .int l2)] [] M (fun v M' => P 51 5 [(0, .ref 0), (1, .int l1), (2, .int l2), (3, .int l3)] (v.toList ++ []) M' Q))))) :
    P 51 2 [(0, .ref 0), (1, .int l1), (2, .int l2), (3, .int l3)] [.int s0] M Q := by
  exact qRun_ok hG (ops := qo_51) (cuts := qc_sa_compare) rfl 53 2 _ _ _ _ hV
set_option maxRecDepth 100000 in
theorem v_sa_compare_5 (hG : qGood Ls xs P) {l1 l2 l3 s0 : Int32} {M : qMem} {Q : qPost}
    (hV : ((s0 = 0 → Q (some (.int (-1000000002 : Int32))) M) ∧ (¬ (s0 = 0) → (P 58 0 [(0, .int l3)] [] M (fun v M' => P 51 8 [(0, .ref 0), (1, .int l1), (2, .int l2), (3, .int l3)] (v.toList ++ []) M' Q))))) :
    P 51 5 [(0, .ref 0), (1, .int l1), (2, .int l2), (3, .int l3)] [.int s0] M Q := by
  exact qRun_ok hG (ops := qo_51) (cuts := qc_sa_compare) rfl 53 5 _ _ _ _ hV
set_option maxRecDepth 100000 in
theorem v_sa_compare_8 (hG : qGood Ls xs P) {l1 l2 l3 s0 : Int32} {M : qMem} {Q : qPost}
    (hV : ((¬ s0 = 0 → (P 66 0 [(0, .ref 0), (1, .int l1), (2, .int l2), (3, .ref 34)] [] M (fun v M' => P 51 17 [(0, .ref 0), (1, .int l1), (3, .int l3)] (v.toList ++ []) M' Q))) ∧ (¬ (¬ s0 = 0) → Q (some (.int (-1000000002 : Int32))) M))) :
    P 51 8 [(0, .ref 0), (1, .int l1), (2, .int l2), (3, .int l3)] [.int s0] M Q := by
  exact qRun_ok hG (ops := qo_51) (cuts := qc_sa_compare) rfl 53 8 _ _ _ _ hV
set_option maxRecDepth 100000 in
theorem v_sa_compare_17 (hG : qGood Ls xs P) {l1 l3 : Int32} {M : qMem} {Q : qPost}
    (hV : (P 66 0 [(0, .ref 0), (1, .int l1), (2, .int l3), (3, .ref 35)] [] M (fun v M' => P 51 23 [(0, .ref 0)] (v.toList ++ []) M' Q))) :
    P 51 17 [(0, .ref 0), (1, .int l1), (3, .int l3)] [] M Q := by
  exact qRun_ok hG (ops := qo_51) (cuts := qc_sa_compare) rfl 53 17 _ _ _ _ hV
set_option maxRecDepth 100000 in
theorem v_sa_compare_23 (hG : qGood Ls xs P) {M : qMem} {Q : qPost}
    (hV : (P 0 0 [(0, .ref 34)] [] M (fun v M' => P 51 26 [(0, .ref 0)] (v.toList ++ []) M' Q))) :
    P 51 23 [(0, .ref 0)] [] M Q := by
  exact qRun_ok hG (ops := qo_51) (cuts := qc_sa_compare) rfl 53 23 _ _ _ _ hV
set_option maxRecDepth 100000 in
theorem v_sa_compare_26 (hG : qGood Ls xs P) {s0 : Int32} {M : qMem} {Q : qPost}
    (hV : ((s0 = 0 → Q (some (.int (-1000000001 : Int32))) M) ∧ (¬ (s0 = 0) → (P 0 0 [(0, .ref 35)] [] M (fun v M' => P 51 30 [(0, .ref 0)] (v.toList ++ []) M' Q))))) :
    P 51 26 [(0, .ref 0)] [.int s0] M Q := by
  exact qRun_ok hG (ops := qo_51) (cuts := qc_sa_compare) rfl 53 26 _ _ _ _ hV
set_option maxRecDepth 100000 in
theorem v_sa_compare_30 (hG : qGood Ls xs P) {s0 : Int32} {M : qMem} {Q : qPost}
    (hV : ((¬ s0 = 0 → (P 3 0 [(0, .ref 34), (1, .long (1 : Int64)), (3, .ref 35), (4, .long (1 : Int64))] [] M (fun v M' => P 51 40 [] (v.toList ++ []) M' Q))) ∧ (¬ (¬ s0 = 0) → Q (some (.int (-1000000001 : Int32))) M))) :
    P 51 30 [(0, .ref 0)] [.int s0] M Q := by
  exact qRun_ok hG (ops := qo_51) (cuts := qc_sa_compare) rfl 53 30 _ _ _ _ hV
set_option maxRecDepth 100000 in
theorem v_sa_compare_40 (hG : qGood Ls xs P) {s0 : Int32} {M : qMem} {Q : qPost}
    (hV : ((¬ s0 = 0 → ((0 ≤ s0 → Q (some (.int (2 : Int32))) M) ∧ (¬ (0 ≤ s0) → Q (some (.int (1 : Int32))) M))) ∧ (¬ (¬ s0 = 0) → Q (some (.int (0 : Int32))) M))) :
    P 51 40 [] [.int s0] M Q := by
  exact qRun_ok hG (ops := qo_51) (cuts := qc_sa_compare) rfl 53 40 _ _ _ _ hV
def qc_sa_best : List (Nat × List Nat) := [(2, [0, 1]), (9, [0, 1, 2, 3]), (18, [0, 1, 2, 3]), (21, [0, 1, 2, 3]), (32, [0, 1, 2, 3]), (38, [0, 1, 3])]
set_option maxRecDepth 100000 in
theorem v_sa_best_0 (hG : qGood Ls xs P) {l1 : Int32} {M : qMem} {Q : qPost}
    (hV : (P 59 0 [(0, .int l1)] [] M (fun v M' => P 52 2 [(0, .ref 0), (1, .int l1)] (v.toList ++ []) M' Q))) :
    P 52 0 [(0, .ref 0), (1, .int l1)] [] M Q := by
  exact qRun_ok hG (ops := qo_52) (cuts := qc_sa_best) rfl 46 0 _ _ _ _ hV
set_option maxRecDepth 100000 in
theorem v_sa_best_2 (hG : qGood Ls xs P) {l1 s0 : Int32} {M : qMem} {Q : qPost}
    (hV : ((¬ s0 = 0 → (P 52 9 [(0, .ref 0), (1, .int l1), (2, .int (-1000000001 : Int32)), (3, .int (1 : Int32))] [] M Q)) ∧ (¬ (¬ s0 = 0) → Q (some (.int (-1000000002 : Int32))) M))) :
    P 52 2 [(0, .ref 0), (1, .int l1)] [.int s0] M Q := by
  exact qRun_ok hG (ops := qo_52) (cuts := qc_sa_best) rfl 46 2 _ _ _ _ hV
set_option maxRecDepth 100000 in
theorem v_sa_best_9 (hG : qGood Ls xs P) {l1 l2 l3 : Int32} {M : qMem} {Q : qPost}
    (hV : (((31 : Int32) < l3 → Q (some (.int l2)) M) ∧ (¬ ((31 : Int32) < l3) → (P 66 0 [(0, .ref 0), (1, .int l1), (2, .int l3), (3, .ref 34)] [] M (fun v M' => P 52 18 [(0, .ref 0), (1, .int l1), (2, .int l2), (3, .int l3)] (v.toList ++ []) M' Q))))) :
    P 52 9 [(0, .ref 0), (1, .int l1), (2, .int l2), (3, .int l3)] [] M Q := by
  exact qRun_ok hG (ops := qo_52) (cuts := qc_sa_best) rfl 46 9 _ _ _ _ hV
set_option maxRecDepth 100000 in
theorem v_sa_best_18 (hG : qGood Ls xs P) {l1 l2 l3 : Int32} {M : qMem} {Q : qPost}
    (hV : (P 0 0 [(0, .ref 34)] [] M (fun v M' => P 52 21 [(0, .ref 0), (1, .int l1), (2, .int l2), (3, .int l3)] (v.toList ++ []) M' Q))) :
    P 52 18 [(0, .ref 0), (1, .int l1), (2, .int l2), (3, .int l3)] [] M Q := by
  exact qRun_ok hG (ops := qo_52) (cuts := qc_sa_best) rfl 46 18 _ _ _ _ hV
set_option maxRecDepth 100000 in
theorem v_sa_best_21 (hG : qGood Ls xs P) {l1 l2 l3 s0 : Int32} {M : qMem} {Q : qPost}
    (hV : ((s0 = 0 → (P 52 9 [(0, .ref 0), (1, .int l1), (2, .int l2), (3, .int (l3 + (1 : Int32)))] [] M Q)) ∧ (¬ (s0 = 0) → ((l2 = (-1000000001 : Int32) → (P 2 0 [(0, .ref 35), (1, .ref 34)] [] M (fun v M' => P 52 38 [(0, .ref 0), (1, .int l1), (3, .int l3)] (v.toList ++ []) M' Q))) ∧ (¬ (l2 = (-1000000001 : Int32)) → (P 3 0 [(0, .ref 34), (1, .long (1 : Int64)), (3, .ref 35), (4, .long (1 : Int64))] [] M (fun v M' => P 52 32 [(0, .ref 0), (1, .int l1), (2, .int l2), (3, .int l3)] (v.toList ++ []) M' Q))))))) :
    P 52 21 [(0, .ref 0), (1, .int l1), (2, .int l2), (3, .int l3)] [.int s0] M Q := by
  exact qRun_ok hG (ops := qo_52) (cuts := qc_sa_best) rfl 46 21 _ _ _ _ hV
set_option maxRecDepth 100000 in
theorem v_sa_best_38 (hG : qGood Ls xs P) {l1 l3 : Int32} {M : qMem} {Q : qPost}
    (hV : (P 52 9 [(0, .ref 0), (1, .int l1), (2, .int l3), (3, .int (l3 + (1 : Int32)))] [] M Q)) :
    P 52 38 [(0, .ref 0), (1, .int l1), (3, .int l3)] [] M Q := by
  exact qRun_ok hG (ops := qo_52) (cuts := qc_sa_best) rfl 46 38 _ _ _ _ hV
set_option maxRecDepth 100000 in
theorem v_sa_best_32 (hG : qGood Ls xs P) {l1 l2 l3 s0 : Int32} {M : qMem} {Q : qPost}
    (hV : ((0 ≤ s0 → (P 52 9 [(0, .ref 0), (1, .int l1), (2, .int l2), (3, .int (l3 + (1 : Int32)))] [] M Q)) ∧ (¬ (0 ≤ s0) → (P 2 0 [(0, .ref 35), (1, .ref 34)] [] M (fun v M' => P 52 38 [(0, .ref 0), (1, .int l1), (3, .int l3)] (v.toList ++ []) M' Q))))) :
    P 52 32 [(0, .ref 0), (1, .int l1), (2, .int l2), (3, .int l3)] [.int s0] M Q := by
  exact qRun_ok hG (ops := qo_52) (cuts := qc_sa_best) rfl 46 32 _ _ _ _ hV
def qc_sa_keep : List (Nat × List Nat) := [(3, [0]), (13, [0, 2]), (19, [])]
theorem v_sa_keep_0 (hG : qGood Ls xs P) {l1 : Int32} {M : qMem} {Q : qPost}
    (hV : (P 60 0 [(0, .ref 0), (1, .int l1)] [] M (fun v M' => P 53 3 [(0, .ref 0)] (v.toList ++ []) M' Q))) :
    P 53 0 [(0, .ref 0), (1, .int l1)] [] M Q := by
  exact qRun_ok hG (ops := qo_53) (cuts := qc_sa_keep) rfl 22 0 _ _ _ _ hV
theorem v_sa_keep_3 (hG : qGood Ls xs P) {ks0 : Nat} {M : qMem} {Q : qPost} (hks0 : qIm ks0)
    (hV : (P 18 0 [(0, .ref (rf ks0 0)), (1, .ref 1)] [] M (fun v M' => P 53 13 [(0, .ref 0), (2, .ref ks0)] (v.toList ++ []) M' Q))) :
    P 53 3 [(0, .ref 0)] [.ref ks0] M Q := by
  refine qRun_ok hG (ops := qo_53) (cuts := qc_sa_keep) rfl 22 3 _ _ _ _ ?_
  have hF : bif Nat.beq (shT ks0) 2 then bif Nat.beq (shT (rf ks0 0)) 4 then (P 18 0 [(0, .ref (rf ks0 0)), (1, .ref 1)] [] M (fun v M' => P 53 13 [(0, .ref 0), (2, .ref ks0)] (v.toList ++ []) M' Q)) else False else False := by
    (try rw [hks0.1])
    (try rw [hks0.2.1])
    exact hV
  exact hF
theorem v_sa_keep_3n (hG : qGood Ls xs P) {M : qMem} {Q : qPost}
    (hV : Q (some (.int (-1000000002 : Int32))) M) :
    P 53 3 [(0, .ref 0)] [.null] M Q := by
  exact qRun_ok hG (ops := qo_53) (cuts := qc_sa_keep) rfl 22 3 _ _ _ _ hV
theorem v_sa_keep_13 (hG : qGood Ls xs P) {ks0 : Nat} {M : qMem} {Q : qPost} (hks0 : qIm ks0)
    (hV : (narrow .boolean (.int (1 : Int32)) = .int (1 : Int32) ∧ (P 10 0 [(0, .ref 1)] [] (pI M ks0 1 (1 : Int32)) (fun v M' => P 53 19 [] (v.toList ++ []) M' Q)))) :
    P 53 13 [(0, .ref 0), (2, .ref ks0)] [] M Q := by
  refine qRun_ok hG (ops := qo_53) (cuts := qc_sa_keep) rfl 22 13 _ _ _ _ ?_
  have hF : bif Nat.beq (shT ks0) 2 then (narrow .boolean (.int (1 : Int32)) = .int (1 : Int32) ∧ (P 10 0 [(0, .ref 1)] [] (pI M ks0 1 (1 : Int32)) (fun v M' => P 53 19 [] (v.toList ++ []) M' Q))) else False := by
    (try rw [hks0.1])
    (try rw [hks0.2.1])
    exact hV
  exact hF
theorem v_sa_keep_19 (hG : qGood Ls xs P) {s0 : Int32} {M : qMem} {Q : qPost}
    (hV : Q (some (.int s0)) M) :
    P 53 19 [] [.int s0] M Q := by
  exact qRun_ok hG (ops := qo_53) (cuts := qc_sa_keep) rfl 22 19 _ _ _ _ hV
def qc_sa_back : List (Nat × List Nat) := [(3, [0]), (18, [0, 2]), (23, [0]), (26, [])]
theorem v_sa_back_0 (hG : qGood Ls xs P) {l1 : Int32} {M : qMem} {Q : qPost}
    (hV : (P 60 0 [(0, .ref 0), (1, .int l1)] [] M (fun v M' => P 54 3 [(0, .ref 0)] (v.toList ++ []) M' Q))) :
    P 54 0 [(0, .ref 0), (1, .int l1)] [] M Q := by
  exact qRun_ok hG (ops := qo_54) (cuts := qc_sa_back) rfl 29 0 _ _ _ _ hV
theorem v_sa_back_3 (hG : qGood Ls xs P) {ks0 : Nat} {M : qMem} {Q : qPost} (hks0 : qIm ks0)
    (hV : ((¬ (M.1 ks0 1) = 0 → (P 7 0 [(0, .ref 6), (1, .ref 1)] [] M (fun v M' => P 54 18 [(0, .ref 0), (2, .ref ks0)] (v.toList ++ []) M' Q))) ∧ (¬ (¬ (M.1 ks0 1) = 0) → Q (some (.int (-1000000003 : Int32))) M))) :
    P 54 3 [(0, .ref 0)] [.ref ks0] M Q := by
  refine qRun_ok hG (ops := qo_54) (cuts := qc_sa_back) rfl 29 3 _ _ _ _ ?_
  have hF : bif Nat.beq (shT ks0) 2 then ((¬ (M.1 ks0 1) = 0 → (P 7 0 [(0, .ref 6), (1, .ref 1)] [] M (fun v M' => P 54 18 [(0, .ref 0), (2, .ref ks0)] (v.toList ++ []) M' Q))) ∧ (¬ (¬ (M.1 ks0 1) = 0) → Q (some (.int (-1000000003 : Int32))) M)) else False := by
    (try rw [hks0.1])
    (try rw [hks0.2.1])
    exact hV
  exact hF
theorem v_sa_back_3n (hG : qGood Ls xs P) {M : qMem} {Q : qPost}
    (hV : Q (some (.int (-1000000002 : Int32))) M) :
    P 54 3 [(0, .ref 0)] [.null] M Q := by
  exact qRun_ok hG (ops := qo_54) (cuts := qc_sa_back) rfl 29 3 _ _ _ _ hV
theorem v_sa_back_18 (hG : qGood Ls xs P) {ks0 : Nat} {M : qMem} {Q : qPost} (hks0 : qIm ks0)
    (hV : (P 18 0 [(0, .ref 1), (1, .ref (rf ks0 0))] [] M (fun v M' => P 54 23 [(0, .ref 0)] (v.toList ++ []) M' Q))) :
    P 54 18 [(0, .ref 0), (2, .ref ks0)] [] M Q := by
  refine qRun_ok hG (ops := qo_54) (cuts := qc_sa_back) rfl 29 18 _ _ _ _ ?_
  have hF : bif Nat.beq (shT ks0) 2 then (P 18 0 [(0, .ref 1), (1, .ref (rf ks0 0))] [] M (fun v M' => P 54 23 [(0, .ref 0)] (v.toList ++ []) M' Q)) else False := by
    (try rw [hks0.1])
    (try rw [hks0.2.1])
    exact hV
  exact hF
theorem v_sa_back_23 (hG : qGood Ls xs P) {M : qMem} {Q : qPost}
    (hV : (P 10 0 [(0, .ref 1)] [] M (fun v M' => P 54 26 [] (v.toList ++ []) M' Q))) :
    P 54 23 [(0, .ref 0)] [] M Q := by
  exact qRun_ok hG (ops := qo_54) (cuts := qc_sa_back) rfl 29 23 _ _ _ _ hV
theorem v_sa_back_26 (hG : qGood Ls xs P) {s0 : Int32} {M : qMem} {Q : qPost}
    (hV : Q (some (.int s0)) M) :
    P 54 26 [] [.int s0] M Q := by
  exact qRun_ok hG (ops := qo_54) (cuts := qc_sa_back) rfl 29 26 _ _ _ _ hV
def qc_sa_isPhase : List (Nat × List Nat) := []
theorem v_sa_isPhase_0 (hG : qGood Ls xs P) {l0 : Int64} {M : qMem} {Q : qPost}
    (hV : (((lg_cmp l0 (-99999 : Int64)) < 0 → (narrow .boolean (.int (0 : Int32)) = .int (0 : Int32) ∧ Q (some (.int (0 : Int32))) M)) ∧ (¬ ((lg_cmp l0 (-99999 : Int64)) < 0) → ((0 < (lg_cmp l0 (99999 : Int64)) → (narrow .boolean (.int (0 : Int32)) = .int (0 : Int32) ∧ Q (some (.int (0 : Int32))) M)) ∧ (¬ (0 < (lg_cmp l0 (99999 : Int64))) → (narrow .boolean (.int (1 : Int32)) = .int (1 : Int32) ∧ Q (some (.int (1 : Int32))) M)))))) :
    P 55 0 [(0, .long l0)] [] M Q := by
  exact qRun_ok hG (ops := qo_55) (cuts := qc_sa_isPhase) rfl 14 0 _ _ _ _ hV
def qc_sa_isLimit : List (Nat × List Nat) := []
theorem v_sa_isLimit_0 (hG : qGood Ls xs P) {l0 : Int32} {M : qMem} {Q : qPost}
    (hV : ((l0 < 0 → (narrow .boolean (.int (0 : Int32)) = .int (0 : Int32) ∧ Q (some (.int (0 : Int32))) M)) ∧ (¬ (l0 < 0) → (((99999 : Int32) < l0 → (narrow .boolean (.int (0 : Int32)) = .int (0 : Int32) ∧ Q (some (.int (0 : Int32))) M)) ∧ (¬ ((99999 : Int32) < l0) → (narrow .boolean (.int (1 : Int32)) = .int (1 : Int32) ∧ Q (some (.int (1 : Int32))) M)))))) :
    P 56 0 [(0, .int l0)] [] M Q := by
  exact qRun_ok hG (ops := qo_56) (cuts := qc_sa_isLimit) rfl 11 0 _ _ _ _ hV
def qc_sa_isOrder : List (Nat × List Nat) := []
theorem v_sa_isOrder_0 (hG : qGood Ls xs P) {l0 : Int32} {M : qMem} {Q : qPost}
    (hV : ((l0 < (2 : Int32) → (narrow .boolean (.int (0 : Int32)) = .int (0 : Int32) ∧ Q (some (.int (0 : Int32))) M)) ∧ (¬ (l0 < (2 : Int32)) → (((4 : Int32) < l0 → (narrow .boolean (.int (0 : Int32)) = .int (0 : Int32) ∧ Q (some (.int (0 : Int32))) M)) ∧ (¬ ((4 : Int32) < l0) → (narrow .boolean (.int (1 : Int32)) = .int (1 : Int32) ∧ Q (some (.int (1 : Int32))) M)))))) :
    P 57 0 [(0, .int l0)] [] M Q := by
  exact qRun_ok hG (ops := qo_57) (cuts := qc_sa_isOrder) rfl 12 0 _ _ _ _ hV
def qc_sa_isM : List (Nat × List Nat) := []
theorem v_sa_isM_0 (hG : qGood Ls xs P) {l0 : Int32} {M : qMem} {Q : qPost}
    (hV : ((l0 < (1 : Int32) → (narrow .boolean (.int (0 : Int32)) = .int (0 : Int32) ∧ Q (some (.int (0 : Int32))) M)) ∧ (¬ (l0 < (1 : Int32)) → (((31 : Int32) < l0 → (narrow .boolean (.int (0 : Int32)) = .int (0 : Int32) ∧ Q (some (.int (0 : Int32))) M)) ∧ (¬ ((31 : Int32) < l0) → (narrow .boolean (.int (1 : Int32)) = .int (1 : Int32) ∧ Q (some (.int (1 : Int32))) M)))))) :
    P 58 0 [(0, .int l0)] [] M Q := by
  exact qRun_ok hG (ops := qo_58) (cuts := qc_sa_isM) rfl 12 0 _ _ _ _ hV
def qc_sa_isVariance : List (Nat × List Nat) := []
theorem v_sa_isVariance_0 (hG : qGood Ls xs P) {l0 : Int32} {M : qMem} {Q : qPost}
    (hV : ((l0 < 0 → (narrow .boolean (.int (0 : Int32)) = .int (0 : Int32) ∧ Q (some (.int (0 : Int32))) M)) ∧ (¬ (l0 < 0) → (((3 : Int32) < l0 → (narrow .boolean (.int (0 : Int32)) = .int (0 : Int32) ∧ Q (some (.int (0 : Int32))) M)) ∧ (¬ ((3 : Int32) < l0) → (narrow .boolean (.int (1 : Int32)) = .int (1 : Int32) ∧ Q (some (.int (1 : Int32))) M)))))) :
    P 59 0 [(0, .int l0)] [] M Q := by
  exact qRun_ok hG (ops := qo_59) (cuts := qc_sa_isVariance) rfl 11 0 _ _ _ _ hV
def qc_sa_imageAt : List (Nat × List Nat) := []
theorem v_sa_imageAt_0 (hG : qGood Ls xs P) {l1 : Int32} {M : qMem} {Q : qPost}
    (hV : ((l1 < 0 → Q (some (.null)) M) ∧ (¬ (l1 < 0) → ((l1 < (Int32.ofNat 2) → (vp_in l1 2 ∧ Q (some (.ref (rf 24 l1.toNatClampNeg))) M)) ∧ (¬ (l1 < (Int32.ofNat 2)) → Q (some (.null)) M))))) :
    P 60 0 [(0, .ref 0), (1, .int l1)] [] M Q := by
  exact qRun_ok hG (ops := qo_60) (cuts := qc_sa_imageAt) rfl 16 0 _ _ _ _ hV
def qc_sa_subtractAmounts : List (Nat × List Nat) := [(2, [0]), (10, [0]), (14, [0, 1, 2]), (18, [0, 1, 2]), (28, [0, 1, 2]), (43, [0, 1, 2]), (51, [0, 1, 2])]
set_option maxRecDepth 100000 in
theorem v_sa_subtractAmounts_0 (hG : qGood Ls xs P) {M : qMem} {Q : qPost}
    (hV : (P 62 0 [(0, .ref 0)] [] M (fun v M' => P 61 2 [(0, .ref 0)] (v.toList ++ []) M' Q))) :
    P 61 0 [(0, .ref 0)] [] M Q := by
  exact qRun_ok hG (ops := qo_61) (cuts := qc_sa_subtractAmounts) rfl 58 0 _ _ _ _ hV
set_option maxRecDepth 100000 in
theorem v_sa_subtractAmounts_2 (hG : qGood Ls xs P) {s0 : Int32} {M : qMem} {Q : qPost}
    (hV : ((¬ s0 = 0 → (P 7 0 [(0, .ref 6), (1, .ref 1)] [] M (fun v M' => P 61 10 [(0, .ref 0)] (v.toList ++ []) M' Q))) ∧ (¬ (¬ s0 = 0) → Q (some (.int (-1000000005 : Int32))) M))) :
    P 61 2 [(0, .ref 0)] [.int s0] M Q := by
  exact qRun_ok hG (ops := qo_61) (cuts := qc_sa_subtractAmounts) rfl 58 2 _ _ _ _ hV
set_option maxRecDepth 100000 in
theorem v_sa_subtractAmounts_10 (hG : qGood Ls xs P) {M : qMem} {Q : qPost}
    (hV : (P 61 14 [(0, .ref 0), (1, .int (0 : Int32)), (2, .int (0 : Int32))] [] M Q)) :
    P 61 10 [(0, .ref 0)] [] M Q := by
  exact qRun_ok hG (ops := qo_61) (cuts := qc_sa_subtractAmounts) rfl 58 10 _ _ _ _ hV
set_option maxRecDepth 100000 in
theorem v_sa_subtractAmounts_14 (hG : qGood Ls xs P) {l1 l2 : Int32} {M : qMem} {Q : qPost}
    (hV : (P 10 0 [(0, .ref 1)] [] M (fun v M' => P 61 18 [(0, .ref 0), (1, .int l1), (2, .int l2)] (v.toList ++ [.int l2]) M' Q))) :
    P 61 14 [(0, .ref 0), (1, .int l1), (2, .int l2)] [] M Q := by
  exact qRun_ok hG (ops := qo_61) (cuts := qc_sa_subtractAmounts) rfl 58 14 _ _ _ _ hV
set_option maxRecDepth 100000 in
theorem v_sa_subtractAmounts_18 (hG : qGood Ls xs P) {l1 l2 s0 s1 : Int32} {M : qMem} {Q : qPost}
    (hV : ((s0 ≤ s1 → Q (some (.int l1)) M) ∧ (¬ (s0 ≤ s1) → (((Int32.ofNat 64) ≤ l2 → Q (some (.int l1)) M) ∧ (¬ ((Int32.ofNat 64) ≤ l2) → (P 12 0 [(0, .ref 1), (1, .int l2)] [] M (fun v M' => P 61 28 [(0, .ref 0), (1, .int l1), (2, .int l2)] (v.toList ++ []) M' Q))))))) :
    P 61 18 [(0, .ref 0), (1, .int l1), (2, .int l2)] [.int s0, .int s1] M Q := by
  exact qRun_ok hG (ops := qo_61) (cuts := qc_sa_subtractAmounts) rfl 58 18 _ _ _ _ hV
set_option maxRecDepth 100000 in
theorem v_sa_subtractAmounts_28 (hG : qGood Ls xs P) {l1 l2 s0 : Int32} {M : qMem} {Q : qPost}
    (hV : ((s0 = 0 → (P 61 14 [(0, .ref 0), (1, .int l1), (2, .int (l2 + (1 : Int32)))] [] M Q)) ∧ (¬ (s0 = 0) → (vp_in l2 64 ∧ (((lg_cmp (M.2 5 l2.toNatClampNeg) (0 : Int64)) = 0 → (P 61 14 [(0, .ref 0), (1, .int l1), (2, .int (l2 + (1 : Int32)))] [] M Q)) ∧ (¬ ((lg_cmp (M.2 5 l2.toNatClampNeg) (0 : Int64)) = 0) → (P 13 0 [(0, .ref 1), (1, .int l2)] [] M (fun v M' => P 61 43 [(0, .ref 0), (1, .int l1), (2, .int l2)] (v.toList ++ [.int l2, .ref 1]) M' Q)))))))) :
    P 61 28 [(0, .ref 0), (1, .int l1), (2, .int l2)] [.int s0] M Q := by
  exact qRun_ok hG (ops := qo_61) (cuts := qc_sa_subtractAmounts) rfl 58 28 _ _ _ _ hV
set_option maxRecDepth 100000 in
theorem v_sa_subtractAmounts_43 (hG : qGood Ls xs P) {l1 l2 s0 s1 : Int32} {M : qMem} {Q : qPost}
    (hV : (vp_in l2 64 ∧ (P 14 0 [(0, .ref 1), (1, .int s1), (2, .int (s0.toInt64 - (M.2 5 l2.toNatClampNeg)).toInt32)] [] M (fun v M' => P 61 51 [(0, .ref 0), (1, .int l1), (2, .int l2)] (v.toList ++ []) M' Q)))) :
    P 61 43 [(0, .ref 0), (1, .int l1), (2, .int l2)] [.int s0, .int s1, .ref 1] M Q := by
  exact qRun_ok hG (ops := qo_61) (cuts := qc_sa_subtractAmounts) rfl 58 43 _ _ _ _ hV
set_option maxRecDepth 100000 in
theorem v_sa_subtractAmounts_51 (hG : qGood Ls xs P) {l1 l2 : Int32} {M : qMem} {Q : qPost}
    (hV : (P 61 14 [(0, .ref 0), (1, .int (l1 + (1 : Int32))), (2, .int (l2 + (1 : Int32)))] [] M Q)) :
    P 61 51 [(0, .ref 0), (1, .int l1), (2, .int l2)] [] M Q := by
  exact qRun_ok hG (ops := qo_61) (cuts := qc_sa_subtractAmounts) rfl 58 51 _ _ _ _ hV
def qc_sa_allStayPhases : List (Nat × List Nat) := [(2, [0, 1]), (6, [0, 1]), (16, [0, 1]), (21, [0, 1]), (28, [0, 1])]
theorem v_sa_allStayPhases_0 (hG : qGood Ls xs P) {M : qMem} {Q : qPost}
    (hV : (P 62 2 [(0, .ref 0), (1, .int (0 : Int32))] [] M Q)) :
    P 62 0 [(0, .ref 0)] [] M Q := by
  exact qRun_ok hG (ops := qo_62) (cuts := qc_sa_allStayPhases) rfl 37 0 _ _ _ _ hV
theorem v_sa_allStayPhases_2 (hG : qGood Ls xs P) {l1 : Int32} {M : qMem} {Q : qPost}
    (hV : (P 10 0 [(0, .ref 1)] [] M (fun v M' => P 62 6 [(0, .ref 0), (1, .int l1)] (v.toList ++ [.int l1]) M' Q))) :
    P 62 2 [(0, .ref 0), (1, .int l1)] [] M Q := by
  exact qRun_ok hG (ops := qo_62) (cuts := qc_sa_allStayPhases) rfl 37 2 _ _ _ _ hV
theorem v_sa_allStayPhases_6 (hG : qGood Ls xs P) {l1 s0 s1 : Int32} {M : qMem} {Q : qPost}
    (hV : ((s0 ≤ s1 → (narrow .boolean (.int (1 : Int32)) = .int (1 : Int32) ∧ Q (some (.int (1 : Int32))) M)) ∧ (¬ (s0 ≤ s1) → (((Int32.ofNat 64) ≤ l1 → (narrow .boolean (.int (1 : Int32)) = .int (1 : Int32) ∧ Q (some (.int (1 : Int32))) M)) ∧ (¬ ((Int32.ofNat 64) ≤ l1) → (P 12 0 [(0, .ref 1), (1, .int l1)] [] M (fun v M' => P 62 16 [(0, .ref 0), (1, .int l1)] (v.toList ++ []) M' Q))))))) :
    P 62 6 [(0, .ref 0), (1, .int l1)] [.int s0, .int s1] M Q := by
  exact qRun_ok hG (ops := qo_62) (cuts := qc_sa_allStayPhases) rfl 37 6 _ _ _ _ hV
theorem v_sa_allStayPhases_16 (hG : qGood Ls xs P) {l1 s0 : Int32} {M : qMem} {Q : qPost}
    (hV : ((s0 = 0 → (P 62 2 [(0, .ref 0), (1, .int (l1 + (1 : Int32)))] [] M Q)) ∧ (¬ (s0 = 0) → (P 13 0 [(0, .ref 1), (1, .int l1)] [] M (fun v M' => P 62 21 [(0, .ref 0), (1, .int l1)] (v.toList ++ []) M' Q))))) :
    P 62 16 [(0, .ref 0), (1, .int l1)] [.int s0] M Q := by
  exact qRun_ok hG (ops := qo_62) (cuts := qc_sa_allStayPhases) rfl 37 16 _ _ _ _ hV
theorem v_sa_allStayPhases_21 (hG : qGood Ls xs P) {l1 s0 : Int32} {M : qMem} {Q : qPost}
    (hV : (vp_in l1 64 ∧ (P 55 0 [(0, .long (s0.toInt64 - (M.2 5 l1.toNatClampNeg)))] [] M (fun v M' => P 62 28 [(0, .ref 0), (1, .int l1)] (v.toList ++ []) M' Q)))) :
    P 62 21 [(0, .ref 0), (1, .int l1)] [.int s0] M Q := by
  exact qRun_ok hG (ops := qo_62) (cuts := qc_sa_allStayPhases) rfl 37 21 _ _ _ _ hV
theorem v_sa_allStayPhases_28 (hG : qGood Ls xs P) {l1 s0 : Int32} {M : qMem} {Q : qPost}
    (hV : ((¬ s0 = 0 → (P 62 2 [(0, .ref 0), (1, .int (l1 + (1 : Int32)))] [] M Q)) ∧ (¬ (¬ s0 = 0) → (narrow .boolean (.int (0 : Int32)) = .int (0 : Int32) ∧ Q (some (.int (0 : Int32))) M)))) :
    P 62 28 [(0, .ref 0), (1, .int l1)] [.int s0] M Q := by
  exact qRun_ok hG (ops := qo_62) (cuts := qc_sa_allStayPhases) rfl 37 28 _ _ _ _ hV
def qc_sa_sumOfSecondDifferences : List (Nat × List Nat) := [(4, [0, 1, 3]), (8, [0, 1, 3]), (15, [0, 1, 3])]
theorem v_sa_sumOfSecondDifferences_0 (hG : qGood Ls xs P) {M : qMem} {Q : qPost}
    (hV : (P 63 4 [(0, .ref 0), (1, .long (0 : Int64)), (3, .int (0 : Int32))] [] M Q)) :
    P 63 0 [(0, .ref 0)] [] M Q := by
  exact qRun_ok hG (ops := qo_63) (cuts := qc_sa_sumOfSecondDifferences) rfl 30 0 _ _ _ _ hV
theorem v_sa_sumOfSecondDifferences_4 (hG : qGood Ls xs P) {l1 : Int64} {l3 : Int32} {M : qMem} {Q : qPost}
    (hV : (P 10 0 [(0, .ref 1)] [] M (fun v M' => P 63 8 [(0, .ref 0), (1, .long l1), (3, .int l3)] (v.toList ++ [.int l3]) M' Q))) :
    P 63 4 [(0, .ref 0), (1, .long l1), (3, .int l3)] [] M Q := by
  exact qRun_ok hG (ops := qo_63) (cuts := qc_sa_sumOfSecondDifferences) rfl 30 4 _ _ _ _ hV
theorem v_sa_sumOfSecondDifferences_8 (hG : qGood Ls xs P) {l1 : Int64} {l3 s0 s1 : Int32} {M : qMem} {Q : qPost}
    (hV : ((s0 ≤ s1 → Q (some (.long l1)) M) ∧ (¬ (s0 ≤ s1) → (P 29 0 [(0, .ref 1), (1, .int (2 : Int32)), (2, .int (1 : Int32)), (3, .int l3)] [] M (fun v M' => P 63 15 [(0, .ref 0), (1, .long l1), (3, .int l3)] (v.toList ++ []) M' Q))))) :
    P 63 8 [(0, .ref 0), (1, .long l1), (3, .int l3)] [.int s0, .int s1] M Q := by
  exact qRun_ok hG (ops := qo_63) (cuts := qc_sa_sumOfSecondDifferences) rfl 30 8 _ _ _ _ hV
theorem v_sa_sumOfSecondDifferences_15 (hG : qGood Ls xs P) {l1 : Int64} {l3 s0 : Int32} {M : qMem} {Q : qPost}
    (hV : ((s0 = (-1000000001 : Int32) → (P 63 4 [(0, .ref 0), (1, .long l1), (3, .int (l3 + (1 : Int32)))] [] M Q)) ∧ (¬ (s0 = (-1000000001 : Int32)) → (P 63 4 [(0, .ref 0), (1, .long (l1 + s0.toInt64)), (3, .int (l3 + (1 : Int32)))] [] M Q)))) :
    P 63 15 [(0, .ref 0), (1, .long l1), (3, .int l3)] [.int s0] M Q := by
  exact qRun_ok hG (ops := qo_63) (cuts := qc_sa_sumOfSecondDifferences) rfl 30 15 _ _ _ _ hV
def qc_sa_fillGap : List (Nat × List Nat) := [(2, [0, 1, 2, 3]), (16, [0, 1, 2, 3]), (18, [0, 1, 2, 3])]
theorem v_sa_fillGap_0 (hG : qGood Ls xs P) {l1 l2 : Int32} {M : qMem} {Q : qPost}
    (hV : (P 64 2 [(0, .ref 0), (1, .int l1), (2, .int l2), (3, .int l1)] [] M Q)) :
    P 64 0 [(0, .ref 0), (1, .int l1), (2, .int l2)] [] M Q := by
  exact qRun_ok hG (ops := qo_64) (cuts := qc_sa_fillGap) rfl 23 0 _ _ _ _ hV
theorem v_sa_fillGap_2 (hG : qGood Ls xs P) {l1 l2 l3 : Int32} {M : qMem} {Q : qPost}
    (hV : ((l2 ≤ l3 → Q none M) ∧ (¬ (l2 ≤ l3) → (P 26 0 [(0, .ref 1), (1, .int (l1 - (1 : Int32))), (2, .int l2), (3, .int l3)] [] M (fun v M' => P 64 16 [(0, .ref 0), (1, .int l1), (2, .int l2), (3, .int l3)] (v.toList ++ [.int l3, .ref 1]) M' Q))))) :
    P 64 2 [(0, .ref 0), (1, .int l1), (2, .int l2), (3, .int l3)] [] M Q := by
  exact qRun_ok hG (ops := qo_64) (cuts := qc_sa_fillGap) rfl 23 2 _ _ _ _ hV
theorem v_sa_fillGap_16 (hG : qGood Ls xs P) {s0 : Int64} {l1 l2 l3 s1 : Int32} {M : qMem} {Q : qPost}
    (hV : (P 14 0 [(0, .ref 1), (1, .int s1), (2, .int s0.toInt32)] [] M (fun v M' => P 64 18 [(0, .ref 0), (1, .int l1), (2, .int l2), (3, .int l3)] (v.toList ++ []) M' Q))) :
    P 64 16 [(0, .ref 0), (1, .int l1), (2, .int l2), (3, .int l3)] [.long s0, .int s1, .ref 1] M Q := by
  exact qRun_ok hG (ops := qo_64) (cuts := qc_sa_fillGap) rfl 23 16 _ _ _ _ hV
theorem v_sa_fillGap_18 (hG : qGood Ls xs P) {l1 l2 l3 : Int32} {M : qMem} {Q : qPost}
    (hV : (P 64 2 [(0, .ref 0), (1, .int l1), (2, .int l2), (3, .int (l3 + (1 : Int32)))] [] M Q)) :
    P 64 18 [(0, .ref 0), (1, .int l1), (2, .int l2), (3, .int l3)] [] M Q := by
  exact qRun_ok hG (ops := qo_64) (cuts := qc_sa_fillGap) rfl 23 18 _ _ _ _ hV
def qc_sa_greatestM : List (Nat × List Nat) := [(2, [0, 1]), (10, [0, 1])]
theorem v_sa_greatestM_0 (hG : qGood Ls xs P) {M : qMem} {Q : qPost}
    (hV : (P 65 2 [(0, .ref 0), (1, .int (31 : Int32))] [] M Q)) :
    P 65 0 [(0, .ref 0)] [] M Q := by
  exact qRun_ok hG (ops := qo_65) (cuts := qc_sa_greatestM) rfl 19 0 _ _ _ _ hV
theorem v_sa_greatestM_2 (hG : qGood Ls xs P) {l1 : Int32} {M : qMem} {Q : qPost}
    (hV : ((l1 < (1 : Int32) → Q (some (.int (0 : Int32))) M) ∧ (¬ (l1 < (1 : Int32)) → (P 28 0 [(0, .ref 1), (1, .int (2 : Int32)), (2, .int l1)] [] M (fun v M' => P 65 10 [(0, .ref 0), (1, .int l1)] (v.toList ++ []) M' Q))))) :
    P 65 2 [(0, .ref 0), (1, .int l1)] [] M Q := by
  exact qRun_ok hG (ops := qo_65) (cuts := qc_sa_greatestM) rfl 19 2 _ _ _ _ hV
theorem v_sa_greatestM_10 (hG : qGood Ls xs P) {l1 s0 : Int32} {M : qMem} {Q : qPost}
    (hV : ((s0 ≤ 0 → (P 65 2 [(0, .ref 0), (1, .int (l1 + (-1 : Int32)))] [] M Q)) ∧ (¬ (s0 ≤ 0) → Q (some (.int l1)) M))) :
    P 65 10 [(0, .ref 0), (1, .int l1)] [.int s0] M Q := by
  exact qRun_ok hG (ops := qo_65) (cuts := qc_sa_greatestM) rfl 19 10 _ _ _ _ hV
def qc_sa_measure : List (Nat × List Nat) := [(2, [0, 1, 2, 3]), (9, [0, 1, 2, 3, 4, 5, 7, 9]), (13, [0, 1, 2, 3, 4, 5, 7, 9]), (20, [0, 1, 2, 3, 4, 5, 7, 9]), (44, [7]), (47, [])]
set_option maxRecDepth 100000 in
theorem v_sa_measure_0 (hG : qGood Ls xs P) {k3 : Nat} {l1 l2 : Int32} {M : qMem} {Q : qPost} (hk3 : qFq k3)
    (hV : (P 67 0 [(0, .int l1)] [] M (fun v M' => P 66 2 [(0, .ref 0), (1, .int l1), (2, .int l2), (3, .ref k3)] (v.toList ++ []) M' Q))) :
    P 66 0 [(0, .ref 0), (1, .int l1), (2, .int l2), (3, .ref k3)] [] M Q := by
  exact qRun_ok hG (ops := qo_66) (cuts := qc_sa_measure) rfl 50 0 _ _ _ _ hV
set_option maxRecDepth 100000 in
theorem v_sa_measure_2 (hG : qGood Ls xs P) {k3 : Nat} {l1 l2 s0 : Int32} {M : qMem} {Q : qPost} (hk3 : qFq k3)
    (hV : (P 66 9 [(0, .ref 0), (1, .int l1), (2, .int l2), (3, .ref k3), (4, .int s0), (5, .long (0 : Int64)), (7, .long (0 : Int64)), (9, .int (0 : Int32))] [] M Q)) :
    P 66 2 [(0, .ref 0), (1, .int l1), (2, .int l2), (3, .ref k3)] [.int s0] M Q := by
  exact qRun_ok hG (ops := qo_66) (cuts := qc_sa_measure) rfl 50 2 _ _ _ _ hV
set_option maxRecDepth 100000 in
theorem v_sa_measure_9 (hG : qGood Ls xs P) {k3 : Nat} {l5 l7 : Int64} {l1 l2 l4 l9 : Int32} {M : qMem} {Q : qPost} (hk3 : qFq k3)
    (hV : (P 10 0 [(0, .ref 1)] [] M (fun v M' => P 66 13 [(0, .ref 0), (1, .int l1), (2, .int l2), (3, .ref k3), (4, .int l4), (5, .long l5), (7, .long l7), (9, .int l9)] (v.toList ++ [.int l9]) M' Q))) :
    P 66 9 [(0, .ref 0), (1, .int l1), (2, .int l2), (3, .ref k3), (4, .int l4), (5, .long l5), (7, .long l7), (9, .int l9)] [] M Q := by
  exact qRun_ok hG (ops := qo_66) (cuts := qc_sa_measure) rfl 50 9 _ _ _ _ hV
set_option maxRecDepth 100000 in
theorem v_sa_measure_13 (hG : qGood Ls xs P) {k3 : Nat} {l5 l7 : Int64} {l1 l2 l4 l9 s0 s1 : Int32} {M : qMem} {Q : qPost} (hk3 : qFq k3)
    (hV : ((s0 ≤ s1 → (P 68 0 [(0, .int l1), (1, .long l2.toInt64)] [] M (fun v M' => P 66 44 [(7, .long l7)] (v.toList ++ [.long l5, .ref k3]) M' Q))) ∧ (¬ (s0 ≤ s1) → (P 29 0 [(0, .ref 1), (1, .int l4), (2, .int l2), (3, .int l9)] [] M (fun v M' => P 66 20 [(0, .ref 0), (1, .int l1), (2, .int l2), (3, .ref k3), (4, .int l4), (5, .long l5), (7, .long l7), (9, .int l9)] (v.toList ++ []) M' Q))))) :
    P 66 13 [(0, .ref 0), (1, .int l1), (2, .int l2), (3, .ref k3), (4, .int l4), (5, .long l5), (7, .long l7), (9, .int l9)] [.int s0, .int s1] M Q := by
  exact qRun_ok hG (ops := qo_66) (cuts := qc_sa_measure) rfl 50 13 _ _ _ _ hV
set_option maxRecDepth 100000 in
theorem v_sa_measure_44 (hG : qGood Ls xs P) {k3 : Nat} {l7 s0 s1 : Int64} {M : qMem} {Q : qPost} (hk3 : qFq k3)
    (hV : (P 1 0 [(0, .ref k3), (1, .long s1), (3, .long (s0 * l7))] [] M (fun v M' => P 66 47 [] (v.toList ++ []) M' Q))) :
    P 66 44 [(7, .long l7)] [.long s0, .long s1, .ref k3] M Q := by
  refine qRun_ok hG (ops := qo_66) (cuts := qc_sa_measure) rfl 50 44 _ _ _ _ ?_
  have hF : bif Nat.beq (shT k3) 0 then (P 1 0 [(0, .ref k3), (1, .long s1), (3, .long (s0 * l7))] [] M (fun v M' => P 66 47 [] (v.toList ++ []) M' Q)) else False := by
    (try rw [hk3])
    exact hV
  exact hF
set_option maxRecDepth 100000 in
theorem v_sa_measure_20 (hG : qGood Ls xs P) {k3 : Nat} {l5 l7 : Int64} {l1 l2 l4 l9 s0 : Int32} {M : qMem} {Q : qPost} (hk3 : qFq k3)
    (hV : (((lg_cmp s0.toInt64 (-1000000001 : Int64)) = 0 → (P 66 9 [(0, .ref 0), (1, .int l1), (2, .int l2), (3, .ref k3), (4, .int l4), (5, .long l5), (7, .long l7), (9, .int (l9 + (1 : Int32)))] [] M Q)) ∧ (¬ ((lg_cmp s0.toInt64 (-1000000001 : Int64)) = 0) → (P 66 9 [(0, .ref 0), (1, .int l1), (2, .int l2), (3, .ref k3), (4, .int l4), (5, .long (l5 + (s0.toInt64 * s0.toInt64))), (7, .long (l7 + (1 : Int64))), (9, .int (l9 + (1 : Int32)))] [] M Q)))) :
    P 66 20 [(0, .ref 0), (1, .int l1), (2, .int l2), (3, .ref k3), (4, .int l4), (5, .long l5), (7, .long l7), (9, .int l9)] [.int s0] M Q := by
  exact qRun_ok hG (ops := qo_66) (cuts := qc_sa_measure) rfl 50 20 _ _ _ _ hV
set_option maxRecDepth 100000 in
theorem v_sa_measure_47 (hG : qGood Ls xs P) {M : qMem} {Q : qPost}
    (hV : Q none M) :
    P 66 47 [] [] M Q := by
  exact qRun_ok hG (ops := qo_66) (cuts := qc_sa_measure) rfl 50 47 _ _ _ _ hV
def qc_sa_orderFor : List (Nat × List Nat) := []
theorem v_sa_orderFor_0 (hG : qGood Ls xs P) {l0 : Int32} {M : qMem} {Q : qPost}
    (hV : ((¬ l0 = 0 → ((¬ l0 = (1 : Int32) → Q (some (.int (4 : Int32))) M) ∧ (¬ (¬ l0 = (1 : Int32)) → Q (some (.int (3 : Int32))) M))) ∧ (¬ (¬ l0 = 0) → Q (some (.int (2 : Int32))) M))) :
    P 67 0 [(0, .int l0)] [] M Q := by
  exact qRun_ok hG (ops := qo_67) (cuts := qc_sa_orderFor) rfl 13 0 _ _ _ _ hV
def qc_sa_divisorFor : List (Nat × List Nat) := []
theorem v_sa_divisorFor_0 (hG : qGood Ls xs P) {l1 : Int64} {l0 : Int32} {M : qMem} {Q : qPost}
    (hV : ((l0 = Int32.ofInt 0 → Q (some (.long (((2 : Int64) * l1) * l1))) M) ∧ (¬ (l0 = Int32.ofInt 0) → ((l0 = Int32.ofInt 2 → Q (some (.long (((((2 : Int64) * l1) * l1) * l1) * l1))) M) ∧ (¬ (l0 = Int32.ofInt 2) → Q (some (.long (((6 : Int64) * l1) * l1))) M))))) :
    P 68 0 [(0, .int l0), (1, .long l1)] [] M Q := by
  exact qRun_ok hG (ops := qo_68) (cuts := qc_sa_divisorFor) rfl 26 0 _ _ _ _ hV
def qc_sa_squareRoot : List (Nat × List Nat) := [(4, [0, 2, 4])]
theorem v_sa_squareRoot_0 (hG : qGood Ls xs P) {l0 : Int64} {M : qMem} {Q : qPost}
    (hV : (P 69 4 [(0, .long l0), (2, .long (0 : Int64)), (4, .int (30 : Int32))] [] M Q)) :
    P 69 0 [(0, .long l0)] [] M Q := by
  exact qRun_ok hG (ops := qo_69) (cuts := qc_sa_squareRoot) rfl 26 0 _ _ _ _ hV
theorem v_sa_squareRoot_4 (hG : qGood Ls xs P) {l0 l2 : Int64} {l4 : Int32} {M : qMem} {Q : qPost}
    (hV : ((l4 < 0 → Q (some (.long l2)) M) ∧ (¬ (l4 < 0) → ((0 < (lg_cmp ((l2 + ((1 : Int64) <<< (l4.toInt64 &&& 63))) * (l2 + ((1 : Int64) <<< (l4.toInt64 &&& 63)))) l0) → (P 69 4 [(0, .long l0), (2, .long l2), (4, .int (l4 + (-1 : Int32)))] [] M Q)) ∧ (¬ (0 < (lg_cmp ((l2 + ((1 : Int64) <<< (l4.toInt64 &&& 63))) * (l2 + ((1 : Int64) <<< (l4.toInt64 &&& 63)))) l0)) → (P 69 4 [(0, .long l0), (2, .long (l2 + ((1 : Int64) <<< (l4.toInt64 &&& 63)))), (4, .int (l4 + (-1 : Int32)))] [] M Q)))))) :
    P 69 4 [(0, .long l0), (2, .long l2), (4, .int l4)] [] M Q := by
  exact qRun_ok hG (ops := qo_69) (cuts := qc_sa_squareRoot) rfl 26 4 _ _ _ _ hV
end VC
