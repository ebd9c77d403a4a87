/-! what is to be shown, segment by segment: lw (printed by wip/genvc.py) -/
section VC
variable {Ls : Nat} {xs : Nat → Int32} {P : qSem}
def qc_lw_cell : List (Nat × List Nat) := []
theorem v_lw_cell_0 (hG : qGood Ls xs P) {l1 : Int32} {M : qMem} {Q : qPost}
    (hV : (((Int32.ofNat Ls) ≤ l1 → Q (some (.int ((747796405 : Int32) * (l1 + (1 : Int32))))) M) ∧ (¬ ((Int32.ofNat Ls) ≤ l1) → (vp_in l1 Ls ∧ Q (some (.int (xs l1.toNatClampNeg))) M)))) :
    P 73 0 [(0, .ref 1000), (1, .int l1)] [] M Q := by
  exact qRun_ok hG (ops := qo_73) (cuts := qc_lw_cell) rfl 16 0 _ _ _ _ hV
def qc_lw_low : List (Nat × List Nat) := []
theorem v_lw_low_0 (hG : qGood Ls xs P) {l0 l1 : Int32} {M : qMem} {Q : qPost}
    (hV : (¬ l1 = 0 ∧ Q (some (.int ((l0 &&& (2147483647 : Int32)) - (l0 &&& (2147483647 : Int32)) / l1 * l1))) M)) :
    P 74 0 [(0, .int l0), (1, .int l1)] [] M Q := by
  exact qRun_ok hG (ops := qo_74) (cuts := qc_lw_low) rfl 8 0 _ _ _ _ hV
def qc_lw_change : List (Nat × List Nat) := [(3, [0, 1, 2]), (13, [0, 1, 2, 3]), (23, [0, 1, 2, 4]), (27, [0, 2, 4, 5]), (35, [2]), (40, [2]), (45, []), (51, []), (57, []), (59, []), (65, [2]), (71, []), (74, []), (78, [0]), (81, []), (84, []), (89, []), (94, [2]), (101, []), (104, []), (107, []), (112, [2]), (118, []), (124, []), (125, []), (131, []), (133, []), (137, [0, 2]), (145, []), (148, []), (151, []), (155, [0, 2]), (162, []), (163, []), (167, [0, 2]), (175, []), (176, []), (183, []), (186, [])]
set_option maxRecDepth 100000 in
theorem v_lw_change_0 (hG : qGood Ls xs P) {l1 l2 : Int32} {M : qMem} {Q : qPost}
    (hV : (P 45 0 [(0, .ref 0), (1, .int (0 : Int32))] [] M (fun v M' => P 75 3 [(0, .ref 0), (1, .int l1), (2, .int l2)] (v.toList ++ []) M' Q))) :
    P 75 0 [(0, .ref 0), (1, .int l1), (2, .int l2)] [] M Q := by
  exact qRun_ok hG (ops := qo_75) (cuts := qc_lw_change) rfl 189 0 _ _ _ _ hV
set_option maxRecDepth 100000 in
theorem v_lw_change_3 (hG : qGood Ls xs P) {l1 l2 s0 : Int32} {M : qMem} {Q : qPost}
    (hV : ((¬ s0 = 0 → (P 74 0 [(0, .int (l1 >>> ((5 : Int32) &&& 31))), (1, .int s0)] [] M (fun v M' => P 75 13 [(0, .ref 0), (1, .int l1), (2, .int l2), (3, .int s0)] (v.toList ++ []) M' Q))) ∧ (¬ (¬ s0 = 0) → (P 75 13 [(0, .ref 0), (1, .int l1), (2, .int l2), (3, .int s0)] [.int (0 : Int32)] M Q)))) :
    P 75 3 [(0, .ref 0), (1, .int l1), (2, .int l2)] [.int s0] M Q := by
  exact qRun_ok hG (ops := qo_75) (cuts := qc_lw_change) rfl 189 3 _ _ _ _ hV
set_option maxRecDepth 100000 in
theorem v_lw_change_13 (hG : qGood Ls xs P) {l1 l2 l3 s0 : Int32} {M : qMem} {Q : qPost}
    (hV : ((¬ l3 = 0 → (P 74 0 [(0, .int (l1 >>> ((12 : Int32) &&& 31))), (1, .int l3)] [] M (fun v M' => P 75 23 [(0, .ref 0), (1, .int l1), (2, .int l2), (4, .int s0)] (v.toList ++ []) M' Q))) ∧ (¬ (¬ l3 = 0) → (P 75 23 [(0, .ref 0), (1, .int l1), (2, .int l2), (4, .int s0)] [.int (0 : Int32)] M Q)))) :
    P 75 13 [(0, .ref 0), (1, .int l1), (2, .int l2), (3, .int l3)] [.int s0] M Q := by
  exact qRun_ok hG (ops := qo_75) (cuts := qc_lw_change) rfl 189 13 _ _ _ _ hV
set_option maxRecDepth 100000 in
theorem v_lw_change_23 (hG : qGood Ls xs P) {l1 l2 l4 s0 : Int32} {M : qMem} {Q : qPost}
    (hV : (P 74 0 [(0, .int l1), (1, .int (20 : Int32))] [] M (fun v M' => P 75 27 [(0, .ref 0), (2, .int l2), (4, .int l4), (5, .int s0)] (v.toList ++ []) M' Q))) :
    P 75 23 [(0, .ref 0), (1, .int l1), (2, .int l2), (4, .int l4)] [.int s0] M Q := by
  exact qRun_ok hG (ops := qo_75) (cuts := qc_lw_change) rfl 189 23 _ _ _ _ hV
set_option maxRecDepth 100000 in
theorem v_lw_change_27 (hG : qGood Ls xs P) {l2 l4 l5 s0 : Int32} {M : qMem} {Q : qPost}
    (hV : ((s0 = Int32.ofInt 0 → (P 74 0 [(0, .int (l2 >>> ((10 : Int32) &&& 31))), (1, .int (3 : Int32))] [] M (fun v M' => P 75 35 [(2, .int l2)] (v.toList ++ [.int l2, .ref 0]) M' Q))) ∧ (¬ (s0 = Int32.ofInt 0) → ((s0 = Int32.ofInt 1 → (P 74 0 [(0, .int (l2 >>> ((10 : Int32) &&& 31))), (1, .int (3 : Int32))] [] M (fun v M' => P 75 35 [(2, .int l2)] (v.toList ++ [.int l2, .ref 0]) M' Q))) ∧ (¬ (s0 = Int32.ofInt 1) → ((s0 = Int32.ofInt 2 → (P 74 0 [(0, .int (l2 >>> ((10 : Int32) &&& 31))), (1, .int (3 : Int32))] [] M (fun v M' => P 75 35 [(2, .int l2)] (v.toList ++ [.int l2, .ref 0]) M' Q))) ∧ (¬ (s0 = Int32.ofInt 2) → ((s0 = Int32.ofInt 3 → (P 74 0 [(0, .int (l2 >>> ((10 : Int32) &&& 31))), (1, .int (3 : Int32))] [] M (fun v M' => P 75 35 [(2, .int l2)] (v.toList ++ [.int l2, .ref 0]) M' Q))) ∧ (¬ (s0 = Int32.ofInt 3) → ((s0 = Int32.ofInt 4 → (P 74 0 [(0, .int (l2 >>> ((10 : Int32) &&& 31))), (1, .int (3 : Int32))] [] M (fun v M' => P 75 35 [(2, .int l2)] (v.toList ++ [.int l2, .ref 0]) M' Q))) ∧ (¬ (s0 = Int32.ofInt 4) → ((s0 = Int32.ofInt 5 → (P 74 0 [(0, .int (l2 >>> ((10 : Int32) &&& 31))), (1, .int (3 : Int32))] [] M (fun v M' => P 75 35 [(2, .int l2)] (v.toList ++ [.int l2, .ref 0]) M' Q))) ∧ (¬ (s0 = Int32.ofInt 5) → ((s0 = Int32.ofInt 6 → (P 74 0 [(0, .int (l2 >>> ((10 : Int32) &&& 31))), (1, .int (3 : Int32))] [] M (fun v M' => P 75 35 [(2, .int l2)] (v.toList ++ [.int l2, .ref 0]) M' Q))) ∧ (¬ (s0 = Int32.ofInt 6) → ((s0 = Int32.ofInt 7 → (P 74 0 [(0, .int (l2 >>> ((10 : Int32) &&& 31))), (1, .int (3 : Int32))] [] M (fun v M' => P 75 35 [(2, .int l2)] (v.toList ++ [.int l2, .ref 0]) M' Q))) ∧ (¬ (s0 = Int32.ofInt 7) → ((s0 = Int32.ofInt 8 → (P 74 0 [(0, .int l2), (1, .int (3 : Int32))] [] M (fun v M' => P 75 57 [] (v.toList ++ [.int (1 : Int32), .ref 0]) M' Q))) ∧ (¬ (s0 = Int32.ofInt 8) → ((s0 = Int32.ofInt 9 → (P 74 0 [(0, .int l2), (1, .int (3 : Int32))] [] M (fun v M' => P 75 65 [(2, .int l2)] (v.toList ++ [.int l4, .ref 0]) M' Q))) ∧ (¬ (s0 = Int32.ofInt 9) → ((s0 = Int32.ofInt 10 → (P 74 0 [(0, .int l2), (1, .int (12 : Int32))] [] M (fun v M' => P 75 78 [(0, .ref 0)] (v.toList ++ []) M' Q))) ∧ (¬ (s0 = Int32.ofInt 10) → ((s0 = Int32.ofInt 11 → (P 38 0 [(0, .ref 0), (1, .int l4), (2, .int l5)] [] M (fun v M' => P 75 89 [] (v.toList ++ []) M' Q))) ∧ (¬ (s0 = Int32.ofInt 11) → ((s0 = Int32.ofInt 12 → (P 74 0 [(0, .int l2), (1, .int (41 : Int32))] [] M (fun v M' => P 75 94 [(2, .int l2)] (v.toList ++ [.ref 0]) M' Q))) ∧ (¬ (s0 = Int32.ofInt 12) → ((s0 = Int32.ofInt 13 → (P 40 0 [(0, .ref 0)] [] M (fun v M' => P 75 107 [] (v.toList ++ []) M' Q))) ∧ (¬ (s0 = Int32.ofInt 13) → ((s0 = Int32.ofInt 14 → (P 74 0 [(0, .int l2), (1, .int (3 : Int32))] [] M (fun v M' => P 75 112 [(2, .int l2)] (v.toList ++ [.ref 0]) M' Q))) ∧ (¬ (s0 = Int32.ofInt 14) → ((s0 = Int32.ofInt 15 → (P 74 0 [(0, .int l2), (1, .int (6 : Int32))] [] M (fun v M' => P 75 131 [] (v.toList ++ [.int (1 : Int32), .ref 0]) M' Q))) ∧ (¬ (s0 = Int32.ofInt 15) → ((s0 = Int32.ofInt 16 → (P 74 0 [(0, .int l2), (1, .int (6 : Int32))] [] M (fun v M' => P 75 137 [(0, .ref 0), (2, .int l2)] (v.toList ++ []) M' Q))) ∧ (¬ (s0 = Int32.ofInt 16) → ((s0 = Int32.ofInt 17 → (P 74 0 [(0, .int l2), (1, .int (2 : Int32))] [] M (fun v M' => P 75 155 [(0, .ref 0), (2, .int l2)] (v.toList ++ []) M' Q))) ∧ (¬ (s0 = Int32.ofInt 17) → (P 74 0 [(0, .int l2), (1, .int (2001 : Int32))] [] M (fun v M' => P 75 183 [] (v.toList ++ [.ref 0]) M' Q))))))))))))))))))))))))))))))))))))))) :
    P 75 27 [(0, .ref 0), (2, .int l2), (4, .int l4), (5, .int l5)] [.int s0] M Q := by
  exact qRun_ok hG (ops := qo_75) (cuts := qc_lw_change) rfl 189 27 _ _ _ _ hV
set_option maxRecDepth 100000 in
theorem v_lw_change_183 (hG : qGood Ls xs P) {s0 : Int32} {M : qMem} {Q : qPost}
    (hV : (P 34 0 [(0, .ref 0), (1, .int (s0 - (1000 : Int32)))] [] M (fun v M' => P 75 186 [] (v.toList ++ []) M' Q))) :
    P 75 183 [] [.int s0, .ref 0] M Q := by
  exact qRun_ok hG (ops := qo_75) (cuts := qc_lw_change) rfl 189 183 _ _ _ _ hV
set_option maxRecDepth 100000 in
theorem v_lw_change_155 (hG : qGood Ls xs P) {l2 s0 : Int32} {M : qMem} {Q : qPost}
    (hV : ((¬ s0 = 0 → (P 74 0 [(0, .int l2), (1, .int (6 : Int32))] [] M (fun v M' => P 75 167 [(0, .ref 0), (2, .int l2)] (v.toList ++ []) M' Q))) ∧ (¬ (¬ s0 = 0) → (P 74 0 [(0, .int (l2 >>> ((1 : Int32) &&& 31))), (1, .int (2 : Int32))] [] M (fun v M' => P 75 162 [] (v.toList ++ [.ref 0]) M' Q))))) :
    P 75 155 [(0, .ref 0), (2, .int l2)] [.int s0] M Q := by
  exact qRun_ok hG (ops := qo_75) (cuts := qc_lw_change) rfl 189 155 _ _ _ _ hV
set_option maxRecDepth 100000 in
theorem v_lw_change_137 (hG : qGood Ls xs P) {l2 s0 : Int32} {M : qMem} {Q : qPost}
    (hV : ((¬ s0 = 0 → (P 44 0 [(0, .ref 0)] [] M (fun v M' => P 75 151 [] (v.toList ++ []) M' Q))) ∧ (¬ (¬ s0 = 0) → (P 74 0 [(0, .int (l2 >>> ((3 : Int32) &&& 31))), (1, .int (3 : Int32))] [] M (fun v M' => P 75 145 [] (v.toList ++ [.int (1 : Int32), .ref 0]) M' Q))))) :
    P 75 137 [(0, .ref 0), (2, .int l2)] [.int s0] M Q := by
  exact qRun_ok hG (ops := qo_75) (cuts := qc_lw_change) rfl 189 137 _ _ _ _ hV
set_option maxRecDepth 100000 in
theorem v_lw_change_131 (hG : qGood Ls xs P) {s0 s1 : Int32} {M : qMem} {Q : qPost}
    (hV : (P 42 0 [(0, .ref 0), (1, .int (s1 + s0))] [] M (fun v M' => P 75 133 [] (v.toList ++ []) M' Q))) :
    P 75 131 [] [.int s0, .int s1, .ref 0] M Q := by
  exact qRun_ok hG (ops := qo_75) (cuts := qc_lw_change) rfl 189 131 _ _ _ _ hV
set_option maxRecDepth 100000 in
theorem v_lw_change_112 (hG : qGood Ls xs P) {l2 s0 : Int32} {M : qMem} {Q : qPost}
    (hV : ((¬ s0 = 0 → (P 74 0 [(0, .int (l2 >>> ((2 : Int32) &&& 31))), (1, .int (100000 : Int32))] [] M (fun v M' => P 75 124 [] (v.toList ++ [.ref 0]) M' Q))) ∧ (¬ (¬ s0 = 0) → (P 74 0 [(0, .int (l2 >>> ((2 : Int32) &&& 31))), (1, .int (40 : Int32))] [] M (fun v M' => P 75 118 [] (v.toList ++ [.ref 0]) M' Q))))) :
    P 75 112 [(2, .int l2)] [.int s0, .ref 0] M Q := by
  exact qRun_ok hG (ops := qo_75) (cuts := qc_lw_change) rfl 189 112 _ _ _ _ hV
set_option maxRecDepth 100000 in
theorem v_lw_change_107 (hG : qGood Ls xs P) {s0 : Int32} {M : qMem} {Q : qPost}
    (hV : Q (some (.int s0)) M) :
    P 75 107 [] [.int s0] M Q := by
  exact qRun_ok hG (ops := qo_75) (cuts := qc_lw_change) rfl 189 107 _ _ _ _ hV
set_option maxRecDepth 100000 in
theorem v_lw_change_94 (hG : qGood Ls xs P) {l2 s0 : Int32} {M : qMem} {Q : qPost}
    (hV : (P 74 0 [(0, .int (l2 >>> ((8 : Int32) &&& 31))), (1, .int (2001 : Int32))] [] M (fun v M' => P 75 101 [] (v.toList ++ [.int (s0 - (20 : Int32)), .ref 0]) M' Q))) :
    P 75 94 [(2, .int l2)] [.int s0, .ref 0] M Q := by
  exact qRun_ok hG (ops := qo_75) (cuts := qc_lw_change) rfl 189 94 _ _ _ _ hV
set_option maxRecDepth 100000 in
theorem v_lw_change_89 (hG : qGood Ls xs P) {s0 : Int32} {M : qMem} {Q : qPost}
    (hV : Q (some (.int s0)) M) :
    P 75 89 [] [.int s0] M Q := by
  exact qRun_ok hG (ops := qo_75) (cuts := qc_lw_change) rfl 189 89 _ _ _ _ hV
set_option maxRecDepth 100000 in
theorem v_lw_change_78 (hG : qGood Ls xs P) {s0 : Int32} {M : qMem} {Q : qPost}
    (hV : ((¬ s0 = 0 → (P 44 0 [(0, .ref 0)] [] M (fun v M' => P 75 84 [] (v.toList ++ []) M' Q))) ∧ (¬ (¬ s0 = 0) → (P 37 0 [(0, .ref 0)] [] M (fun v M' => P 75 81 [] (v.toList ++ []) M' Q))))) :
    P 75 78 [(0, .ref 0)] [.int s0] M Q := by
  exact qRun_ok hG (ops := qo_75) (cuts := qc_lw_change) rfl 189 78 _ _ _ _ hV
set_option maxRecDepth 100000 in
theorem v_lw_change_65 (hG : qGood Ls xs P) {l2 s0 s1 : Int32} {M : qMem} {Q : qPost}
    (hV : ((¬ s0 = 0 → (P 74 0 [(0, .int l2), (1, .int (2001 : Int32))] [] M (fun v M' => P 75 71 [] (v.toList ++ [.int s1, .ref 0]) M' Q))) ∧ (¬ (¬ s0 = 0) → (P 36 0 [(0, .ref 0), (1, .int s1), (2, .int (-1000000001 : Int32))] [] M (fun v M' => P 75 74 [] (v.toList ++ []) M' Q))))) :
    P 75 65 [(2, .int l2)] [.int s0, .int s1, .ref 0] M Q := by
  exact qRun_ok hG (ops := qo_75) (cuts := qc_lw_change) rfl 189 65 _ _ _ _ hV
set_option maxRecDepth 100000 in
theorem v_lw_change_57 (hG : qGood Ls xs P) {s0 s1 : Int32} {M : qMem} {Q : qPost}
    (hV : (P 35 0 [(0, .ref 0), (1, .int (s1 + s0))] [] M (fun v M' => P 75 59 [] (v.toList ++ []) M' Q))) :
    P 75 57 [] [.int s0, .int s1, .ref 0] M Q := by
  exact qRun_ok hG (ops := qo_75) (cuts := qc_lw_change) rfl 189 57 _ _ _ _ hV
set_option maxRecDepth 100000 in
theorem v_lw_change_35 (hG : qGood Ls xs P) {l2 s0 s1 : Int32} {M : qMem} {Q : qPost}
    (hV : ((¬ s0 = 0 → (P 74 0 [(0, .int s1), (1, .int (41 : Int32))] [] M (fun v M' => P 75 40 [(2, .int l2)] (v.toList ++ [.ref 0]) M' Q))) ∧ (¬ (¬ s0 = 0) → (P 74 0 [(0, .int s1), (1, .int (199999 : Int32))] [] M (fun v M' => P 75 40 [(2, .int l2)] (v.toList ++ [.ref 0]) M' Q))))) :
    P 75 35 [(2, .int l2)] [.int s0, .int s1, .ref 0] M Q := by
  exact qRun_ok hG (ops := qo_75) (cuts := qc_lw_change) rfl 189 35 _ _ _ _ hV
set_option maxRecDepth 100000 in
theorem v_lw_change_186 (hG : qGood Ls xs P) {s0 : Int32} {M : qMem} {Q : qPost}
    (hV : Q (some (.int s0)) M) :
    P 75 186 [] [.int s0] M Q := by
  exact qRun_ok hG (ops := qo_75) (cuts := qc_lw_change) rfl 189 186 _ _ _ _ hV
set_option maxRecDepth 100000 in
theorem v_lw_change_167 (hG : qGood Ls xs P) {l2 s0 : Int32} {M : qMem} {Q : qPost}
    (hV : ((¬ s0 = (1 : Int32) → Q (some (.int (-9 : Int32))) M) ∧ (¬ (¬ s0 = (1 : Int32)) → (P 74 0 [(0, .int (l2 >>> ((3 : Int32) &&& 31))), (1, .int (2 : Int32))] [] M (fun v M' => P 75 175 [] (v.toList ++ [.ref 0]) M' Q))))) :
    P 75 167 [(0, .ref 0), (2, .int l2)] [.int s0] M Q := by
  exact qRun_ok hG (ops := qo_75) (cuts := qc_lw_change) rfl 189 167 _ _ _ _ hV
set_option maxRecDepth 100000 in
theorem v_lw_change_162 (hG : qGood Ls xs P) {s0 : Int32} {M : qMem} {Q : qPost}
    (hV : (P 53 0 [(0, .ref 0), (1, .int s0)] [] M (fun v M' => P 75 163 [] (v.toList ++ []) M' Q))) :
    P 75 162 [] [.int s0, .ref 0] M Q := by
  exact qRun_ok hG (ops := qo_75) (cuts := qc_lw_change) rfl 189 162 _ _ _ _ hV
set_option maxRecDepth 100000 in
theorem v_lw_change_151 (hG : qGood Ls xs P) {s0 : Int32} {M : qMem} {Q : qPost}
    (hV : Q (some (.int s0)) M) :
    P 75 151 [] [.int s0] M Q := by
  exact qRun_ok hG (ops := qo_75) (cuts := qc_lw_change) rfl 189 151 _ _ _ _ hV
set_option maxRecDepth 100000 in
theorem v_lw_change_145 (hG : qGood Ls xs P) {s0 s1 : Int32} {M : qMem} {Q : qPost}
    (hV : (P 43 0 [(0, .ref 0), (1, .int (s1 + s0)), (2, .int (0 : Int32))] [] M (fun v M' => P 75 148 [] (v.toList ++ []) M' Q))) :
    P 75 145 [] [.int s0, .int s1, .ref 0] M Q := by
  exact qRun_ok hG (ops := qo_75) (cuts := qc_lw_change) rfl 189 145 _ _ _ _ hV
set_option maxRecDepth 100000 in
theorem v_lw_change_133 (hG : qGood Ls xs P) {s0 : Int32} {M : qMem} {Q : qPost}
    (hV : Q (some (.int s0)) M) :
    P 75 133 [] [.int s0] M Q := by
  exact qRun_ok hG (ops := qo_75) (cuts := qc_lw_change) rfl 189 133 _ _ _ _ hV
set_option maxRecDepth 100000 in
theorem v_lw_change_124 (hG : qGood Ls xs P) {s0 : Int32} {M : qMem} {Q : qPost}
    (hV : (P 41 0 [(0, .ref 0), (1, .int s0)] [] M (fun v M' => P 75 125 [] (v.toList ++ []) M' Q))) :
    P 75 124 [] [.int s0, .ref 0] M Q := by
  exact qRun_ok hG (ops := qo_75) (cuts := qc_lw_change) rfl 189 124 _ _ _ _ hV
set_option maxRecDepth 100000 in
theorem v_lw_change_118 (hG : qGood Ls xs P) {s0 : Int32} {M : qMem} {Q : qPost}
    (hV : (P 75 124 [] [.int s0, .ref 0] M Q)) :
    P 75 118 [] [.int s0, .ref 0] M Q := by
  exact qRun_ok hG (ops := qo_75) (cuts := qc_lw_change) rfl 189 118 _ _ _ _ hV
set_option maxRecDepth 100000 in
theorem v_lw_change_101 (hG : qGood Ls xs P) {s0 s1 : Int32} {M : qMem} {Q : qPost}
    (hV : (P 39 0 [(0, .ref 0), (1, .int s1), (2, .int (s0 - (1000 : Int32)))] [] M (fun v M' => P 75 104 [] (v.toList ++ []) M' Q))) :
    P 75 101 [] [.int s0, .int s1, .ref 0] M Q := by
  exact qRun_ok hG (ops := qo_75) (cuts := qc_lw_change) rfl 189 101 _ _ _ _ hV
set_option maxRecDepth 100000 in
theorem v_lw_change_84 (hG : qGood Ls xs P) {s0 : Int32} {M : qMem} {Q : qPost}
    (hV : Q (some (.int s0)) M) :
    P 75 84 [] [.int s0] M Q := by
  exact qRun_ok hG (ops := qo_75) (cuts := qc_lw_change) rfl 189 84 _ _ _ _ hV
set_option maxRecDepth 100000 in
theorem v_lw_change_81 (hG : qGood Ls xs P) {s0 : Int32} {M : qMem} {Q : qPost}
    (hV : (P 75 84 [] [.int s0] M Q)) :
    P 75 81 [] [.int s0] M Q := by
  exact qRun_ok hG (ops := qo_75) (cuts := qc_lw_change) rfl 189 81 _ _ _ _ hV
set_option maxRecDepth 100000 in
theorem v_lw_change_71 (hG : qGood Ls xs P) {s0 s1 : Int32} {M : qMem} {Q : qPost}
    (hV : (P 36 0 [(0, .ref 0), (1, .int s1), (2, .int (s0 - (1000 : Int32)))] [] M (fun v M' => P 75 74 [] (v.toList ++ []) M' Q))) :
    P 75 71 [] [.int s0, .int s1, .ref 0] M Q := by
  exact qRun_ok hG (ops := qo_75) (cuts := qc_lw_change) rfl 189 71 _ _ _ _ hV
set_option maxRecDepth 100000 in
theorem v_lw_change_74 (hG : qGood Ls xs P) {s0 : Int32} {M : qMem} {Q : qPost}
    (hV : Q (some (.int s0)) M) :
    P 75 74 [] [.int s0] M Q := by
  exact qRun_ok hG (ops := qo_75) (cuts := qc_lw_change) rfl 189 74 _ _ _ _ hV
set_option maxRecDepth 100000 in
theorem v_lw_change_59 (hG : qGood Ls xs P) {s0 : Int32} {M : qMem} {Q : qPost}
    (hV : Q (some (.int s0)) M) :
    P 75 59 [] [.int s0] M Q := by
  exact qRun_ok hG (ops := qo_75) (cuts := qc_lw_change) rfl 189 59 _ _ _ _ hV
set_option maxRecDepth 100000 in
theorem v_lw_change_40 (hG : qGood Ls xs P) {l2 s0 : Int32} {M : qMem} {Q : qPost}
    (hV : (P 74 0 [(0, .int (l2 >>> ((10 : Int32) &&& 31))), (1, .int (3 : Int32))] [] M (fun v M' => P 75 45 [] (v.toList ++ [.int s0, .ref 0]) M' Q))) :
    P 75 40 [(2, .int l2)] [.int s0, .ref 0] M Q := by
  exact qRun_ok hG (ops := qo_75) (cuts := qc_lw_change) rfl 189 40 _ _ _ _ hV
set_option maxRecDepth 100000 in
theorem v_lw_change_175 (hG : qGood Ls xs P) {s0 : Int32} {M : qMem} {Q : qPost}
    (hV : (P 54 0 [(0, .ref 0), (1, .int s0)] [] M (fun v M' => P 75 176 [] (v.toList ++ []) M' Q))) :
    P 75 175 [] [.int s0, .ref 0] M Q := by
  exact qRun_ok hG (ops := qo_75) (cuts := qc_lw_change) rfl 189 175 _ _ _ _ hV
set_option maxRecDepth 100000 in
theorem v_lw_change_163 (hG : qGood Ls xs P) {s0 : Int32} {M : qMem} {Q : qPost}
    (hV : Q (some (.int s0)) M) :
    P 75 163 [] [.int s0] M Q := by
  exact qRun_ok hG (ops := qo_75) (cuts := qc_lw_change) rfl 189 163 _ _ _ _ hV
set_option maxRecDepth 100000 in
theorem v_lw_change_148 (hG : qGood Ls xs P) {s0 : Int32} {M : qMem} {Q : qPost}
    (hV : (P 75 151 [] [.int s0] M Q)) :
    P 75 148 [] [.int s0] M Q := by
  exact qRun_ok hG (ops := qo_75) (cuts := qc_lw_change) rfl 189 148 _ _ _ _ hV
set_option maxRecDepth 100000 in
theorem v_lw_change_125 (hG : qGood Ls xs P) {s0 : Int32} {M : qMem} {Q : qPost}
    (hV : Q (some (.int s0)) M) :
    P 75 125 [] [.int s0] M Q := by
  exact qRun_ok hG (ops := qo_75) (cuts := qc_lw_change) rfl 189 125 _ _ _ _ hV
set_option maxRecDepth 100000 in
theorem v_lw_change_104 (hG : qGood Ls xs P) {s0 : Int32} {M : qMem} {Q : qPost}
    (hV : Q (some (.int s0)) M) :
    P 75 104 [] [.int s0] M Q := by
  exact qRun_ok hG (ops := qo_75) (cuts := qc_lw_change) rfl 189 104 _ _ _ _ hV
set_option maxRecDepth 100000 in
theorem v_lw_change_45 (hG : qGood Ls xs P) {s0 s1 : Int32} {M : qMem} {Q : qPost}
    (hV : ((¬ s0 = 0 → (P 34 0 [(0, .ref 0), (1, .int (s1 - (20 : Int32)))] [] M (fun v M' => P 75 51 [] (v.toList ++ []) M' Q))) ∧ (¬ (¬ s0 = 0) → (P 34 0 [(0, .ref 0), (1, .int (s1 - (99999 : Int32)))] [] M (fun v M' => P 75 51 [] (v.toList ++ []) M' Q))))) :
    P 75 45 [] [.int s0, .int s1, .ref 0] M Q := by
  exact qRun_ok hG (ops := qo_75) (cuts := qc_lw_change) rfl 189 45 _ _ _ _ hV
set_option maxRecDepth 100000 in
theorem v_lw_change_176 (hG : qGood Ls xs P) {s0 : Int32} {M : qMem} {Q : qPost}
    (hV : Q (some (.int s0)) M) :
    P 75 176 [] [.int s0] M Q := by
  exact qRun_ok hG (ops := qo_75) (cuts := qc_lw_change) rfl 189 176 _ _ _ _ hV
set_option maxRecDepth 100000 in
theorem v_lw_change_51 (hG : qGood Ls xs P) {s0 : Int32} {M : qMem} {Q : qPost}
    (hV : Q (some (.int s0)) M) :
    P 75 51 [] [.int s0] M Q := by
  exact qRun_ok hG (ops := qo_75) (cuts := qc_lw_change) rfl 189 51 _ _ _ _ hV
def qc_lw_areDifferences : List (Nat × List Nat) := [(5, [0, 1, 2]), (14, [0, 1, 2, 3, 4, 5, 6, 7]), (22, [0, 1, 2, 3, 4, 5, 6, 7]), (30, [0, 1, 2, 3, 4, 5, 6, 7, 8]), (36, [0, 1, 2, 3, 4, 5, 6, 7, 8, 9]), (42, [0, 1, 2, 3, 4, 5, 6, 7, 8, 9, 10]), (49, [0, 1, 2, 3, 4, 5, 6, 7, 8, 9, 10, 11, 12, 13, 14]), (59, [0, 1, 2, 3, 4, 5, 6, 7, 8, 9, 10, 11, 12, 13, 14]), (69, [0, 1, 2, 3, 4, 5, 6, 7, 8, 9, 10, 11, 12, 13, 14, 15]), (77, [0, 1, 2, 3, 4, 5, 6, 7, 8, 9, 10, 11, 12, 13, 14]), (92, [0, 1, 2, 3, 4, 5, 6, 7, 8, 10, 11, 12, 13]), (103, [0, 1, 2, 3, 4, 5, 6, 7, 8, 10, 11, 14]), (113, [0, 1, 2, 3, 4, 5, 6, 7, 8, 10, 11, 14]), (120, [0, 1, 2, 3, 4, 5, 6, 7, 8, 10, 11, 14]), (129, [0, 1, 2, 3, 4, 5, 6, 7, 8, 10, 11, 14]), (135, [0, 1, 2, 3, 4, 5, 6, 7, 8, 10, 11, 14, 15]), (155, [0, 1, 2, 3, 4, 5, 6, 7, 8, 10, 11]), (161, [0, 1, 2, 3, 4, 5, 6, 7, 8, 10, 11]), (166, [0, 1, 2, 3, 4, 5, 6, 7, 8, 10, 11]), (170, [0, 1, 2, 3, 4, 5, 6, 7, 8, 10, 11]), (179, [0, 1, 2, 3, 4, 5, 6, 7, 10, 11]), (188, [0, 1, 2, 3, 4, 5, 6, 7, 11]), (197, [0, 1, 2, 3, 4, 5, 6, 7]), (203, [0, 1, 2, 3, 4, 5, 6]), (209, [0, 1, 2, 3, 5, 6]), (215, [0, 1, 2, 3, 6]), (222, [2])]
set_option maxRecDepth 100000 in
theorem v_lw_areDifferences_0 (hG : qGood Ls xs P) {l1 : Int32} {M : qMem} {Q : qPost}
    (hV : (P 45 0 [(0, .ref 0), (1, .int (0 : Int32))] [] M (fun v M' => P 76 5 [(0, .ref 0), (1, .int l1), (2, .int (-1000000001 : Int32))] (v.toList ++ []) M' Q))) :
    P 76 0 [(0, .ref 0), (1, .int l1)] [] M Q := by
  exact qRun_ok hG (ops := qo_76) (cuts := qc_lw_areDifferences) rfl 230 0 _ _ _ _ hV
set_option maxRecDepth 100000 in
theorem v_lw_areDifferences_5 (hG : qGood Ls xs P) {l1 l2 s0 : Int32} {M : qMem} {Q : qPost}
    (hV : (P 76 14 [(0, .ref 0), (1, .int l1), (2, .int l2), (3, .int s0), (4, .int (0 : Int32)), (5, .int (0 : Int32)), (6, .int (0 : Int32)), (7, .int (0 : Int32))] [] M Q)) :
    P 76 5 [(0, .ref 0), (1, .int l1), (2, .int l2)] [.int s0] M Q := by
  exact qRun_ok hG (ops := qo_76) (cuts := qc_lw_areDifferences) rfl 230 5 _ _ _ _ hV
set_option maxRecDepth 100000 in
theorem v_lw_areDifferences_14 (hG : qGood Ls xs P) {l1 l2 l3 l4 l5 l6 l7 : Int32} {M : qMem} {Q : qPost}
    (hV : ((l3 ≤ l7 → (P 48 0 [(0, .ref 0), (1, .int (2 : Int32)), (2, .int l1)] [] M (fun v M' => P 76 203 [(0, .ref 0), (1, .int l1), (2, .int l2), (3, .int l3), (4, .int l4), (5, .int l5), (6, .int l6)] (v.toList ++ []) M' Q))) ∧ (¬ (l3 ≤ l7) → (P 47 0 [(0, .ref 0), (1, .int (2 : Int32)), (2, .int l1), (3, .int l7)] [] M (fun v M' => P 76 22 [(0, .ref 0), (1, .int l1), (2, .int l2), (3, .int l3), (4, .int l4), (5, .int l5), (6, .int l6), (7, .int l7)] (v.toList ++ []) M' Q))))) :
    P 76 14 [(0, .ref 0), (1, .int l1), (2, .int l2), (3, .int l3), (4, .int l4), (5, .int l5), (6, .int l6), (7, .int l7)] [] M Q := by
  exact qRun_ok hG (ops := qo_76) (cuts := qc_lw_areDifferences) rfl 230 14 _ _ _ _ hV
set_option maxRecDepth 100000 in
theorem v_lw_areDifferences_203 (hG : qGood Ls xs P) {l1 l2 l3 l4 l5 l6 s0 : Int32} {M : qMem} {Q : qPost}
    (hV : ((¬ s0 = l4 → (narrow .boolean (.int (0 : Int32)) = .int (0 : Int32) ∧ Q (some (.int (0 : Int32))) M)) ∧ (¬ (¬ s0 = l4) → (P 48 0 [(0, .ref 0), (1, .int (3 : Int32)), (2, .int l1)] [] M (fun v M' => P 76 209 [(0, .ref 0), (1, .int l1), (2, .int l2), (3, .int l3), (5, .int l5), (6, .int l6)] (v.toList ++ []) M' Q))))) :
    P 76 203 [(0, .ref 0), (1, .int l1), (2, .int l2), (3, .int l3), (4, .int l4), (5, .int l5), (6, .int l6)] [.int s0] M Q := by
  exact qRun_ok hG (ops := qo_76) (cuts := qc_lw_areDifferences) rfl 230 203 _ _ _ _ hV
set_option maxRecDepth 100000 in
theorem v_lw_areDifferences_22 (hG : qGood Ls xs P) {l1 l2 l3 l4 l5 l6 l7 s0 : Int32} {M : qMem} {Q : qPost}
    (hV : (P 47 0 [(0, .ref 0), (1, .int (2 : Int32)), (2, .int l1), (3, .int (l7 + l1))] [] M (fun v M' => P 76 30 [(0, .ref 0), (1, .int l1), (2, .int l2), (3, .int l3), (4, .int l4), (5, .int l5), (6, .int l6), (7, .int l7), (8, .int s0)] (v.toList ++ []) M' Q))) :
    P 76 22 [(0, .ref 0), (1, .int l1), (2, .int l2), (3, .int l3), (4, .int l4), (5, .int l5), (6, .int l6), (7, .int l7)] [.int s0] M Q := by
  exact qRun_ok hG (ops := qo_76) (cuts := qc_lw_areDifferences) rfl 230 22 _ _ _ _ hV
set_option maxRecDepth 100000 in
theorem v_lw_areDifferences_209 (hG : qGood Ls xs P) {l1 l2 l3 l5 l6 s0 : Int32} {M : qMem} {Q : qPost}
    (hV : ((¬ s0 = l5 → (narrow .boolean (.int (0 : Int32)) = .int (0 : Int32) ∧ Q (some (.int (0 : Int32))) M)) ∧ (¬ (¬ s0 = l5) → (P 48 0 [(0, .ref 0), (1, .int (4 : Int32)), (2, .int l1)] [] M (fun v M' => P 76 215 [(0, .ref 0), (1, .int l1), (2, .int l2), (3, .int l3), (6, .int l6)] (v.toList ++ []) M' Q))))) :
    P 76 209 [(0, .ref 0), (1, .int l1), (2, .int l2), (3, .int l3), (5, .int l5), (6, .int l6)] [.int s0] M Q := by
  exact qRun_ok hG (ops := qo_76) (cuts := qc_lw_areDifferences) rfl 230 209 _ _ _ _ hV
set_option maxRecDepth 100000 in
theorem v_lw_areDifferences_30 (hG : qGood Ls xs P) {l1 l2 l3 l4 l5 l6 l7 l8 s0 : Int32} {M : qMem} {Q : qPost}
    (hV : (P 47 0 [(0, .ref 0), (1, .int (3 : Int32)), (2, .int l1), (3, .int l7)] [] M (fun v M' => P 76 36 [(0, .ref 0), (1, .int l1), (2, .int l2), (3, .int l3), (4, .int l4), (5, .int l5), (6, .int l6), (7, .int l7), (8, .int l8), (9, .int s0)] (v.toList ++ []) M' Q))) :
    P 76 30 [(0, .ref 0), (1, .int l1), (2, .int l2), (3, .int l3), (4, .int l4), (5, .int l5), (6, .int l6), (7, .int l7), (8, .int l8)] [.int s0] M Q := by
  exact qRun_ok hG (ops := qo_76) (cuts := qc_lw_areDifferences) rfl 230 30 _ _ _ _ hV
set_option maxRecDepth 100000 in
theorem v_lw_areDifferences_215 (hG : qGood Ls xs P) {l1 l2 l3 l6 s0 : Int32} {M : qMem} {Q : qPost}
    (hV : ((¬ s0 = l6 → (narrow .boolean (.int (0 : Int32)) = .int (0 : Int32) ∧ Q (some (.int (0 : Int32))) M)) ∧ (¬ (¬ s0 = l6) → (P 47 0 [(0, .ref 0), (1, .int (2 : Int32)), (2, .int l1), (3, .int l3)] [] M (fun v M' => P 76 222 [(2, .int l2)] (v.toList ++ []) M' Q))))) :
    P 76 215 [(0, .ref 0), (1, .int l1), (2, .int l2), (3, .int l3), (6, .int l6)] [.int s0] M Q := by
  exact qRun_ok hG (ops := qo_76) (cuts := qc_lw_areDifferences) rfl 230 215 _ _ _ _ hV
set_option maxRecDepth 100000 in
theorem v_lw_areDifferences_36 (hG : qGood Ls xs P) {l1 l2 l3 l4 l5 l6 l7 l8 l9 s0 : Int32} {M : qMem} {Q : qPost}
    (hV : (P 47 0 [(0, .ref 0), (1, .int (4 : Int32)), (2, .int l1), (3, .int l7)] [] M (fun v M' => P 76 42 [(0, .ref 0), (1, .int l1), (2, .int l2), (3, .int l3), (4, .int l4), (5, .int l5), (6, .int l6), (7, .int l7), (8, .int l8), (9, .int l9), (10, .int s0)] (v.toList ++ []) M' Q))) :
    P 76 36 [(0, .ref 0), (1, .int l1), (2, .int l2), (3, .int l3), (4, .int l4), (5, .int l5), (6, .int l6), (7, .int l7), (8, .int l8), (9, .int l9)] [.int s0] M Q := by
  exact qRun_ok hG (ops := qo_76) (cuts := qc_lw_areDifferences) rfl 230 36 _ _ _ _ hV
set_option maxRecDepth 100000 in
theorem v_lw_areDifferences_222 (hG : qGood Ls xs P) {l2 s0 : Int32} {M : qMem} {Q : qPost}
    (hV : ((¬ s0 = l2 → (narrow .boolean (.int (0 : Int32)) = .int (0 : Int32) ∧ Q (some (.int (0 : Int32))) M)) ∧ (¬ (¬ s0 = l2) → (narrow .boolean (.int (1 : Int32)) = .int (1 : Int32) ∧ Q (some (.int (1 : Int32))) M)))) :
    P 76 222 [(2, .int l2)] [.int s0] M Q := by
  exact qRun_ok hG (ops := qo_76) (cuts := qc_lw_areDifferences) rfl 230 222 _ _ _ _ hV
set_option maxRecDepth 100000 in
theorem v_lw_areDifferences_42 (hG : qGood Ls xs P) {l1 l2 l3 l4 l5 l6 l7 l8 l9 l10 s0 : Int32} {M : qMem} {Q : qPost}
    (hV : (P 76 49 [(0, .ref 0), (1, .int l1), (2, .int l2), (3, .int l3), (4, .int l4), (5, .int l5), (6, .int l6), (7, .int l7), (8, .int l8), (9, .int l9), (10, .int l10), (11, .int s0), (12, .int (0 : Int32)), (13, .int (1 : Int32)), (14, .int (0 : Int32))] [] M Q)) :
    P 76 42 [(0, .ref 0), (1, .int l1), (2, .int l2), (3, .int l3), (4, .int l4), (5, .int l5), (6, .int l6), (7, .int l7), (8, .int l8), (9, .int l9), (10, .int l10)] [.int s0] M Q := by
  exact qRun_ok hG (ops := qo_76) (cuts := qc_lw_areDifferences) rfl 230 42 _ _ _ _ hV
set_option maxRecDepth 100000 in
theorem v_lw_areDifferences_49 (hG : qGood Ls xs P) {l1 l2 l3 l4 l5 l6 l7 l8 l9 l10 l11 l12 l13 l14 : Int32} {M : qMem} {Q : qPost}
    (hV : ((l1 ≤ l14 → ((l8 = l2 → ((¬ l10 = l2 → (P 76 103 [(0, .ref 0), (1, .int l1), (2, .int l2), (3, .int l3), (4, .int l4), (5, .int l5), (6, .int l6), (7, .int l7), (8, .int l8), (10, .int l10), (11, .int l11), (14, .int (0 : Int32))] [] M Q)) ∧ (¬ (¬ l10 = l2) → (P 76 92 [(0, .ref 0), (1, .int l1), (2, .int l2), (3, .int l3), (4, .int l4), (5, .int l5), (6, .int l6), (7, .int l7), (8, .int l8), (10, .int l10), (11, .int l11), (12, .int l12), (13, .int l13)] [] M Q)))) ∧ (¬ (l8 = l2) → ((¬ l9 = l2 → ((¬ l10 = (l9 - l8) → (P 76 103 [(0, .ref 0), (1, .int l1), (2, .int l2), (3, .int l3), (4, .int l4), (5, .int l5), (6, .int l6), (7, .int l7), (8, .int l8), (10, .int l10), (11, .int l11), (14, .int (0 : Int32))] [] M Q)) ∧ (¬ (¬ l10 = (l9 - l8)) → (P 76 92 [(0, .ref 0), (1, .int l1), (2, .int l2), (3, .int l3), (4, .int l4), (5, .int l5), (6, .int l6), (7, .int l7), (8, .int l8), (10, .int l10), (11, .int l11), (12, .int l12), (13, .int l13)] [] M Q)))) ∧ (¬ (¬ l9 = l2) → ((¬ l10 = l2 → (P 76 103 [(0, .ref 0), (1, .int l1), (2, .int l2), (3, .int l3), (4, .int l4), (5, .int l5), (6, .int l6), (7, .int l7), (8, .int l8), (10, .int l10), (11, .int l11), (14, .int (0 : Int32))] [] M Q)) ∧ (¬ (¬ l10 = l2) → (P 76 92 [(0, .ref 0), (1, .int l1), (2, .int l2), (3, .int l3), (4, .int l4), (5, .int l5), (6, .int l6), (7, .int l7), (8, .int l8), (10, .int l10), (11, .int l11), (12, .int l12), (13, .int l13)] [] M Q)))))))) ∧ (¬ (l1 ≤ l14) → (P 47 0 [(0, .ref 0), (1, .int (2 : Int32)), (2, .int l1), (3, .int (l7 + l14))] [] M (fun v M' => P 76 59 [(0, .ref 0), (1, .int l1), (2, .int l2), (3, .int l3), (4, .int l4), (5, .int l5), (6, .int l6), (7, .int l7), (8, .int l8), (9, .int l9), (10, .int l10), (11, .int l11), (12, .int l12), (13, .int l13), (14, .int l14)] (v.toList ++ []) M' Q))))) :
    P 76 49 [(0, .ref 0), (1, .int l1), (2, .int l2), (3, .int l3), (4, .int l4), (5, .int l5), (6, .int l6), (7, .int l7), (8, .int l8), (9, .int l9), (10, .int l10), (11, .int l11), (12, .int l12), (13, .int l13), (14, .int l14)] [] M Q := by
  exact qRun_ok hG (ops := qo_76) (cuts := qc_lw_areDifferences) rfl 230 49 _ _ _ _ hV
set_option maxRecDepth 100000 in
theorem v_lw_areDifferences_103 (hG : qGood Ls xs P) {l1 l2 l3 l4 l5 l6 l7 l8 l10 l11 l14 : Int32} {M : qMem} {Q : qPost}
    (hV : ((l3 ≤ (l7 + ((2 : Int32) * l1)) → (P 76 135 [(0, .ref 0), (1, .int l1), (2, .int l2), (3, .int l3), (4, .int l4), (5, .int l5), (6, .int l6), (7, .int l7), (8, .int l8), (10, .int l10), (11, .int l11), (14, .int l14), (15, .int (0 : Int32))] [] M Q)) ∧ (¬ (l3 ≤ (l7 + ((2 : Int32) * l1))) → (P 46 0 [(0, .ref 0), (1, .int l7)] [] M (fun v M' => P 76 113 [(0, .ref 0), (1, .int l1), (2, .int l2), (3, .int l3), (4, .int l4), (5, .int l5), (6, .int l6), (7, .int l7), (8, .int l8), (10, .int l10), (11, .int l11), (14, .int l14)] (v.toList ++ []) M' Q))))) :
    P 76 103 [(0, .ref 0), (1, .int l1), (2, .int l2), (3, .int l3), (4, .int l4), (5, .int l5), (6, .int l6), (7, .int l7), (8, .int l8), (10, .int l10), (11, .int l11), (14, .int l14)] [] M Q := by
  exact qRun_ok hG (ops := qo_76) (cuts := qc_lw_areDifferences) rfl 230 103 _ _ _ _ hV
set_option maxRecDepth 100000 in
theorem v_lw_areDifferences_92 (hG : qGood Ls xs P) {l1 l2 l3 l4 l5 l6 l7 l8 l10 l11 l12 l13 : Int32} {M : qMem} {Q : qPost}
    (hV : ((l13 = 0 → ((¬ l11 = l2 → (P 76 103 [(0, .ref 0), (1, .int l1), (2, .int l2), (3, .int l3), (4, .int l4), (5, .int l5), (6, .int l6), (7, .int l7), (8, .int l8), (10, .int l10), (11, .int l11), (14, .int (0 : Int32))] [] M Q)) ∧ (¬ (¬ l11 = l2) → (P 76 103 [(0, .ref 0), (1, .int l1), (2, .int l2), (3, .int l3), (4, .int l4), (5, .int l5), (6, .int l6), (7, .int l7), (8, .int l8), (10, .int l10), (11, .int l11), (14, .int (1 : Int32))] [] M Q)))) ∧ (¬ (l13 = 0) → ((¬ l11 = l12 → (P 76 103 [(0, .ref 0), (1, .int l1), (2, .int l2), (3, .int l3), (4, .int l4), (5, .int l5), (6, .int l6), (7, .int l7), (8, .int l8), (10, .int l10), (11, .int l11), (14, .int (0 : Int32))] [] M Q)) ∧ (¬ (¬ l11 = l12) → (P 76 103 [(0, .ref 0), (1, .int l1), (2, .int l2), (3, .int l3), (4, .int l4), (5, .int l5), (6, .int l6), (7, .int l7), (8, .int l8), (10, .int l10), (11, .int l11), (14, .int (1 : Int32))] [] M Q)))))) :
    P 76 92 [(0, .ref 0), (1, .int l1), (2, .int l2), (3, .int l3), (4, .int l4), (5, .int l5), (6, .int l6), (7, .int l7), (8, .int l8), (10, .int l10), (11, .int l11), (12, .int l12), (13, .int l13)] [] M Q := by
  exact qRun_ok hG (ops := qo_76) (cuts := qc_lw_areDifferences) rfl 230 92 _ _ _ _ hV
set_option maxRecDepth 100000 in
theorem v_lw_areDifferences_59 (hG : qGood Ls xs P) {l1 l2 l3 l4 l5 l6 l7 l8 l9 l10 l11 l12 l13 l14 s0 : Int32} {M : qMem} {Q : qPost}
    (hV : ((l13 = 0 → (P 76 69 [(0, .ref 0), (1, .int l1), (2, .int l2), (3, .int l3), (4, .int l4), (5, .int l5), (6, .int l6), (7, .int l7), (8, .int l8), (9, .int l9), (10, .int l10), (11, .int l11), (12, .int l12), (13, .int (0 : Int32)), (14, .int l14), (15, .int s0)] [] M Q)) ∧ (¬ (l13 = 0) → ((s0 = l2 → (P 76 69 [(0, .ref 0), (1, .int l1), (2, .int l2), (3, .int l3), (4, .int l4), (5, .int l5), (6, .int l6), (7, .int l7), (8, .int l8), (9, .int l9), (10, .int l10), (11, .int l11), (12, .int l12), (13, .int (0 : Int32)), (14, .int l14), (15, .int s0)] [] M Q)) ∧ (¬ (s0 = l2) → (P 76 69 [(0, .ref 0), (1, .int l1), (2, .int l2), (3, .int l3), (4, .int l4), (5, .int l5), (6, .int l6), (7, .int l7), (8, .int l8), (9, .int l9), (10, .int l10), (11, .int l11), (12, .int l12), (13, .int (1 : Int32)), (14, .int l14), (15, .int s0)] [] M Q)))))) :
    P 76 59 [(0, .ref 0), (1, .int l1), (2, .int l2), (3, .int l3), (4, .int l4), (5, .int l5), (6, .int l6), (7, .int l7), (8, .int l8), (9, .int l9), (10, .int l10), (11, .int l11), (12, .int l12), (13, .int l13), (14, .int l14)] [.int s0] M Q := by
  exact qRun_ok hG (ops := qo_76) (cuts := qc_lw_areDifferences) rfl 230 59 _ _ _ _ hV
set_option maxRecDepth 100000 in
theorem v_lw_areDifferences_135 (hG : qGood Ls xs P) {l1 l2 l3 l4 l5 l6 l7 l8 l10 l11 l14 l15 : Int32} {M : qMem} {Q : qPost}
    (hV : ((l14 = 0 → (narrow .boolean (.int (0 : Int32)) = .int (0 : Int32) ∧ Q (some (.int (0 : Int32))) M)) ∧ (¬ (l14 = 0) → ((l8 = l2 → ((¬ l15 = (0 : Int32) → (narrow .boolean (.int (0 : Int32)) = .int (0 : Int32) ∧ Q (some (.int (0 : Int32))) M)) ∧ (¬ (¬ l15 = (0 : Int32)) → ((l15 = 0 → (P 76 170 [(0, .ref 0), (1, .int l1), (2, .int l2), (3, .int l3), (4, .int l4), (5, .int l5), (6, .int l6), (7, .int l7), (8, .int l8), (10, .int l10), (11, .int l11)] [] M Q)) ∧ (¬ (l15 = 0) → (P 46 0 [(0, .ref 0), (1, .int (l7 + ((2 : Int32) * l1)))] [] M (fun v M' => P 76 155 [(0, .ref 0), (1, .int l1), (2, .int l2), (3, .int l3), (4, .int l4), (5, .int l5), (6, .int l6), (7, .int l7), (8, .int l8), (10, .int l10), (11, .int l11)] (v.toList ++ [.int l8]) M' Q))))))) ∧ (¬ (l8 = l2) → ((¬ l15 = (1 : Int32) → (narrow .boolean (.int (0 : Int32)) = .int (0 : Int32) ∧ Q (some (.int (0 : Int32))) M)) ∧ (¬ (¬ l15 = (1 : Int32)) → ((l15 = 0 → (P 76 170 [(0, .ref 0), (1, .int l1), (2, .int l2), (3, .int l3), (4, .int l4), (5, .int l5), (6, .int l6), (7, .int l7), (8, .int l8), (10, .int l10), (11, .int l11)] [] M Q)) ∧ (¬ (l15 = 0) → (P 46 0 [(0, .ref 0), (1, .int (l7 + ((2 : Int32) * l1)))] [] M (fun v M' => P 76 155 [(0, .ref 0), (1, .int l1), (2, .int l2), (3, .int l3), (4, .int l4), (5, .int l5), (6, .int l6), (7, .int l7), (8, .int l8), (10, .int l10), (11, .int l11)] (v.toList ++ [.int l8]) M' Q))))))))))) :
    P 76 135 [(0, .ref 0), (1, .int l1), (2, .int l2), (3, .int l3), (4, .int l4), (5, .int l5), (6, .int l6), (7, .int l7), (8, .int l8), (10, .int l10), (11, .int l11), (14, .int l14), (15, .int l15)] [] M Q := by
  exact qRun_ok hG (ops := qo_76) (cuts := qc_lw_areDifferences) rfl 230 135 _ _ _ _ hV
set_option maxRecDepth 100000 in
theorem v_lw_areDifferences_113 (hG : qGood Ls xs P) {l1 l2 l3 l4 l5 l6 l7 l8 l10 l11 l14 s0 : Int32} {M : qMem} {Q : qPost}
    (hV : ((s0 = l2 → (P 76 135 [(0, .ref 0), (1, .int l1), (2, .int l2), (3, .int l3), (4, .int l4), (5, .int l5), (6, .int l6), (7, .int l7), (8, .int l8), (10, .int l10), (11, .int l11), (14, .int l14), (15, .int (0 : Int32))] [] M Q)) ∧ (¬ (s0 = l2) → (P 46 0 [(0, .ref 0), (1, .int (l7 + l1))] [] M (fun v M' => P 76 120 [(0, .ref 0), (1, .int l1), (2, .int l2), (3, .int l3), (4, .int l4), (5, .int l5), (6, .int l6), (7, .int l7), (8, .int l8), (10, .int l10), (11, .int l11), (14, .int l14)] (v.toList ++ []) M' Q))))) :
    P 76 113 [(0, .ref 0), (1, .int l1), (2, .int l2), (3, .int l3), (4, .int l4), (5, .int l5), (6, .int l6), (7, .int l7), (8, .int l8), (10, .int l10), (11, .int l11), (14, .int l14)] [.int s0] M Q := by
  exact qRun_ok hG (ops := qo_76) (cuts := qc_lw_areDifferences) rfl 230 113 _ _ _ _ hV
set_option maxRecDepth 100000 in
theorem v_lw_areDifferences_69 (hG : qGood Ls xs P) {l1 l2 l3 l4 l5 l6 l7 l8 l9 l10 l11 l12 l13 l14 l15 : Int32} {M : qMem} {Q : qPost}
    (hV : ((l13 = 0 → (P 76 77 [(0, .ref 0), (1, .int l1), (2, .int l2), (3, .int l3), (4, .int l4), (5, .int l5), (6, .int l6), (7, .int l7), (8, .int l8), (9, .int l9), (10, .int l10), (11, .int l11), (12, .int l12), (13, .int l13), (14, .int l14)] [] M Q)) ∧ (¬ (l13 = 0) → (P 76 77 [(0, .ref 0), (1, .int l1), (2, .int l2), (3, .int l3), (4, .int l4), (5, .int l5), (6, .int l6), (7, .int l7), (8, .int l8), (9, .int l9), (10, .int l10), (11, .int l11), (12, .int (l12 + l15)), (13, .int l13), (14, .int l14)] [] M Q)))) :
    P 76 69 [(0, .ref 0), (1, .int l1), (2, .int l2), (3, .int l3), (4, .int l4), (5, .int l5), (6, .int l6), (7, .int l7), (8, .int l8), (9, .int l9), (10, .int l10), (11, .int l11), (12, .int l12), (13, .int l13), (14, .int l14), (15, .int l15)] [] M Q := by
  exact qRun_ok hG (ops := qo_76) (cuts := qc_lw_areDifferences) rfl 230 69 _ _ _ _ hV
set_option maxRecDepth 100000 in
theorem v_lw_areDifferences_170 (hG : qGood Ls xs P) {l1 l2 l3 l4 l5 l6 l7 l8 l10 l11 : Int32} {M : qMem} {Q : qPost}
    (hV : ((l8 = l2 → (P 76 179 [(0, .ref 0), (1, .int l1), (2, .int l2), (3, .int l3), (4, .int l4), (5, .int l5), (6, .int l6), (7, .int l7), (10, .int l10), (11, .int l11)] [] M Q)) ∧ (¬ (l8 = l2) → (P 76 179 [(0, .ref 0), (1, .int l1), (2, .int l2), (3, .int l3), (4, .int (l4 + (1 : Int32))), (5, .int l5), (6, .int l6), (7, .int l7), (10, .int l10), (11, .int l11)] [] M Q)))) :
    P 76 170 [(0, .ref 0), (1, .int l1), (2, .int l2), (3, .int l3), (4, .int l4), (5, .int l5), (6, .int l6), (7, .int l7), (8, .int l8), (10, .int l10), (11, .int l11)] [] M Q := by
  exact qRun_ok hG (ops := qo_76) (cuts := qc_lw_areDifferences) rfl 230 170 _ _ _ _ hV
set_option maxRecDepth 100000 in
theorem v_lw_areDifferences_155 (hG : qGood Ls xs P) {l1 l2 l3 l4 l5 l6 l7 l8 l10 l11 s0 s1 : Int32} {M : qMem} {Q : qPost}
    (hV : (P 46 0 [(0, .ref 0), (1, .int (l7 + l1))] [] M (fun v M' => P 76 161 [(0, .ref 0), (1, .int l1), (2, .int l2), (3, .int l3), (4, .int l4), (5, .int l5), (6, .int l6), (7, .int l7), (8, .int l8), (10, .int l10), (11, .int l11)] (v.toList ++ [.int (2 : Int32), .int s0, .int s1]) M' Q))) :
    P 76 155 [(0, .ref 0), (1, .int l1), (2, .int l2), (3, .int l3), (4, .int l4), (5, .int l5), (6, .int l6), (7, .int l7), (8, .int l8), (10, .int l10), (11, .int l11)] [.int s0, .int s1] M Q := by
  exact qRun_ok hG (ops := qo_76) (cuts := qc_lw_areDifferences) rfl 230 155 _ _ _ _ hV
set_option maxRecDepth 100000 in
theorem v_lw_areDifferences_120 (hG : qGood Ls xs P) {l1 l2 l3 l4 l5 l6 l7 l8 l10 l11 l14 s0 : Int32} {M : qMem} {Q : qPost}
    (hV : ((s0 = l2 → (P 76 135 [(0, .ref 0), (1, .int l1), (2, .int l2), (3, .int l3), (4, .int l4), (5, .int l5), (6, .int l6), (7, .int l7), (8, .int l8), (10, .int l10), (11, .int l11), (14, .int l14), (15, .int (0 : Int32))] [] M Q)) ∧ (¬ (s0 = l2) → (P 46 0 [(0, .ref 0), (1, .int (l7 + ((2 : Int32) * l1)))] [] M (fun v M' => P 76 129 [(0, .ref 0), (1, .int l1), (2, .int l2), (3, .int l3), (4, .int l4), (5, .int l5), (6, .int l6), (7, .int l7), (8, .int l8), (10, .int l10), (11, .int l11), (14, .int l14)] (v.toList ++ []) M' Q))))) :
    P 76 120 [(0, .ref 0), (1, .int l1), (2, .int l2), (3, .int l3), (4, .int l4), (5, .int l5), (6, .int l6), (7, .int l7), (8, .int l8), (10, .int l10), (11, .int l11), (14, .int l14)] [.int s0] M Q := by
  exact qRun_ok hG (ops := qo_76) (cuts := qc_lw_areDifferences) rfl 230 120 _ _ _ _ hV
set_option maxRecDepth 100000 in
theorem v_lw_areDifferences_77 (hG : qGood Ls xs P) {l1 l2 l3 l4 l5 l6 l7 l8 l9 l10 l11 l12 l13 l14 : Int32} {M : qMem} {Q : qPost}
    (hV : (P 76 49 [(0, .ref 0), (1, .int l1), (2, .int l2), (3, .int l3), (4, .int l4), (5, .int l5), (6, .int l6), (7, .int l7), (8, .int l8), (9, .int l9), (10, .int l10), (11, .int l11), (12, .int l12), (13, .int l13), (14, .int (l14 + (1 : Int32)))] [] M Q)) :
    P 76 77 [(0, .ref 0), (1, .int l1), (2, .int l2), (3, .int l3), (4, .int l4), (5, .int l5), (6, .int l6), (7, .int l7), (8, .int l8), (9, .int l9), (10, .int l10), (11, .int l11), (12, .int l12), (13, .int l13), (14, .int l14)] [] M Q := by
  exact qRun_ok hG (ops := qo_76) (cuts := qc_lw_areDifferences) rfl 230 77 _ _ _ _ hV
set_option maxRecDepth 100000 in
theorem v_lw_areDifferences_179 (hG : qGood Ls xs P) {l1 l2 l3 l4 l5 l6 l7 l10 l11 : Int32} {M : qMem} {Q : qPost}
    (hV : ((l10 = l2 → (P 76 188 [(0, .ref 0), (1, .int l1), (2, .int l2), (3, .int l3), (4, .int l4), (5, .int l5), (6, .int l6), (7, .int l7), (11, .int l11)] [] M Q)) ∧ (¬ (l10 = l2) → (P 76 188 [(0, .ref 0), (1, .int l1), (2, .int l2), (3, .int l3), (4, .int l4), (5, .int (l5 + (1 : Int32))), (6, .int l6), (7, .int l7), (11, .int l11)] [] M Q)))) :
    P 76 179 [(0, .ref 0), (1, .int l1), (2, .int l2), (3, .int l3), (4, .int l4), (5, .int l5), (6, .int l6), (7, .int l7), (10, .int l10), (11, .int l11)] [] M Q := by
  exact qRun_ok hG (ops := qo_76) (cuts := qc_lw_areDifferences) rfl 230 179 _ _ _ _ hV
set_option maxRecDepth 100000 in
theorem v_lw_areDifferences_161 (hG : qGood Ls xs P) {l1 l2 l3 l4 l5 l6 l7 l8 l10 l11 s0 s1 s2 s3 : Int32} {M : qMem} {Q : qPost}
    (hV : (P 46 0 [(0, .ref 0), (1, .int l7)] [] M (fun v M' => P 76 166 [(0, .ref 0), (1, .int l1), (2, .int l2), (3, .int l3), (4, .int l4), (5, .int l5), (6, .int l6), (7, .int l7), (8, .int l8), (10, .int l10), (11, .int l11)] (v.toList ++ [.int (s2 - (s1 * s0)), .int s3]) M' Q))) :
    P 76 161 [(0, .ref 0), (1, .int l1), (2, .int l2), (3, .int l3), (4, .int l4), (5, .int l5), (6, .int l6), (7, .int l7), (8, .int l8), (10, .int l10), (11, .int l11)] [.int s0, .int s1, .int s2, .int s3] M Q := by
  exact qRun_ok hG (ops := qo_76) (cuts := qc_lw_areDifferences) rfl 230 161 _ _ _ _ hV
set_option maxRecDepth 100000 in
theorem v_lw_areDifferences_129 (hG : qGood Ls xs P) {l1 l2 l3 l4 l5 l6 l7 l8 l10 l11 l14 s0 : Int32} {M : qMem} {Q : qPost}
    (hV : ((s0 = l2 → (P 76 135 [(0, .ref 0), (1, .int l1), (2, .int l2), (3, .int l3), (4, .int l4), (5, .int l5), (6, .int l6), (7, .int l7), (8, .int l8), (10, .int l10), (11, .int l11), (14, .int l14), (15, .int (0 : Int32))] [] M Q)) ∧ (¬ (s0 = l2) → (P 76 135 [(0, .ref 0), (1, .int l1), (2, .int l2), (3, .int l3), (4, .int l4), (5, .int l5), (6, .int l6), (7, .int l7), (8, .int l8), (10, .int l10), (11, .int l11), (14, .int l14), (15, .int (1 : Int32))] [] M Q)))) :
    P 76 129 [(0, .ref 0), (1, .int l1), (2, .int l2), (3, .int l3), (4, .int l4), (5, .int l5), (6, .int l6), (7, .int l7), (8, .int l8), (10, .int l10), (11, .int l11), (14, .int l14)] [.int s0] M Q := by
  exact qRun_ok hG (ops := qo_76) (cuts := qc_lw_areDifferences) rfl 230 129 _ _ _ _ hV
set_option maxRecDepth 100000 in
theorem v_lw_areDifferences_188 (hG : qGood Ls xs P) {l1 l2 l3 l4 l5 l6 l7 l11 : Int32} {M : qMem} {Q : qPost}
    (hV : ((l11 = l2 → (P 76 197 [(0, .ref 0), (1, .int l1), (2, .int l2), (3, .int l3), (4, .int l4), (5, .int l5), (6, .int l6), (7, .int l7)] [] M Q)) ∧ (¬ (l11 = l2) → (P 76 197 [(0, .ref 0), (1, .int l1), (2, .int l2), (3, .int l3), (4, .int l4), (5, .int l5), (6, .int (l6 + (1 : Int32))), (7, .int l7)] [] M Q)))) :
    P 76 188 [(0, .ref 0), (1, .int l1), (2, .int l2), (3, .int l3), (4, .int l4), (5, .int l5), (6, .int l6), (7, .int l7), (11, .int l11)] [] M Q := by
  exact qRun_ok hG (ops := qo_76) (cuts := qc_lw_areDifferences) rfl 230 188 _ _ _ _ hV
set_option maxRecDepth 100000 in
theorem v_lw_areDifferences_166 (hG : qGood Ls xs P) {l1 l2 l3 l4 l5 l6 l7 l8 l10 l11 s0 s1 s2 : Int32} {M : qMem} {Q : qPost}
    (hV : ((s2 = (s1 + s0) → (P 76 170 [(0, .ref 0), (1, .int l1), (2, .int l2), (3, .int l3), (4, .int l4), (5, .int l5), (6, .int l6), (7, .int l7), (8, .int l8), (10, .int l10), (11, .int l11)] [] M Q)) ∧ (¬ (s2 = (s1 + s0)) → (narrow .boolean (.int (0 : Int32)) = .int (0 : Int32) ∧ Q (some (.int (0 : Int32))) M)))) :
    P 76 166 [(0, .ref 0), (1, .int l1), (2, .int l2), (3, .int l3), (4, .int l4), (5, .int l5), (6, .int l6), (7, .int l7), (8, .int l8), (10, .int l10), (11, .int l11)] [.int s0, .int s1, .int s2] M Q := by
  exact qRun_ok hG (ops := qo_76) (cuts := qc_lw_areDifferences) rfl 230 166 _ _ _ _ hV
set_option maxRecDepth 100000 in
theorem v_lw_areDifferences_197 (hG : qGood Ls xs P) {l1 l2 l3 l4 l5 l6 l7 : Int32} {M : qMem} {Q : qPost}
    (hV : (P 76 14 [(0, .ref 0), (1, .int l1), (2, .int l2), (3, .int l3), (4, .int l4), (5, .int l5), (6, .int l6), (7, .int (l7 + (1 : Int32)))] [] M Q)) :
    P 76 197 [(0, .ref 0), (1, .int l1), (2, .int l2), (3, .int l3), (4, .int l4), (5, .int l5), (6, .int l6), (7, .int l7)] [] M Q := by
  exact qRun_ok hG (ops := qo_76) (cuts := qc_lw_areDifferences) rfl 230 197 _ _ _ _ hV
def qc_lw_isVariance : List (Nat × List Nat) := [(5, [0, 1, 2]), (11, [0, 1, 2, 3]), (27, [0, 1, 2, 3, 5]), (40, [0, 1, 2]), (48, []), (58, [0, 1, 2, 3, 5, 8, 10]), (75, [0, 1, 2, 3, 5, 8]), (90, [0, 1, 2, 3, 5, 8, 12, 14]), (127, [0, 1, 2, 3, 5]), (132, [0, 1, 2, 3, 5, 16]), (140, [0, 1, 2, 3, 5, 16]), (146, [0, 1, 2, 3, 5, 16, 17]), (163, [0, 1, 2, 3, 5, 16, 21, 23, 25, 27]), (176, [0, 1, 2, 3, 5, 16, 21, 23, 25]), (194, [0, 1, 2, 3, 5, 16]), (208, [0, 5]), (216, [])]
set_option maxRecDepth 100000 in
theorem v_lw_isVariance_0 (hG : qGood Ls xs P) {l1 l2 : Int32} {M : qMem} {Q : qPost}
    (hV : (P 49 0 [(0, .ref 0), (1, .int l1), (2, .int l2), (3, .int (0 : Int32))] [] M (fun v M' => P 77 5 [(0, .ref 0), (1, .int l1), (2, .int l2)] (v.toList ++ []) M' Q))) :
    P 77 0 [(0, .ref 0), (1, .int l1), (2, .int l2)] [] M Q := by
  exact qRun_ok hG (ops := qo_77) (cuts := qc_lw_isVariance) rfl 224 0 _ _ _ _ hV
set_option maxRecDepth 100000 in
theorem v_lw_isVariance_5 (hG : qGood Ls xs P) {s0 : Int64} {l1 l2 : Int32} {M : qMem} {Q : qPost}
    (hV : (P 49 0 [(0, .ref 0), (1, .int l1), (2, .int l2), (3, .int (1 : Int32))] [] M (fun v M' => P 77 11 [(0, .ref 0), (1, .int l1), (2, .int l2), (3, .long s0)] (v.toList ++ []) M' Q))) :
    P 77 5 [(0, .ref 0), (1, .int l1), (2, .int l2)] [.long s0] M Q := by
  exact qRun_ok hG (ops := qo_77) (cuts := qc_lw_isVariance) rfl 224 5 _ _ _ _ hV
set_option maxRecDepth 100000 in
theorem v_lw_isVariance_11 (hG : qGood Ls xs P) {l3 s0 : Int64} {l1 l2 : Int32} {M : qMem} {Q : qPost}
    (hV : ((¬ l1 = 0 → ((¬ l1 = (1 : Int32) → (P 48 0 [(0, .ref 0), (1, .int (4 : Int32)), (2, .int l2)] [] M (fun v M' => P 77 27 [(0, .ref 0), (1, .int l1), (2, .int l2), (3, .long l3), (5, .long s0)] (v.toList ++ []) M' Q))) ∧ (¬ (¬ l1 = (1 : Int32)) → (P 48 0 [(0, .ref 0), (1, .int (3 : Int32)), (2, .int l2)] [] M (fun v M' => P 77 27 [(0, .ref 0), (1, .int l1), (2, .int l2), (3, .long l3), (5, .long s0)] (v.toList ++ []) M' Q))))) ∧ (¬ (¬ l1 = 0) → (P 48 0 [(0, .ref 0), (1, .int (2 : Int32)), (2, .int l2)] [] M (fun v M' => P 77 27 [(0, .ref 0), (1, .int l1), (2, .int l2), (3, .long l3), (5, .long s0)] (v.toList ++ []) M' Q))))) :
    P 77 11 [(0, .ref 0), (1, .int l1), (2, .int l2), (3, .long l3)] [.long s0] M Q := by
  exact qRun_ok hG (ops := qo_77) (cuts := qc_lw_isVariance) rfl 224 11 _ _ _ _ hV
set_option maxRecDepth 100000 in
theorem v_lw_isVariance_27 (hG : qGood Ls xs P) {l3 l5 : Int64} {l1 l2 s0 : Int32} {M : qMem} {Q : qPost}
    (hV : ((¬ s0 = 0 → (P 77 58 [(0, .ref 0), (1, .int l1), (2, .int l2), (3, .long l3), (5, .long l5), (8, .long l3), (10, .long l5)] [] M Q)) ∧ (¬ (¬ s0 = 0) → ((¬ (lg_cmp l3 (-1000000001 : Int64)) = 0 → (narrow .boolean (.int (0 : Int32)) = .int (0 : Int32) ∧ Q (some (.int (0 : Int32))) M)) ∧ (¬ (¬ (lg_cmp l3 (-1000000001 : Int64)) = 0) → ((¬ (lg_cmp l5 (-1000000001 : Int64)) = 0 → (narrow .boolean (.int (0 : Int32)) = .int (0 : Int32) ∧ Q (some (.int (0 : Int32))) M)) ∧ (¬ (¬ (lg_cmp l5 (-1000000001 : Int64)) = 0) → (P 50 0 [(0, .ref 0), (1, .int l1), (2, .int l2)] [] M (fun v M' => P 77 40 [(0, .ref 0), (1, .int l1), (2, .int l2)] (v.toList ++ []) M' Q))))))))) :
    P 77 27 [(0, .ref 0), (1, .int l1), (2, .int l2), (3, .long l3), (5, .long l5)] [.int s0] M Q := by
  exact qRun_ok hG (ops := qo_77) (cuts := qc_lw_isVariance) rfl 224 27 _ _ _ _ hV
set_option maxRecDepth 100000 in
theorem v_lw_isVariance_58 (hG : qGood Ls xs P) {l3 l5 l8 l10 : Int64} {l1 l2 : Int32} {M : qMem} {Q : qPost}
    (hV : (((lg_cmp l10 (0 : Int64)) = 0 → (P 50 0 [(0, .ref 0), (1, .int l1), (2, .int l2)] [] M (fun v M' => P 77 75 [(0, .ref 0), (1, .int l1), (2, .int l2), (3, .long l3), (5, .long l5), (8, .long l8)] (v.toList ++ []) M' Q))) ∧ (¬ ((lg_cmp l10 (0 : Int64)) = 0) → (¬ l10 = 0 ∧ (P 77 58 [(0, .ref 0), (1, .int l1), (2, .int l2), (3, .long l3), (5, .long l5), (8, .long l10), (10, .long (l8 - l8 / l10 * l10))] [] M Q))))) :
    P 77 58 [(0, .ref 0), (1, .int l1), (2, .int l2), (3, .long l3), (5, .long l5), (8, .long l8), (10, .long l10)] [] M Q := by
  exact qRun_ok hG (ops := qo_77) (cuts := qc_lw_isVariance) rfl 224 58 _ _ _ _ hV
set_option maxRecDepth 100000 in
theorem v_lw_isVariance_40 (hG : qGood Ls xs P) {s0 : Int64} {l1 l2 : Int32} {M : qMem} {Q : qPost}
    (hV : ((¬ (lg_cmp s0 (-1000000001 : Int64)) = 0 → (narrow .boolean (.int (0 : Int32)) = .int (0 : Int32) ∧ Q (some (.int (0 : Int32))) M)) ∧ (¬ (¬ (lg_cmp s0 (-1000000001 : Int64)) = 0) → (P 51 0 [(0, .ref 0), (1, .int l1), (2, .int l2), (3, .int l2)] [] M (fun v M' => P 77 48 [] (v.toList ++ []) M' Q))))) :
    P 77 40 [(0, .ref 0), (1, .int l1), (2, .int l2)] [.long s0] M Q := by
  exact qRun_ok hG (ops := qo_77) (cuts := qc_lw_isVariance) rfl 224 40 _ _ _ _ hV
set_option maxRecDepth 100000 in
theorem v_lw_isVariance_75 (hG : qGood Ls xs P) {l3 l5 l8 s0 : Int64} {l1 l2 : Int32} {M : qMem} {Q : qPost}
    (hV : (¬ l5 = 0 ∧ (¬ l5 = 0 ∧ (¬ l5 = 0 ∧ (P 77 90 [(0, .ref 0), (1, .int l1), (2, .int l2), (3, .long l3), (5, .long l5), (8, .long l8), (12, .long s0), (14, .long (((l3 / l5) * (1000000 : Int64)) + (((l3 - l3 / l5 * l5) * (1000000 : Int64)) / l5)))] [] M Q))))) :
    P 77 75 [(0, .ref 0), (1, .int l1), (2, .int l2), (3, .long l3), (5, .long l5), (8, .long l8)] [.long s0] M Q := by
  exact qRun_ok hG (ops := qo_77) (cuts := qc_lw_isVariance) rfl 224 75 _ _ _ _ hV
set_option maxRecDepth 100000 in
theorem v_lw_isVariance_48 (hG : qGood Ls xs P) {s0 : Int32} {M : qMem} {Q : qPost}
    (hV : ((¬ s0 = (-1000000001 : Int32) → (narrow .boolean (.int (0 : Int32)) = .int (0 : Int32) ∧ Q (some (.int (0 : Int32))) M)) ∧ (¬ (¬ s0 = (-1000000001 : Int32)) → (narrow .boolean (.int (1 : Int32)) = .int (1 : Int32) ∧ Q (some (.int (1 : Int32))) M)))) :
    P 77 48 [] [.int s0] M Q := by
  exact qRun_ok hG (ops := qo_77) (cuts := qc_lw_isVariance) rfl 224 48 _ _ _ _ hV
set_option maxRecDepth 100000 in
theorem v_lw_isVariance_90 (hG : qGood Ls xs P) {l3 l5 l8 l12 l14 : Int64} {l1 l2 : Int32} {M : qMem} {Q : qPost}
    (hV : (((lg_cmp l3 (0 : Int64)) < 0 → (P 77 132 [(0, .ref 0), (1, .int l1), (2, .int l2), (3, .long l3), (5, .long l5), (16, .int (0 : Int32))] [] M Q)) ∧ (¬ ((lg_cmp l3 (0 : Int64)) < 0) → (((lg_cmp l5 (0 : Int64)) ≤ 0 → (P 77 132 [(0, .ref 0), (1, .int l1), (2, .int l2), (3, .long l3), (5, .long l5), (16, .int (0 : Int32))] [] M Q)) ∧ (¬ ((lg_cmp l5 (0 : Int64)) ≤ 0) → ((¬ (lg_cmp l8 (1 : Int64)) = 0 → (P 77 132 [(0, .ref 0), (1, .int l1), (2, .int l2), (3, .long l3), (5, .long l5), (16, .int (0 : Int32))] [] M Q)) ∧ (¬ (¬ (lg_cmp l8 (1 : Int64)) = 0) → (((lg_cmp l12 (0 : Int64)) < 0 → (P 77 132 [(0, .ref 0), (1, .int l1), (2, .int l2), (3, .long l3), (5, .long l5), (16, .int (0 : Int32))] [] M Q)) ∧ (¬ ((lg_cmp l12 (0 : Int64)) < 0) → ((0 < (lg_cmp (l12 * l12) l14) → (P 77 132 [(0, .ref 0), (1, .int l1), (2, .int l2), (3, .long l3), (5, .long l5), (16, .int (0 : Int32))] [] M Q)) ∧ (¬ (0 < (lg_cmp (l12 * l12) l14)) → (((lg_cmp ((l12 + (1 : Int64)) * (l12 + (1 : Int64))) l14) ≤ 0 → (P 77 132 [(0, .ref 0), (1, .int l1), (2, .int l2), (3, .long l3), (5, .long l5), (16, .int (0 : Int32))] [] M Q)) ∧ (¬ ((lg_cmp ((l12 + (1 : Int64)) * (l12 + (1 : Int64))) l14) ≤ 0) → (P 51 0 [(0, .ref 0), (1, .int l1), (2, .int l2), (3, .int l2)] [] M (fun v M' => P 77 127 [(0, .ref 0), (1, .int l1), (2, .int l2), (3, .long l3), (5, .long l5)] (v.toList ++ []) M' Q))))))))))))))) :
    P 77 90 [(0, .ref 0), (1, .int l1), (2, .int l2), (3, .long l3), (5, .long l5), (8, .long l8), (12, .long l12), (14, .long l14)] [] M Q := by
  exact qRun_ok hG (ops := qo_77) (cuts := qc_lw_isVariance) rfl 224 90 _ _ _ _ hV
set_option maxRecDepth 100000 in
theorem v_lw_isVariance_132 (hG : qGood Ls xs P) {l3 l5 : Int64} {l1 l2 l16 : Int32} {M : qMem} {Q : qPost}
    (hV : ((¬ l1 = (3 : Int32) → (P 77 194 [(0, .ref 0), (1, .int l1), (2, .int l2), (3, .long l3), (5, .long l5), (16, .int l16)] [] M Q)) ∧ (¬ (¬ l1 = (3 : Int32)) → (P 49 0 [(0, .ref 0), (1, .int (2 : Int32)), (2, .int l2), (3, .int (0 : Int32))] [] M (fun v M' => P 77 140 [(0, .ref 0), (1, .int l1), (2, .int l2), (3, .long l3), (5, .long l5), (16, .int l16)] (v.toList ++ []) M' Q))))) :
    P 77 132 [(0, .ref 0), (1, .int l1), (2, .int l2), (3, .long l3), (5, .long l5), (16, .int l16)] [] M Q := by
  exact qRun_ok hG (ops := qo_77) (cuts := qc_lw_isVariance) rfl 224 132 _ _ _ _ hV
set_option maxRecDepth 100000 in
theorem v_lw_isVariance_127 (hG : qGood Ls xs P) {l3 l5 : Int64} {l1 l2 s0 : Int32} {M : qMem} {Q : qPost}
    (hV : ((¬ s0 = 0 → (P 77 132 [(0, .ref 0), (1, .int l1), (2, .int l2), (3, .long l3), (5, .long l5), (16, .int (0 : Int32))] [] M Q)) ∧ (¬ (¬ s0 = 0) → (P 77 132 [(0, .ref 0), (1, .int l1), (2, .int l2), (3, .long l3), (5, .long l5), (16, .int (1 : Int32))] [] M Q)))) :
    P 77 127 [(0, .ref 0), (1, .int l1), (2, .int l2), (3, .long l3), (5, .long l5)] [.int s0] M Q := by
  exact qRun_ok hG (ops := qo_77) (cuts := qc_lw_isVariance) rfl 224 127 _ _ _ _ hV
set_option maxRecDepth 100000 in
theorem v_lw_isVariance_194 (hG : qGood Ls xs P) {l3 l5 : Int64} {l1 l2 l16 : Int32} {M : qMem} {Q : qPost}
    (hV : ((l16 = 0 → (narrow .boolean (.int (0 : Int32)) = .int (0 : Int32) ∧ Q (some (.int (0 : Int32))) M)) ∧ (¬ (l16 = 0) → (((1 : Int32) < l2 → (narrow .boolean (.int (1 : Int32)) = .int (1 : Int32) ∧ Q (some (.int (1 : Int32))) M)) ∧ (¬ ((1 : Int32) < l2) → ((¬ l1 = (2 : Int32) → (narrow .boolean (.int (1 : Int32)) = .int (1 : Int32) ∧ Q (some (.int (1 : Int32))) M)) ∧ (¬ (¬ l1 = (2 : Int32)) → (P 49 0 [(0, .ref 0), (1, .int (0 : Int32)), (2, .int (1 : Int32)), (3, .int (0 : Int32))] [] M (fun v M' => P 77 208 [(0, .ref 0), (5, .long l5)] (v.toList ++ [.long l3]) M' Q))))))))) :
    P 77 194 [(0, .ref 0), (1, .int l1), (2, .int l2), (3, .long l3), (5, .long l5), (16, .int l16)] [] M Q := by
  exact qRun_ok hG (ops := qo_77) (cuts := qc_lw_isVariance) rfl 224 194 _ _ _ _ hV
set_option maxRecDepth 100000 in
theorem v_lw_isVariance_140 (hG : qGood Ls xs P) {l3 l5 s0 : Int64} {l1 l2 l16 : Int32} {M : qMem} {Q : qPost}
    (hV : (P 49 0 [(0, .ref 0), (1, .int (2 : Int32)), (2, .int l2), (3, .int (1 : Int32))] [] M (fun v M' => P 77 146 [(0, .ref 0), (1, .int l1), (2, .int l2), (3, .long l3), (5, .long l5), (16, .int l16), (17, .long s0)] (v.toList ++ []) M' Q))) :
    P 77 140 [(0, .ref 0), (1, .int l1), (2, .int l2), (3, .long l3), (5, .long l5), (16, .int l16)] [.long s0] M Q := by
  exact qRun_ok hG (ops := qo_77) (cuts := qc_lw_isVariance) rfl 224 140 _ _ _ _ hV
set_option maxRecDepth 100000 in
theorem v_lw_isVariance_208 (hG : qGood Ls xs P) {l5 s0 s1 : Int64} {M : qMem} {Q : qPost}
    (hV : ((¬ (lg_cmp s1 s0) = 0 → (narrow .boolean (.int (0 : Int32)) = .int (0 : Int32) ∧ Q (some (.int (0 : Int32))) M)) ∧ (¬ (¬ (lg_cmp s1 s0) = 0) → (P 49 0 [(0, .ref 0), (1, .int (0 : Int32)), (2, .int (1 : Int32)), (3, .int (1 : Int32))] [] M (fun v M' => P 77 216 [] (v.toList ++ [.long l5]) M' Q))))) :
    P 77 208 [(0, .ref 0), (5, .long l5)] [.long s0, .long s1] M Q := by
  exact qRun_ok hG (ops := qo_77) (cuts := qc_lw_isVariance) rfl 224 208 _ _ _ _ hV
set_option maxRecDepth 100000 in
theorem v_lw_isVariance_146 (hG : qGood Ls xs P) {l3 l5 l17 s0 : Int64} {l1 l2 l16 : Int32} {M : qMem} {Q : qPost}
    (hV : (P 77 163 [(0, .ref 0), (1, .int l1), (2, .int l2), (3, .long l3), (5, .long l5), (16, .int l16), (21, .long ((l17 * l2.toInt64) * l2.toInt64)), (23, .long ((3 : Int64) * s0)), (25, .long ((l17 * l2.toInt64) * l2.toInt64)), (27, .long ((3 : Int64) * s0))] [] M Q)) :
    P 77 146 [(0, .ref 0), (1, .int l1), (2, .int l2), (3, .long l3), (5, .long l5), (16, .int l16), (17, .long l17)] [.long s0] M Q := by
  exact qRun_ok hG (ops := qo_77) (cuts := qc_lw_isVariance) rfl 224 146 _ _ _ _ hV
set_option maxRecDepth 100000 in
theorem v_lw_isVariance_216 (hG : qGood Ls xs P) {s0 s1 : Int64} {M : qMem} {Q : qPost}
    (hV : ((¬ (lg_cmp s1 s0) = 0 → (narrow .boolean (.int (0 : Int32)) = .int (0 : Int32) ∧ Q (some (.int (0 : Int32))) M)) ∧ (¬ (¬ (lg_cmp s1 s0) = 0) → (narrow .boolean (.int (1 : Int32)) = .int (1 : Int32) ∧ Q (some (.int (1 : Int32))) M)))) :
    P 77 216 [] [.long s0, .long s1] M Q := by
  exact qRun_ok hG (ops := qo_77) (cuts := qc_lw_isVariance) rfl 224 216 _ _ _ _ hV
set_option maxRecDepth 100000 in
theorem v_lw_isVariance_163 (hG : qGood Ls xs P) {l3 l5 l21 l23 l25 l27 : Int64} {l1 l2 l16 : Int32} {M : qMem} {Q : qPost}
    (hV : (((lg_cmp l27 (0 : Int64)) = 0 → (P 77 176 [(0, .ref 0), (1, .int l1), (2, .int l2), (3, .long l3), (5, .long l5), (16, .int l16), (21, .long l21), (23, .long l23), (25, .long l25)] [] M Q)) ∧ (¬ ((lg_cmp l27 (0 : Int64)) = 0) → (¬ l27 = 0 ∧ (P 77 163 [(0, .ref 0), (1, .int l1), (2, .int l2), (3, .long l3), (5, .long l5), (16, .int l16), (21, .long l21), (23, .long l23), (25, .long l27), (27, .long (l25 - l25 / l27 * l27))] [] M Q))))) :
    P 77 163 [(0, .ref 0), (1, .int l1), (2, .int l2), (3, .long l3), (5, .long l5), (16, .int l16), (21, .long l21), (23, .long l23), (25, .long l25), (27, .long l27)] [] M Q := by
  exact qRun_ok hG (ops := qo_77) (cuts := qc_lw_isVariance) rfl 224 163 _ _ _ _ hV
set_option maxRecDepth 100000 in
theorem v_lw_isVariance_176 (hG : qGood Ls xs P) {l3 l5 l21 l23 l25 : Int64} {l1 l2 l16 : Int32} {M : qMem} {Q : qPost}
    (hV : ((l16 = 0 → (P 77 194 [(0, .ref 0), (1, .int l1), (2, .int l2), (3, .long l3), (5, .long l5), (16, .int (0 : Int32))] [] M Q)) ∧ (¬ (l16 = 0) → (¬ l25 = 0 ∧ ((¬ (lg_cmp l3 (l21 / l25)) = 0 → (P 77 194 [(0, .ref 0), (1, .int l1), (2, .int l2), (3, .long l3), (5, .long l5), (16, .int (0 : Int32))] [] M Q)) ∧ (¬ (¬ (lg_cmp l3 (l21 / l25)) = 0) → (¬ l25 = 0 ∧ ((¬ (lg_cmp l5 (l23 / l25)) = 0 → (P 77 194 [(0, .ref 0), (1, .int l1), (2, .int l2), (3, .long l3), (5, .long l5), (16, .int (0 : Int32))] [] M Q)) ∧ (¬ (¬ (lg_cmp l5 (l23 / l25)) = 0) → (P 77 194 [(0, .ref 0), (1, .int l1), (2, .int l2), (3, .long l3), (5, .long l5), (16, .int (1 : Int32))] [] M Q)))))))))) :
    P 77 176 [(0, .ref 0), (1, .int l1), (2, .int l2), (3, .long l3), (5, .long l5), (16, .int l16), (21, .long l21), (23, .long l23), (25, .long l25)] [] M Q := by
  exact qRun_ok hG (ops := qo_77) (cuts := qc_lw_isVariance) rfl 224 176 _ _ _ _ hV
def qc_lw_areCompared : List (Nat × List Nat) := [(3, [0, 1]), (6, [0, 1, 2, 3]), (14, [0, 1, 2, 3]), (21, [0, 1, 2, 3, 4]), (26, [0, 1, 2, 3, 4]), (36, [0, 1, 2, 3, 4]), (43, [0, 1, 2, 3, 4]), (49, [0, 1, 2, 3, 4]), (59, [0, 1, 2, 3]), (64, [0, 1, 2, 3]), (70, [0, 1, 2, 3])]
set_option maxRecDepth 100000 in
theorem v_lw_areCompared_0 (hG : qGood Ls xs P) {l1 : Int32} {M : qMem} {Q : qPost}
    (hV : (P 52 0 [(0, .ref 0), (1, .int l1)] [] M (fun v M' => P 78 3 [(0, .ref 0), (1, .int l1)] (v.toList ++ []) M' Q))) :
    P 78 0 [(0, .ref 0), (1, .int l1)] [] M Q := by
  exact qRun_ok hG (ops := qo_78) (cuts := qc_lw_areCompared) rfl 76 0 _ _ _ _ hV
set_option maxRecDepth 100000 in
theorem v_lw_areCompared_3 (hG : qGood Ls xs P) {l1 s0 : Int32} {M : qMem} {Q : qPost}
    (hV : (P 78 6 [(0, .ref 0), (1, .int l1), (2, .int s0), (3, .int (1 : Int32))] [] M Q)) :
    P 78 3 [(0, .ref 0), (1, .int l1)] [.int s0] M Q := by
  exact qRun_ok hG (ops := qo_78) (cuts := qc_lw_areCompared) rfl 76 3 _ _ _ _ hV
set_option maxRecDepth 100000 in
theorem v_lw_areCompared_6 (hG : qGood Ls xs P) {l1 l2 l3 : Int32} {M : qMem} {Q : qPost}
    (hV : (((32 : Int32) ≤ l3 → (narrow .boolean (.int (1 : Int32)) = .int (1 : Int32) ∧ Q (some (.int (1 : Int32))) M)) ∧ (¬ ((32 : Int32) ≤ l3) → (P 49 0 [(0, .ref 0), (1, .int l1), (2, .int l3), (3, .int (1 : Int32))] [] M (fun v M' => P 78 14 [(0, .ref 0), (1, .int l1), (2, .int l2), (3, .int l3)] (v.toList ++ []) M' Q))))) :
    P 78 6 [(0, .ref 0), (1, .int l1), (2, .int l2), (3, .int l3)] [] M Q := by
  exact qRun_ok hG (ops := qo_78) (cuts := qc_lw_areCompared) rfl 76 6 _ _ _ _ hV
set_option maxRecDepth 100000 in
theorem v_lw_areCompared_14 (hG : qGood Ls xs P) {s0 : Int64} {l1 l2 l3 : Int32} {M : qMem} {Q : qPost}
    (hV : (((lg_cmp s0 (0 : Int64)) ≤ 0 → (P 78 21 [(0, .ref 0), (1, .int l1), (2, .int l2), (3, .int l3), (4, .int (0 : Int32))] [] M Q)) ∧ (¬ ((lg_cmp s0 (0 : Int64)) ≤ 0) → (P 78 21 [(0, .ref 0), (1, .int l1), (2, .int l2), (3, .int l3), (4, .int (1 : Int32))] [] M Q)))) :
    P 78 14 [(0, .ref 0), (1, .int l1), (2, .int l2), (3, .int l3)] [.long s0] M Q := by
  exact qRun_ok hG (ops := qo_78) (cuts := qc_lw_areCompared) rfl 76 14 _ _ _ _ hV
set_option maxRecDepth 100000 in
theorem v_lw_areCompared_21 (hG : qGood Ls xs P) {l1 l2 l3 l4 : Int32} {M : qMem} {Q : qPost}
    (hV : ((¬ l2 = (-1000000001 : Int32) → (P 78 26 [(0, .ref 0), (1, .int l1), (2, .int l2), (3, .int l3), (4, .int l4)] [] M Q)) ∧ (¬ (¬ l2 = (-1000000001 : Int32)) → ((¬ l4 = 0 → (narrow .boolean (.int (0 : Int32)) = .int (0 : Int32) ∧ Q (some (.int (0 : Int32))) M)) ∧ (¬ (¬ l4 = 0) → (P 78 26 [(0, .ref 0), (1, .int l1), (2, .int l2), (3, .int l3), (4, .int l4)] [] M Q)))))) :
    P 78 21 [(0, .ref 0), (1, .int l1), (2, .int l2), (3, .int l3), (4, .int l4)] [] M Q := by
  exact qRun_ok hG (ops := qo_78) (cuts := qc_lw_areCompared) rfl 76 21 _ _ _ _ hV
set_option maxRecDepth 100000 in
theorem v_lw_areCompared_26 (hG : qGood Ls xs P) {l1 l2 l3 l4 : Int32} {M : qMem} {Q : qPost}
    (hV : ((l2 = (-1000000001 : Int32) → (P 78 49 [(0, .ref 0), (1, .int l1), (2, .int l2), (3, .int l3), (4, .int l4)] [] M Q)) ∧ (¬ (l2 = (-1000000001 : Int32)) → ((l4 = 0 → (P 78 49 [(0, .ref 0), (1, .int l1), (2, .int l2), (3, .int l3), (4, .int l4)] [] M Q)) ∧ (¬ (l4 = 0) → (P 51 0 [(0, .ref 0), (1, .int l1), (2, .int l2), (3, .int l3)] [] M (fun v M' => P 78 36 [(0, .ref 0), (1, .int l1), (2, .int l2), (3, .int l3), (4, .int l4)] (v.toList ++ []) M' Q))))))) :
    P 78 26 [(0, .ref 0), (1, .int l1), (2, .int l2), (3, .int l3), (4, .int l4)] [] M Q := by
  exact qRun_ok hG (ops := qo_78) (cuts := qc_lw_areCompared) rfl 76 26 _ _ _ _ hV
set_option maxRecDepth 100000 in
theorem v_lw_areCompared_49 (hG : qGood Ls xs P) {l1 l2 l3 l4 : Int32} {M : qMem} {Q : qPost}
    (hV : ((l2 = (-1000000001 : Int32) → (P 78 70 [(0, .ref 0), (1, .int l1), (2, .int l2), (3, .int l3)] [] M Q)) ∧ (¬ (l2 = (-1000000001 : Int32)) → ((l4 = 0 → (P 78 70 [(0, .ref 0), (1, .int l1), (2, .int l2), (3, .int l3)] [] M Q)) ∧ (¬ (l4 = 0) → (P 51 0 [(0, .ref 0), (1, .int l1), (2, .int l2), (3, .int l3)] [] M (fun v M' => P 78 59 [(0, .ref 0), (1, .int l1), (2, .int l2), (3, .int l3)] (v.toList ++ []) M' Q))))))) :
    P 78 49 [(0, .ref 0), (1, .int l1), (2, .int l2), (3, .int l3), (4, .int l4)] [] M Q := by
  exact qRun_ok hG (ops := qo_78) (cuts := qc_lw_areCompared) rfl 76 49 _ _ _ _ hV
set_option maxRecDepth 100000 in
theorem v_lw_areCompared_36 (hG : qGood Ls xs P) {l1 l2 l3 l4 s0 : Int32} {M : qMem} {Q : qPost}
    (hV : ((s0 = (2 : Int32) → (narrow .boolean (.int (0 : Int32)) = .int (0 : Int32) ∧ Q (some (.int (0 : Int32))) M)) ∧ (¬ (s0 = (2 : Int32)) → (P 51 0 [(0, .ref 0), (1, .int l1), (2, .int l2), (3, .int l3)] [] M (fun v M' => P 78 43 [(0, .ref 0), (1, .int l1), (2, .int l2), (3, .int l3), (4, .int l4)] (v.toList ++ []) M' Q))))) :
    P 78 36 [(0, .ref 0), (1, .int l1), (2, .int l2), (3, .int l3), (4, .int l4)] [.int s0] M Q := by
  exact qRun_ok hG (ops := qo_78) (cuts := qc_lw_areCompared) rfl 76 36 _ _ _ _ hV
set_option maxRecDepth 100000 in
theorem v_lw_areCompared_70 (hG : qGood Ls xs P) {l1 l2 l3 : Int32} {M : qMem} {Q : qPost}
    (hV : (P 78 6 [(0, .ref 0), (1, .int l1), (2, .int l2), (3, .int (l3 + (1 : Int32)))] [] M Q)) :
    P 78 70 [(0, .ref 0), (1, .int l1), (2, .int l2), (3, .int l3)] [] M Q := by
  exact qRun_ok hG (ops := qo_78) (cuts := qc_lw_areCompared) rfl 76 70 _ _ _ _ hV
set_option maxRecDepth 100000 in
theorem v_lw_areCompared_59 (hG : qGood Ls xs P) {l1 l2 l3 s0 : Int32} {M : qMem} {Q : qPost}
    (hV : (P 51 0 [(0, .ref 0), (1, .int l1), (2, .int l3), (3, .int l2)] [] M (fun v M' => P 78 64 [(0, .ref 0), (1, .int l1), (2, .int l2), (3, .int l3)] (v.toList ++ [.int s0]) M' Q))) :
    P 78 59 [(0, .ref 0), (1, .int l1), (2, .int l2), (3, .int l3)] [.int s0] M Q := by
  exact qRun_ok hG (ops := qo_78) (cuts := qc_lw_areCompared) rfl 76 59 _ _ _ _ hV
set_option maxRecDepth 100000 in
theorem v_lw_areCompared_43 (hG : qGood Ls xs P) {l1 l2 l3 l4 s0 : Int32} {M : qMem} {Q : qPost}
    (hV : ((¬ s0 = 0 → (P 78 49 [(0, .ref 0), (1, .int l1), (2, .int l2), (3, .int l3), (4, .int l4)] [] M Q)) ∧ (¬ (¬ s0 = 0) → ((l2 ≤ l3 → (P 78 49 [(0, .ref 0), (1, .int l1), (2, .int l2), (3, .int l3), (4, .int l4)] [] M Q)) ∧ (¬ (l2 ≤ l3) → (narrow .boolean (.int (0 : Int32)) = .int (0 : Int32) ∧ Q (some (.int (0 : Int32))) M)))))) :
    P 78 43 [(0, .ref 0), (1, .int l1), (2, .int l2), (3, .int l3), (4, .int l4)] [.int s0] M Q := by
  exact qRun_ok hG (ops := qo_78) (cuts := qc_lw_areCompared) rfl 76 43 _ _ _ _ hV
set_option maxRecDepth 100000 in
theorem v_lw_areCompared_64 (hG : qGood Ls xs P) {l1 l2 l3 s0 s1 : Int32} {M : qMem} {Q : qPost}
    (hV : (¬ (3 : Int32) = 0 ∧ ((((s1 + s0) - (s1 + s0) / (3 : Int32) * (3 : Int32)) = 0 → (P 78 70 [(0, .ref 0), (1, .int l1), (2, .int l2), (3, .int l3)] [] M Q)) ∧ (¬ (((s1 + s0) - (s1 + s0) / (3 : Int32) * (3 : Int32)) = 0) → (narrow .boolean (.int (0 : Int32)) = .int (0 : Int32) ∧ Q (some (.int (0 : Int32))) M))))) :
    P 78 64 [(0, .ref 0), (1, .int l1), (2, .int l2), (3, .int l3)] [.int s0, .int s1] M Q := by
  exact qRun_ok hG (ops := qo_78) (cuts := qc_lw_areCompared) rfl 76 64 _ _ _ _ hV
def qc_lw_isLine : List (Nat × List Nat) := [(5, [0, 1, 2, 3]), (10, [0, 1, 2, 3, 4]), (16, [0, 1, 2, 3, 4, 5]), (20, [0, 1, 2, 3, 4, 5, 6]), (26, [0, 1, 2, 3, 4, 5, 6, 8]), (33, [0, 3, 4, 5, 6, 8, 9]), (48, [0, 3, 4, 5, 6, 8, 9, 10]), (54, [0, 3, 5, 6, 8, 9, 10]), (61, [0, 6, 8, 9, 10]), (68, [0, 8, 9]), (77, [0, 8, 9]), (83, [9])]
set_option maxRecDepth 100000 in
theorem v_lw_isLine_0 (hG : qGood Ls xs P) {l1 l2 l3 : Int32} {M : qMem} {Q : qPost}
    (hV : (P 47 0 [(0, .ref 0), (1, .int (2 : Int32)), (2, .int l3), (3, .int (0 : Int32))] [] M (fun v M' => P 79 5 [(0, .ref 0), (1, .int l1), (2, .int l2), (3, .int l3)] (v.toList ++ []) M' Q))) :
    P 79 0 [(0, .ref 0), (1, .int l1), (2, .int l2), (3, .int l3)] [] M Q := by
  exact qRun_ok hG (ops := qo_79) (cuts := qc_lw_isLine) rfl 91 0 _ _ _ _ hV
set_option maxRecDepth 100000 in
theorem v_lw_isLine_5 (hG : qGood Ls xs P) {l1 l2 l3 s0 : Int32} {M : qMem} {Q : qPost}
    (hV : (P 48 0 [(0, .ref 0), (1, .int (2 : Int32)), (2, .int l3)] [] M (fun v M' => P 79 10 [(0, .ref 0), (1, .int l1), (2, .int l2), (3, .int l3), (4, .int s0)] (v.toList ++ []) M' Q))) :
    P 79 5 [(0, .ref 0), (1, .int l1), (2, .int l2), (3, .int l3)] [.int s0] M Q := by
  exact qRun_ok hG (ops := qo_79) (cuts := qc_lw_isLine) rfl 91 5 _ _ _ _ hV
set_option maxRecDepth 100000 in
theorem v_lw_isLine_10 (hG : qGood Ls xs P) {l1 l2 l3 l4 s0 : Int32} {M : qMem} {Q : qPost}
    (hV : (P 49 0 [(0, .ref 0), (1, .int (0 : Int32)), (2, .int l3), (3, .int (0 : Int32))] [] M (fun v M' => P 79 16 [(0, .ref 0), (1, .int l1), (2, .int l2), (3, .int l3), (4, .int l4), (5, .int s0)] (v.toList ++ []) M' Q))) :
    P 79 10 [(0, .ref 0), (1, .int l1), (2, .int l2), (3, .int l3), (4, .int l4)] [.int s0] M Q := by
  exact qRun_ok hG (ops := qo_79) (cuts := qc_lw_isLine) rfl 91 10 _ _ _ _ hV
set_option maxRecDepth 100000 in
theorem v_lw_isLine_16 (hG : qGood Ls xs P) {s0 : Int64} {l1 l2 l3 l4 l5 : Int32} {M : qMem} {Q : qPost}
    (hV : (P 45 0 [(0, .ref 0), (1, .int (0 : Int32))] [] M (fun v M' => P 79 20 [(0, .ref 0), (1, .int l1), (2, .int l2), (3, .int l3), (4, .int l4), (5, .int l5), (6, .long s0)] (v.toList ++ []) M' Q))) :
    P 79 16 [(0, .ref 0), (1, .int l1), (2, .int l2), (3, .int l3), (4, .int l4), (5, .int l5)] [.long s0] M Q := by
  exact qRun_ok hG (ops := qo_79) (cuts := qc_lw_isLine) rfl 91 16 _ _ _ _ hV
set_option maxRecDepth 100000 in
theorem v_lw_isLine_20 (hG : qGood Ls xs P) {l6 : Int64} {l1 l2 l3 l4 l5 s0 : Int32} {M : qMem} {Q : qPost}
    (hV : ((s0 ≤ 0 → (P 39 0 [(0, .ref 0), (1, .int l1), (2, .int l2)] [] M (fun v M' => P 79 33 [(0, .ref 0), (3, .int l3), (4, .int l4), (5, .int l5), (6, .long l6), (8, .int s0), (9, .int (0 : Int32))] (v.toList ++ []) M' Q))) ∧ (¬ (s0 ≤ 0) → (P 46 0 [(0, .ref 0), (1, .int (0 : Int32))] [] M (fun v M' => P 79 26 [(0, .ref 0), (1, .int l1), (2, .int l2), (3, .int l3), (4, .int l4), (5, .int l5), (6, .long l6), (8, .int s0)] (v.toList ++ []) M' Q))))) :
    P 79 20 [(0, .ref 0), (1, .int l1), (2, .int l2), (3, .int l3), (4, .int l4), (5, .int l5), (6, .long l6)] [.int s0] M Q := by
  exact qRun_ok hG (ops := qo_79) (cuts := qc_lw_isLine) rfl 91 20 _ _ _ _ hV
set_option maxRecDepth 100000 in
theorem v_lw_isLine_33 (hG : qGood Ls xs P) {l6 : Int64} {l3 l4 l5 l8 l9 s0 : Int32} {M : qMem} {Q : qPost}
    (hV : ((0 ≤ s0 → (P 47 0 [(0, .ref 0), (1, .int (2 : Int32)), (2, .int l3), (3, .int (0 : Int32))] [] M (fun v M' => P 79 48 [(0, .ref 0), (3, .int l3), (4, .int l4), (5, .int l5), (6, .long l6), (8, .int l8), (9, .int l9), (10, .int s0)] (v.toList ++ []) M' Q))) ∧ (¬ (0 ≤ s0) → ((¬ s0 = (-1000000005 : Int32) → (narrow .boolean (.int (0 : Int32)) = .int (0 : Int32) ∧ Q (some (.int (0 : Int32))) M)) ∧ (¬ (¬ s0 = (-1000000005 : Int32)) → (narrow .boolean (.int (1 : Int32)) = .int (1 : Int32) ∧ Q (some (.int (1 : Int32))) M)))))) :
    P 79 33 [(0, .ref 0), (3, .int l3), (4, .int l4), (5, .int l5), (6, .long l6), (8, .int l8), (9, .int l9)] [.int s0] M Q := by
  exact qRun_ok hG (ops := qo_79) (cuts := qc_lw_isLine) rfl 91 33 _ _ _ _ hV
set_option maxRecDepth 100000 in
theorem v_lw_isLine_26 (hG : qGood Ls xs P) {l6 : Int64} {l1 l2 l3 l4 l5 l8 s0 : Int32} {M : qMem} {Q : qPost}
    (hV : (P 39 0 [(0, .ref 0), (1, .int l1), (2, .int l2)] [] M (fun v M' => P 79 33 [(0, .ref 0), (3, .int l3), (4, .int l4), (5, .int l5), (6, .long l6), (8, .int l8), (9, .int s0)] (v.toList ++ []) M' Q))) :
    P 79 26 [(0, .ref 0), (1, .int l1), (2, .int l2), (3, .int l3), (4, .int l4), (5, .int l5), (6, .long l6), (8, .int l8)] [.int s0] M Q := by
  exact qRun_ok hG (ops := qo_79) (cuts := qc_lw_isLine) rfl 91 26 _ _ _ _ hV
set_option maxRecDepth 100000 in
theorem v_lw_isLine_48 (hG : qGood Ls xs P) {l6 : Int64} {l3 l4 l5 l8 l9 l10 s0 : Int32} {M : qMem} {Q : qPost}
    (hV : ((¬ s0 = l4 → (((0 : Int32) = 0 → (narrow .boolean (.int (0 : Int32)) = .int (0 : Int32) ∧ Q (some (.int (0 : Int32))) M)) ∧ (¬ ((0 : Int32) = 0) → (P 44 0 [(0, .ref 0)] [] M (fun v M' => P 79 77 [(0, .ref 0), (8, .int l8), (9, .int l9)] (v.toList ++ []) M' Q))))) ∧ (¬ (¬ s0 = l4) → (P 48 0 [(0, .ref 0), (1, .int (2 : Int32)), (2, .int l3)] [] M (fun v M' => P 79 54 [(0, .ref 0), (3, .int l3), (5, .int l5), (6, .long l6), (8, .int l8), (9, .int l9), (10, .int l10)] (v.toList ++ []) M' Q))))) :
    P 79 48 [(0, .ref 0), (3, .int l3), (4, .int l4), (5, .int l5), (6, .long l6), (8, .int l8), (9, .int l9), (10, .int l10)] [.int s0] M Q := by
  exact qRun_ok hG (ops := qo_79) (cuts := qc_lw_isLine) rfl 91 48 _ _ _ _ hV
set_option maxRecDepth 100000 in
theorem v_lw_isLine_77 (hG : qGood Ls xs P) {l8 l9 s0 : Int32} {M : qMem} {Q : qPost}
    (hV : ((s0 < 0 → (narrow .boolean (.int (0 : Int32)) = .int (0 : Int32) ∧ Q (some (.int (0 : Int32))) M)) ∧ (¬ (s0 < 0) → ((l8 = 0 → (narrow .boolean (.int (1 : Int32)) = .int (1 : Int32) ∧ Q (some (.int (1 : Int32))) M)) ∧ (¬ (l8 = 0) → (P 46 0 [(0, .ref 0), (1, .int (0 : Int32))] [] M (fun v M' => P 79 83 [(9, .int l9)] (v.toList ++ []) M' Q))))))) :
    P 79 77 [(0, .ref 0), (8, .int l8), (9, .int l9)] [.int s0] M Q := by
  exact qRun_ok hG (ops := qo_79) (cuts := qc_lw_isLine) rfl 91 77 _ _ _ _ hV
set_option maxRecDepth 100000 in
theorem v_lw_isLine_54 (hG : qGood Ls xs P) {l6 : Int64} {l3 l5 l8 l9 l10 s0 : Int32} {M : qMem} {Q : qPost}
    (hV : ((¬ s0 = l5 → (((0 : Int32) = 0 → (narrow .boolean (.int (0 : Int32)) = .int (0 : Int32) ∧ Q (some (.int (0 : Int32))) M)) ∧ (¬ ((0 : Int32) = 0) → (P 44 0 [(0, .ref 0)] [] M (fun v M' => P 79 77 [(0, .ref 0), (8, .int l8), (9, .int l9)] (v.toList ++ []) M' Q))))) ∧ (¬ (¬ s0 = l5) → (P 49 0 [(0, .ref 0), (1, .int (0 : Int32)), (2, .int l3), (3, .int (0 : Int32))] [] M (fun v M' => P 79 61 [(0, .ref 0), (6, .long l6), (8, .int l8), (9, .int l9), (10, .int l10)] (v.toList ++ []) M' Q))))) :
    P 79 54 [(0, .ref 0), (3, .int l3), (5, .int l5), (6, .long l6), (8, .int l8), (9, .int l9), (10, .int l10)] [.int s0] M Q := by
  exact qRun_ok hG (ops := qo_79) (cuts := qc_lw_isLine) rfl 91 54 _ _ _ _ hV
set_option maxRecDepth 100000 in
theorem v_lw_isLine_83 (hG : qGood Ls xs P) {l9 s0 : Int32} {M : qMem} {Q : qPost}
    (hV : ((¬ s0 = l9 → (narrow .boolean (.int (0 : Int32)) = .int (0 : Int32) ∧ Q (some (.int (0 : Int32))) M)) ∧ (¬ (¬ s0 = l9) → (narrow .boolean (.int (1 : Int32)) = .int (1 : Int32) ∧ Q (some (.int (1 : Int32))) M)))) :
    P 79 83 [(9, .int l9)] [.int s0] M Q := by
  exact qRun_ok hG (ops := qo_79) (cuts := qc_lw_isLine) rfl 91 83 _ _ _ _ hV
set_option maxRecDepth 100000 in
theorem v_lw_isLine_61 (hG : qGood Ls xs P) {l6 s0 : Int64} {l8 l9 l10 : Int32} {M : qMem} {Q : qPost}
    (hV : ((¬ (lg_cmp s0 l6) = 0 → (((0 : Int32) = 0 → (narrow .boolean (.int (0 : Int32)) = .int (0 : Int32) ∧ Q (some (.int (0 : Int32))) M)) ∧ (¬ ((0 : Int32) = 0) → (P 44 0 [(0, .ref 0)] [] M (fun v M' => P 79 77 [(0, .ref 0), (8, .int l8), (9, .int l9)] (v.toList ++ []) M' Q))))) ∧ (¬ (¬ (lg_cmp s0 l6) = 0) → (P 45 0 [(0, .ref 0), (1, .int (1 : Int32))] [] M (fun v M' => P 79 68 [(0, .ref 0), (8, .int l8), (9, .int l9)] (v.toList ++ [.int l10]) M' Q))))) :
    P 79 61 [(0, .ref 0), (6, .long l6), (8, .int l8), (9, .int l9), (10, .int l10)] [.long s0] M Q := by
  exact qRun_ok hG (ops := qo_79) (cuts := qc_lw_isLine) rfl 91 61 _ _ _ _ hV
set_option maxRecDepth 100000 in
theorem v_lw_isLine_68 (hG : qGood Ls xs P) {l8 l9 s0 s1 : Int32} {M : qMem} {Q : qPost}
    (hV : ((s0 < s1 → (((0 : Int32) = 0 → (narrow .boolean (.int (0 : Int32)) = .int (0 : Int32) ∧ Q (some (.int (0 : Int32))) M)) ∧ (¬ ((0 : Int32) = 0) → (P 44 0 [(0, .ref 0)] [] M (fun v M' => P 79 77 [(0, .ref 0), (8, .int l8), (9, .int l9)] (v.toList ++ []) M' Q))))) ∧ (¬ (s0 < s1) → (((1 : Int32) = 0 → (narrow .boolean (.int (0 : Int32)) = .int (0 : Int32) ∧ Q (some (.int (0 : Int32))) M)) ∧ (¬ ((1 : Int32) = 0) → (P 44 0 [(0, .ref 0)] [] M (fun v M' => P 79 77 [(0, .ref 0), (8, .int l8), (9, .int l9)] (v.toList ++ []) M' Q))))))) :
    P 79 68 [(0, .ref 0), (8, .int l8), (9, .int l9)] [.int s0, .int s1] M Q := by
  exact qRun_ok hG (ops := qo_79) (cuts := qc_lw_isLine) rfl 91 68 _ _ _ _ hV
def qc_lw_areAlike : List (Nat × List Nat) := [(4, [0, 1, 2, 3]), (15, [0, 1, 3]), (18, [0, 1, 3]), (27, [0, 1, 2, 3]), (31, [0, 1, 2, 3]), (37, [0, 1, 3]), (40, [0, 1, 3])]
set_option maxRecDepth 100000 in
theorem v_lw_areAlike_0 (hG : qGood Ls xs P) {M : qMem} {Q : qPost}
    (hV : (P 80 4 [(0, .ref 0), (1, .ref 36), (2, .int (1 : Int32)), (3, .int (0 : Int32))] [] M Q)) :
    P 80 0 [(0, .ref 0), (1, .ref 36)] [] M Q := by
  exact qRun_ok hG (ops := qo_80) (cuts := qc_lw_areAlike) rfl 51 0 _ _ _ _ hV
set_option maxRecDepth 100000 in
theorem v_lw_areAlike_4 (hG : qGood Ls xs P) {l2 l3 : Int32} {M : qMem} {Q : qPost}
    (hV : (((9 : Int32) ≤ l3 → (P 80 27 [(0, .ref 0), (1, .ref 36), (2, .int l2), (3, .int (0 : Int32))] [] M Q)) ∧ (¬ ((9 : Int32) ≤ l3) → ((l2 = 0 → (P 80 4 [(0, .ref 0), (1, .ref 36), (2, .int (0 : Int32)), (3, .int (l3 + (1 : Int32)))] [] M Q)) ∧ (¬ (l2 = 0) → ((l3 = (8 : Int32) → (P 80 4 [(0, .ref 0), (1, .ref 36), (2, .int (1 : Int32)), (3, .int (l3 + (1 : Int32)))] [] M Q)) ∧ (¬ (l3 = (8 : Int32)) → (P 45 0 [(0, .ref 0), (1, .int l3)] [] M (fun v M' => P 80 15 [(0, .ref 0), (1, .ref 36), (3, .int l3)] (v.toList ++ []) M' Q))))))))) :
    P 80 4 [(0, .ref 0), (1, .ref 36), (2, .int l2), (3, .int l3)] [] M Q := by
  exact qRun_ok hG (ops := qo_80) (cuts := qc_lw_areAlike) rfl 51 4 _ _ _ _ hV
set_option maxRecDepth 100000 in
theorem v_lw_areAlike_27 (hG : qGood Ls xs P) {l2 l3 : Int32} {M : qMem} {Q : qPost}
    (hV : (P 45 0 [(0, .ref 0), (1, .int (0 : Int32))] [] M (fun v M' => P 80 31 [(0, .ref 0), (1, .ref 36), (2, .int l2), (3, .int l3)] (v.toList ++ [.int l3]) M' Q))) :
    P 80 27 [(0, .ref 0), (1, .ref 36), (2, .int l2), (3, .int l3)] [] M Q := by
  exact qRun_ok hG (ops := qo_80) (cuts := qc_lw_areAlike) rfl 51 27 _ _ _ _ hV
set_option maxRecDepth 100000 in
theorem v_lw_areAlike_15 (hG : qGood Ls xs P) {l3 s0 : Int32} {M : qMem} {Q : qPost}
    (hV : (P 45 0 [(0, .ref 36), (1, .int l3)] [] M (fun v M' => P 80 18 [(0, .ref 0), (1, .ref 36), (3, .int l3)] (v.toList ++ [.int s0]) M' Q))) :
    P 80 15 [(0, .ref 0), (1, .ref 36), (3, .int l3)] [.int s0] M Q := by
  exact qRun_ok hG (ops := qo_80) (cuts := qc_lw_areAlike) rfl 51 15 _ _ _ _ hV
set_option maxRecDepth 100000 in
theorem v_lw_areAlike_31 (hG : qGood Ls xs P) {l2 l3 s0 s1 : Int32} {M : qMem} {Q : qPost}
    (hV : ((s0 ≤ s1 → (narrow .boolean (.int l2) = .int l2 ∧ Q (some (.int l2)) M)) ∧ (¬ (s0 ≤ s1) → ((l2 = 0 → (P 80 27 [(0, .ref 0), (1, .ref 36), (2, .int (0 : Int32)), (3, .int (l3 + (1 : Int32)))] [] M Q)) ∧ (¬ (l2 = 0) → (P 46 0 [(0, .ref 0), (1, .int l3)] [] M (fun v M' => P 80 37 [(0, .ref 0), (1, .ref 36), (3, .int l3)] (v.toList ++ []) M' Q))))))) :
    P 80 31 [(0, .ref 0), (1, .ref 36), (2, .int l2), (3, .int l3)] [.int s0, .int s1] M Q := by
  exact qRun_ok hG (ops := qo_80) (cuts := qc_lw_areAlike) rfl 51 31 _ _ _ _ hV
set_option maxRecDepth 100000 in
theorem v_lw_areAlike_18 (hG : qGood Ls xs P) {l3 s0 s1 : Int32} {M : qMem} {Q : qPost}
    (hV : ((¬ s1 = s0 → (P 80 4 [(0, .ref 0), (1, .ref 36), (2, .int (0 : Int32)), (3, .int (l3 + (1 : Int32)))] [] M Q)) ∧ (¬ (¬ s1 = s0) → (P 80 4 [(0, .ref 0), (1, .ref 36), (2, .int (1 : Int32)), (3, .int (l3 + (1 : Int32)))] [] M Q)))) :
    P 80 18 [(0, .ref 0), (1, .ref 36), (3, .int l3)] [.int s0, .int s1] M Q := by
  exact qRun_ok hG (ops := qo_80) (cuts := qc_lw_areAlike) rfl 51 18 _ _ _ _ hV
set_option maxRecDepth 100000 in
theorem v_lw_areAlike_37 (hG : qGood Ls xs P) {l3 s0 : Int32} {M : qMem} {Q : qPost}
    (hV : (P 46 0 [(0, .ref 36), (1, .int l3)] [] M (fun v M' => P 80 40 [(0, .ref 0), (1, .ref 36), (3, .int l3)] (v.toList ++ [.int s0]) M' Q))) :
    P 80 37 [(0, .ref 0), (1, .ref 36), (3, .int l3)] [.int s0] M Q := by
  exact qRun_ok hG (ops := qo_80) (cuts := qc_lw_areAlike) rfl 51 37 _ _ _ _ hV
set_option maxRecDepth 100000 in
theorem v_lw_areAlike_40 (hG : qGood Ls xs P) {l3 s0 s1 : Int32} {M : qMem} {Q : qPost}
    (hV : ((¬ s1 = s0 → (P 80 27 [(0, .ref 0), (1, .ref 36), (2, .int (0 : Int32)), (3, .int (l3 + (1 : Int32)))] [] M Q)) ∧ (¬ (¬ s1 = s0) → (P 80 27 [(0, .ref 0), (1, .ref 36), (2, .int (1 : Int32)), (3, .int (l3 + (1 : Int32)))] [] M Q)))) :
    P 80 40 [(0, .ref 0), (1, .ref 36), (3, .int l3)] [.int s0, .int s1] M Q := by
  exact qRun_ok hG (ops := qo_80) (cuts := qc_lw_areAlike) rfl 51 40 _ _ _ _ hV
def qc_lw_law : List (Nat × List Nat) := [(10, [0, 1, 2, 3]), (18, [0, 1, 2, 3]), (26, [0, 1, 2, 3, 4]), (31, [0, 1, 2, 3, 4, 5]), (35, [0, 1, 2, 3, 4, 5]), (47, [0, 1, 2, 3, 4]), (52, [0, 1, 2, 3, 4]), (62, [0, 1, 2, 3, 4, 6]), (69, [0, 1, 2, 3, 6]), (71, [0, 1, 2, 3]), (76, [0, 1, 2, 3]), (85, [0, 1, 2]), (87, [0, 1, 2]), (88, [0, 1, 2]), (92, [0, 1]), (97, [0]), (99, [0]), (104, [0]), (106, [0]), (112, []), (114, []), (116, [])]
set_option maxRecDepth 100000 in
theorem v_lw_law_10 (hG : qGood Ls xs P) {l3 : Int32} {M : qMem} {Q : qPost}
    (hV : (((40 : Int32) ≤ l3 → (P 73 0 [(0, .ref 1000), (1, .int (80 : Int32))] [] M (fun v M' => P 81 85 [(0, .ref 1000), (1, .ref 0), (2, .ref 36)] (v.toList ++ [.ref 0]) M' Q))) ∧ (¬ ((40 : Int32) ≤ l3) → (P 73 0 [(0, .ref 1000), (1, .int ((2 : Int32) * l3))] [] M (fun v M' => P 81 18 [(0, .ref 1000), (1, .ref 0), (2, .ref 36), (3, .int l3)] (v.toList ++ []) M' Q))))) :
    P 81 10 [(0, .ref 1000), (1, .ref 0), (2, .ref 36), (3, .int l3)] [] M Q := by
  exact qRun_ok hG (ops := qo_81) (cuts := qc_lw_law) rfl 123 10 _ _ _ _ hV
set_option maxRecDepth 100000 in
theorem v_lw_law_85 (hG : qGood Ls xs P) {s0 : Int32} {M : qMem} {Q : qPost}
    (hV : (P 74 0 [(0, .int s0), (1, .int (4 : Int32))] [] M (fun v M' => P 81 87 [(0, .ref 1000), (1, .ref 0), (2, .ref 36)] (v.toList ++ [.ref 0]) M' Q))) :
    P 81 85 [(0, .ref 1000), (1, .ref 0), (2, .ref 36)] [.int s0, .ref 0] M Q := by
  exact qRun_ok hG (ops := qo_81) (cuts := qc_lw_law) rfl 123 85 _ _ _ _ hV
set_option maxRecDepth 100000 in
theorem v_lw_law_18 (hG : qGood Ls xs P) {l3 s0 : Int32} {M : qMem} {Q : qPost}
    (hV : (P 73 0 [(0, .ref 1000), (1, .int (((2 : Int32) * l3) + (1 : Int32)))] [] M (fun v M' => P 81 26 [(0, .ref 1000), (1, .ref 0), (2, .ref 36), (3, .int l3), (4, .int s0)] (v.toList ++ []) M' Q))) :
    P 81 18 [(0, .ref 1000), (1, .ref 0), (2, .ref 36), (3, .int l3)] [.int s0] M Q := by
  exact qRun_ok hG (ops := qo_81) (cuts := qc_lw_law) rfl 123 18 _ _ _ _ hV
set_option maxRecDepth 100000 in
theorem v_lw_law_87 (hG : qGood Ls xs P) {s0 : Int32} {M : qMem} {Q : qPost}
    (hV : (P 78 0 [(0, .ref 0), (1, .int s0)] [] M (fun v M' => P 81 88 [(0, .ref 1000), (1, .ref 0), (2, .ref 36)] (v.toList ++ []) M' Q))) :
    P 81 87 [(0, .ref 1000), (1, .ref 0), (2, .ref 36)] [.int s0, .ref 0] M Q := by
  exact qRun_ok hG (ops := qo_81) (cuts := qc_lw_law) rfl 123 87 _ _ _ _ hV
set_option maxRecDepth 100000 in
theorem v_lw_law_26 (hG : qGood Ls xs P) {l3 l4 s0 : Int32} {M : qMem} {Q : qPost}
    (hV : (P 75 0 [(0, .ref 0), (1, .int l4), (2, .int s0)] [] M (fun v M' => P 81 31 [(0, .ref 1000), (1, .ref 0), (2, .ref 36), (3, .int l3), (4, .int l4), (5, .int s0)] (v.toList ++ []) M' Q))) :
    P 81 26 [(0, .ref 1000), (1, .ref 0), (2, .ref 36), (3, .int l3), (4, .int l4)] [.int s0] M Q := by
  exact qRun_ok hG (ops := qo_81) (cuts := qc_lw_law) rfl 123 26 _ _ _ _ hV
set_option maxRecDepth 100000 in
theorem v_lw_law_88 (hG : qGood Ls xs P) {s0 : Int32} {M : qMem} {Q : qPost}
    (hV : ((s0 = 0 → (narrow .boolean (.int (0 : Int32)) = .int (0 : Int32) ∧ Q (some (.int (0 : Int32))) M)) ∧ (¬ (s0 = 0) → (P 80 0 [(0, .ref 0), (1, .ref 36)] [] M (fun v M' => P 81 92 [(0, .ref 1000), (1, .ref 0)] (v.toList ++ []) M' Q))))) :
    P 81 88 [(0, .ref 1000), (1, .ref 0), (2, .ref 36)] [.int s0] M Q := by
  exact qRun_ok hG (ops := qo_81) (cuts := qc_lw_law) rfl 123 88 _ _ _ _ hV
set_option maxRecDepth 100000 in
theorem v_lw_law_31 (hG : qGood Ls xs P) {l3 l4 l5 s0 : Int32} {M : qMem} {Q : qPost}
    (hV : (P 75 0 [(0, .ref 36), (1, .int l4), (2, .int l5)] [] M (fun v M' => P 81 35 [(0, .ref 1000), (1, .ref 0), (2, .ref 36), (3, .int l3), (4, .int l4), (5, .int l5)] (v.toList ++ [.int s0]) M' Q))) :
    P 81 31 [(0, .ref 1000), (1, .ref 0), (2, .ref 36), (3, .int l3), (4, .int l4), (5, .int l5)] [.int s0] M Q := by
  exact qRun_ok hG (ops := qo_81) (cuts := qc_lw_law) rfl 123 31 _ _ _ _ hV
set_option maxRecDepth 100000 in
theorem v_lw_law_92 (hG : qGood Ls xs P) {s0 : Int32} {M : qMem} {Q : qPost}
    (hV : ((s0 = 0 → (narrow .boolean (.int (0 : Int32)) = .int (0 : Int32) ∧ Q (some (.int (0 : Int32))) M)) ∧ (¬ (s0 = 0) → (P 73 0 [(0, .ref 1000), (1, .int (81 : Int32))] [] M (fun v M' => P 81 97 [(0, .ref 1000)] (v.toList ++ [.ref 0]) M' Q))))) :
    P 81 92 [(0, .ref 1000), (1, .ref 0)] [.int s0] M Q := by
  exact qRun_ok hG (ops := qo_81) (cuts := qc_lw_law) rfl 123 92 _ _ _ _ hV
set_option maxRecDepth 100000 in
theorem v_lw_law_35 (hG : qGood Ls xs P) {l3 l4 l5 s0 s1 : Int32} {M : qMem} {Q : qPost}
    (hV : ((s1 = s0 → (P 74 0 [(0, .int (l5 >>> ((9 : Int32) &&& 31))), (1, .int (3 : Int32))] [] M (fun v M' => P 81 47 [(0, .ref 1000), (1, .ref 0), (2, .ref 36), (3, .int l3), (4, .int l4)] (v.toList ++ [.int (l5 >>> ((4 : Int32) &&& 31)), .int (1 : Int32)]) M' Q))) ∧ (¬ (s1 = s0) → (narrow .boolean (.int (0 : Int32)) = .int (0 : Int32) ∧ Q (some (.int (0 : Int32))) M)))) :
    P 81 35 [(0, .ref 1000), (1, .ref 0), (2, .ref 36), (3, .int l3), (4, .int l4), (5, .int l5)] [.int s0, .int s1] M Q := by
  exact qRun_ok hG (ops := qo_81) (cuts := qc_lw_law) rfl 123 35 _ _ _ _ hV
set_option maxRecDepth 100000 in
theorem v_lw_law_97 (hG : qGood Ls xs P) {s0 : Int32} {M : qMem} {Q : qPost}
    (hV : (P 74 0 [(0, .int s0), (1, .int (41 : Int32))] [] M (fun v M' => P 81 99 [(0, .ref 1000)] (v.toList ++ [.ref 0]) M' Q))) :
    P 81 97 [(0, .ref 1000)] [.int s0, .ref 0] M Q := by
  exact qRun_ok hG (ops := qo_81) (cuts := qc_lw_law) rfl 123 97 _ _ _ _ hV
set_option maxRecDepth 100000 in
theorem v_lw_law_47 (hG : qGood Ls xs P) {l3 l4 s0 s1 s2 : Int32} {M : qMem} {Q : qPost}
    (hV : ((¬ s0 = 0 → (P 74 0 [(0, .int s1), (1, .int (5 : Int32))] [] M (fun v M' => P 81 52 [(0, .ref 1000), (1, .ref 0), (2, .ref 36), (3, .int l3), (4, .int l4)] (v.toList ++ [.int s2]) M' Q))) ∧ (¬ (¬ s0 = 0) → (P 74 0 [(0, .int s1), (1, .int (31 : Int32))] [] M (fun v M' => P 81 52 [(0, .ref 1000), (1, .ref 0), (2, .ref 36), (3, .int l3), (4, .int l4)] (v.toList ++ [.int s2]) M' Q))))) :
    P 81 47 [(0, .ref 1000), (1, .ref 0), (2, .ref 36), (3, .int l3), (4, .int l4)] [.int s0, .int s1, .int s2] M Q := by
  exact qRun_ok hG (ops := qo_81) (cuts := qc_lw_law) rfl 123 47 _ _ _ _ hV
set_option maxRecDepth 100000 in
theorem v_lw_law_99 (hG : qGood Ls xs P) {s0 : Int32} {M : qMem} {Q : qPost}
    (hV : (P 73 0 [(0, .ref 1000), (1, .int (82 : Int32))] [] M (fun v M' => P 81 104 [(0, .ref 1000)] (v.toList ++ [.int (s0 - (20 : Int32)), .ref 0]) M' Q))) :
    P 81 99 [(0, .ref 1000)] [.int s0, .ref 0] M Q := by
  exact qRun_ok hG (ops := qo_81) (cuts := qc_lw_law) rfl 123 99 _ _ _ _ hV
set_option maxRecDepth 100000 in
theorem v_lw_law_52 (hG : qGood Ls xs P) {l3 l4 s0 s1 : Int32} {M : qMem} {Q : qPost}
    (hV : (¬ (4 : Int32) = 0 ∧ ((¬ (l3 - l3 / (4 : Int32) * (4 : Int32)) = (3 : Int32) → (P 81 10 [(0, .ref 1000), (1, .ref 0), (2, .ref 36), (3, .int (l3 + (1 : Int32)))] [] M Q)) ∧ (¬ (¬ (l3 - l3 / (4 : Int32) * (4 : Int32)) = (3 : Int32)) → (P 76 0 [(0, .ref 0), (1, .int (s1 + s0))] [] M (fun v M' => P 81 62 [(0, .ref 1000), (1, .ref 0), (2, .ref 36), (3, .int l3), (4, .int l4), (6, .int (s1 + s0))] (v.toList ++ []) M' Q)))))) :
    P 81 52 [(0, .ref 1000), (1, .ref 0), (2, .ref 36), (3, .int l3), (4, .int l4)] [.int s0, .int s1] M Q := by
  exact qRun_ok hG (ops := qo_81) (cuts := qc_lw_law) rfl 123 52 _ _ _ _ hV
set_option maxRecDepth 100000 in
theorem v_lw_law_104 (hG : qGood Ls xs P) {s0 s1 : Int32} {M : qMem} {Q : qPost}
    (hV : (P 74 0 [(0, .int s0), (1, .int (201 : Int32))] [] M (fun v M' => P 81 106 [(0, .ref 1000)] (v.toList ++ [.int s1, .ref 0]) M' Q))) :
    P 81 104 [(0, .ref 1000)] [.int s0, .int s1, .ref 0] M Q := by
  exact qRun_ok hG (ops := qo_81) (cuts := qc_lw_law) rfl 123 104 _ _ _ _ hV
set_option maxRecDepth 100000 in
theorem v_lw_law_62 (hG : qGood Ls xs P) {l3 l4 l6 s0 : Int32} {M : qMem} {Q : qPost}
    (hV : ((s0 = 0 → (narrow .boolean (.int (0 : Int32)) = .int (0 : Int32) ∧ Q (some (.int (0 : Int32))) M)) ∧ (¬ (s0 = 0) → (P 74 0 [(0, .int (l4 >>> ((7 : Int32) &&& 31))), (1, .int (4 : Int32))] [] M (fun v M' => P 81 69 [(0, .ref 1000), (1, .ref 0), (2, .ref 36), (3, .int l3), (6, .int l6)] (v.toList ++ [.ref 0]) M' Q))))) :
    P 81 62 [(0, .ref 1000), (1, .ref 0), (2, .ref 36), (3, .int l3), (4, .int l4), (6, .int l6)] [.int s0] M Q := by
  exact qRun_ok hG (ops := qo_81) (cuts := qc_lw_law) rfl 123 62 _ _ _ _ hV
set_option maxRecDepth 100000 in
theorem v_lw_law_106 (hG : qGood Ls xs P) {s0 s1 : Int32} {M : qMem} {Q : qPost}
    (hV : (P 73 0 [(0, .ref 1000), (1, .int (83 : Int32))] [] M (fun v M' => P 81 112 [] (v.toList ++ [.int (1 : Int32), .int (s0 - (100 : Int32)), .int s1, .ref 0]) M' Q))) :
    P 81 106 [(0, .ref 1000)] [.int s0, .int s1, .ref 0] M Q := by
  exact qRun_ok hG (ops := qo_81) (cuts := qc_lw_law) rfl 123 106 _ _ _ _ hV
set_option maxRecDepth 100000 in
theorem v_lw_law_69 (hG : qGood Ls xs P) {l3 l6 s0 : Int32} {M : qMem} {Q : qPost}
    (hV : (P 77 0 [(0, .ref 0), (1, .int s0), (2, .int l6)] [] M (fun v M' => P 81 71 [(0, .ref 1000), (1, .ref 0), (2, .ref 36), (3, .int l3)] (v.toList ++ []) M' Q))) :
    P 81 69 [(0, .ref 1000), (1, .ref 0), (2, .ref 36), (3, .int l3), (6, .int l6)] [.int s0, .ref 0] M Q := by
  exact qRun_ok hG (ops := qo_81) (cuts := qc_lw_law) rfl 123 69 _ _ _ _ hV
set_option maxRecDepth 100000 in
theorem v_lw_law_112 (hG : qGood Ls xs P) {s0 s1 s2 s3 : Int32} {M : qMem} {Q : qPost}
    (hV : (P 74 0 [(0, .int s0), (1, .int (4 : Int32))] [] M (fun v M' => P 81 114 [] (v.toList ++ [.int s1, .int s2, .int s3, .ref 0]) M' Q))) :
    P 81 112 [] [.int s0, .int s1, .int s2, .int s3, .ref 0] M Q := by
  exact qRun_ok hG (ops := qo_81) (cuts := qc_lw_law) rfl 123 112 _ _ _ _ hV
set_option maxRecDepth 100000 in
theorem v_lw_law_71 (hG : qGood Ls xs P) {l3 s0 : Int32} {M : qMem} {Q : qPost}
    (hV : ((s0 = 0 → (narrow .boolean (.int (0 : Int32)) = .int (0 : Int32) ∧ Q (some (.int (0 : Int32))) M)) ∧ (¬ (s0 = 0) → (P 77 0 [(0, .ref 0), (1, .int (2 : Int32)), (2, .int (1 : Int32))] [] M (fun v M' => P 81 76 [(0, .ref 1000), (1, .ref 0), (2, .ref 36), (3, .int l3)] (v.toList ++ []) M' Q))))) :
    P 81 71 [(0, .ref 1000), (1, .ref 0), (2, .ref 36), (3, .int l3)] [.int s0] M Q := by
  exact qRun_ok hG (ops := qo_81) (cuts := qc_lw_law) rfl 123 71 _ _ _ _ hV
set_option maxRecDepth 100000 in
theorem v_lw_law_114 (hG : qGood Ls xs P) {s0 s1 s2 s3 : Int32} {M : qMem} {Q : qPost}
    (hV : (P 79 0 [(0, .ref 0), (1, .int s3), (2, .int s2), (3, .int (s1 + s0))] [] M (fun v M' => P 81 116 [] (v.toList ++ []) M' Q))) :
    P 81 114 [] [.int s0, .int s1, .int s2, .int s3, .ref 0] M Q := by
  exact qRun_ok hG (ops := qo_81) (cuts := qc_lw_law) rfl 123 114 _ _ _ _ hV
set_option maxRecDepth 100000 in
theorem v_lw_law_76 (hG : qGood Ls xs P) {l3 s0 : Int32} {M : qMem} {Q : qPost}
    (hV : ((¬ s0 = 0 → (P 81 10 [(0, .ref 1000), (1, .ref 0), (2, .ref 36), (3, .int (l3 + (1 : Int32)))] [] M Q)) ∧ (¬ (¬ s0 = 0) → (narrow .boolean (.int (0 : Int32)) = .int (0 : Int32) ∧ Q (some (.int (0 : Int32))) M)))) :
    P 81 76 [(0, .ref 1000), (1, .ref 0), (2, .ref 36), (3, .int l3)] [.int s0] M Q := by
  exact qRun_ok hG (ops := qo_81) (cuts := qc_lw_law) rfl 123 76 _ _ _ _ hV
set_option maxRecDepth 100000 in
theorem v_lw_law_116 (hG : qGood Ls xs P) {s0 : Int32} {M : qMem} {Q : qPost}
    (hV : ((s0 = 0 → (narrow .boolean (.int (0 : Int32)) = .int (0 : Int32) ∧ Q (some (.int (0 : Int32))) M)) ∧ (¬ (s0 = 0) → (narrow .boolean (.int (1 : Int32)) = .int (1 : Int32) ∧ Q (some (.int (1 : Int32))) M)))) :
    P 81 116 [] [.int s0] M Q := by
  exact qRun_ok hG (ops := qo_81) (cuts := qc_lw_law) rfl 123 116 _ _ _ _ hV
end VC
