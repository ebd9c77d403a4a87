/-! what is to be shown, segment by segment: md (printed by wip/genvc.py) -/
section VC
variable {Ls : Nat} {xs : Nat → Int32} {P : qSem}
def qc_md_isIn : List (Nat × List Nat) := []
theorem v_md_isIn_0 (hG : qGood Ls xs P) {l0 l1 l2 : Int32} {M : qMem} {Q : qPost}
    (hV : ((l0 < l1 → (narrow .boolean (.int (0 : Int32)) = .int (0 : Int32) ∧ Q (some (.int (0 : Int32))) M)) ∧ (¬ (l0 < l1) → ((l2 < l0 → (narrow .boolean (.int (0 : Int32)) = .int (0 : Int32) ∧ Q (some (.int (0 : Int32))) M)) ∧ (¬ (l2 < l0) → (narrow .boolean (.int (1 : Int32)) = .int (1 : Int32) ∧ Q (some (.int (1 : Int32))) M)))))) :
    P 89 0 [(0, .int l0), (1, .int l1), (2, .int l2)] [] M Q := by
  exact qRun_ok hG (ops := qo_89) (cuts := qc_md_isIn) rfl 12 0 _ _ _ _ hV
def qc_md_many : List (Nat × List Nat) := []
theorem v_md_many_0 (hG : qGood Ls xs P) {M : qMem} {Q : qPost}
    (hV : (vp_in (64 : Int32) 65 ∧ Q (some (.int (M.1 37 (64 : Int32).toNatClampNeg))) M)) :
    P 90 0 [(0, .ref 36)] [] M Q := by
  exact qRun_ok hG (ops := qo_90) (cuts := qc_md_many) rfl 7 0 _ _ _ _ hV
def qc_md_isReading : List (Nat × List Nat) := [(4, []), (7, [])]
theorem v_md_isReading_0 (hG : qGood Ls xs P) {l1 : Int32} {M : qMem} {Q : qPost}
    (hV : (P 90 0 [(0, .ref 36)] [] M (fun v M' => P 91 4 [] (v.toList ++ [.int (0 : Int32), .int l1]) M' Q))) :
    P 91 0 [(0, .ref 36), (1, .int l1)] [] M Q := by
  exact qRun_ok hG (ops := qo_91) (cuts := qc_md_isReading) rfl 10 0 _ _ _ _ hV
theorem v_md_isReading_4 (hG : qGood Ls xs P) {s0 s1 s2 : Int32} {M : qMem} {Q : qPost}
    (hV : (P 89 0 [(0, .int s2), (1, .int s1), (2, .int (s0 - (1 : Int32)))] [] M (fun v M' => P 91 7 [] (v.toList ++ []) M' Q))) :
    P 91 4 [] [.int s0, .int s1, .int s2] M Q := by
  exact qRun_ok hG (ops := qo_91) (cuts := qc_md_isReading) rfl 10 4 _ _ _ _ hV
theorem v_md_isReading_7 (hG : qGood Ls xs P) {s0 : Int32} {M : qMem} {Q : qPost}
    (hV : (narrow .boolean (.int s0) = .int s0 ∧ Q (some (.int s0)) M)) :
    P 91 7 [] [.int s0] M Q := by
  exact qRun_ok hG (ops := qo_91) (cuts := qc_md_isReading) rfl 10 7 _ _ _ _ hV
def qc_md_isThere : List (Nat × List Nat) := [(3, [0, 1])]
theorem v_md_isThere_0 (hG : qGood Ls xs P) {l1 : Int32} {M : qMem} {Q : qPost}
    (hV : (P 91 0 [(0, .ref 36), (1, .int l1)] [] M (fun v M' => P 92 3 [(0, .ref 36), (1, .int l1)] (v.toList ++ []) M' Q))) :
    P 92 0 [(0, .ref 36), (1, .int l1)] [] M Q := by
  exact qRun_ok hG (ops := qo_92) (cuts := qc_md_isThere) rfl 16 0 _ _ _ _ hV
theorem v_md_isThere_3 (hG : qGood Ls xs P) {l1 s0 : Int32} {M : qMem} {Q : qPost}
    (hV : ((s0 = 0 → (narrow .boolean (.int (0 : Int32)) = .int (0 : Int32) ∧ Q (some (.int (0 : Int32))) M)) ∧ (¬ (s0 = 0) → (vp_in l1 65 ∧ (((M.1 37 l1.toNatClampNeg) = (-1000000001 : Int32) → (narrow .boolean (.int (0 : Int32)) = .int (0 : Int32) ∧ Q (some (.int (0 : Int32))) M)) ∧ (¬ ((M.1 37 l1.toNatClampNeg) = (-1000000001 : Int32)) → (narrow .boolean (.int (1 : Int32)) = .int (1 : Int32) ∧ Q (some (.int (1 : Int32))) M))))))) :
    P 92 3 [(0, .ref 36), (1, .int l1)] [.int s0] M Q := by
  exact qRun_ok hG (ops := qo_92) (cuts := qc_md_isThere) rfl 16 3 _ _ _ _ hV
def qc_md_remember : List (Nat × List Nat) := [(6, [0, 1]), (29, [0, 1])]
set_option maxRecDepth 100000 in
theorem v_md_remember_0 (hG : qGood Ls xs P) {M : qMem} {Q : qPost}
    (hV : ((¬ (M.1 36 2) = (8 : Int32) → (P 93 29 [(0, .ref 36), (1, .int (0 : Int32))] [] M Q)) ∧ (¬ (¬ (M.1 36 2) = (8 : Int32)) → (P 93 6 [(0, .ref 36), (1, .int (0 : Int32))] [] M Q)))) :
    P 93 0 [(0, .ref 36)] [] M Q := by
  exact qRun_ok hG (ops := qo_93) (cuts := qc_md_remember) rfl 56 0 _ _ _ _ hV
set_option maxRecDepth 100000 in
theorem v_md_remember_29 (hG : qGood Ls xs P) {l1 : Int32} {M : qMem} {Q : qPost}
    (hV : (((65 : Int32) ≤ l1 → Q none (pI M 36 2 ((M.1 36 2) + (1 : Int32)))) ∧ (¬ ((65 : Int32) ≤ l1) → (vp_in l1 65 ∧ (vp_in (((65 : Int32) * (M.1 36 2)) + l1) 520 ∧ (P 93 29 [(0, .ref 36), (1, .int (l1 + (1 : Int32)))] [] (pI M 38 (((65 : Int32) * (M.1 36 2)) + l1).toNatClampNeg (M.1 37 l1.toNatClampNeg)) Q)))))) :
    P 93 29 [(0, .ref 36), (1, .int l1)] [] M Q := by
  exact qRun_ok hG (ops := qo_93) (cuts := qc_md_remember) rfl 56 29 _ _ _ _ hV
set_option maxRecDepth 100000 in
theorem v_md_remember_6 (hG : qGood Ls xs P) {l1 : Int32} {M : qMem} {Q : qPost}
    (hV : (((455 : Int32) ≤ l1 → (P 93 29 [(0, .ref 36), (1, .int (0 : Int32))] [] (pI M 36 2 ((M.1 36 2) - (1 : Int32))) Q)) ∧ (¬ ((455 : Int32) ≤ l1) → (vp_in (l1 + (65 : Int32)) 520 ∧ (vp_in l1 520 ∧ (P 93 6 [(0, .ref 36), (1, .int (l1 + (1 : Int32)))] [] (pI M 38 l1.toNatClampNeg (M.1 38 (l1 + (65 : Int32)).toNatClampNeg)) Q)))))) :
    P 93 6 [(0, .ref 36), (1, .int l1)] [] M Q := by
  exact qRun_ok hG (ops := qo_93) (cuts := qc_md_remember) rfl 56 6 _ _ _ _ hV
def qc_md_isPhase : List (Nat × List Nat) := []
theorem v_md_isPhase_0 (hG : qGood Ls xs P) {l0 : Int64} {M : qMem} {Q : qPost}
    (hV : (((lg_cmp l0 (-99999 : Int64)) < 0 → (narrow .boolean (.int (0 : Int32)) = .int (0 : Int32) ∧ Q (some (.int (0 : Int32))) M)) ∧ (¬ ((lg_cmp l0 (-99999 : Int64)) < 0) → ((0 < (lg_cmp l0 (99999 : Int64)) → (narrow .boolean (.int (0 : Int32)) = .int (0 : Int32) ∧ Q (some (.int (0 : Int32))) M)) ∧ (¬ (0 < (lg_cmp l0 (99999 : Int64))) → (narrow .boolean (.int (1 : Int32)) = .int (1 : Int32) ∧ Q (some (.int (1 : Int32))) M)))))) :
    P 94 0 [(0, .long l0)] [] M Q := by
  exact qRun_ok hG (ops := qo_94) (cuts := qc_md_isPhase) rfl 14 0 _ _ _ _ hV
def qc_md_floor : List (Nat × List Nat) := []
theorem v_md_floor_0 (hG : qGood Ls xs P) {l0 l2 : Int64} {M : qMem} {Q : qPost}
    (hV : (¬ l2 = 0 ∧ (¬ l2 = 0 ∧ ((0 ≤ (lg_cmp (l0 - l0 / l2 * l2) (0 : Int64)) → Q (some (.long (l0 / l2))) M) ∧ (¬ (0 ≤ (lg_cmp (l0 - l0 / l2 * l2) (0 : Int64))) → Q (some (.long ((l0 / l2) - (1 : Int64)))) M))))) :
    P 95 0 [(0, .long l0), (2, .long l2)] [] M Q := by
  exact qRun_ok hG (ops := qo_95) (cuts := qc_md_floor) rfl 18 0 _ _ _ _ hV
def qc_md_add : List (Nat × List Nat) := [(3, [0, 1]), (8, [0, 1]), (14, [0, 1]), (18, [0, 1]), (30, [])]
theorem v_md_add_0 (hG : qGood Ls xs P) {l1 : Int32} {M : qMem} {Q : qPost}
    (hV : (P 94 0 [(0, .long l1.toInt64)] [] M (fun v M' => P 96 3 [(0, .ref 36), (1, .int l1)] (v.toList ++ []) M' Q))) :
    P 96 0 [(0, .ref 36), (1, .int l1)] [] M Q := by
  exact qRun_ok hG (ops := qo_96) (cuts := qc_md_add) rfl 35 0 _ _ _ _ hV
theorem v_md_add_3 (hG : qGood Ls xs P) {l1 s0 : Int32} {M : qMem} {Q : qPost}
    (hV : ((¬ s0 = 0 → (P 90 0 [(0, .ref 36)] [] M (fun v M' => P 96 8 [(0, .ref 36), (1, .int l1)] (v.toList ++ []) M' Q))) ∧ (¬ (¬ s0 = 0) → Q (some (.int (-1000000002 : Int32))) M))) :
    P 96 3 [(0, .ref 36), (1, .int l1)] [.int s0] M Q := by
  exact qRun_ok hG (ops := qo_96) (cuts := qc_md_add) rfl 35 3 _ _ _ _ hV
theorem v_md_add_8 (hG : qGood Ls xs P) {l1 s0 : Int32} {M : qMem} {Q : qPost}
    (hV : ((¬ s0 = (64 : Int32) → (P 93 0 [(0, .ref 36)] [] M (fun v M' => P 96 14 [(0, .ref 36), (1, .int l1)] (v.toList ++ []) M' Q))) ∧ (¬ (¬ s0 = (64 : Int32)) → Q (some (.int (-1000000004 : Int32))) M))) :
    P 96 8 [(0, .ref 36), (1, .int l1)] [.int s0] M Q := by
  exact qRun_ok hG (ops := qo_96) (cuts := qc_md_add) rfl 35 8 _ _ _ _ hV
theorem v_md_add_14 (hG : qGood Ls xs P) {l1 : Int32} {M : qMem} {Q : qPost}
    (hV : (P 90 0 [(0, .ref 36)] [] M (fun v M' => P 96 18 [(0, .ref 36), (1, .int l1)] (v.toList ++ [.ref 37]) M' Q))) :
    P 96 14 [(0, .ref 36), (1, .int l1)] [] M Q := by
  exact qRun_ok hG (ops := qo_96) (cuts := qc_md_add) rfl 35 14 _ _ _ _ hV
theorem v_md_add_18 (hG : qGood Ls xs P) {l1 s0 : Int32} {M : qMem} {Q : qPost}
    (hV : (vp_in s0 65 ∧ (vp_in (64 : Int32) 65 ∧ (vp_in (64 : Int32) 65 ∧ (P 90 0 [(0, .ref 36)] [] (pI (pI M 37 s0.toNatClampNeg l1) 37 (64 : Int32).toNatClampNeg (((pI M 37 s0.toNatClampNeg l1).1 37 (64 : Int32).toNatClampNeg) + (1 : Int32))) (fun v M' => P 96 30 [] (v.toList ++ []) M' Q)))))) :
    P 96 18 [(0, .ref 36), (1, .int l1)] [.int s0, .ref 37] M Q := by
  exact qRun_ok hG (ops := qo_96) (cuts := qc_md_add) rfl 35 18 _ _ _ _ hV
theorem v_md_add_30 (hG : qGood Ls xs P) {s0 : Int32} {M : qMem} {Q : qPost}
    (hV : Q (some (.int (s0 - (1 : Int32)))) M) :
    P 96 30 [] [.int s0] M Q := by
  exact qRun_ok hG (ops := qo_96) (cuts := qc_md_add) rfl 35 30 _ _ _ _ hV
def qc_md_skip : List (Nat × List Nat) := [(4, [0, 1]), (9, [0, 1]), (17, [0, 1]), (19, [0, 1, 2]), (26, [0, 1, 2]), (42, [])]
set_option maxRecDepth 100000 in
theorem v_md_skip_0 (hG : qGood Ls xs P) {l1 : Int32} {M : qMem} {Q : qPost}
    (hV : (P 89 0 [(0, .int l1), (1, .int (1 : Int32)), (2, .int (64 : Int32))] [] M (fun v M' => P 97 4 [(0, .ref 36), (1, .int l1)] (v.toList ++ []) M' Q))) :
    P 97 0 [(0, .ref 36), (1, .int l1)] [] M Q := by
  exact qRun_ok hG (ops := qo_97) (cuts := qc_md_skip) rfl 45 0 _ _ _ _ hV
set_option maxRecDepth 100000 in
theorem v_md_skip_4 (hG : qGood Ls xs P) {l1 s0 : Int32} {M : qMem} {Q : qPost}
    (hV : ((¬ s0 = 0 → (P 90 0 [(0, .ref 36)] [] M (fun v M' => P 97 9 [(0, .ref 36), (1, .int l1)] (v.toList ++ []) M' Q))) ∧ (¬ (¬ s0 = 0) → Q (some (.int (-1000000002 : Int32))) M))) :
    P 97 4 [(0, .ref 36), (1, .int l1)] [.int s0] M Q := by
  exact qRun_ok hG (ops := qo_97) (cuts := qc_md_skip) rfl 45 4 _ _ _ _ hV
set_option maxRecDepth 100000 in
theorem v_md_skip_9 (hG : qGood Ls xs P) {l1 s0 : Int32} {M : qMem} {Q : qPost}
    (hV : (((s0 + l1) ≤ (64 : Int32) → (P 93 0 [(0, .ref 36)] [] M (fun v M' => P 97 17 [(0, .ref 36), (1, .int l1)] (v.toList ++ []) M' Q))) ∧ (¬ ((s0 + l1) ≤ (64 : Int32)) → Q (some (.int (-1000000004 : Int32))) M))) :
    P 97 9 [(0, .ref 36), (1, .int l1)] [.int s0] M Q := by
  exact qRun_ok hG (ops := qo_97) (cuts := qc_md_skip) rfl 45 9 _ _ _ _ hV
set_option maxRecDepth 100000 in
theorem v_md_skip_17 (hG : qGood Ls xs P) {l1 : Int32} {M : qMem} {Q : qPost}
    (hV : (P 97 19 [(0, .ref 36), (1, .int l1), (2, .int (0 : Int32))] [] M Q)) :
    P 97 17 [(0, .ref 36), (1, .int l1)] [] M Q := by
  exact qRun_ok hG (ops := qo_97) (cuts := qc_md_skip) rfl 45 17 _ _ _ _ hV
set_option maxRecDepth 100000 in
theorem v_md_skip_19 (hG : qGood Ls xs P) {l1 l2 : Int32} {M : qMem} {Q : qPost}
    (hV : ((l1 ≤ l2 → (vp_in (64 : Int32) 65 ∧ (vp_in (64 : Int32) 65 ∧ (P 90 0 [(0, .ref 36)] [] (pI M 37 (64 : Int32).toNatClampNeg ((M.1 37 (64 : Int32).toNatClampNeg) + l1)) (fun v M' => P 97 42 [] (v.toList ++ []) M' Q))))) ∧ (¬ (l1 ≤ l2) → (P 90 0 [(0, .ref 36)] [] M (fun v M' => P 97 26 [(0, .ref 36), (1, .int l1), (2, .int l2)] (v.toList ++ [.ref 37]) M' Q))))) :
    P 97 19 [(0, .ref 36), (1, .int l1), (2, .int l2)] [] M Q := by
  exact qRun_ok hG (ops := qo_97) (cuts := qc_md_skip) rfl 45 19 _ _ _ _ hV
set_option maxRecDepth 100000 in
theorem v_md_skip_42 (hG : qGood Ls xs P) {s0 : Int32} {M : qMem} {Q : qPost}
    (hV : Q (some (.int s0)) M) :
    P 97 42 [] [.int s0] M Q := by
  exact qRun_ok hG (ops := qo_97) (cuts := qc_md_skip) rfl 45 42 _ _ _ _ hV
set_option maxRecDepth 100000 in
theorem v_md_skip_26 (hG : qGood Ls xs P) {l1 l2 s0 : Int32} {M : qMem} {Q : qPost}
    (hV : (vp_in (s0 + l2) 65 ∧ (P 97 19 [(0, .ref 36), (1, .int l1), (2, .int (l2 + (1 : Int32)))] [] (pI M 37 (s0 + l2).toNatClampNeg (-1000000001 : Int32)) Q))) :
    P 97 26 [(0, .ref 36), (1, .int l1), (2, .int l2)] [.int s0, .ref 37] M Q := by
  exact qRun_ok hG (ops := qo_97) (cuts := qc_md_skip) rfl 45 26 _ _ _ _ hV
def qc_md_set : List (Nat × List Nat) := [(3, [0, 1, 2]), (7, [0, 1, 2]), (15, [0, 1, 2])]
theorem v_md_set_0 (hG : qGood Ls xs P) {l1 l2 : Int32} {M : qMem} {Q : qPost}
    (hV : (P 91 0 [(0, .ref 36), (1, .int l1)] [] M (fun v M' => P 98 3 [(0, .ref 36), (1, .int l1), (2, .int l2)] (v.toList ++ []) M' Q))) :
    P 98 0 [(0, .ref 36), (1, .int l1), (2, .int l2)] [] M Q := by
  exact qRun_ok hG (ops := qo_98) (cuts := qc_md_set) rfl 29 0 _ _ _ _ hV
theorem v_md_set_3 (hG : qGood Ls xs P) {l1 l2 s0 : Int32} {M : qMem} {Q : qPost}
    (hV : ((s0 = 0 → Q (some (.int (-1000000002 : Int32))) M) ∧ (¬ (s0 = 0) → (P 94 0 [(0, .long l2.toInt64)] [] M (fun v M' => P 98 7 [(0, .ref 36), (1, .int l1), (2, .int l2)] (v.toList ++ []) M' Q))))) :
    P 98 3 [(0, .ref 36), (1, .int l1), (2, .int l2)] [.int s0] M Q := by
  exact qRun_ok hG (ops := qo_98) (cuts := qc_md_set) rfl 29 3 _ _ _ _ hV
theorem v_md_set_7 (hG : qGood Ls xs P) {l1 l2 s0 : Int32} {M : qMem} {Q : qPost}
    (hV : ((¬ s0 = 0 → (P 93 0 [(0, .ref 36)] [] M (fun v M' => P 98 15 [(0, .ref 36), (1, .int l1), (2, .int l2)] (v.toList ++ []) M' Q))) ∧ (¬ (¬ s0 = 0) → ((l2 = (-1000000001 : Int32) → (P 93 0 [(0, .ref 36)] [] M (fun v M' => P 98 15 [(0, .ref 36), (1, .int l1), (2, .int l2)] (v.toList ++ []) M' Q))) ∧ (¬ (l2 = (-1000000001 : Int32)) → Q (some (.int (-1000000002 : Int32))) M))))) :
    P 98 7 [(0, .ref 36), (1, .int l1), (2, .int l2)] [.int s0] M Q := by
  exact qRun_ok hG (ops := qo_98) (cuts := qc_md_set) rfl 29 7 _ _ _ _ hV
theorem v_md_set_15 (hG : qGood Ls xs P) {l1 l2 : Int32} {M : qMem} {Q : qPost}
    (hV : (vp_in l1 65 ∧ (vp_in l1 65 ∧ Q (some (.int (M.1 37 l1.toNatClampNeg))) (pI M 37 l1.toNatClampNeg l2)))) :
    P 98 15 [(0, .ref 36), (1, .int l1), (2, .int l2)] [] M Q := by
  exact qRun_ok hG (ops := qo_98) (cuts := qc_md_set) rfl 29 15 _ _ _ _ hV
def qc_md_clear : List (Nat × List Nat) := [(2, [0]), (5, [0, 1])]
theorem v_md_clear_0 (hG : qGood Ls xs P) {M : qMem} {Q : qPost}
    (hV : (P 90 0 [(0, .ref 36)] [] M (fun v M' => P 99 2 [(0, .ref 36)] (v.toList ++ []) M' Q))) :
    P 99 0 [(0, .ref 36)] [] M Q := by
  exact qRun_ok hG (ops := qo_99) (cuts := qc_md_clear) rfl 14 0 _ _ _ _ hV
theorem v_md_clear_2 (hG : qGood Ls xs P) {s0 : Int32} {M : qMem} {Q : qPost}
    (hV : (P 93 0 [(0, .ref 36)] [] M (fun v M' => P 99 5 [(0, .ref 36), (1, .int s0)] (v.toList ++ []) M' Q))) :
    P 99 2 [(0, .ref 36)] [.int s0] M Q := by
  exact qRun_ok hG (ops := qo_99) (cuts := qc_md_clear) rfl 14 2 _ _ _ _ hV
theorem v_md_clear_5 (hG : qGood Ls xs P) {l1 : Int32} {M : qMem} {Q : qPost}
    (hV : (vp_in (64 : Int32) 65 ∧ Q (some (.int l1)) (pI M 37 (64 : Int32).toNatClampNeg (0 : Int32)))) :
    P 99 5 [(0, .ref 36), (1, .int l1)] [] M Q := by
  exact qRun_ok hG (ops := qo_99) (cuts := qc_md_clear) rfl 14 5 _ _ _ _ hV
def qc_md_subtract : List (Nat × List Nat) := [(4, [0, 1, 2]), (7, [0, 1, 2]), (11, [0, 1, 2]), (23, [0, 1, 2]), (30, [0, 2]), (47, [0, 1]), (49, [0, 1, 2]), (52, [0, 1, 2]), (59, [0, 1, 2])]
set_option maxRecDepth 100000 in
theorem v_md_subtract_0 (hG : qGood Ls xs P) {M : qMem} {Q : qPost}
    (hV : (P 100 4 [(0, .ref 36), (1, .int (0 : Int32)), (2, .int (0 : Int32))] [] M Q)) :
    P 100 0 [(0, .ref 36)] [] M Q := by
  exact qRun_ok hG (ops := qo_100) (cuts := qc_md_subtract) rfl 80 0 _ _ _ _ hV
set_option maxRecDepth 100000 in
theorem v_md_subtract_4 (hG : qGood Ls xs P) {l1 l2 : Int32} {M : qMem} {Q : qPost}
    (hV : (P 90 0 [(0, .ref 36)] [] M (fun v M' => P 100 7 [(0, .ref 36), (1, .int l1), (2, .int l2)] (v.toList ++ [.int l2]) M' Q))) :
    P 100 4 [(0, .ref 36), (1, .int l1), (2, .int l2)] [] M Q := by
  exact qRun_ok hG (ops := qo_100) (cuts := qc_md_subtract) rfl 80 4 _ _ _ _ hV
set_option maxRecDepth 100000 in
theorem v_md_subtract_7 (hG : qGood Ls xs P) {l1 l2 s0 s1 : Int32} {M : qMem} {Q : qPost}
    (hV : ((s0 ≤ s1 → (P 93 0 [(0, .ref 36)] [] M (fun v M' => P 100 47 [(0, .ref 36), (1, .int l1)] (v.toList ++ []) M' Q))) ∧ (¬ (s0 ≤ s1) → (P 92 0 [(0, .ref 36), (1, .int l2)] [] M (fun v M' => P 100 11 [(0, .ref 36), (1, .int l1), (2, .int l2)] (v.toList ++ []) M' Q))))) :
    P 100 7 [(0, .ref 36), (1, .int l1), (2, .int l2)] [.int s0, .int s1] M Q := by
  exact qRun_ok hG (ops := qo_100) (cuts := qc_md_subtract) rfl 80 7 _ _ _ _ hV
set_option maxRecDepth 100000 in
theorem v_md_subtract_47 (hG : qGood Ls xs P) {l1 : Int32} {M : qMem} {Q : qPost}
    (hV : (P 100 49 [(0, .ref 36), (1, .int l1), (2, .int (0 : Int32))] [] M Q)) :
    P 100 47 [(0, .ref 36), (1, .int l1)] [] M Q := by
  exact qRun_ok hG (ops := qo_100) (cuts := qc_md_subtract) rfl 80 47 _ _ _ _ hV
set_option maxRecDepth 100000 in
theorem v_md_subtract_11 (hG : qGood Ls xs P) {l1 l2 s0 : Int32} {M : qMem} {Q : qPost}
    (hV : ((s0 = 0 → (P 92 0 [(0, .ref 36), (1, .int l2)] [] M (fun v M' => P 100 30 [(0, .ref 36), (2, .int l2)] (v.toList ++ [.int l1]) M' Q))) ∧ (¬ (s0 = 0) → (vp_in l2 65 ∧ (vp_in l2 64 ∧ (P 94 0 [(0, .long ((M.1 37 l2.toNatClampNeg).toInt64 - (M.2 41 l2.toNatClampNeg)))] [] M (fun v M' => P 100 23 [(0, .ref 36), (1, .int l1), (2, .int l2)] (v.toList ++ []) M' Q))))))) :
    P 100 11 [(0, .ref 36), (1, .int l1), (2, .int l2)] [.int s0] M Q := by
  exact qRun_ok hG (ops := qo_100) (cuts := qc_md_subtract) rfl 80 11 _ _ _ _ hV
set_option maxRecDepth 100000 in
theorem v_md_subtract_49 (hG : qGood Ls xs P) {l1 l2 : Int32} {M : qMem} {Q : qPost}
    (hV : (P 90 0 [(0, .ref 36)] [] M (fun v M' => P 100 52 [(0, .ref 36), (1, .int l1), (2, .int l2)] (v.toList ++ [.int l2]) M' Q))) :
    P 100 49 [(0, .ref 36), (1, .int l1), (2, .int l2)] [] M Q := by
  exact qRun_ok hG (ops := qo_100) (cuts := qc_md_subtract) rfl 80 49 _ _ _ _ hV
set_option maxRecDepth 100000 in
theorem v_md_subtract_30 (hG : qGood Ls xs P) {l2 s0 s1 : Int32} {M : qMem} {Q : qPost}
    (hV : ((s0 = 0 → (P 100 4 [(0, .ref 36), (1, .int (s1 + (0 : Int32))), (2, .int (l2 + (1 : Int32)))] [] M Q)) ∧ (¬ (s0 = 0) → (vp_in l2 64 ∧ (((lg_cmp (M.2 41 l2.toNatClampNeg) (0 : Int64)) = 0 → (P 100 4 [(0, .ref 36), (1, .int (s1 + (0 : Int32))), (2, .int (l2 + (1 : Int32)))] [] M Q)) ∧ (¬ ((lg_cmp (M.2 41 l2.toNatClampNeg) (0 : Int64)) = 0) → (P 100 4 [(0, .ref 36), (1, .int (s1 + (1 : Int32))), (2, .int (l2 + (1 : Int32)))] [] M Q))))))) :
    P 100 30 [(0, .ref 36), (2, .int l2)] [.int s0, .int s1] M Q := by
  exact qRun_ok hG (ops := qo_100) (cuts := qc_md_subtract) rfl 80 30 _ _ _ _ hV
set_option maxRecDepth 100000 in
theorem v_md_subtract_23 (hG : qGood Ls xs P) {l1 l2 s0 : Int32} {M : qMem} {Q : qPost}
    (hV : ((¬ s0 = 0 → (P 92 0 [(0, .ref 36), (1, .int l2)] [] M (fun v M' => P 100 30 [(0, .ref 36), (2, .int l2)] (v.toList ++ [.int l1]) M' Q))) ∧ (¬ (¬ s0 = 0) → Q (some (.int (-1000000005 : Int32))) M))) :
    P 100 23 [(0, .ref 36), (1, .int l1), (2, .int l2)] [.int s0] M Q := by
  exact qRun_ok hG (ops := qo_100) (cuts := qc_md_subtract) rfl 80 23 _ _ _ _ hV
set_option maxRecDepth 100000 in
theorem v_md_subtract_52 (hG : qGood Ls xs P) {l1 l2 s0 s1 : Int32} {M : qMem} {Q : qPost}
    (hV : ((s0 ≤ s1 → Q (some (.int l1)) M) ∧ (¬ (s0 ≤ s1) → (P 92 0 [(0, .ref 36), (1, .int l2)] [] M (fun v M' => P 100 59 [(0, .ref 36), (1, .int l1), (2, .int l2)] (v.toList ++ [.int l2, .ref 37]) M' Q))))) :
    P 100 52 [(0, .ref 36), (1, .int l1), (2, .int l2)] [.int s0, .int s1] M Q := by
  exact qRun_ok hG (ops := qo_100) (cuts := qc_md_subtract) rfl 80 52 _ _ _ _ hV
set_option maxRecDepth 100000 in
theorem v_md_subtract_59 (hG : qGood Ls xs P) {l1 l2 s0 s1 : Int32} {M : qMem} {Q : qPost}
    (hV : ((s0 = 0 → (vp_in s1 65 ∧ (P 100 49 [(0, .ref 36), (1, .int l1), (2, .int (l2 + (1 : Int32)))] [] (pI M 37 s1.toNatClampNeg (-1000000001 : Int32)) Q))) ∧ (¬ (s0 = 0) → (vp_in l2 65 ∧ (vp_in l2 64 ∧ (vp_in s1 65 ∧ (P 100 49 [(0, .ref 36), (1, .int l1), (2, .int (l2 + (1 : Int32)))] [] (pI M 37 s1.toNatClampNeg ((M.1 37 l2.toNatClampNeg).toInt64 - (M.2 41 l2.toNatClampNeg)).toInt32) Q))))))) :
    P 100 59 [(0, .ref 36), (1, .int l1), (2, .int l2)] [.int s0, .int s1, .ref 37] M Q := by
  exact qRun_ok hG (ops := qo_100) (cuts := qc_md_subtract) rfl 80 59 _ _ _ _ hV
def qc_md_onLine : List (Nat × List Nat) := [(27, [])]
theorem v_md_onLine_0 (hG : qGood Ls xs P) {l1 l2 l3 : Int32} {M : qMem} {Q : qPost}
    (hV : (vp_in l2 65 ∧ (vp_in l1 65 ∧ (vp_in l1 65 ∧ (P 95 0 [(0, .long (((M.1 37 l2.toNatClampNeg) - (M.1 37 l1.toNatClampNeg)).toInt64 * (l3 - l1).toInt64)), (2, .long (l2 - l1).toInt64)] [] M (fun v M' => P 101 27 [] (v.toList ++ [.long (M.1 37 l1.toNatClampNeg).toInt64]) M' Q)))))) :
    P 101 0 [(0, .ref 36), (1, .int l1), (2, .int l2), (3, .int l3)] [] M Q := by
  exact qRun_ok hG (ops := qo_101) (cuts := qc_md_onLine) rfl 31 0 _ _ _ _ hV
theorem v_md_onLine_27 (hG : qGood Ls xs P) {s0 s1 : Int64} {M : qMem} {Q : qPost}
    (hV : Q (some (.long (s1 + s0))) M) :
    P 101 27 [] [.long s0, .long s1] M Q := by
  exact qRun_ok hG (ops := qo_101) (cuts := qc_md_onLine) rfl 31 27 _ _ _ _ hV
def qc_md_removeLine : List (Nat × List Nat) := [(3, [0, 1, 2]), (7, [0, 1, 2]), (16, [0, 1, 2]), (20, [0, 1, 2]), (25, [0, 1, 2, 3]), (28, [0, 1, 2, 3]), (37, [0, 1, 2, 3]), (42, [])]
set_option maxRecDepth 100000 in
theorem v_md_removeLine_0 (hG : qGood Ls xs P) {l1 l2 : Int32} {M : qMem} {Q : qPost}
    (hV : (P 91 0 [(0, .ref 36), (1, .int l1)] [] M (fun v M' => P 102 3 [(0, .ref 36), (1, .int l1), (2, .int l2)] (v.toList ++ []) M' Q))) :
    P 102 0 [(0, .ref 36), (1, .int l1), (2, .int l2)] [] M Q := by
  exact qRun_ok hG (ops := qo_102) (cuts := qc_md_removeLine) rfl 45 0 _ _ _ _ hV
set_option maxRecDepth 100000 in
theorem v_md_removeLine_3 (hG : qGood Ls xs P) {l1 l2 s0 : Int32} {M : qMem} {Q : qPost}
    (hV : ((s0 = 0 → Q (some (.int (-1000000002 : Int32))) M) ∧ (¬ (s0 = 0) → (P 91 0 [(0, .ref 36), (1, .int l2)] [] M (fun v M' => P 102 7 [(0, .ref 36), (1, .int l1), (2, .int l2)] (v.toList ++ []) M' Q))))) :
    P 102 3 [(0, .ref 36), (1, .int l1), (2, .int l2)] [.int s0] M Q := by
  exact qRun_ok hG (ops := qo_102) (cuts := qc_md_removeLine) rfl 45 3 _ _ _ _ hV
set_option maxRecDepth 100000 in
theorem v_md_removeLine_7 (hG : qGood Ls xs P) {l1 l2 s0 : Int32} {M : qMem} {Q : qPost}
    (hV : ((s0 = 0 → Q (some (.int (-1000000002 : Int32))) M) ∧ (¬ (s0 = 0) → ((l1 < l2 → (P 92 0 [(0, .ref 36), (1, .int l1)] [] M (fun v M' => P 102 16 [(0, .ref 36), (1, .int l1), (2, .int l2)] (v.toList ++ []) M' Q))) ∧ (¬ (l1 < l2) → Q (some (.int (-1000000002 : Int32))) M))))) :
    P 102 7 [(0, .ref 36), (1, .int l1), (2, .int l2)] [.int s0] M Q := by
  exact qRun_ok hG (ops := qo_102) (cuts := qc_md_removeLine) rfl 45 7 _ _ _ _ hV
set_option maxRecDepth 100000 in
theorem v_md_removeLine_16 (hG : qGood Ls xs P) {l1 l2 s0 : Int32} {M : qMem} {Q : qPost}
    (hV : ((s0 = 0 → Q (some (.int (-1000000003 : Int32))) M) ∧ (¬ (s0 = 0) → (P 92 0 [(0, .ref 36), (1, .int l2)] [] M (fun v M' => P 102 20 [(0, .ref 36), (1, .int l1), (2, .int l2)] (v.toList ++ []) M' Q))))) :
    P 102 16 [(0, .ref 36), (1, .int l1), (2, .int l2)] [.int s0] M Q := by
  exact qRun_ok hG (ops := qo_102) (cuts := qc_md_removeLine) rfl 45 16 _ _ _ _ hV
set_option maxRecDepth 100000 in
theorem v_md_removeLine_20 (hG : qGood Ls xs P) {l1 l2 s0 : Int32} {M : qMem} {Q : qPost}
    (hV : ((¬ s0 = 0 → (P 102 25 [(0, .ref 36), (1, .int l1), (2, .int l2), (3, .int (0 : Int32))] [] M Q)) ∧ (¬ (¬ s0 = 0) → Q (some (.int (-1000000003 : Int32))) M))) :
    P 102 20 [(0, .ref 36), (1, .int l1), (2, .int l2)] [.int s0] M Q := by
  exact qRun_ok hG (ops := qo_102) (cuts := qc_md_removeLine) rfl 45 20 _ _ _ _ hV
set_option maxRecDepth 100000 in
theorem v_md_removeLine_25 (hG : qGood Ls xs P) {l1 l2 l3 : Int32} {M : qMem} {Q : qPost}
    (hV : (P 90 0 [(0, .ref 36)] [] M (fun v M' => P 102 28 [(0, .ref 36), (1, .int l1), (2, .int l2), (3, .int l3)] (v.toList ++ [.int l3]) M' Q))) :
    P 102 25 [(0, .ref 36), (1, .int l1), (2, .int l2), (3, .int l3)] [] M Q := by
  exact qRun_ok hG (ops := qo_102) (cuts := qc_md_removeLine) rfl 45 25 _ _ _ _ hV
set_option maxRecDepth 100000 in
theorem v_md_removeLine_28 (hG : qGood Ls xs P) {l1 l2 l3 s0 s1 : Int32} {M : qMem} {Q : qPost}
    (hV : ((s0 ≤ s1 → (P 100 0 [(0, .ref 36)] [] M (fun v M' => P 102 42 [] (v.toList ++ []) M' Q))) ∧ (¬ (s0 ≤ s1) → (P 101 0 [(0, .ref 36), (1, .int l1), (2, .int l2), (3, .int l3)] [] M (fun v M' => P 102 37 [(0, .ref 36), (1, .int l1), (2, .int l2), (3, .int l3)] (v.toList ++ [.int l3, .ref 41]) M' Q))))) :
    P 102 28 [(0, .ref 36), (1, .int l1), (2, .int l2), (3, .int l3)] [.int s0, .int s1] M Q := by
  exact qRun_ok hG (ops := qo_102) (cuts := qc_md_removeLine) rfl 45 28 _ _ _ _ hV
set_option maxRecDepth 100000 in
theorem v_md_removeLine_42 (hG : qGood Ls xs P) {s0 : Int32} {M : qMem} {Q : qPost}
    (hV : Q (some (.int s0)) M) :
    P 102 42 [] [.int s0] M Q := by
  exact qRun_ok hG (ops := qo_102) (cuts := qc_md_removeLine) rfl 45 42 _ _ _ _ hV
set_option maxRecDepth 100000 in
theorem v_md_removeLine_37 (hG : qGood Ls xs P) {s0 : Int64} {l1 l2 l3 s1 : Int32} {M : qMem} {Q : qPost}
    (hV : (vp_in s1 64 ∧ (P 102 25 [(0, .ref 36), (1, .int l1), (2, .int l2), (3, .int (l3 + (1 : Int32)))] [] (pJ M 41 s1.toNatClampNeg s0) Q))) :
    P 102 37 [(0, .ref 36), (1, .int l1), (2, .int l2), (3, .int l3)] [.long s0, .int s1, .ref 41] M Q := by
  exact qRun_ok hG (ops := qo_102) (cuts := qc_md_removeLine) rfl 45 37 _ _ _ _ hV
def qc_md_addLine : List (Nat × List Nat) := [(4, [0, 1, 2]), (9, [0, 1, 2]), (14, [0, 1, 2, 3]), (17, [0, 1, 2, 3]), (35, [])]
theorem v_md_addLine_0 (hG : qGood Ls xs P) {l1 l2 : Int32} {M : qMem} {Q : qPost}
    (hV : (P 89 0 [(0, .int l1), (1, .int (-9999 : Int32)), (2, .int (9999 : Int32))] [] M (fun v M' => P 103 4 [(0, .ref 36), (1, .int l1), (2, .int l2)] (v.toList ++ []) M' Q))) :
    P 103 0 [(0, .ref 36), (1, .int l1), (2, .int l2)] [] M Q := by
  exact qRun_ok hG (ops := qo_103) (cuts := qc_md_addLine) rfl 38 0 _ _ _ _ hV
theorem v_md_addLine_4 (hG : qGood Ls xs P) {l1 l2 s0 : Int32} {M : qMem} {Q : qPost}
    (hV : ((s0 = 0 → Q (some (.int (-1000000002 : Int32))) M) ∧ (¬ (s0 = 0) → (P 89 0 [(0, .int l2), (1, .int (-99999 : Int32)), (2, .int (99999 : Int32))] [] M (fun v M' => P 103 9 [(0, .ref 36), (1, .int l1), (2, .int l2)] (v.toList ++ []) M' Q))))) :
    P 103 4 [(0, .ref 36), (1, .int l1), (2, .int l2)] [.int s0] M Q := by
  exact qRun_ok hG (ops := qo_103) (cuts := qc_md_addLine) rfl 38 4 _ _ _ _ hV
theorem v_md_addLine_9 (hG : qGood Ls xs P) {l1 l2 s0 : Int32} {M : qMem} {Q : qPost}
    (hV : ((¬ s0 = 0 → (P 103 14 [(0, .ref 36), (1, .int l1), (2, .int l2), (3, .int (0 : Int32))] [] M Q)) ∧ (¬ (¬ s0 = 0) → Q (some (.int (-1000000002 : Int32))) M))) :
    P 103 9 [(0, .ref 36), (1, .int l1), (2, .int l2)] [.int s0] M Q := by
  exact qRun_ok hG (ops := qo_103) (cuts := qc_md_addLine) rfl 38 9 _ _ _ _ hV
theorem v_md_addLine_14 (hG : qGood Ls xs P) {l1 l2 l3 : Int32} {M : qMem} {Q : qPost}
    (hV : (P 90 0 [(0, .ref 36)] [] M (fun v M' => P 103 17 [(0, .ref 36), (1, .int l1), (2, .int l2), (3, .int l3)] (v.toList ++ [.int l3]) M' Q))) :
    P 103 14 [(0, .ref 36), (1, .int l1), (2, .int l2), (3, .int l3)] [] M Q := by
  exact qRun_ok hG (ops := qo_103) (cuts := qc_md_addLine) rfl 38 14 _ _ _ _ hV
theorem v_md_addLine_17 (hG : qGood Ls xs P) {l1 l2 l3 s0 s1 : Int32} {M : qMem} {Q : qPost}
    (hV : ((s0 ≤ s1 → (P 100 0 [(0, .ref 36)] [] M (fun v M' => P 103 35 [] (v.toList ++ []) M' Q))) ∧ (¬ (s0 ≤ s1) → (vp_in l3 64 ∧ (P 103 14 [(0, .ref 36), (1, .int l1), (2, .int l2), (3, .int (l3 + (1 : Int32)))] [] (pJ M 41 l3.toNatClampNeg (-((l1.toInt64 * l3.toInt64) + l2.toInt64))) Q))))) :
    P 103 17 [(0, .ref 36), (1, .int l1), (2, .int l2), (3, .int l3)] [.int s0, .int s1] M Q := by
  exact qRun_ok hG (ops := qo_103) (cuts := qc_md_addLine) rfl 38 17 _ _ _ _ hV
theorem v_md_addLine_35 (hG : qGood Ls xs P) {s0 : Int32} {M : qMem} {Q : qPost}
    (hV : Q (some (.int s0)) M) :
    P 103 35 [] [.int s0] M Q := by
  exact qRun_ok hG (ops := qo_103) (cuts := qc_md_addLine) rfl 38 35 _ _ _ _ hV
def qc_md_removeDrift : List (Nat × List Nat) := [(4, [0]), (13, [0, 1, 2, 4]), (16, [0, 1, 2, 4]), (23, [0, 1, 4]), (29, [0, 1, 4]), (40, [0]), (43, [0, 4, 6]), (46, [0, 4, 6]), (65, [4])]
set_option maxRecDepth 100000 in
theorem v_md_removeDrift_0 (hG : qGood Ls xs P) {M : qMem} {Q : qPost}
    (hV : (P 125 0 [(0, .ref 36), (1, .int (2 : Int32)), (2, .int (1 : Int32))] [] M (fun v M' => P 104 4 [(0, .ref 36)] (v.toList ++ []) M' Q))) :
    P 104 0 [(0, .ref 36)] [] M Q := by
  exact qRun_ok hG (ops := qo_104) (cuts := qc_md_removeDrift) rfl 76 0 _ _ _ _ hV
set_option maxRecDepth 100000 in
theorem v_md_removeDrift_4 (hG : qGood Ls xs P) {s0 : Int32} {M : qMem} {Q : qPost}
    (hV : ((¬ s0 = 0 → (P 104 13 [(0, .ref 36), (1, .int s0), (2, .long (0 : Int64)), (4, .int (0 : Int32))] [] M Q)) ∧ (¬ (¬ s0 = 0) → Q (some (.int (-1000000003 : Int32))) M))) :
    P 104 4 [(0, .ref 36)] [.int s0] M Q := by
  exact qRun_ok hG (ops := qo_104) (cuts := qc_md_removeDrift) rfl 76 4 _ _ _ _ hV
set_option maxRecDepth 100000 in
theorem v_md_removeDrift_13 (hG : qGood Ls xs P) {l2 : Int64} {l1 l4 : Int32} {M : qMem} {Q : qPost}
    (hV : (P 90 0 [(0, .ref 36)] [] M (fun v M' => P 104 16 [(0, .ref 36), (1, .int l1), (2, .long l2), (4, .int l4)] (v.toList ++ [.int l4]) M' Q))) :
    P 104 13 [(0, .ref 36), (1, .int l1), (2, .long l2), (4, .int l4)] [] M Q := by
  exact qRun_ok hG (ops := qo_104) (cuts := qc_md_removeDrift) rfl 76 13 _ _ _ _ hV
set_option maxRecDepth 100000 in
theorem v_md_removeDrift_16 (hG : qGood Ls xs P) {l2 : Int64} {l1 l4 s0 s1 : Int32} {M : qMem} {Q : qPost}
    (hV : ((s0 ≤ s1 → (P 95 0 [(0, .long l2), (2, .long l1.toInt64)] [] M (fun v M' => P 104 40 [(0, .ref 36)] (v.toList ++ []) M' Q))) ∧ (¬ (s0 ≤ s1) → (P 119 0 [(0, .ref 36), (1, .int (2 : Int32)), (2, .int (1 : Int32)), (3, .int l4)] [] M (fun v M' => P 104 23 [(0, .ref 36), (1, .int l1), (4, .int l4)] (v.toList ++ [.long l2]) M' Q))))) :
    P 104 16 [(0, .ref 36), (1, .int l1), (2, .long l2), (4, .int l4)] [.int s0, .int s1] M Q := by
  exact qRun_ok hG (ops := qo_104) (cuts := qc_md_removeDrift) rfl 76 16 _ _ _ _ hV
set_option maxRecDepth 100000 in
theorem v_md_removeDrift_40 (hG : qGood Ls xs P) {s0 : Int64} {M : qMem} {Q : qPost}
    (hV : (P 104 43 [(0, .ref 36), (4, .long s0), (6, .int (0 : Int32))] [] M Q)) :
    P 104 40 [(0, .ref 36)] [.long s0] M Q := by
  exact qRun_ok hG (ops := qo_104) (cuts := qc_md_removeDrift) rfl 76 40 _ _ _ _ hV
set_option maxRecDepth 100000 in
theorem v_md_removeDrift_23 (hG : qGood Ls xs P) {s1 : Int64} {l1 l4 s0 : Int32} {M : qMem} {Q : qPost}
    (hV : ((s0 = 0 → (P 104 13 [(0, .ref 36), (1, .int l1), (2, .long (s1 + (0 : Int64))), (4, .int (l4 + (1 : Int32)))] [] M Q)) ∧ (¬ (s0 = 0) → (P 122 0 [(0, .ref 36), (1, .int (2 : Int32)), (2, .int (1 : Int32)), (3, .int l4)] [] M (fun v M' => P 104 29 [(0, .ref 36), (1, .int l1), (4, .int l4)] (v.toList ++ [.long s1]) M' Q))))) :
    P 104 23 [(0, .ref 36), (1, .int l1), (4, .int l4)] [.int s0, .long s1] M Q := by
  exact qRun_ok hG (ops := qo_104) (cuts := qc_md_removeDrift) rfl 76 23 _ _ _ _ hV
set_option maxRecDepth 100000 in
theorem v_md_removeDrift_43 (hG : qGood Ls xs P) {l4 : Int64} {l6 : Int32} {M : qMem} {Q : qPost}
    (hV : (P 90 0 [(0, .ref 36)] [] M (fun v M' => P 104 46 [(0, .ref 36), (4, .long l4), (6, .int l6)] (v.toList ++ [.int l6]) M' Q))) :
    P 104 43 [(0, .ref 36), (4, .long l4), (6, .int l6)] [] M Q := by
  exact qRun_ok hG (ops := qo_104) (cuts := qc_md_removeDrift) rfl 76 43 _ _ _ _ hV
set_option maxRecDepth 100000 in
theorem v_md_removeDrift_29 (hG : qGood Ls xs P) {s1 : Int64} {l1 l4 s0 : Int32} {M : qMem} {Q : qPost}
    (hV : (P 104 13 [(0, .ref 36), (1, .int l1), (2, .long (s1 + s0.toInt64)), (4, .int (l4 + (1 : Int32)))] [] M Q)) :
    P 104 29 [(0, .ref 36), (1, .int l1), (4, .int l4)] [.int s0, .long s1] M Q := by
  exact qRun_ok hG (ops := qo_104) (cuts := qc_md_removeDrift) rfl 76 29 _ _ _ _ hV
set_option maxRecDepth 100000 in
theorem v_md_removeDrift_46 (hG : qGood Ls xs P) {l4 : Int64} {l6 s0 s1 : Int32} {M : qMem} {Q : qPost}
    (hV : ((s0 ≤ s1 → (P 100 0 [(0, .ref 36)] [] M (fun v M' => P 104 65 [(4, .long l4)] (v.toList ++ []) M' Q))) ∧ (¬ (s0 ≤ s1) → (¬ (2 : Int32) = 0 ∧ (vp_in l6 64 ∧ (P 104 43 [(0, .ref 36), (4, .long l4), (6, .int (l6 + (1 : Int32)))] [] (pJ M 41 l6.toNatClampNeg (l4 * ((l6 * (l6 - (1 : Int32))) / (2 : Int32)).toInt64)) Q)))))) :
    P 104 46 [(0, .ref 36), (4, .long l4), (6, .int l6)] [.int s0, .int s1] M Q := by
  exact qRun_ok hG (ops := qo_104) (cuts := qc_md_removeDrift) rfl 76 46 _ _ _ _ hV
set_option maxRecDepth 100000 in
theorem v_md_removeDrift_65 (hG : qGood Ls xs P) {l4 : Int64} {s0 : Int32} {M : qMem} {Q : qPost}
    (hV : ((¬ s0 = (-1000000005 : Int32) → Q (some (.int l4.toInt32)) M) ∧ (¬ (¬ s0 = (-1000000005 : Int32)) → Q (some (.int (-1000000005 : Int32))) M))) :
    P 104 65 [(4, .long l4)] [.int s0] M Q := by
  exact qRun_ok hG (ops := qo_104) (cuts := qc_md_removeDrift) rfl 76 65 _ _ _ _ hV
def qc_md_isOutlier : List (Nat × List Nat) := [(3, [0, 1, 2]), (9, [0, 1, 2]), (15, [0, 1, 2])]
set_option maxRecDepth 100000 in
theorem v_md_isOutlier_0 (hG : qGood Ls xs P) {l1 l2 : Int32} {M : qMem} {Q : qPost}
    (hV : (P 92 0 [(0, .ref 36), (1, .int l1)] [] M (fun v M' => P 105 3 [(0, .ref 36), (1, .int l1), (2, .int l2)] (v.toList ++ []) M' Q))) :
    P 105 0 [(0, .ref 36), (1, .int l1), (2, .int l2)] [] M Q := by
  exact qRun_ok hG (ops := qo_105) (cuts := qc_md_isOutlier) rfl 55 0 _ _ _ _ hV
set_option maxRecDepth 100000 in
theorem v_md_isOutlier_3 (hG : qGood Ls xs P) {l1 l2 s0 : Int32} {M : qMem} {Q : qPost}
    (hV : ((s0 = 0 → (narrow .boolean (.int (0 : Int32)) = .int (0 : Int32) ∧ Q (some (.int (0 : Int32))) M)) ∧ (¬ (s0 = 0) → (P 92 0 [(0, .ref 36), (1, .int (l1 - (1 : Int32)))] [] M (fun v M' => P 105 9 [(0, .ref 36), (1, .int l1), (2, .int l2)] (v.toList ++ []) M' Q))))) :
    P 105 3 [(0, .ref 36), (1, .int l1), (2, .int l2)] [.int s0] M Q := by
  exact qRun_ok hG (ops := qo_105) (cuts := qc_md_isOutlier) rfl 55 3 _ _ _ _ hV
set_option maxRecDepth 100000 in
theorem v_md_isOutlier_9 (hG : qGood Ls xs P) {l1 l2 s0 : Int32} {M : qMem} {Q : qPost}
    (hV : ((s0 = 0 → (narrow .boolean (.int (0 : Int32)) = .int (0 : Int32) ∧ Q (some (.int (0 : Int32))) M)) ∧ (¬ (s0 = 0) → (P 92 0 [(0, .ref 36), (1, .int (l1 + (1 : Int32)))] [] M (fun v M' => P 105 15 [(0, .ref 36), (1, .int l1), (2, .int l2)] (v.toList ++ []) M' Q))))) :
    P 105 9 [(0, .ref 36), (1, .int l1), (2, .int l2)] [.int s0] M Q := by
  exact qRun_ok hG (ops := qo_105) (cuts := qc_md_isOutlier) rfl 55 9 _ _ _ _ hV
set_option maxRecDepth 100000 in
theorem v_md_isOutlier_15 (hG : qGood Ls xs P) {l1 l2 s0 : Int32} {M : qMem} {Q : qPost}
    (hV : ((¬ s0 = 0 → (vp_in l1 65 ∧ (vp_in (l1 - (1 : Int32)) 65 ∧ (vp_in (l1 + (1 : Int32)) 65 ∧ ((((2 : Int32) * l2) < ((((2 : Int32) * (M.1 37 l1.toNatClampNeg)) - (M.1 37 (l1 - (1 : Int32)).toNatClampNeg)) - (M.1 37 (l1 + (1 : Int32)).toNatClampNeg)) → (narrow .boolean (.int (1 : Int32)) = .int (1 : Int32) ∧ Q (some (.int (1 : Int32))) M)) ∧ (¬ (((2 : Int32) * l2) < ((((2 : Int32) * (M.1 37 l1.toNatClampNeg)) - (M.1 37 (l1 - (1 : Int32)).toNatClampNeg)) - (M.1 37 (l1 + (1 : Int32)).toNatClampNeg))) → ((((-2 : Int32) * l2) ≤ ((((2 : Int32) * (M.1 37 l1.toNatClampNeg)) - (M.1 37 (l1 - (1 : Int32)).toNatClampNeg)) - (M.1 37 (l1 + (1 : Int32)).toNatClampNeg)) → (narrow .boolean (.int (0 : Int32)) = .int (0 : Int32) ∧ Q (some (.int (0 : Int32))) M)) ∧ (¬ (((-2 : Int32) * l2) ≤ ((((2 : Int32) * (M.1 37 l1.toNatClampNeg)) - (M.1 37 (l1 - (1 : Int32)).toNatClampNeg)) - (M.1 37 (l1 + (1 : Int32)).toNatClampNeg))) → (narrow .boolean (.int (1 : Int32)) = .int (1 : Int32) ∧ Q (some (.int (1 : Int32))) M))))))))) ∧ (¬ (¬ s0 = 0) → (narrow .boolean (.int (0 : Int32)) = .int (0 : Int32) ∧ Q (some (.int (0 : Int32))) M)))) :
    P 105 15 [(0, .ref 36), (1, .int l1), (2, .int l2)] [.int s0] M Q := by
  exact qRun_ok hG (ops := qo_105) (cuts := qc_md_isOutlier) rfl 55 15 _ _ _ _ hV
def qc_md_layOutliers : List (Nat × List Nat) := [(4, [0, 1, 2, 3]), (7, [0, 1, 2, 3]), (15, [0, 1, 2, 3])]
theorem v_md_layOutliers_0 (hG : qGood Ls xs P) {l1 : Int32} {M : qMem} {Q : qPost}
    (hV : (P 106 4 [(0, .ref 36), (1, .int l1), (2, .int (0 : Int32)), (3, .int (0 : Int32))] [] M Q)) :
    P 106 0 [(0, .ref 36), (1, .int l1)] [] M Q := by
  exact qRun_ok hG (ops := qo_106) (cuts := qc_md_layOutliers) rfl 33 0 _ _ _ _ hV
theorem v_md_layOutliers_4 (hG : qGood Ls xs P) {l1 l2 l3 : Int32} {M : qMem} {Q : qPost}
    (hV : (P 90 0 [(0, .ref 36)] [] M (fun v M' => P 106 7 [(0, .ref 36), (1, .int l1), (2, .int l2), (3, .int l3)] (v.toList ++ [.int l3]) M' Q))) :
    P 106 4 [(0, .ref 36), (1, .int l1), (2, .int l2), (3, .int l3)] [] M Q := by
  exact qRun_ok hG (ops := qo_106) (cuts := qc_md_layOutliers) rfl 33 4 _ _ _ _ hV
theorem v_md_layOutliers_7 (hG : qGood Ls xs P) {l1 l2 l3 s0 s1 : Int32} {M : qMem} {Q : qPost}
    (hV : ((s0 ≤ s1 → Q (some (.int l2)) M) ∧ (¬ (s0 ≤ s1) → (P 105 0 [(0, .ref 36), (1, .int l3), (2, .int l1)] [] M (fun v M' => P 106 15 [(0, .ref 36), (1, .int l1), (2, .int l2), (3, .int l3)] (v.toList ++ [.int l3, .ref 42]) M' Q))))) :
    P 106 7 [(0, .ref 36), (1, .int l1), (2, .int l2), (3, .int l3)] [.int s0, .int s1] M Q := by
  exact qRun_ok hG (ops := qo_106) (cuts := qc_md_layOutliers) rfl 33 7 _ _ _ _ hV
theorem v_md_layOutliers_15 (hG : qGood Ls xs P) {l1 l2 l3 s0 s1 : Int32} {M : qMem} {Q : qPost}
    (hV : (vp_in s1 64 ∧ (vp_in l3 64 ∧ ((((pI M 42 s1.toNatClampNeg (vp_nar .boolean s0)).1 42 l3.toNatClampNeg) = 0 → (P 106 4 [(0, .ref 36), (1, .int l1), (2, .int (l2 + (0 : Int32))), (3, .int (l3 + (1 : Int32)))] [] (pI M 42 s1.toNatClampNeg (vp_nar .boolean s0)) Q)) ∧ (¬ (((pI M 42 s1.toNatClampNeg (vp_nar .boolean s0)).1 42 l3.toNatClampNeg) = 0) → (P 106 4 [(0, .ref 36), (1, .int l1), (2, .int (l2 + (1 : Int32))), (3, .int (l3 + (1 : Int32)))] [] (pI M 42 s1.toNatClampNeg (vp_nar .boolean s0)) Q)))))) :
    P 106 15 [(0, .ref 36), (1, .int l1), (2, .int l2), (3, .int l3)] [.int s0, .int s1, .ref 42] M Q := by
  exact qRun_ok hG (ops := qo_106) (cuts := qc_md_layOutliers) rfl 33 15 _ _ _ _ hV
def qc_md_removeOutliers : List (Nat × List Nat) := [(4, [0, 1]), (9, [0, 1]), (12, [0]), (15, [0, 2, 3]), (18, [0, 2, 3])]
theorem v_md_removeOutliers_0 (hG : qGood Ls xs P) {l1 : Int32} {M : qMem} {Q : qPost}
    (hV : (P 89 0 [(0, .int l1), (1, .int (0 : Int32)), (2, .int (99999 : Int32))] [] M (fun v M' => P 107 4 [(0, .ref 36), (1, .int l1)] (v.toList ++ []) M' Q))) :
    P 107 0 [(0, .ref 36), (1, .int l1)] [] M Q := by
  exact qRun_ok hG (ops := qo_107) (cuts := qc_md_removeOutliers) rfl 40 0 _ _ _ _ hV
theorem v_md_removeOutliers_4 (hG : qGood Ls xs P) {l1 s0 : Int32} {M : qMem} {Q : qPost}
    (hV : ((¬ s0 = 0 → (P 93 0 [(0, .ref 36)] [] M (fun v M' => P 107 9 [(0, .ref 36), (1, .int l1)] (v.toList ++ []) M' Q))) ∧ (¬ (¬ s0 = 0) → Q (some (.int (-1000000002 : Int32))) M))) :
    P 107 4 [(0, .ref 36), (1, .int l1)] [.int s0] M Q := by
  exact qRun_ok hG (ops := qo_107) (cuts := qc_md_removeOutliers) rfl 40 4 _ _ _ _ hV
theorem v_md_removeOutliers_9 (hG : qGood Ls xs P) {l1 : Int32} {M : qMem} {Q : qPost}
    (hV : (P 106 0 [(0, .ref 36), (1, .int l1)] [] M (fun v M' => P 107 12 [(0, .ref 36)] (v.toList ++ []) M' Q))) :
    P 107 9 [(0, .ref 36), (1, .int l1)] [] M Q := by
  exact qRun_ok hG (ops := qo_107) (cuts := qc_md_removeOutliers) rfl 40 9 _ _ _ _ hV
theorem v_md_removeOutliers_12 (hG : qGood Ls xs P) {s0 : Int32} {M : qMem} {Q : qPost}
    (hV : (P 107 15 [(0, .ref 36), (2, .int s0), (3, .int (0 : Int32))] [] M Q)) :
    P 107 12 [(0, .ref 36)] [.int s0] M Q := by
  exact qRun_ok hG (ops := qo_107) (cuts := qc_md_removeOutliers) rfl 40 12 _ _ _ _ hV
theorem v_md_removeOutliers_15 (hG : qGood Ls xs P) {l2 l3 : Int32} {M : qMem} {Q : qPost}
    (hV : (P 90 0 [(0, .ref 36)] [] M (fun v M' => P 107 18 [(0, .ref 36), (2, .int l2), (3, .int l3)] (v.toList ++ [.int l3]) M' Q))) :
    P 107 15 [(0, .ref 36), (2, .int l2), (3, .int l3)] [] M Q := by
  exact qRun_ok hG (ops := qo_107) (cuts := qc_md_removeOutliers) rfl 40 15 _ _ _ _ hV
theorem v_md_removeOutliers_18 (hG : qGood Ls xs P) {l2 l3 s0 s1 : Int32} {M : qMem} {Q : qPost}
    (hV : ((s0 ≤ s1 → Q (some (.int l2)) M) ∧ (¬ (s0 ≤ s1) → (vp_in l3 64 ∧ (((M.1 42 l3.toNatClampNeg) = 0 → (vp_in l3 65 ∧ (vp_in l3 65 ∧ (P 107 15 [(0, .ref 36), (2, .int l2), (3, .int (l3 + (1 : Int32)))] [] (pI M 37 l3.toNatClampNeg (M.1 37 l3.toNatClampNeg)) Q)))) ∧ (¬ ((M.1 42 l3.toNatClampNeg) = 0) → (vp_in l3 65 ∧ (P 107 15 [(0, .ref 36), (2, .int l2), (3, .int (l3 + (1 : Int32)))] [] (pI M 37 l3.toNatClampNeg (-1000000001 : Int32)) Q)))))))) :
    P 107 18 [(0, .ref 36), (2, .int l2), (3, .int l3)] [.int s0, .int s1] M Q := by
  exact qRun_ok hG (ops := qo_107) (cuts := qc_md_removeOutliers) rfl 40 18 _ _ _ _ hV
def qc_md_endOfGap : List (Nat × List Nat) := [(2, [0, 2]), (5, [0, 2])]
theorem v_md_endOfGap_0 (hG : qGood Ls xs P) {l1 : Int32} {M : qMem} {Q : qPost}
    (hV : (P 108 2 [(0, .ref 36), (2, .int l1)] [] M Q)) :
    P 108 0 [(0, .ref 36), (1, .int l1)] [] M Q := by
  exact qRun_ok hG (ops := qo_108) (cuts := qc_md_endOfGap) rfl 18 0 _ _ _ _ hV
theorem v_md_endOfGap_2 (hG : qGood Ls xs P) {l2 : Int32} {M : qMem} {Q : qPost}
    (hV : (P 91 0 [(0, .ref 36), (1, .int l2)] [] M (fun v M' => P 108 5 [(0, .ref 36), (2, .int l2)] (v.toList ++ []) M' Q))) :
    P 108 2 [(0, .ref 36), (2, .int l2)] [] M Q := by
  exact qRun_ok hG (ops := qo_108) (cuts := qc_md_endOfGap) rfl 18 2 _ _ _ _ hV
theorem v_md_endOfGap_5 (hG : qGood Ls xs P) {l2 s0 : Int32} {M : qMem} {Q : qPost}
    (hV : ((s0 = 0 → Q (some (.int l2)) M) ∧ (¬ (s0 = 0) → (vp_in l2 65 ∧ ((¬ (M.1 37 l2.toNatClampNeg) = (-1000000001 : Int32) → Q (some (.int l2)) M) ∧ (¬ (¬ (M.1 37 l2.toNatClampNeg) = (-1000000001 : Int32)) → (P 108 2 [(0, .ref 36), (2, .int (l2 + (1 : Int32)))] [] M Q))))))) :
    P 108 5 [(0, .ref 36), (2, .int l2)] [.int s0] M Q := by
  exact qRun_ok hG (ops := qo_108) (cuts := qc_md_endOfGap) rfl 18 5 _ _ _ _ hV
def qc_md_beginsGap : List (Nat × List Nat) := []
theorem v_md_beginsGap_0 (hG : qGood Ls xs P) {l1 : Int32} {M : qMem} {Q : qPost}
    (hV : (vp_in l1 65 ∧ ((¬ (M.1 37 l1.toNatClampNeg) = (-1000000001 : Int32) → (narrow .boolean (.int (0 : Int32)) = .int (0 : Int32) ∧ Q (some (.int (0 : Int32))) M)) ∧ (¬ (¬ (M.1 37 l1.toNatClampNeg) = (-1000000001 : Int32)) → ((l1 = 0 → (narrow .boolean (.int (1 : Int32)) = .int (1 : Int32) ∧ Q (some (.int (1 : Int32))) M)) ∧ (¬ (l1 = 0) → (vp_in (l1 - (1 : Int32)) 65 ∧ (((M.1 37 (l1 - (1 : Int32)).toNatClampNeg) = (-1000000001 : Int32) → (narrow .boolean (.int (0 : Int32)) = .int (0 : Int32) ∧ Q (some (.int (0 : Int32))) M)) ∧ (¬ ((M.1 37 (l1 - (1 : Int32)).toNatClampNeg) = (-1000000001 : Int32)) → (narrow .boolean (.int (1 : Int32)) = .int (1 : Int32) ∧ Q (some (.int (1 : Int32))) M)))))))))) :
    P 109 0 [(0, .ref 36), (1, .int l1)] [] M Q := by
  exact qRun_ok hG (ops := qo_109) (cuts := qc_md_beginsGap) rfl 22 0 _ _ _ _ hV
def qc_md_fill : List (Nat × List Nat) := [(4, [0, 1]), (9, [0, 1]), (13, [0, 1, 2, 3]), (16, [0, 1, 2, 3]), (20, [0, 1, 2, 3]), (24, [0, 1, 2, 3, 4]), (28, [0, 1, 2, 3, 4]), (36, [0, 1, 2, 3, 4, 5]), (49, [0, 1, 2, 3, 4, 5])]
set_option maxRecDepth 100000 in
theorem v_md_fill_0 (hG : qGood Ls xs P) {l1 : Int32} {M : qMem} {Q : qPost}
    (hV : (P 89 0 [(0, .int l1), (1, .int (1 : Int32)), (2, .int (64 : Int32))] [] M (fun v M' => P 110 4 [(0, .ref 36), (1, .int l1)] (v.toList ++ []) M' Q))) :
    P 110 0 [(0, .ref 36), (1, .int l1)] [] M Q := by
  exact qRun_ok hG (ops := qo_110) (cuts := qc_md_fill) rfl 60 0 _ _ _ _ hV
set_option maxRecDepth 100000 in
theorem v_md_fill_4 (hG : qGood Ls xs P) {l1 s0 : Int32} {M : qMem} {Q : qPost}
    (hV : ((¬ s0 = 0 → (P 93 0 [(0, .ref 36)] [] M (fun v M' => P 110 9 [(0, .ref 36), (1, .int l1)] (v.toList ++ []) M' Q))) ∧ (¬ (¬ s0 = 0) → Q (some (.int (-1000000002 : Int32))) M))) :
    P 110 4 [(0, .ref 36), (1, .int l1)] [.int s0] M Q := by
  exact qRun_ok hG (ops := qo_110) (cuts := qc_md_fill) rfl 60 4 _ _ _ _ hV
set_option maxRecDepth 100000 in
theorem v_md_fill_9 (hG : qGood Ls xs P) {l1 : Int32} {M : qMem} {Q : qPost}
    (hV : (P 110 13 [(0, .ref 36), (1, .int l1), (2, .int (0 : Int32)), (3, .int (1 : Int32))] [] M Q)) :
    P 110 9 [(0, .ref 36), (1, .int l1)] [] M Q := by
  exact qRun_ok hG (ops := qo_110) (cuts := qc_md_fill) rfl 60 9 _ _ _ _ hV
set_option maxRecDepth 100000 in
theorem v_md_fill_13 (hG : qGood Ls xs P) {l1 l2 l3 : Int32} {M : qMem} {Q : qPost}
    (hV : (P 90 0 [(0, .ref 36)] [] M (fun v M' => P 110 16 [(0, .ref 36), (1, .int l1), (2, .int l2), (3, .int l3)] (v.toList ++ [.int l3]) M' Q))) :
    P 110 13 [(0, .ref 36), (1, .int l1), (2, .int l2), (3, .int l3)] [] M Q := by
  exact qRun_ok hG (ops := qo_110) (cuts := qc_md_fill) rfl 60 13 _ _ _ _ hV
set_option maxRecDepth 100000 in
theorem v_md_fill_16 (hG : qGood Ls xs P) {l1 l2 l3 s0 s1 : Int32} {M : qMem} {Q : qPost}
    (hV : ((s0 ≤ s1 → Q (some (.int l2)) M) ∧ (¬ (s0 ≤ s1) → (P 108 0 [(0, .ref 36), (1, .int l3)] [] M (fun v M' => P 110 20 [(0, .ref 36), (1, .int l1), (2, .int l2), (3, .int l3)] (v.toList ++ []) M' Q))))) :
    P 110 16 [(0, .ref 36), (1, .int l1), (2, .int l2), (3, .int l3)] [.int s0, .int s1] M Q := by
  exact qRun_ok hG (ops := qo_110) (cuts := qc_md_fill) rfl 60 16 _ _ _ _ hV
set_option maxRecDepth 100000 in
theorem v_md_fill_20 (hG : qGood Ls xs P) {l1 l2 l3 s0 : Int32} {M : qMem} {Q : qPost}
    (hV : (P 109 0 [(0, .ref 36), (1, .int l3)] [] M (fun v M' => P 110 24 [(0, .ref 36), (1, .int l1), (2, .int l2), (3, .int l3), (4, .int s0)] (v.toList ++ []) M' Q))) :
    P 110 20 [(0, .ref 36), (1, .int l1), (2, .int l2), (3, .int l3)] [.int s0] M Q := by
  exact qRun_ok hG (ops := qo_110) (cuts := qc_md_fill) rfl 60 20 _ _ _ _ hV
set_option maxRecDepth 100000 in
theorem v_md_fill_24 (hG : qGood Ls xs P) {l1 l2 l3 l4 s0 : Int32} {M : qMem} {Q : qPost}
    (hV : ((s0 = 0 → (P 110 13 [(0, .ref 36), (1, .int l1), (2, .int l2), (3, .int (l3 + (1 : Int32)))] [] M Q)) ∧ (¬ (s0 = 0) → (P 92 0 [(0, .ref 36), (1, .int l4)] [] M (fun v M' => P 110 28 [(0, .ref 36), (1, .int l1), (2, .int l2), (3, .int l3), (4, .int l4)] (v.toList ++ []) M' Q))))) :
    P 110 24 [(0, .ref 36), (1, .int l1), (2, .int l2), (3, .int l3), (4, .int l4)] [.int s0] M Q := by
  exact qRun_ok hG (ops := qo_110) (cuts := qc_md_fill) rfl 60 24 _ _ _ _ hV
set_option maxRecDepth 100000 in
theorem v_md_fill_28 (hG : qGood Ls xs P) {l1 l2 l3 l4 s0 : Int32} {M : qMem} {Q : qPost}
    (hV : ((s0 = 0 → (P 110 13 [(0, .ref 36), (1, .int l1), (2, .int l2), (3, .int (l3 + (1 : Int32)))] [] M Q)) ∧ (¬ (s0 = 0) → ((l1 < (l4 - l3) → (P 110 13 [(0, .ref 36), (1, .int l1), (2, .int l2), (3, .int (l3 + (1 : Int32)))] [] M Q)) ∧ (¬ (l1 < (l4 - l3)) → (P 110 36 [(0, .ref 36), (1, .int l1), (2, .int l2), (3, .int l3), (4, .int l4), (5, .int l3)] [] M Q)))))) :
    P 110 28 [(0, .ref 36), (1, .int l1), (2, .int l2), (3, .int l3), (4, .int l4)] [.int s0] M Q := by
  exact qRun_ok hG (ops := qo_110) (cuts := qc_md_fill) rfl 60 28 _ _ _ _ hV
set_option maxRecDepth 100000 in
theorem v_md_fill_36 (hG : qGood Ls xs P) {l1 l2 l3 l4 l5 : Int32} {M : qMem} {Q : qPost}
    (hV : ((l4 ≤ l5 → (P 110 13 [(0, .ref 36), (1, .int l1), (2, .int l2), (3, .int (l3 + (1 : Int32)))] [] M Q)) ∧ (¬ (l4 ≤ l5) → (P 101 0 [(0, .ref 36), (1, .int (l3 - (1 : Int32))), (2, .int l4), (3, .int l5)] [] M (fun v M' => P 110 49 [(0, .ref 36), (1, .int l1), (2, .int l2), (3, .int l3), (4, .int l4), (5, .int l5)] (v.toList ++ [.int l5, .ref 37]) M' Q))))) :
    P 110 36 [(0, .ref 36), (1, .int l1), (2, .int l2), (3, .int l3), (4, .int l4), (5, .int l5)] [] M Q := by
  exact qRun_ok hG (ops := qo_110) (cuts := qc_md_fill) rfl 60 36 _ _ _ _ hV
set_option maxRecDepth 100000 in
theorem v_md_fill_49 (hG : qGood Ls xs P) {s0 : Int64} {l1 l2 l3 l4 l5 s1 : Int32} {M : qMem} {Q : qPost}
    (hV : (vp_in s1 65 ∧ (P 110 36 [(0, .ref 36), (1, .int l1), (2, .int (l2 + (1 : Int32))), (3, .int l3), (4, .int l4), (5, .int (l5 + (1 : Int32)))] [] (pI M 37 s1.toNatClampNeg s0.toInt32) Q))) :
    P 110 49 [(0, .ref 36), (1, .int l1), (2, .int l2), (3, .int l3), (4, .int l4), (5, .int l5)] [.long s0, .int s1, .ref 37] M Q := by
  exact qRun_ok hG (ops := qo_110) (cuts := qc_md_fill) rfl 60 49 _ _ _ _ hV
def qc_md_thin : List (Nat × List Nat) := [(4, [0, 1, 2]), (11, [0, 1, 2]), (16, [0, 1, 2]), (20, [0, 1, 3, 4]), (23, [0, 1, 3, 4])]
set_option maxRecDepth 100000 in
theorem v_md_thin_0 (hG : qGood Ls xs P) {l1 l2 : Int32} {M : qMem} {Q : qPost}
    (hV : (P 89 0 [(0, .int l1), (1, .int (1 : Int32)), (2, .int (16 : Int32))] [] M (fun v M' => P 111 4 [(0, .ref 36), (1, .int l1), (2, .int l2)] (v.toList ++ []) M' Q))) :
    P 111 0 [(0, .ref 36), (1, .int l1), (2, .int l2)] [] M Q := by
  exact qRun_ok hG (ops := qo_111) (cuts := qc_md_thin) rfl 47 0 _ _ _ _ hV
set_option maxRecDepth 100000 in
theorem v_md_thin_4 (hG : qGood Ls xs P) {l1 l2 s0 : Int32} {M : qMem} {Q : qPost}
    (hV : ((s0 = 0 → Q (some (.int (-1000000002 : Int32))) M) ∧ (¬ (s0 = 0) → (P 89 0 [(0, .int l2), (1, .int (0 : Int32)), (2, .int (l1 - (1 : Int32)))] [] M (fun v M' => P 111 11 [(0, .ref 36), (1, .int l1), (2, .int l2)] (v.toList ++ []) M' Q))))) :
    P 111 4 [(0, .ref 36), (1, .int l1), (2, .int l2)] [.int s0] M Q := by
  exact qRun_ok hG (ops := qo_111) (cuts := qc_md_thin) rfl 47 4 _ _ _ _ hV
set_option maxRecDepth 100000 in
theorem v_md_thin_11 (hG : qGood Ls xs P) {l1 l2 s0 : Int32} {M : qMem} {Q : qPost}
    (hV : ((¬ s0 = 0 → (P 93 0 [(0, .ref 36)] [] M (fun v M' => P 111 16 [(0, .ref 36), (1, .int l1), (2, .int l2)] (v.toList ++ []) M' Q))) ∧ (¬ (¬ s0 = 0) → Q (some (.int (-1000000002 : Int32))) M))) :
    P 111 11 [(0, .ref 36), (1, .int l1), (2, .int l2)] [.int s0] M Q := by
  exact qRun_ok hG (ops := qo_111) (cuts := qc_md_thin) rfl 47 11 _ _ _ _ hV
set_option maxRecDepth 100000 in
theorem v_md_thin_16 (hG : qGood Ls xs P) {l1 l2 : Int32} {M : qMem} {Q : qPost}
    (hV : (P 111 20 [(0, .ref 36), (1, .int l1), (3, .int (0 : Int32)), (4, .int l2)] [] M Q)) :
    P 111 16 [(0, .ref 36), (1, .int l1), (2, .int l2)] [] M Q := by
  exact qRun_ok hG (ops := qo_111) (cuts := qc_md_thin) rfl 47 16 _ _ _ _ hV
set_option maxRecDepth 100000 in
theorem v_md_thin_20 (hG : qGood Ls xs P) {l1 l3 l4 : Int32} {M : qMem} {Q : qPost}
    (hV : (P 90 0 [(0, .ref 36)] [] M (fun v M' => P 111 23 [(0, .ref 36), (1, .int l1), (3, .int l3), (4, .int l4)] (v.toList ++ [.int l4]) M' Q))) :
    P 111 20 [(0, .ref 36), (1, .int l1), (3, .int l3), (4, .int l4)] [] M Q := by
  exact qRun_ok hG (ops := qo_111) (cuts := qc_md_thin) rfl 47 20 _ _ _ _ hV
set_option maxRecDepth 100000 in
theorem v_md_thin_23 (hG : qGood Ls xs P) {l1 l3 l4 s0 s1 : Int32} {M : qMem} {Q : qPost}
    (hV : ((s0 ≤ s1 → (vp_in (64 : Int32) 65 ∧ Q (some (.int l3)) (pI M 37 (64 : Int32).toNatClampNeg l3))) ∧ (¬ (s0 ≤ s1) → (vp_in l4 65 ∧ (vp_in l3 65 ∧ (P 111 20 [(0, .ref 36), (1, .int l1), (3, .int (l3 + (1 : Int32))), (4, .int (l4 + l1))] [] (pI M 37 l3.toNatClampNeg (M.1 37 l4.toNatClampNeg)) Q)))))) :
    P 111 23 [(0, .ref 36), (1, .int l1), (3, .int l3), (4, .int l4)] [.int s0, .int s1] M Q := by
  exact qRun_ok hG (ops := qo_111) (cuts := qc_md_thin) rfl 47 23 _ _ _ _ hV
def qc_md_undo : List (Nat × List Nat) := [(13, [0, 1])]
theorem v_md_undo_0 (hG : qGood Ls xs P) {M : qMem} {Q : qPost}
    (hV : ((¬ (M.1 36 2) = 0 → (P 112 13 [(0, .ref 36), (1, .int (0 : Int32))] [] (pI M 36 2 ((M.1 36 2) - (1 : Int32))) Q)) ∧ (¬ (¬ (M.1 36 2) = 0) → Q (some (.int (-1000000003 : Int32))) M))) :
    P 112 0 [(0, .ref 36)] [] M Q := by
  exact qRun_ok hG (ops := qo_112) (cuts := qc_md_undo) rfl 36 0 _ _ _ _ hV
theorem v_md_undo_13 (hG : qGood Ls xs P) {l1 : Int32} {M : qMem} {Q : qPost}
    (hV : (((65 : Int32) ≤ l1 → Q (some (.int (M.1 36 2))) M) ∧ (¬ ((65 : Int32) ≤ l1) → (vp_in (((65 : Int32) * (M.1 36 2)) + l1) 520 ∧ (vp_in l1 65 ∧ (P 112 13 [(0, .ref 36), (1, .int (l1 + (1 : Int32)))] [] (pI M 37 l1.toNatClampNeg (M.1 38 (((65 : Int32) * (M.1 36 2)) + l1).toNatClampNeg)) Q)))))) :
    P 112 13 [(0, .ref 36), (1, .int l1)] [] M Q := by
  exact qRun_ok hG (ops := qo_112) (cuts := qc_md_undo) rfl 36 13 _ _ _ _ hV
def qc_md_gaps : List (Nat × List Nat) := [(6, [0, 1, 2, 3, 4]), (9, [0, 1, 2, 3, 4]), (13, [0, 1, 2, 3, 4]), (18, [0, 1, 2, 3, 4]), (25, [0, 1, 2, 4])]
theorem v_md_gaps_0 (hG : qGood Ls xs P) {l1 : Int32} {M : qMem} {Q : qPost}
    (hV : (P 113 6 [(0, .ref 36), (1, .int l1), (2, .int (0 : Int32)), (3, .int (0 : Int32)), (4, .int (0 : Int32))] [] M Q)) :
    P 113 0 [(0, .ref 36), (1, .int l1)] [] M Q := by
  exact qRun_ok hG (ops := qo_113) (cuts := qc_md_gaps) rfl 40 0 _ _ _ _ hV
theorem v_md_gaps_6 (hG : qGood Ls xs P) {l1 l2 l3 l4 : Int32} {M : qMem} {Q : qPost}
    (hV : (P 90 0 [(0, .ref 36)] [] M (fun v M' => P 113 9 [(0, .ref 36), (1, .int l1), (2, .int l2), (3, .int l3), (4, .int l4)] (v.toList ++ [.int l4]) M' Q))) :
    P 113 6 [(0, .ref 36), (1, .int l1), (2, .int l2), (3, .int l3), (4, .int l4)] [] M Q := by
  exact qRun_ok hG (ops := qo_113) (cuts := qc_md_gaps) rfl 40 6 _ _ _ _ hV
theorem v_md_gaps_9 (hG : qGood Ls xs P) {l1 l2 l3 l4 s0 s1 : Int32} {M : qMem} {Q : qPost}
    (hV : ((s0 ≤ s1 → ((l1 = 0 → Q (some (.int l2)) M) ∧ (¬ (l1 = 0) → Q (some (.int l3)) M))) ∧ (¬ (s0 ≤ s1) → (P 109 0 [(0, .ref 36), (1, .int l4)] [] M (fun v M' => P 113 13 [(0, .ref 36), (1, .int l1), (2, .int l2), (3, .int l3), (4, .int l4)] (v.toList ++ []) M' Q))))) :
    P 113 9 [(0, .ref 36), (1, .int l1), (2, .int l2), (3, .int l3), (4, .int l4)] [.int s0, .int s1] M Q := by
  exact qRun_ok hG (ops := qo_113) (cuts := qc_md_gaps) rfl 40 9 _ _ _ _ hV
theorem v_md_gaps_13 (hG : qGood Ls xs P) {l1 l2 l3 l4 s0 : Int32} {M : qMem} {Q : qPost}
    (hV : ((s0 = 0 → (P 113 6 [(0, .ref 36), (1, .int l1), (2, .int l2), (3, .int l3), (4, .int (l4 + (1 : Int32)))] [] M Q)) ∧ (¬ (s0 = 0) → (P 108 0 [(0, .ref 36), (1, .int l4)] [] M (fun v M' => P 113 18 [(0, .ref 36), (1, .int l1), (2, .int (l2 + (1 : Int32))), (3, .int l3), (4, .int l4)] (v.toList ++ []) M' Q))))) :
    P 113 13 [(0, .ref 36), (1, .int l1), (2, .int l2), (3, .int l3), (4, .int l4)] [.int s0] M Q := by
  exact qRun_ok hG (ops := qo_113) (cuts := qc_md_gaps) rfl 40 13 _ _ _ _ hV
theorem v_md_gaps_18 (hG : qGood Ls xs P) {l1 l2 l3 l4 s0 : Int32} {M : qMem} {Q : qPost}
    (hV : (((s0 - l4) ≤ l3 → (P 113 6 [(0, .ref 36), (1, .int l1), (2, .int l2), (3, .int l3), (4, .int (l4 + (1 : Int32)))] [] M Q)) ∧ (¬ ((s0 - l4) ≤ l3) → (P 108 0 [(0, .ref 36), (1, .int l4)] [] M (fun v M' => P 113 25 [(0, .ref 36), (1, .int l1), (2, .int l2), (4, .int l4)] (v.toList ++ []) M' Q))))) :
    P 113 18 [(0, .ref 36), (1, .int l1), (2, .int l2), (3, .int l3), (4, .int l4)] [.int s0] M Q := by
  exact qRun_ok hG (ops := qo_113) (cuts := qc_md_gaps) rfl 40 18 _ _ _ _ hV
theorem v_md_gaps_25 (hG : qGood Ls xs P) {l1 l2 l4 s0 : Int32} {M : qMem} {Q : qPost}
    (hV : (P 113 6 [(0, .ref 36), (1, .int l1), (2, .int l2), (3, .int (s0 - l4)), (4, .int (l4 + (1 : Int32)))] [] M Q)) :
    P 113 25 [(0, .ref 36), (1, .int l1), (2, .int l2), (4, .int l4)] [.int s0] M Q := by
  exact qRun_ok hG (ops := qo_113) (cuts := qc_md_gaps) rfl 40 25 _ _ _ _ hV
def qc_md_present : List (Nat × List Nat) := [(4, [0, 1, 2]), (7, [0, 1, 2]), (12, [0, 2])]
theorem v_md_present_0 (hG : qGood Ls xs P) {M : qMem} {Q : qPost}
    (hV : (P 114 4 [(0, .ref 36), (1, .int (0 : Int32)), (2, .int (0 : Int32))] [] M Q)) :
    P 114 0 [(0, .ref 36)] [] M Q := by
  exact qRun_ok hG (ops := qo_114) (cuts := qc_md_present) rfl 24 0 _ _ _ _ hV
theorem v_md_present_4 (hG : qGood Ls xs P) {l1 l2 : Int32} {M : qMem} {Q : qPost}
    (hV : (P 90 0 [(0, .ref 36)] [] M (fun v M' => P 114 7 [(0, .ref 36), (1, .int l1), (2, .int l2)] (v.toList ++ [.int l2]) M' Q))) :
    P 114 4 [(0, .ref 36), (1, .int l1), (2, .int l2)] [] M Q := by
  exact qRun_ok hG (ops := qo_114) (cuts := qc_md_present) rfl 24 4 _ _ _ _ hV
theorem v_md_present_7 (hG : qGood Ls xs P) {l1 l2 s0 s1 : Int32} {M : qMem} {Q : qPost}
    (hV : ((s0 ≤ s1 → Q (some (.int l1)) M) ∧ (¬ (s0 ≤ s1) → (P 92 0 [(0, .ref 36), (1, .int l2)] [] M (fun v M' => P 114 12 [(0, .ref 36), (2, .int l2)] (v.toList ++ [.int l1]) M' Q))))) :
    P 114 7 [(0, .ref 36), (1, .int l1), (2, .int l2)] [.int s0, .int s1] M Q := by
  exact qRun_ok hG (ops := qo_114) (cuts := qc_md_present) rfl 24 7 _ _ _ _ hV
theorem v_md_present_12 (hG : qGood Ls xs P) {l2 s0 s1 : Int32} {M : qMem} {Q : qPost}
    (hV : ((s0 = 0 → (P 114 4 [(0, .ref 36), (1, .int (s1 + (0 : Int32))), (2, .int (l2 + (1 : Int32)))] [] M Q)) ∧ (¬ (s0 = 0) → (P 114 4 [(0, .ref 36), (1, .int (s1 + (1 : Int32))), (2, .int (l2 + (1 : Int32)))] [] M Q)))) :
    P 114 12 [(0, .ref 36), (2, .int l2)] [.int s0, .int s1] M Q := by
  exact qRun_ok hG (ops := qo_114) (cuts := qc_md_present) rfl 24 12 _ _ _ _ hV
def qc_md_end : List (Nat × List Nat) := [(4, [0, 1, 2, 3]), (7, [0, 1, 2, 3]), (11, [0, 1, 2, 3])]
set_option maxRecDepth 100000 in
theorem v_md_end_0 (hG : qGood Ls xs P) {l1 : Int32} {M : qMem} {Q : qPost}
    (hV : (P 115 4 [(0, .ref 36), (1, .int l1), (2, .int (-1000000001 : Int32)), (3, .int (0 : Int32))] [] M Q)) :
    P 115 0 [(0, .ref 36), (1, .int l1)] [] M Q := by
  exact qRun_ok hG (ops := qo_115) (cuts := qc_md_end) rfl 49 0 _ _ _ _ hV
set_option maxRecDepth 100000 in
theorem v_md_end_4 (hG : qGood Ls xs P) {l1 l2 l3 : Int32} {M : qMem} {Q : qPost}
    (hV : (P 90 0 [(0, .ref 36)] [] M (fun v M' => P 115 7 [(0, .ref 36), (1, .int l1), (2, .int l2), (3, .int l3)] (v.toList ++ [.int l3]) M' Q))) :
    P 115 4 [(0, .ref 36), (1, .int l1), (2, .int l2), (3, .int l3)] [] M Q := by
  exact qRun_ok hG (ops := qo_115) (cuts := qc_md_end) rfl 49 4 _ _ _ _ hV
set_option maxRecDepth 100000 in
theorem v_md_end_7 (hG : qGood Ls xs P) {l1 l2 l3 s0 s1 : Int32} {M : qMem} {Q : qPost}
    (hV : ((s0 ≤ s1 → Q (some (.int l2)) M) ∧ (¬ (s0 ≤ s1) → (P 92 0 [(0, .ref 36), (1, .int l3)] [] M (fun v M' => P 115 11 [(0, .ref 36), (1, .int l1), (2, .int l2), (3, .int l3)] (v.toList ++ []) M' Q))))) :
    P 115 7 [(0, .ref 36), (1, .int l1), (2, .int l2), (3, .int l3)] [.int s0, .int s1] M Q := by
  exact qRun_ok hG (ops := qo_115) (cuts := qc_md_end) rfl 49 7 _ _ _ _ hV
set_option maxRecDepth 100000 in
theorem v_md_end_11 (hG : qGood Ls xs P) {l1 l2 l3 s0 : Int32} {M : qMem} {Q : qPost}
    (hV : ((s0 = 0 → (((0 : Int32) = 0 → (P 115 4 [(0, .ref 36), (1, .int l1), (2, .int l2), (3, .int (l3 + (1 : Int32)))] [] M Q)) ∧ (¬ ((0 : Int32) = 0) → (vp_in l3 65 ∧ (P 115 4 [(0, .ref 36), (1, .int l1), (2, .int (M.1 37 l3.toNatClampNeg)), (3, .int (l3 + (1 : Int32)))] [] M Q))))) ∧ (¬ (s0 = 0) → ((l2 = (-1000000001 : Int32) → (((1 : Int32) = 0 → (P 115 4 [(0, .ref 36), (1, .int l1), (2, .int l2), (3, .int (l3 + (1 : Int32)))] [] M Q)) ∧ (¬ ((1 : Int32) = 0) → (vp_in l3 65 ∧ (P 115 4 [(0, .ref 36), (1, .int l1), (2, .int (M.1 37 l3.toNatClampNeg)), (3, .int (l3 + (1 : Int32)))] [] M Q))))) ∧ (¬ (l2 = (-1000000001 : Int32)) → ((l1 = 0 → (vp_in l3 65 ∧ (((M.1 37 l3.toNatClampNeg) ≤ l2 → (((0 : Int32) = 0 → (P 115 4 [(0, .ref 36), (1, .int l1), (2, .int l2), (3, .int (l3 + (1 : Int32)))] [] M Q)) ∧ (¬ ((0 : Int32) = 0) → (vp_in l3 65 ∧ (P 115 4 [(0, .ref 36), (1, .int l1), (2, .int (M.1 37 l3.toNatClampNeg)), (3, .int (l3 + (1 : Int32)))] [] M Q))))) ∧ (¬ ((M.1 37 l3.toNatClampNeg) ≤ l2) → (((1 : Int32) = 0 → (P 115 4 [(0, .ref 36), (1, .int l1), (2, .int l2), (3, .int (l3 + (1 : Int32)))] [] M Q)) ∧ (¬ ((1 : Int32) = 0) → (vp_in l3 65 ∧ (P 115 4 [(0, .ref 36), (1, .int l1), (2, .int (M.1 37 l3.toNatClampNeg)), (3, .int (l3 + (1 : Int32)))] [] M Q)))))))) ∧ (¬ (l1 = 0) → (vp_in l3 65 ∧ ((l2 ≤ (M.1 37 l3.toNatClampNeg) → (((0 : Int32) = 0 → (P 115 4 [(0, .ref 36), (1, .int l1), (2, .int l2), (3, .int (l3 + (1 : Int32)))] [] M Q)) ∧ (¬ ((0 : Int32) = 0) → (vp_in l3 65 ∧ (P 115 4 [(0, .ref 36), (1, .int l1), (2, .int (M.1 37 l3.toNatClampNeg)), (3, .int (l3 + (1 : Int32)))] [] M Q))))) ∧ (¬ (l2 ≤ (M.1 37 l3.toNatClampNeg)) → (((1 : Int32) = 0 → (P 115 4 [(0, .ref 36), (1, .int l1), (2, .int l2), (3, .int (l3 + (1 : Int32)))] [] M Q)) ∧ (¬ ((1 : Int32) = 0) → (vp_in l3 65 ∧ (P 115 4 [(0, .ref 36), (1, .int l1), (2, .int (M.1 37 l3.toNatClampNeg)), (3, .int (l3 + (1 : Int32)))] [] M Q)))))))))))))) :
    P 115 11 [(0, .ref 36), (1, .int l1), (2, .int l2), (3, .int l3)] [.int s0] M Q := by
  exact qRun_ok hG (ops := qo_115) (cuts := qc_md_end) rfl 49 11 _ _ _ _ hV
def qc_md_widest : List (Nat × List Nat) := [(4, [0, 1, 2]), (11, [0, 1, 2])]
theorem v_md_widest_0 (hG : qGood Ls xs P) {M : qMem} {Q : qPost}
    (hV : (P 116 4 [(0, .ref 36), (1, .int (0 : Int32)), (2, .int (1 : Int32))] [] M Q)) :
    P 116 0 [(0, .ref 36)] [] M Q := by
  exact qRun_ok hG (ops := qo_116) (cuts := qc_md_widest) rfl 22 0 _ _ _ _ hV
theorem v_md_widest_4 (hG : qGood Ls xs P) {l1 l2 : Int32} {M : qMem} {Q : qPost}
    (hV : (((31 : Int32) < l2 → Q (some (.int l1)) M) ∧ (¬ ((31 : Int32) < l2) → (P 125 0 [(0, .ref 36), (1, .int (2 : Int32)), (2, .int l2)] [] M (fun v M' => P 116 11 [(0, .ref 36), (1, .int l1), (2, .int l2)] (v.toList ++ []) M' Q))))) :
    P 116 4 [(0, .ref 36), (1, .int l1), (2, .int l2)] [] M Q := by
  exact qRun_ok hG (ops := qo_116) (cuts := qc_md_widest) rfl 22 4 _ _ _ _ hV
theorem v_md_widest_11 (hG : qGood Ls xs P) {l1 l2 s0 : Int32} {M : qMem} {Q : qPost}
    (hV : ((s0 ≤ 0 → (P 116 4 [(0, .ref 36), (1, .int l1), (2, .int (l2 + (1 : Int32)))] [] M Q)) ∧ (¬ (s0 ≤ 0) → (P 116 4 [(0, .ref 36), (1, .int l2), (2, .int (l2 + (1 : Int32)))] [] M Q)))) :
    P 116 11 [(0, .ref 36), (1, .int l1), (2, .int l2)] [.int s0] M Q := by
  exact qRun_ok hG (ops := qo_116) (cuts := qc_md_widest) rfl 22 11 _ _ _ _ hV
def qc_md_told : List (Nat × List Nat) := [(4, []), (7, []), (11, []), (15, []), (19, []), (23, []), (26, [])]
theorem v_md_told_0 (hG : qGood Ls xs P) {l1 : Int32} {M : qMem} {Q : qPost}
    (hV : ((l1 = Int32.ofInt 0 → (P 90 0 [(0, .ref 36)] [] M (fun v M' => P 117 4 [] (v.toList ++ []) M' Q))) ∧ (¬ (l1 = Int32.ofInt 0) → ((l1 = Int32.ofInt 1 → (P 114 0 [(0, .ref 36)] [] M (fun v M' => P 117 7 [] (v.toList ++ []) M' Q))) ∧ (¬ (l1 = Int32.ofInt 1) → ((l1 = Int32.ofInt 2 → (P 115 0 [(0, .ref 36), (1, .int (1 : Int32))] [] M (fun v M' => P 117 11 [] (v.toList ++ []) M' Q))) ∧ (¬ (l1 = Int32.ofInt 2) → ((l1 = Int32.ofInt 3 → (P 115 0 [(0, .ref 36), (1, .int (0 : Int32))] [] M (fun v M' => P 117 15 [] (v.toList ++ []) M' Q))) ∧ (¬ (l1 = Int32.ofInt 3) → ((l1 = Int32.ofInt 4 → (P 113 0 [(0, .ref 36), (1, .int (0 : Int32))] [] M (fun v M' => P 117 19 [] (v.toList ++ []) M' Q))) ∧ (¬ (l1 = Int32.ofInt 4) → ((l1 = Int32.ofInt 5 → (P 113 0 [(0, .ref 36), (1, .int (1 : Int32))] [] M (fun v M' => P 117 23 [] (v.toList ++ []) M' Q))) ∧ (¬ (l1 = Int32.ofInt 5) → ((l1 = Int32.ofInt 6 → (P 116 0 [(0, .ref 36)] [] M (fun v M' => P 117 26 [] (v.toList ++ []) M' Q))) ∧ (¬ (l1 = Int32.ofInt 6) → ((l1 = Int32.ofInt 7 → Q (some (.int (M.1 36 6))) M) ∧ (¬ (l1 = Int32.ofInt 7) → ((l1 = Int32.ofInt 8 → Q (some (.int (M.1 36 2))) M) ∧ (¬ (l1 = Int32.ofInt 8) → Q (some (.int (-1000000002 : Int32))) M))))))))))))))))))) :
    P 117 0 [(0, .ref 36), (1, .int l1)] [] M Q := by
  exact qRun_ok hG (ops := qo_117) (cuts := qc_md_told) rfl 37 0 _ _ _ _ hV
theorem v_md_told_26 (hG : qGood Ls xs P) {s0 : Int32} {M : qMem} {Q : qPost}
    (hV : Q (some (.int s0)) M) :
    P 117 26 [] [.int s0] M Q := by
  exact qRun_ok hG (ops := qo_117) (cuts := qc_md_told) rfl 37 26 _ _ _ _ hV
theorem v_md_told_23 (hG : qGood Ls xs P) {s0 : Int32} {M : qMem} {Q : qPost}
    (hV : Q (some (.int s0)) M) :
    P 117 23 [] [.int s0] M Q := by
  exact qRun_ok hG (ops := qo_117) (cuts := qc_md_told) rfl 37 23 _ _ _ _ hV
theorem v_md_told_19 (hG : qGood Ls xs P) {s0 : Int32} {M : qMem} {Q : qPost}
    (hV : Q (some (.int s0)) M) :
    P 117 19 [] [.int s0] M Q := by
  exact qRun_ok hG (ops := qo_117) (cuts := qc_md_told) rfl 37 19 _ _ _ _ hV
theorem v_md_told_15 (hG : qGood Ls xs P) {s0 : Int32} {M : qMem} {Q : qPost}
    (hV : Q (some (.int s0)) M) :
    P 117 15 [] [.int s0] M Q := by
  exact qRun_ok hG (ops := qo_117) (cuts := qc_md_told) rfl 37 15 _ _ _ _ hV
theorem v_md_told_11 (hG : qGood Ls xs P) {s0 : Int32} {M : qMem} {Q : qPost}
    (hV : Q (some (.int s0)) M) :
    P 117 11 [] [.int s0] M Q := by
  exact qRun_ok hG (ops := qo_117) (cuts := qc_md_told) rfl 37 11 _ _ _ _ hV
theorem v_md_told_7 (hG : qGood Ls xs P) {s0 : Int32} {M : qMem} {Q : qPost}
    (hV : Q (some (.int s0)) M) :
    P 117 7 [] [.int s0] M Q := by
  exact qRun_ok hG (ops := qo_117) (cuts := qc_md_told) rfl 37 7 _ _ _ _ hV
theorem v_md_told_4 (hG : qGood Ls xs P) {s0 : Int32} {M : qMem} {Q : qPost}
    (hV : Q (some (.int s0)) M) :
    P 117 4 [] [.int s0] M Q := by
  exact qRun_ok hG (ops := qo_117) (cuts := qc_md_told) rfl 37 4 _ _ _ _ hV
def qc_md_reading : List (Nat × List Nat) := [(3, [0, 1])]
theorem v_md_reading_0 (hG : qGood Ls xs P) {l1 : Int32} {M : qMem} {Q : qPost}
    (hV : (P 91 0 [(0, .ref 36), (1, .int l1)] [] M (fun v M' => P 118 3 [(0, .ref 36), (1, .int l1)] (v.toList ++ []) M' Q))) :
    P 118 0 [(0, .ref 36), (1, .int l1)] [] M Q := by
  exact qRun_ok hG (ops := qo_118) (cuts := qc_md_reading) rfl 13 0 _ _ _ _ hV
theorem v_md_reading_3 (hG : qGood Ls xs P) {l1 s0 : Int32} {M : qMem} {Q : qPost}
    (hV : ((s0 = 0 → Q (some (.int (-1000000002 : Int32))) M) ∧ (¬ (s0 = 0) → (vp_in l1 65 ∧ Q (some (.int (M.1 37 l1.toNatClampNeg))) M)))) :
    P 118 3 [(0, .ref 36), (1, .int l1)] [.int s0] M Q := by
  exact qRun_ok hG (ops := qo_118) (cuts := qc_md_reading) rfl 13 3 _ _ _ _ hV
def qc_md_exists : List (Nat × List Nat) := [(7, [0, 2, 3, 4, 5]), (18, [0, 2, 3, 5]), (27, [0, 1, 2, 3]), (38, [])]
set_option maxRecDepth 100000 in
theorem v_md_exists_0 (hG : qGood Ls xs P) {l1 l2 l3 : Int32} {M : qMem} {Q : qPost}
    (hV : ((¬ l1 = (4 : Int32) → (P 120 0 [(0, .ref 36), (1, .int l2), (2, .int l3)] [] M (fun v M' => P 119 27 [(0, .ref 36), (1, .int l1), (2, .int l2), (3, .int l3)] (v.toList ++ []) M' Q))) ∧ (¬ (¬ l1 = (4 : Int32)) → (P 119 7 [(0, .ref 36), (2, .int l2), (3, .int l3), (4, .int (1 : Int32)), (5, .int (0 : Int32))] [] M Q)))) :
    P 119 0 [(0, .ref 36), (1, .int l1), (2, .int l2), (3, .int l3)] [] M Q := by
  exact qRun_ok hG (ops := qo_119) (cuts := qc_md_exists) rfl 45 0 _ _ _ _ hV
set_option maxRecDepth 100000 in
theorem v_md_exists_27 (hG : qGood Ls xs P) {l1 l2 l3 s0 : Int32} {M : qMem} {Q : qPost}
    (hV : ((s0 = 0 → (narrow .boolean (.int (0 : Int32)) = .int (0 : Int32) ∧ Q (some (.int (0 : Int32))) M)) ∧ (¬ (s0 = 0) → ((l1 = (2 : Int32) → (narrow .boolean (.int (1 : Int32)) = .int (1 : Int32) ∧ Q (some (.int (1 : Int32))) M)) ∧ (¬ (l1 = (2 : Int32)) → (P 92 0 [(0, .ref 36), (1, .int (l3 + ((3 : Int32) * l2)))] [] M (fun v M' => P 119 38 [] (v.toList ++ []) M' Q))))))) :
    P 119 27 [(0, .ref 36), (1, .int l1), (2, .int l2), (3, .int l3)] [.int s0] M Q := by
  exact qRun_ok hG (ops := qo_119) (cuts := qc_md_exists) rfl 45 27 _ _ _ _ hV
set_option maxRecDepth 100000 in
theorem v_md_exists_7 (hG : qGood Ls xs P) {l2 l3 l4 l5 : Int32} {M : qMem} {Q : qPost}
    (hV : ((l2 ≤ l5 → (narrow .boolean (.int l4) = .int l4 ∧ Q (some (.int l4)) M)) ∧ (¬ (l2 ≤ l5) → ((l4 = 0 → (narrow .boolean (.int l4) = .int l4 ∧ Q (some (.int l4)) M)) ∧ (¬ (l4 = 0) → (P 120 0 [(0, .ref 36), (1, .int l2), (2, .int (l3 + l5))] [] M (fun v M' => P 119 18 [(0, .ref 36), (2, .int l2), (3, .int l3), (5, .int l5)] (v.toList ++ []) M' Q))))))) :
    P 119 7 [(0, .ref 36), (2, .int l2), (3, .int l3), (4, .int l4), (5, .int l5)] [] M Q := by
  exact qRun_ok hG (ops := qo_119) (cuts := qc_md_exists) rfl 45 7 _ _ _ _ hV
set_option maxRecDepth 100000 in
theorem v_md_exists_38 (hG : qGood Ls xs P) {s0 : Int32} {M : qMem} {Q : qPost}
    (hV : ((s0 = 0 → (narrow .boolean (.int (0 : Int32)) = .int (0 : Int32) ∧ Q (some (.int (0 : Int32))) M)) ∧ (¬ (s0 = 0) → (narrow .boolean (.int (1 : Int32)) = .int (1 : Int32) ∧ Q (some (.int (1 : Int32))) M)))) :
    P 119 38 [] [.int s0] M Q := by
  exact qRun_ok hG (ops := qo_119) (cuts := qc_md_exists) rfl 45 38 _ _ _ _ hV
set_option maxRecDepth 100000 in
theorem v_md_exists_18 (hG : qGood Ls xs P) {l2 l3 l5 s0 : Int32} {M : qMem} {Q : qPost}
    (hV : (P 119 7 [(0, .ref 36), (2, .int l2), (3, .int l3), (4, .int s0), (5, .int (l5 + (1 : Int32)))] [] M Q)) :
    P 119 18 [(0, .ref 36), (2, .int l2), (3, .int l3), (5, .int l5)] [.int s0] M Q := by
  exact qRun_ok hG (ops := qo_119) (cuts := qc_md_exists) rfl 45 18 _ _ _ _ hV
def qc_md_exists2 : List (Nat × List Nat) := [(3, [0, 1, 2]), (9, [0, 1, 2]), (17, [])]
theorem v_md_exists2_0 (hG : qGood Ls xs P) {l1 l2 : Int32} {M : qMem} {Q : qPost}
    (hV : (P 92 0 [(0, .ref 36), (1, .int l2)] [] M (fun v M' => P 120 3 [(0, .ref 36), (1, .int l1), (2, .int l2)] (v.toList ++ []) M' Q))) :
    P 120 0 [(0, .ref 36), (1, .int l1), (2, .int l2)] [] M Q := by
  exact qRun_ok hG (ops := qo_120) (cuts := qc_md_exists2) rfl 24 0 _ _ _ _ hV
theorem v_md_exists2_3 (hG : qGood Ls xs P) {l1 l2 s0 : Int32} {M : qMem} {Q : qPost}
    (hV : ((s0 = 0 → (narrow .boolean (.int (0 : Int32)) = .int (0 : Int32) ∧ Q (some (.int (0 : Int32))) M)) ∧ (¬ (s0 = 0) → (P 92 0 [(0, .ref 36), (1, .int (l2 + l1))] [] M (fun v M' => P 120 9 [(0, .ref 36), (1, .int l1), (2, .int l2)] (v.toList ++ []) M' Q))))) :
    P 120 3 [(0, .ref 36), (1, .int l1), (2, .int l2)] [.int s0] M Q := by
  exact qRun_ok hG (ops := qo_120) (cuts := qc_md_exists2) rfl 24 3 _ _ _ _ hV
theorem v_md_exists2_9 (hG : qGood Ls xs P) {l1 l2 s0 : Int32} {M : qMem} {Q : qPost}
    (hV : ((s0 = 0 → (narrow .boolean (.int (0 : Int32)) = .int (0 : Int32) ∧ Q (some (.int (0 : Int32))) M)) ∧ (¬ (s0 = 0) → (P 92 0 [(0, .ref 36), (1, .int (l2 + ((2 : Int32) * l1)))] [] M (fun v M' => P 120 17 [] (v.toList ++ []) M' Q))))) :
    P 120 9 [(0, .ref 36), (1, .int l1), (2, .int l2)] [.int s0] M Q := by
  exact qRun_ok hG (ops := qo_120) (cuts := qc_md_exists2) rfl 24 9 _ _ _ _ hV
theorem v_md_exists2_17 (hG : qGood Ls xs P) {s0 : Int32} {M : qMem} {Q : qPost}
    (hV : ((s0 = 0 → (narrow .boolean (.int (0 : Int32)) = .int (0 : Int32) ∧ Q (some (.int (0 : Int32))) M)) ∧ (¬ (s0 = 0) → (narrow .boolean (.int (1 : Int32)) = .int (1 : Int32) ∧ Q (some (.int (1 : Int32))) M)))) :
    P 120 17 [] [.int s0] M Q := by
  exact qRun_ok hG (ops := qo_120) (cuts := qc_md_exists2) rfl 24 17 _ _ _ _ hV
def qc_md_second : List (Nat × List Nat) := []
theorem v_md_second_0 (hG : qGood Ls xs P) {l1 l2 : Int32} {M : qMem} {Q : qPost}
    (hV : (vp_in (l2 + ((2 : Int32) * l1)) 65 ∧ (vp_in (l2 + l1) 65 ∧ (vp_in l2 65 ∧ Q (some (.int (((M.1 37 (l2 + ((2 : Int32) * l1)).toNatClampNeg) - ((2 : Int32) * (M.1 37 (l2 + l1).toNatClampNeg))) + (M.1 37 l2.toNatClampNeg)))) M)))) :
    P 121 0 [(0, .ref 36), (1, .int l1), (2, .int l2)] [] M Q := by
  exact qRun_ok hG (ops := qo_121) (cuts := qc_md_second) rfl 25 0 _ _ _ _ hV
def qc_md_differenceAt : List (Nat × List Nat) := [(7, []), (49, [0, 2, 3, 4, 5]), (59, [0, 2, 3, 5])]
set_option maxRecDepth 100000 in
theorem v_md_differenceAt_0 (hG : qGood Ls xs P) {l1 l2 l3 : Int32} {M : qMem} {Q : qPost}
    (hV : ((¬ l1 = (2 : Int32) → ((¬ l1 = (3 : Int32) → (P 122 49 [(0, .ref 36), (2, .int l2), (3, .int l3), (4, .int (0 : Int32)), (5, .int (0 : Int32))] [] M Q)) ∧ (¬ (¬ l1 = (3 : Int32)) → (vp_in (l3 + ((3 : Int32) * l2)) 65 ∧ (vp_in (l3 + ((2 : Int32) * l2)) 65 ∧ (vp_in (l3 + l2) 65 ∧ (vp_in l3 65 ∧ Q (some (.int ((((M.1 37 (l3 + ((3 : Int32) * l2)).toNatClampNeg) - ((3 : Int32) * (M.1 37 (l3 + ((2 : Int32) * l2)).toNatClampNeg))) + ((3 : Int32) * (M.1 37 (l3 + l2).toNatClampNeg))) - (M.1 37 l3.toNatClampNeg)))) M))))))) ∧ (¬ (¬ l1 = (2 : Int32)) → (P 121 0 [(0, .ref 36), (1, .int l2), (2, .int l3)] [] M (fun v M' => P 122 7 [] (v.toList ++ []) M' Q))))) :
    P 122 0 [(0, .ref 36), (1, .int l1), (2, .int l2), (3, .int l3)] [] M Q := by
  exact qRun_ok hG (ops := qo_122) (cuts := qc_md_differenceAt) rfl 67 0 _ _ _ _ hV
set_option maxRecDepth 100000 in
theorem v_md_differenceAt_49 (hG : qGood Ls xs P) {l2 l3 l4 l5 : Int32} {M : qMem} {Q : qPost}
    (hV : ((l2 ≤ l5 → Q (some (.int l4)) M) ∧ (¬ (l2 ≤ l5) → (P 121 0 [(0, .ref 36), (1, .int l2), (2, .int (l3 + l5))] [] M (fun v M' => P 122 59 [(0, .ref 36), (2, .int l2), (3, .int l3), (5, .int l5)] (v.toList ++ [.int l4]) M' Q))))) :
    P 122 49 [(0, .ref 36), (2, .int l2), (3, .int l3), (4, .int l4), (5, .int l5)] [] M Q := by
  exact qRun_ok hG (ops := qo_122) (cuts := qc_md_differenceAt) rfl 67 49 _ _ _ _ hV
set_option maxRecDepth 100000 in
theorem v_md_differenceAt_7 (hG : qGood Ls xs P) {s0 : Int32} {M : qMem} {Q : qPost}
    (hV : Q (some (.int s0)) M) :
    P 122 7 [] [.int s0] M Q := by
  exact qRun_ok hG (ops := qo_122) (cuts := qc_md_differenceAt) rfl 67 7 _ _ _ _ hV
set_option maxRecDepth 100000 in
theorem v_md_differenceAt_59 (hG : qGood Ls xs P) {l2 l3 l5 s0 s1 : Int32} {M : qMem} {Q : qPost}
    (hV : (P 122 49 [(0, .ref 36), (2, .int l2), (3, .int l3), (4, .int (s1 + s0)), (5, .int (l5 + (1 : Int32)))] [] M Q)) :
    P 122 59 [(0, .ref 36), (2, .int l2), (3, .int l3), (5, .int l5)] [.int s0, .int s1] M Q := by
  exact qRun_ok hG (ops := qo_122) (cuts := qc_md_differenceAt) rfl 67 59 _ _ _ _ hV
def qc_md_isWide : List (Nat × List Nat) := [(4, [])]
theorem v_md_isWide_0 (hG : qGood Ls xs P) {l0 : Int32} {M : qMem} {Q : qPost}
    (hV : (P 89 0 [(0, .int l0), (1, .int (1 : Int32)), (2, .int (31 : Int32))] [] M (fun v M' => P 123 4 [] (v.toList ++ []) M' Q))) :
    P 123 0 [(0, .int l0)] [] M Q := by
  exact qRun_ok hG (ops := qo_123) (cuts := qc_md_isWide) rfl 7 0 _ _ _ _ hV
theorem v_md_isWide_4 (hG : qGood Ls xs P) {s0 : Int32} {M : qMem} {Q : qPost}
    (hV : (narrow .boolean (.int s0) = .int s0 ∧ Q (some (.int s0)) M)) :
    P 123 4 [] [.int s0] M Q := by
  exact qRun_ok hG (ops := qo_123) (cuts := qc_md_isWide) rfl 7 4 _ _ _ _ hV
def qc_md_difference : List (Nat × List Nat) := [(4, [0, 1, 2, 3]), (7, [0, 1, 2, 3]), (15, [0, 1, 2, 3]), (21, [0, 1, 2, 3]), (27, [])]
theorem v_md_difference_0 (hG : qGood Ls xs P) {l1 l2 l3 : Int32} {M : qMem} {Q : qPost}
    (hV : (P 89 0 [(0, .int l1), (1, .int (2 : Int32)), (2, .int (4 : Int32))] [] M (fun v M' => P 124 4 [(0, .ref 36), (1, .int l1), (2, .int l2), (3, .int l3)] (v.toList ++ []) M' Q))) :
    P 124 0 [(0, .ref 36), (1, .int l1), (2, .int l2), (3, .int l3)] [] M Q := by
  exact qRun_ok hG (ops := qo_124) (cuts := qc_md_difference) rfl 32 0 _ _ _ _ hV
theorem v_md_difference_4 (hG : qGood Ls xs P) {l1 l2 l3 s0 : Int32} {M : qMem} {Q : qPost}
    (hV : ((s0 = 0 → Q (some (.int (-1000000002 : Int32))) M) ∧ (¬ (s0 = 0) → (P 123 0 [(0, .int l2)] [] M (fun v M' => P 124 7 [(0, .ref 36), (1, .int l1), (2, .int l2), (3, .int l3)] (v.toList ++ []) M' Q))))) :
    P 124 4 [(0, .ref 36), (1, .int l1), (2, .int l2), (3, .int l3)] [.int s0] M Q := by
  exact qRun_ok hG (ops := qo_124) (cuts := qc_md_difference) rfl 32 4 _ _ _ _ hV
theorem v_md_difference_7 (hG : qGood Ls xs P) {l1 l2 l3 s0 : Int32} {M : qMem} {Q : qPost}
    (hV : ((s0 = 0 → Q (some (.int (-1000000002 : Int32))) M) ∧ (¬ (s0 = 0) → ((0 ≤ l3 → (P 91 0 [(0, .ref 36), (1, .int l3)] [] M (fun v M' => P 124 15 [(0, .ref 36), (1, .int l1), (2, .int l2), (3, .int l3)] (v.toList ++ []) M' Q))) ∧ (¬ (0 ≤ l3) → Q (some (.int (-1000000002 : Int32))) M))))) :
    P 124 7 [(0, .ref 36), (1, .int l1), (2, .int l2), (3, .int l3)] [.int s0] M Q := by
  exact qRun_ok hG (ops := qo_124) (cuts := qc_md_difference) rfl 32 7 _ _ _ _ hV
theorem v_md_difference_15 (hG : qGood Ls xs P) {l1 l2 l3 s0 : Int32} {M : qMem} {Q : qPost}
    (hV : ((s0 = 0 → Q (some (.int (-1000000001 : Int32))) M) ∧ (¬ (s0 = 0) → (P 119 0 [(0, .ref 36), (1, .int l1), (2, .int l2), (3, .int l3)] [] M (fun v M' => P 124 21 [(0, .ref 36), (1, .int l1), (2, .int l2), (3, .int l3)] (v.toList ++ []) M' Q))))) :
    P 124 15 [(0, .ref 36), (1, .int l1), (2, .int l2), (3, .int l3)] [.int s0] M Q := by
  exact qRun_ok hG (ops := qo_124) (cuts := qc_md_difference) rfl 32 15 _ _ _ _ hV
theorem v_md_difference_21 (hG : qGood Ls xs P) {l1 l2 l3 s0 : Int32} {M : qMem} {Q : qPost}
    (hV : ((s0 = 0 → Q (some (.int (-1000000001 : Int32))) M) ∧ (¬ (s0 = 0) → (P 122 0 [(0, .ref 36), (1, .int l1), (2, .int l2), (3, .int l3)] [] M (fun v M' => P 124 27 [] (v.toList ++ []) M' Q))))) :
    P 124 21 [(0, .ref 36), (1, .int l1), (2, .int l2), (3, .int l3)] [.int s0] M Q := by
  exact qRun_ok hG (ops := qo_124) (cuts := qc_md_difference) rfl 32 21 _ _ _ _ hV
theorem v_md_difference_27 (hG : qGood Ls xs P) {s0 : Int32} {M : qMem} {Q : qPost}
    (hV : Q (some (.int s0)) M) :
    P 124 27 [] [.int s0] M Q := by
  exact qRun_ok hG (ops := qo_124) (cuts := qc_md_difference) rfl 32 27 _ _ _ _ hV
def qc_md_countOf : List (Nat × List Nat) := [(4, [0, 1, 2, 3, 4]), (7, [0, 1, 2, 3, 4]), (14, [0, 1, 2, 4])]
theorem v_md_countOf_0 (hG : qGood Ls xs P) {l1 l2 : Int32} {M : qMem} {Q : qPost}
    (hV : (P 125 4 [(0, .ref 36), (1, .int l1), (2, .int l2), (3, .int (0 : Int32)), (4, .int (0 : Int32))] [] M Q)) :
    P 125 0 [(0, .ref 36), (1, .int l1), (2, .int l2)] [] M Q := by
  exact qRun_ok hG (ops := qo_125) (cuts := qc_md_countOf) rfl 26 0 _ _ _ _ hV
theorem v_md_countOf_4 (hG : qGood Ls xs P) {l1 l2 l3 l4 : Int32} {M : qMem} {Q : qPost}
    (hV : (P 90 0 [(0, .ref 36)] [] M (fun v M' => P 125 7 [(0, .ref 36), (1, .int l1), (2, .int l2), (3, .int l3), (4, .int l4)] (v.toList ++ [.int l4]) M' Q))) :
    P 125 4 [(0, .ref 36), (1, .int l1), (2, .int l2), (3, .int l3), (4, .int l4)] [] M Q := by
  exact qRun_ok hG (ops := qo_125) (cuts := qc_md_countOf) rfl 26 4 _ _ _ _ hV
theorem v_md_countOf_7 (hG : qGood Ls xs P) {l1 l2 l3 l4 s0 s1 : Int32} {M : qMem} {Q : qPost}
    (hV : ((s0 ≤ s1 → Q (some (.int l3)) M) ∧ (¬ (s0 ≤ s1) → (P 119 0 [(0, .ref 36), (1, .int l1), (2, .int l2), (3, .int l4)] [] M (fun v M' => P 125 14 [(0, .ref 36), (1, .int l1), (2, .int l2), (4, .int l4)] (v.toList ++ [.int l3]) M' Q))))) :
    P 125 7 [(0, .ref 36), (1, .int l1), (2, .int l2), (3, .int l3), (4, .int l4)] [.int s0, .int s1] M Q := by
  exact qRun_ok hG (ops := qo_125) (cuts := qc_md_countOf) rfl 26 7 _ _ _ _ hV
theorem v_md_countOf_14 (hG : qGood Ls xs P) {l1 l2 l4 s0 s1 : Int32} {M : qMem} {Q : qPost}
    (hV : ((s0 = 0 → (P 125 4 [(0, .ref 36), (1, .int l1), (2, .int l2), (3, .int (s1 + (0 : Int32))), (4, .int (l4 + (1 : Int32)))] [] M Q)) ∧ (¬ (s0 = 0) → (P 125 4 [(0, .ref 36), (1, .int l1), (2, .int l2), (3, .int (s1 + (1 : Int32))), (4, .int (l4 + (1 : Int32)))] [] M Q)))) :
    P 125 14 [(0, .ref 36), (1, .int l1), (2, .int l2), (4, .int l4)] [.int s0, .int s1] M Q := by
  exact qRun_ok hG (ops := qo_125) (cuts := qc_md_countOf) rfl 26 14 _ _ _ _ hV
def qc_md_count : List (Nat × List Nat) := [(4, [0, 1, 2]), (7, [0, 1, 2]), (12, [])]
theorem v_md_count_0 (hG : qGood Ls xs P) {l1 l2 : Int32} {M : qMem} {Q : qPost}
    (hV : (P 89 0 [(0, .int l1), (1, .int (2 : Int32)), (2, .int (4 : Int32))] [] M (fun v M' => P 126 4 [(0, .ref 36), (1, .int l1), (2, .int l2)] (v.toList ++ []) M' Q))) :
    P 126 0 [(0, .ref 36), (1, .int l1), (2, .int l2)] [] M Q := by
  exact qRun_ok hG (ops := qo_126) (cuts := qc_md_count) rfl 17 0 _ _ _ _ hV
theorem v_md_count_4 (hG : qGood Ls xs P) {l1 l2 s0 : Int32} {M : qMem} {Q : qPost}
    (hV : ((s0 = 0 → Q (some (.int (-1000000002 : Int32))) M) ∧ (¬ (s0 = 0) → (P 123 0 [(0, .int l2)] [] M (fun v M' => P 126 7 [(0, .ref 36), (1, .int l1), (2, .int l2)] (v.toList ++ []) M' Q))))) :
    P 126 4 [(0, .ref 36), (1, .int l1), (2, .int l2)] [.int s0] M Q := by
  exact qRun_ok hG (ops := qo_126) (cuts := qc_md_count) rfl 17 4 _ _ _ _ hV
theorem v_md_count_7 (hG : qGood Ls xs P) {l1 l2 s0 : Int32} {M : qMem} {Q : qPost}
    (hV : ((s0 = 0 → Q (some (.int (-1000000002 : Int32))) M) ∧ (¬ (s0 = 0) → (P 125 0 [(0, .ref 36), (1, .int l1), (2, .int l2)] [] M (fun v M' => P 126 12 [] (v.toList ++ []) M' Q))))) :
    P 126 7 [(0, .ref 36), (1, .int l1), (2, .int l2)] [.int s0] M Q := by
  exact qRun_ok hG (ops := qo_126) (cuts := qc_md_count) rfl 17 7 _ _ _ _ hV
theorem v_md_count_12 (hG : qGood Ls xs P) {s0 : Int32} {M : qMem} {Q : qPost}
    (hV : Q (some (.int s0)) M) :
    P 126 12 [] [.int s0] M Q := by
  exact qRun_ok hG (ops := qo_126) (cuts := qc_md_count) rfl 17 12 _ _ _ _ hV
def qc_md_common : List (Nat × List Nat) := [(4, [4, 6])]
theorem v_md_common_0 (hG : qGood Ls xs P) {l0 l2 : Int64} {M : qMem} {Q : qPost}
    (hV : (P 127 4 [(4, .long l0), (6, .long l2)] [] M Q)) :
    P 127 0 [(0, .long l0), (2, .long l2)] [] M Q := by
  exact qRun_ok hG (ops := qo_127) (cuts := qc_md_common) rfl 21 0 _ _ _ _ hV
theorem v_md_common_4 (hG : qGood Ls xs P) {l4 l6 : Int64} {M : qMem} {Q : qPost}
    (hV : (((lg_cmp l6 (0 : Int64)) = 0 → Q (some (.long l4)) M) ∧ (¬ ((lg_cmp l6 (0 : Int64)) = 0) → (¬ l6 = 0 ∧ (P 127 4 [(4, .long l6), (6, .long (l4 - l4 / l6 * l6))] [] M Q))))) :
    P 127 4 [(4, .long l4), (6, .long l6)] [] M Q := by
  exact qRun_ok hG (ops := qo_127) (cuts := qc_md_common) rfl 21 4 _ _ _ _ hV
def qc_md_layVariance : List (Nat × List Nat) := [(18, [0, 1, 2, 3, 4, 6]), (21, [0, 1, 2, 3, 4, 6]), (27, [0, 1, 2, 3, 4, 6]), (33, [0, 1, 2, 3, 4, 6]), (101, [0])]
set_option maxRecDepth 100000 in
theorem v_md_layVariance_0 (hG : qGood Ls xs P) {l1 l2 : Int32} {M : qMem} {Q : qPost}
    (hV : ((¬ l1 = 0 → ((¬ l1 = (1 : Int32) → (P 128 18 [(0, .ref 36), (1, .int l1), (2, .int l2), (3, .int (4 : Int32)), (4, .long (0 : Int64)), (6, .int (0 : Int32))] [] (pJ M 36 11 (0 : Int64)) Q)) ∧ (¬ (¬ l1 = (1 : Int32)) → (P 128 18 [(0, .ref 36), (1, .int l1), (2, .int l2), (3, .int (3 : Int32)), (4, .long (0 : Int64)), (6, .int (0 : Int32))] [] (pJ M 36 11 (0 : Int64)) Q)))) ∧ (¬ (¬ l1 = 0) → (P 128 18 [(0, .ref 36), (1, .int l1), (2, .int l2), (3, .int (2 : Int32)), (4, .long (0 : Int64)), (6, .int (0 : Int32))] [] (pJ M 36 11 (0 : Int64)) Q)))) :
    P 128 0 [(0, .ref 36), (1, .int l1), (2, .int l2)] [] M Q := by
  exact qRun_ok hG (ops := qo_128) (cuts := qc_md_layVariance) rfl 118 0 _ _ _ _ hV
set_option maxRecDepth 100000 in
theorem v_md_layVariance_18 (hG : qGood Ls xs P) {l4 : Int64} {l1 l2 l3 l6 : Int32} {M : qMem} {Q : qPost}
    (hV : (P 90 0 [(0, .ref 36)] [] M (fun v M' => P 128 21 [(0, .ref 36), (1, .int l1), (2, .int l2), (3, .int l3), (4, .long l4), (6, .int l6)] (v.toList ++ [.int l6]) M' Q))) :
    P 128 18 [(0, .ref 36), (1, .int l1), (2, .int l2), (3, .int l3), (4, .long l4), (6, .int l6)] [] M Q := by
  exact qRun_ok hG (ops := qo_128) (cuts := qc_md_layVariance) rfl 118 18 _ _ _ _ hV
set_option maxRecDepth 100000 in
theorem v_md_layVariance_21 (hG : qGood Ls xs P) {l4 : Int64} {l1 l2 l3 l6 s0 s1 : Int32} {M : qMem} {Q : qPost}
    (hV : ((s0 ≤ s1 → ((¬ l1 = 0 → ((¬ l1 = (1 : Int32) → ((¬ l1 = (2 : Int32) → ((¬ (lg_cmp l4 (0 : Int64)) = 0 → (P 127 0 [(0, .long (M.2 36 11)), (2, .long (((6 : Int64) * (l2.toInt64 * l2.toInt64)) * l4))] [] (pJ M 36 12 (((6 : Int64) * (l2.toInt64 * l2.toInt64)) * l4)) (fun v M' => P 128 101 [(0, .ref 36)] (v.toList ++ []) M' Q))) ∧ (¬ (¬ (lg_cmp l4 (0 : Int64)) = 0) → (narrow .boolean (.int (0 : Int32)) = .int (0 : Int32) ∧ Q (some (.int (0 : Int32))) (pJ M 36 12 (((6 : Int64) * (l2.toInt64 * l2.toInt64)) * l4)))))) ∧ (¬ (¬ l1 = (2 : Int32)) → ((¬ (lg_cmp l4 (0 : Int64)) = 0 → (P 127 0 [(0, .long (M.2 36 11)), (2, .long ((((2 : Int64) * (l2.toInt64 * l2.toInt64)) * (l2.toInt64 * l2.toInt64)) * l4))] [] (pJ M 36 12 ((((2 : Int64) * (l2.toInt64 * l2.toInt64)) * (l2.toInt64 * l2.toInt64)) * l4)) (fun v M' => P 128 101 [(0, .ref 36)] (v.toList ++ []) M' Q))) ∧ (¬ (¬ (lg_cmp l4 (0 : Int64)) = 0) → (narrow .boolean (.int (0 : Int32)) = .int (0 : Int32) ∧ Q (some (.int (0 : Int32))) (pJ M 36 12 ((((2 : Int64) * (l2.toInt64 * l2.toInt64)) * (l2.toInt64 * l2.toInt64)) * l4)))))))) ∧ (¬ (¬ l1 = (1 : Int32)) → ((¬ (lg_cmp l4 (0 : Int64)) = 0 → (P 127 0 [(0, .long (M.2 36 11)), (2, .long (((6 : Int64) * (l2.toInt64 * l2.toInt64)) * l4))] [] (pJ M 36 12 (((6 : Int64) * (l2.toInt64 * l2.toInt64)) * l4)) (fun v M' => P 128 101 [(0, .ref 36)] (v.toList ++ []) M' Q))) ∧ (¬ (¬ (lg_cmp l4 (0 : Int64)) = 0) → (narrow .boolean (.int (0 : Int32)) = .int (0 : Int32) ∧ Q (some (.int (0 : Int32))) (pJ M 36 12 (((6 : Int64) * (l2.toInt64 * l2.toInt64)) * l4)))))))) ∧ (¬ (¬ l1 = 0) → ((¬ (lg_cmp l4 (0 : Int64)) = 0 → (P 127 0 [(0, .long (M.2 36 11)), (2, .long (((2 : Int64) * (l2.toInt64 * l2.toInt64)) * l4))] [] (pJ M 36 12 (((2 : Int64) * (l2.toInt64 * l2.toInt64)) * l4)) (fun v M' => P 128 101 [(0, .ref 36)] (v.toList ++ []) M' Q))) ∧ (¬ (¬ (lg_cmp l4 (0 : Int64)) = 0) → (narrow .boolean (.int (0 : Int32)) = .int (0 : Int32) ∧ Q (some (.int (0 : Int32))) (pJ M 36 12 (((2 : Int64) * (l2.toInt64 * l2.toInt64)) * l4)))))))) ∧ (¬ (s0 ≤ s1) → (P 119 0 [(0, .ref 36), (1, .int l3), (2, .int l2), (3, .int l6)] [] M (fun v M' => P 128 27 [(0, .ref 36), (1, .int l1), (2, .int l2), (3, .int l3), (4, .long l4), (6, .int l6)] (v.toList ++ []) M' Q))))) :
    P 128 21 [(0, .ref 36), (1, .int l1), (2, .int l2), (3, .int l3), (4, .long l4), (6, .int l6)] [.int s0, .int s1] M Q := by
  exact qRun_ok hG (ops := qo_128) (cuts := qc_md_layVariance) rfl 118 21 _ _ _ _ hV
set_option maxRecDepth 100000 in
theorem v_md_layVariance_101 (hG : qGood Ls xs P) {s0 : Int64} {M : qMem} {Q : qPost}
    (hV : (¬ s0 = 0 ∧ (¬ s0 = 0 ∧ (narrow .boolean (.int (1 : Int32)) = .int (1 : Int32) ∧ Q (some (.int (1 : Int32))) (pJ (pJ M 36 11 ((M.2 36 11) / s0)) 36 12 ((M.2 36 12) / s0)))))) :
    P 128 101 [(0, .ref 36)] [.long s0] M Q := by
  exact qRun_ok hG (ops := qo_128) (cuts := qc_md_layVariance) rfl 118 101 _ _ _ _ hV
set_option maxRecDepth 100000 in
theorem v_md_layVariance_27 (hG : qGood Ls xs P) {l4 : Int64} {l1 l2 l3 l6 s0 : Int32} {M : qMem} {Q : qPost}
    (hV : ((s0 = 0 → (P 128 18 [(0, .ref 36), (1, .int l1), (2, .int l2), (3, .int l3), (4, .long l4), (6, .int (l6 + (1 : Int32)))] [] M Q)) ∧ (¬ (s0 = 0) → (P 122 0 [(0, .ref 36), (1, .int l3), (2, .int l2), (3, .int l6)] [] M (fun v M' => P 128 33 [(0, .ref 36), (1, .int l1), (2, .int l2), (3, .int l3), (4, .long l4), (6, .int l6)] (v.toList ++ []) M' Q))))) :
    P 128 27 [(0, .ref 36), (1, .int l1), (2, .int l2), (3, .int l3), (4, .long l4), (6, .int l6)] [.int s0] M Q := by
  exact qRun_ok hG (ops := qo_128) (cuts := qc_md_layVariance) rfl 118 27 _ _ _ _ hV
set_option maxRecDepth 100000 in
theorem v_md_layVariance_33 (hG : qGood Ls xs P) {l4 : Int64} {l1 l2 l3 l6 s0 : Int32} {M : qMem} {Q : qPost}
    (hV : (P 128 18 [(0, .ref 36), (1, .int l1), (2, .int l2), (3, .int l3), (4, .long (l4 + (1 : Int64))), (6, .int (l6 + (1 : Int32)))] [] (pJ M 36 11 ((M.2 36 11) + (s0.toInt64 * s0.toInt64))) Q)) :
    P 128 33 [(0, .ref 36), (1, .int l1), (2, .int l2), (3, .int l3), (4, .long l4), (6, .int l6)] [.int s0] M Q := by
  exact qRun_ok hG (ops := qo_128) (cuts := qc_md_layVariance) rfl 118 33 _ _ _ _ hV
def qc_md_isVariance : List (Nat × List Nat) := [(4, [1]), (7, [])]
theorem v_md_isVariance_0 (hG : qGood Ls xs P) {l0 l1 : Int32} {M : qMem} {Q : qPost}
    (hV : (P 89 0 [(0, .int l0), (1, .int (0 : Int32)), (2, .int (3 : Int32))] [] M (fun v M' => P 129 4 [(1, .int l1)] (v.toList ++ []) M' Q))) :
    P 129 0 [(0, .int l0), (1, .int l1)] [] M Q := by
  exact qRun_ok hG (ops := qo_129) (cuts := qc_md_isVariance) rfl 14 0 _ _ _ _ hV
theorem v_md_isVariance_4 (hG : qGood Ls xs P) {l1 s0 : Int32} {M : qMem} {Q : qPost}
    (hV : ((s0 = 0 → (narrow .boolean (.int (0 : Int32)) = .int (0 : Int32) ∧ Q (some (.int (0 : Int32))) M)) ∧ (¬ (s0 = 0) → (P 123 0 [(0, .int l1)] [] M (fun v M' => P 129 7 [] (v.toList ++ []) M' Q))))) :
    P 129 4 [(1, .int l1)] [.int s0] M Q := by
  exact qRun_ok hG (ops := qo_129) (cuts := qc_md_isVariance) rfl 14 4 _ _ _ _ hV
theorem v_md_isVariance_7 (hG : qGood Ls xs P) {s0 : Int32} {M : qMem} {Q : qPost}
    (hV : ((s0 = 0 → (narrow .boolean (.int (0 : Int32)) = .int (0 : Int32) ∧ Q (some (.int (0 : Int32))) M)) ∧ (¬ (s0 = 0) → (narrow .boolean (.int (1 : Int32)) = .int (1 : Int32) ∧ Q (some (.int (1 : Int32))) M)))) :
    P 129 7 [] [.int s0] M Q := by
  exact qRun_ok hG (ops := qo_129) (cuts := qc_md_isVariance) rfl 14 7 _ _ _ _ hV
def qc_md_variance : List (Nat × List Nat) := [(3, [0, 1, 2, 3]), (8, [0, 1, 2, 3]), (15, [0, 3])]
theorem v_md_variance_0 (hG : qGood Ls xs P) {l1 l2 l3 : Int32} {M : qMem} {Q : qPost}
    (hV : (P 129 0 [(0, .int l1), (1, .int l2)] [] M (fun v M' => P 130 3 [(0, .ref 36), (1, .int l1), (2, .int l2), (3, .int l3)] (v.toList ++ []) M' Q))) :
    P 130 0 [(0, .ref 36), (1, .int l1), (2, .int l2), (3, .int l3)] [] M Q := by
  exact qRun_ok hG (ops := qo_130) (cuts := qc_md_variance) rfl 28 0 _ _ _ _ hV
theorem v_md_variance_3 (hG : qGood Ls xs P) {l1 l2 l3 s0 : Int32} {M : qMem} {Q : qPost}
    (hV : ((s0 = 0 → Q (some (.long (-1000000002 : Int64))) M) ∧ (¬ (s0 = 0) → (P 89 0 [(0, .int l3), (1, .int (0 : Int32)), (2, .int (1 : Int32))] [] M (fun v M' => P 130 8 [(0, .ref 36), (1, .int l1), (2, .int l2), (3, .int l3)] (v.toList ++ []) M' Q))))) :
    P 130 3 [(0, .ref 36), (1, .int l1), (2, .int l2), (3, .int l3)] [.int s0] M Q := by
  exact qRun_ok hG (ops := qo_130) (cuts := qc_md_variance) rfl 28 3 _ _ _ _ hV
theorem v_md_variance_8 (hG : qGood Ls xs P) {l1 l2 l3 s0 : Int32} {M : qMem} {Q : qPost}
    (hV : ((¬ s0 = 0 → (P 128 0 [(0, .ref 36), (1, .int l1), (2, .int l2)] [] M (fun v M' => P 130 15 [(0, .ref 36), (3, .int l3)] (v.toList ++ []) M' Q))) ∧ (¬ (¬ s0 = 0) → Q (some (.long (-1000000002 : Int64))) M))) :
    P 130 8 [(0, .ref 36), (1, .int l1), (2, .int l2), (3, .int l3)] [.int s0] M Q := by
  exact qRun_ok hG (ops := qo_130) (cuts := qc_md_variance) rfl 28 8 _ _ _ _ hV
theorem v_md_variance_15 (hG : qGood Ls xs P) {l3 s0 : Int32} {M : qMem} {Q : qPost}
    (hV : ((¬ s0 = 0 → ((¬ l3 = 0 → Q (some (.long (M.2 36 12))) M) ∧ (¬ (¬ l3 = 0) → Q (some (.long (M.2 36 11))) M))) ∧ (¬ (¬ s0 = 0) → Q (some (.long (-1000000001 : Int64))) M))) :
    P 130 15 [(0, .ref 36), (3, .int l3)] [.int s0] M Q := by
  exact qRun_ok hG (ops := qo_130) (cuts := qc_md_variance) rfl 28 15 _ _ _ _ hV
def qc_md_deviation : List (Nat × List Nat) := [(3, [0, 1, 2]), (10, [0]), (36, [3, 5, 7])]
set_option maxRecDepth 100000 in
theorem v_md_deviation_0 (hG : qGood Ls xs P) {l1 l2 : Int32} {M : qMem} {Q : qPost}
    (hV : (P 129 0 [(0, .int l1), (1, .int l2)] [] M (fun v M' => P 131 3 [(0, .ref 36), (1, .int l1), (2, .int l2)] (v.toList ++ []) M' Q))) :
    P 131 0 [(0, .ref 36), (1, .int l1), (2, .int l2)] [] M Q := by
  exact qRun_ok hG (ops := qo_131) (cuts := qc_md_deviation) rfl 64 0 _ _ _ _ hV
set_option maxRecDepth 100000 in
theorem v_md_deviation_3 (hG : qGood Ls xs P) {l1 l2 s0 : Int32} {M : qMem} {Q : qPost}
    (hV : ((¬ s0 = 0 → (P 128 0 [(0, .ref 36), (1, .int l1), (2, .int l2)] [] M (fun v M' => P 131 10 [(0, .ref 36)] (v.toList ++ []) M' Q))) ∧ (¬ (¬ s0 = 0) → Q (some (.long (-1000000002 : Int64))) M))) :
    P 131 3 [(0, .ref 36), (1, .int l1), (2, .int l2)] [.int s0] M Q := by
  exact qRun_ok hG (ops := qo_131) (cuts := qc_md_deviation) rfl 64 3 _ _ _ _ hV
set_option maxRecDepth 100000 in
theorem v_md_deviation_10 (hG : qGood Ls xs P) {s0 : Int32} {M : qMem} {Q : qPost}
    (hV : ((¬ s0 = 0 → (¬ (M.2 36 12) = 0 ∧ (¬ (M.2 36 12) = 0 ∧ (¬ (M.2 36 12) = 0 ∧ (P 131 36 [(3, .long (((1000000 : Int64) * ((M.2 36 11) / (M.2 36 12))) + (((1000000 : Int64) * ((M.2 36 11) - (M.2 36 11) / (M.2 36 12) * (M.2 36 12))) / (M.2 36 12)))), (5, .long (0 : Int64)), (7, .long (1000000000 : Int64))] [] M Q))))) ∧ (¬ (¬ s0 = 0) → Q (some (.long (-1000000001 : Int64))) M))) :
    P 131 10 [(0, .ref 36)] [.int s0] M Q := by
  exact qRun_ok hG (ops := qo_131) (cuts := qc_md_deviation) rfl 64 10 _ _ _ _ hV
set_option maxRecDepth 100000 in
theorem v_md_deviation_36 (hG : qGood Ls xs P) {l3 l5 l7 : Int64} {M : qMem} {Q : qPost}
    (hV : (((lg_cmp (l7 - l5) (1 : Int64)) ≤ 0 → Q (some (.long l5)) M) ∧ (¬ ((lg_cmp (l7 - l5) (1 : Int64)) ≤ 0) → (¬ (2 : Int64) = 0 ∧ ((0 < (lg_cmp (((l5 + l7) / (2 : Int64)) * ((l5 + l7) / (2 : Int64))) l3) → (P 131 36 [(3, .long l3), (5, .long l5), (7, .long ((l5 + l7) / (2 : Int64)))] [] M Q)) ∧ (¬ (0 < (lg_cmp (((l5 + l7) / (2 : Int64)) * ((l5 + l7) / (2 : Int64))) l3)) → (P 131 36 [(3, .long l3), (5, .long ((l5 + l7) / (2 : Int64))), (7, .long l7)] [] M Q))))))) :
    P 131 36 [(3, .long l3), (5, .long l5), (7, .long l7)] [] M Q := by
  exact qRun_ok hG (ops := qo_131) (cuts := qc_md_deviation) rfl 64 36 _ _ _ _ hV
def qc_md_order : List (Nat × List Nat) := [(10, [8, 10, 12, 14, 16])]
set_option maxRecDepth 100000 in
theorem v_md_order_0 (hG : qGood Ls xs P) {l0 l2 l4 l6 : Int64} {M : qMem} {Q : qPost}
    (hV : (P 132 10 [(8, .long l0), (10, .long l2), (12, .long l4), (14, .long l6), (16, .int (1 : Int32))] [] M Q)) :
    P 132 0 [(0, .long l0), (2, .long l2), (4, .long l4), (6, .long l6)] [] M Q := by
  exact qRun_ok hG (ops := qo_132) (cuts := qc_md_order) rfl 80 0 _ _ _ _ hV
set_option maxRecDepth 100000 in
theorem v_md_order_10 (hG : qGood Ls xs P) {l8 l10 l12 l14 : Int64} {l16 : Int32} {M : qMem} {Q : qPost}
    (hV : (¬ l10 = 0 ∧ (¬ l14 = 0 ∧ (((lg_cmp (l8 / l10) (l12 / l14)) = 0 → (¬ l10 = 0 ∧ (¬ l14 = 0 ∧ (((lg_cmp (l8 - l8 / l10 * l10) (0 : Int64)) = 0 → ((¬ (lg_cmp (l8 - l8 / l10 * l10) (0 : Int64)) = 0 → ((¬ (lg_cmp (l8 - l8 / l10 * l10) (0 : Int64)) = 0 → Q (some (.int l16)) M) ∧ (¬ (¬ (lg_cmp (l8 - l8 / l10 * l10) (0 : Int64)) = 0) → Q (some (.int (-l16))) M))) ∧ (¬ (¬ (lg_cmp (l8 - l8 / l10 * l10) (0 : Int64)) = 0) → ((¬ (lg_cmp (l12 - l12 / l14 * l14) (0 : Int64)) = 0 → ((¬ (lg_cmp (l8 - l8 / l10 * l10) (0 : Int64)) = 0 → Q (some (.int l16)) M) ∧ (¬ (¬ (lg_cmp (l8 - l8 / l10 * l10) (0 : Int64)) = 0) → Q (some (.int (-l16))) M))) ∧ (¬ (¬ (lg_cmp (l12 - l12 / l14 * l14) (0 : Int64)) = 0) → Q (some (.int (0 : Int32))) M))))) ∧ (¬ ((lg_cmp (l8 - l8 / l10 * l10) (0 : Int64)) = 0) → ((¬ (lg_cmp (l12 - l12 / l14 * l14) (0 : Int64)) = 0 → (P 132 10 [(8, .long l10), (10, .long (l8 - l8 / l10 * l10)), (12, .long l14), (14, .long (l12 - l12 / l14 * l14)), (16, .int (-l16))] [] M Q)) ∧ (¬ (¬ (lg_cmp (l12 - l12 / l14 * l14) (0 : Int64)) = 0) → ((¬ (lg_cmp (l8 - l8 / l10 * l10) (0 : Int64)) = 0 → ((¬ (lg_cmp (l8 - l8 / l10 * l10) (0 : Int64)) = 0 → Q (some (.int l16)) M) ∧ (¬ (¬ (lg_cmp (l8 - l8 / l10 * l10) (0 : Int64)) = 0) → Q (some (.int (-l16))) M))) ∧ (¬ (¬ (lg_cmp (l8 - l8 / l10 * l10) (0 : Int64)) = 0) → ((¬ (lg_cmp (l12 - l12 / l14 * l14) (0 : Int64)) = 0 → ((¬ (lg_cmp (l8 - l8 / l10 * l10) (0 : Int64)) = 0 → Q (some (.int l16)) M) ∧ (¬ (¬ (lg_cmp (l8 - l8 / l10 * l10) (0 : Int64)) = 0) → Q (some (.int (-l16))) M))) ∧ (¬ (¬ (lg_cmp (l12 - l12 / l14 * l14) (0 : Int64)) = 0) → Q (some (.int (0 : Int32))) M))))))))))) ∧ (¬ ((lg_cmp (l8 / l10) (l12 / l14)) = 0) → (¬ l10 = 0 ∧ (¬ l14 = 0 ∧ ((0 ≤ (lg_cmp (l8 / l10) (l12 / l14)) → Q (some (.int l16)) M) ∧ (¬ (0 ≤ (lg_cmp (l8 / l10) (l12 / l14))) → Q (some (.int (-l16))) M))))))))) :
    P 132 10 [(8, .long l8), (10, .long l10), (12, .long l12), (14, .long l14), (16, .int l16)] [] M Q := by
  exact qRun_ok hG (ops := qo_132) (cuts := qc_md_order) rfl 80 10 _ _ _ _ hV
def qc_md_compared : List (Nat × List Nat) := [(4, [0, 1, 3]), (17, [0, 4, 6]), (27, [])]
theorem v_md_compared_0 (hG : qGood Ls xs P) {l1 l2 l3 : Int32} {M : qMem} {Q : qPost}
    (hV : (P 128 0 [(0, .ref 36), (1, .int l1), (2, .int l2)] [] M (fun v M' => P 133 4 [(0, .ref 36), (1, .int l1), (3, .int l3)] (v.toList ++ []) M' Q))) :
    P 133 0 [(0, .ref 36), (1, .int l1), (2, .int l2), (3, .int l3)] [] M Q := by
  exact qRun_ok hG (ops := qo_133) (cuts := qc_md_compared) rfl 40 0 _ _ _ _ hV
theorem v_md_compared_4 (hG : qGood Ls xs P) {l1 l3 s0 : Int32} {M : qMem} {Q : qPost}
    (hV : ((¬ s0 = 0 → (P 128 0 [(0, .ref 36), (1, .int l1), (2, .int l3)] [] M (fun v M' => P 133 17 [(0, .ref 36), (4, .long (M.2 36 11)), (6, .long (M.2 36 12))] (v.toList ++ []) M' Q))) ∧ (¬ (¬ s0 = 0) → Q (some (.int (-1000000001 : Int32))) M))) :
    P 133 4 [(0, .ref 36), (1, .int l1), (3, .int l3)] [.int s0] M Q := by
  exact qRun_ok hG (ops := qo_133) (cuts := qc_md_compared) rfl 40 4 _ _ _ _ hV
theorem v_md_compared_17 (hG : qGood Ls xs P) {l4 l6 : Int64} {s0 : Int32} {M : qMem} {Q : qPost}
    (hV : ((¬ s0 = 0 → (P 132 0 [(0, .long l4), (2, .long l6), (4, .long (M.2 36 11)), (6, .long (M.2 36 12))] [] M (fun v M' => P 133 27 [] (v.toList ++ []) M' Q))) ∧ (¬ (¬ s0 = 0) → Q (some (.int (-1000000001 : Int32))) M))) :
    P 133 17 [(0, .ref 36), (4, .long l4), (6, .long l6)] [.int s0] M Q := by
  exact qRun_ok hG (ops := qo_133) (cuts := qc_md_compared) rfl 40 17 _ _ _ _ hV
theorem v_md_compared_27 (hG : qGood Ls xs P) {s0 : Int32} {M : qMem} {Q : qPost}
    (hV : ((¬ s0 = 0 → ((0 ≤ s0 → Q (some (.int (2 : Int32))) M) ∧ (¬ (0 ≤ s0) → Q (some (.int (1 : Int32))) M))) ∧ (¬ (¬ s0 = 0) → Q (some (.int (0 : Int32))) M))) :
    P 133 27 [] [.int s0] M Q := by
  exact qRun_ok hG (ops := qo_133) (cuts := qc_md_compared) rfl 40 27 _ _ _ _ hV
def qc_md_compare : List (Nat × List Nat) := [(3, [0, 1, 2, 3]), (6, [0, 1, 2, 3]), (12, [])]
theorem v_md_compare_0 (hG : qGood Ls xs P) {l1 l2 l3 : Int32} {M : qMem} {Q : qPost}
    (hV : (P 129 0 [(0, .int l1), (1, .int l2)] [] M (fun v M' => P 134 3 [(0, .ref 36), (1, .int l1), (2, .int l2), (3, .int l3)] (v.toList ++ []) M' Q))) :
    P 134 0 [(0, .ref 36), (1, .int l1), (2, .int l2), (3, .int l3)] [] M Q := by
  exact qRun_ok hG (ops := qo_134) (cuts := qc_md_compare) rfl 17 0 _ _ _ _ hV
theorem v_md_compare_3 (hG : qGood Ls xs P) {l1 l2 l3 s0 : Int32} {M : qMem} {Q : qPost}
    (hV : ((s0 = 0 → Q (some (.int (-1000000002 : Int32))) M) ∧ (¬ (s0 = 0) → (P 123 0 [(0, .int l3)] [] M (fun v M' => P 134 6 [(0, .ref 36), (1, .int l1), (2, .int l2), (3, .int l3)] (v.toList ++ []) M' Q))))) :
    P 134 3 [(0, .ref 36), (1, .int l1), (2, .int l2), (3, .int l3)] [.int s0] M Q := by
  exact qRun_ok hG (ops := qo_134) (cuts := qc_md_compare) rfl 17 3 _ _ _ _ hV
theorem v_md_compare_6 (hG : qGood Ls xs P) {l1 l2 l3 s0 : Int32} {M : qMem} {Q : qPost}
    (hV : ((s0 = 0 → Q (some (.int (-1000000002 : Int32))) M) ∧ (¬ (s0 = 0) → (P 133 0 [(0, .ref 36), (1, .int l1), (2, .int l2), (3, .int l3)] [] M (fun v M' => P 134 12 [] (v.toList ++ []) M' Q))))) :
    P 134 6 [(0, .ref 36), (1, .int l1), (2, .int l2), (3, .int l3)] [.int s0] M Q := by
  exact qRun_ok hG (ops := qo_134) (cuts := qc_md_compare) rfl 17 6 _ _ _ _ hV
theorem v_md_compare_12 (hG : qGood Ls xs P) {s0 : Int32} {M : qMem} {Q : qPost}
    (hV : Q (some (.int s0)) M) :
    P 134 12 [] [.int s0] M Q := by
  exact qRun_ok hG (ops := qo_134) (cuts := qc_md_compare) rfl 17 12 _ _ _ _ hV
def qc_md_best : List (Nat × List Nat) := [(4, [0, 1]), (11, [0, 1, 2, 3]), (18, [0, 1, 2, 3]), (27, [0, 1, 2, 3])]
theorem v_md_best_0 (hG : qGood Ls xs P) {l1 : Int32} {M : qMem} {Q : qPost}
    (hV : (P 89 0 [(0, .int l1), (1, .int (0 : Int32)), (2, .int (3 : Int32))] [] M (fun v M' => P 135 4 [(0, .ref 36), (1, .int l1)] (v.toList ++ []) M' Q))) :
    P 135 0 [(0, .ref 36), (1, .int l1)] [] M Q := by
  exact qRun_ok hG (ops := qo_135) (cuts := qc_md_best) rfl 37 0 _ _ _ _ hV
theorem v_md_best_4 (hG : qGood Ls xs P) {l1 s0 : Int32} {M : qMem} {Q : qPost}
    (hV : ((¬ s0 = 0 → (P 135 11 [(0, .ref 36), (1, .int l1), (2, .int (-1000000001 : Int32)), (3, .int (1 : Int32))] [] M Q)) ∧ (¬ (¬ s0 = 0) → Q (some (.int (-1000000002 : Int32))) M))) :
    P 135 4 [(0, .ref 36), (1, .int l1)] [.int s0] M Q := by
  exact qRun_ok hG (ops := qo_135) (cuts := qc_md_best) rfl 37 4 _ _ _ _ hV
theorem v_md_best_11 (hG : qGood Ls xs P) {l1 l2 l3 : Int32} {M : qMem} {Q : qPost}
    (hV : (((31 : Int32) < l3 → Q (some (.int l2)) M) ∧ (¬ ((31 : Int32) < l3) → (P 128 0 [(0, .ref 36), (1, .int l1), (2, .int l3)] [] M (fun v M' => P 135 18 [(0, .ref 36), (1, .int l1), (2, .int l2), (3, .int l3)] (v.toList ++ []) M' Q))))) :
    P 135 11 [(0, .ref 36), (1, .int l1), (2, .int l2), (3, .int l3)] [] M Q := by
  exact qRun_ok hG (ops := qo_135) (cuts := qc_md_best) rfl 37 11 _ _ _ _ hV
theorem v_md_best_18 (hG : qGood Ls xs P) {l1 l2 l3 s0 : Int32} {M : qMem} {Q : qPost}
    (hV : ((s0 = 0 → (P 135 11 [(0, .ref 36), (1, .int l1), (2, .int l2), (3, .int (l3 + (1 : Int32)))] [] M Q)) ∧ (¬ (s0 = 0) → ((l2 = (-1000000001 : Int32) → (P 135 11 [(0, .ref 36), (1, .int l1), (2, .int l3), (3, .int (l3 + (1 : Int32)))] [] M Q)) ∧ (¬ (l2 = (-1000000001 : Int32)) → (P 133 0 [(0, .ref 36), (1, .int l1), (2, .int l3), (3, .int l2)] [] M (fun v M' => P 135 27 [(0, .ref 36), (1, .int l1), (2, .int l2), (3, .int l3)] (v.toList ++ []) M' Q))))))) :
    P 135 18 [(0, .ref 36), (1, .int l1), (2, .int l2), (3, .int l3)] [.int s0] M Q := by
  exact qRun_ok hG (ops := qo_135) (cuts := qc_md_best) rfl 37 18 _ _ _ _ hV
theorem v_md_best_27 (hG : qGood Ls xs P) {l1 l2 l3 s0 : Int32} {M : qMem} {Q : qPost}
    (hV : ((¬ s0 = (1 : Int32) → (P 135 11 [(0, .ref 36), (1, .int l1), (2, .int l2), (3, .int (l3 + (1 : Int32)))] [] M Q)) ∧ (¬ (¬ s0 = (1 : Int32)) → (P 135 11 [(0, .ref 36), (1, .int l1), (2, .int l3), (3, .int (l3 + (1 : Int32)))] [] M Q)))) :
    P 135 27 [(0, .ref 36), (1, .int l1), (2, .int l2), (3, .int l3)] [.int s0] M Q := by
  exact qRun_ok hG (ops := qo_135) (cuts := qc_md_best) rfl 37 27 _ _ _ _ hV
def qc_md_noiseAt : List (Nat × List Nat) := [(4, [0, 1]), (26, [0, 2, 4]), (31, [0, 2, 4, 6]), (46, [0, 2, 4, 6])]
set_option maxRecDepth 100000 in
theorem v_md_noiseAt_0 (hG : qGood Ls xs P) {l1 : Int32} {M : qMem} {Q : qPost}
    (hV : (P 128 0 [(0, .ref 36), (1, .int (0 : Int32)), (2, .int l1)] [] M (fun v M' => P 136 4 [(0, .ref 36), (1, .int l1)] (v.toList ++ []) M' Q))) :
    P 136 0 [(0, .ref 36), (1, .int l1)] [] M Q := by
  exact qRun_ok hG (ops := qo_136) (cuts := qc_md_noiseAt) rfl 55 0 _ _ _ _ hV
set_option maxRecDepth 100000 in
theorem v_md_noiseAt_4 (hG : qGood Ls xs P) {l1 s0 : Int32} {M : qMem} {Q : qPost}
    (hV : ((s0 = 0 → Q (some (.int (-1000000001 : Int32))) M) ∧ (¬ (s0 = 0) → ((¬ (lg_cmp (M.2 36 11) (0 : Int64)) = 0 → (P 128 0 [(0, .ref 36), (1, .int (0 : Int32)), (2, .int ((2 : Int32) * l1))] [] M (fun v M' => P 136 26 [(0, .ref 36), (2, .long ((3 : Int64) * (M.2 36 11))), (4, .long (M.2 36 12))] (v.toList ++ []) M' Q))) ∧ (¬ (¬ (lg_cmp (M.2 36 11) (0 : Int64)) = 0) → Q (some (.int (-1000000001 : Int32))) M))))) :
    P 136 4 [(0, .ref 36), (1, .int l1)] [.int s0] M Q := by
  exact qRun_ok hG (ops := qo_136) (cuts := qc_md_noiseAt) rfl 55 4 _ _ _ _ hV
set_option maxRecDepth 100000 in
theorem v_md_noiseAt_26 (hG : qGood Ls xs P) {l2 l4 : Int64} {s0 : Int32} {M : qMem} {Q : qPost}
    (hV : ((¬ s0 = 0 → (P 136 31 [(0, .ref 36), (2, .long l2), (4, .long l4), (6, .int (0 : Int32))] [] M Q)) ∧ (¬ (¬ s0 = 0) → Q (some (.int (-1000000001 : Int32))) M))) :
    P 136 26 [(0, .ref 36), (2, .long l2), (4, .long l4)] [.int s0] M Q := by
  exact qRun_ok hG (ops := qo_136) (cuts := qc_md_noiseAt) rfl 55 26 _ _ _ _ hV
set_option maxRecDepth 100000 in
theorem v_md_noiseAt_31 (hG : qGood Ls xs P) {l2 l4 : Int64} {l6 : Int32} {M : qMem} {Q : qPost}
    (hV : (((4 : Int32) ≤ l6 → Q (some (.int (4 : Int32))) M) ∧ (¬ ((4 : Int32) ≤ l6) → (P 132 0 [(0, .long (((8 : Int32) >>> (l6 &&& 31)).toInt64 * (M.2 36 11))), (2, .long (M.2 36 12)), (4, .long l2), (6, .long l4)] [] M (fun v M' => P 136 46 [(0, .ref 36), (2, .long l2), (4, .long l4), (6, .int l6)] (v.toList ++ []) M' Q))))) :
    P 136 31 [(0, .ref 36), (2, .long l2), (4, .long l4), (6, .int l6)] [] M Q := by
  exact qRun_ok hG (ops := qo_136) (cuts := qc_md_noiseAt) rfl 55 31 _ _ _ _ hV
set_option maxRecDepth 100000 in
theorem v_md_noiseAt_46 (hG : qGood Ls xs P) {l2 l4 : Int64} {l6 s0 : Int32} {M : qMem} {Q : qPost}
    (hV : ((0 < s0 → (P 136 31 [(0, .ref 36), (2, .long l2), (4, .long l4), (6, .int (l6 + (1 : Int32)))] [] M Q)) ∧ (¬ (0 < s0) → Q (some (.int l6)) M))) :
    P 136 46 [(0, .ref 36), (2, .long l2), (4, .long l4), (6, .int l6)] [.int s0] M Q := by
  exact qRun_ok hG (ops := qo_136) (cuts := qc_md_noiseAt) rfl 55 46 _ _ _ _ hV
def qc_md_noise : List (Nat × List Nat) := [(4, [0, 1]), (8, [])]
theorem v_md_noise_0 (hG : qGood Ls xs P) {l1 : Int32} {M : qMem} {Q : qPost}
    (hV : (P 89 0 [(0, .int l1), (1, .int (1 : Int32)), (2, .int (15 : Int32))] [] M (fun v M' => P 137 4 [(0, .ref 36), (1, .int l1)] (v.toList ++ []) M' Q))) :
    P 137 0 [(0, .ref 36), (1, .int l1)] [] M Q := by
  exact qRun_ok hG (ops := qo_137) (cuts := qc_md_noise) rfl 13 0 _ _ _ _ hV
theorem v_md_noise_4 (hG : qGood Ls xs P) {l1 s0 : Int32} {M : qMem} {Q : qPost}
    (hV : ((s0 = 0 → Q (some (.int (-1000000002 : Int32))) M) ∧ (¬ (s0 = 0) → (P 136 0 [(0, .ref 36), (1, .int l1)] [] M (fun v M' => P 137 8 [] (v.toList ++ []) M' Q))))) :
    P 137 4 [(0, .ref 36), (1, .int l1)] [.int s0] M Q := by
  exact qRun_ok hG (ops := qo_137) (cuts := qc_md_noise) rfl 13 4 _ _ _ _ hV
theorem v_md_noise_8 (hG : qGood Ls xs P) {s0 : Int32} {M : qMem} {Q : qPost}
    (hV : Q (some (.int s0)) M) :
    P 137 8 [] [.int s0] M Q := by
  exact qRun_ok hG (ops := qo_137) (cuts := qc_md_noise) rfl 13 8 _ _ _ _ hV
def qc_md_freedom : List (Nat × List Nat) := [(4, [0, 1]), (10, [0, 1]), (20, [1, 2])]
set_option maxRecDepth 100000 in
theorem v_md_freedom_0 (hG : qGood Ls xs P) {l1 : Int32} {M : qMem} {Q : qPost}
    (hV : (P 89 0 [(0, .int l1), (1, .int (1 : Int32)), (2, .int (15 : Int32))] [] M (fun v M' => P 138 4 [(0, .ref 36), (1, .int l1)] (v.toList ++ []) M' Q))) :
    P 138 0 [(0, .ref 36), (1, .int l1)] [] M Q := by
  exact qRun_ok hG (ops := qo_138) (cuts := qc_md_freedom) rfl 84 0 _ _ _ _ hV
set_option maxRecDepth 100000 in
theorem v_md_freedom_4 (hG : qGood Ls xs P) {l1 s0 : Int32} {M : qMem} {Q : qPost}
    (hV : ((¬ s0 = 0 → (P 136 0 [(0, .ref 36), (1, .int l1)] [] M (fun v M' => P 138 10 [(0, .ref 36), (1, .int l1)] (v.toList ++ []) M' Q))) ∧ (¬ (¬ s0 = 0) → Q (some (.int (-1000000002 : Int32))) M))) :
    P 138 4 [(0, .ref 36), (1, .int l1)] [.int s0] M Q := by
  exact qRun_ok hG (ops := qo_138) (cuts := qc_md_freedom) rfl 84 4 _ _ _ _ hV
set_option maxRecDepth 100000 in
theorem v_md_freedom_10 (hG : qGood Ls xs P) {l1 s0 : Int32} {M : qMem} {Q : qPost}
    (hV : ((¬ s0 = (-1000000001 : Int32) → (P 125 0 [(0, .ref 36), (1, .int (2 : Int32)), (2, .int l1)] [] M (fun v M' => P 138 20 [(1, .int l1), (2, .int s0)] (v.toList ++ []) M' Q))) ∧ (¬ (¬ s0 = (-1000000001 : Int32)) → Q (some (.int (-1000000001 : Int32))) M))) :
    P 138 10 [(0, .ref 36), (1, .int l1)] [.int s0] M Q := by
  exact qRun_ok hG (ops := qo_138) (cuts := qc_md_freedom) rfl 84 10 _ _ _ _ hV
set_option maxRecDepth 100000 in
theorem v_md_freedom_20 (hG : qGood Ls xs P) {l1 l2 s0 : Int32} {M : qMem} {Q : qPost}
    (hV : ((¬ l2 = 0 → ((¬ l2 = (1 : Int32) → ((¬ l2 = (2 : Int32) → (¬ l1 = 0 ∧ (((1 : Int32) ≤ (s0 / l1) → Q (some (.int (s0 / l1))) M) ∧ (¬ ((1 : Int32) ≤ (s0 / l1)) → Q (some (.int (1 : Int32))) M)))) ∧ (¬ (¬ l2 = (2 : Int32)) → (¬ ((4 : Int32) * (s0 + ((3 : Int32) * l1))) = 0 ∧ (((1 : Int32) ≤ ((((5 : Int32) * s0) * s0) / ((4 : Int32) * (s0 + ((3 : Int32) * l1)))) → Q (some (.int ((((5 : Int32) * s0) * s0) / ((4 : Int32) * (s0 + ((3 : Int32) * l1)))))) M) ∧ (¬ ((1 : Int32) ≤ ((((5 : Int32) * s0) * s0) / ((4 : Int32) * (s0 + ((3 : Int32) * l1))))) → Q (some (.int (1 : Int32))) M)))))) ∧ (¬ (¬ l2 = (1 : Int32)) → (¬ ((2 : Int32) * (s0 + l1)) = 0 ∧ (((1 : Int32) ≤ ((((3 : Int32) * s0) * s0) / ((2 : Int32) * (s0 + l1))) → Q (some (.int ((((3 : Int32) * s0) * s0) / ((2 : Int32) * (s0 + l1))))) M) ∧ (¬ ((1 : Int32) ≤ ((((3 : Int32) * s0) * s0) / ((2 : Int32) * (s0 + l1)))) → Q (some (.int (1 : Int32))) M)))))) ∧ (¬ (¬ l2 = 0) → (¬ ((2 : Int32) * (s0 + l1)) = 0 ∧ (((1 : Int32) ≤ (((s0 + (1 : Int32)) * (s0 + ((2 : Int32) * l1))) / ((2 : Int32) * (s0 + l1))) → Q (some (.int (((s0 + (1 : Int32)) * (s0 + ((2 : Int32) * l1))) / ((2 : Int32) * (s0 + l1))))) M) ∧ (¬ ((1 : Int32) ≤ (((s0 + (1 : Int32)) * (s0 + ((2 : Int32) * l1))) / ((2 : Int32) * (s0 + l1)))) → Q (some (.int (1 : Int32))) M)))))) :
    P 138 20 [(1, .int l1), (2, .int l2)] [.int s0] M Q := by
  exact qRun_ok hG (ops := qo_138) (cuts := qc_md_freedom) rfl 84 20 _ _ _ _ hV
def qc_md_outliers : List (Nat × List Nat) := [(4, [0, 1]), (8, [])]
theorem v_md_outliers_0 (hG : qGood Ls xs P) {l1 : Int32} {M : qMem} {Q : qPost}
    (hV : (P 89 0 [(0, .int l1), (1, .int (0 : Int32)), (2, .int (99999 : Int32))] [] M (fun v M' => P 139 4 [(0, .ref 36), (1, .int l1)] (v.toList ++ []) M' Q))) :
    P 139 0 [(0, .ref 36), (1, .int l1)] [] M Q := by
  exact qRun_ok hG (ops := qo_139) (cuts := qc_md_outliers) rfl 13 0 _ _ _ _ hV
theorem v_md_outliers_4 (hG : qGood Ls xs P) {l1 s0 : Int32} {M : qMem} {Q : qPost}
    (hV : ((s0 = 0 → Q (some (.int (-1000000002 : Int32))) M) ∧ (¬ (s0 = 0) → (P 106 0 [(0, .ref 36), (1, .int l1)] [] M (fun v M' => P 139 8 [] (v.toList ++ []) M' Q))))) :
    P 139 4 [(0, .ref 36), (1, .int l1)] [.int s0] M Q := by
  exact qRun_ok hG (ops := qo_139) (cuts := qc_md_outliers) rfl 13 4 _ _ _ _ hV
theorem v_md_outliers_8 (hG : qGood Ls xs P) {s0 : Int32} {M : qMem} {Q : qPost}
    (hV : Q (some (.int s0)) M) :
    P 139 8 [] [.int s0] M Q := by
  exact qRun_ok hG (ops := qo_139) (cuts := qc_md_outliers) rfl 13 8 _ _ _ _ hV
def qc_md_write : List (Nat × List Nat) := [(4, [0, 1])]
theorem v_md_write_0 (hG : qGood Ls xs P) {l1 : Int32} {M : qMem} {Q : qPost}
    (hV : (P 89 0 [(0, .int l1), (1, .int (32 : Int32)), (2, .int (126 : Int32))] [] M (fun v M' => P 140 4 [(0, .ref 36), (1, .int l1)] (v.toList ++ []) M' Q))) :
    P 140 0 [(0, .ref 36), (1, .int l1)] [] M Q := by
  exact qRun_ok hG (ops := qo_140) (cuts := qc_md_write) rfl 30 0 _ _ _ _ hV
theorem v_md_write_4 (hG : qGood Ls xs P) {l1 s0 : Int32} {M : qMem} {Q : qPost}
    (hV : ((¬ s0 = 0 → ((¬ (M.1 36 6) = (120 : Int32) → (vp_in (M.1 36 6) 120 ∧ Q (some (.int ((M.1 36 6) + (1 : Int32)))) (pI (pI M 40 (M.1 36 6).toNatClampNeg l1) 36 6 ((M.1 36 6) + (1 : Int32))))) ∧ (¬ (¬ (M.1 36 6) = (120 : Int32)) → Q (some (.int (-1000000004 : Int32))) M))) ∧ (¬ (¬ s0 = 0) → Q (some (.int (-1000000002 : Int32))) M))) :
    P 140 4 [(0, .ref 36), (1, .int l1)] [.int s0] M Q := by
  exact qRun_ok hG (ops := qo_140) (cuts := qc_md_write) rfl 30 4 _ _ _ _ hV
def qc_md_wipe : List (Nat × List Nat) := []
theorem v_md_wipe_0 (hG : qGood Ls xs P) {M : qMem} {Q : qPost}
    (hV : Q (some (.int (M.1 36 6))) (pI M 36 6 (0 : Int32))) :
    P 141 0 [(0, .ref 36)] [] M Q := by
  exact qRun_ok hG (ops := qo_141) (cuts := qc_md_wipe) rfl 10 0 _ _ _ _ hV
def qc_md_isWrong : List (Nat × List Nat) := []
theorem v_md_isWrong_0 (hG : qGood Ls xs P) {l1 l2 : Int32} {M : qMem} {Q : qPost}
    (hV : (narrow .boolean (.int (1 : Int32)) = .int (1 : Int32) ∧ Q (some (.int (1 : Int32))) (pI (pI M 36 14 l1) 36 15 l2))) :
    P 142 0 [(0, .ref 36), (1, .int l1), (2, .int l2)] [] M Q := by
  exact qRun_ok hG (ops := qo_142) (cuts := qc_md_isWrong) rfl 10 0 _ _ _ _ hV
def qc_md_isDigit : List (Nat × List Nat) := [(13, [])]
theorem v_md_isDigit_0 (hG : qGood Ls xs P) {M : qMem} {Q : qPost}
    (hV : (((M.1 36 6) ≤ (M.1 36 13) → (narrow .boolean (.int (0 : Int32)) = .int (0 : Int32) ∧ Q (some (.int (0 : Int32))) M)) ∧ (¬ ((M.1 36 6) ≤ (M.1 36 13)) → (vp_in (M.1 36 13) 120 ∧ (P 89 0 [(0, .int (M.1 40 (M.1 36 13).toNatClampNeg)), (1, .int (48 : Int32)), (2, .int (57 : Int32))] [] M (fun v M' => P 143 13 [] (v.toList ++ []) M' Q)))))) :
    P 143 0 [(0, .ref 36)] [] M Q := by
  exact qRun_ok hG (ops := qo_143) (cuts := qc_md_isDigit) rfl 20 0 _ _ _ _ hV
theorem v_md_isDigit_13 (hG : qGood Ls xs P) {s0 : Int32} {M : qMem} {Q : qPost}
    (hV : ((s0 = 0 → (narrow .boolean (.int (0 : Int32)) = .int (0 : Int32) ∧ Q (some (.int (0 : Int32))) M)) ∧ (¬ (s0 = 0) → (narrow .boolean (.int (1 : Int32)) = .int (1 : Int32) ∧ Q (some (.int (1 : Int32))) M)))) :
    P 143 13 [] [.int s0] M Q := by
  exact qRun_ok hG (ops := qo_143) (cuts := qc_md_isDigit) rfl 20 13 _ _ _ _ hV
def qc_md_takes : List (Nat × List Nat) := []
theorem v_md_takes_0 (hG : qGood Ls xs P) {l1 : Int32} {M : qMem} {Q : qPost}
    (hV : (((M.1 36 6) ≤ (M.1 36 13) → (((0 : Int32) = 0 → (narrow .boolean (.int (0 : Int32)) = .int (0 : Int32) ∧ Q (some (.int (0 : Int32))) (pI M 36 13 ((M.1 36 13) + (0 : Int32))))) ∧ (¬ ((0 : Int32) = 0) → (narrow .boolean (.int (0 : Int32)) = .int (0 : Int32) ∧ Q (some (.int (0 : Int32))) (pI M 36 13 ((M.1 36 13) + (1 : Int32))))))) ∧ (¬ ((M.1 36 6) ≤ (M.1 36 13)) → (vp_in (M.1 36 13) 120 ∧ ((¬ (M.1 40 (M.1 36 13).toNatClampNeg) = l1 → (((0 : Int32) = 0 → (narrow .boolean (.int (0 : Int32)) = .int (0 : Int32) ∧ Q (some (.int (0 : Int32))) (pI M 36 13 ((M.1 36 13) + (0 : Int32))))) ∧ (¬ ((0 : Int32) = 0) → (narrow .boolean (.int (0 : Int32)) = .int (0 : Int32) ∧ Q (some (.int (0 : Int32))) (pI M 36 13 ((M.1 36 13) + (1 : Int32))))))) ∧ (¬ (¬ (M.1 40 (M.1 36 13).toNatClampNeg) = l1) → (((1 : Int32) = 0 → (narrow .boolean (.int (1 : Int32)) = .int (1 : Int32) ∧ Q (some (.int (1 : Int32))) (pI M 36 13 ((M.1 36 13) + (0 : Int32))))) ∧ (¬ ((1 : Int32) = 0) → (narrow .boolean (.int (1 : Int32)) = .int (1 : Int32) ∧ Q (some (.int (1 : Int32))) (pI M 36 13 ((M.1 36 13) + (1 : Int32)))))))))))) :
    P 144 0 [(0, .ref 36), (1, .int l1)] [] M Q := by
  exact qRun_ok hG (ops := qo_144) (cuts := qc_md_takes) rfl 30 0 _ _ _ _ hV
def qc_md_lacksNumber : List (Nat × List Nat) := [(5, [0, 1, 2]), (10, [0, 1, 2]), (40, [])]
set_option maxRecDepth 100000 in
theorem v_md_lacksNumber_0 (hG : qGood Ls xs P) {l1 : Int32} {M : qMem} {Q : qPost}
    (hV : (P 145 5 [(0, .ref 36), (1, .int l1), (2, .int (0 : Int32))] [] (pI M 36 18 (0 : Int32)) Q)) :
    P 145 0 [(0, .ref 36), (1, .int l1)] [] M Q := by
  exact qRun_ok hG (ops := qo_145) (cuts := qc_md_lacksNumber) rfl 47 0 _ _ _ _ hV
set_option maxRecDepth 100000 in
theorem v_md_lacksNumber_5 (hG : qGood Ls xs P) {l1 l2 : Int32} {M : qMem} {Q : qPost}
    (hV : ((l1 ≤ l2 → ((¬ l2 = 0 → (narrow .boolean (.int (0 : Int32)) = .int (0 : Int32) ∧ Q (some (.int (0 : Int32))) M)) ∧ (¬ (¬ l2 = 0) → (P 142 0 [(0, .ref 36), (1, .int (1 : Int32)), (2, .int (M.1 36 13))] [] M (fun v M' => P 145 40 [] (v.toList ++ []) M' Q))))) ∧ (¬ (l1 ≤ l2) → (P 143 0 [(0, .ref 36)] [] M (fun v M' => P 145 10 [(0, .ref 36), (1, .int l1), (2, .int l2)] (v.toList ++ []) M' Q))))) :
    P 145 5 [(0, .ref 36), (1, .int l1), (2, .int l2)] [] M Q := by
  exact qRun_ok hG (ops := qo_145) (cuts := qc_md_lacksNumber) rfl 47 5 _ _ _ _ hV
set_option maxRecDepth 100000 in
theorem v_md_lacksNumber_40 (hG : qGood Ls xs P) {s0 : Int32} {M : qMem} {Q : qPost}
    (hV : ((s0 = 0 → (narrow .boolean (.int (0 : Int32)) = .int (0 : Int32) ∧ Q (some (.int (0 : Int32))) M)) ∧ (¬ (s0 = 0) → (narrow .boolean (.int (1 : Int32)) = .int (1 : Int32) ∧ Q (some (.int (1 : Int32))) M)))) :
    P 145 40 [] [.int s0] M Q := by
  exact qRun_ok hG (ops := qo_145) (cuts := qc_md_lacksNumber) rfl 47 40 _ _ _ _ hV
set_option maxRecDepth 100000 in
theorem v_md_lacksNumber_10 (hG : qGood Ls xs P) {l1 l2 s0 : Int32} {M : qMem} {Q : qPost}
    (hV : ((s0 = 0 → ((¬ l2 = 0 → (narrow .boolean (.int (0 : Int32)) = .int (0 : Int32) ∧ Q (some (.int (0 : Int32))) M)) ∧ (¬ (¬ l2 = 0) → (P 142 0 [(0, .ref 36), (1, .int (1 : Int32)), (2, .int (M.1 36 13))] [] M (fun v M' => P 145 40 [] (v.toList ++ []) M' Q))))) ∧ (¬ (s0 = 0) → (vp_in (M.1 36 13) 120 ∧ (P 145 5 [(0, .ref 36), (1, .int l1), (2, .int (l2 + (1 : Int32)))] [] (pI (pI M 36 18 ((((10 : Int32) * (M.1 36 18)) + (M.1 40 (M.1 36 13).toNatClampNeg)) - (48 : Int32))) 36 13 ((M.1 36 13) + (1 : Int32))) Q))))) :
    P 145 10 [(0, .ref 36), (1, .int l1), (2, .int l2)] [.int s0] M Q := by
  exact qRun_ok hG (ops := qo_145) (cuts := qc_md_lacksNumber) rfl 47 10 _ _ _ _ hV
def qc_md_isItemWrong : List (Nat × List Nat) := [(8, [0, 1, 2]), (12, [0, 1]), (16, [0, 1, 3]), (33, [0, 1, 2, 3]), (40, [0, 1, 2, 4]), (50, [0, 1, 2, 3, 4]), (55, []), (59, [0, 1, 2, 3]), (65, []), (76, []), (79, [0, 2, 3, 4])]
set_option maxRecDepth 100000 in
theorem v_md_isItemWrong_0 (hG : qGood Ls xs P) {M : qMem} {Q : qPost}
    (hV : (P 144 0 [(0, .ref 36), (1, .int (63 : Int32))] [] M (fun v M' => P 146 8 [(0, .ref 36), (1, .int (M.1 36 13)), (2, .int (-1000000001 : Int32))] (v.toList ++ []) M' Q))) :
    P 146 0 [(0, .ref 36)] [] M Q := by
  exact qRun_ok hG (ops := qo_146) (cuts := qc_md_isItemWrong) rfl 100 0 _ _ _ _ hV
set_option maxRecDepth 100000 in
theorem v_md_isItemWrong_8 (hG : qGood Ls xs P) {l1 l2 s0 : Int32} {M : qMem} {Q : qPost}
    (hV : ((¬ s0 = 0 → (P 144 0 [(0, .ref 36), (1, .int (42 : Int32))] [] M (fun v M' => P 146 33 [(0, .ref 36), (1, .int l1), (2, .int l2), (3, .int (1 : Int32))] (v.toList ++ []) M' Q))) ∧ (¬ (¬ s0 = 0) → (P 144 0 [(0, .ref 36), (1, .int (45 : Int32))] [] M (fun v M' => P 146 12 [(0, .ref 36), (1, .int l1)] (v.toList ++ []) M' Q))))) :
    P 146 8 [(0, .ref 36), (1, .int l1), (2, .int l2)] [.int s0] M Q := by
  exact qRun_ok hG (ops := qo_146) (cuts := qc_md_isItemWrong) rfl 100 8 _ _ _ _ hV
set_option maxRecDepth 100000 in
theorem v_md_isItemWrong_33 (hG : qGood Ls xs P) {l1 l2 l3 s0 : Int32} {M : qMem} {Q : qPost}
    (hV : ((s0 = 0 → (P 144 0 [(0, .ref 36), (1, .int (59 : Int32))] [] M (fun v M' => P 146 59 [(0, .ref 36), (1, .int l1), (2, .int l2), (3, .int l3)] (v.toList ++ []) M' Q))) ∧ (¬ (s0 = 0) → (P 145 0 [(0, .ref 36), (1, .int (2 : Int32))] [] M (fun v M' => P 146 40 [(0, .ref 36), (1, .int l1), (2, .int l2), (4, .int (M.1 36 13))] (v.toList ++ []) M' Q))))) :
    P 146 33 [(0, .ref 36), (1, .int l1), (2, .int l2), (3, .int l3)] [.int s0] M Q := by
  exact qRun_ok hG (ops := qo_146) (cuts := qc_md_isItemWrong) rfl 100 33 _ _ _ _ hV
set_option maxRecDepth 100000 in
theorem v_md_isItemWrong_12 (hG : qGood Ls xs P) {l1 s0 : Int32} {M : qMem} {Q : qPost}
    (hV : (P 145 0 [(0, .ref 36), (1, .int (5 : Int32))] [] M (fun v M' => P 146 16 [(0, .ref 36), (1, .int l1), (3, .int s0)] (v.toList ++ []) M' Q))) :
    P 146 12 [(0, .ref 36), (1, .int l1)] [.int s0] M Q := by
  exact qRun_ok hG (ops := qo_146) (cuts := qc_md_isItemWrong) rfl 100 12 _ _ _ _ hV
set_option maxRecDepth 100000 in
theorem v_md_isItemWrong_59 (hG : qGood Ls xs P) {l1 l2 l3 s0 : Int32} {M : qMem} {Q : qPost}
    (hV : ((¬ s0 = 0 → ((((M.1 36 17) + l3) ≤ (64 : Int32) → (P 146 79 [(0, .ref 36), (2, .int l2), (3, .int l3), (4, .int (0 : Int32))] [] M Q)) ∧ (¬ (((M.1 36 17) + l3) ≤ (64 : Int32)) → (P 142 0 [(0, .ref 36), (1, .int (3 : Int32)), (2, .int l1)] [] M (fun v M' => P 146 76 [] (v.toList ++ []) M' Q))))) ∧ (¬ (¬ s0 = 0) → (P 142 0 [(0, .ref 36), (1, .int (1 : Int32)), (2, .int (M.1 36 13))] [] M (fun v M' => P 146 65 [] (v.toList ++ []) M' Q))))) :
    P 146 59 [(0, .ref 36), (1, .int l1), (2, .int l2), (3, .int l3)] [.int s0] M Q := by
  exact qRun_ok hG (ops := qo_146) (cuts := qc_md_isItemWrong) rfl 100 59 _ _ _ _ hV
set_option maxRecDepth 100000 in
theorem v_md_isItemWrong_40 (hG : qGood Ls xs P) {l1 l2 l4 s0 : Int32} {M : qMem} {Q : qPost}
    (hV : ((s0 = 0 → (P 89 0 [(0, .int (M.1 36 18)), (1, .int (1 : Int32)), (2, .int (64 : Int32))] [] M (fun v M' => P 146 50 [(0, .ref 36), (1, .int l1), (2, .int l2), (3, .int (M.1 36 18)), (4, .int l4)] (v.toList ++ []) M' Q))) ∧ (¬ (s0 = 0) → (narrow .boolean (.int (1 : Int32)) = .int (1 : Int32) ∧ Q (some (.int (1 : Int32))) M)))) :
    P 146 40 [(0, .ref 36), (1, .int l1), (2, .int l2), (4, .int l4)] [.int s0] M Q := by
  exact qRun_ok hG (ops := qo_146) (cuts := qc_md_isItemWrong) rfl 100 40 _ _ _ _ hV
set_option maxRecDepth 100000 in
theorem v_md_isItemWrong_16 (hG : qGood Ls xs P) {l1 l3 s0 : Int32} {M : qMem} {Q : qPost}
    (hV : ((s0 = 0 → ((l3 = 0 → (P 144 0 [(0, .ref 36), (1, .int (42 : Int32))] [] M (fun v M' => P 146 33 [(0, .ref 36), (1, .int l1), (2, .int (M.1 36 18)), (3, .int (1 : Int32))] (v.toList ++ []) M' Q))) ∧ (¬ (l3 = 0) → (P 144 0 [(0, .ref 36), (1, .int (42 : Int32))] [] M (fun v M' => P 146 33 [(0, .ref 36), (1, .int l1), (2, .int (-(M.1 36 18))), (3, .int (1 : Int32))] (v.toList ++ []) M' Q))))) ∧ (¬ (s0 = 0) → (narrow .boolean (.int (1 : Int32)) = .int (1 : Int32) ∧ Q (some (.int (1 : Int32))) M)))) :
    P 146 16 [(0, .ref 36), (1, .int l1), (3, .int l3)] [.int s0] M Q := by
  exact qRun_ok hG (ops := qo_146) (cuts := qc_md_isItemWrong) rfl 100 16 _ _ _ _ hV
set_option maxRecDepth 100000 in
theorem v_md_isItemWrong_79 (hG : qGood Ls xs P) {l2 l3 l4 : Int32} {M : qMem} {Q : qPost}
    (hV : ((l3 ≤ l4 → (narrow .boolean (.int (0 : Int32)) = .int (0 : Int32) ∧ Q (some (.int (0 : Int32))) M)) ∧ (¬ (l3 ≤ l4) → (vp_in (M.1 36 17) 64 ∧ (P 146 79 [(0, .ref 36), (2, .int l2), (3, .int l3), (4, .int (l4 + (1 : Int32)))] [] (pI (pI M 43 (M.1 36 17).toNatClampNeg l2) 36 17 ((M.1 36 17) + (1 : Int32))) Q))))) :
    P 146 79 [(0, .ref 36), (2, .int l2), (3, .int l3), (4, .int l4)] [] M Q := by
  exact qRun_ok hG (ops := qo_146) (cuts := qc_md_isItemWrong) rfl 100 79 _ _ _ _ hV
set_option maxRecDepth 100000 in
theorem v_md_isItemWrong_76 (hG : qGood Ls xs P) {s0 : Int32} {M : qMem} {Q : qPost}
    (hV : (narrow .boolean (.int s0) = .int s0 ∧ Q (some (.int s0)) M)) :
    P 146 76 [] [.int s0] M Q := by
  exact qRun_ok hG (ops := qo_146) (cuts := qc_md_isItemWrong) rfl 100 76 _ _ _ _ hV
set_option maxRecDepth 100000 in
theorem v_md_isItemWrong_65 (hG : qGood Ls xs P) {s0 : Int32} {M : qMem} {Q : qPost}
    (hV : (narrow .boolean (.int s0) = .int s0 ∧ Q (some (.int s0)) M)) :
    P 146 65 [] [.int s0] M Q := by
  exact qRun_ok hG (ops := qo_146) (cuts := qc_md_isItemWrong) rfl 100 65 _ _ _ _ hV
set_option maxRecDepth 100000 in
theorem v_md_isItemWrong_50 (hG : qGood Ls xs P) {l1 l2 l3 l4 s0 : Int32} {M : qMem} {Q : qPost}
    (hV : ((¬ s0 = 0 → (P 144 0 [(0, .ref 36), (1, .int (59 : Int32))] [] M (fun v M' => P 146 59 [(0, .ref 36), (1, .int l1), (2, .int l2), (3, .int l3)] (v.toList ++ []) M' Q))) ∧ (¬ (¬ s0 = 0) → (P 142 0 [(0, .ref 36), (1, .int (2 : Int32)), (2, .int l4)] [] M (fun v M' => P 146 55 [] (v.toList ++ []) M' Q))))) :
    P 146 50 [(0, .ref 36), (1, .int l1), (2, .int l2), (3, .int l3), (4, .int l4)] [.int s0] M Q := by
  exact qRun_ok hG (ops := qo_146) (cuts := qc_md_isItemWrong) rfl 100 50 _ _ _ _ hV
set_option maxRecDepth 100000 in
theorem v_md_isItemWrong_55 (hG : qGood Ls xs P) {s0 : Int32} {M : qMem} {Q : qPost}
    (hV : (narrow .boolean (.int s0) = .int s0 ∧ Q (some (.int s0)) M)) :
    P 146 55 [] [.int s0] M Q := by
  exact qRun_ok hG (ops := qo_146) (cuts := qc_md_isItemWrong) rfl 100 55 _ _ _ _ hV
def qc_md_load : List (Nat × List Nat) := [(6, [0]), (13, [0]), (26, [0]), (28, [0, 1])]
set_option maxRecDepth 100000 in
theorem v_md_load_0 (hG : qGood Ls xs P) {M : qMem} {Q : qPost}
    (hV : (P 147 6 [(0, .ref 36)] [] (pI (pI M 36 13 (0 : Int32)) 36 17 (0 : Int32)) Q)) :
    P 147 0 [(0, .ref 36)] [] M Q := by
  exact qRun_ok hG (ops := qo_147) (cuts := qc_md_load) rfl 53 0 _ _ _ _ hV
set_option maxRecDepth 100000 in
theorem v_md_load_6 (hG : qGood Ls xs P) {M : qMem} {Q : qPost}
    (hV : (((M.1 36 6) ≤ (M.1 36 13) → (P 93 0 [(0, .ref 36)] [] M (fun v M' => P 147 26 [(0, .ref 36)] (v.toList ++ []) M' Q))) ∧ (¬ ((M.1 36 6) ≤ (M.1 36 13)) → (P 146 0 [(0, .ref 36)] [] M (fun v M' => P 147 13 [(0, .ref 36)] (v.toList ++ []) M' Q))))) :
    P 147 6 [(0, .ref 36)] [] M Q := by
  exact qRun_ok hG (ops := qo_147) (cuts := qc_md_load) rfl 53 6 _ _ _ _ hV
set_option maxRecDepth 100000 in
theorem v_md_load_26 (hG : qGood Ls xs P) {M : qMem} {Q : qPost}
    (hV : (P 147 28 [(0, .ref 36), (1, .int (0 : Int32))] [] M Q)) :
    P 147 26 [(0, .ref 36)] [] M Q := by
  exact qRun_ok hG (ops := qo_147) (cuts := qc_md_load) rfl 53 26 _ _ _ _ hV
set_option maxRecDepth 100000 in
theorem v_md_load_13 (hG : qGood Ls xs P) {s0 : Int32} {M : qMem} {Q : qPost}
    (hV : ((s0 = 0 → (P 147 6 [(0, .ref 36)] [] M Q)) ∧ (¬ (s0 = 0) → Q (some (.int (-1000000003 : Int32))) (pI (pI M 36 7 (M.1 36 14)) 36 8 (M.1 36 15))))) :
    P 147 13 [(0, .ref 36)] [.int s0] M Q := by
  exact qRun_ok hG (ops := qo_147) (cuts := qc_md_load) rfl 53 13 _ _ _ _ hV
set_option maxRecDepth 100000 in
theorem v_md_load_28 (hG : qGood Ls xs P) {l1 : Int32} {M : qMem} {Q : qPost}
    (hV : (((M.1 36 17) ≤ l1 → (vp_in (64 : Int32) 65 ∧ Q (some (.int (M.1 36 17))) (pI M 37 (64 : Int32).toNatClampNeg (M.1 36 17)))) ∧ (¬ ((M.1 36 17) ≤ l1) → (vp_in l1 64 ∧ (vp_in l1 65 ∧ (P 147 28 [(0, .ref 36), (1, .int (l1 + (1 : Int32)))] [] (pI M 37 l1.toNatClampNeg (M.1 43 l1.toNatClampNeg)) Q)))))) :
    P 147 28 [(0, .ref 36), (1, .int l1)] [] M Q := by
  exact qRun_ok hG (ops := qo_147) (cuts := qc_md_load) rfl 53 28 _ _ _ _ hV
def qc_md_fault : List (Nat × List Nat) := []
theorem v_md_fault_0 (hG : qGood Ls xs P) {l1 : Int32} {M : qMem} {Q : qPost}
    (hV : ((¬ l1 = 0 → ((¬ l1 = (1 : Int32) → Q (some (.int (-1000000002 : Int32))) M) ∧ (¬ (¬ l1 = (1 : Int32)) → Q (some (.int (M.1 36 8))) M))) ∧ (¬ (¬ l1 = 0) → Q (some (.int (M.1 36 7))) M))) :
    P 148 0 [(0, .ref 36), (1, .int l1)] [] M Q := by
  exact qRun_ok hG (ops := qo_148) (cuts := qc_md_fault) rfl 15 0 _ _ _ _ hV
def qc_md_isImage : List (Nat × List Nat) := [(4, [])]
theorem v_md_isImage_0 (hG : qGood Ls xs P) {l0 : Int32} {M : qMem} {Q : qPost}
    (hV : (P 89 0 [(0, .int l0), (1, .int (0 : Int32)), (2, .int (1 : Int32))] [] M (fun v M' => P 149 4 [] (v.toList ++ []) M' Q))) :
    P 149 0 [(0, .int l0)] [] M Q := by
  exact qRun_ok hG (ops := qo_149) (cuts := qc_md_isImage) rfl 7 0 _ _ _ _ hV
theorem v_md_isImage_4 (hG : qGood Ls xs P) {s0 : Int32} {M : qMem} {Q : qPost}
    (hV : (narrow .boolean (.int s0) = .int s0 ∧ Q (some (.int s0)) M)) :
    P 149 4 [] [.int s0] M Q := by
  exact qRun_ok hG (ops := qo_149) (cuts := qc_md_isImage) rfl 7 4 _ _ _ _ hV
def qc_md_keep : List (Nat × List Nat) := [(2, [0, 1]), (7, [0, 1, 2]), (34, [])]
theorem v_md_keep_0 (hG : qGood Ls xs P) {l1 : Int32} {M : qMem} {Q : qPost}
    (hV : (P 149 0 [(0, .int l1)] [] M (fun v M' => P 150 2 [(0, .ref 36), (1, .int l1)] (v.toList ++ []) M' Q))) :
    P 150 0 [(0, .ref 36), (1, .int l1)] [] M Q := by
  exact qRun_ok hG (ops := qo_150) (cuts := qc_md_keep) rfl 37 0 _ _ _ _ hV
theorem v_md_keep_2 (hG : qGood Ls xs P) {l1 s0 : Int32} {M : qMem} {Q : qPost}
    (hV : ((¬ s0 = 0 → (P 150 7 [(0, .ref 36), (1, .int l1), (2, .int (0 : Int32))] [] M Q)) ∧ (¬ (¬ s0 = 0) → Q (some (.int (-1000000002 : Int32))) M))) :
    P 150 2 [(0, .ref 36), (1, .int l1)] [.int s0] M Q := by
  exact qRun_ok hG (ops := qo_150) (cuts := qc_md_keep) rfl 37 2 _ _ _ _ hV
theorem v_md_keep_7 (hG : qGood Ls xs P) {l1 l2 : Int32} {M : qMem} {Q : qPost}
    (hV : (((65 : Int32) ≤ l2 → (P 90 0 [(0, .ref 36)] [] (pI M 36 4 ((M.1 36 4) ||| ((1 : Int32) <<< (l1 &&& 31)))) (fun v M' => P 150 34 [] (v.toList ++ []) M' Q))) ∧ (¬ ((65 : Int32) ≤ l2) → (vp_in l2 65 ∧ (vp_in (((65 : Int32) * l1) + l2) 130 ∧ (P 150 7 [(0, .ref 36), (1, .int l1), (2, .int (l2 + (1 : Int32)))] [] (pI M 39 (((65 : Int32) * l1) + l2).toNatClampNeg (M.1 37 l2.toNatClampNeg)) Q)))))) :
    P 150 7 [(0, .ref 36), (1, .int l1), (2, .int l2)] [] M Q := by
  exact qRun_ok hG (ops := qo_150) (cuts := qc_md_keep) rfl 37 7 _ _ _ _ hV
theorem v_md_keep_34 (hG : qGood Ls xs P) {s0 : Int32} {M : qMem} {Q : qPost}
    (hV : Q (some (.int s0)) M) :
    P 150 34 [] [.int s0] M Q := by
  exact qRun_ok hG (ops := qo_150) (cuts := qc_md_keep) rfl 37 34 _ _ _ _ hV
def qc_md_back : List (Nat × List Nat) := [(2, [0, 1]), (16, [0, 1]), (18, [0, 1, 2]), (37, [])]
theorem v_md_back_0 (hG : qGood Ls xs P) {l1 : Int32} {M : qMem} {Q : qPost}
    (hV : (P 149 0 [(0, .int l1)] [] M (fun v M' => P 151 2 [(0, .ref 36), (1, .int l1)] (v.toList ++ []) M' Q))) :
    P 151 0 [(0, .ref 36), (1, .int l1)] [] M Q := by
  exact qRun_ok hG (ops := qo_151) (cuts := qc_md_back) rfl 40 0 _ _ _ _ hV
theorem v_md_back_2 (hG : qGood Ls xs P) {l1 s0 : Int32} {M : qMem} {Q : qPost}
    (hV : ((¬ s0 = 0 → ((¬ (((M.1 36 4) >>> (l1 &&& 31)) &&& (1 : Int32)) = 0 → (P 93 0 [(0, .ref 36)] [] M (fun v M' => P 151 16 [(0, .ref 36), (1, .int l1)] (v.toList ++ []) M' Q))) ∧ (¬ (¬ (((M.1 36 4) >>> (l1 &&& 31)) &&& (1 : Int32)) = 0) → Q (some (.int (-1000000003 : Int32))) M))) ∧ (¬ (¬ s0 = 0) → Q (some (.int (-1000000002 : Int32))) M))) :
    P 151 2 [(0, .ref 36), (1, .int l1)] [.int s0] M Q := by
  exact qRun_ok hG (ops := qo_151) (cuts := qc_md_back) rfl 40 2 _ _ _ _ hV
theorem v_md_back_16 (hG : qGood Ls xs P) {l1 : Int32} {M : qMem} {Q : qPost}
    (hV : (P 151 18 [(0, .ref 36), (1, .int l1), (2, .int (0 : Int32))] [] M Q)) :
    P 151 16 [(0, .ref 36), (1, .int l1)] [] M Q := by
  exact qRun_ok hG (ops := qo_151) (cuts := qc_md_back) rfl 40 16 _ _ _ _ hV
theorem v_md_back_18 (hG : qGood Ls xs P) {l1 l2 : Int32} {M : qMem} {Q : qPost}
    (hV : (((65 : Int32) ≤ l2 → (P 90 0 [(0, .ref 36)] [] M (fun v M' => P 151 37 [] (v.toList ++ []) M' Q))) ∧ (¬ ((65 : Int32) ≤ l2) → (vp_in (((65 : Int32) * l1) + l2) 130 ∧ (vp_in l2 65 ∧ (P 151 18 [(0, .ref 36), (1, .int l1), (2, .int (l2 + (1 : Int32)))] [] (pI M 37 l2.toNatClampNeg (M.1 39 (((65 : Int32) * l1) + l2).toNatClampNeg)) Q)))))) :
    P 151 18 [(0, .ref 36), (1, .int l1), (2, .int l2)] [] M Q := by
  exact qRun_ok hG (ops := qo_151) (cuts := qc_md_back) rfl 40 18 _ _ _ _ hV
theorem v_md_back_37 (hG : qGood Ls xs P) {s0 : Int32} {M : qMem} {Q : qPost}
    (hV : Q (some (.int s0)) M) :
    P 151 37 [] [.int s0] M Q := by
  exact qRun_ok hG (ops := qo_151) (cuts := qc_md_back) rfl 40 37 _ _ _ _ hV
end VC
