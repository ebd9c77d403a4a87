/-! what is to be shown, segment by segment: lw (printed by wip/genvc.py) -/
section VC
variable {Ls : Nat} {xs : Nat → Int32} {P : qSem}
def qc_lw_law : List (Nat × List Nat) := [(10, [0, 1, 2, 3]), (29, [0, 1, 2, 3]), (36, [0, 1, 2, 3]), (46, [0, 1, 2, 3]), (53, [0, 1, 2, 3]), (68, [0, 1, 2, 3]), (80, [0, 1, 2, 3]), (85, [0, 1, 2, 3]), (87, [0, 1, 2, 3]), (102, [0, 1, 2, 3]), (114, [0, 1, 2, 3]), (129, [0, 1, 2, 3]), (141, [0, 1, 2, 3]), (146, [0, 1, 2, 3]), (148, [0, 1, 2, 3]), (158, [0, 1, 2, 3]), (165, [0, 1, 2, 3]), (175, [0, 1, 2, 3]), (182, [0, 1, 2, 3]), (197, [0, 1, 2, 3]), (209, [0, 1, 2, 3]), (214, [0, 1, 2, 3]), (216, [0, 1, 2, 3]), (226, [0, 1, 2, 3]), (233, [0, 1, 2, 3]), (243, [0, 1, 2, 3]), (250, [0, 1, 2, 3]), (270, [0, 1, 2, 3]), (287, [0, 1, 2, 3]), (302, [0, 1, 2, 3]), (314, [0, 1, 2, 3]), (334, [0, 1, 2, 3]), (351, [0, 1, 2, 3]), (367, [0, 1, 2, 3]), (379, [0, 1, 2, 3]), (400, [0, 1, 2, 3]), (417, [0, 1, 2, 3]), (427, [0, 1, 2, 3]), (434, [0, 1, 2, 3]), (444, [0, 1, 2, 3]), (451, [0, 1, 2, 3]), (461, [0, 1, 2, 3]), (468, [0, 1, 2, 3]), (478, [0, 1, 2, 3]), (485, [0, 1, 2, 3]), (495, [0, 1, 2, 3]), (502, [0, 1, 2, 3]), (507, [0, 1, 2, 3]), (509, [0, 1, 2, 3]), (514, [0, 1, 2, 3]), (516, [0, 1, 2, 3]), (526, [0, 1, 2, 3]), (533, [0, 1, 2, 3]), (543, [0, 1, 2, 3]), (550, [0, 1, 2, 3]), (560, [0, 1, 2, 3]), (567, [0, 1, 2, 3])]
set_option maxRecDepth 100000 in
theorem v_lw_law_10 (hG : qGood Ls xs P) {l3 : Int32} {M : qMem} {Q : qPost}
    (hV : ((((Int32.ofNat Ls) - (4 : Int32)) < l3 → (narrow .boolean (.int (1 : Int32)) = .int (1 : Int32) ∧ Q (some (.int (1 : Int32))) M)) ∧ (¬ (((Int32.ofNat Ls) - (4 : Int32)) < l3) → (vp_in l3 Ls ∧ ((((xs l3.toNatClampNeg) &&& (31 : Int32)) = Int32.ofInt 0 → (vp_in (l3 + (1 : Int32)) Ls ∧ (P 44 0 [(0, .ref 0), (1, .int (xs (l3 + (1 : Int32)).toNatClampNeg))] [] M (fun v M' => P 155 29 [(0, .ref 1000), (1, .ref 0), (2, .ref 36), (3, .int l3)] (v.toList ++ []) M' Q)))) ∧ (¬ (((xs l3.toNatClampNeg) &&& (31 : Int32)) = Int32.ofInt 0) → ((((xs l3.toNatClampNeg) &&& (31 : Int32)) = Int32.ofInt 1 → (vp_in (l3 + (1 : Int32)) Ls ∧ (P 45 0 [(0, .ref 0), (1, .int (xs (l3 + (1 : Int32)).toNatClampNeg))] [] M (fun v M' => P 155 46 [(0, .ref 1000), (1, .ref 0), (2, .ref 36), (3, .int l3)] (v.toList ++ []) M' Q)))) ∧ (¬ (((xs l3.toNatClampNeg) &&& (31 : Int32)) = Int32.ofInt 1) → ((((xs l3.toNatClampNeg) &&& (31 : Int32)) = Int32.ofInt 2 → (vp_in (l3 + (1 : Int32)) Ls ∧ (vp_in (l3 + (2 : Int32)) Ls ∧ (P 46 0 [(0, .ref 0), (1, .int (xs (l3 + (1 : Int32)).toNatClampNeg)), (2, .int (xs (l3 + (2 : Int32)).toNatClampNeg))] [] M (fun v M' => P 155 68 [(0, .ref 1000), (1, .ref 0), (2, .ref 36), (3, .int l3)] (v.toList ++ []) M' Q))))) ∧ (¬ (((xs l3.toNatClampNeg) &&& (31 : Int32)) = Int32.ofInt 2) → ((((xs l3.toNatClampNeg) &&& (31 : Int32)) = Int32.ofInt 3 → (P 47 0 [(0, .ref 0)] [] M (fun v M' => P 155 85 [(0, .ref 1000), (1, .ref 0), (2, .ref 36), (3, .int l3)] (v.toList ++ []) M' Q))) ∧ (¬ (((xs l3.toNatClampNeg) &&& (31 : Int32)) = Int32.ofInt 3) → ((((xs l3.toNatClampNeg) &&& (31 : Int32)) = Int32.ofInt 4 → (vp_in (l3 + (1 : Int32)) Ls ∧ (vp_in (l3 + (2 : Int32)) Ls ∧ (P 48 0 [(0, .ref 0), (1, .int (xs (l3 + (1 : Int32)).toNatClampNeg)), (2, .int (xs (l3 + (2 : Int32)).toNatClampNeg))] [] M (fun v M' => P 155 102 [(0, .ref 1000), (1, .ref 0), (2, .ref 36), (3, .int l3)] (v.toList ++ []) M' Q))))) ∧ (¬ (((xs l3.toNatClampNeg) &&& (31 : Int32)) = Int32.ofInt 4) → ((((xs l3.toNatClampNeg) &&& (31 : Int32)) = Int32.ofInt 5 → (vp_in (l3 + (1 : Int32)) Ls ∧ (vp_in (l3 + (2 : Int32)) Ls ∧ (P 49 0 [(0, .ref 0), (1, .int (xs (l3 + (1 : Int32)).toNatClampNeg)), (2, .int (xs (l3 + (2 : Int32)).toNatClampNeg))] [] M (fun v M' => P 155 129 [(0, .ref 1000), (1, .ref 0), (2, .ref 36), (3, .int l3)] (v.toList ++ []) M' Q))))) ∧ (¬ (((xs l3.toNatClampNeg) &&& (31 : Int32)) = Int32.ofInt 5) → ((((xs l3.toNatClampNeg) &&& (31 : Int32)) = Int32.ofInt 6 → (P 50 0 [(0, .ref 0)] [] M (fun v M' => P 155 146 [(0, .ref 1000), (1, .ref 0), (2, .ref 36), (3, .int l3)] (v.toList ++ []) M' Q))) ∧ (¬ (((xs l3.toNatClampNeg) &&& (31 : Int32)) = Int32.ofInt 6) → ((((xs l3.toNatClampNeg) &&& (31 : Int32)) = Int32.ofInt 7 → (vp_in (l3 + (1 : Int32)) Ls ∧ (P 51 0 [(0, .ref 0), (1, .int (xs (l3 + (1 : Int32)).toNatClampNeg))] [] M (fun v M' => P 155 158 [(0, .ref 1000), (1, .ref 0), (2, .ref 36), (3, .int l3)] (v.toList ++ []) M' Q)))) ∧ (¬ (((xs l3.toNatClampNeg) &&& (31 : Int32)) = Int32.ofInt 7) → ((((xs l3.toNatClampNeg) &&& (31 : Int32)) = Int32.ofInt 8 → (vp_in (l3 + (1 : Int32)) Ls ∧ (P 52 0 [(0, .ref 0), (1, .int (xs (l3 + (1 : Int32)).toNatClampNeg))] [] M (fun v M' => P 155 175 [(0, .ref 1000), (1, .ref 0), (2, .ref 36), (3, .int l3)] (v.toList ++ []) M' Q)))) ∧ (¬ (((xs l3.toNatClampNeg) &&& (31 : Int32)) = Int32.ofInt 8) → ((((xs l3.toNatClampNeg) &&& (31 : Int32)) = Int32.ofInt 9 → (vp_in (l3 + (1 : Int32)) Ls ∧ (vp_in (l3 + (2 : Int32)) Ls ∧ (P 53 0 [(0, .ref 0), (1, .int (xs (l3 + (1 : Int32)).toNatClampNeg)), (2, .int (xs (l3 + (2 : Int32)).toNatClampNeg))] [] M (fun v M' => P 155 197 [(0, .ref 1000), (1, .ref 0), (2, .ref 36), (3, .int l3)] (v.toList ++ []) M' Q))))) ∧ (¬ (((xs l3.toNatClampNeg) &&& (31 : Int32)) = Int32.ofInt 9) → ((((xs l3.toNatClampNeg) &&& (31 : Int32)) = Int32.ofInt 10 → (P 54 0 [(0, .ref 0)] [] M (fun v M' => P 155 214 [(0, .ref 1000), (1, .ref 0), (2, .ref 36), (3, .int l3)] (v.toList ++ []) M' Q))) ∧ (¬ (((xs l3.toNatClampNeg) &&& (31 : Int32)) = Int32.ofInt 10) → ((((xs l3.toNatClampNeg) &&& (31 : Int32)) = Int32.ofInt 11 → (vp_in (l3 + (1 : Int32)) Ls ∧ (P 55 0 [(0, .ref 0), (1, .int (xs (l3 + (1 : Int32)).toNatClampNeg))] [] M (fun v M' => P 155 226 [(0, .ref 1000), (1, .ref 0), (2, .ref 36), (3, .int l3)] (v.toList ++ []) M' Q)))) ∧ (¬ (((xs l3.toNatClampNeg) &&& (31 : Int32)) = Int32.ofInt 11) → ((((xs l3.toNatClampNeg) &&& (31 : Int32)) = Int32.ofInt 12 → (vp_in (l3 + (1 : Int32)) Ls ∧ (P 56 0 [(0, .ref 0), (1, .int (xs (l3 + (1 : Int32)).toNatClampNeg))] [] M (fun v M' => P 155 243 [(0, .ref 1000), (1, .ref 0), (2, .ref 36), (3, .int l3)] (v.toList ++ []) M' Q)))) ∧ (¬ (((xs l3.toNatClampNeg) &&& (31 : Int32)) = Int32.ofInt 12) → ((((xs l3.toNatClampNeg) &&& (31 : Int32)) = Int32.ofInt 13 → (vp_in (l3 + (1 : Int32)) Ls ∧ (vp_in (l3 + (2 : Int32)) Ls ∧ (vp_in (l3 + (3 : Int32)) Ls ∧ (P 57 0 [(0, .ref 0), (1, .int (xs (l3 + (1 : Int32)).toNatClampNeg)), (2, .int (xs (l3 + (2 : Int32)).toNatClampNeg)), (3, .int (xs (l3 + (3 : Int32)).toNatClampNeg))] [] M (fun v M' => P 155 270 [(0, .ref 1000), (1, .ref 0), (2, .ref 36), (3, .int l3)] (v.toList ++ []) M' Q)))))) ∧ (¬ (((xs l3.toNatClampNeg) &&& (31 : Int32)) = Int32.ofInt 13) → ((((xs l3.toNatClampNeg) &&& (31 : Int32)) = Int32.ofInt 14 → (vp_in (l3 + (1 : Int32)) Ls ∧ (vp_in (l3 + (2 : Int32)) Ls ∧ (P 58 0 [(0, .ref 0), (1, .int (xs (l3 + (1 : Int32)).toNatClampNeg)), (2, .int (xs (l3 + (2 : Int32)).toNatClampNeg))] [] M (fun v M' => P 155 302 [(0, .ref 1000), (1, .ref 0), (2, .ref 36), (3, .int l3)] (v.toList ++ []) M' Q))))) ∧ (¬ (((xs l3.toNatClampNeg) &&& (31 : Int32)) = Int32.ofInt 14) → ((((xs l3.toNatClampNeg) &&& (31 : Int32)) = Int32.ofInt 15 → (vp_in (l3 + (1 : Int32)) Ls ∧ (vp_in (l3 + (2 : Int32)) Ls ∧ (vp_in (l3 + (3 : Int32)) Ls ∧ (P 59 0 [(0, .ref 0), (1, .int (xs (l3 + (1 : Int32)).toNatClampNeg)), (2, .int (xs (l3 + (2 : Int32)).toNatClampNeg)), (3, .int (xs (l3 + (3 : Int32)).toNatClampNeg))] [] M (fun v M' => P 155 334 [(0, .ref 1000), (1, .ref 0), (2, .ref 36), (3, .int l3)] (v.toList ++ []) M' Q)))))) ∧ (¬ (((xs l3.toNatClampNeg) &&& (31 : Int32)) = Int32.ofInt 15) → ((((xs l3.toNatClampNeg) &&& (31 : Int32)) = Int32.ofInt 16 → (vp_in (l3 + (1 : Int32)) Ls ∧ (vp_in (l3 + (2 : Int32)) Ls ∧ (P 60 0 [(0, .ref 0), (1, .int (xs (l3 + (1 : Int32)).toNatClampNeg)), (2, .int (xs (l3 + (2 : Int32)).toNatClampNeg))] [] M (fun v M' => P 155 367 [(0, .ref 1000), (1, .ref 0), (2, .ref 36), (3, .int l3)] (v.toList ++ []) M' Q))))) ∧ (¬ (((xs l3.toNatClampNeg) &&& (31 : Int32)) = Int32.ofInt 16) → ((((xs l3.toNatClampNeg) &&& (31 : Int32)) = Int32.ofInt 17 → (vp_in (l3 + (1 : Int32)) Ls ∧ (vp_in (l3 + (2 : Int32)) Ls ∧ (vp_in (l3 + (3 : Int32)) Ls ∧ (P 61 0 [(0, .ref 0), (1, .int (xs (l3 + (1 : Int32)).toNatClampNeg)), (2, .int (xs (l3 + (2 : Int32)).toNatClampNeg)), (3, .int (xs (l3 + (3 : Int32)).toNatClampNeg))] [] M (fun v M' => P 155 400 [(0, .ref 1000), (1, .ref 0), (2, .ref 36), (3, .int l3)] (v.toList ++ []) M' Q)))))) ∧ (¬ (((xs l3.toNatClampNeg) &&& (31 : Int32)) = Int32.ofInt 17) → ((((xs l3.toNatClampNeg) &&& (31 : Int32)) = Int32.ofInt 18 → (vp_in (l3 + (1 : Int32)) Ls ∧ (P 62 0 [(0, .ref 0), (1, .int (xs (l3 + (1 : Int32)).toNatClampNeg))] [] M (fun v M' => P 155 427 [(0, .ref 1000), (1, .ref 0), (2, .ref 36), (3, .int l3)] (v.toList ++ []) M' Q)))) ∧ (¬ (((xs l3.toNatClampNeg) &&& (31 : Int32)) = Int32.ofInt 18) → ((((xs l3.toNatClampNeg) &&& (31 : Int32)) = Int32.ofInt 19 → (vp_in (l3 + (1 : Int32)) Ls ∧ (P 63 0 [(0, .ref 0), (1, .int (xs (l3 + (1 : Int32)).toNatClampNeg))] [] M (fun v M' => P 155 444 [(0, .ref 1000), (1, .ref 0), (2, .ref 36), (3, .int l3)] (v.toList ++ []) M' Q)))) ∧ (¬ (((xs l3.toNatClampNeg) &&& (31 : Int32)) = Int32.ofInt 19) → ((((xs l3.toNatClampNeg) &&& (31 : Int32)) = Int32.ofInt 20 → (vp_in (l3 + (1 : Int32)) Ls ∧ (P 64 0 [(0, .ref 0), (1, .int (xs (l3 + (1 : Int32)).toNatClampNeg))] [] M (fun v M' => P 155 461 [(0, .ref 1000), (1, .ref 0), (2, .ref 36), (3, .int l3)] (v.toList ++ []) M' Q)))) ∧ (¬ (((xs l3.toNatClampNeg) &&& (31 : Int32)) = Int32.ofInt 20) → ((((xs l3.toNatClampNeg) &&& (31 : Int32)) = Int32.ofInt 21 → (vp_in (l3 + (1 : Int32)) Ls ∧ (P 65 0 [(0, .ref 0), (1, .int (xs (l3 + (1 : Int32)).toNatClampNeg))] [] M (fun v M' => P 155 478 [(0, .ref 1000), (1, .ref 0), (2, .ref 36), (3, .int l3)] (v.toList ++ []) M' Q)))) ∧ (¬ (((xs l3.toNatClampNeg) &&& (31 : Int32)) = Int32.ofInt 21) → ((((xs l3.toNatClampNeg) &&& (31 : Int32)) = Int32.ofInt 22 → (vp_in (l3 + (1 : Int32)) Ls ∧ (P 66 0 [(0, .ref 0), (1, .int (xs (l3 + (1 : Int32)).toNatClampNeg))] [] M (fun v M' => P 155 495 [(0, .ref 1000), (1, .ref 0), (2, .ref 36), (3, .int l3)] (v.toList ++ []) M' Q)))) ∧ (¬ (((xs l3.toNatClampNeg) &&& (31 : Int32)) = Int32.ofInt 22) → ((((xs l3.toNatClampNeg) &&& (31 : Int32)) = Int32.ofInt 23 → (P 67 0 [(0, .ref 0)] [] M (fun v M' => P 155 507 [(0, .ref 1000), (1, .ref 0), (2, .ref 36), (3, .int l3)] (v.toList ++ []) M' Q))) ∧ (¬ (((xs l3.toNatClampNeg) &&& (31 : Int32)) = Int32.ofInt 23) → ((((xs l3.toNatClampNeg) &&& (31 : Int32)) = Int32.ofInt 24 → (P 68 0 [(0, .ref 0)] [] M (fun v M' => P 155 514 [(0, .ref 1000), (1, .ref 0), (2, .ref 36), (3, .int l3)] (v.toList ++ []) M' Q))) ∧ (¬ (((xs l3.toNatClampNeg) &&& (31 : Int32)) = Int32.ofInt 24) → ((((xs l3.toNatClampNeg) &&& (31 : Int32)) = Int32.ofInt 25 → (vp_in (l3 + (1 : Int32)) Ls ∧ (P 69 0 [(0, .ref 0), (1, .int (xs (l3 + (1 : Int32)).toNatClampNeg))] [] M (fun v M' => P 155 526 [(0, .ref 1000), (1, .ref 0), (2, .ref 36), (3, .int l3)] (v.toList ++ []) M' Q)))) ∧ (¬ (((xs l3.toNatClampNeg) &&& (31 : Int32)) = Int32.ofInt 25) → ((((xs l3.toNatClampNeg) &&& (31 : Int32)) = Int32.ofInt 26 → (vp_in (l3 + (1 : Int32)) Ls ∧ (P 70 0 [(0, .ref 0), (1, .int (xs (l3 + (1 : Int32)).toNatClampNeg))] [] M (fun v M' => P 155 543 [(0, .ref 1000), (1, .ref 0), (2, .ref 36), (3, .int l3)] (v.toList ++ []) M' Q)))) ∧ (¬ (((xs l3.toNatClampNeg) &&& (31 : Int32)) = Int32.ofInt 26) → ((((xs l3.toNatClampNeg) &&& (31 : Int32)) = Int32.ofInt 27 → (vp_in (l3 + (1 : Int32)) Ls ∧ (P 71 0 [(0, .ref 0), (1, .int (xs (l3 + (1 : Int32)).toNatClampNeg))] [] M (fun v M' => P 155 560 [(0, .ref 1000), (1, .ref 0), (2, .ref 36), (3, .int l3)] (v.toList ++ []) M' Q)))) ∧ (¬ (((xs l3.toNatClampNeg) &&& (31 : Int32)) = Int32.ofInt 27) → (P 155 10 [(0, .ref 1000), (1, .ref 0), (2, .ref 36), (3, .int (l3 + (4 : Int32)))] [] M Q))))))))))))))))))))))))))))))))))))))))))))))))))))))))))))) :
    P 155 10 [(0, .ref 1000), (1, .ref 0), (2, .ref 36), (3, .int l3)] [] M Q := by
  exact qRun_ok hG (ops := qo_155) (cuts := qc_lw_law) rfl 576 10 _ _ _ _ hV
set_option maxRecDepth 100000 in
theorem v_lw_law_560 (hG : qGood Ls xs P) {l3 s0 : Int32} {M : qMem} {Q : qPost}
    (hV : (vp_in (l3 + (1 : Int32)) Ls ∧ (P 151 0 [(0, .ref 36), (1, .int (xs (l3 + (1 : Int32)).toNatClampNeg))] [] M (fun v M' => P 155 567 [(0, .ref 1000), (1, .ref 0), (2, .ref 36), (3, .int l3)] (v.toList ++ [.int s0]) M' Q)))) :
    P 155 560 [(0, .ref 1000), (1, .ref 0), (2, .ref 36), (3, .int l3)] [.int s0] M Q := by
  exact qRun_ok hG (ops := qo_155) (cuts := qc_lw_law) rfl 576 560 _ _ _ _ hV
set_option maxRecDepth 100000 in
theorem v_lw_law_543 (hG : qGood Ls xs P) {l3 s0 : Int32} {M : qMem} {Q : qPost}
    (hV : (vp_in (l3 + (1 : Int32)) Ls ∧ (P 150 0 [(0, .ref 36), (1, .int (xs (l3 + (1 : Int32)).toNatClampNeg))] [] M (fun v M' => P 155 550 [(0, .ref 1000), (1, .ref 0), (2, .ref 36), (3, .int l3)] (v.toList ++ [.int s0]) M' Q)))) :
    P 155 543 [(0, .ref 1000), (1, .ref 0), (2, .ref 36), (3, .int l3)] [.int s0] M Q := by
  exact qRun_ok hG (ops := qo_155) (cuts := qc_lw_law) rfl 576 543 _ _ _ _ hV
set_option maxRecDepth 100000 in
theorem v_lw_law_526 (hG : qGood Ls xs P) {l3 s0 : Int32} {M : qMem} {Q : qPost}
    (hV : (vp_in (l3 + (1 : Int32)) Ls ∧ (P 148 0 [(0, .ref 36), (1, .int (xs (l3 + (1 : Int32)).toNatClampNeg))] [] M (fun v M' => P 155 533 [(0, .ref 1000), (1, .ref 0), (2, .ref 36), (3, .int l3)] (v.toList ++ [.int s0]) M' Q)))) :
    P 155 526 [(0, .ref 1000), (1, .ref 0), (2, .ref 36), (3, .int l3)] [.int s0] M Q := by
  exact qRun_ok hG (ops := qo_155) (cuts := qc_lw_law) rfl 576 526 _ _ _ _ hV
set_option maxRecDepth 100000 in
theorem v_lw_law_514 (hG : qGood Ls xs P) {l3 s0 : Int32} {M : qMem} {Q : qPost}
    (hV : (P 147 0 [(0, .ref 36)] [] M (fun v M' => P 155 516 [(0, .ref 1000), (1, .ref 0), (2, .ref 36), (3, .int l3)] (v.toList ++ [.int s0]) M' Q))) :
    P 155 514 [(0, .ref 1000), (1, .ref 0), (2, .ref 36), (3, .int l3)] [.int s0] M Q := by
  exact qRun_ok hG (ops := qo_155) (cuts := qc_lw_law) rfl 576 514 _ _ _ _ hV
set_option maxRecDepth 100000 in
theorem v_lw_law_507 (hG : qGood Ls xs P) {l3 s0 : Int32} {M : qMem} {Q : qPost}
    (hV : (P 141 0 [(0, .ref 36)] [] M (fun v M' => P 155 509 [(0, .ref 1000), (1, .ref 0), (2, .ref 36), (3, .int l3)] (v.toList ++ [.int s0]) M' Q))) :
    P 155 507 [(0, .ref 1000), (1, .ref 0), (2, .ref 36), (3, .int l3)] [.int s0] M Q := by
  exact qRun_ok hG (ops := qo_155) (cuts := qc_lw_law) rfl 576 507 _ _ _ _ hV
set_option maxRecDepth 100000 in
theorem v_lw_law_495 (hG : qGood Ls xs P) {l3 s0 : Int32} {M : qMem} {Q : qPost}
    (hV : (vp_in (l3 + (1 : Int32)) Ls ∧ (P 140 0 [(0, .ref 36), (1, .int (xs (l3 + (1 : Int32)).toNatClampNeg))] [] M (fun v M' => P 155 502 [(0, .ref 1000), (1, .ref 0), (2, .ref 36), (3, .int l3)] (v.toList ++ [.int s0]) M' Q)))) :
    P 155 495 [(0, .ref 1000), (1, .ref 0), (2, .ref 36), (3, .int l3)] [.int s0] M Q := by
  exact qRun_ok hG (ops := qo_155) (cuts := qc_lw_law) rfl 576 495 _ _ _ _ hV
set_option maxRecDepth 100000 in
theorem v_lw_law_478 (hG : qGood Ls xs P) {l3 s0 : Int32} {M : qMem} {Q : qPost}
    (hV : (vp_in (l3 + (1 : Int32)) Ls ∧ (P 139 0 [(0, .ref 36), (1, .int (xs (l3 + (1 : Int32)).toNatClampNeg))] [] M (fun v M' => P 155 485 [(0, .ref 1000), (1, .ref 0), (2, .ref 36), (3, .int l3)] (v.toList ++ [.int s0]) M' Q)))) :
    P 155 478 [(0, .ref 1000), (1, .ref 0), (2, .ref 36), (3, .int l3)] [.int s0] M Q := by
  exact qRun_ok hG (ops := qo_155) (cuts := qc_lw_law) rfl 576 478 _ _ _ _ hV
set_option maxRecDepth 100000 in
theorem v_lw_law_461 (hG : qGood Ls xs P) {l3 s0 : Int32} {M : qMem} {Q : qPost}
    (hV : (vp_in (l3 + (1 : Int32)) Ls ∧ (P 138 0 [(0, .ref 36), (1, .int (xs (l3 + (1 : Int32)).toNatClampNeg))] [] M (fun v M' => P 155 468 [(0, .ref 1000), (1, .ref 0), (2, .ref 36), (3, .int l3)] (v.toList ++ [.int s0]) M' Q)))) :
    P 155 461 [(0, .ref 1000), (1, .ref 0), (2, .ref 36), (3, .int l3)] [.int s0] M Q := by
  exact qRun_ok hG (ops := qo_155) (cuts := qc_lw_law) rfl 576 461 _ _ _ _ hV
set_option maxRecDepth 100000 in
theorem v_lw_law_444 (hG : qGood Ls xs P) {l3 s0 : Int32} {M : qMem} {Q : qPost}
    (hV : (vp_in (l3 + (1 : Int32)) Ls ∧ (P 137 0 [(0, .ref 36), (1, .int (xs (l3 + (1 : Int32)).toNatClampNeg))] [] M (fun v M' => P 155 451 [(0, .ref 1000), (1, .ref 0), (2, .ref 36), (3, .int l3)] (v.toList ++ [.int s0]) M' Q)))) :
    P 155 444 [(0, .ref 1000), (1, .ref 0), (2, .ref 36), (3, .int l3)] [.int s0] M Q := by
  exact qRun_ok hG (ops := qo_155) (cuts := qc_lw_law) rfl 576 444 _ _ _ _ hV
set_option maxRecDepth 100000 in
theorem v_lw_law_427 (hG : qGood Ls xs P) {l3 s0 : Int32} {M : qMem} {Q : qPost}
    (hV : (vp_in (l3 + (1 : Int32)) Ls ∧ (P 135 0 [(0, .ref 36), (1, .int (xs (l3 + (1 : Int32)).toNatClampNeg))] [] M (fun v M' => P 155 434 [(0, .ref 1000), (1, .ref 0), (2, .ref 36), (3, .int l3)] (v.toList ++ [.int s0]) M' Q)))) :
    P 155 427 [(0, .ref 1000), (1, .ref 0), (2, .ref 36), (3, .int l3)] [.int s0] M Q := by
  exact qRun_ok hG (ops := qo_155) (cuts := qc_lw_law) rfl 576 427 _ _ _ _ hV
set_option maxRecDepth 100000 in
theorem v_lw_law_400 (hG : qGood Ls xs P) {l3 s0 : Int32} {M : qMem} {Q : qPost}
    (hV : (vp_in (l3 + (1 : Int32)) Ls ∧ (vp_in (l3 + (2 : Int32)) Ls ∧ (vp_in (l3 + (3 : Int32)) Ls ∧ (P 134 0 [(0, .ref 36), (1, .int (xs (l3 + (1 : Int32)).toNatClampNeg)), (2, .int (xs (l3 + (2 : Int32)).toNatClampNeg)), (3, .int (xs (l3 + (3 : Int32)).toNatClampNeg))] [] M (fun v M' => P 155 417 [(0, .ref 1000), (1, .ref 0), (2, .ref 36), (3, .int l3)] (v.toList ++ [.int s0]) M' Q)))))) :
    P 155 400 [(0, .ref 1000), (1, .ref 0), (2, .ref 36), (3, .int l3)] [.int s0] M Q := by
  exact qRun_ok hG (ops := qo_155) (cuts := qc_lw_law) rfl 576 400 _ _ _ _ hV
set_option maxRecDepth 100000 in
theorem v_lw_law_367 (hG : qGood Ls xs P) {s0 : Int64} {l3 : Int32} {M : qMem} {Q : qPost}
    (hV : (vp_in (l3 + (1 : Int32)) Ls ∧ (vp_in (l3 + (2 : Int32)) Ls ∧ (P 131 0 [(0, .ref 36), (1, .int (xs (l3 + (1 : Int32)).toNatClampNeg)), (2, .int (xs (l3 + (2 : Int32)).toNatClampNeg))] [] M (fun v M' => P 155 379 [(0, .ref 1000), (1, .ref 0), (2, .ref 36), (3, .int l3)] (v.toList ++ [.long s0]) M' Q))))) :
    P 155 367 [(0, .ref 1000), (1, .ref 0), (2, .ref 36), (3, .int l3)] [.long s0] M Q := by
  exact qRun_ok hG (ops := qo_155) (cuts := qc_lw_law) rfl 576 367 _ _ _ _ hV
set_option maxRecDepth 100000 in
theorem v_lw_law_334 (hG : qGood Ls xs P) {s0 : Int64} {l3 : Int32} {M : qMem} {Q : qPost}
    (hV : (vp_in (l3 + (1 : Int32)) Ls ∧ (vp_in (l3 + (2 : Int32)) Ls ∧ (vp_in (l3 + (3 : Int32)) Ls ∧ (P 130 0 [(0, .ref 36), (1, .int (xs (l3 + (1 : Int32)).toNatClampNeg)), (2, .int (xs (l3 + (2 : Int32)).toNatClampNeg)), (3, .int (xs (l3 + (3 : Int32)).toNatClampNeg))] [] M (fun v M' => P 155 351 [(0, .ref 1000), (1, .ref 0), (2, .ref 36), (3, .int l3)] (v.toList ++ [.long s0]) M' Q)))))) :
    P 155 334 [(0, .ref 1000), (1, .ref 0), (2, .ref 36), (3, .int l3)] [.long s0] M Q := by
  exact qRun_ok hG (ops := qo_155) (cuts := qc_lw_law) rfl 576 334 _ _ _ _ hV
set_option maxRecDepth 100000 in
theorem v_lw_law_302 (hG : qGood Ls xs P) {l3 s0 : Int32} {M : qMem} {Q : qPost}
    (hV : (vp_in (l3 + (1 : Int32)) Ls ∧ (vp_in (l3 + (2 : Int32)) Ls ∧ (P 126 0 [(0, .ref 36), (1, .int (xs (l3 + (1 : Int32)).toNatClampNeg)), (2, .int (xs (l3 + (2 : Int32)).toNatClampNeg))] [] M (fun v M' => P 155 314 [(0, .ref 1000), (1, .ref 0), (2, .ref 36), (3, .int l3)] (v.toList ++ [.int s0]) M' Q))))) :
    P 155 302 [(0, .ref 1000), (1, .ref 0), (2, .ref 36), (3, .int l3)] [.int s0] M Q := by
  exact qRun_ok hG (ops := qo_155) (cuts := qc_lw_law) rfl 576 302 _ _ _ _ hV
set_option maxRecDepth 100000 in
theorem v_lw_law_270 (hG : qGood Ls xs P) {l3 s0 : Int32} {M : qMem} {Q : qPost}
    (hV : (vp_in (l3 + (1 : Int32)) Ls ∧ (vp_in (l3 + (2 : Int32)) Ls ∧ (vp_in (l3 + (3 : Int32)) Ls ∧ (P 124 0 [(0, .ref 36), (1, .int (xs (l3 + (1 : Int32)).toNatClampNeg)), (2, .int (xs (l3 + (2 : Int32)).toNatClampNeg)), (3, .int (xs (l3 + (3 : Int32)).toNatClampNeg))] [] M (fun v M' => P 155 287 [(0, .ref 1000), (1, .ref 0), (2, .ref 36), (3, .int l3)] (v.toList ++ [.int s0]) M' Q)))))) :
    P 155 270 [(0, .ref 1000), (1, .ref 0), (2, .ref 36), (3, .int l3)] [.int s0] M Q := by
  exact qRun_ok hG (ops := qo_155) (cuts := qc_lw_law) rfl 576 270 _ _ _ _ hV
set_option maxRecDepth 100000 in
theorem v_lw_law_243 (hG : qGood Ls xs P) {l3 s0 : Int32} {M : qMem} {Q : qPost}
    (hV : (vp_in (l3 + (1 : Int32)) Ls ∧ (P 118 0 [(0, .ref 36), (1, .int (xs (l3 + (1 : Int32)).toNatClampNeg))] [] M (fun v M' => P 155 250 [(0, .ref 1000), (1, .ref 0), (2, .ref 36), (3, .int l3)] (v.toList ++ [.int s0]) M' Q)))) :
    P 155 243 [(0, .ref 1000), (1, .ref 0), (2, .ref 36), (3, .int l3)] [.int s0] M Q := by
  exact qRun_ok hG (ops := qo_155) (cuts := qc_lw_law) rfl 576 243 _ _ _ _ hV
set_option maxRecDepth 100000 in
theorem v_lw_law_226 (hG : qGood Ls xs P) {l3 s0 : Int32} {M : qMem} {Q : qPost}
    (hV : (vp_in (l3 + (1 : Int32)) Ls ∧ (P 117 0 [(0, .ref 36), (1, .int (xs (l3 + (1 : Int32)).toNatClampNeg))] [] M (fun v M' => P 155 233 [(0, .ref 1000), (1, .ref 0), (2, .ref 36), (3, .int l3)] (v.toList ++ [.int s0]) M' Q)))) :
    P 155 226 [(0, .ref 1000), (1, .ref 0), (2, .ref 36), (3, .int l3)] [.int s0] M Q := by
  exact qRun_ok hG (ops := qo_155) (cuts := qc_lw_law) rfl 576 226 _ _ _ _ hV
set_option maxRecDepth 100000 in
theorem v_lw_law_214 (hG : qGood Ls xs P) {l3 s0 : Int32} {M : qMem} {Q : qPost}
    (hV : (P 112 0 [(0, .ref 36)] [] M (fun v M' => P 155 216 [(0, .ref 1000), (1, .ref 0), (2, .ref 36), (3, .int l3)] (v.toList ++ [.int s0]) M' Q))) :
    P 155 214 [(0, .ref 1000), (1, .ref 0), (2, .ref 36), (3, .int l3)] [.int s0] M Q := by
  exact qRun_ok hG (ops := qo_155) (cuts := qc_lw_law) rfl 576 214 _ _ _ _ hV
set_option maxRecDepth 100000 in
theorem v_lw_law_197 (hG : qGood Ls xs P) {l3 s0 : Int32} {M : qMem} {Q : qPost}
    (hV : (vp_in (l3 + (1 : Int32)) Ls ∧ (vp_in (l3 + (2 : Int32)) Ls ∧ (P 111 0 [(0, .ref 36), (1, .int (xs (l3 + (1 : Int32)).toNatClampNeg)), (2, .int (xs (l3 + (2 : Int32)).toNatClampNeg))] [] M (fun v M' => P 155 209 [(0, .ref 1000), (1, .ref 0), (2, .ref 36), (3, .int l3)] (v.toList ++ [.int s0]) M' Q))))) :
    P 155 197 [(0, .ref 1000), (1, .ref 0), (2, .ref 36), (3, .int l3)] [.int s0] M Q := by
  exact qRun_ok hG (ops := qo_155) (cuts := qc_lw_law) rfl 576 197 _ _ _ _ hV
set_option maxRecDepth 100000 in
theorem v_lw_law_175 (hG : qGood Ls xs P) {l3 s0 : Int32} {M : qMem} {Q : qPost}
    (hV : (vp_in (l3 + (1 : Int32)) Ls ∧ (P 110 0 [(0, .ref 36), (1, .int (xs (l3 + (1 : Int32)).toNatClampNeg))] [] M (fun v M' => P 155 182 [(0, .ref 1000), (1, .ref 0), (2, .ref 36), (3, .int l3)] (v.toList ++ [.int s0]) M' Q)))) :
    P 155 175 [(0, .ref 1000), (1, .ref 0), (2, .ref 36), (3, .int l3)] [.int s0] M Q := by
  exact qRun_ok hG (ops := qo_155) (cuts := qc_lw_law) rfl 576 175 _ _ _ _ hV
set_option maxRecDepth 100000 in
theorem v_lw_law_158 (hG : qGood Ls xs P) {l3 s0 : Int32} {M : qMem} {Q : qPost}
    (hV : (vp_in (l3 + (1 : Int32)) Ls ∧ (P 107 0 [(0, .ref 36), (1, .int (xs (l3 + (1 : Int32)).toNatClampNeg))] [] M (fun v M' => P 155 165 [(0, .ref 1000), (1, .ref 0), (2, .ref 36), (3, .int l3)] (v.toList ++ [.int s0]) M' Q)))) :
    P 155 158 [(0, .ref 1000), (1, .ref 0), (2, .ref 36), (3, .int l3)] [.int s0] M Q := by
  exact qRun_ok hG (ops := qo_155) (cuts := qc_lw_law) rfl 576 158 _ _ _ _ hV
set_option maxRecDepth 100000 in
theorem v_lw_law_146 (hG : qGood Ls xs P) {l3 s0 : Int32} {M : qMem} {Q : qPost}
    (hV : (P 104 0 [(0, .ref 36)] [] M (fun v M' => P 155 148 [(0, .ref 1000), (1, .ref 0), (2, .ref 36), (3, .int l3)] (v.toList ++ [.int s0]) M' Q))) :
    P 155 146 [(0, .ref 1000), (1, .ref 0), (2, .ref 36), (3, .int l3)] [.int s0] M Q := by
  exact qRun_ok hG (ops := qo_155) (cuts := qc_lw_law) rfl 576 146 _ _ _ _ hV
set_option maxRecDepth 100000 in
theorem v_lw_law_129 (hG : qGood Ls xs P) {l3 s0 : Int32} {M : qMem} {Q : qPost}
    (hV : (vp_in (l3 + (1 : Int32)) Ls ∧ (vp_in (l3 + (2 : Int32)) Ls ∧ (P 103 0 [(0, .ref 36), (1, .int (xs (l3 + (1 : Int32)).toNatClampNeg)), (2, .int (xs (l3 + (2 : Int32)).toNatClampNeg))] [] M (fun v M' => P 155 141 [(0, .ref 1000), (1, .ref 0), (2, .ref 36), (3, .int l3)] (v.toList ++ [.int s0]) M' Q))))) :
    P 155 129 [(0, .ref 1000), (1, .ref 0), (2, .ref 36), (3, .int l3)] [.int s0] M Q := by
  exact qRun_ok hG (ops := qo_155) (cuts := qc_lw_law) rfl 576 129 _ _ _ _ hV
set_option maxRecDepth 100000 in
theorem v_lw_law_102 (hG : qGood Ls xs P) {l3 s0 : Int32} {M : qMem} {Q : qPost}
    (hV : (vp_in (l3 + (1 : Int32)) Ls ∧ (vp_in (l3 + (2 : Int32)) Ls ∧ (P 102 0 [(0, .ref 36), (1, .int (xs (l3 + (1 : Int32)).toNatClampNeg)), (2, .int (xs (l3 + (2 : Int32)).toNatClampNeg))] [] M (fun v M' => P 155 114 [(0, .ref 1000), (1, .ref 0), (2, .ref 36), (3, .int l3)] (v.toList ++ [.int s0]) M' Q))))) :
    P 155 102 [(0, .ref 1000), (1, .ref 0), (2, .ref 36), (3, .int l3)] [.int s0] M Q := by
  exact qRun_ok hG (ops := qo_155) (cuts := qc_lw_law) rfl 576 102 _ _ _ _ hV
set_option maxRecDepth 100000 in
theorem v_lw_law_85 (hG : qGood Ls xs P) {l3 s0 : Int32} {M : qMem} {Q : qPost}
    (hV : (P 99 0 [(0, .ref 36)] [] M (fun v M' => P 155 87 [(0, .ref 1000), (1, .ref 0), (2, .ref 36), (3, .int l3)] (v.toList ++ [.int s0]) M' Q))) :
    P 155 85 [(0, .ref 1000), (1, .ref 0), (2, .ref 36), (3, .int l3)] [.int s0] M Q := by
  exact qRun_ok hG (ops := qo_155) (cuts := qc_lw_law) rfl 576 85 _ _ _ _ hV
set_option maxRecDepth 100000 in
theorem v_lw_law_68 (hG : qGood Ls xs P) {l3 s0 : Int32} {M : qMem} {Q : qPost}
    (hV : (vp_in (l3 + (1 : Int32)) Ls ∧ (vp_in (l3 + (2 : Int32)) Ls ∧ (P 98 0 [(0, .ref 36), (1, .int (xs (l3 + (1 : Int32)).toNatClampNeg)), (2, .int (xs (l3 + (2 : Int32)).toNatClampNeg))] [] M (fun v M' => P 155 80 [(0, .ref 1000), (1, .ref 0), (2, .ref 36), (3, .int l3)] (v.toList ++ [.int s0]) M' Q))))) :
    P 155 68 [(0, .ref 1000), (1, .ref 0), (2, .ref 36), (3, .int l3)] [.int s0] M Q := by
  exact qRun_ok hG (ops := qo_155) (cuts := qc_lw_law) rfl 576 68 _ _ _ _ hV
set_option maxRecDepth 100000 in
theorem v_lw_law_46 (hG : qGood Ls xs P) {l3 s0 : Int32} {M : qMem} {Q : qPost}
    (hV : (vp_in (l3 + (1 : Int32)) Ls ∧ (P 97 0 [(0, .ref 36), (1, .int (xs (l3 + (1 : Int32)).toNatClampNeg))] [] M (fun v M' => P 155 53 [(0, .ref 1000), (1, .ref 0), (2, .ref 36), (3, .int l3)] (v.toList ++ [.int s0]) M' Q)))) :
    P 155 46 [(0, .ref 1000), (1, .ref 0), (2, .ref 36), (3, .int l3)] [.int s0] M Q := by
  exact qRun_ok hG (ops := qo_155) (cuts := qc_lw_law) rfl 576 46 _ _ _ _ hV
set_option maxRecDepth 100000 in
theorem v_lw_law_29 (hG : qGood Ls xs P) {l3 s0 : Int32} {M : qMem} {Q : qPost}
    (hV : (vp_in (l3 + (1 : Int32)) Ls ∧ (P 96 0 [(0, .ref 36), (1, .int (xs (l3 + (1 : Int32)).toNatClampNeg))] [] M (fun v M' => P 155 36 [(0, .ref 1000), (1, .ref 0), (2, .ref 36), (3, .int l3)] (v.toList ++ [.int s0]) M' Q)))) :
    P 155 29 [(0, .ref 1000), (1, .ref 0), (2, .ref 36), (3, .int l3)] [.int s0] M Q := by
  exact qRun_ok hG (ops := qo_155) (cuts := qc_lw_law) rfl 576 29 _ _ _ _ hV
set_option maxRecDepth 100000 in
theorem v_lw_law_567 (hG : qGood Ls xs P) {l3 s0 s1 : Int32} {M : qMem} {Q : qPost}
    (hV : ((s1 = s0 → (P 155 10 [(0, .ref 1000), (1, .ref 0), (2, .ref 36), (3, .int (l3 + (4 : Int32)))] [] M Q)) ∧ (¬ (s1 = s0) → (narrow .boolean (.int (0 : Int32)) = .int (0 : Int32) ∧ Q (some (.int (0 : Int32))) M)))) :
    P 155 567 [(0, .ref 1000), (1, .ref 0), (2, .ref 36), (3, .int l3)] [.int s0, .int s1] M Q := by
  exact qRun_ok hG (ops := qo_155) (cuts := qc_lw_law) rfl 576 567 _ _ _ _ hV
set_option maxRecDepth 100000 in
theorem v_lw_law_550 (hG : qGood Ls xs P) {l3 s0 s1 : Int32} {M : qMem} {Q : qPost}
    (hV : ((s1 = s0 → (P 155 10 [(0, .ref 1000), (1, .ref 0), (2, .ref 36), (3, .int (l3 + (4 : Int32)))] [] M Q)) ∧ (¬ (s1 = s0) → (narrow .boolean (.int (0 : Int32)) = .int (0 : Int32) ∧ Q (some (.int (0 : Int32))) M)))) :
    P 155 550 [(0, .ref 1000), (1, .ref 0), (2, .ref 36), (3, .int l3)] [.int s0, .int s1] M Q := by
  exact qRun_ok hG (ops := qo_155) (cuts := qc_lw_law) rfl 576 550 _ _ _ _ hV
set_option maxRecDepth 100000 in
theorem v_lw_law_533 (hG : qGood Ls xs P) {l3 s0 s1 : Int32} {M : qMem} {Q : qPost}
    (hV : ((s1 = s0 → (P 155 10 [(0, .ref 1000), (1, .ref 0), (2, .ref 36), (3, .int (l3 + (4 : Int32)))] [] M Q)) ∧ (¬ (s1 = s0) → (narrow .boolean (.int (0 : Int32)) = .int (0 : Int32) ∧ Q (some (.int (0 : Int32))) M)))) :
    P 155 533 [(0, .ref 1000), (1, .ref 0), (2, .ref 36), (3, .int l3)] [.int s0, .int s1] M Q := by
  exact qRun_ok hG (ops := qo_155) (cuts := qc_lw_law) rfl 576 533 _ _ _ _ hV
set_option maxRecDepth 100000 in
theorem v_lw_law_516 (hG : qGood Ls xs P) {l3 s0 s1 : Int32} {M : qMem} {Q : qPost}
    (hV : ((s1 = s0 → (P 155 10 [(0, .ref 1000), (1, .ref 0), (2, .ref 36), (3, .int (l3 + (4 : Int32)))] [] M Q)) ∧ (¬ (s1 = s0) → (narrow .boolean (.int (0 : Int32)) = .int (0 : Int32) ∧ Q (some (.int (0 : Int32))) M)))) :
    P 155 516 [(0, .ref 1000), (1, .ref 0), (2, .ref 36), (3, .int l3)] [.int s0, .int s1] M Q := by
  exact qRun_ok hG (ops := qo_155) (cuts := qc_lw_law) rfl 576 516 _ _ _ _ hV
set_option maxRecDepth 100000 in
theorem v_lw_law_509 (hG : qGood Ls xs P) {l3 s0 s1 : Int32} {M : qMem} {Q : qPost}
    (hV : ((s1 = s0 → (P 155 10 [(0, .ref 1000), (1, .ref 0), (2, .ref 36), (3, .int (l3 + (4 : Int32)))] [] M Q)) ∧ (¬ (s1 = s0) → (narrow .boolean (.int (0 : Int32)) = .int (0 : Int32) ∧ Q (some (.int (0 : Int32))) M)))) :
    P 155 509 [(0, .ref 1000), (1, .ref 0), (2, .ref 36), (3, .int l3)] [.int s0, .int s1] M Q := by
  exact qRun_ok hG (ops := qo_155) (cuts := qc_lw_law) rfl 576 509 _ _ _ _ hV
set_option maxRecDepth 100000 in
theorem v_lw_law_502 (hG : qGood Ls xs P) {l3 s0 s1 : Int32} {M : qMem} {Q : qPost}
    (hV : ((s1 = s0 → (P 155 10 [(0, .ref 1000), (1, .ref 0), (2, .ref 36), (3, .int (l3 + (4 : Int32)))] [] M Q)) ∧ (¬ (s1 = s0) → (narrow .boolean (.int (0 : Int32)) = .int (0 : Int32) ∧ Q (some (.int (0 : Int32))) M)))) :
    P 155 502 [(0, .ref 1000), (1, .ref 0), (2, .ref 36), (3, .int l3)] [.int s0, .int s1] M Q := by
  exact qRun_ok hG (ops := qo_155) (cuts := qc_lw_law) rfl 576 502 _ _ _ _ hV
set_option maxRecDepth 100000 in
theorem v_lw_law_485 (hG : qGood Ls xs P) {l3 s0 s1 : Int32} {M : qMem} {Q : qPost}
    (hV : ((s1 = s0 → (P 155 10 [(0, .ref 1000), (1, .ref 0), (2, .ref 36), (3, .int (l3 + (4 : Int32)))] [] M Q)) ∧ (¬ (s1 = s0) → (narrow .boolean (.int (0 : Int32)) = .int (0 : Int32) ∧ Q (some (.int (0 : Int32))) M)))) :
    P 155 485 [(0, .ref 1000), (1, .ref 0), (2, .ref 36), (3, .int l3)] [.int s0, .int s1] M Q := by
  exact qRun_ok hG (ops := qo_155) (cuts := qc_lw_law) rfl 576 485 _ _ _ _ hV
set_option maxRecDepth 100000 in
theorem v_lw_law_468 (hG : qGood Ls xs P) {l3 s0 s1 : Int32} {M : qMem} {Q : qPost}
    (hV : ((s1 = s0 → (P 155 10 [(0, .ref 1000), (1, .ref 0), (2, .ref 36), (3, .int (l3 + (4 : Int32)))] [] M Q)) ∧ (¬ (s1 = s0) → (narrow .boolean (.int (0 : Int32)) = .int (0 : Int32) ∧ Q (some (.int (0 : Int32))) M)))) :
    P 155 468 [(0, .ref 1000), (1, .ref 0), (2, .ref 36), (3, .int l3)] [.int s0, .int s1] M Q := by
  exact qRun_ok hG (ops := qo_155) (cuts := qc_lw_law) rfl 576 468 _ _ _ _ hV
set_option maxRecDepth 100000 in
theorem v_lw_law_451 (hG : qGood Ls xs P) {l3 s0 s1 : Int32} {M : qMem} {Q : qPost}
    (hV : ((s1 = s0 → (P 155 10 [(0, .ref 1000), (1, .ref 0), (2, .ref 36), (3, .int (l3 + (4 : Int32)))] [] M Q)) ∧ (¬ (s1 = s0) → (narrow .boolean (.int (0 : Int32)) = .int (0 : Int32) ∧ Q (some (.int (0 : Int32))) M)))) :
    P 155 451 [(0, .ref 1000), (1, .ref 0), (2, .ref 36), (3, .int l3)] [.int s0, .int s1] M Q := by
  exact qRun_ok hG (ops := qo_155) (cuts := qc_lw_law) rfl 576 451 _ _ _ _ hV
set_option maxRecDepth 100000 in
theorem v_lw_law_434 (hG : qGood Ls xs P) {l3 s0 s1 : Int32} {M : qMem} {Q : qPost}
    (hV : ((s1 = s0 → (P 155 10 [(0, .ref 1000), (1, .ref 0), (2, .ref 36), (3, .int (l3 + (4 : Int32)))] [] M Q)) ∧ (¬ (s1 = s0) → (narrow .boolean (.int (0 : Int32)) = .int (0 : Int32) ∧ Q (some (.int (0 : Int32))) M)))) :
    P 155 434 [(0, .ref 1000), (1, .ref 0), (2, .ref 36), (3, .int l3)] [.int s0, .int s1] M Q := by
  exact qRun_ok hG (ops := qo_155) (cuts := qc_lw_law) rfl 576 434 _ _ _ _ hV
set_option maxRecDepth 100000 in
theorem v_lw_law_417 (hG : qGood Ls xs P) {l3 s0 s1 : Int32} {M : qMem} {Q : qPost}
    (hV : ((s1 = s0 → (P 155 10 [(0, .ref 1000), (1, .ref 0), (2, .ref 36), (3, .int (l3 + (4 : Int32)))] [] M Q)) ∧ (¬ (s1 = s0) → (narrow .boolean (.int (0 : Int32)) = .int (0 : Int32) ∧ Q (some (.int (0 : Int32))) M)))) :
    P 155 417 [(0, .ref 1000), (1, .ref 0), (2, .ref 36), (3, .int l3)] [.int s0, .int s1] M Q := by
  exact qRun_ok hG (ops := qo_155) (cuts := qc_lw_law) rfl 576 417 _ _ _ _ hV
set_option maxRecDepth 100000 in
theorem v_lw_law_379 (hG : qGood Ls xs P) {s0 s1 : Int64} {l3 : Int32} {M : qMem} {Q : qPost}
    (hV : (((lg_cmp s1 s0) = 0 → (P 155 10 [(0, .ref 1000), (1, .ref 0), (2, .ref 36), (3, .int (l3 + (4 : Int32)))] [] M Q)) ∧ (¬ ((lg_cmp s1 s0) = 0) → (narrow .boolean (.int (0 : Int32)) = .int (0 : Int32) ∧ Q (some (.int (0 : Int32))) M)))) :
    P 155 379 [(0, .ref 1000), (1, .ref 0), (2, .ref 36), (3, .int l3)] [.long s0, .long s1] M Q := by
  exact qRun_ok hG (ops := qo_155) (cuts := qc_lw_law) rfl 576 379 _ _ _ _ hV
set_option maxRecDepth 100000 in
theorem v_lw_law_351 (hG : qGood Ls xs P) {s0 s1 : Int64} {l3 : Int32} {M : qMem} {Q : qPost}
    (hV : (((lg_cmp s1 s0) = 0 → (P 155 10 [(0, .ref 1000), (1, .ref 0), (2, .ref 36), (3, .int (l3 + (4 : Int32)))] [] M Q)) ∧ (¬ ((lg_cmp s1 s0) = 0) → (narrow .boolean (.int (0 : Int32)) = .int (0 : Int32) ∧ Q (some (.int (0 : Int32))) M)))) :
    P 155 351 [(0, .ref 1000), (1, .ref 0), (2, .ref 36), (3, .int l3)] [.long s0, .long s1] M Q := by
  exact qRun_ok hG (ops := qo_155) (cuts := qc_lw_law) rfl 576 351 _ _ _ _ hV
set_option maxRecDepth 100000 in
theorem v_lw_law_314 (hG : qGood Ls xs P) {l3 s0 s1 : Int32} {M : qMem} {Q : qPost}
    (hV : ((s1 = s0 → (P 155 10 [(0, .ref 1000), (1, .ref 0), (2, .ref 36), (3, .int (l3 + (4 : Int32)))] [] M Q)) ∧ (¬ (s1 = s0) → (narrow .boolean (.int (0 : Int32)) = .int (0 : Int32) ∧ Q (some (.int (0 : Int32))) M)))) :
    P 155 314 [(0, .ref 1000), (1, .ref 0), (2, .ref 36), (3, .int l3)] [.int s0, .int s1] M Q := by
  exact qRun_ok hG (ops := qo_155) (cuts := qc_lw_law) rfl 576 314 _ _ _ _ hV
set_option maxRecDepth 100000 in
theorem v_lw_law_287 (hG : qGood Ls xs P) {l3 s0 s1 : Int32} {M : qMem} {Q : qPost}
    (hV : ((s1 = s0 → (P 155 10 [(0, .ref 1000), (1, .ref 0), (2, .ref 36), (3, .int (l3 + (4 : Int32)))] [] M Q)) ∧ (¬ (s1 = s0) → (narrow .boolean (.int (0 : Int32)) = .int (0 : Int32) ∧ Q (some (.int (0 : Int32))) M)))) :
    P 155 287 [(0, .ref 1000), (1, .ref 0), (2, .ref 36), (3, .int l3)] [.int s0, .int s1] M Q := by
  exact qRun_ok hG (ops := qo_155) (cuts := qc_lw_law) rfl 576 287 _ _ _ _ hV
set_option maxRecDepth 100000 in
theorem v_lw_law_250 (hG : qGood Ls xs P) {l3 s0 s1 : Int32} {M : qMem} {Q : qPost}
    (hV : ((s1 = s0 → (P 155 10 [(0, .ref 1000), (1, .ref 0), (2, .ref 36), (3, .int (l3 + (4 : Int32)))] [] M Q)) ∧ (¬ (s1 = s0) → (narrow .boolean (.int (0 : Int32)) = .int (0 : Int32) ∧ Q (some (.int (0 : Int32))) M)))) :
    P 155 250 [(0, .ref 1000), (1, .ref 0), (2, .ref 36), (3, .int l3)] [.int s0, .int s1] M Q := by
  exact qRun_ok hG (ops := qo_155) (cuts := qc_lw_law) rfl 576 250 _ _ _ _ hV
set_option maxRecDepth 100000 in
theorem v_lw_law_233 (hG : qGood Ls xs P) {l3 s0 s1 : Int32} {M : qMem} {Q : qPost}
    (hV : ((s1 = s0 → (P 155 10 [(0, .ref 1000), (1, .ref 0), (2, .ref 36), (3, .int (l3 + (4 : Int32)))] [] M Q)) ∧ (¬ (s1 = s0) → (narrow .boolean (.int (0 : Int32)) = .int (0 : Int32) ∧ Q (some (.int (0 : Int32))) M)))) :
    P 155 233 [(0, .ref 1000), (1, .ref 0), (2, .ref 36), (3, .int l3)] [.int s0, .int s1] M Q := by
  exact qRun_ok hG (ops := qo_155) (cuts := qc_lw_law) rfl 576 233 _ _ _ _ hV
set_option maxRecDepth 100000 in
theorem v_lw_law_216 (hG : qGood Ls xs P) {l3 s0 s1 : Int32} {M : qMem} {Q : qPost}
    (hV : ((s1 = s0 → (P 155 10 [(0, .ref 1000), (1, .ref 0), (2, .ref 36), (3, .int (l3 + (4 : Int32)))] [] M Q)) ∧ (¬ (s1 = s0) → (narrow .boolean (.int (0 : Int32)) = .int (0 : Int32) ∧ Q (some (.int (0 : Int32))) M)))) :
    P 155 216 [(0, .ref 1000), (1, .ref 0), (2, .ref 36), (3, .int l3)] [.int s0, .int s1] M Q := by
  exact qRun_ok hG (ops := qo_155) (cuts := qc_lw_law) rfl 576 216 _ _ _ _ hV
set_option maxRecDepth 100000 in
theorem v_lw_law_209 (hG : qGood Ls xs P) {l3 s0 s1 : Int32} {M : qMem} {Q : qPost}
    (hV : ((s1 = s0 → (P 155 10 [(0, .ref 1000), (1, .ref 0), (2, .ref 36), (3, .int (l3 + (4 : Int32)))] [] M Q)) ∧ (¬ (s1 = s0) → (narrow .boolean (.int (0 : Int32)) = .int (0 : Int32) ∧ Q (some (.int (0 : Int32))) M)))) :
    P 155 209 [(0, .ref 1000), (1, .ref 0), (2, .ref 36), (3, .int l3)] [.int s0, .int s1] M Q := by
  exact qRun_ok hG (ops := qo_155) (cuts := qc_lw_law) rfl 576 209 _ _ _ _ hV
set_option maxRecDepth 100000 in
theorem v_lw_law_182 (hG : qGood Ls xs P) {l3 s0 s1 : Int32} {M : qMem} {Q : qPost}
    (hV : ((s1 = s0 → (P 155 10 [(0, .ref 1000), (1, .ref 0), (2, .ref 36), (3, .int (l3 + (4 : Int32)))] [] M Q)) ∧ (¬ (s1 = s0) → (narrow .boolean (.int (0 : Int32)) = .int (0 : Int32) ∧ Q (some (.int (0 : Int32))) M)))) :
    P 155 182 [(0, .ref 1000), (1, .ref 0), (2, .ref 36), (3, .int l3)] [.int s0, .int s1] M Q := by
  exact qRun_ok hG (ops := qo_155) (cuts := qc_lw_law) rfl 576 182 _ _ _ _ hV
set_option maxRecDepth 100000 in
theorem v_lw_law_165 (hG : qGood Ls xs P) {l3 s0 s1 : Int32} {M : qMem} {Q : qPost}
    (hV : ((s1 = s0 → (P 155 10 [(0, .ref 1000), (1, .ref 0), (2, .ref 36), (3, .int (l3 + (4 : Int32)))] [] M Q)) ∧ (¬ (s1 = s0) → (narrow .boolean (.int (0 : Int32)) = .int (0 : Int32) ∧ Q (some (.int (0 : Int32))) M)))) :
    P 155 165 [(0, .ref 1000), (1, .ref 0), (2, .ref 36), (3, .int l3)] [.int s0, .int s1] M Q := by
  exact qRun_ok hG (ops := qo_155) (cuts := qc_lw_law) rfl 576 165 _ _ _ _ hV
set_option maxRecDepth 100000 in
theorem v_lw_law_148 (hG : qGood Ls xs P) {l3 s0 s1 : Int32} {M : qMem} {Q : qPost}
    (hV : ((s1 = s0 → (P 155 10 [(0, .ref 1000), (1, .ref 0), (2, .ref 36), (3, .int (l3 + (4 : Int32)))] [] M Q)) ∧ (¬ (s1 = s0) → (narrow .boolean (.int (0 : Int32)) = .int (0 : Int32) ∧ Q (some (.int (0 : Int32))) M)))) :
    P 155 148 [(0, .ref 1000), (1, .ref 0), (2, .ref 36), (3, .int l3)] [.int s0, .int s1] M Q := by
  exact qRun_ok hG (ops := qo_155) (cuts := qc_lw_law) rfl 576 148 _ _ _ _ hV
set_option maxRecDepth 100000 in
theorem v_lw_law_141 (hG : qGood Ls xs P) {l3 s0 s1 : Int32} {M : qMem} {Q : qPost}
    (hV : ((s1 = s0 → (P 155 10 [(0, .ref 1000), (1, .ref 0), (2, .ref 36), (3, .int (l3 + (4 : Int32)))] [] M Q)) ∧ (¬ (s1 = s0) → (narrow .boolean (.int (0 : Int32)) = .int (0 : Int32) ∧ Q (some (.int (0 : Int32))) M)))) :
    P 155 141 [(0, .ref 1000), (1, .ref 0), (2, .ref 36), (3, .int l3)] [.int s0, .int s1] M Q := by
  exact qRun_ok hG (ops := qo_155) (cuts := qc_lw_law) rfl 576 141 _ _ _ _ hV
set_option maxRecDepth 100000 in
theorem v_lw_law_114 (hG : qGood Ls xs P) {l3 s0 s1 : Int32} {M : qMem} {Q : qPost}
    (hV : ((s1 = s0 → (P 155 10 [(0, .ref 1000), (1, .ref 0), (2, .ref 36), (3, .int (l3 + (4 : Int32)))] [] M Q)) ∧ (¬ (s1 = s0) → (narrow .boolean (.int (0 : Int32)) = .int (0 : Int32) ∧ Q (some (.int (0 : Int32))) M)))) :
    P 155 114 [(0, .ref 1000), (1, .ref 0), (2, .ref 36), (3, .int l3)] [.int s0, .int s1] M Q := by
  exact qRun_ok hG (ops := qo_155) (cuts := qc_lw_law) rfl 576 114 _ _ _ _ hV
set_option maxRecDepth 100000 in
theorem v_lw_law_87 (hG : qGood Ls xs P) {l3 s0 s1 : Int32} {M : qMem} {Q : qPost}
    (hV : ((s1 = s0 → (P 155 10 [(0, .ref 1000), (1, .ref 0), (2, .ref 36), (3, .int (l3 + (4 : Int32)))] [] M Q)) ∧ (¬ (s1 = s0) → (narrow .boolean (.int (0 : Int32)) = .int (0 : Int32) ∧ Q (some (.int (0 : Int32))) M)))) :
    P 155 87 [(0, .ref 1000), (1, .ref 0), (2, .ref 36), (3, .int l3)] [.int s0, .int s1] M Q := by
  exact qRun_ok hG (ops := qo_155) (cuts := qc_lw_law) rfl 576 87 _ _ _ _ hV
set_option maxRecDepth 100000 in
theorem v_lw_law_80 (hG : qGood Ls xs P) {l3 s0 s1 : Int32} {M : qMem} {Q : qPost}
    (hV : ((s1 = s0 → (P 155 10 [(0, .ref 1000), (1, .ref 0), (2, .ref 36), (3, .int (l3 + (4 : Int32)))] [] M Q)) ∧ (¬ (s1 = s0) → (narrow .boolean (.int (0 : Int32)) = .int (0 : Int32) ∧ Q (some (.int (0 : Int32))) M)))) :
    P 155 80 [(0, .ref 1000), (1, .ref 0), (2, .ref 36), (3, .int l3)] [.int s0, .int s1] M Q := by
  exact qRun_ok hG (ops := qo_155) (cuts := qc_lw_law) rfl 576 80 _ _ _ _ hV
set_option maxRecDepth 100000 in
theorem v_lw_law_53 (hG : qGood Ls xs P) {l3 s0 s1 : Int32} {M : qMem} {Q : qPost}
    (hV : ((s1 = s0 → (P 155 10 [(0, .ref 1000), (1, .ref 0), (2, .ref 36), (3, .int (l3 + (4 : Int32)))] [] M Q)) ∧ (¬ (s1 = s0) → (narrow .boolean (.int (0 : Int32)) = .int (0 : Int32) ∧ Q (some (.int (0 : Int32))) M)))) :
    P 155 53 [(0, .ref 1000), (1, .ref 0), (2, .ref 36), (3, .int l3)] [.int s0, .int s1] M Q := by
  exact qRun_ok hG (ops := qo_155) (cuts := qc_lw_law) rfl 576 53 _ _ _ _ hV
set_option maxRecDepth 100000 in
theorem v_lw_law_36 (hG : qGood Ls xs P) {l3 s0 s1 : Int32} {M : qMem} {Q : qPost}
    (hV : ((s1 = s0 → (P 155 10 [(0, .ref 1000), (1, .ref 0), (2, .ref 36), (3, .int (l3 + (4 : Int32)))] [] M Q)) ∧ (¬ (s1 = s0) → (narrow .boolean (.int (0 : Int32)) = .int (0 : Int32) ∧ Q (some (.int (0 : Int32))) M)))) :
    P 155 36 [(0, .ref 1000), (1, .ref 0), (2, .ref 36), (3, .int l3)] [.int s0, .int s1] M Q := by
  exact qRun_ok hG (ops := qo_155) (cuts := qc_lw_law) rfl 576 36 _ _ _ _ hV
end VC
