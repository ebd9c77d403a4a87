/-! change: what it answers and what it makes of the state -/
theorem CS.dep {s : zSt} {M : qMem} (h : CS s M) : M.1 6 2 = iI s.2.1.1 := by
  obtain ⟨o, h1, h2, h3, h4, h5⟩ := h.2.1
  exact h4
theorem iz0 {r : Int} (h1 : 0 ≤ r) (h2 : r < 2147483648) : (iI r = (0 : Int32)) ↔ r = 0 := by
  rw [iL0, iI_eq (by omega) h2 (by omega) (by omega)]
section CHG
variable {Ls : Nat} {xs : Nat → Int32} {P : qSem} {M : qMem} {Q : qPost} {s : zSt} {more v : Int32}
theorem s_lowL (hG : qGood Ls xs P) {x n : Int32} (z : Int) (e : n = iI z) (h1 : 1 ≤ z) (h2 : z < 2147483648) (hQ : Q (some (.int (iI (lwz x z)))) M) : P 74 0 [(0, .int x), (1, .int n)] [] M Q := by
  rw [e]
  exact s_low hG h1 h2 hQ
theorem C_told0 (hG : qGood Ls xs P) (hS : CS s M) (hQ : Q (some (.int (iI s.1.1))) M) : P 45 0 [(0, .ref 0), (1, .int (0 : Int32))] [] M Q := by
  rw [iL0]
  exact C_told hG hS.1 hS.2.2.2.1.1 hS.dep ⟨by decide, by decide⟩ hQ
theorem sw27_0 (hG : qGood Ls xs P) {l4 l5 : Int32} (h : (P 74 0 [(0, .int (more >>> ((10 : Int32) &&& 31))), (1, .int (3 : Int32))] [] M (fun v M' => P 75 35 [(2, .int more)] (v.toList ++ [.int more, .ref 0]) M' Q))) :
    P 75 27 [(0, .ref 0), (2, .int more), (4, .int l4), (5, .int l5)] [.int (iI 0)] M Q := by
  refine v_lw_change_27 hG ?_
  exact ⟨fun _ => h, fun c => absurd rfl c⟩
theorem sw27_1 (hG : qGood Ls xs P) {l4 l5 : Int32} (h : (P 74 0 [(0, .int (more >>> ((10 : Int32) &&& 31))), (1, .int (3 : Int32))] [] M (fun v M' => P 75 35 [(2, .int more)] (v.toList ++ [.int more, .ref 0]) M' Q))) :
    P 75 27 [(0, .ref 0), (2, .int more), (4, .int l4), (5, .int l5)] [.int (iI 1)] M Q := by
  refine v_lw_change_27 hG ?_
  exact ⟨fun c => absurd c (by decide), fun _ => ⟨fun _ => h, fun c => absurd rfl c⟩⟩
theorem sw27_2 (hG : qGood Ls xs P) {l4 l5 : Int32} (h : (P 74 0 [(0, .int (more >>> ((10 : Int32) &&& 31))), (1, .int (3 : Int32))] [] M (fun v M' => P 75 35 [(2, .int more)] (v.toList ++ [.int more, .ref 0]) M' Q))) :
    P 75 27 [(0, .ref 0), (2, .int more), (4, .int l4), (5, .int l5)] [.int (iI 2)] M Q := by
  refine v_lw_change_27 hG ?_
  exact ⟨fun c => absurd c (by decide), fun _ => ⟨fun c => absurd c (by decide), fun _ => ⟨fun _ => h, fun c => absurd rfl c⟩⟩⟩
theorem sw27_3 (hG : qGood Ls xs P) {l4 l5 : Int32} (h : (P 74 0 [(0, .int (more >>> ((10 : Int32) &&& 31))), (1, .int (3 : Int32))] [] M (fun v M' => P 75 35 [(2, .int more)] (v.toList ++ [.int more, .ref 0]) M' Q))) :
    P 75 27 [(0, .ref 0), (2, .int more), (4, .int l4), (5, .int l5)] [.int (iI 3)] M Q := by
  refine v_lw_change_27 hG ?_
  exact ⟨fun c => absurd c (by decide), fun _ => ⟨fun c => absurd c (by decide), fun _ => ⟨fun c => absurd c (by decide), fun _ => ⟨fun _ => h, fun c => absurd rfl c⟩⟩⟩⟩
theorem sw27_4 (hG : qGood Ls xs P) {l4 l5 : Int32} (h : (P 74 0 [(0, .int (more >>> ((10 : Int32) &&& 31))), (1, .int (3 : Int32))] [] M (fun v M' => P 75 35 [(2, .int more)] (v.toList ++ [.int more, .ref 0]) M' Q))) :
    P 75 27 [(0, .ref 0), (2, .int more), (4, .int l4), (5, .int l5)] [.int (iI 4)] M Q := by
  refine v_lw_change_27 hG ?_
  exact ⟨fun c => absurd c (by decide), fun _ => ⟨fun c => absurd c (by decide), fun _ => ⟨fun c => absurd c (by decide), fun _ => ⟨fun c => absurd c (by decide), fun _ => ⟨fun _ => h, fun c => absurd rfl c⟩⟩⟩⟩⟩
theorem sw27_5 (hG : qGood Ls xs P) {l4 l5 : Int32} (h : (P 74 0 [(0, .int (more >>> ((10 : Int32) &&& 31))), (1, .int (3 : Int32))] [] M (fun v M' => P 75 35 [(2, .int more)] (v.toList ++ [.int more, .ref 0]) M' Q))) :
    P 75 27 [(0, .ref 0), (2, .int more), (4, .int l4), (5, .int l5)] [.int (iI 5)] M Q := by
  refine v_lw_change_27 hG ?_
  exact ⟨fun c => absurd c (by decide), fun _ => ⟨fun c => absurd c (by decide), fun _ => ⟨fun c => absurd c (by decide), fun _ => ⟨fun c => absurd c (by decide), fun _ => ⟨fun c => absurd c (by decide), fun _ => ⟨fun _ => h, fun c => absurd rfl c⟩⟩⟩⟩⟩⟩
theorem sw27_6 (hG : qGood Ls xs P) {l4 l5 : Int32} (h : (P 74 0 [(0, .int (more >>> ((10 : Int32) &&& 31))), (1, .int (3 : Int32))] [] M (fun v M' => P 75 35 [(2, .int more)] (v.toList ++ [.int more, .ref 0]) M' Q))) :
    P 75 27 [(0, .ref 0), (2, .int more), (4, .int l4), (5, .int l5)] [.int (iI 6)] M Q := by
  refine v_lw_change_27 hG ?_
  exact ⟨fun c => absurd c (by decide), fun _ => ⟨fun c => absurd c (by decide), fun _ => ⟨fun c => absurd c (by decide), fun _ => ⟨fun c => absurd c (by decide), fun _ => ⟨fun c => absurd c (by decide), fun _ => ⟨fun c => absurd c (by decide), fun _ => ⟨fun _ => h, fun c => absurd rfl c⟩⟩⟩⟩⟩⟩⟩
theorem sw27_7 (hG : qGood Ls xs P) {l4 l5 : Int32} (h : (P 74 0 [(0, .int (more >>> ((10 : Int32) &&& 31))), (1, .int (3 : Int32))] [] M (fun v M' => P 75 35 [(2, .int more)] (v.toList ++ [.int more, .ref 0]) M' Q))) :
    P 75 27 [(0, .ref 0), (2, .int more), (4, .int l4), (5, .int l5)] [.int (iI 7)] M Q := by
  refine v_lw_change_27 hG ?_
  exact ⟨fun c => absurd c (by decide), fun _ => ⟨fun c => absurd c (by decide), fun _ => ⟨fun c => absurd c (by decide), fun _ => ⟨fun c => absurd c (by decide), fun _ => ⟨fun c => absurd c (by decide), fun _ => ⟨fun c => absurd c (by decide), fun _ => ⟨fun c => absurd c (by decide), fun _ => ⟨fun _ => h, fun c => absurd rfl c⟩⟩⟩⟩⟩⟩⟩⟩
theorem sw27_8 (hG : qGood Ls xs P) {l4 l5 : Int32} (h : (P 74 0 [(0, .int more), (1, .int (3 : Int32))] [] M (fun v M' => P 75 57 [] (v.toList ++ [.int (1 : Int32), .ref 0]) M' Q))) :
    P 75 27 [(0, .ref 0), (2, .int more), (4, .int l4), (5, .int l5)] [.int (iI 8)] M Q := by
  refine v_lw_change_27 hG ?_
  exact ⟨fun c => absurd c (by decide), fun _ => ⟨fun c => absurd c (by decide), fun _ => ⟨fun c => absurd c (by decide), fun _ => ⟨fun c => absurd c (by decide), fun _ => ⟨fun c => absurd c (by decide), fun _ => ⟨fun c => absurd c (by decide), fun _ => ⟨fun c => absurd c (by decide), fun _ => ⟨fun c => absurd c (by decide), fun _ => ⟨fun _ => h, fun c => absurd rfl c⟩⟩⟩⟩⟩⟩⟩⟩⟩
theorem sw27_9 (hG : qGood Ls xs P) {l4 l5 : Int32} (h : (P 74 0 [(0, .int more), (1, .int (3 : Int32))] [] M (fun v M' => P 75 65 [(2, .int more)] (v.toList ++ [.int l4, .ref 0]) M' Q))) :
    P 75 27 [(0, .ref 0), (2, .int more), (4, .int l4), (5, .int l5)] [.int (iI 9)] M Q := by
  refine v_lw_change_27 hG ?_
  exact ⟨fun c => absurd c (by decide), fun _ => ⟨fun c => absurd c (by decide), fun _ => ⟨fun c => absurd c (by decide), fun _ => ⟨fun c => absurd c (by decide), fun _ => ⟨fun c => absurd c (by decide), fun _ => ⟨fun c => absurd c (by decide), fun _ => ⟨fun c => absurd c (by decide), fun _ => ⟨fun c => absurd c (by decide), fun _ => ⟨fun c => absurd c (by decide), fun _ => ⟨fun _ => h, fun c => absurd rfl c⟩⟩⟩⟩⟩⟩⟩⟩⟩⟩
theorem sw27_10 (hG : qGood Ls xs P) {l4 l5 : Int32} (h : (P 74 0 [(0, .int more), (1, .int (12 : Int32))] [] M (fun v M' => P 75 78 [(0, .ref 0)] (v.toList ++ []) M' Q))) :
    P 75 27 [(0, .ref 0), (2, .int more), (4, .int l4), (5, .int l5)] [.int (iI 10)] M Q := by
  refine v_lw_change_27 hG ?_
  exact ⟨fun c => absurd c (by decide), fun _ => ⟨fun c => absurd c (by decide), fun _ => ⟨fun c => absurd c (by decide), fun _ => ⟨fun c => absurd c (by decide), fun _ => ⟨fun c => absurd c (by decide), fun _ => ⟨fun c => absurd c (by decide), fun _ => ⟨fun c => absurd c (by decide), fun _ => ⟨fun c => absurd c (by decide), fun _ => ⟨fun c => absurd c (by decide), fun _ => ⟨fun c => absurd c (by decide), fun _ => ⟨fun _ => h, fun c => absurd rfl c⟩⟩⟩⟩⟩⟩⟩⟩⟩⟩⟩
theorem sw27_11 (hG : qGood Ls xs P) {l4 l5 : Int32} (h : (P 38 0 [(0, .ref 0), (1, .int l4), (2, .int l5)] [] M (fun v M' => P 75 89 [] (v.toList ++ []) M' Q))) :
    P 75 27 [(0, .ref 0), (2, .int more), (4, .int l4), (5, .int l5)] [.int (iI 11)] M Q := by
  refine v_lw_change_27 hG ?_
  exact ⟨fun c => absurd c (by decide), fun _ => ⟨fun c => absurd c (by decide), fun _ => ⟨fun c => absurd c (by decide), fun _ => ⟨fun c => absurd c (by decide), fun _ => ⟨fun c => absurd c (by decide), fun _ => ⟨fun c => absurd c (by decide), fun _ => ⟨fun c => absurd c (by decide), fun _ => ⟨fun c => absurd c (by decide), fun _ => ⟨fun c => absurd c (by decide), fun _ => ⟨fun c => absurd c (by decide), fun _ => ⟨fun c => absurd c (by decide), fun _ => ⟨fun _ => h, fun c => absurd rfl c⟩⟩⟩⟩⟩⟩⟩⟩⟩⟩⟩⟩
theorem sw27_12 (hG : qGood Ls xs P) {l4 l5 : Int32} (h : (P 74 0 [(0, .int more), (1, .int (41 : Int32))] [] M (fun v M' => P 75 94 [(2, .int more)] (v.toList ++ [.ref 0]) M' Q))) :
    P 75 27 [(0, .ref 0), (2, .int more), (4, .int l4), (5, .int l5)] [.int (iI 12)] M Q := by
  refine v_lw_change_27 hG ?_
  exact ⟨fun c => absurd c (by decide), fun _ => ⟨fun c => absurd c (by decide), fun _ => ⟨fun c => absurd c (by decide), fun _ => ⟨fun c => absurd c (by decide), fun _ => ⟨fun c => absurd c (by decide), fun _ => ⟨fun c => absurd c (by decide), fun _ => ⟨fun c => absurd c (by decide), fun _ => ⟨fun c => absurd c (by decide), fun _ => ⟨fun c => absurd c (by decide), fun _ => ⟨fun c => absurd c (by decide), fun _ => ⟨fun c => absurd c (by decide), fun _ => ⟨fun c => absurd c (by decide), fun _ => ⟨fun _ => h, fun c => absurd rfl c⟩⟩⟩⟩⟩⟩⟩⟩⟩⟩⟩⟩⟩
theorem sw27_13 (hG : qGood Ls xs P) {l4 l5 : Int32} (h : (P 40 0 [(0, .ref 0)] [] M (fun v M' => P 75 107 [] (v.toList ++ []) M' Q))) :
    P 75 27 [(0, .ref 0), (2, .int more), (4, .int l4), (5, .int l5)] [.int (iI 13)] M Q := by
  refine v_lw_change_27 hG ?_
  exact ⟨fun c => absurd c (by decide), fun _ => ⟨fun c => absurd c (by decide), fun _ => ⟨fun c => absurd c (by decide), fun _ => ⟨fun c => absurd c (by decide), fun _ => ⟨fun c => absurd c (by decide), fun _ => ⟨fun c => absurd c (by decide), fun _ => ⟨fun c => absurd c (by decide), fun _ => ⟨fun c => absurd c (by decide), fun _ => ⟨fun c => absurd c (by decide), fun _ => ⟨fun c => absurd c (by decide), fun _ => ⟨fun c => absurd c (by decide), fun _ => ⟨fun c => absurd c (by decide), fun _ => ⟨fun c => absurd c (by decide), fun _ => ⟨fun _ => h, fun c => absurd rfl c⟩⟩⟩⟩⟩⟩⟩⟩⟩⟩⟩⟩⟩⟩
theorem sw27_14 (hG : qGood Ls xs P) {l4 l5 : Int32} (h : (P 74 0 [(0, .int more), (1, .int (3 : Int32))] [] M (fun v M' => P 75 112 [(2, .int more)] (v.toList ++ [.ref 0]) M' Q))) :
    P 75 27 [(0, .ref 0), (2, .int more), (4, .int l4), (5, .int l5)] [.int (iI 14)] M Q := by
  refine v_lw_change_27 hG ?_
  exact ⟨fun c => absurd c (by decide), fun _ => ⟨fun c => absurd c (by decide), fun _ => ⟨fun c => absurd c (by decide), fun _ => ⟨fun c => absurd c (by decide), fun _ => ⟨fun c => absurd c (by decide), fun _ => ⟨fun c => absurd c (by decide), fun _ => ⟨fun c => absurd c (by decide), fun _ => ⟨fun c => absurd c (by decide), fun _ => ⟨fun c => absurd c (by decide), fun _ => ⟨fun c => absurd c (by decide), fun _ => ⟨fun c => absurd c (by decide), fun _ => ⟨fun c => absurd c (by decide), fun _ => ⟨fun c => absurd c (by decide), fun _ => ⟨fun c => absurd c (by decide), fun _ => ⟨fun _ => h, fun c => absurd rfl c⟩⟩⟩⟩⟩⟩⟩⟩⟩⟩⟩⟩⟩⟩⟩
theorem sw27_15 (hG : qGood Ls xs P) {l4 l5 : Int32} (h : (P 74 0 [(0, .int more), (1, .int (6 : Int32))] [] M (fun v M' => P 75 131 [] (v.toList ++ [.int (1 : Int32), .ref 0]) M' Q))) :
    P 75 27 [(0, .ref 0), (2, .int more), (4, .int l4), (5, .int l5)] [.int (iI 15)] M Q := by
  refine v_lw_change_27 hG ?_
  exact ⟨fun c => absurd c (by decide), fun _ => ⟨fun c => absurd c (by decide), fun _ => ⟨fun c => absurd c (by decide), fun _ => ⟨fun c => absurd c (by decide), fun _ => ⟨fun c => absurd c (by decide), fun _ => ⟨fun c => absurd c (by decide), fun _ => ⟨fun c => absurd c (by decide), fun _ => ⟨fun c => absurd c (by decide), fun _ => ⟨fun c => absurd c (by decide), fun _ => ⟨fun c => absurd c (by decide), fun _ => ⟨fun c => absurd c (by decide), fun _ => ⟨fun c => absurd c (by decide), fun _ => ⟨fun c => absurd c (by decide), fun _ => ⟨fun c => absurd c (by decide), fun _ => ⟨fun c => absurd c (by decide), fun _ => ⟨fun _ => h, fun c => absurd rfl c⟩⟩⟩⟩⟩⟩⟩⟩⟩⟩⟩⟩⟩⟩⟩⟩
theorem sw27_16 (hG : qGood Ls xs P) {l4 l5 : Int32} (h : (P 74 0 [(0, .int more), (1, .int (6 : Int32))] [] M (fun v M' => P 75 137 [(0, .ref 0), (2, .int more)] (v.toList ++ []) M' Q))) :
    P 75 27 [(0, .ref 0), (2, .int more), (4, .int l4), (5, .int l5)] [.int (iI 16)] M Q := by
  refine v_lw_change_27 hG ?_
  exact ⟨fun c => absurd c (by decide), fun _ => ⟨fun c => absurd c (by decide), fun _ => ⟨fun c => absurd c (by decide), fun _ => ⟨fun c => absurd c (by decide), fun _ => ⟨fun c => absurd c (by decide), fun _ => ⟨fun c => absurd c (by decide), fun _ => ⟨fun c => absurd c (by decide), fun _ => ⟨fun c => absurd c (by decide), fun _ => ⟨fun c => absurd c (by decide), fun _ => ⟨fun c => absurd c (by decide), fun _ => ⟨fun c => absurd c (by decide), fun _ => ⟨fun c => absurd c (by decide), fun _ => ⟨fun c => absurd c (by decide), fun _ => ⟨fun c => absurd c (by decide), fun _ => ⟨fun c => absurd c (by decide), fun _ => ⟨fun c => absurd c (by decide), fun _ => ⟨fun _ => h, fun c => absurd rfl c⟩⟩⟩⟩⟩⟩⟩⟩⟩⟩⟩⟩⟩⟩⟩⟩⟩
theorem sw27_17 (hG : qGood Ls xs P) {l4 l5 : Int32} (h : (P 74 0 [(0, .int more), (1, .int (2 : Int32))] [] M (fun v M' => P 75 155 [(0, .ref 0), (2, .int more)] (v.toList ++ []) M' Q))) :
    P 75 27 [(0, .ref 0), (2, .int more), (4, .int l4), (5, .int l5)] [.int (iI 17)] M Q := by
  refine v_lw_change_27 hG ?_
  exact ⟨fun c => absurd c (by decide), fun _ => ⟨fun c => absurd c (by decide), fun _ => ⟨fun c => absurd c (by decide), fun _ => ⟨fun c => absurd c (by decide), fun _ => ⟨fun c => absurd c (by decide), fun _ => ⟨fun c => absurd c (by decide), fun _ => ⟨fun c => absurd c (by decide), fun _ => ⟨fun c => absurd c (by decide), fun _ => ⟨fun c => absurd c (by decide), fun _ => ⟨fun c => absurd c (by decide), fun _ => ⟨fun c => absurd c (by decide), fun _ => ⟨fun c => absurd c (by decide), fun _ => ⟨fun c => absurd c (by decide), fun _ => ⟨fun c => absurd c (by decide), fun _ => ⟨fun c => absurd c (by decide), fun _ => ⟨fun c => absurd c (by decide), fun _ => ⟨fun c => absurd c (by decide), fun _ => ⟨fun _ => h, fun c => absurd rfl c⟩⟩⟩⟩⟩⟩⟩⟩⟩⟩⟩⟩⟩⟩⟩⟩⟩⟩
theorem sw27_18 (hG : qGood Ls xs P) {l4 l5 : Int32} (h : (P 74 0 [(0, .int more), (1, .int (2001 : Int32))] [] M (fun v M' => P 75 183 [] (v.toList ++ [.ref 0]) M' Q))) :
    P 75 27 [(0, .ref 0), (2, .int more), (4, .int l4), (5, .int l5)] [.int (iI 18)] M Q := by
  refine v_lw_change_27 hG ?_
  exact ⟨fun c => absurd c (by decide), fun _ => ⟨fun c => absurd c (by decide), fun _ => ⟨fun c => absurd c (by decide), fun _ => ⟨fun c => absurd c (by decide), fun _ => ⟨fun c => absurd c (by decide), fun _ => ⟨fun c => absurd c (by decide), fun _ => ⟨fun c => absurd c (by decide), fun _ => ⟨fun c => absurd c (by decide), fun _ => ⟨fun c => absurd c (by decide), fun _ => ⟨fun c => absurd c (by decide), fun _ => ⟨fun c => absurd c (by decide), fun _ => ⟨fun c => absurd c (by decide), fun _ => ⟨fun c => absurd c (by decide), fun _ => ⟨fun c => absurd c (by decide), fun _ => ⟨fun c => absurd c (by decide), fun _ => ⟨fun c => absurd c (by decide), fun _ => ⟨fun c => absurd c (by decide), fun _ => ⟨fun c => absurd c (by decide), fun _ => h⟩⟩⟩⟩⟩⟩⟩⟩⟩⟩⟩⟩⟩⟩⟩⟩⟩⟩
theorem sw27_19 (hG : qGood Ls xs P) {l4 l5 : Int32} (h : (P 74 0 [(0, .int more), (1, .int (2001 : Int32))] [] M (fun v M' => P 75 183 [] (v.toList ++ [.ref 0]) M' Q))) :
    P 75 27 [(0, .ref 0), (2, .int more), (4, .int l4), (5, .int l5)] [.int (iI 19)] M Q := by
  refine v_lw_change_27 hG ?_
  exact ⟨fun c => absurd c (by decide), fun _ => ⟨fun c => absurd c (by decide), fun _ => ⟨fun c => absurd c (by decide), fun _ => ⟨fun c => absurd c (by decide), fun _ => ⟨fun c => absurd c (by decide), fun _ => ⟨fun c => absurd c (by decide), fun _ => ⟨fun c => absurd c (by decide), fun _ => ⟨fun c => absurd c (by decide), fun _ => ⟨fun c => absurd c (by decide), fun _ => ⟨fun c => absurd c (by decide), fun _ => ⟨fun c => absurd c (by decide), fun _ => ⟨fun c => absurd c (by decide), fun _ => ⟨fun c => absurd c (by decide), fun _ => ⟨fun c => absurd c (by decide), fun _ => ⟨fun c => absurd c (by decide), fun _ => ⟨fun c => absurd c (by decide), fun _ => ⟨fun c => absurd c (by decide), fun _ => ⟨fun c => absurd c (by decide), fun _ => h⟩⟩⟩⟩⟩⟩⟩⟩⟩⟩⟩⟩⟩⟩⟩⟩⟩⟩
def xA (more : Int32) : Int := if lwz (more >>> ((10 : Int32) &&& 31)) 3 = 0 then lwz more 199999 - 99999 else lwz more 41 - 20
theorem ch_A (hG : qGood Ls xs P) (hS : CS s M) (hQ : ∀ M', cFrm M M' → CS (tAdd s (xA more)).2 M' → Q (some (.int (iI (tAdd s (xA more)).1))) M') :
    (P 74 0 [(0, .int (more >>> ((10 : Int32) &&& 31))), (1, .int (3 : Int32))] [] M (fun v M' => P 75 35 [(2, .int more)] (v.toList ++ [.int more, .ref 0]) M' Q)) := by
  have h := lwz_in (more >>> ((10 : Int32) &&& 31)) (n := 3) (by omega)
  have h1 := lwz_in more (n := 41) (by omega)
  have h2 := lwz_in more (n := 199999) (by omega)
  unfold xA at hQ
  refine s_lowL hG 3 (by decide) (by omega) (by omega) ?_
  refine v_lw_change_35 hG ⟨fun c => ?_, fun c => ?_⟩
  · rw [iz0 h.1 (by omega)] at c
    simp only [if_neg c] at hQ
    refine s_lowL hG 41 (by decide) (by omega) (by omega) ?_
    refine v_lw_change_40 hG ?_
    refine s_lowL hG 3 (by decide) (by omega) (by omega) ?_
    refine v_lw_change_45 hG ⟨fun _ => ?_, fun c2 => absurd ((iz0 h.1 (by omega)).mp (Classical.not_not.mp c2)) c⟩
    rw [show (20 : Int32) = iI 20 by decide, iI_sub]
    exact C_add hG hS ⟨by omega, by omega⟩ (fun M' hF hS' => v_lw_change_51 hG (hQ M' hF hS'))
  · have c := (iz0 h.1 (by omega)).mp (Classical.not_not.mp c)
    simp only [if_pos c] at hQ
    refine s_lowL hG 199999 (by decide) (by omega) (by omega) ?_
    refine v_lw_change_40 hG ?_
    refine s_lowL hG 3 (by decide) (by omega) (by omega) ?_
    refine v_lw_change_45 hG ⟨fun c2 => absurd ((iz0 h.1 (by omega)).mpr c) c2, fun _ => ?_⟩
    rw [show (99999 : Int32) = iI 99999 by decide, iI_sub]
    exact C_add hG hS ⟨by omega, by omega⟩ (fun M' hF hS' => v_lw_change_51 hG (hQ M' hF hS'))
theorem ch_8 (hG : qGood Ls xs P) (hS : CS s M) (hQ : ∀ M', cFrm M M' → CS (tSkip s (1 + lwz more 3)).2 M' → Q (some (.int (iI (tSkip s (1 + lwz more 3)).1))) M') :
    (P 74 0 [(0, .int more), (1, .int (3 : Int32))] [] M (fun v M' => P 75 57 [] (v.toList ++ [.int (1 : Int32), .ref 0]) M' Q)) := by
  have h := lwz_in more (n := 3) (by omega)
  refine s_lowL hG 3 (by decide) (by omega) (by omega) ?_
  refine v_lw_change_57 hG ?_
  rw [show (1 : Int32) = iI 1 by decide, iI_add]
  exact C_skip hG hS ⟨by omega, by omega⟩ (fun M' hF hS' => v_lw_change_59 hG (hQ M' hF hS'))
def x9 (more : Int32) : Int := if lwz more 3 = 0 then (-1000000001) else lwz more 2001 - 1000
theorem ch_9 (hG : qGood Ls xs P) (hS : CS s M) {i j : Int} (hi : 0 ≤ i ∧ i < 64) (hj : 0 ≤ j ∧ j < 64) (hQ : ∀ M', cFrm M M' → CS (tSet s i (x9 more)).2 M' → Q (some (.int (iI (tSet s i (x9 more)).1))) M') :
    (P 74 0 [(0, .int more), (1, .int (3 : Int32))] [] M (fun v M' => P 75 65 [(2, .int more)] (v.toList ++ [.int (iI i), .ref 0]) M' Q)) := by
  have h := lwz_in more (n := 3) (by omega)
  have h1 := lwz_in more (n := 2001) (by omega)
  unfold x9 at hQ
  refine s_lowL hG 3 (by decide) (by omega) (by omega) ?_
  refine v_lw_change_65 hG ⟨fun c => ?_, fun c => ?_⟩
  · rw [iz0 h.1 (by omega)] at c
    simp only [if_neg c] at hQ
    refine s_lowL hG 2001 (by decide) (by omega) (by omega) ?_
    refine v_lw_change_71 hG ?_
    rw [show (1000 : Int32) = iI 1000 by decide, iI_sub]
    exact C_set hG hS ⟨by omega, by omega⟩ ⟨by omega, by omega⟩ (fun M' hF hS' => v_lw_change_74 hG (hQ M' hF hS'))
  · have c := (iz0 h.1 (by omega)).mp (Classical.not_not.mp c)
    simp only [if_pos c] at hQ
    rw [show (-1000000001 : Int32) = iI (-1000000001) by decide]
    exact C_set hG hS ⟨by omega, by omega⟩ ⟨by omega, by omega⟩ (fun M' hF hS' => v_lw_change_74 hG (hQ M' hF hS'))
def t10 (s : zSt) (more : Int32) : Int × zSt := if lwz more 12 = 0 then tClear s else tUndo s
theorem ch_10 (hG : qGood Ls xs P) (hS : CS s M) (hQ : ∀ M', cFrm M M' → CS (t10 s more).2 M' → Q (some (.int (iI (t10 s more).1))) M') :
    (P 74 0 [(0, .int more), (1, .int (12 : Int32))] [] M (fun v M' => P 75 78 [(0, .ref 0)] (v.toList ++ []) M' Q)) := by
  have h := lwz_in more (n := 12) (by omega)
  unfold t10 at hQ
  refine s_lowL hG 12 (by decide) (by omega) (by omega) ?_
  refine v_lw_change_78 hG ⟨fun c => ?_, fun c => ?_⟩
  · rw [iz0 h.1 (by omega)] at c
    simp only [if_neg c] at hQ
    exact C_undo hG hS (fun M' hF hS' => v_lw_change_84 hG (hQ M' hF hS'))
  · have c := (iz0 h.1 (by omega)).mp (Classical.not_not.mp c)
    simp only [if_pos c] at hQ
    exact C_clear hG hS (fun M' hF hS' => v_lw_change_81 hG (v_lw_change_84 hG (hQ M' hF hS')))
theorem ch_11 (hG : qGood Ls xs P) (hS : CS s M) {i j : Int} (hi : 0 ≤ i ∧ i < 64) (hj : 0 ≤ j ∧ j < 64) (hQ : ∀ M', cFrm M M' → CS (tLine s i j).2 M' → Q (some (.int (iI (tLine s i j).1))) M') :
    (P 38 0 [(0, .ref 0), (1, .int (iI i)), (2, .int (iI j))] [] M (fun v M' => P 75 89 [] (v.toList ++ []) M' Q)) := by
  exact C_removeLine hG hS ⟨by omega, by omega⟩ ⟨by omega, by omega⟩ (fun M' hF hS' => v_lw_change_89 hG (hQ M' hF hS'))
theorem ch_12 (hG : qGood Ls xs P) (hS : CS s M) (hQ : ∀ M', cFrm M M' → CS (tALine s (lwz more 41 - 20) (lwz (more >>> ((8 : Int32) &&& 31)) 2001 - 1000)).2 M' → Q (some (.int (iI (tALine s (lwz more 41 - 20) (lwz (more >>> ((8 : Int32) &&& 31)) 2001 - 1000)).1))) M') :
    (P 74 0 [(0, .int more), (1, .int (41 : Int32))] [] M (fun v M' => P 75 94 [(2, .int more)] (v.toList ++ [.ref 0]) M' Q)) := by
  have h := lwz_in more (n := 41) (by omega)
  have h1 := lwz_in (more >>> ((8 : Int32) &&& 31)) (n := 2001) (by omega)
  refine s_lowL hG 41 (by decide) (by omega) (by omega) ?_
  refine v_lw_change_94 hG ?_
  refine s_lowL hG 2001 (by decide) (by omega) (by omega) ?_
  refine v_lw_change_101 hG ?_
  rw [show (20 : Int32) = iI 20 by decide, show (1000 : Int32) = iI 1000 by decide, iI_sub, iI_sub]
  exact C_addLine hG hS ⟨by omega, by omega⟩ ⟨by omega, by omega⟩ (fun M' hF hS' => v_lw_change_104 hG (hQ M' hF hS'))
theorem ch_13 (hG : qGood Ls xs P) (hS : CS s M) (hQ : ∀ M', cFrm M M' → CS (tDrift s).2 M' → Q (some (.int (iI (tDrift s).1))) M') :
    (P 40 0 [(0, .ref 0)] [] M (fun v M' => P 75 107 [] (v.toList ++ []) M' Q)) := by
  exact C_removeDrift hG hS (fun M' hF hS' => v_lw_change_107 hG (hQ M' hF hS'))
def x14 (more : Int32) : Int := if lwz more 3 = 0 then lwz (more >>> ((2 : Int32) &&& 31)) 40 else lwz (more >>> ((2 : Int32) &&& 31)) 100000
theorem ch_14 (hG : qGood Ls xs P) (hS : CS s M) (hQ : ∀ M', cFrm M M' → CS (tOutl s (x14 more)).2 M' → Q (some (.int (iI (tOutl s (x14 more)).1))) M') :
    (P 74 0 [(0, .int more), (1, .int (3 : Int32))] [] M (fun v M' => P 75 112 [(2, .int more)] (v.toList ++ [.ref 0]) M' Q)) := by
  have h := lwz_in more (n := 3) (by omega)
  have h1 := lwz_in (more >>> ((2 : Int32) &&& 31)) (n := 40) (by omega)
  have h2 := lwz_in (more >>> ((2 : Int32) &&& 31)) (n := 100000) (by omega)
  unfold x14 at hQ
  refine s_lowL hG 3 (by decide) (by omega) (by omega) ?_
  refine v_lw_change_112 hG ⟨fun c => ?_, fun c => ?_⟩
  · rw [iz0 h.1 (by omega)] at c
    simp only [if_neg c] at hQ
    refine s_lowL hG 100000 (by decide) (by omega) (by omega) ?_
    refine v_lw_change_124 hG ?_
    exact C_removeOutliers hG hS ⟨by omega, by omega⟩ (fun M' hF hS' => v_lw_change_125 hG (hQ M' hF hS'))
  · have c := (iz0 h.1 (by omega)).mp (Classical.not_not.mp c)
    simp only [if_pos c] at hQ
    refine s_lowL hG 40 (by decide) (by omega) (by omega) ?_
    refine v_lw_change_118 hG (v_lw_change_124 hG ?_)
    exact C_removeOutliers hG hS ⟨by omega, by omega⟩ (fun M' hF hS' => v_lw_change_125 hG (hQ M' hF hS'))
theorem ch_15 (hG : qGood Ls xs P) (hS : CS s M) (hQ : ∀ M', cFrm M M' → CS (tFill s (1 + lwz more 6)).2 M' → Q (some (.int (iI (tFill s (1 + lwz more 6)).1))) M') :
    (P 74 0 [(0, .int more), (1, .int (6 : Int32))] [] M (fun v M' => P 75 131 [] (v.toList ++ [.int (1 : Int32), .ref 0]) M' Q)) := by
  have h := lwz_in more (n := 6) (by omega)
  refine s_lowL hG 6 (by decide) (by omega) (by omega) ?_
  refine v_lw_change_131 hG ?_
  rw [show (1 : Int32) = iI 1 by decide, iI_add]
  exact C_fill hG hS ⟨by omega, by omega⟩ (fun M' hF hS' => v_lw_change_133 hG (hQ M' hF hS'))
def t16 (s : zSt) (more : Int32) : Int × zSt := if lwz more 6 = 0 then tThin s (1 + lwz (more >>> ((3 : Int32) &&& 31)) 3) 0 else tUndo s
theorem ch_16 (hG : qGood Ls xs P) (hS : CS s M) (hQ : ∀ M', cFrm M M' → CS (t16 s more).2 M' → Q (some (.int (iI (t16 s more).1))) M') :
    (P 74 0 [(0, .int more), (1, .int (6 : Int32))] [] M (fun v M' => P 75 137 [(0, .ref 0), (2, .int more)] (v.toList ++ []) M' Q)) := by
  have h := lwz_in more (n := 6) (by omega)
  have h1 := lwz_in (more >>> ((3 : Int32) &&& 31)) (n := 3) (by omega)
  unfold t16 at hQ
  refine s_lowL hG 6 (by decide) (by omega) (by omega) ?_
  refine v_lw_change_137 hG ⟨fun c => ?_, fun c => ?_⟩
  · rw [iz0 h.1 (by omega)] at c
    simp only [if_neg c] at hQ
    exact C_undo hG hS (fun M' hF hS' => v_lw_change_151 hG (hQ M' hF hS'))
  · have c := (iz0 h.1 (by omega)).mp (Classical.not_not.mp c)
    simp only [if_pos c] at hQ
    refine s_lowL hG 3 (by decide) (by omega) (by omega) ?_
    refine v_lw_change_145 hG ?_
    rw [show (1 : Int32) = iI 1 by decide, iI_add, iL0]
    exact C_thin hG hS ⟨by omega, by omega⟩ ⟨by decide, by decide⟩ (fun M' hF hS' => v_lw_change_148 hG (v_lw_change_151 hG (hQ M' hF hS')))
def t17 (s : zSt) (more : Int32) : Int × zSt := if lwz more 2 = 0 then tKeep s (lwz (more >>> ((1 : Int32) &&& 31)) 2) else if lwz more 6 = 1 then tBack s (lwz (more >>> ((3 : Int32) &&& 31)) 2) else (-9, s)
theorem ch_17 (hG : qGood Ls xs P) (hS : CS s M) (hQ : ∀ M', cFrm M M' → CS (t17 s more).2 M' → Q (some (.int (iI (t17 s more).1))) M') :
    (P 74 0 [(0, .int more), (1, .int (2 : Int32))] [] M (fun v M' => P 75 155 [(0, .ref 0), (2, .int more)] (v.toList ++ []) M' Q)) := by
  have h := lwz_in more (n := 2) (by omega)
  have h1 := lwz_in more (n := 6) (by omega)
  have h2 := lwz_in (more >>> ((1 : Int32) &&& 31)) (n := 2) (by omega)
  have h3 := lwz_in (more >>> ((3 : Int32) &&& 31)) (n := 2) (by omega)
  unfold t17 at hQ
  refine s_lowL hG 2 (by decide) (by omega) (by omega) ?_
  refine v_lw_change_155 hG ⟨fun c => ?_, fun c => ?_⟩
  · rw [iz0 h.1 (by omega)] at c
    simp only [if_neg c] at hQ
    refine s_lowL hG 6 (by decide) (by omega) (by omega) ?_
    refine v_lw_change_167 hG ⟨fun c2 => ?_, fun c2 => ?_⟩
    · rw [show (1 : Int32) = iI 1 by decide, iI_eq (by omega) (by omega) (by omega) (by omega)] at c2
      simp only [if_neg c2] at hQ
      exact hQ M cFrm.rf hS
    · have c2 := Classical.not_not.mp c2
      rw [show (1 : Int32) = iI 1 by decide, iI_eq (by omega) (by omega) (by omega) (by omega)] at c2
      simp only [if_pos c2] at hQ
      refine s_lowL hG 2 (by decide) (by omega) (by omega) ?_
      refine v_lw_change_175 hG ?_
      exact C_back hG hS ⟨by omega, by omega⟩ (fun M' hF hS' => v_lw_change_176 hG (hQ M' hF hS'))
  · have c := (iz0 h.1 (by omega)).mp (Classical.not_not.mp c)
    simp only [if_pos c] at hQ
    refine s_lowL hG 2 (by decide) (by omega) (by omega) ?_
    refine v_lw_change_162 hG ?_
    exact C_keep hG hS ⟨by omega, by omega⟩ (fun M' hF hS' => v_lw_change_163 hG (hQ M' hF hS'))
theorem ch_D (hG : qGood Ls xs P) (hS : CS s M) (hQ : ∀ M', cFrm M M' → CS (tAdd s (lwz more 2001 - 1000)).2 M' → Q (some (.int (iI (tAdd s (lwz more 2001 - 1000)).1))) M') :
    (P 74 0 [(0, .int more), (1, .int (2001 : Int32))] [] M (fun v M' => P 75 183 [] (v.toList ++ [.ref 0]) M' Q)) := by
  have h := lwz_in more (n := 2001) (by omega)
  refine s_lowL hG 2001 (by decide) (by omega) (by omega) ?_
  refine v_lw_change_183 hG ?_
  rw [show (1000 : Int32) = iI 1000 by decide, iI_sub]
  exact C_add hG hS ⟨by omega, by omega⟩ (fun M' hF hS' => v_lw_change_186 hG (hQ M' hF hS'))
def cI (s : zSt) (x : Int32) : Int := if s.1.1 = 0 then 0 else lwz x s.1.1
theorem cI_in (s : zSt) (x : Int32) (h : s.1.1 ≤ 64) : 0 ≤ cI s x ∧ cI s x < 64 := by
  unfold cI
  split
  · omega
  · have := lwz_in x (n := s.1.1) (by omega)
    omega
theorem s_change_pre (hG : qGood Ls xs P) (hS : CS s M) (h : P 75 27 [(0, .ref 0), (2, .int more), (4, .int (iI (cI s (v >>> ((5 : Int32) &&& 31))))), (5, .int (iI (cI s (v >>> ((12 : Int32) &&& 31)))))] [.int (iI (lwz v 20))] M Q) : P 75 0 [(0, .ref 0), (1, .int v), (2, .int more)] [] M Q := by
  have hn := hS.1.2.1
  have k2 : P 75 23 [(0, .ref 0), (1, .int v), (2, .int more), (4, .int (iI (cI s (v >>> ((5 : Int32) &&& 31)))))] [.int (iI (cI s (v >>> ((12 : Int32) &&& 31))))] M Q := by
    refine v_lw_change_23 hG ?_
    refine s_lowL hG 20 (by decide) (by omega) (by omega) ?_
    exact h
  have k1 : P 75 13 [(0, .ref 0), (1, .int v), (2, .int more), (3, .int (iI s.1.1))] [.int (iI (cI s (v >>> ((5 : Int32) &&& 31))))] M Q := by
    refine v_lw_change_13 hG ⟨fun c => ?_, fun c => ?_⟩
    · rw [iz0 (by omega) (by omega)] at c
      refine s_low hG (by omega) (by omega) ?_
      rw [show cI s (v >>> ((12 : Int32) &&& 31)) = lwz (v >>> ((12 : Int32) &&& 31)) s.1.1 from if_neg (by omega)] at k2
      exact k2
    · have c := (iz0 (by omega) (by omega)).mp (Classical.not_not.mp c)
      rw [show cI s (v >>> ((12 : Int32) &&& 31)) = 0 from if_pos (by omega), ← iL0] at k2
      exact k2
  refine v_lw_change_0 hG ?_
  refine C_told0 hG hS ?_
  refine v_lw_change_3 hG ⟨fun c => ?_, fun c => ?_⟩
  · rw [iz0 (by omega) (by omega)] at c
    refine s_low hG (by omega) (by omega) ?_
    rw [show cI s (v >>> ((5 : Int32) &&& 31)) = lwz (v >>> ((5 : Int32) &&& 31)) s.1.1 from if_neg (by omega)] at k1
    exact k1
  · have c := (iz0 (by omega) (by omega)).mp (Classical.not_not.mp c)
    rw [show cI s (v >>> ((5 : Int32) &&& 31)) = 0 from if_pos (by omega), ← iL0] at k1
    exact k1
end CHG
theorem s_change (v more : Int32) (s : zSt) (hn : s.1.1 ≤ 64) : ∃ (r : Int) (s' : zSt), ∀ (Ls : Nat) (xs : Nat → Int32) (P : qSem) (M : qMem) (Q : qPost), qGood Ls xs P → CS s M → (∀ M', cFrm M M' → CS s' M' → Q (some (.int (iI r))) M') → P 75 0 [(0, .ref 0), (1, .int v), (2, .int more)] [] M Q := by
  have hk := lwz_in v (n := 20) (by omega)
  have hi := cI_in s (v >>> ((5 : Int32) &&& 31)) hn
  have hj := cI_in s (v >>> ((12 : Int32) &&& 31)) hn
  rcases (show lwz v 20 = 0 ∨ lwz v 20 = 1 ∨ lwz v 20 = 2 ∨ lwz v 20 = 3 ∨ lwz v 20 = 4 ∨ lwz v 20 = 5 ∨ lwz v 20 = 6 ∨ lwz v 20 = 7 ∨ lwz v 20 = 8 ∨ lwz v 20 = 9 ∨ lwz v 20 = 10 ∨ lwz v 20 = 11 ∨ lwz v 20 = 12 ∨ lwz v 20 = 13 ∨ lwz v 20 = 14 ∨ lwz v 20 = 15 ∨ lwz v 20 = 16 ∨ lwz v 20 = 17 ∨ lwz v 20 = 18 ∨ lwz v 20 = 19 by omega) with c | c | c | c | c | c | c | c | c | c | c | c | c | c | c | c | c | c | c | c
  · exact ⟨(tAdd s (xA more)).1, (tAdd s (xA more)).2, fun Ls xs P M Q hG hS hQ => s_change_pre hG hS (by rw [c]; exact sw27_0 hG (ch_A hG hS hQ))⟩
  · exact ⟨(tAdd s (xA more)).1, (tAdd s (xA more)).2, fun Ls xs P M Q hG hS hQ => s_change_pre hG hS (by rw [c]; exact sw27_1 hG (ch_A hG hS hQ))⟩
  · exact ⟨(tAdd s (xA more)).1, (tAdd s (xA more)).2, fun Ls xs P M Q hG hS hQ => s_change_pre hG hS (by rw [c]; exact sw27_2 hG (ch_A hG hS hQ))⟩
  · exact ⟨(tAdd s (xA more)).1, (tAdd s (xA more)).2, fun Ls xs P M Q hG hS hQ => s_change_pre hG hS (by rw [c]; exact sw27_3 hG (ch_A hG hS hQ))⟩
  · exact ⟨(tAdd s (xA more)).1, (tAdd s (xA more)).2, fun Ls xs P M Q hG hS hQ => s_change_pre hG hS (by rw [c]; exact sw27_4 hG (ch_A hG hS hQ))⟩
  · exact ⟨(tAdd s (xA more)).1, (tAdd s (xA more)).2, fun Ls xs P M Q hG hS hQ => s_change_pre hG hS (by rw [c]; exact sw27_5 hG (ch_A hG hS hQ))⟩
  · exact ⟨(tAdd s (xA more)).1, (tAdd s (xA more)).2, fun Ls xs P M Q hG hS hQ => s_change_pre hG hS (by rw [c]; exact sw27_6 hG (ch_A hG hS hQ))⟩
  · exact ⟨(tAdd s (xA more)).1, (tAdd s (xA more)).2, fun Ls xs P M Q hG hS hQ => s_change_pre hG hS (by rw [c]; exact sw27_7 hG (ch_A hG hS hQ))⟩
  · exact ⟨(tSkip s (1 + lwz more 3)).1, (tSkip s (1 + lwz more 3)).2, fun Ls xs P M Q hG hS hQ => s_change_pre hG hS (by rw [c]; exact sw27_8 hG (ch_8 hG hS hQ))⟩
  · exact ⟨(tSet s (cI s (v >>> ((5 : Int32) &&& 31))) (x9 more)).1, (tSet s (cI s (v >>> ((5 : Int32) &&& 31))) (x9 more)).2, fun Ls xs P M Q hG hS hQ => s_change_pre hG hS (by rw [c]; exact sw27_9 hG (ch_9 hG hS hi hj hQ))⟩
  · exact ⟨(t10 s more).1, (t10 s more).2, fun Ls xs P M Q hG hS hQ => s_change_pre hG hS (by rw [c]; exact sw27_10 hG (ch_10 hG hS hQ))⟩
  · exact ⟨(tLine s (cI s (v >>> ((5 : Int32) &&& 31))) (cI s (v >>> ((12 : Int32) &&& 31)))).1, (tLine s (cI s (v >>> ((5 : Int32) &&& 31))) (cI s (v >>> ((12 : Int32) &&& 31)))).2, fun Ls xs P M Q hG hS hQ => s_change_pre hG hS (by rw [c]; exact sw27_11 hG (ch_11 hG hS hi hj hQ))⟩
  · exact ⟨(tALine s (lwz more 41 - 20) (lwz (more >>> ((8 : Int32) &&& 31)) 2001 - 1000)).1, (tALine s (lwz more 41 - 20) (lwz (more >>> ((8 : Int32) &&& 31)) 2001 - 1000)).2, fun Ls xs P M Q hG hS hQ => s_change_pre hG hS (by rw [c]; exact sw27_12 hG (ch_12 hG hS hQ))⟩
  · exact ⟨(tDrift s).1, (tDrift s).2, fun Ls xs P M Q hG hS hQ => s_change_pre hG hS (by rw [c]; exact sw27_13 hG (ch_13 hG hS hQ))⟩
  · exact ⟨(tOutl s (x14 more)).1, (tOutl s (x14 more)).2, fun Ls xs P M Q hG hS hQ => s_change_pre hG hS (by rw [c]; exact sw27_14 hG (ch_14 hG hS hQ))⟩
  · exact ⟨(tFill s (1 + lwz more 6)).1, (tFill s (1 + lwz more 6)).2, fun Ls xs P M Q hG hS hQ => s_change_pre hG hS (by rw [c]; exact sw27_15 hG (ch_15 hG hS hQ))⟩
  · exact ⟨(t16 s more).1, (t16 s more).2, fun Ls xs P M Q hG hS hQ => s_change_pre hG hS (by rw [c]; exact sw27_16 hG (ch_16 hG hS hQ))⟩
  · exact ⟨(t17 s more).1, (t17 s more).2, fun Ls xs P M Q hG hS hQ => s_change_pre hG hS (by rw [c]; exact sw27_17 hG (ch_17 hG hS hQ))⟩
  · exact ⟨(tAdd s (lwz more 2001 - 1000)).1, (tAdd s (lwz more 2001 - 1000)).2, fun Ls xs P M Q hG hS hQ => s_change_pre hG hS (by rw [c]; exact sw27_18 hG (ch_D hG hS hQ))⟩
  · exact ⟨(tAdd s (lwz more 2001 - 1000)).1, (tAdd s (lwz more 2001 - 1000)).2, fun Ls xs P M Q hG hS hQ => s_change_pre hG hS (by rw [c]; exact sw27_19 hG (ch_D hG hS hQ))⟩
