/-! areAlike, and the law's loop -/
section LAW
variable {Ls : Nat} {xs : Nat → Int32} {P P2 : qSem} {M : qMem} {Q : qPost} {s : zSt}
theorem CC.q {M' : qMem} (h : CC s M) (hF : qFm [34, 35] M M') : CC s M' := ⟨h.1.q hF, h.2.fr (mFrm_sw (cFrm.of hF (by decide)))⟩
theorem C_toldw (hG : qGood Ls xs P) (hS : CS s M) {w : Int} (hw : r32 w) (hQ : Q (some (.int (iI (aTold s.1.1 s.1.2 s.2.2.2.1.1 s.2.1.1 w)))) M) : P 45 0 [(0, .ref 0), (1, .int (iI w))] [] M Q := C_told hG hS.1 hS.2.2.2.1.1 hS.dep hw hQ
theorem L_areAlike (hG : qGood Ls xs P) (hG2 : qGood Ls xs P2) (hT : qTw P P2) (hS : CC s M) (hQ : Q (some (.int (1 : Int32))) M) : P 80 0 [(0, .ref 0), (1, .ref 36)] [] M Q := by
  have hn := hS.1.1.2.1
  refine v_lw_areAlike_0 hG ?_
  have key2 : ∀ (d i : Nat), i + d = s.1.1 → P 80 27 [(0, .ref 0), (1, .ref 36), (2, .int (1 : Int32)), (3, .int (iI i))] [] M Q := by
    intro d
    induction d with
    | zero =>
      intro i hi
      refine v_lw_areAlike_27 hG ?_
      refine C_told0 hG hS.1 ?_
      refine v_lw_areAlike_31 hG ⟨fun _ => ⟨by decide, hQ⟩, fun c => absurd ?_ c⟩
      rw [iI_le (by omega) (by omega) (by omega) (by omega)]
      omega
    | succ d ih =>
      intro i hi
      refine v_lw_areAlike_27 hG ?_
      refine C_told0 hG hS.1 ?_
      refine v_lw_areAlike_31 hG ⟨fun c => ?_, fun _ => ⟨fun c => absurd c (by decide), fun _ => ?_⟩⟩
      · rw [iI_le (by omega) (by omega) (by omega) (by omega)] at c
        omega
      refine C_rdg hG hS.1.1 rfl (by omega) ?_
      refine v_lw_areAlike_37 hG ?_
      refine hT 46 [(1, iI i)] M _ ?_
      refine C_rdg hG2 hS.2.1 rfl (by omega) ?_
      refine ⟨⟨_, rfl⟩, ?_⟩
      rw [swM_swM]
      refine v_lw_areAlike_40 hG ⟨fun c => absurd rfl c, fun _ => ?_⟩
      rw [show iI i + (1 : Int32) = iI (i + 1 : Nat) by rw [iL1, iI_add]; rfl]
      exact ih (i + 1) (by omega)
  have key1 : ∀ (d j : Nat), j + d = 9 → P 80 4 [(0, .ref 0), (1, .ref 36), (2, .int (1 : Int32)), (3, .int (iI j))] [] M Q := by
    intro d
    induction d with
    | zero =>
      intro j hj
      have e : j = 9 := by omega
      subst e
      exact v_lw_areAlike_4 hG ⟨fun _ => key2 s.1.1 0 (by omega), fun c => absurd (by decide) c⟩
    | succ d ih =>
      intro j hj
      have hI := ih (j + 1) (by omega)
      rw [show iI (j + 1 : Nat) = iI j + (1 : Int32) by rw [iL1, iI_add]; rfl] at hI
      refine v_lw_areAlike_4 hG ⟨fun c => ?_, fun _ => ⟨fun c => absurd c (by decide), fun _ => ⟨fun _ => hI, fun _ => ?_⟩⟩⟩
      · rw [show (9 : Int32) = iI 9 by decide, iI_le (by omega) (by omega) (by omega) (by omega)] at c
        omega
      refine C_toldw hG hS.1 ⟨by omega, by omega⟩ ?_
      refine v_lw_areAlike_15 hG ?_
      refine hT 45 [(1, iI j)] M _ ?_
      refine C_toldw hG2 hS.2 ⟨by omega, by omega⟩ ?_
      refine ⟨⟨_, rfl⟩, ?_⟩
      rw [swM_swM]
      exact v_lw_areAlike_18 hG ⟨fun c => absurd rfl c, fun _ => hI⟩
  exact key1 9 0 (by omega)
theorem s_cellL (hG : qGood Ls xs P) (hL : Ls ≤ 260) {x : Int32} (k : Nat) (e : x = iI k) (hk : k < 1000) (hQ : Q (some (.int (cellz Ls xs k))) M) : P 73 0 [(0, .ref 1000), (1, .int x)] [] M Q := by
  subst e
  exact s_cell hG hL hk hQ
theorem law_end (hG : qGood Ls xs P) (hG2 : qGood Ls xs P2) (hT : qTw P P2) (hL : Ls ≤ 260) (hS : CC s M) (hQ : ∀ M', Q (some (.int (1 : Int32))) M') : P 73 0 [(0, .ref 1000), (1, .int (80 : Int32))] [] M (fun v M' => P 81 85 [(0, .ref 1000), (1, .ref 0), (2, .ref 36)] (v.toList ++ [.ref 0]) M' Q) := by
  refine s_cellL hG hL 80 (by decide) (by omega) ?_
  have hw := lwz_in (cellz Ls xs 80) (n := 4) (by omega)
  have h1 := lwz_in (cellz Ls xs 81) (n := 41) (by omega)
  have h2 := lwz_in (cellz Ls xs 82) (n := 201) (by omega)
  have h3 := lwz_in (cellz Ls xs 83) (n := 4) (by omega)
  refine v_lw_law_85 hG ?_
  refine s_lowL hG 4 (by decide) (by omega) (by omega) ?_
  refine v_lw_law_87 hG ?_
  refine L_areCompared hG hS.1.1 ⟨hw.1, by omega⟩ (fun M1 hF1 => ?_)
  have hS1 := hS.q hF1
  refine v_lw_law_88 hG ⟨fun c => absurd c (by decide), fun _ => ?_⟩
  refine L_areAlike hG hG2 hT hS1 ?_
  refine v_lw_law_92 hG ⟨fun c => absurd c (by decide), fun _ => ?_⟩
  refine s_cellL hG hL 81 (by decide) (by omega) ?_
  refine v_lw_law_97 hG ?_
  refine s_lowL hG 41 (by decide) (by omega) (by omega) ?_
  refine v_lw_law_99 hG ?_
  refine s_cellL hG hL 82 (by decide) (by omega) ?_
  refine v_lw_law_104 hG ?_
  refine s_lowL hG 201 (by decide) (by omega) (by omega) ?_
  refine v_lw_law_106 hG ?_
  refine s_cellL hG hL 83 (by decide) (by omega) ?_
  refine v_lw_law_112 hG ?_
  refine s_lowL hG 4 (by decide) (by omega) (by omega) ?_
  refine v_lw_law_114 hG ?_
  have e3 : (1 : Int32) + iI (lwz (cellz Ls xs 83) 4) = iI (((lwz (cellz Ls xs 83) 4).toNat + 1 : Nat) : Int) := by
    rw [iL1, iI_add]
    congr 1
    omega
  rw [e3, show (20 : Int32) = iI 20 by decide, show (100 : Int32) = iI 100 by decide, iI_sub, iI_sub]
  refine L_isLine hG hS1.1 (by omega) (by omega) (by omega) (by omega) (fun M2 => ?_)
  exact v_lw_law_116 hG ⟨fun c => absurd c (by decide), fun _ => ⟨by decide, hQ M2⟩⟩
theorem law_52 (hG : qGood Ls xs P) (hS : CC s M) {t : Nat} (ht : t < 40) {v : Int32} {z : Int} (hz : 0 ≤ z ∧ z < 31)
    (hN : ∀ M', CC s M' → P 81 10 [(0, .ref 1000), (1, .ref 0), (2, .ref 36), (3, .int (iI (t + 1 : Nat)))] [] M' Q) :
    P 81 52 [(0, .ref 1000), (1, .ref 0), (2, .ref 36), (3, .int (iI t)), (4, .int v)] [.int (iI z), .int (1 : Int32)] M Q := by
  have e1 : iI t + (1 : Int32) = iI (t + 1 : Nat) := by
    rw [iL1, iI_add]
    rfl
  have e3 : (1 : Int32) + iI z = iI ((z.toNat + 1 : Nat) : Int) := by
    rw [iL1, iI_add]
    congr 1
    omega
  have hw := lwz_in (v >>> ((7 : Int32) &&& 31)) (n := 4) (by omega)
  refine v_lw_law_52 hG ⟨by decide, ⟨fun _ => ?_, fun _ => ?_⟩⟩
  · rw [e1]
    exact hN M hS
  rw [e3]
  refine L_areDifferences hG hS.1 (by omega) (by omega) ?_
  refine v_lw_law_62 hG ⟨fun c => absurd c (by decide), fun _ => ?_⟩
  refine s_lowL hG 4 (by decide) (by omega) (by omega) ?_
  refine v_lw_law_69 hG ?_
  refine L_isVariance hG hS.1.1 ⟨hw.1, by omega⟩ (by omega) (by omega) (fun M1 hF1 => ?_)
  have hS1 := hS.q hF1
  refine v_lw_law_71 hG ⟨fun c => absurd c (by decide), fun _ => ?_⟩
  rw [show (2 : Int32) = iI 2 by decide, show P 77 0 [(0, .ref 0), (1, .int (iI 2)), (2, .int (1 : Int32))] = P 77 0 [(0, .ref 0), (1, .int (iI 2)), (2, .int (iI ((1 : Nat) : Int)))] by rw [iL1]; rfl]
  refine L_isVariance hG hS1.1.1 (w := 2) (m := 1) ⟨by decide, by decide⟩ (by omega) (by omega) (fun M2 hF2 => ?_)
  refine v_lw_law_76 hG ⟨fun _ => ?_, fun c => absurd (by decide) c⟩
  rw [e1]
  exact hN M2 (hS1.q hF2)
theorem law_loop (hG : qGood Ls xs P) (hG2 : qGood Ls xs P2) (hT : qTw P P2) (hL : Ls ≤ 260) (hQ : ∀ M', Q (some (.int (1 : Int32))) M') : ∀ (d t : Nat) (M : qMem) (s : zSt), t + d = 40 → CC s M → P 81 10 [(0, .ref 1000), (1, .ref 0), (2, .ref 36), (3, .int (iI t))] [] M Q := by
  intro d
  induction d with
  | zero =>
    intro t M s ht hS
    have e : t = 40 := by omega
    subst e
    exact v_lw_law_10 hG ⟨fun _ => law_end hG hG2 hT hL hS hQ, fun c => absurd (by decide) c⟩
  | succ d ih =>
    intro t M s ht hS
    refine v_lw_law_10 hG ⟨fun c => ?_, fun _ => ?_⟩
    · rw [show (40 : Int32) = iI 40 by decide, iI_le (by omega) (by omega) (by omega) (by omega)] at c
      omega
    refine s_cellL hG hL (2 * t) (by rw [iL2, iI_mul, Int.natCast_mul]; rfl) (by omega) ?_
    refine v_lw_law_18 hG ?_
    refine s_cellL hG hL (2 * t + 1) (by rw [iL2, iL1, iI_mul, iI_add, Int.natCast_add, Int.natCast_mul]; rfl) (by omega) ?_
    refine v_lw_law_26 hG ?_
    generalize cellz Ls xs (2 * t) = v
    generalize cellz Ls xs (2 * t + 1) = more
    obtain ⟨r, s', hc⟩ := s_change v more s hS.1.1.2.1
    refine hc Ls xs P M _ hG hS.1 (fun M1 hF1 hS1 => ?_)
    have hq1 := hS.2.fr (mFrm_sw hF1)
    refine v_lw_law_31 hG ?_
    refine hT 75 [(1, v), (2, more)] M1 _ ?_
    refine hc Ls xs P2 (swM M1) _ hG2 hq1 (fun M2 hF2 hS2 => ?_)
    have hS3 : CC s' (swM M2) := ⟨hS1.fr (mFrm_ws hF2), by rw [swM_swM]; exact hS2⟩
    refine ⟨⟨_, rfl⟩, ?_⟩
    have h5 := lwz_in (more >>> ((4 : Int32) &&& 31)) (n := 5) (by omega)
    have h31 := lwz_in (more >>> ((4 : Int32) &&& 31)) (n := 31) (by omega)
    refine v_lw_law_35 hG ⟨fun _ => ?_, fun c => absurd rfl c⟩
    refine s_lowL hG 3 (by decide) (by omega) (by omega) ?_
    refine v_lw_law_47 hG ⟨fun _ => ?_, fun _ => ?_⟩
    · refine s_lowL hG 5 (by decide) (by omega) (by omega) ?_
      exact law_52 hG hS3 (by omega) ⟨h5.1, by omega⟩ (fun M' hS' => ih (t + 1) M' s' (by omega) hS')
    · refine s_lowL hG 31 (by decide) (by omega) (by omega) ?_
      exact law_52 hG hS3 (by omega) ⟨h31.1, by omega⟩ (fun M' hS' => ih (t + 1) M' s' (by omega) hS')
end LAW
