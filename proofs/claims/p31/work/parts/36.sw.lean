/-! two analyzers: the second is the first under other names -/
def sg (k : Nat) : Nat := if k < 36 then k + 36 else if k < 72 then k - 36 else k
def swM (M : qMem) : qMem := (fun k => M.1 (sg k), fun k => M.2 (sg k))
theorem sg_1 {k : Nat} (h : k < 36) : sg k = k + 36 := if_pos h
theorem sg_2 {k : Nat} (h1 : ¬ k < 36) (h : k < 72) : sg k = k - 36 := by
  unfold sg
  rw [if_neg h1, if_pos h]
theorem sg_3 {k : Nat} (h : ¬ k < 72) : sg k = k := by
  unfold sg
  rw [if_neg (by omega), if_neg h]
theorem sg_sg (k : Nat) : sg (sg k) = k := by
  by_cases h1 : k < 36
  · rw [sg_1 h1, sg_2 (by omega) (by omega)]
    omega
  · by_cases h2 : k < 72
    · rw [sg_2 h1 h2, sg_1 (by omega)]
      omega
    · rw [sg_3 h2, sg_3 h2]
theorem sg_lt {k : Nat} (h : k < 72) : sg k < 72 := by
  by_cases h1 : k < 36
  · rw [sg_1 h1]
    omega
  · rw [sg_2 h1 h]
    omega
theorem sg_lo {k : Nat} (h : k < 36) : sg k = k + 36 := if_pos h
theorem sg_1000 : sg 1000 = 1000 := rfl
theorem swM_swM (M : qMem) : swM (swM M) = M := by
  show ((fun k => M.1 (sg (sg k)), fun k => M.2 (sg (sg k))) : qMem) = M
  simp only [sg_sg]
theorem sg_sh : ∀ k, k < 72 → shT (sg k) = shT k ∧ shL (sg k) = shL k := by decide
theorem rfTl_lt : ∀ l ∈ rfTl, ∀ x ∈ l, x < 36 := by decide
theorem rf0_lt (k j : Nat) : (rfTl.getD k []).getD j 0 < 36 := by
  rw [List.getD_eq_getElem?_getD]
  cases h : (rfTl.getD k [])[j]? with
  | none => exact Nat.zero_lt_succ _
  | some x =>
    show x < 36
    rw [List.getD_eq_getElem?_getD] at h
    cases h2 : rfTl[k]? with
    | none =>
      rw [h2] at h
      simp at h
    | some l =>
      rw [h2] at h
      exact rfTl_lt l (List.mem_of_getElem? h2) x (List.mem_of_getElem? h)
theorem sg_rf {k : Nat} (h : k < 72) (j : Nat) : sg (rf k j) = rf (sg k) j := by
  have hl : ∀ k, k < 36 → rf k j = (rfTl.getD k []).getD j 0 := fun k hk => by
    unfold rf
    rw [show Nat.ble 36 k = false by
      cases e : Nat.ble 36 k with
      | false => rfl
      | true => exact absurd (Nat.le_of_ble_eq_true e) (by omega)]
    rfl
  have hh : ∀ k, 36 ≤ k → rf k j = 36 + (rfTl.getD (k - 36) []).getD j 0 := fun k hk => by
    unfold rf
    rw [Nat.ble_eq_true_of_le hk]
    rfl
  rcases Nat.lt_or_ge k 36 with q | q
  · rw [sg_lo q, hl k q, hh (k + 36) (by omega), sg_lo (rf0_lt k j), Nat.add_sub_cancel]
    omega
  · have e : sg k = k - 36 := by
      unfold sg
      rw [if_neg (by omega), if_pos h]
    have h2 := rf0_lt (k - 36) j
    rw [e, hh k q, hl (k - 36) (by omega)]
    unfold sg
    rw [if_neg (by omega), if_pos (by omega)]
    omega
section SW
variable {l : Launch} {ad : Nat → Nat} {dC : Nat → ClassId} {dI : Nat → Nat → Nat} {aC : Nat → ClassId} {b Ls : Nat} {xs : Nat → Int32}
theorem ent_sw (M : qMem) {k : Nat} (hk : k < 72) : ent (fun a => ad (sg a)) aC M k = ent ad aC (swM M) (sg k) := by
  have e1 : (swM M).1 (sg k) = M.1 k := by
    show M.1 (sg (sg k)) = M.1 k
    rw [sg_sg]
  have e2 : (swM M).2 (sg k) = M.2 k := by
    show M.2 (sg (sg k)) = M.2 k
    rw [sg_sg]
  unfold ent fv
  simp only [(sg_sh k hk).1, (sg_sh k hk).2, e1, e2, sg_rf hk]
theorem wl_sw (M : qMem) {k : Nat} (hk : k < 72) : (wl (fun a => ad (sg a)) aC M)[k]? = (wl ad aC (swM M))[sg k]? := by
  rw [wl_get hk, wl_get (sg_lt hk), ent_sw M hk]
theorem va_P_sw {M : qMem} {H : Heap} (h : va_P (dC, dI) vwCl (wl ad aC (swM M)) H) : va_P (dC, dI) vwCl (wl (fun a => ad (sg a)) aC M) H := by
  intro k q hq
  have hk : k < 72 := by
    have h1 := (List.getElem?_eq_some_iff.mp hq).1
    have hlen : (wl (fun a => ad (sg a)) aC M).length = 72 := by simp [wl]
    omega
  rw [wl_sw M hk] at hq
  exact h (sg k) q hq
theorem va_P_ws {M : qMem} {H : Heap} (h : va_P (dC, dI) vwCl (wl (fun a => ad (sg a)) aC M) H) : va_P (dC, dI) vwCl (wl ad aC (swM M)) H := by
  intro k q hq
  have hk : k < 72 := by
    have h1 := (List.getElem?_eq_some_iff.mp hq).1
    have hlen : (wl ad aC (swM M)).length = 72 := by simp [wl]
    omega
  refine h (sg k) q ?_
  rw [wl_sw M (sg_lt hk), sg_sg]
  exact hq
theorem qA_sw : qA (fun a => ad (sg a)) = qA ad := by
  funext q
  refine propext ⟨fun h => ?_, fun h => ?_⟩
  · obtain ⟨k, hk, e⟩ := h
    exact ⟨sg k, sg_lt hk, e⟩
  · obtain ⟨k, hk, e⟩ := h
    refine ⟨sg k, sg_lt hk, ?_⟩
    rw [e]
    show ad k = ad (sg (sg k))
    rw [sg_sg]
theorem qAd_sw (hA : qAd ad b) : qAd (fun a => ad (sg a)) b := ⟨fun i j hi hj e => by
    have h := hA.1 (sg i) (sg j) (sg_lt hi) (sg_lt hj) e
    rw [← sg_sg i, h, sg_sg], fun k hk => hA.2.1 _ (sg_lt hk), hA.2.2⟩
theorem PM_sw {y i : Nat} {L L' : qLc} {stk stk' : List Value} {M : qMem} {Q : qPost} (hL : trL ad L' = trL (fun a => ad (sg a)) L) (hs : trS ad stk' = trS (fun a => ad (sg a)) stk)
    (h : PM l (fun a => ad (sg a)) dC dI aC b Ls xs y i L stk (swM M) (fun v M' => (∃ r, v = some (.int r)) ∧ Q v (swM M'))) : PM l ad dC dI aC b Ls xs y i L' stk' M Q := by
  intro p e R s m args below meth c H locs cells slots ls G C hP hS hl hr
  rw [hL] at hl
  rw [hs]
  refine h p e R s m args below meth c H locs cells slots ls G C (va_P_sw (by rw [swM_swM]; exact hP)) (by rw [qA_sw]; exact hS) hl ?_
  intro v M' H' locs' ls' pc' hret hq hP' hS'
  obtain ⟨⟨r, rfl⟩, hq⟩ := hq
  rw [qA_sw] at hS'
  exact hr (some (.int r)) (swM M') H' locs' ls' pc' hret hq (va_P_ws hP') hS'
end SW
/-- the second analyzer's calls in the words of the first's -/
def qTw (P P2 : qSem) : Prop := ∀ (y : Nat) (zs : List (Nat × Int32)) (M : qMem) (Q : qPost), P2 y 0 ((0, .ref 0) :: zs.map (fun q => (q.1, .int q.2))) [] (swM M) (fun v M' => (∃ r, v = some (.int r)) ∧ Q v (swM M')) → P y 0 ((0, .ref 36) :: zs.map (fun q => (q.1, .int q.2))) [] M Q
theorem qTw_PM {l : Launch} {ad : Nat → Nat} {dC : Nat → ClassId} {dI : Nat → Nat → Nat} {aC : Nat → ClassId} {b Ls : Nat} {xs : Nat → Int32} : qTw (PM l ad dC dI aC b Ls xs) (PM l (fun a => ad (sg a)) dC dI aC b Ls xs) := by
  intro y zs M Q h
  refine PM_sw ?_ rfl h
  unfold trL
  simp only [List.map_cons, List.map_map]
  congr 1
theorem mFrm_sw {M M' : qMem} (h : cFrm M M') : mFrm (swM M) (swM M') := fun a ha => by
  show M'.1 (sg a) = M.1 (sg a)
  rw [sg_lo ha]
  exact h (a + 36) (by omega)
theorem mFrm_ws {M M2 : qMem} (h : cFrm (swM M) M2) : mFrm M (swM M2) := fun a ha => by
  show M2.1 (sg a) = M.1 a
  rw [sg_lo ha, h (a + 36) (by omega)]
  show M.1 (sg (a + 36)) = M.1 a
  rw [← sg_lo ha, sg_sg]
/-- both analyzers hold the same -/
def CC (s : zSt) (M : qMem) : Prop := CS s M ∧ CS s (swM M)
