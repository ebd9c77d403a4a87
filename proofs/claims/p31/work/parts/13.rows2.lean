/-! the abstract machine stands for the machine: fields, arrays, switches -/
section QS
variable {l : Launch} {ad : Nat → Nat} {dC : Nat → ClassId} {dI : Nat → Nat → Nat} {aC : Nat → ClassId} {b Ls : Nat} {xs : Nat → Int32}
variable {y i len : Nat} {o : qOp} {L : qLc} {stk : List Value} {M : qMem} {Q : qPost}
theorem sd_getfield (hA : qAd ad b) {idx : Nat} (hdg : decode (mB y) (pcA y i) = .ok (.getfield idx, len)) (ho : chkO y i (pcA y i) (.getfield idx) len o = true) (h : qStep Ls xs (PM l ad dC dI aC b Ls xs) y i o L stk M Q) : PM l ad dC dI aC b Ls xs y i L stk M Q := by
  obtain ⟨c0, a0, b0, d0, v0, l0⟩ := o
  simp only [chkO, Bool.and_eq_true, Bool.or_eq_true] at ho
  obtain ⟨⟨g1, g2⟩, g3⟩ := ho
  have z1 := q_bq g1
  subst z1
  have z2 := q_bq g2
  rcases g3 with ((((g3 | g3) | g3) | g3) | g3) | g3
  · obtain ⟨⟨g4, g5⟩, g6⟩ := g3
    have z0 := q_bq g4
    try dsimp only at z0
    subst z0
    have z6 := q_bq g6
    try dsimp only at z6
    replace h : qx_34 (PM l ad dC dI aC b Ls xs) y i _ L stk M Q := q_g4 h rfl rfl rfl rfl
    dsimp only [qx_34] at h
    split at h
    · rename_i k st
      obtain ⟨h0, h⟩ := h
      simp only [chkF, Bool.and_eq_true] at g5
      obtain ⟨⟨⟨g7, g8⟩, g9⟩, g10⟩ := g5
      have w7 : a0 < 7 := Nat.le_of_ble_eq_true g7
      have w8 : b0 < cN a0 := Nat.le_of_ble_eq_true g8
      have w10 : (cT a0 b0).1 = cC a0 := of_decide_eq_true g10
      intro p e R s m args below meth c H locs cells slots ls G C hP hS hl hr
      obtain ⟨hx, hb, hml, hown, hts, -, -, -, -, hK, hX, hbl, hN⟩ := id C
      have hk44 : k < 72 := sh_lt (by omega)
      have he := wl_get (ad := ad) (aC := aC) (M := M) hk44
      rw [ent_o h0 w7] at he
      have hv : ((List.range (cN a0)).map (fv ad M a0 k))[b0]? = some (tr ad (.int (M.1 k b0))) := by
        rw [List.getElem?_map, List.getElem?_range w8]
        show some (fv ad M a0 k b0) = _
        unfold fv
        rw [z6]
        rfl
      refine va_get (D := (dC, dI)) hx hb hts (cls_w a0 w7) hown hK hP k he (cls_c a0 w7) b0 w8 (hts _ (tbw_T g9 rfl)) (fun x hx9 => by rw [← w10]; exact hx9) hv hdg ?_
      rw [← z2]
      exact h p e R s m args below meth c H locs cells slots ls G C hP hS hl hr
    · exact h.elim
  · obtain ⟨⟨g4, g5⟩, g6⟩ := g3
    have z0 := q_bq g4
    try dsimp only at z0
    subst z0
    have z6 := q_bq g6
    try dsimp only at z6
    replace h : qx_35 (PM l ad dC dI aC b Ls xs) y i _ L stk M Q := q_g4 h rfl rfl rfl rfl
    dsimp only [qx_35] at h
    split at h
    · rename_i k st
      obtain ⟨h0, h⟩ := h
      simp only [chkF, Bool.and_eq_true] at g5
      obtain ⟨⟨⟨g7, g8⟩, g9⟩, g10⟩ := g5
      have w7 : a0 < 7 := Nat.le_of_ble_eq_true g7
      have w8 : b0 < cN a0 := Nat.le_of_ble_eq_true g8
      have w10 : (cT a0 b0).1 = cC a0 := of_decide_eq_true g10
      intro p e R s m args below meth c H locs cells slots ls G C hP hS hl hr
      obtain ⟨hx, hb, hml, hown, hts, -, -, -, -, hK, hX, hbl, hN⟩ := id C
      have hk44 : k < 72 := sh_lt (by omega)
      have he := wl_get (ad := ad) (aC := aC) (M := M) hk44
      rw [ent_o h0 w7] at he
      have hv : ((List.range (cN a0)).map (fv ad M a0 k))[b0]? = some (tr ad (.long (M.2 k b0))) := by
        rw [List.getElem?_map, List.getElem?_range w8]
        show some (fv ad M a0 k b0) = _
        unfold fv
        rw [z6]
        rfl
      refine va_get (D := (dC, dI)) hx hb hts (cls_w a0 w7) hown hK hP k he (cls_c a0 w7) b0 w8 (hts _ (tbw_T g9 rfl)) (fun x hx9 => by rw [← w10]; exact hx9) hv hdg ?_
      rw [← z2]
      exact h p e R s m args below meth c H locs cells slots ls G C hP hS hl hr
    · exact h.elim
  · obtain ⟨⟨g4, g5⟩, g6⟩ := g3
    have z0 := q_bq g4
    try dsimp only at z0
    subst z0
    have z6 := q_bq g6
    try dsimp only at z6
    replace h : qx_36 (PM l ad dC dI aC b Ls xs) y i _ L stk M Q := q_g4 h rfl rfl rfl rfl
    dsimp only [qx_36] at h
    split at h
    · rename_i k st
      obtain ⟨h0, h⟩ := h
      simp only [chkF, Bool.and_eq_true] at g5
      obtain ⟨⟨⟨g7, g8⟩, g9⟩, g10⟩ := g5
      have w7 : a0 < 7 := Nat.le_of_ble_eq_true g7
      have w8 : b0 < cN a0 := Nat.le_of_ble_eq_true g8
      have w10 : (cT a0 b0).1 = cC a0 := of_decide_eq_true g10
      intro p e R s m args below meth c H locs cells slots ls G C hP hS hl hr
      obtain ⟨hx, hb, hml, hown, hts, -, -, -, -, hK, hX, hbl, hN⟩ := id C
      have hk44 : k < 72 := sh_lt (by omega)
      have he := wl_get (ad := ad) (aC := aC) (M := M) hk44
      rw [ent_o h0 w7] at he
      have hv : ((List.range (cN a0)).map (fv ad M a0 k))[b0]? = some (tr ad (.ref (rf k b0))) := by
        rw [List.getElem?_map, List.getElem?_range w8]
        show some (fv ad M a0 k b0) = _
        unfold fv
        rw [z6]
        rfl
      refine va_get (D := (dC, dI)) hx hb hts (cls_w a0 w7) hown hK hP k he (cls_c a0 w7) b0 w8 (hts _ (tbw_T g9 rfl)) (fun x hx9 => by rw [← w10]; exact hx9) hv hdg ?_
      rw [← z2]
      exact h p e R s m args below meth c H locs cells slots ls G C hP hS hl hr
    · exact h.elim
  · obtain ⟨⟨g4, g5⟩, g6⟩ := g3
    have z0 := q_bq g4
    try dsimp only at z0
    subst z0
    have z6 := q_bq g6
    try dsimp only at z6
    replace h : qx_60 (PM l ad dC dI aC b Ls xs) y i _ L stk M Q := q_g7 h rfl rfl rfl rfl rfl rfl
    dsimp only [qx_60] at h
    split at h
    · rename_i k st
      obtain ⟨h0, h⟩ := h
      simp only [chkG, Bool.and_eq_true] at g5
      obtain ⟨⟨⟨g7, g8⟩, g9⟩, g10⟩ := g5
      have w7 : a0 < 7 := Nat.le_of_ble_eq_true g7
      have w8 : b0 < cN a0 := Nat.le_of_ble_eq_true g8
      have w10 : (cT a0 b0).1 = cC a0 := of_decide_eq_true g10
      intro p e R s m args below meth c H locs cells slots ls G C hP hS hl hr
      obtain ⟨hx, hb, hml, hown, hts, -, -, -, -, hK, hX, hbl, hN⟩ := id C
      have hk44 : k < 72 := sh_lt (by omega)
      have he := wl_get (ad := ad) (aC := aC) (M := M) hk44
      rw [ent_o h0 w7] at he
      have hv : ((List.range (cN a0)).map (fv ad M a0 k))[b0]? = some (tr ad (.int (M.1 k b0))) := by
        rw [List.getElem?_map, List.getElem?_range w8]
        show some (fv ad M a0 k b0) = _
        unfold fv
        rw [z6]
        rfl
      have hq : ∃ t, t ∈ qNst ∧ qNw t = .fieldLinkNest (mO y) idx (cC a0) (cT a0 b0).2.1 (cT a0 b0).2.2.1 "StabilityAnalyzer" := by
        have q9 := of_decide_eq_true g9
        cases hz : qNst[d0]? with
        | none => rw [hz] at q9; cases q9
        | some t => rw [hz] at q9; exact ⟨t, List.mem_of_getElem? hz, Option.some.inj q9⟩
      obtain ⟨t, ht, hqt⟩ := hq
      have hln := hN t ht
      rw [hqt] at hln
      refine va_getN (D := (dC, dI)) hx hb hts (cls_w a0 w7) hown hK hP k he (cls_c a0 w7) b0 w8 (va_Nw.use rfl hln) (fun x hx9 => by rw [← w10]; exact hx9) hv hdg ?_
      rw [← z2]
      exact h p e R s m args below meth c H locs cells slots ls G C hP hS hl hr
    · exact h.elim
  · obtain ⟨⟨g4, g5⟩, g6⟩ := g3
    have z0 := q_bq g4
    try dsimp only at z0
    subst z0
    have z6 := q_bq g6
    try dsimp only at z6
    replace h : qx_61 (PM l ad dC dI aC b Ls xs) y i _ L stk M Q := q_g7 h rfl rfl rfl rfl rfl rfl
    dsimp only [qx_61] at h
    split at h
    · rename_i k st
      obtain ⟨h0, h⟩ := h
      simp only [chkG, Bool.and_eq_true] at g5
      obtain ⟨⟨⟨g7, g8⟩, g9⟩, g10⟩ := g5
      have w7 : a0 < 7 := Nat.le_of_ble_eq_true g7
      have w8 : b0 < cN a0 := Nat.le_of_ble_eq_true g8
      have w10 : (cT a0 b0).1 = cC a0 := of_decide_eq_true g10
      intro p e R s m args below meth c H locs cells slots ls G C hP hS hl hr
      obtain ⟨hx, hb, hml, hown, hts, -, -, -, -, hK, hX, hbl, hN⟩ := id C
      have hk44 : k < 72 := sh_lt (by omega)
      have he := wl_get (ad := ad) (aC := aC) (M := M) hk44
      rw [ent_o h0 w7] at he
      have hv : ((List.range (cN a0)).map (fv ad M a0 k))[b0]? = some (tr ad (.long (M.2 k b0))) := by
        rw [List.getElem?_map, List.getElem?_range w8]
        show some (fv ad M a0 k b0) = _
        unfold fv
        rw [z6]
        rfl
      have hq : ∃ t, t ∈ qNst ∧ qNw t = .fieldLinkNest (mO y) idx (cC a0) (cT a0 b0).2.1 (cT a0 b0).2.2.1 "StabilityAnalyzer" := by
        have q9 := of_decide_eq_true g9
        cases hz : qNst[d0]? with
        | none => rw [hz] at q9; cases q9
        | some t => rw [hz] at q9; exact ⟨t, List.mem_of_getElem? hz, Option.some.inj q9⟩
      obtain ⟨t, ht, hqt⟩ := hq
      have hln := hN t ht
      rw [hqt] at hln
      refine va_getN (D := (dC, dI)) hx hb hts (cls_w a0 w7) hown hK hP k he (cls_c a0 w7) b0 w8 (va_Nw.use rfl hln) (fun x hx9 => by rw [← w10]; exact hx9) hv hdg ?_
      rw [← z2]
      exact h p e R s m args below meth c H locs cells slots ls G C hP hS hl hr
    · exact h.elim
  · obtain ⟨⟨g4, g5⟩, g6⟩ := g3
    have z0 := q_bq g4
    try dsimp only at z0
    subst z0
    have z6 := q_bq g6
    try dsimp only at z6
    replace h : qx_62 (PM l ad dC dI aC b Ls xs) y i _ L stk M Q := q_g7 h rfl rfl rfl rfl rfl rfl
    dsimp only [qx_62] at h
    split at h
    · rename_i k st
      obtain ⟨h0, h⟩ := h
      simp only [chkG, Bool.and_eq_true] at g5
      obtain ⟨⟨⟨g7, g8⟩, g9⟩, g10⟩ := g5
      have w7 : a0 < 7 := Nat.le_of_ble_eq_true g7
      have w8 : b0 < cN a0 := Nat.le_of_ble_eq_true g8
      have w10 : (cT a0 b0).1 = cC a0 := of_decide_eq_true g10
      intro p e R s m args below meth c H locs cells slots ls G C hP hS hl hr
      obtain ⟨hx, hb, hml, hown, hts, -, -, -, -, hK, hX, hbl, hN⟩ := id C
      have hk44 : k < 72 := sh_lt (by omega)
      have he := wl_get (ad := ad) (aC := aC) (M := M) hk44
      rw [ent_o h0 w7] at he
      have hv : ((List.range (cN a0)).map (fv ad M a0 k))[b0]? = some (tr ad (.ref (rf k b0))) := by
        rw [List.getElem?_map, List.getElem?_range w8]
        show some (fv ad M a0 k b0) = _
        unfold fv
        rw [z6]
        rfl
      have hq : ∃ t, t ∈ qNst ∧ qNw t = .fieldLinkNest (mO y) idx (cC a0) (cT a0 b0).2.1 (cT a0 b0).2.2.1 "StabilityAnalyzer" := by
        have q9 := of_decide_eq_true g9
        cases hz : qNst[d0]? with
        | none => rw [hz] at q9; cases q9
        | some t => rw [hz] at q9; exact ⟨t, List.mem_of_getElem? hz, Option.some.inj q9⟩
      obtain ⟨t, ht, hqt⟩ := hq
      have hln := hN t ht
      rw [hqt] at hln
      refine va_getN (D := (dC, dI)) hx hb hts (cls_w a0 w7) hown hK hP k he (cls_c a0 w7) b0 w8 (va_Nw.use rfl hln) (fun x hx9 => by rw [← w10]; exact hx9) hv hdg ?_
      rw [← z2]
      exact h p e R s m args below meth c H locs cells slots ls G C hP hS hl hr
    · exact h.elim
theorem sd_putfield (hA : qAd ad b) {idx : Nat} (hdg : decode (mB y) (pcA y i) = .ok (.putfield idx, len)) (ho : chkO y i (pcA y i) (.putfield idx) len o = true) (h : qStep Ls xs (PM l ad dC dI aC b Ls xs) y i o L stk M Q) : PM l ad dC dI aC b Ls xs y i L stk M Q := by
  obtain ⟨c0, a0, b0, d0, v0, l0⟩ := o
  simp only [chkO, Bool.and_eq_true, Bool.or_eq_true] at ho
  obtain ⟨⟨g1, g2⟩, g3⟩ := ho
  have z1 := q_bq g1
  subst z1
  have z2 := q_bq g2
  rcases g3 with ((g3 | g3) | g3) | g3
  · obtain ⟨⟨⟨g4, g5⟩, gp⟩, g6⟩ := g3
    have z0 := q_bq g4
    try dsimp only at z0
    subst z0
    have z6 := q_bq g6
    try dsimp only at z6
    replace h : qx_37 (PM l ad dC dI aC b Ls xs) y i _ L stk M Q := q_g4 h rfl rfl rfl rfl
    dsimp only [qx_37] at h
    split at h
    · rename_i x k st
      obtain ⟨h0, h⟩ := h
      simp only [chkF, Bool.and_eq_true] at g5
      simp only [chkP, Bool.and_eq_true] at gp
      obtain ⟨⟨⟨g7, g8⟩, g9⟩, g10⟩ := g5
      obtain ⟨gp1, gp2⟩ := gp
      have w7 : a0 < 7 := Nat.le_of_ble_eq_true g7
      have w8 : b0 < cN a0 := Nat.le_of_ble_eq_true g8
      have w10 : (cT a0 b0).1 = cC a0 := of_decide_eq_true g10
      intro p e R s m args below meth c H locs cells slots ls G C hP hS hl hr
      obtain ⟨hx, hb, hml, hown, hts, -, -, -, -, hK, hX, hbl, hN⟩ := id C
      have hk44 : k < 72 := sh_lt (by omega)
      have he := wl_get (ad := ad) (aC := aC) (M := M) hk44
      rw [ent_o h0 w7] at he
      have hset : (wl ad aC M).set k (ad k, .inr (a0, ((List.range (cN a0)).map (fv ad M a0 k)).set b0 (.int x))) = wl ad aC (pI M k b0 x) := wl_set hk44 (by rw [ent_o h0 w7, fv_pI z6]) (fun k' hk' => ent_pI hk')
      refine va_put (D := (dC, dI)) hx hb hts (cls_w a0 w7) (cY a0) (cls_t a0 w7) (cls_n a0 w7) hown hK hP (wl_D hA aC M) hS k he (cls_c a0 w7) b0 w8 (hts _ (tbw_T g9 rfl)) (fun x hx9 => by rw [← w10]; exact hx9) (of_decide_eq_true gp2) (ty := .int) (v := .int x) (of_decide_eq_true gp1) rfl rfl (by simpa using w8) hdg (fun H1 locs1 hP1 hD1 hS1 => ?_)
      rw [hset] at hP1
      rw [← z2]
      exact h p e R s m args below meth c H1 locs1 cells slots ls G C hP1 hS1 hl hr
    · exact h.elim
  · obtain ⟨⟨⟨g4, g5⟩, gp⟩, g6⟩ := g3
    have z0 := q_bq g4
    try dsimp only at z0
    subst z0
    have z6 := q_bq g6
    try dsimp only at z6
    replace h : qx_38 (PM l ad dC dI aC b Ls xs) y i _ L stk M Q := q_g4 h rfl rfl rfl rfl
    dsimp only [qx_38] at h
    split at h
    · rename_i x k st
      obtain ⟨h0, h⟩ := h
      simp only [chkF, Bool.and_eq_true] at g5
      simp only [chkP, Bool.and_eq_true] at gp
      obtain ⟨⟨⟨g7, g8⟩, g9⟩, g10⟩ := g5
      obtain ⟨gp1, gp2⟩ := gp
      have w7 : a0 < 7 := Nat.le_of_ble_eq_true g7
      have w8 : b0 < cN a0 := Nat.le_of_ble_eq_true g8
      have w10 : (cT a0 b0).1 = cC a0 := of_decide_eq_true g10
      intro p e R s m args below meth c H locs cells slots ls G C hP hS hl hr
      obtain ⟨hx, hb, hml, hown, hts, -, -, -, -, hK, hX, hbl, hN⟩ := id C
      have hk44 : k < 72 := sh_lt (by omega)
      have he := wl_get (ad := ad) (aC := aC) (M := M) hk44
      rw [ent_o h0 w7] at he
      have hset : (wl ad aC M).set k (ad k, .inr (a0, ((List.range (cN a0)).map (fv ad M a0 k)).set b0 (.long x))) = wl ad aC (pJ M k b0 x) := wl_set hk44 (by rw [ent_o h0 w7, fv_pJ z6]) (fun k' hk' => ent_pJ hk')
      refine va_put (D := (dC, dI)) hx hb hts (cls_w a0 w7) (cY a0) (cls_t a0 w7) (cls_n a0 w7) hown hK hP (wl_D hA aC M) hS k he (cls_c a0 w7) b0 w8 (hts _ (tbw_T g9 rfl)) (fun x hx9 => by rw [← w10]; exact hx9) (of_decide_eq_true gp2) (ty := .long) (v := .long x) (of_decide_eq_true gp1) rfl rfl (by simpa using w8) hdg (fun H1 locs1 hP1 hD1 hS1 => ?_)
      rw [hset] at hP1
      rw [← z2]
      exact h p e R s m args below meth c H1 locs1 cells slots ls G C hP1 hS1 hl hr
    · exact h.elim
  · obtain ⟨⟨⟨g4, g5⟩, gp⟩, g6⟩ := g3
    have z0 := q_bq g4
    try dsimp only at z0
    subst z0
    have z6 := q_bq g6
    try dsimp only at z6
    replace h : qx_39 (PM l ad dC dI aC b Ls xs) y i _ L stk M Q := q_g4 h rfl rfl rfl rfl
    dsimp only [qx_39] at h
    split at h
    · rename_i x k st
      obtain ⟨h0, hnar, h⟩ := h
      simp only [chkF, Bool.and_eq_true] at g5
      simp only [chkP, Bool.and_eq_true] at gp
      obtain ⟨⟨⟨g7, g8⟩, g9⟩, g10⟩ := g5
      obtain ⟨gp1, gp2⟩ := gp
      have w7 : a0 < 7 := Nat.le_of_ble_eq_true g7
      have w8 : b0 < cN a0 := Nat.le_of_ble_eq_true g8
      have w10 : (cT a0 b0).1 = cC a0 := of_decide_eq_true g10
      intro p e R s m args below meth c H locs cells slots ls G C hP hS hl hr
      obtain ⟨hx, hb, hml, hown, hts, -, -, -, -, hK, hX, hbl, hN⟩ := id C
      have hk44 : k < 72 := sh_lt (by omega)
      have he := wl_get (ad := ad) (aC := aC) (M := M) hk44
      rw [ent_o h0 w7] at he
      have hset : (wl ad aC M).set k (ad k, .inr (a0, ((List.range (cN a0)).map (fv ad M a0 k)).set b0 (.int x))) = wl ad aC (pI M k b0 x) := wl_set hk44 (by rw [ent_o h0 w7, fv_pI z6]) (fun k' hk' => ent_pI hk')
      refine va_put (D := (dC, dI)) hx hb hts (cls_w a0 w7) (cY a0) (cls_t a0 w7) (cls_n a0 w7) hown hK hP (wl_D hA aC M) hS k he (cls_c a0 w7) b0 w8 (hts _ (tbw_T g9 rfl)) (fun x hx9 => by rw [← w10]; exact hx9) (of_decide_eq_true gp2) (ty := .boolean) (v := .int x) (of_decide_eq_true gp1) hnar (q_fitZ hnar) (by simpa using w8) hdg (fun H1 locs1 hP1 hD1 hS1 => ?_)
      rw [hset] at hP1
      rw [← z2]
      exact h p e R s m args below meth c H1 locs1 cells slots ls G C hP1 hS1 hl hr
    · exact h.elim
  · obtain ⟨⟨⟨g4, g5⟩, gp⟩, g6⟩ := g3
    have z0 := q_bq g4
    try dsimp only at z0
    subst z0
    have z6 := q_bq g6
    try dsimp only at z6
    replace h : qx_65 (PM l ad dC dI aC b Ls xs) y i _ L stk M Q := q_g7 h rfl rfl rfl rfl rfl rfl
    dsimp only [qx_65] at h
    split at h
    · rename_i x k st
      obtain ⟨h0, hnar, h⟩ := h
      simp only [chkG, Bool.and_eq_true] at g5
      simp only [chkP, Bool.and_eq_true] at gp
      obtain ⟨⟨⟨g7, g8⟩, g9⟩, g10⟩ := g5
      obtain ⟨gp1, gp2⟩ := gp
      have w7 : a0 < 7 := Nat.le_of_ble_eq_true g7
      have w8 : b0 < cN a0 := Nat.le_of_ble_eq_true g8
      have w10 : (cT a0 b0).1 = cC a0 := of_decide_eq_true g10
      intro p e R s m args below meth c H locs cells slots ls G C hP hS hl hr
      obtain ⟨hx, hb, hml, hown, hts, -, -, -, -, hK, hX, hbl, hN⟩ := id C
      have hk44 : k < 72 := sh_lt (by omega)
      have he := wl_get (ad := ad) (aC := aC) (M := M) hk44
      rw [ent_o h0 w7] at he
      have hset : (wl ad aC M).set k (ad k, .inr (a0, ((List.range (cN a0)).map (fv ad M a0 k)).set b0 (.int x))) = wl ad aC (pI M k b0 x) := wl_set hk44 (by rw [ent_o h0 w7, fv_pI z6]) (fun k' hk' => ent_pI hk')
      have hq : ∃ t, t ∈ qNst ∧ qNw t = .fieldLinkNest (mO y) idx (cC a0) (cT a0 b0).2.1 (cT a0 b0).2.2.1 "StabilityAnalyzer" := by
        have q9 := of_decide_eq_true g9
        cases hz : qNst[d0]? with
        | none => rw [hz] at q9; cases q9
        | some t => rw [hz] at q9; exact ⟨t, List.mem_of_getElem? hz, Option.some.inj q9⟩
      obtain ⟨t, ht, hqt⟩ := hq
      have hln := hN t ht
      rw [hqt] at hln
      refine va_putN (D := (dC, dI)) hx hb hts (cls_w a0 w7) (cY a0) (cls_t a0 w7) (cls_n a0 w7) hown hK hP (wl_D hA aC M) hS k he (cls_c a0 w7) b0 w8 (va_Nw.use rfl hln) (fun x hx9 => by rw [← w10]; exact hx9) (of_decide_eq_true gp2) (ty := .boolean) (v := .int x) (of_decide_eq_true gp1) hnar (q_fitZ hnar) (by simpa using w8) hdg (fun H1 locs1 hP1 hD1 hS1 => ?_)
      rw [hset] at hP1
      rw [← z2]
      exact h p e R s m args below meth c H1 locs1 cells slots ls G C hP1 hS1 hl hr
    · exact h.elim
theorem sd_arraylength (hA : qAd ad b) (hdg : decode (mB y) (pcA y i) = .ok (.arraylength, len)) (ho : chkO y i (pcA y i) (.arraylength) len o = true) (h : qStep Ls xs (PM l ad dC dI aC b Ls xs) y i o L stk M Q) : PM l ad dC dI aC b Ls xs y i L stk M Q := by
  obtain ⟨c0, a0, b0, d0, v0, l0⟩ := o
  simp only [chkO, Bool.and_eq_true, Bool.or_eq_true] at ho
  obtain ⟨⟨g1, g2⟩, g3⟩ := ho
  have z1 := q_bq g2
  subst z1
  have z2 := q_bq g3
  rcases g1 with g1 | g1
  · have z0 := q_bq g1
    try dsimp only at z0
    subst z0
    replace h : qx_40 (PM l ad dC dI aC b Ls xs) y i qHalt L stk M Q := q_g5 h rfl rfl rfl rfl rfl
    dsimp only [qx_40] at h
    split at h
    · rename_i k st
      obtain ⟨h0, h1, h⟩ := h
      intro p e R s m args below meth c H locs cells slots ls G C hP hS hl hr
      obtain ⟨hx, hb, hml, hown, hts, -, -, -, -, hK, hX, hbl, hN⟩ := id C
      have hk44 : k < 72 := sh_lt h1
      have he := wl_get (ad := ad) (aC := aC) (M := M) hk44
      have ht : ∀ j : Nat, j < 5 → ∃ q, (qTy aC)[j]? = some q := fun j hj => by
        rcases (show j = 0 ∨ j = 1 ∨ j = 2 ∨ j = 3 ∨ j = 4 by omega) with rfl | rfl | rfl | rfl | rfl <;> exact ⟨_, rfl⟩
      rcases (show shT k = 100 ∨ shT k = 101 ∨ shT k = 102 ∨ shT k = 103 ∨ shT k = 104 by omega) with q | q | q | q | q
      · rw [ent_100 q] at he
        refine va_alen (D := (dC, dI)) hx hb hK hP k 0 he rfl rfl hdg ?_
        rw [← z2]
        exact h p e R s m args below meth c H locs cells slots ls G C hP hS hl hr
      · rw [ent_101 q] at he
        refine va_alen (D := (dC, dI)) hx hb hK hP k 1 he rfl rfl hdg ?_
        rw [← z2]
        exact h p e R s m args below meth c H locs cells slots ls G C hP hS hl hr
      · rw [ent_102 q] at he
        refine va_alen (D := (dC, dI)) hx hb hK hP k 2 he rfl rfl hdg ?_
        rw [← z2]
        exact h p e R s m args below meth c H locs cells slots ls G C hP hS hl hr
      · rw [ent_103 q] at he
        refine va_alen (D := (dC, dI)) hx hb hK hP k 3 he rfl rfl hdg ?_
        rw [← z2]
        exact h p e R s m args below meth c H locs cells slots ls G C hP hS hl hr
      · rw [ent_104 q] at he
        refine va_alen (D := (dC, dI)) hx hb hK hP k 4 he rfl rfl hdg ?_
        rw [← z2]
        exact h p e R s m args below meth c H locs cells slots ls G C hP hS hl hr
    · exact h.elim
  · have z0 := q_bq g1
    try dsimp only at z0
    subst z0
    replace h : qx_59 Ls xs (PM l ad dC dI aC b Ls xs) y i qHalt L stk M Q := q_g6 h rfl rfl rfl rfl rfl rfl
    dsimp only [qx_59] at h
    split at h
    · rename_i st
      intro p e R s m args below meth c H locs cells slots ls G C hP hS hl hr
      obtain ⟨hx, hb, hml, hown, hts, -, -, -, -, hK, hX, hbl, hN⟩ := id C
      have hst : trS ad (.ref 1000 :: st) = .ref b :: trS ad st := by
        show Value.ref (ad 1000) :: _ = _
        rw [hA.2.2]
        rfl
      rw [hst]
      refine va_slen hx hb hX hbl (fun q => by obtain ⟨k, hk, e⟩ := q; exact hA.2.1 k hk e.symm) hS hdg ?_
      rw [← z2]
      exact h p e R s m args below meth c H locs cells slots ls G C hP hS hl hr
    · exact h.elim
theorem sd_iaload (hA : qAd ad b) (hdg : decode (mB y) (pcA y i) = .ok (.iaload, len)) (ho : chkO y i (pcA y i) (.iaload) len o = true) (h : qStep Ls xs (PM l ad dC dI aC b Ls xs) y i o L stk M Q) : PM l ad dC dI aC b Ls xs y i L stk M Q := by
  obtain ⟨c0, a0, b0, d0, v0, l0⟩ := o
  simp only [chkO, Bool.and_eq_true, Bool.or_eq_true] at ho
  obtain ⟨⟨g1, g2⟩, g3⟩ := ho
  have z1 := q_bq g2
  subst z1
  have z2 := q_bq g3
  rcases g1 with g1 | g1
  · have z0 := q_bq g1
    try dsimp only at z0
    subst z0
    replace h : qx_41 (PM l ad dC dI aC b Ls xs) y i qHalt L stk M Q := q_g5 h rfl rfl rfl rfl rfl
    dsimp only [qx_41] at h
    split at h
    · rename_i j k st
      obtain ⟨h0, h1, h⟩ := h
      intro p e R s m args below meth c H locs cells slots ls G C hP hS hl hr
      obtain ⟨hx, hb, hml, hown, hts, -, -, -, -, hK, hX, hbl, hN⟩ := id C
      have he := wl_get (ad := ad) (aC := aC) (M := M) (k := k) (sh_lt (by omega))
      rw [ent_100 h0] at he
      refine va_iald (D := (dC, dI)) hx hb hK hP k 0 he rfl h1 hdg ?_
      rw [← z2]
      exact h p e R s m args below meth c H locs cells slots ls G C hP hS hl hr
    · exact h.elim
  · have z0 := q_bq g1
    try dsimp only at z0
    subst z0
    replace h : qx_58 Ls xs (PM l ad dC dI aC b Ls xs) y i qHalt L stk M Q := q_g6 h rfl rfl rfl rfl rfl rfl
    dsimp only [qx_58] at h
    split at h
    · rename_i j st
      obtain ⟨h1, h⟩ := h
      intro p e R s m args below meth c H locs cells slots ls G C hP hS hl hr
      obtain ⟨hx, hb, hml, hown, hts, -, -, -, -, hK, hX, hbl, hN⟩ := id C
      have hst : trS ad (.int j :: .ref 1000 :: st) = .int j :: .ref b :: trS ad st := by
        show Value.int j :: Value.ref (ad 1000) :: _ = _
        rw [hA.2.2]
        rfl
      rw [hst]
      refine va_sld hx hb hX hbl (fun q => by obtain ⟨k, hk, e⟩ := q; exact hA.2.1 k hk e.symm) hS h1 hdg ?_
      rw [← z2]
      exact h p e R s m args below meth c H locs cells slots ls G C hP hS hl hr
    · exact h.elim
theorem sd_laload (hA : qAd ad b) (hdg : decode (mB y) (pcA y i) = .ok (.laload, len)) (ho : chkO y i (pcA y i) (.laload) len o = true) (h : qStep Ls xs (PM l ad dC dI aC b Ls xs) y i o L stk M Q) : PM l ad dC dI aC b Ls xs y i L stk M Q := by
  obtain ⟨c0, a0, b0, d0, v0, l0⟩ := o
  simp only [chkO, Bool.and_eq_true] at ho
  obtain ⟨⟨g1, g2⟩, g3⟩ := ho
  have z1 := q_bq g2
  subst z1
  have z2 := q_bq g3
  have z0 := q_bq g1
  try dsimp only at z0
  subst z0
  replace h : qx_42 (PM l ad dC dI aC b Ls xs) y i qHalt L stk M Q := q_g5 h rfl rfl rfl rfl rfl
  dsimp only [qx_42] at h
  split at h
  · rename_i j k st
    obtain ⟨h0, h1, h⟩ := h
    intro p e R s m args below meth c H locs cells slots ls G C hP hS hl hr
    obtain ⟨hx, hb, hml, hown, hts, -, -, -, -, hK, hX, hbl, hN⟩ := id C
    have he := wl_get (ad := ad) (aC := aC) (M := M) (k := k) (sh_lt (by omega))
    rw [ent_101 h0] at he
    refine va_lald (D := (dC, dI)) hx hb hK hP k 1 he rfl h1 hdg ?_
    rw [← z2]
    exact h p e R s m args below meth c H locs cells slots ls G C hP hS hl hr
  · exact h.elim
theorem sd_baload (hA : qAd ad b) (hdg : decode (mB y) (pcA y i) = .ok (.baload, len)) (ho : chkO y i (pcA y i) (.baload) len o = true) (h : qStep Ls xs (PM l ad dC dI aC b Ls xs) y i o L stk M Q) : PM l ad dC dI aC b Ls xs y i L stk M Q := by
  exact Bool.noConfusion ho
theorem sd_aaload (hA : qAd ad b) (hdg : decode (mB y) (pcA y i) = .ok (.aaload, len)) (ho : chkO y i (pcA y i) (.aaload) len o = true) (h : qStep Ls xs (PM l ad dC dI aC b Ls xs) y i o L stk M Q) : PM l ad dC dI aC b Ls xs y i L stk M Q := by
  obtain ⟨c0, a0, b0, d0, v0, l0⟩ := o
  simp only [chkO, Bool.and_eq_true, Bool.or_eq_true] at ho
  obtain ⟨⟨⟨g1, gt⟩, g2⟩, g3⟩ := ho
  have z1 := q_bq g2
  subst z1
  have z2 := q_bq g3
  have z0 := q_bq g1
  try dsimp only at z0
  subst z0
  replace h : qx_44 (PM l ad dC dI aC b Ls xs) y i _ L stk M Q := q_g5 h rfl rfl rfl rfl rfl
  dsimp only [qx_44] at h
  split at h
  · rename_i j k st
    obtain ⟨h0, h1, h⟩ := h
    intro p e R s m args below meth c H locs cells slots ls G C hP hS hl hr
    obtain ⟨hx, hb, hml, hown, hts, -, -, -, -, hK, hX, hbl, hN⟩ := id C
    rcases gt with gt | gt
    · have zt : a0 = 103 := q_bq gt
      subst zt
      have he := wl_get (ad := ad) (aC := aC) (M := M) (k := k) (sh_lt (by omega))
      rw [ent_103 h0] at he
      refine va_aldq (D := (dC, dI)) hx hb hK hP k 3 he rfl h1 hdg ?_
      rw [← z2]
      exact h p e R s m args below meth c H locs cells slots ls G C hP hS hl hr
    · have zt : a0 = 104 := q_bq gt
      subst zt
      have he := wl_get (ad := ad) (aC := aC) (M := M) (k := k) (sh_lt (by omega))
      rw [ent_104 h0] at he
      refine va_aldq (D := (dC, dI)) hx hb hK hP k 4 he rfl h1 hdg ?_
      rw [← z2]
      exact h p e R s m args below meth c H locs cells slots ls G C hP hS hl hr
  · exact h.elim
theorem sd_iastore (hA : qAd ad b) (hdg : decode (mB y) (pcA y i) = .ok (.iastore, len)) (ho : chkO y i (pcA y i) (.iastore) len o = true) (h : qStep Ls xs (PM l ad dC dI aC b Ls xs) y i o L stk M Q) : PM l ad dC dI aC b Ls xs y i L stk M Q := by
  obtain ⟨c0, a0, b0, d0, v0, l0⟩ := o
  simp only [chkO, Bool.and_eq_true] at ho
  obtain ⟨⟨g1, g2⟩, g3⟩ := ho
  have z1 := q_bq g2
  subst z1
  have z2 := q_bq g3
  have z0 := q_bq g1
  try dsimp only at z0
  subst z0
  replace h : qx_45 (PM l ad dC dI aC b Ls xs) y i qHalt L stk M Q := q_g5 h rfl rfl rfl rfl rfl
  dsimp only [qx_45] at h
  split at h
  · rename_i x j k st
    obtain ⟨h0, h1, h⟩ := h
    intro p e R s m args below meth c H locs cells slots ls G C hP hS hl hr
    obtain ⟨hx, hb, hml, hown, hts, -, -, -, -, hK, hX, hbl, hN⟩ := id C
    have hk44 : k < 72 := sh_lt (by omega)
    have he := wl_get (ad := ad) (aC := aC) (M := M) hk44
    rw [ent_100 h0] at he
    refine va_iast (D := (dC, dI)) hx hb hK hP (wl_D hA aC M) hS k 0 he rfl h1 hdg (fun H1 locs1 hP1 hD1 hS1 => ?_)
    have hset := wl_set (ad := ad) (aC := aC) (M := M) (M' := pI M k j.toNatClampNeg x) hk44 (by rw [ent_100 h0, pI_s]) (fun k' hk' => ent_pI hk')
    rw [hset] at hP1
    rw [← z2]
    exact h p e R s m args below meth c H1 locs1 cells slots ls G C hP1 hS1 hl hr
  · exact h.elim
theorem sd_lastore (hA : qAd ad b) (hdg : decode (mB y) (pcA y i) = .ok (.lastore, len)) (ho : chkO y i (pcA y i) (.lastore) len o = true) (h : qStep Ls xs (PM l ad dC dI aC b Ls xs) y i o L stk M Q) : PM l ad dC dI aC b Ls xs y i L stk M Q := by
  obtain ⟨c0, a0, b0, d0, v0, l0⟩ := o
  simp only [chkO, Bool.and_eq_true] at ho
  obtain ⟨⟨g1, g2⟩, g3⟩ := ho
  have z1 := q_bq g2
  subst z1
  have z2 := q_bq g3
  have z0 := q_bq g1
  try dsimp only at z0
  subst z0
  replace h : qx_46 (PM l ad dC dI aC b Ls xs) y i qHalt L stk M Q := q_g5 h rfl rfl rfl rfl rfl
  dsimp only [qx_46] at h
  split at h
  · rename_i x j k st
    obtain ⟨h0, h1, h⟩ := h
    intro p e R s m args below meth c H locs cells slots ls G C hP hS hl hr
    obtain ⟨hx, hb, hml, hown, hts, -, -, -, -, hK, hX, hbl, hN⟩ := id C
    have hk44 : k < 72 := sh_lt (by omega)
    have he := wl_get (ad := ad) (aC := aC) (M := M) hk44
    rw [ent_101 h0] at he
    refine va_last (D := (dC, dI)) hx hb hK hP (wl_D hA aC M) hS k 1 he rfl h1 hdg (fun H1 locs1 hP1 hD1 hS1 => ?_)
    have hset := wl_set (ad := ad) (aC := aC) (M := M) (M' := pJ M k j.toNatClampNeg x) hk44 (by rw [ent_101 h0, pJ_s]) (fun k' hk' => ent_pJ hk')
    rw [hset] at hP1
    rw [← z2]
    exact h p e R s m args below meth c H1 locs1 cells slots ls G C hP1 hS1 hl hr
  · exact h.elim
theorem sd_bastore (hA : qAd ad b) (hdg : decode (mB y) (pcA y i) = .ok (.bastore, len)) (ho : chkO y i (pcA y i) (.bastore) len o = true) (h : qStep Ls xs (PM l ad dC dI aC b Ls xs) y i o L stk M Q) : PM l ad dC dI aC b Ls xs y i L stk M Q := by
  exact Bool.noConfusion ho
theorem q_swT {y pc : Nat} {x : Int32} {f : Nat → Prop} {d : Nat} : ∀ (os : List Int) (lo : Int) (r : List (Int × Nat)), -2147483648 ≤ lo → lo + os.length ≤ 2147483648 → chkT y pc lo os r = true → swP x f r d →
    (∃ (k : Nat) (o : Int) (t : Nat), os[k]? = some o ∧ x.toInt = lo + k ∧ (pc : Int) + o = (pcA y t : Int) ∧ f t) ∨ ((x.toInt < lo ∨ lo + os.length ≤ x.toInt) ∧ f d) := by
  intro os
  induction os with
  | nil =>
    intro lo r _ _ hc h
    cases r with
    | nil => exact Or.inr ⟨by simp; omega, h⟩
    | cons q r => simp [chkT] at hc
  | cons o os ih =>
    intro lo r h1 h2 hc h
    cases r with
    | nil => simp [chkT] at hc
    | cons q r =>
      simp only [chkT, Bool.and_eq_true] at hc
      obtain ⟨⟨g1, g2⟩, g3⟩ := hc
      have e1 : q.1 = lo := of_decide_eq_true g1
      have e2 : (pc : Int) + o = (pcA y q.2 : Int) := of_decide_eq_true g2
      rw [List.length_cons] at h2
      obtain ⟨ha, hb⟩ := h
      have hlo : (Int32.ofInt lo).toInt = lo := Int32.toInt_ofInt_of_le (by omega) (by omega)
      by_cases hx : x = Int32.ofInt q.1
      · refine Or.inl ⟨0, o, q.2, rfl, ?_, e2, ha hx⟩
        rw [hx, e1, hlo]
        simp
      · have hne : x.toInt ≠ lo := fun z => hx (by rw [e1]; exact Int32.toInt_inj.mp (by rw [hlo]; exact z))
        rcases ih (lo + 1) r (by omega) (by push_cast at h2 ⊢; omega) g3 (hb hx) with ⟨k, o', t, k1, k2, k3, k4⟩ | ⟨k1, k2⟩
        · exact Or.inl ⟨k + 1, o', t, by simpa using k1, by push_cast; omega, k3, k4⟩
        · refine Or.inr ⟨?_, k2⟩
          rw [List.length_cons]
          push_cast
          omega
theorem q_swU {y pc : Nat} {x : Int32} {f : Nat → Prop} {d : Nat} {dd : Int} (hd : (pc : Int) + dd = (pcA y d : Int)) : ∀ (os : List (Int × Int)) (r : List (Int × Nat)), chkU y pc os r = true → swP x f r d →
    ∃ t : Nat, (pc : Int) + Op.lookupswitch.offset os dd x.toInt = (pcA y t : Int) ∧ f t := by
  intro os
  induction os with
  | nil =>
    intro r hc h
    cases r with
    | nil => exact ⟨d, hd, h⟩
    | cons q r => simp [chkU] at hc
  | cons o os ih =>
    intro r hc h
    cases r with
    | nil => simp [chkU] at hc
    | cons q r =>
      simp only [chkU, Bool.and_eq_true] at hc
      obtain ⟨⟨⟨g1, g0⟩, g2⟩, g3⟩ := hc
      have e1 : q.1 = o.1 := of_decide_eq_true g1
      have e0 := of_decide_eq_true g0
      have e2 : (pc : Int) + o.2 = (pcA y q.2 : Int) := of_decide_eq_true g2
      obtain ⟨a, off⟩ := o
      obtain ⟨ha, hb⟩ := h
      have hlo : (Int32.ofInt a).toInt = a := Int32.toInt_ofInt_of_le (by omega) (by omega)
      rw [Op.lookupswitch.offset_cons]
      by_cases hx : x = Int32.ofInt q.1
      · refine ⟨q.2, ?_, ha hx⟩
        rw [if_pos (by rw [hx, e1, hlo])]
        exact e2
      · rw [if_neg (fun z => hx (by rw [e1]; exact Int32.toInt_inj.mp (by rw [hlo]; exact z.symm)))]
        exact ih r g3 (hb hx)
theorem sd_tableswitch {d lo hi : Int} {offs : Array Int} (hdg : decode (mB y) (pcA y i) = .ok (.tableswitch d lo hi offs, len)) (ho : chkO y i (pcA y i) (.tableswitch d lo hi offs) len o = true) (h : qStep Ls xs (PM l ad dC dI aC b Ls xs) y i o L stk M Q) : PM l ad dC dI aC b Ls xs y i L stk M Q := by
  obtain ⟨c0, a0, b0, d0, v0, l0⟩ := o
  simp only [chkO, Bool.and_eq_true] at ho
  obtain ⟨⟨⟨g1, g2⟩, g3⟩, g4⟩ := ho
  have z0 := q_bq g1
  try dsimp only at z0
  subst z0
  have z4 : (pcA y i : Int) + d = (pcA y b0 : Int) := of_decide_eq_true g2
  have z5 := of_decide_eq_true g3
  replace h : qx_33 (PM l ad dC dI aC b Ls xs) y i _ L stk M Q := q_g3 h rfl rfl rfl
  dsimp only [qx_33] at h
  split at h
  · rename_i x st
    intro p e R s m args below meth c H locs cells slots ls G C hP hS hl hr
    obtain ⟨hx, hb, hml, hown, hts, -⟩ := id C
    have hlen : (offs.toList.length : Int) = hi - lo + 1 := by rw [Array.length_toList]; exact z5.2.2
    rcases q_swT offs.toList lo l0 z5.1 (by omega) g4 h with ⟨k, o, t, k1, k2, k3, k4⟩ | ⟨k1, k2⟩
    · have hk : k < offs.toList.length := (List.getElem?_eq_some_iff.mp k1).1
      refine lv_tableIn hx hb hdg (by omega) (by omega) (off := o) ?_ k3 ?_
      · rw [show (x.toInt - lo).toNat = k by omega, ← Array.getElem?_toList]
        exact k1
      · exact k4 p e R s m args below meth c H locs cells slots ls G C hP hS hl hr
    · refine lv_tableOut hx hb hdg (by omega) z4 ?_
      exact k2 p e R s m args below meth c H locs cells slots ls G C hP hS hl hr
  · exact h.elim
theorem sd_lookupswitch {d : Int} {ps : Array (Int × Int)} (hdg : decode (mB y) (pcA y i) = .ok (.lookupswitch d ps, len)) (ho : chkO y i (pcA y i) (.lookupswitch d ps) len o = true) (h : qStep Ls xs (PM l ad dC dI aC b Ls xs) y i o L stk M Q) : PM l ad dC dI aC b Ls xs y i L stk M Q := by
  obtain ⟨c0, a0, b0, d0, v0, l0⟩ := o
  simp only [chkO, Bool.and_eq_true] at ho
  obtain ⟨⟨⟨g1, g2⟩, g3⟩, g4⟩ := ho
  have z0 := q_bq g1
  try dsimp only at z0
  subst z0
  have z4 : (pcA y i : Int) + d = (pcA y b0 : Int) := of_decide_eq_true g2
  replace h : qx_33 (PM l ad dC dI aC b Ls xs) y i _ L stk M Q := q_g3 h rfl rfl rfl
  dsimp only [qx_33] at h
  split at h
  · rename_i x st
    intro p e R s m args below meth c H locs cells slots ls G C hP hS hl hr
    obtain ⟨hx, hb, hml, hown, hts, -⟩ := id C
    obtain ⟨t, k3, k4⟩ := q_swU z4 ps.toList l0 g4 h
    refine lv_lookup hx hb hdg g3 rfl k3 ?_
    exact k4 p e R s m args below meth c H locs cells slots ls G C hP hS hl hr
  · exact h.elim
end QS
