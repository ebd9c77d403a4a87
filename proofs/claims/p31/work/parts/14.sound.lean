/-! the abstract machine stands for the machine: calls, and all rows together -/
section QS
variable {l : Launch} {ad : Nat → Nat} {dC : Nat → ClassId} {dI : Nat → Nat → Nat} {aC : Nat → ClassId} {b Ls : Nat} {xs : Nat → Int32}
variable {y i len : Nat} {o : qOp} {L : qLc} {stk : List Value} {M : qMem} {Q : qPost}
def qQc (ad : Nat → Nat) (dC : Nat → ClassId) (dI : Nat → Nat → Nat) (aC : Nat → ClassId) (Q : qPost) : Array Value → State → Outcome → State → Prop := fun _ st oc t =>
  ∃ (v : Option Value) (M' : qMem), oc = .returned (v.map (tr ad)) ∧ Q v M' ∧ va_P (dC, dI) vwCl (wl ad aC M') t.heap ∧ va_F (qA ad) st t
def qRm (y : Nat) : Room := { frames := mF y, cells := 0, slots := 0, locals := mW y }
def qWs (y : Nat) : List Cond := Cond.code (mN y) (mB y) (mL y) (mR y) :: qT
def qPc (ad : Nat → Nat) (dC : Nat → ClassId) (dI : Nat → Nat → Nat) (aC : Nat → ClassId) (b Ls : Nat) (xs : Nat → Int32) (M : qMem) : State → Prop := fun U => va_P (dC, dI) vwCl (wl ad aC M) U.heap ∧ qSt dC dI aC b Ls xs U
theorem qMet (a : Nat) (ha : a < 81) (As : List Value) (hsl : csum As ≤ mL a) (h : PM l ad dC dI aC b Ls xs a 0 (lv_args 0 As) [] M Q) :
    Met l (mN a) (qWs a) (qRm a) (va_Pc (trS ad As) (qPc ad dC dI aC b Ls xs M)) (qQc ad dC dI aC Q) 0 0 (qA ad) := by
  have hmo := met_o a (by omega)
  refine va_MetF (cc := mB a) (maxL := mL a) (ret := mR a) hmo.2.2 rfl ?_
  intro p e s m args below meth c s₁ B hml hv
  obtain ⟨rfl, hP, hSt⟩ := hv
  have hx := B.exec
  have hb := B.bytes
  have hr := B.returns
  have hts0 := atoms_spec (ws := qWs a) B.pre
  have hts : ∀ w ∈ qT, w.before (trS ad As).toArray s = true := fun w hw => hts0 w (List.mem_cons_of_mem _ hw)
  have hown : s.vm.findClass (mO a) = some m.cls := by
    rw [hmo.1]
    exact findClass_of_methodNamed B.named
  have hlocks := B.notSynchronized
  have hl := lv_entry (trS ad As) (n := mL a) (by rw [lg_slN, csum_tr]; exact hsl)
  rw [trA] at hl
  rw [lg_entry_eq]
  have h2 := h p e (headSpec (qWs a) (qRm a)).room s m (trS ad As).toArray below meth c s.heap [] 0 0 _ (MQ below (qQc ad dC dI aC Q) (trS ad As).toArray s 0 0 (qA ad)) ⟨hx, hb, hml, hown, hts, Nat.le_refl _, Nat.le_refl _, Nat.le_refl _, Nat.le_refl _, hSt⟩ hP va_S.rf hl ?_
  · rw [hmo.2.1] at h2
    exact h2
  · intro v M' H' locs' ls' pc' hret hq hP' hS'
    match v, hret, hq with
    | none, hret, hq => exact W.vret hx hb (hr.trans hret.2) (fun t ht hW => ⟨none, M', rfl, hq, by rw [ht]; exact hP', hS'.F ht⟩) hS'.2.2 hret.1 hlocks
    | some (.int x), hret, hq =>
      obtain ⟨hd, ty, ht, hn⟩ := hret
      exact W.zret hx hb (hr.trans ht) hn (fun t ht hW => ⟨some (.int x), M', rfl, hq, by rw [ht]; exact hP', hS'.F ht⟩) hS'.2.2 hd hlocks
    | some (.long x), hret, hq => exact W.lret hx hb (hr.trans hret.2) (fun t ht hW => ⟨some (.long x), M', rfl, hq, by rw [ht]; exact hP', hS'.F ht⟩) hS'.2.2 hret.1 hlocks
    | some (.ref k), hret, hq =>
      obtain ⟨hd, n, hn⟩ := hret
      exact W.aret hx hb (hr.trans hn) (Or.inl ⟨n, rfl⟩) (Or.inr ⟨_, rfl⟩) (fun t ht hW => ⟨some (.ref k), M', rfl, hq, by rw [ht]; exact hP', hS'.F ht⟩) hS'.2.2 hd hlocks
    | some .null, hret, hq =>
      obtain ⟨hd, n, hn⟩ := hret
      exact W.aret hx hb (hr.trans hn) (Or.inl ⟨n, rfl⟩) (Or.inl rfl) (fun t ht hW => ⟨some .null, M', rfl, hq, by rw [ht]; exact hP', hS'.F ht⟩) hS'.2.2 hd hlocks
theorem qSt_same {U V : State} (hv : V.vm = U.vm) (hh : V.heap = U.heap) (h : qSt dC dI aC b Ls xs U) : qSt dC dI aC b Ls xs V := by
  obtain ⟨h1, h2, h3, h4⟩ := h
  have hal : U.vm.Alike V.vm := by rw [hv]; exact Vm.Alike.refl _
  refine ⟨va_K.moved hal h1, ?_, by rw [hh]; exact h3, fun t ht => va_Nw.same rfl hv.symm (h4 t ht)⟩
  rw [hh]
  exact va_X.moved hal h2
theorem qPc_blind (As : List Value) : FrameBlind (va_Pc (trS ad As) (qPc ad dC dI aC b Ls xs M)) := fun _ _ _ _ q => ⟨q.1, q.2.1, qSt_same rfl rfl q.2.2⟩
theorem qPc_at {s : State} {H : Heap} {locs : List Loc} {U : State} (hA : qAd ad b) (hP : va_P (dC, dI) vwCl (wl ad aC M) H) (hS : va_S (qA ad) s.heap H locs) (hst : qSt dC dI aC b Ls xs s) (hU : U.heap = H) (hW : s.WarmedH U.vm) : qPc ad dC dI aC b Ls xs M U := by
  obtain ⟨h1, h2, h3, h4⟩ := hst
  have hq : U.heap[b]? = s.heap[b]? := by
    rw [hU]
    exact hS.2.1 b h3 (fun q => by obtain ⟨k, hk, e⟩ := q; exact hA.2.1 k hk e.symm)
  refine ⟨by rw [hU]; exact hP, va_K.moved hW.alike h1, va_X.kept (va_X.moved hW.alike h2) hq, ?_, fun t ht => va_Nw.warmF hW (h4 t ht)⟩
  rw [hU]
  exact Nat.lt_of_lt_of_le h3 hS.1
theorem q_back {p : Program} {e : Env} {R : Room} {s : State} {m : MethodId} {args : Array Value} {below : List Frame} {meth : Method} {c : Code} {H : Heap} {locs : List Loc} {cells slots : Nat} {ls : Array Slot} {G : State → Prop} {rest : List Value} {st0 : List Value} {a : Array Value}
    (hr : va_Run p l e R s m args below meth c H locs cells slots 0 0 (F0 m (pcA y i) ls st0) (trS ad rest) (qQc ad dC dI aC (fun v M' => PM l ad dC dI aC b Ls xs y (i + 1) L (v.toList ++ rest) M' Q) a) (qA ad))
    (z2 : pcA y (i + 1) = pcA y i + 3) (C : qCx dC dI aC b Ls xs y p R s m args c cells slots) (hS : va_S (qA ad) s.heap H locs) (hl : lv_has ls (mL y) (trL ad L))
    (hrt : ∀ (v : Option Value) (M' : qMem) (H' : Heap) (locs' : List Loc) (ls' : Array Slot) (pc' : Nat), qRet y pc' v → Q v M' → va_P (dC, dI) vwCl (wl ad aC M') H' → va_S (qA ad) s.heap H' locs' → W p l e R s m args below meth c H' locs' cells slots G (F0 m pc' ls' (trS ad v.toList))) :
    W p l e R s m args below meth c H locs cells slots G (F0 m (pcA y i) ls st0) := by
  intro T hT X
  obtain ⟨v, st₀, t, T', Lx, h0, X', hL, e1, e2, ⟨v', M', hv, hq, hP', hz, hk⟩, st⟩ := hr T hT X
  have hv2 : v = v'.map (tr ad) := by
    injection hv
  subst hv2
  rw [h0] at hz hk
  have hS' : va_S (qA ad) s.heap T'.heap (locs ++ Lx) := ⟨Nat.le_trans hS.1 (by rw [e1]; exact hz), fun q h1 h2 => by rw [e1, hk q (Nat.lt_of_lt_of_le h1 hS.1) h2]; exact hS.2.1 q h1 h2, fun q hq => by
      rcases List.mem_append.mp hq with h | h
      · exact hS.2.2 q h
      · exact hL q h⟩
  have K := hq p e R s m args below meth c T'.heap (locs ++ Lx) cells slots ls G C (by rw [e1]; exact hP') hS' hl hrt
  rw [z2, trS_app] at K
  have e3 : trS ad v'.toList = (v'.map (tr ad)).toList := by cases v' <;> rfl
  rw [e3] at K
  obtain ⟨t2, a1, b1⟩ := K T' rfl X'
  exact ⟨t2, st t2 a1, b1⟩
theorem sd_invokestatic (hA : qAd ad b) {idx : Nat} (hdg : decode (mB y) (pcA y i) = .ok (.invokestatic idx, len)) (ho : chkO y i (pcA y i) (.invokestatic idx) len o = true) (h : qStep Ls xs (PM l ad dC dI aC b Ls xs) y i o L stk M Q) : PM l ad dC dI aC b Ls xs y i L stk M Q := by
  obtain ⟨c0, a0, b0, d0, v0, l0⟩ := o
  simp only [chkO, Bool.and_eq_true] at ho
  obtain ⟨⟨⟨g1, g2⟩, g3⟩, g4⟩ := ho
  have z0 := q_bq g1
  subst z0
  have z1 := q_bq g3
  subst z1
  have z2 := q_bq g4
  replace h : qx_48 Ls xs (PM l ad dC dI aC b Ls xs) y i _ L stk M Q := q_g6 h rfl rfl rfl rfl rfl rfl
  dsimp only [qx_48] at h
  cases hc : (Nat.ble b0 stk.length && (Nat.ble (csum (stk.drop b0)) 8 && Nat.ble (csum (stk.take b0)) (mL a0))) with
  | false => rw [hc] at h; exact h.elim
  | true =>
    rw [hc] at h
    replace h : PM l ad dC dI aC b Ls xs a0 0 (lv_args 0 (stk.take b0).reverse) [] M (fun v M' => PM l ad dC dI aC b Ls xs y (i + 1) L (v.toList ++ stk.drop b0) M' Q) := h
    simp only [Bool.and_eq_true] at hc
    obtain ⟨k1, k2, k3⟩ := hc
    have k1 := Nat.le_of_ble_eq_true k1
    have k2 := Nat.le_of_ble_eq_true k2
    have k3 := Nat.le_of_ble_eq_true k3
    dsimp only [chkS] at g2
    split at g2
    · rename_i w1 w2 w3
      simp only [chkM, Bool.and_eq_true] at g2
      obtain ⟨⟨⟨⟨⟨⟨⟨m1, m2⟩, m3⟩, m4⟩, n1⟩, n2⟩, n3⟩, n4⟩ := g2
      have m1 : a0 < 81 := Nat.le_of_ble_eq_true m1
      have m2 := Nat.le_of_ble_eq_true m2
      have m3 := Nat.le_of_ble_eq_true m3
      have m4 := of_decide_eq_true m4
      have n4 := of_decide_eq_true n4
      intro p e R s m args below meth c H locs cells slots ls G C hP hS hl hr
      obtain ⟨hx, hb, hml, hown, hts, hfr, hlo, hce, hsl, hst⟩ := id C
      have hsum : csum ((stk.take b0).reverse) ≤ mL a0 := by
        have e : csum ((stk.take b0).reverse) = csum (stk.take b0) := by simp [csum, List.map_reverse, List.sum_reverse]
        rw [e]
        exact k3
      have hM := qMet a0 m1 _ hsum h
      have hG : GoodIn qT (va_wsS (mO y) idx (mN a0) (qWs a0)) := by
        intro w hw
        have hin : w ∈ qT := by
          simp only [va_wsS, qWs, List.cons_append, List.nil_append, List.mem_cons] at hw
          rcases hw with rfl | rfl | rfl | rfl | hw
          · exact tbw_T n1 rfl
          · exact tbw_T n2 rfl
          · exact tbw_T n3 rfl
          · exact List.mem_filter.mpr ⟨cw_all a0 m1, rfl⟩
          · exact hw
        exact qT_good w hin
      have hlen : (trS ad (stk.take b0).reverse).length = b0 := by
        simp [trS]
        omega
      have hrun := va_runS (p := p) (l := l) (e := e) (below := below) (meth := meth) (H := H) (locs := locs) (cells := cells) (slots := slots) (g := F0 m (pcA y i) ls (trS ad stk)) (As := trS ad (stk.take b0).reverse) (rest := trS ad (stk.drop b0)) (index := idx) ⟨hx, hb, hml, hown, hts⟩ hM
        (va_cwS b0 hts hG rfl rfl rfl ⟨m4.1, m4.2, n4⟩ ⟨Nat.le_trans m2 hfr, Nat.le_trans m3 hlo⟩)
        ⟨qPc_blind _, fun U hU hW => ⟨rfl, qPc_at hA hP hS hst hU hW⟩⟩ rfl hlen hl.1
        (by show trS ad stk = _; rw [trS_rev, List.reverse_reverse, ← trS_app, List.take_append_drop])
        (lv_room (by have e := csum_tr ad (stk.drop b0); unfold csum at e k2; rw [e]; exact k2)) hdg ⟨hce, hsl⟩
      exact q_back hrun z2 C hS hl hr
    · cases g2
theorem sd_invokevirtual (hA : qAd ad b) {idx : Nat} (hdg : decode (mB y) (pcA y i) = .ok (.invokevirtual idx, len)) (ho : chkO y i (pcA y i) (.invokevirtual idx) len o = true) (h : qStep Ls xs (PM l ad dC dI aC b Ls xs) y i o L stk M Q) : PM l ad dC dI aC b Ls xs y i L stk M Q := by
  obtain ⟨c0, a0, b0, d0, v0, l0⟩ := o
  simp only [chkO, Bool.and_eq_true] at ho
  obtain ⟨⟨⟨g1, g2⟩, g3⟩, g4⟩ := ho
  have z0 := q_bq g1
  subst z0
  have z1 := q_bq g3
  subst z1
  have z2 := q_bq g4
  replace h : qx_49 Ls xs (PM l ad dC dI aC b Ls xs) y i _ L stk M Q := q_g6 h rfl rfl rfl rfl rfl rfl
  dsimp only [qx_49] at h
  split at h
  · rename_i k st hdrop
    cases hc : (Nat.ble b0 stk.length && (Nat.ble (csum st) 8 && Nat.ble (csum (stk.take b0) + 1) (mL a0))) with
    | false => rw [hc] at h; exact h.elim
    | true =>
      rw [hc] at h
      replace h : shT k = d0 ∧ PM l ad dC dI aC b Ls xs a0 0 (lv_args 0 (.ref k :: (stk.take b0).reverse)) [] M (fun v M' => PM l ad dC dI aC b Ls xs y (i + 1) L (v.toList ++ st) M' Q) := h
      obtain ⟨h0, h⟩ := h
      simp only [Bool.and_eq_true] at hc
      obtain ⟨k1, k2, k3⟩ := hc
      have k1 := Nat.le_of_ble_eq_true k1
      have k2 := Nat.le_of_ble_eq_true k2
      have k3 := Nat.le_of_ble_eq_true k3
      dsimp only [chkV] at g2
      split at g2
      · rename_i w1 w2 w3 w4
        simp only [chkM, Bool.and_eq_true] at g2
        obtain ⟨⟨⟨⟨⟨⟨⟨⟨⟨⟨m1, m2⟩, m3⟩, m4⟩, n1⟩, n2⟩, n3⟩, n4⟩, n5⟩, n6⟩, n7⟩ := g2
        have m1 : a0 < 81 := Nat.le_of_ble_eq_true m1
        have m2 := Nat.le_of_ble_eq_true m2
        have m3 := Nat.le_of_ble_eq_true m3
        have m4 := of_decide_eq_true m4
        have n5 : d0 < 7 := Nat.le_of_ble_eq_true n5
        have n6 : cC d0 = (mN a0).cls := of_decide_eq_true n6
        have n7 := of_decide_eq_true n7
        intro p e R s m args below meth c H locs cells slots ls G C hP hS hl hr
        obtain ⟨hx, hb, hml, hown, hts, hfr, hlo, hce, hsl, hst⟩ := id C
        have hsum : csum (.ref k :: (stk.take b0).reverse) ≤ mL a0 := by
          have e : csum (.ref k :: (stk.take b0).reverse) = 1 + csum (stk.take b0) := by simp [csum, List.map_reverse, List.sum_reverse, Value.category]
          rw [e]
          omega
        have hM := qMet a0 m1 _ hsum h
        have hG : GoodIn qT (wsV (mO y) idx (mN a0).cls (mN a0) (qWs a0)) := by
          intro w hw
          have hin : w ∈ qT := by
            simp only [wsV, qWs, List.cons_append, List.nil_append, List.mem_cons] at hw
            rcases hw with rfl | rfl | rfl | rfl | rfl | hw
            · exact tbw_T n1 rfl
            · exact tbw_T n2 rfl
            · exact tbw_T n3 rfl
            · exact tbw_T n4 rfl
            · exact List.mem_filter.mpr ⟨cw_all a0 m1, rfl⟩
            · exact hw
          exact qT_good w hin
        have hk44 : k < 72 := sh_lt (by omega)
        have he := wl_get (ad := ad) (aC := aC) (M := M) hk44
        rw [ent_o h0 n5] at he
        have hrecv := va_recv hst.1 hP (cls_c d0 n5) he
        have hrecv : ∃ cell : Cell, H[ad k]? = some cell ∧ cell.vm.isStatics = false ∧ s.vm.findClass (mN a0).cls = some cell.cls := by
          rw [← n6]
          exact hrecv
        have hlen : (trS ad (stk.take b0).reverse).length = b0 := by
          simp [trS]
          omega
        have hrun := va_runV (p := p) (l := l) (e := e) (below := below) (meth := meth) (H := H) (locs := locs) (cells := cells) (slots := slots) (g := F0 m (pcA y i) ls (trS ad stk)) (b := ad k) (As := trS ad (stk.take b0).reverse) (rest := trS ad st) (index := idx) (C := (mN a0).cls) ⟨hx, hb, hml, hown, hts⟩ hM
          (cwV b0 hts hG rfl rfl rfl ⟨rfl, m4.1, m4.2, n7⟩ ⟨Nat.le_trans m2 hfr, Nat.le_trans m3 hlo⟩)
          ⟨qPc_blind _, hrecv, fun U hU hW => ⟨rfl, qPc_at hA hP hS hst hU hW⟩⟩ rfl hlen hl.1
          (by
            show trS ad stk = _
            rw [trS_rev, List.reverse_reverse]
            have e : trS ad stk = trS ad (stk.take b0) ++ trS ad (stk.drop b0) := by rw [← trS_app, List.take_append_drop]
            rw [e, hdrop]
            rfl)
          (lv_room (by have e := csum_tr ad st; unfold csum at e k2; rw [e]; exact k2)) hdg ⟨hce, hsl⟩
        exact q_back hrun z2 C hS hl hr
      · cases g2
  · exact h.elim
theorem chk_in {y i : Nat} (hy : y < 82) (hi : i < (qOps.getD y []).length) : chk y i = true := by
  have g : ∀ lo n, chkAll lo n = true → lo ≤ y → y < lo + n → chk y i = true := by
    intro lo n h h1 h2
    have q := List.all_eq_true.mp h (y - lo) (by simp; omega)
    rw [show lo + (y - lo) = y by omega] at q
    exact List.all_eq_true.mp q i (by simpa using hi)
  have g2 : ∀ y0 lo n, chkRng y0 lo n = true → y = y0 → lo ≤ i → i < lo + n → chk y i = true := by
    intro y0 lo n h h0 h1 h2
    have q := List.all_eq_true.mp h (i - lo) (by simp; omega)
    rw [show lo + (i - lo) = i by omega] at q
    rw [h0]
    exact q
  rcases (show (0 ≤ y ∧ y < 28) ∨ (28 ≤ y ∧ y < 56) ∨ (56 ≤ y ∧ y < 75) ∨ y = 75 ∨ y = 76 ∨ y = 77 ∨ y = 78 ∨ y = 79 ∨ y = 80 ∨ y = 81 by omega) with h | h | h | h | h | h | h | h | h | h
  · exact g 0 28 ck_0 h.1 h.2
  · exact g 28 28 ck_1 h.1 h.2
  · exact g 56 19 ck_2 h.1 h.2
  · have hl : (qOps.getD y []).length = 187 := by rw [h]; decide +kernel
    rw [hl] at hi
    rcases (show (0 ≤ i ∧ i < 0 + 47) ∨ (47 ≤ i ∧ i < 47 + 47) ∨ (94 ≤ i ∧ i < 94 + 47) ∨ (141 ≤ i ∧ i < 141 + 46) by omega) with q | q | q | q
    · exact g2 75 0 47 ck_75_0 h q.1 q.2
    · exact g2 75 47 47 ck_75_47 h q.1 q.2
    · exact g2 75 94 47 ck_75_94 h q.1 q.2
    · exact g2 75 141 46 ck_75_141 h q.1 q.2
  · have hl : (qOps.getD y []).length = 228 := by rw [h]; decide +kernel
    rw [hl] at hi
    rcases (show (0 ≤ i ∧ i < 0 + 57) ∨ (57 ≤ i ∧ i < 57 + 57) ∨ (114 ≤ i ∧ i < 114 + 57) ∨ (171 ≤ i ∧ i < 171 + 57) by omega) with q | q | q | q
    · exact g2 76 0 57 ck_76_0 h q.1 q.2
    · exact g2 76 57 57 ck_76_57 h q.1 q.2
    · exact g2 76 114 57 ck_76_114 h q.1 q.2
    · exact g2 76 171 57 ck_76_171 h q.1 q.2
  · have hl : (qOps.getD y []).length = 222 := by rw [h]; decide +kernel
    rw [hl] at hi
    rcases (show (0 ≤ i ∧ i < 0 + 56) ∨ (56 ≤ i ∧ i < 56 + 56) ∨ (112 ≤ i ∧ i < 112 + 56) ∨ (168 ≤ i ∧ i < 168 + 54) by omega) with q | q | q | q
    · exact g2 77 0 56 ck_77_0 h q.1 q.2
    · exact g2 77 56 56 ck_77_56 h q.1 q.2
    · exact g2 77 112 56 ck_77_112 h q.1 q.2
    · exact g2 77 168 54 ck_77_168 h q.1 q.2
  · have hl : (qOps.getD y []).length = 74 := by rw [h]; decide +kernel
    rw [hl] at hi
    rcases (show (0 ≤ i ∧ i < 0 + 37) ∨ (37 ≤ i ∧ i < 37 + 37) by omega) with q | q
    · exact g2 78 0 37 ck_78_0 h q.1 q.2
    · exact g2 78 37 37 ck_78_37 h q.1 q.2
  · have hl : (qOps.getD y []).length = 89 := by rw [h]; decide +kernel
    rw [hl] at hi
    rcases (show (0 ≤ i ∧ i < 0 + 45) ∨ (45 ≤ i ∧ i < 45 + 44) by omega) with q | q
    · exact g2 79 0 45 ck_79_0 h q.1 q.2
    · exact g2 79 45 44 ck_79_45 h q.1 q.2
  · have hl : (qOps.getD y []).length = 49 := by rw [h]; decide +kernel
    rw [hl] at hi
    exact g2 80 0 49 ck_80_0 h (by omega) (by omega)
  · have hl : (qOps.getD y []).length = 121 := by rw [h]; decide +kernel
    rw [hl] at hi
    rcases (show (0 ≤ i ∧ i < 0 + 41) ∨ (41 ≤ i ∧ i < 41 + 41) ∨ (82 ≤ i ∧ i < 82 + 39) by omega) with q | q | q
    · exact g2 81 0 41 ck_81_0 h q.1 q.2
    · exact g2 81 41 41 ck_81_41 h q.1 q.2
    · exact g2 81 82 39 ck_81_82 h q.1 q.2
theorem chk_ok (y i : Nat) : chk y i = true := by
  have hout : qOp' y i = qHalt → chk y i = true := by
    intro h
    unfold chk
    rw [h]
    rfl
  rcases Nat.lt_or_ge y 82 with hy | hy
  · rcases Nat.lt_or_ge i (qOps.getD y []).length with hi | hi
    · exact chk_in hy hi
    · refine hout ?_
      unfold qOp'
      rw [List.getD_eq_getElem?_getD, List.getElem?_eq_none hi]
      rfl
  · refine hout ?_
    have e : qOps.getD y [] = [] := by
      rw [List.getD_eq_getElem?_getD, List.getElem?_eq_none (by rw [ck_len]; exact hy)]
      rfl
    unfold qOp'
    rw [e]
    rfl
set_option maxHeartbeats 4000000 in
/-- THE ABSTRACT MACHINE STANDS FOR THE MACHINE -/
theorem qSound (hA : qAd ad b) : qClosed Ls xs (PM l ad dC dI aC b Ls xs) := by
  intro y i L stk M Q h
  have hc := chk_ok y i
  unfold chk at hc
  rw [Bool.or_eq_true] at hc
  rcases hc with hc | hc
  · exfalso
    have z := q_bq hc
    generalize qOp' y i = o at h z
    have h2 := q_g7 h (by rw [z]; rfl) (by rw [z]; rfl) (by rw [z]; rfl) (by rw [z]; rfl) (by rw [z]; rfl) (by rw [z]; rfl)
    unfold qSt7 at h2
    rw [z] at h2
    exact h2
  · rw [Bool.and_eq_true] at hc
    obtain ⟨hd, ho⟩ := hc
    generalize qOp' y i = o at h ho
    have hdg : decode (mB y) (pcA y i) = .ok ((qRw y i).2.1, (qRw y i).2.2) := by
      unfold qDec at hd
      show decode (mB y) (qRw y i).1 = _
      split at hd
      · rename_i q hq
        rw [hq, of_decide_eq_true hd]
      · cases hd
    have ho : chkO y i (pcA y i) (qRw y i).2.1 (qRw y i).2.2 o = true := ho
    generalize (qRw y i).2.1 = ins at hdg ho
    generalize (qRw y i).2.2 = len at hdg ho
    cases ins with
    | iconst n => exact sd_iconst hdg ho h
    | bipush n => exact sd_bipush hdg ho h
    | sipush n => exact sd_sipush hdg ho h
    | lconst n => exact sd_lconst hdg ho h
    | aconst_null => exact sd_null hdg ho h
    | ldc n => exact sd_ldc hdg ho h
    | ldc2_w n => exact sd_ldc2 hdg ho h
    | iload n => exact sd_iload hdg ho h
    | iload_n n => exact sd_iload_n hdg ho h
    | lload n => exact sd_lload hdg ho h
    | lload_n n => exact sd_lload_n hdg ho h
    | aload n => exact sd_aload hdg ho h
    | aload_n n => exact sd_aload_n hdg ho h
    | istore n => exact sd_istore hdg ho h
    | istore_n n => exact sd_istore_n hdg ho h
    | lstore n => exact sd_lstore hdg ho h
    | lstore_n n => exact sd_lstore_n hdg ho h
    | astore n => exact sd_astore hdg ho h
    | astore_n n => exact sd_astore_n hdg ho h
    | iinc n k => exact sd_iinc hdg ho h
    | iadd => exact sd_iadd hdg ho h
    | isub => exact sd_isub hdg ho h
    | imul => exact sd_imul hdg ho h
    | iand => exact sd_iand hdg ho h
    | ior => exact sd_ior hdg ho h
    | ishl => exact sd_ishl hdg ho h
    | ishr => exact sd_ishr hdg ho h
    | idiv => exact sd_idiv hdg ho h
    | irem => exact sd_irem hdg ho h
    | ineg => exact sd_ineg hdg ho h
    | ladd => exact sd_ladd hdg ho h
    | lsub => exact sd_lsub hdg ho h
    | lmul => exact sd_lmul hdg ho h
    | ldiv => exact sd_ldiv hdg ho h
    | lrem => exact sd_lrem hdg ho h
    | lneg => exact sd_lneg hdg ho h
    | lshl => exact sd_lshl hdg ho h
    | lcmp => exact sd_lcmp hdg ho h
    | i2l => exact sd_i2l hdg ho h
    | l2i => exact sd_l2i hdg ho h
    | lxor => exact sd_lxor hdg ho h
    | ifCond cc off => exact sd_ifCond hdg ho h
    | if_icmp cc off => exact sd_if_icmp hdg ho h
    | ifnull off => exact sd_ifnull hdg ho h
    | ifnonnull off => exact sd_ifnonnull hdg ho h
    | goto off => exact sd_goto hdg ho h
    | tableswitch d lo hi offs => exact sd_tableswitch hdg ho h
    | lookupswitch d ps => exact sd_lookupswitch hdg ho h
    | getfield n => exact sd_getfield hA hdg ho h
    | putfield n => exact sd_putfield hA hdg ho h
    | arraylength => exact sd_arraylength hA hdg ho h
    | iaload => exact sd_iaload hA hdg ho h
    | laload => exact sd_laload hA hdg ho h
    | baload => exact sd_baload hA hdg ho h
    | aaload => exact sd_aaload hA hdg ho h
    | iastore => exact sd_iastore hA hdg ho h
    | lastore => exact sd_lastore hA hdg ho h
    | bastore => exact sd_bastore hA hdg ho h
    | invokestatic n => exact sd_invokestatic hA hdg ho h
    | invokevirtual n => exact sd_invokevirtual hA hdg ho h
    | ireturn => exact sd_ireturn hdg ho h
    | lreturn => exact sd_lreturn hdg ho h
    | areturn => exact sd_areturn hdg ho h
    | return_ => exact sd_return hdg ho h
    | dup => exact sd_dup hdg ho h
    | dup2 => exact sd_dup2 hdg ho h
    | _ => exact Bool.noConfusion ho
end QS
