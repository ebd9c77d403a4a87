/-! the abstract machine stands for the machine: the worlds and the judgement -/
theorem q_bq {a b : Nat} (h : Nat.beq a b = true) : a = b := Nat.eq_of_beq_eq_true h
def tr (ad : Nat → Nat) : Value → Value
  | .ref k => .ref (ad k)
  | v => v
def trS (ad : Nat → Nat) (st : List Value) : List Value := st.map (tr ad)
def trL (ad : Nat → Nat) (L : qLc) : List (Nat × Value) := L.map (fun q => (q.1, tr ad q.2))
theorem tr_cat (ad : Nat → Nat) (v : Value) : (tr ad v).category = v.category := by cases v <;> rfl
theorem trL_S1 (ad : Nat → Nat) (L : qLc) (i : Nat) (v : Value) : (i, tr ad v) :: (trL ad L).filter (fun q => !(q.1 == i) && !(q.1 + 1 == i && q.2.category == 2)) = trL ad (lcS1 L i v) := by
  simp only [trL, lcS1, List.map_cons, List.filter_map]
  congr 2
  congr 1
  funext q
  simp [Function.comp, tr_cat]
theorem trL_S2 (ad : Nat → Nat) (L : qLc) (i : Nat) (v : Value) : (i, tr ad v) :: (trL ad L).filter (fun q => !(q.1 == i) && (!(q.1 == i + 1) && !(q.1 + 1 == i && q.2.category == 2))) = trL ad (lcS2 L i v) := by
  simp only [trL, lcS2, List.map_cons, List.filter_map]
  congr 2
  congr 1
  funext q
  simp [Function.comp, tr_cat]
theorem lcG_mem {i : Nat} {v : Value} (hv : v ≠ .retAddr 0) : ∀ {L : qLc}, lcG i L = v → ∃ k : Nat, L[k]? = some (i, v) := by
  intro L
  induction L with
  | nil => intro h; exact absurd h.symm hv
  | cons q r ih =>
    intro h
    unfold lcG at h
    cases hq : (q.1 == i) with
    | true =>
      rw [hq] at h
      refine ⟨0, ?_⟩
      have h1 : q.1 = i := by simpa using hq
      have h2 : q.2 = v := h
      rw [← h1, ← h2]
      rfl
    | false =>
      rw [hq] at h
      obtain ⟨k, hk⟩ := ih h
      exact ⟨k + 1, by simpa using hk⟩
theorem lcG_at {ad : Nat → Nat} {ls : Array Slot} {n i : Nat} {L : qLc} {v : Value} (hl : lv_has ls n (trL ad L)) (h : lcG i L = v) (hv : v ≠ .retAddr 0) : ls[i]? = some (.val (tr ad v)) := by
  obtain ⟨k, hk⟩ := lcG_mem hv h
  refine lv_at hl k (i := i) (v := tr ad v) ?_
  unfold trL
  rw [List.getElem?_map, hk]
  rfl
theorem lcG_k {ad : Nat → Nat} {i : Nat} {L : qLc} {v : Value} (h : lcG i L = v) (hv : v ≠ .retAddr 0) : ∃ k : Nat, (trL ad L)[k]? = some (i, tr ad v) := by
  obtain ⟨k, hk⟩ := lcG_mem hv h
  refine ⟨k, ?_⟩
  unfold trL
  rw [List.getElem?_map, hk]
  rfl
theorem trA (ad : Nat → Nat) : ∀ (vs : List Value) (i : Nat), lv_args i (trS ad vs) = trL ad (lv_args i vs) := by
  intro vs
  induction vs with
  | nil => intro i; rfl
  | cons v r ih =>
    intro i
    show (i, tr ad v) :: lv_args (if (tr ad v).category = 2 then i + 2 else i + 1) (trS ad r) = (i, tr ad v) :: trL ad (lv_args (if v.category = 2 then i + 2 else i + 1) r)
    rw [tr_cat, ih]
theorem csum_tr (ad : Nat → Nat) (st : List Value) : csum (trS ad st) = csum st := by
  unfold csum trS
  rw [List.map_map]
  congr 1
  exact List.map_congr_left (fun v _ => tr_cat ad v)
theorem lg_slN (vs : List Value) : (lg_sl vs).length = csum vs := by
  induction vs with
  | nil => rfl
  | cons v r ih =>
    have e : lg_sl (v :: r) = (if v.category = 2 then [.val v, .second] else [.val v]) ++ lg_sl r := rfl
    rw [e, List.length_append, ih]
    have e2 : csum (v :: r) = v.category + csum r := by simp [csum]
    rw [e2]
    rcases lv_cat v with h | h <;> rw [h] <;> rfl
theorem trS_rev (ad : Nat → Nat) (st : List Value) : trS ad st.reverse = (trS ad st).reverse := by simp [trS]
theorem trS_app (ad : Nat → Nat) (a b : List Value) : trS ad (a ++ b) = trS ad a ++ trS ad b := by simp [trS]
/-- words that every callee may have -/
def qT : List Cond := lw_tbl.filter goodWord
theorem tbw_T {i : Nat} {w : Cond} (h : tbw i w = true) (hg : goodWord w = true) : w ∈ qT := by
  have h1 : lw_tbl[i]? = some w := by simpa [tbw] using h
  exact List.mem_filter.mpr ⟨List.mem_of_getElem? h1, hg⟩
theorem qT_good : ∀ w ∈ qT, w ∈ qT ∧ ((w.onTables && w.keeps) = true ∨ ∃ ty, w = .arrayClass ty) := fun w hw => ⟨hw, good_of_word (List.mem_filter.mp hw).2⟩
/-- memory as cells -/
def fv (ad : Nat → Nat) (M : qMem) (ci k j : Nat) : Value := match fk ci j with
  | 0 => .int (M.1 k j)
  | 1 => .long (M.2 k j)
  | _ => .ref (ad (rf k j))
def ent (ad : Nat → Nat) (aC : Nat → ClassId) (M : qMem) (k : Nat) : va_E := match shT k with
  | 100 => .inl (aC 0, shL k, .inl (M.1 k))
  | 101 => .inl (aC 1, shL k, .inr (.inl (M.2 k)))
  | 102 => .inl (aC 2, shL k, .inl (M.1 k))
  | 103 => .inl (aC 3, shL k, .inr (.inr (.inr (.inr (fun j => some (ad (rf k j)))))))
  | 104 => .inl (aC 4, shL k, .inr (.inr (.inr (.inr (fun j => some (ad (rf k j)))))))
  | ci => .inr (ci, (List.range (cN ci)).map (fv ad M ci k))
theorem ent_o {ad : Nat → Nat} {aC : Nat → ClassId} {M : qMem} {k ci : Nat} (h : shT k = ci) (hc : ci < 7) : ent ad aC M k = .inr (ci, (List.range (cN ci)).map (fv ad M ci k)) := by
  unfold ent
  rw [h]
  split <;> first | omega | rfl
theorem ent_100 {ad : Nat → Nat} {aC : Nat → ClassId} {M : qMem} {k : Nat} (h : shT k = 100) : ent ad aC M k = .inl (aC 0, shL k, .inl (M.1 k)) := by unfold ent; rw [h]; rfl
theorem ent_101 {ad : Nat → Nat} {aC : Nat → ClassId} {M : qMem} {k : Nat} (h : shT k = 101) : ent ad aC M k = .inl (aC 1, shL k, .inr (.inl (M.2 k))) := by unfold ent; rw [h]; rfl
theorem ent_102 {ad : Nat → Nat} {aC : Nat → ClassId} {M : qMem} {k : Nat} (h : shT k = 102) : ent ad aC M k = .inl (aC 2, shL k, .inl (M.1 k)) := by unfold ent; rw [h]; rfl
theorem ent_103 {ad : Nat → Nat} {aC : Nat → ClassId} {M : qMem} {k : Nat} (h : shT k = 103) : ent ad aC M k = .inl (aC 3, shL k, .inr (.inr (.inr (.inr (fun j => some (ad (rf k j))))))) := by unfold ent; rw [h]; rfl
theorem ent_104 {ad : Nat → Nat} {aC : Nat → ClassId} {M : qMem} {k : Nat} (h : shT k = 104) : ent ad aC M k = .inl (aC 4, shL k, .inr (.inr (.inr (.inr (fun j => some (ad (rf k j))))))) := by unfold ent; rw [h]; rfl
theorem sh_lt {k : Nat} (h : shT k ≤ 104) : k < 72 := by
  rcases Nat.lt_or_ge k 72 with q | q
  · exact q
  · have e : shTl.getD k (200, 0) = (200, 0) := by
      rw [List.getD_eq_getElem?_getD, List.getElem?_eq_none (by exact q)]
      rfl
    unfold shT at h
    rw [e] at h
    exact absurd h (by decide)
def wl (ad : Nat → Nat) (aC : Nat → ClassId) (M : qMem) : va_W := (List.range 72).map (fun k => (ad k, ent ad aC M k))
theorem wl_get {ad : Nat → Nat} {aC : Nat → ClassId} {M : qMem} {k : Nat} (h : k < 72) : (wl ad aC M)[k]? = some (ad k, ent ad aC M k) := by
  unfold wl
  rw [List.getElem?_map, List.getElem?_range h]
  rfl
theorem wl_set {ad : Nat → Nat} {aC : Nat → ClassId} {M M' : qMem} {k : Nat} {e : va_E} (hk : k < 72) (he : ent ad aC M' k = e) (ho : ∀ k', k' ≠ k → ent ad aC M' k' = ent ad aC M k') : (wl ad aC M).set k (ad k, e) = wl ad aC M' := by
  apply List.ext_getElem?
  intro j
  rw [List.getElem?_set]
  have hlen : (wl ad aC M).length = 72 := by simp [wl]
  have hlen' : (wl ad aC M').length = 72 := by simp [wl]
  by_cases hj : k = j
  · subst hj
    rw [if_pos rfl, if_pos (by omega), wl_get hk, he]
  · rw [if_neg hj]
    rcases Nat.lt_or_ge j 72 with q | q
    · rw [wl_get q, wl_get q, ho j (fun z => hj z.symm)]
    · rw [List.getElem?_eq_none (by omega), List.getElem?_eq_none (by omega)]
theorem ent_eq {ad : Nat → Nat} {aC : Nat → ClassId} {M M' : qMem} {k : Nat} (h1 : M'.1 k = M.1 k) (h2 : M'.2 k = M.2 k) : ent ad aC M' k = ent ad aC M k := by
  unfold ent fv
  simp only [h1, h2]
theorem pI_o {M : qMem} {k j : Nat} {x : Int32} {k' : Nat} (h : k' ≠ k) : (pI M k j x).1 k' = M.1 k' := by
  funext b
  show (if k' = k ∧ b = j then x else M.1 k' b) = _
  rw [if_neg (fun q => h q.1)]
theorem pJ_o {M : qMem} {k j : Nat} {x : Int64} {k' : Nat} (h : k' ≠ k) : (pJ M k j x).2 k' = M.2 k' := by
  funext b
  show (if k' = k ∧ b = j then x else M.2 k' b) = _
  rw [if_neg (fun q => h q.1)]
theorem ent_pI {ad : Nat → Nat} {aC : Nat → ClassId} {M : qMem} {k j : Nat} {x : Int32} {k' : Nat} (h : k' ≠ k) : ent ad aC (pI M k j x) k' = ent ad aC M k' := ent_eq (pI_o h) rfl
theorem ent_pJ {ad : Nat → Nat} {aC : Nat → ClassId} {M : qMem} {k j : Nat} {x : Int64} {k' : Nat} (h : k' ≠ k) : ent ad aC (pJ M k j x) k' = ent ad aC M k' := ent_eq rfl (pJ_o h)
theorem pI_s {M : qMem} {k j : Nat} {x : Int32} : (pI M k j x).1 k = upd (M.1 k) j x := by
  funext b
  show (if k = k ∧ b = j then x else M.1 k b) = if b = j then x else M.1 k b
  simp
theorem pJ_s {M : qMem} {k j : Nat} {x : Int64} : (pJ M k j x).2 k = vp_updL (M.2 k) j x := by
  funext b
  show (if k = k ∧ b = j then x else M.2 k b) = if b = j then x else M.2 k b
  simp
theorem q_setmap {α : Type} {f g : Nat → α} {n j : Nat} (h1 : ∀ i, i ≠ j → g i = f i) : ((List.range n).map f).set j (g j) = (List.range n).map g := by
  apply List.ext_getElem?
  intro i
  rw [List.getElem?_set]
  by_cases hj : j = i
  · subst hj
    rw [if_pos rfl]
    rcases Nat.lt_or_ge j n with q | q
    · rw [if_pos (by simpa using q), List.getElem?_map, List.getElem?_range q]
      rfl
    · rw [if_neg (by simpa using q), List.getElem?_eq_none (by simpa using q)]
  · rw [if_neg hj]
    rcases Nat.lt_or_ge i n with q | q
    · rw [List.getElem?_map, List.getElem?_map, List.getElem?_range q]
      show some (f i) = some (g i)
      rw [h1 i (fun z => hj z.symm)]
    · rw [List.getElem?_eq_none (by simpa using q), List.getElem?_eq_none (by simpa using q)]
theorem fv_pI {ad : Nat → Nat} {M : qMem} {ci k j : Nat} {x : Int32} (hf : fk ci j = 0) : ((List.range (cN ci)).map (fv ad M ci k)).set j (.int x) = (List.range (cN ci)).map (fv ad (pI M k j x) ci k) := by
  have e : Value.int x = fv ad (pI M k j x) ci k j := by
    unfold fv
    rw [hf]
    show Value.int x = Value.int (if k = k ∧ j = j then x else M.1 k j)
    simp
  rw [e]
  refine q_setmap (fun i hi => ?_)
  unfold fv
  have e2 : (pI M k j x).1 k i = M.1 k i := by
    show (if k = k ∧ i = j then x else M.1 k i) = _
    simp [hi]
  rw [e2]
  rfl
theorem fv_pJ {ad : Nat → Nat} {M : qMem} {ci k j : Nat} {x : Int64} (hf : fk ci j = 1) : ((List.range (cN ci)).map (fv ad M ci k)).set j (.long x) = (List.range (cN ci)).map (fv ad (pJ M k j x) ci k) := by
  have e : Value.long x = fv ad (pJ M k j x) ci k j := by
    unfold fv
    rw [hf]
    show Value.long x = Value.long (if k = k ∧ j = j then x else M.2 k j)
    simp
  rw [e]
  refine q_setmap (fun i hi => ?_)
  unfold fv
  have e2 : (pJ M k j x).2 k i = M.2 k i := by
    show (if k = k ∧ i = j then x else M.2 k i) = _
    simp [hi]
  rw [e2]
  rfl
/-- classes' facts -/
def cY (ci k : Nat) : FieldType := (parseFieldDescriptor (cT ci k).2.2.1).getD .int
theorem cls_c : ∀ ci, ci < 7 → vwCl[ci]? = some (cC ci, cT ci, cN ci) := by
  intro ci h
  rcases (show ci = 0 ∨ ci = 1 ∨ ci = 2 ∨ ci = 3 ∨ ci = 4 ∨ ci = 5 ∨ ci = 6 by omega) with rfl | rfl | rfl | rfl | rfl | rfl | rfl <;> rfl
set_option maxRecDepth 100000 in
theorem cls_t : ∀ ci, ci < 7 → ∀ k, k < cN ci → parseFieldDescriptor (cT ci k).2.2.1 = some (cY ci k) := by decide +kernel
set_option maxRecDepth 100000 in
theorem cls_n : ∀ ci, ci < 7 → ∀ a, a < cN ci → ∀ b, b < cN ci → a ≠ b → (cT ci a).2.1 ≠ (cT ci b).2.1 := by decide +kernel
set_option maxRecDepth 100000 in
theorem cls_w : ∀ ci, ci < 7 → ∀ w ∈ u_ws (cC ci) (cT ci) (cN ci), w ∈ qT := by decide +kernel
set_option maxRecDepth 100000 in
theorem met_o : ∀ y, y < 82 → mO y = (mN y).cls ∧ pcA y 0 = 0 ∧ plainFor (mN y) = true := by decide +kernel
section QG
variable {Ls : Nat} {xs : Nat → Int32} {P : qSem} {y i : Nat} {o : qOp} {L : qLc} {stk : List Value} {M : qMem} {Q : qPost}
theorem q_g1 (h : qStep Ls xs P y i o L stk M Q) (h1 : Nat.ble o.1 7 = true) : qSt1 P y i o L stk M Q := by
  unfold qStep at h
  rw [h1] at h
  exact h
theorem q_g2 (h : qStep Ls xs P y i o L stk M Q) (h1 : Nat.ble o.1 7 = false) (h2 : Nat.ble o.1 27 = true) : qSt2 P y i o L stk M Q := by
  unfold qStep at h
  rw [h1, h2] at h
  exact h
theorem q_g3 (h : qStep Ls xs P y i o L stk M Q) (h1 : Nat.ble o.1 7 = false) (h2 : Nat.ble o.1 27 = false) (h3 : Nat.ble o.1 33 = true) : qSt3 P y i o L stk M Q := by
  unfold qStep at h
  rw [h1, h2, h3] at h
  exact h
theorem q_g4 (h : qStep Ls xs P y i o L stk M Q) (h1 : Nat.ble o.1 7 = false) (h2 : Nat.ble o.1 27 = false) (h3 : Nat.ble o.1 33 = false) (h4 : Nat.ble o.1 39 = true) : qSt4 P y i o L stk M Q := by
  unfold qStep at h
  rw [h1, h2, h3, h4] at h
  exact h
theorem q_g5 (h : qStep Ls xs P y i o L stk M Q) (h1 : Nat.ble o.1 7 = false) (h2 : Nat.ble o.1 27 = false) (h3 : Nat.ble o.1 33 = false) (h4 : Nat.ble o.1 39 = false) (h5 : Nat.ble o.1 47 = true) : qSt5 P y i o L stk M Q := by
  unfold qStep at h
  rw [h1, h2, h3, h4, h5] at h
  exact h
theorem q_g6 (h : qStep Ls xs P y i o L stk M Q) (h1 : Nat.ble o.1 7 = false) (h2 : Nat.ble o.1 27 = false) (h3 : Nat.ble o.1 33 = false) (h4 : Nat.ble o.1 39 = false) (h5 : Nat.ble o.1 47 = false) (h6 : Nat.ble o.1 59 = true) : qSt6 Ls xs P y i o L stk M Q := by
  unfold qStep at h
  rw [h1, h2, h3, h4, h5, h6] at h
  exact h
theorem q_g7 (h : qStep Ls xs P y i o L stk M Q) (h1 : Nat.ble o.1 7 = false) (h2 : Nat.ble o.1 27 = false) (h3 : Nat.ble o.1 33 = false) (h4 : Nat.ble o.1 39 = false) (h5 : Nat.ble o.1 47 = false) (h6 : Nat.ble o.1 59 = false) : qSt7 P y i o L stk M Q := by
  unfold qStep at h
  rw [h1, h2, h3, h4, h5, h6] at h
  exact h
end QG
theorem q_fitZ {x : Int32} (h : narrow .boolean (.int x) = .int x) : fits .boolean (.int x) = true := by
  have e : x &&& 1 = x := by
    have h2 : Value.int (x &&& 1) = Value.int x := h
    exact Value.int.inj h2
  show (x == 0 || x == 1) = true
  rw [← e]
  obtain ⟨j, hj, hx⟩ := pk_andE x (m := 1) 1 (by decide)
  rw [hx]
  rcases (show j = 0 ∨ j = 1 by omega) with rfl | rfl <;> rfl
