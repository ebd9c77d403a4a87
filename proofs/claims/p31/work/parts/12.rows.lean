/-! the abstract machine stands for the machine: the judgement, and its rows -/
def qA (ad : Nat → Nat) : Nat → Prop := fun q => ∃ k, k < 72 ∧ q = ad k
def qTy (aC : Nat → ClassId) : List (ClassId × FieldType) := [(aC 0, .int), (aC 1, .long), (aC 2, .int), (aC 3, .object RX4), (aC 4, .object RX2)]
def qSt (dC : Nat → ClassId) (dI : Nat → Nat → Nat) (aC : Nat → ClassId) (b Ls : Nat) (xs : Nat → Int32) (U : State) : Prop :=
  va_K (dC, dI) vwCl (qTy aC) U ∧ va_X b Ls xs U U.heap ∧ b < U.heap.size ∧ ∀ t ∈ qNst, va_Nw (qNw t) U
def qCx (dC : Nat → ClassId) (dI : Nat → Nat → Nat) (aC : Nat → ClassId) (b Ls : Nat) (xs : Nat → Int32) (y : Nat) (p : Program) (R : Room) (s : State) (m : MethodId) (args : Array Value) (c : Code) (cells slots : Nat) : Prop :=
  p.tables.exec = Jvm.exec ∧ c.code = mB y ∧ c.maxLocals = mL y ∧ s.vm.findClass (mO y) = some m.cls ∧ (∀ w ∈ qT, w.before args s = true) ∧ mF y ≤ R.frames ∧ mW y ≤ R.locals ∧ cells ≤ R.cells ∧ slots ≤ R.slots ∧ qSt dC dI aC b Ls xs s
def qAd (ad : Nat → Nat) (b : Nat) : Prop := (∀ i j, i < 72 → j < 72 → ad i = ad j → i = j) ∧ (∀ k, k < 72 → ad k ≠ b) ∧ ad 1000 = b
def qRet (y : Nat) (pc : Nat) (v : Option Value) : Prop := match v with
  | none => decode (mB y) pc = .ok (.return_, 1) ∧ mR y = none
  | some (.int x) => decode (mB y) pc = .ok (.ireturn, 1) ∧ ∃ ty, mR y = some ty ∧ narrow ty (.int x) = .int x
  | some (.long _) => decode (mB y) pc = .ok (.lreturn, 1) ∧ mR y = some .long
  | some (.ref _) => decode (mB y) pc = .ok (.areturn, 1) ∧ ∃ n, mR y = some (.object n)
  | some .null => decode (mB y) pc = .ok (.areturn, 1) ∧ ∃ n, mR y = some (.object n)
  | _ => False
def PM (l : Launch) (ad : Nat → Nat) (dC : Nat → ClassId) (dI : Nat → Nat → Nat) (aC : Nat → ClassId) (b Ls : Nat) (xs : Nat → Int32) : qSem := fun y i L stk M Q =>
  ∀ (p : Program) (e : Env) (R : Room) (s : State) (m : MethodId) (args : Array Value) (below : List Frame) (meth : Method) (c : Code) (H : Heap) (locs : List Loc) (cells slots : Nat) (ls : Array Slot) (G : State → Prop),
    qCx dC dI aC b Ls xs y p R s m args c cells slots → va_P (dC, dI) vwCl (wl ad aC M) H → va_S (qA ad) s.heap H locs → lv_has ls (mL y) (trL ad L) →
    (∀ (v : Option Value) (M' : qMem) (H' : Heap) (locs' : List Loc) (ls' : Array Slot) (pc' : Nat), qRet y pc' v → Q v M' → va_P (dC, dI) vwCl (wl ad aC M') H' → va_S (qA ad) s.heap H' locs' → W p l e R s m args below meth c H' locs' cells slots G (F0 m pc' ls' (trS ad v.toList))) →
    W p l e R s m args below meth c H locs cells slots G (F0 m (pcA y i) ls (trS ad stk))
theorem wl_D {ad : Nat → Nat} {b : Nat} (hA : qAd ad b) (aC : Nat → ClassId) (M : qMem) : va_D (qA ad) (wl ad aC M) := by
  have g : ∀ (k : Nat) (q : Nat × va_E), (wl ad aC M)[k]? = some q → k < 72 ∧ q.1 = ad k := by
    intro k q h
    have hlen : (wl ad aC M).length = 72 := by simp [wl]
    have hk : k < 72 := by
      have := (List.getElem?_eq_some_iff.mp h).1
      omega
    rw [wl_get hk] at h
    cases h
    exact ⟨hk, rfl⟩
  refine ⟨fun i j p q hp hq e => ?_, fun k q h => ⟨k, g k q h⟩⟩
  obtain ⟨h1, h2⟩ := g i p hp
  obtain ⟨h3, h4⟩ := g j q hq
  exact hA.1 i j h1 h3 (by rw [← h2, ← h4, e])
section QS
variable {l : Launch} {ad : Nat → Nat} {dC : Nat → ClassId} {dI : Nat → Nat → Nat} {aC : Nat → ClassId} {b Ls : Nat} {xs : Nat → Int32}
variable {y i len : Nat} {o : qOp} {L : qLc} {stk : List Value} {M : qMem} {Q : qPost}
theorem sd_iconst {n : Int} (hdg : decode (mB y) (pcA y i) = .ok (.iconst n, len)) (ho : chkO y i (pcA y i) (.iconst n) len o = true) (h : qStep Ls xs (PM l ad dC dI aC b Ls xs) y i o L stk M Q) : PM l ad dC dI aC b Ls xs y i L stk M Q := by
  obtain ⟨c0, a0, b0, d0, v0, l0⟩ := o
  simp only [chkO, Bool.and_eq_true] at ho
  obtain ⟨⟨⟨g1, g2⟩, g3⟩, g4⟩ := ho
  have z0 := q_bq g1
  try dsimp only at z0
  subst z0
  have z3 : v0 = .int (Int32.ofInt n) := of_decide_eq_true g2
  subst z3
  have z1 := q_bq g3
  subst z1
  have z2 := q_bq g4
  replace h : qx_0 (PM l ad dC dI aC b Ls xs) y i _ L stk M Q := q_g1 h rfl
  dsimp only [qx_0] at h
  intro p e R s m args below meth c H locs cells slots ls G C hP hS hl hr
  obtain ⟨hx, hb, hml, hown, hts, -⟩ := id C
  refine lv_iconst hx hb hdg rfl ?_
  rw [← z2]
  exact h p e R s m args below meth c H locs cells slots ls G C hP hS hl hr
theorem sd_bipush {n : Int} (hdg : decode (mB y) (pcA y i) = .ok (.bipush n, len)) (ho : chkO y i (pcA y i) (.bipush n) len o = true) (h : qStep Ls xs (PM l ad dC dI aC b Ls xs) y i o L stk M Q) : PM l ad dC dI aC b Ls xs y i L stk M Q := by
  obtain ⟨c0, a0, b0, d0, v0, l0⟩ := o
  simp only [chkO, Bool.and_eq_true] at ho
  obtain ⟨⟨⟨g1, g2⟩, g3⟩, g4⟩ := ho
  have z0 := q_bq g1
  try dsimp only at z0
  subst z0
  have z3 : v0 = .int (Int8.ofInt n).toInt32 := of_decide_eq_true g2
  subst z3
  have z1 := q_bq g3
  subst z1
  have z2 := q_bq g4
  replace h : qx_0 (PM l ad dC dI aC b Ls xs) y i _ L stk M Q := q_g1 h rfl
  dsimp only [qx_0] at h
  intro p e R s m args below meth c H locs cells slots ls G C hP hS hl hr
  obtain ⟨hx, hb, hml, hown, hts, -⟩ := id C
  refine lv_bipush hx hb hdg rfl ?_
  rw [← z2]
  exact h p e R s m args below meth c H locs cells slots ls G C hP hS hl hr
theorem sd_sipush {n : Int} (hdg : decode (mB y) (pcA y i) = .ok (.sipush n, len)) (ho : chkO y i (pcA y i) (.sipush n) len o = true) (h : qStep Ls xs (PM l ad dC dI aC b Ls xs) y i o L stk M Q) : PM l ad dC dI aC b Ls xs y i L stk M Q := by
  obtain ⟨c0, a0, b0, d0, v0, l0⟩ := o
  simp only [chkO, Bool.and_eq_true] at ho
  obtain ⟨⟨⟨g1, g2⟩, g3⟩, g4⟩ := ho
  have z0 := q_bq g1
  try dsimp only at z0
  subst z0
  have z3 : v0 = .int (Int16.ofInt n).toInt32 := of_decide_eq_true g2
  subst z3
  have z1 := q_bq g3
  subst z1
  have z2 := q_bq g4
  replace h : qx_0 (PM l ad dC dI aC b Ls xs) y i _ L stk M Q := q_g1 h rfl
  dsimp only [qx_0] at h
  intro p e R s m args below meth c H locs cells slots ls G C hP hS hl hr
  obtain ⟨hx, hb, hml, hown, hts, -⟩ := id C
  refine lv_sipush hx hb hdg rfl ?_
  rw [← z2]
  exact h p e R s m args below meth c H locs cells slots ls G C hP hS hl hr
theorem sd_lconst {n : Fin 2} (hdg : decode (mB y) (pcA y i) = .ok (.lconst n, len)) (ho : chkO y i (pcA y i) (.lconst n) len o = true) (h : qStep Ls xs (PM l ad dC dI aC b Ls xs) y i o L stk M Q) : PM l ad dC dI aC b Ls xs y i L stk M Q := by
  obtain ⟨c0, a0, b0, d0, v0, l0⟩ := o
  simp only [chkO, Bool.and_eq_true] at ho
  obtain ⟨⟨⟨g1, g2⟩, g3⟩, g4⟩ := ho
  have z0 := q_bq g1
  try dsimp only at z0
  subst z0
  have z3 : v0 = .long (Int64.ofNat n.val) := of_decide_eq_true g2
  subst z3
  have z1 := q_bq g3
  subst z1
  have z2 := q_bq g4
  replace h : qx_0 (PM l ad dC dI aC b Ls xs) y i _ L stk M Q := q_g1 h rfl
  dsimp only [qx_0] at h
  intro p e R s m args below meth c H locs cells slots ls G C hP hS hl hr
  obtain ⟨hx, hb, hml, hown, hts, -⟩ := id C
  refine lv_lconst hx hb hdg rfl ?_
  rw [← z2]
  exact h p e R s m args below meth c H locs cells slots ls G C hP hS hl hr
theorem sd_null (hdg : decode (mB y) (pcA y i) = .ok (.aconst_null, len)) (ho : chkO y i (pcA y i) (.aconst_null) len o = true) (h : qStep Ls xs (PM l ad dC dI aC b Ls xs) y i o L stk M Q) : PM l ad dC dI aC b Ls xs y i L stk M Q := by
  obtain ⟨c0, a0, b0, d0, v0, l0⟩ := o
  simp only [chkO, Bool.and_eq_true] at ho
  obtain ⟨⟨⟨g1, g2⟩, g3⟩, g4⟩ := ho
  have z0 := q_bq g1
  try dsimp only at z0
  subst z0
  have z3 : v0 = .null := of_decide_eq_true g2
  subst z3
  have z1 := q_bq g3
  subst z1
  have z2 := q_bq g4
  replace h : qx_0 (PM l ad dC dI aC b Ls xs) y i _ L stk M Q := q_g1 h rfl
  dsimp only [qx_0] at h
  intro p e R s m args below meth c H locs cells slots ls G C hP hS hl hr
  obtain ⟨hx, hb, hml, hown, hts, -⟩ := id C
  refine lv_null hx hb hdg ?_
  rw [← z2]
  exact h p e R s m args below meth c H locs cells slots ls G C hP hS hl hr
theorem sd_ldc {idx : Nat} (hdg : decode (mB y) (pcA y i) = .ok (.ldc idx, len)) (ho : chkO y i (pcA y i) (.ldc idx) len o = true) (h : qStep Ls xs (PM l ad dC dI aC b Ls xs) y i o L stk M Q) : PM l ad dC dI aC b Ls xs y i L stk M Q := by
  obtain ⟨c0, a0, b0, d0, v0, l0⟩ := o
  cases v0 with
  | int x =>
    simp only [chkO, Bool.and_eq_true] at ho
    obtain ⟨⟨⟨g1, g2⟩, g3⟩, g4⟩ := ho
    have z0 := q_bq g1
    try dsimp only at z0
    subst z0
    have z1 := q_bq g3
    subst z1
    have z2 := q_bq g4
    replace h : qx_0 (PM l ad dC dI aC b Ls xs) y i _ L stk M Q := q_g1 h rfl
    dsimp only [qx_0] at h
    intro p e R s m args below meth c H locs cells slots ls G C hP hS hl hr
    obtain ⟨hx, hb, hml, hown, hts, -⟩ := id C
    refine lv_ldc hx hb hown (hts _ (tbw_T g2 rfl)) hdg ?_
    rw [← z2]
    exact h p e R s m args below meth c H locs cells slots ls G C hP hS hl hr
  | _ => simp [chkO] at ho
theorem sd_ldc2 {idx : Nat} (hdg : decode (mB y) (pcA y i) = .ok (.ldc2_w idx, len)) (ho : chkO y i (pcA y i) (.ldc2_w idx) len o = true) (h : qStep Ls xs (PM l ad dC dI aC b Ls xs) y i o L stk M Q) : PM l ad dC dI aC b Ls xs y i L stk M Q := by
  obtain ⟨c0, a0, b0, d0, v0, l0⟩ := o
  cases v0 with
  | long x =>
    simp only [chkO, Bool.and_eq_true] at ho
    obtain ⟨⟨⟨g1, g2⟩, g3⟩, g4⟩ := ho
    have z0 := q_bq g1
    try dsimp only at z0
    subst z0
    have z1 := q_bq g3
    subst z1
    have z2 := q_bq g4
    replace h : qx_0 (PM l ad dC dI aC b Ls xs) y i _ L stk M Q := q_g1 h rfl
    dsimp only [qx_0] at h
    intro p e R s m args below meth c H locs cells slots ls G C hP hS hl hr
    obtain ⟨hx, hb, hml, hown, hts, -⟩ := id C
    refine lv_ldc2 hx hb hown (hts _ (tbw_T g2 rfl)) hdg ?_
    rw [← z2]
    exact h p e R s m args below meth c H locs cells slots ls G C hP hS hl hr
  | _ => simp [chkO] at ho
theorem sd_iload {k : Nat} (hdg : decode (mB y) (pcA y i) = .ok (.iload k, len)) (ho : chkO y i (pcA y i) (.iload k) len o = true) (h : qStep Ls xs (PM l ad dC dI aC b Ls xs) y i o L stk M Q) : PM l ad dC dI aC b Ls xs y i L stk M Q := by
  obtain ⟨c0, a0, b0, d0, v0, l0⟩ := o
  simp only [chkO, Bool.and_eq_true] at ho
  obtain ⟨⟨⟨g1, g2⟩, g3⟩, g4⟩ := ho
  have z0 := q_bq g1
  try dsimp only at z0
  subst z0
  have z3 := q_bq g2
  try dsimp only at z3
  subst z3
  have z1 := q_bq g3
  subst z1
  have z2 := q_bq g4
  replace h : qx_1 (PM l ad dC dI aC b Ls xs) y i _ L stk M Q := q_g1 h rfl
  dsimp only [qx_1] at h
  split at h
  · rename_i x hg
    intro p e R s m args below meth c H locs cells slots ls G C hP hS hl hr
    obtain ⟨hx, hb, hml, hown, hts, -⟩ := id C
    refine lv_iload hx hb hdg (lcG_at hl hg (fun q => by cases q)) ?_
    rw [← z2]
    exact h p e R s m args below meth c H locs cells slots ls G C hP hS hl hr
  · exact h.elim
theorem sd_iload_n {k : Fin 4} (hdg : decode (mB y) (pcA y i) = .ok (.iload_n k, len)) (ho : chkO y i (pcA y i) (.iload_n k) len o = true) (h : qStep Ls xs (PM l ad dC dI aC b Ls xs) y i o L stk M Q) : PM l ad dC dI aC b Ls xs y i L stk M Q := by
  obtain ⟨c0, a0, b0, d0, v0, l0⟩ := o
  simp only [chkO, Bool.and_eq_true] at ho
  obtain ⟨⟨⟨g1, g2⟩, g3⟩, g4⟩ := ho
  have z0 := q_bq g1
  try dsimp only at z0
  subst z0
  have z3 := q_bq g2
  try dsimp only at z3
  subst z3
  have z1 := q_bq g3
  subst z1
  have z2 := q_bq g4
  replace h : qx_1 (PM l ad dC dI aC b Ls xs) y i _ L stk M Q := q_g1 h rfl
  dsimp only [qx_1] at h
  split at h
  · rename_i x hg
    intro p e R s m args below meth c H locs cells slots ls G C hP hS hl hr
    obtain ⟨hx, hb, hml, hown, hts, -⟩ := id C
    refine lv_iload_n hx hb hdg rfl (lcG_at hl hg (fun q => by cases q)) ?_
    rw [← z2]
    exact h p e R s m args below meth c H locs cells slots ls G C hP hS hl hr
  · exact h.elim
theorem sd_lload {k : Nat} (hdg : decode (mB y) (pcA y i) = .ok (.lload k, len)) (ho : chkO y i (pcA y i) (.lload k) len o = true) (h : qStep Ls xs (PM l ad dC dI aC b Ls xs) y i o L stk M Q) : PM l ad dC dI aC b Ls xs y i L stk M Q := by
  obtain ⟨c0, a0, b0, d0, v0, l0⟩ := o
  simp only [chkO, Bool.and_eq_true] at ho
  obtain ⟨⟨⟨g1, g2⟩, g3⟩, g4⟩ := ho
  have z0 := q_bq g1
  try dsimp only at z0
  subst z0
  have z3 := q_bq g2
  try dsimp only at z3
  subst z3
  have z1 := q_bq g3
  subst z1
  have z2 := q_bq g4
  replace h : qx_2 (PM l ad dC dI aC b Ls xs) y i _ L stk M Q := q_g1 h rfl
  dsimp only [qx_2] at h
  split at h
  · rename_i x hg
    intro p e R s m args below meth c H locs cells slots ls G C hP hS hl hr
    obtain ⟨hx, hb, hml, hown, hts, -⟩ := id C
    refine lv_lload hx hb hdg (lcG_at hl hg (fun q => by cases q)) ?_
    rw [← z2]
    exact h p e R s m args below meth c H locs cells slots ls G C hP hS hl hr
  · exact h.elim
theorem sd_lload_n {k : Fin 4} (hdg : decode (mB y) (pcA y i) = .ok (.lload_n k, len)) (ho : chkO y i (pcA y i) (.lload_n k) len o = true) (h : qStep Ls xs (PM l ad dC dI aC b Ls xs) y i o L stk M Q) : PM l ad dC dI aC b Ls xs y i L stk M Q := by
  obtain ⟨c0, a0, b0, d0, v0, l0⟩ := o
  simp only [chkO, Bool.and_eq_true] at ho
  obtain ⟨⟨⟨g1, g2⟩, g3⟩, g4⟩ := ho
  have z0 := q_bq g1
  try dsimp only at z0
  subst z0
  have z3 := q_bq g2
  try dsimp only at z3
  subst z3
  have z1 := q_bq g3
  subst z1
  have z2 := q_bq g4
  replace h : qx_2 (PM l ad dC dI aC b Ls xs) y i _ L stk M Q := q_g1 h rfl
  dsimp only [qx_2] at h
  split at h
  · rename_i x hg
    intro p e R s m args below meth c H locs cells slots ls G C hP hS hl hr
    obtain ⟨hx, hb, hml, hown, hts, -⟩ := id C
    refine lv_lload_n hx hb hdg rfl (lcG_at hl hg (fun q => by cases q)) ?_
    rw [← z2]
    exact h p e R s m args below meth c H locs cells slots ls G C hP hS hl hr
  · exact h.elim
theorem sd_aload {k : Nat} (hdg : decode (mB y) (pcA y i) = .ok (.aload k, len)) (ho : chkO y i (pcA y i) (.aload k) len o = true) (h : qStep Ls xs (PM l ad dC dI aC b Ls xs) y i o L stk M Q) : PM l ad dC dI aC b Ls xs y i L stk M Q := by
  obtain ⟨c0, a0, b0, d0, v0, l0⟩ := o
  simp only [chkO, Bool.and_eq_true] at ho
  obtain ⟨⟨⟨g1, g2⟩, g3⟩, g4⟩ := ho
  have z0 := q_bq g1
  try dsimp only at z0
  subst z0
  have z3 := q_bq g2
  try dsimp only at z3
  subst z3
  have z1 := q_bq g3
  subst z1
  have z2 := q_bq g4
  replace h : qx_3 (PM l ad dC dI aC b Ls xs) y i _ L stk M Q := q_g1 h rfl
  dsimp only [qx_3] at h
  split at h
  · rename_i x hg
    intro p e R s m args below meth c H locs cells slots ls G C hP hS hl hr
    obtain ⟨hx, hb, hml, hown, hts, -⟩ := id C
    refine lv_aload hx hb hdg (lcG_at hl hg (fun q => by cases q)) ?_
    rw [← z2]
    exact h p e R s m args below meth c H locs cells slots ls G C hP hS hl hr
  · rename_i hg
    intro p e R s m args below meth c H locs cells slots ls G C hP hS hl hr
    obtain ⟨hx, hb, hml, hown, hts, -⟩ := id C
    refine lv_aloadN hx hb hdg (lcG_at hl hg (fun q => by cases q)) ?_
    rw [← z2]
    exact h p e R s m args below meth c H locs cells slots ls G C hP hS hl hr
  · exact h.elim
theorem sd_aload_n {k : Fin 4} (hdg : decode (mB y) (pcA y i) = .ok (.aload_n k, len)) (ho : chkO y i (pcA y i) (.aload_n k) len o = true) (h : qStep Ls xs (PM l ad dC dI aC b Ls xs) y i o L stk M Q) : PM l ad dC dI aC b Ls xs y i L stk M Q := by
  obtain ⟨c0, a0, b0, d0, v0, l0⟩ := o
  simp only [chkO, Bool.and_eq_true] at ho
  obtain ⟨⟨⟨g1, g2⟩, g3⟩, g4⟩ := ho
  have z0 := q_bq g1
  try dsimp only at z0
  subst z0
  have z3 := q_bq g2
  try dsimp only at z3
  subst z3
  have z1 := q_bq g3
  subst z1
  have z2 := q_bq g4
  replace h : qx_3 (PM l ad dC dI aC b Ls xs) y i _ L stk M Q := q_g1 h rfl
  dsimp only [qx_3] at h
  split at h
  · rename_i x hg
    intro p e R s m args below meth c H locs cells slots ls G C hP hS hl hr
    obtain ⟨hx, hb, hml, hown, hts, -⟩ := id C
    refine lv_aload_n hx hb hdg rfl (lcG_at hl hg (fun q => by cases q)) ?_
    rw [← z2]
    exact h p e R s m args below meth c H locs cells slots ls G C hP hS hl hr
  · rename_i hg
    intro p e R s m args below meth c H locs cells slots ls G C hP hS hl hr
    obtain ⟨hx, hb, hml, hown, hts, -⟩ := id C
    refine lv_aload_nN hx hb hdg rfl (lcG_at hl hg (fun q => by cases q)) ?_
    rw [← z2]
    exact h p e R s m args below meth c H locs cells slots ls G C hP hS hl hr
  · exact h.elim
theorem sd_istore {k : Nat} (hdg : decode (mB y) (pcA y i) = .ok (.istore k, len)) (ho : chkO y i (pcA y i) (.istore k) len o = true) (h : qStep Ls xs (PM l ad dC dI aC b Ls xs) y i o L stk M Q) : PM l ad dC dI aC b Ls xs y i L stk M Q := by
  obtain ⟨c0, a0, b0, d0, v0, l0⟩ := o
  simp only [chkO, Bool.and_eq_true] at ho
  obtain ⟨⟨⟨⟨g1, g2⟩, g3⟩, g4⟩, g5⟩ := ho
  have z0 := q_bq g1
  try dsimp only at z0
  subst z0
  have z3 := q_bq g2
  try dsimp only at z3
  subst z3
  have z1 := q_bq g4
  subst z1
  have z2 := q_bq g5
  replace h : qx_4 (PM l ad dC dI aC b Ls xs) y i _ L stk M Q := q_g1 h rfl
  dsimp only [qx_4] at h
  have z4 := Nat.le_of_ble_eq_true g3
  split at h
  · rename_i x st
    intro p e R s m args below meth c H locs cells slots ls G C hP hS hl hr
    obtain ⟨hx, hb, hml, hown, hts, -⟩ := id C
    refine lv_istore hx hb hdg hl z4 (trL_S1 ad L _ (.int x)) (fun ls hl => ?_)
    rw [← z2]
    exact h p e R s m args below meth c H locs cells slots ls G C hP hS hl hr
  · exact h.elim
theorem sd_istore_n {k : Fin 4} (hdg : decode (mB y) (pcA y i) = .ok (.istore_n k, len)) (ho : chkO y i (pcA y i) (.istore_n k) len o = true) (h : qStep Ls xs (PM l ad dC dI aC b Ls xs) y i o L stk M Q) : PM l ad dC dI aC b Ls xs y i L stk M Q := by
  obtain ⟨c0, a0, b0, d0, v0, l0⟩ := o
  simp only [chkO, Bool.and_eq_true] at ho
  obtain ⟨⟨⟨⟨g1, g2⟩, g3⟩, g4⟩, g5⟩ := ho
  have z0 := q_bq g1
  try dsimp only at z0
  subst z0
  have z3 := q_bq g2
  try dsimp only at z3
  subst z3
  have z1 := q_bq g4
  subst z1
  have z2 := q_bq g5
  replace h : qx_4 (PM l ad dC dI aC b Ls xs) y i _ L stk M Q := q_g1 h rfl
  dsimp only [qx_4] at h
  have z4 := Nat.le_of_ble_eq_true g3
  split at h
  · rename_i x st
    intro p e R s m args below meth c H locs cells slots ls G C hP hS hl hr
    obtain ⟨hx, hb, hml, hown, hts, -⟩ := id C
    refine lv_istore_n hx hb hdg rfl hl z4 (trL_S1 ad L _ (.int x)) (fun ls hl => ?_)
    rw [← z2]
    exact h p e R s m args below meth c H locs cells slots ls G C hP hS hl hr
  · exact h.elim
theorem sd_lstore {k : Nat} (hdg : decode (mB y) (pcA y i) = .ok (.lstore k, len)) (ho : chkO y i (pcA y i) (.lstore k) len o = true) (h : qStep Ls xs (PM l ad dC dI aC b Ls xs) y i o L stk M Q) : PM l ad dC dI aC b Ls xs y i L stk M Q := by
  obtain ⟨c0, a0, b0, d0, v0, l0⟩ := o
  simp only [chkO, Bool.and_eq_true] at ho
  obtain ⟨⟨⟨⟨g1, g2⟩, g3⟩, g4⟩, g5⟩ := ho
  have z0 := q_bq g1
  try dsimp only at z0
  subst z0
  have z3 := q_bq g2
  try dsimp only at z3
  subst z3
  have z1 := q_bq g4
  subst z1
  have z2 := q_bq g5
  replace h : qx_5 (PM l ad dC dI aC b Ls xs) y i _ L stk M Q := q_g1 h rfl
  dsimp only [qx_5] at h
  have z4 := Nat.le_of_ble_eq_true g3
  split at h
  · rename_i x st
    intro p e R s m args below meth c H locs cells slots ls G C hP hS hl hr
    obtain ⟨hx, hb, hml, hown, hts, -⟩ := id C
    refine lv_lstore hx hb hdg hl z4 (trL_S2 ad L _ (.long x)) (fun ls hl => ?_)
    rw [← z2]
    exact h p e R s m args below meth c H locs cells slots ls G C hP hS hl hr
  · exact h.elim
theorem sd_lstore_n {k : Fin 4} (hdg : decode (mB y) (pcA y i) = .ok (.lstore_n k, len)) (ho : chkO y i (pcA y i) (.lstore_n k) len o = true) (h : qStep Ls xs (PM l ad dC dI aC b Ls xs) y i o L stk M Q) : PM l ad dC dI aC b Ls xs y i L stk M Q := by
  obtain ⟨c0, a0, b0, d0, v0, l0⟩ := o
  simp only [chkO, Bool.and_eq_true] at ho
  obtain ⟨⟨⟨⟨g1, g2⟩, g3⟩, g4⟩, g5⟩ := ho
  have z0 := q_bq g1
  try dsimp only at z0
  subst z0
  have z3 := q_bq g2
  try dsimp only at z3
  subst z3
  have z1 := q_bq g4
  subst z1
  have z2 := q_bq g5
  replace h : qx_5 (PM l ad dC dI aC b Ls xs) y i _ L stk M Q := q_g1 h rfl
  dsimp only [qx_5] at h
  have z4 := Nat.le_of_ble_eq_true g3
  split at h
  · rename_i x st
    intro p e R s m args below meth c H locs cells slots ls G C hP hS hl hr
    obtain ⟨hx, hb, hml, hown, hts, -⟩ := id C
    refine lv_lstore_n hx hb hdg rfl hl z4 (trL_S2 ad L _ (.long x)) (fun ls hl => ?_)
    rw [← z2]
    exact h p e R s m args below meth c H locs cells slots ls G C hP hS hl hr
  · exact h.elim
theorem sd_astore {k : Nat} (hdg : decode (mB y) (pcA y i) = .ok (.astore k, len)) (ho : chkO y i (pcA y i) (.astore k) len o = true) (h : qStep Ls xs (PM l ad dC dI aC b Ls xs) y i o L stk M Q) : PM l ad dC dI aC b Ls xs y i L stk M Q := by
  obtain ⟨c0, a0, b0, d0, v0, l0⟩ := o
  simp only [chkO, Bool.and_eq_true] at ho
  obtain ⟨⟨⟨⟨g1, g2⟩, g3⟩, g4⟩, g5⟩ := ho
  have z0 := q_bq g1
  try dsimp only at z0
  subst z0
  have z3 := q_bq g2
  try dsimp only at z3
  subst z3
  have z1 := q_bq g4
  subst z1
  have z2 := q_bq g5
  replace h : qx_6 (PM l ad dC dI aC b Ls xs) y i _ L stk M Q := q_g1 h rfl
  dsimp only [qx_6] at h
  have z4 := Nat.le_of_ble_eq_true g3
  split at h
  · rename_i x st
    intro p e R s m args below meth c H locs cells slots ls G C hP hS hl hr
    obtain ⟨hx, hb, hml, hown, hts, -⟩ := id C
    refine lv_astore hx hb hdg hl z4 (trL_S1 ad L _ (.ref x)) (fun ls hl => ?_)
    rw [← z2]
    exact h p e R s m args below meth c H locs cells slots ls G C hP hS hl hr
  · rename_i st
    intro p e R s m args below meth c H locs cells slots ls G C hP hS hl hr
    obtain ⟨hx, hb, hml, hown, hts, -⟩ := id C
    refine lv_astoreN hx hb hdg hl z4 (trL_S1 ad L _ (.null)) (fun ls hl => ?_)
    rw [← z2]
    exact h p e R s m args below meth c H locs cells slots ls G C hP hS hl hr
  · exact h.elim
theorem sd_astore_n {k : Fin 4} (hdg : decode (mB y) (pcA y i) = .ok (.astore_n k, len)) (ho : chkO y i (pcA y i) (.astore_n k) len o = true) (h : qStep Ls xs (PM l ad dC dI aC b Ls xs) y i o L stk M Q) : PM l ad dC dI aC b Ls xs y i L stk M Q := by
  obtain ⟨c0, a0, b0, d0, v0, l0⟩ := o
  simp only [chkO, Bool.and_eq_true] at ho
  obtain ⟨⟨⟨⟨g1, g2⟩, g3⟩, g4⟩, g5⟩ := ho
  have z0 := q_bq g1
  try dsimp only at z0
  subst z0
  have z3 := q_bq g2
  try dsimp only at z3
  subst z3
  have z1 := q_bq g4
  subst z1
  have z2 := q_bq g5
  replace h : qx_6 (PM l ad dC dI aC b Ls xs) y i _ L stk M Q := q_g1 h rfl
  dsimp only [qx_6] at h
  have z4 := Nat.le_of_ble_eq_true g3
  split at h
  · rename_i x st
    intro p e R s m args below meth c H locs cells slots ls G C hP hS hl hr
    obtain ⟨hx, hb, hml, hown, hts, -⟩ := id C
    refine lv_astore_n hx hb hdg rfl hl z4 (trL_S1 ad L _ (.ref x)) (fun ls hl => ?_)
    rw [← z2]
    exact h p e R s m args below meth c H locs cells slots ls G C hP hS hl hr
  · rename_i st
    intro p e R s m args below meth c H locs cells slots ls G C hP hS hl hr
    obtain ⟨hx, hb, hml, hown, hts, -⟩ := id C
    refine lv_astore_nN hx hb hdg rfl hl z4 (trL_S1 ad L _ (.null)) (fun ls hl => ?_)
    rw [← z2]
    exact h p e R s m args below meth c H locs cells slots ls G C hP hS hl hr
  · exact h.elim
theorem sd_iinc {k : Nat} {n : Int} (hdg : decode (mB y) (pcA y i) = .ok (.iinc k n, len)) (ho : chkO y i (pcA y i) (.iinc k n) len o = true) (h : qStep Ls xs (PM l ad dC dI aC b Ls xs) y i o L stk M Q) : PM l ad dC dI aC b Ls xs y i L stk M Q := by
  obtain ⟨c0, a0, b0, d0, v0, l0⟩ := o
  simp only [chkO, Bool.and_eq_true] at ho
  obtain ⟨⟨⟨⟨⟨g1, g2⟩, g3⟩, g4⟩, g5⟩, g6⟩ := ho
  have z0 := q_bq g1
  try dsimp only at z0
  subst z0
  have z3 := q_bq g2
  try dsimp only at z3
  subst z3
  have z5 : v0 = .int (Int32.ofInt n) := of_decide_eq_true g3
  subst z5
  have z1 := q_bq g5
  subst z1
  have z2 := q_bq g6
  replace h : qx_7 (PM l ad dC dI aC b Ls xs) y i _ L stk M Q := q_g1 h rfl
  dsimp only [qx_7] at h
  have z4 := Nat.le_of_ble_eq_true g4
  split at h
  · rename_i x d hg hd
    cases hd
    intro p e R s m args below meth c H locs cells slots ls G C hP hS hl hr
    obtain ⟨hx, hb, hml, hown, hts, -⟩ := id C
    obtain ⟨kk, hk⟩ := lcG_k (ad := ad) hg (fun q => by cases q)
    refine lv_iinc hx hb hdg hl hk rfl z4 (trL_S1 ad L _ (.int (x + Int32.ofInt n))) (fun ls hl => ?_)
    rw [← z2]
    exact h p e R s m args below meth c H locs cells slots ls G C hP hS hl hr
  · exact h.elim
theorem sd_iadd (hdg : decode (mB y) (pcA y i) = .ok (.iadd, len)) (ho : chkO y i (pcA y i) (.iadd) len o = true) (h : qStep Ls xs (PM l ad dC dI aC b Ls xs) y i o L stk M Q) : PM l ad dC dI aC b Ls xs y i L stk M Q := by
  obtain ⟨c0, a0, b0, d0, v0, l0⟩ := o
  simp only [chkO, Bool.and_eq_true] at ho
  obtain ⟨⟨g1, g2⟩, g3⟩ := ho
  have z0 := q_bq g1
  try dsimp only at z0
  subst z0
  have z1 := q_bq g2
  subst z1
  have z2 := q_bq g3
  replace h : qx_8 (PM l ad dC dI aC b Ls xs) y i qHalt L stk M Q := q_g2 h rfl rfl
  dsimp only [qx_8] at h
  split at h
  · intro p e R s m args below meth c H locs cells slots ls G C hP hS hl hr
    obtain ⟨hx, hb, hml, hown, hts, -⟩ := id C
    refine lv_iadd hx hb hdg ?_
    rw [← z2]
    exact h p e R s m args below meth c H locs cells slots ls G C hP hS hl hr
  · exact h.elim
theorem sd_isub (hdg : decode (mB y) (pcA y i) = .ok (.isub, len)) (ho : chkO y i (pcA y i) (.isub) len o = true) (h : qStep Ls xs (PM l ad dC dI aC b Ls xs) y i o L stk M Q) : PM l ad dC dI aC b Ls xs y i L stk M Q := by
  obtain ⟨c0, a0, b0, d0, v0, l0⟩ := o
  simp only [chkO, Bool.and_eq_true] at ho
  obtain ⟨⟨g1, g2⟩, g3⟩ := ho
  have z0 := q_bq g1
  try dsimp only at z0
  subst z0
  have z1 := q_bq g2
  subst z1
  have z2 := q_bq g3
  replace h : qx_9 (PM l ad dC dI aC b Ls xs) y i qHalt L stk M Q := q_g2 h rfl rfl
  dsimp only [qx_9] at h
  split at h
  · intro p e R s m args below meth c H locs cells slots ls G C hP hS hl hr
    obtain ⟨hx, hb, hml, hown, hts, -⟩ := id C
    refine lv_isub hx hb hdg ?_
    rw [← z2]
    exact h p e R s m args below meth c H locs cells slots ls G C hP hS hl hr
  · exact h.elim
theorem sd_imul (hdg : decode (mB y) (pcA y i) = .ok (.imul, len)) (ho : chkO y i (pcA y i) (.imul) len o = true) (h : qStep Ls xs (PM l ad dC dI aC b Ls xs) y i o L stk M Q) : PM l ad dC dI aC b Ls xs y i L stk M Q := by
  obtain ⟨c0, a0, b0, d0, v0, l0⟩ := o
  simp only [chkO, Bool.and_eq_true] at ho
  obtain ⟨⟨g1, g2⟩, g3⟩ := ho
  have z0 := q_bq g1
  try dsimp only at z0
  subst z0
  have z1 := q_bq g2
  subst z1
  have z2 := q_bq g3
  replace h : qx_10 (PM l ad dC dI aC b Ls xs) y i qHalt L stk M Q := q_g2 h rfl rfl
  dsimp only [qx_10] at h
  split at h
  · intro p e R s m args below meth c H locs cells slots ls G C hP hS hl hr
    obtain ⟨hx, hb, hml, hown, hts, -⟩ := id C
    refine lv_imul hx hb hdg ?_
    rw [← z2]
    exact h p e R s m args below meth c H locs cells slots ls G C hP hS hl hr
  · exact h.elim
theorem sd_iand (hdg : decode (mB y) (pcA y i) = .ok (.iand, len)) (ho : chkO y i (pcA y i) (.iand) len o = true) (h : qStep Ls xs (PM l ad dC dI aC b Ls xs) y i o L stk M Q) : PM l ad dC dI aC b Ls xs y i L stk M Q := by
  obtain ⟨c0, a0, b0, d0, v0, l0⟩ := o
  simp only [chkO, Bool.and_eq_true] at ho
  obtain ⟨⟨g1, g2⟩, g3⟩ := ho
  have z0 := q_bq g1
  try dsimp only at z0
  subst z0
  have z1 := q_bq g2
  subst z1
  have z2 := q_bq g3
  replace h : qx_11 (PM l ad dC dI aC b Ls xs) y i qHalt L stk M Q := q_g2 h rfl rfl
  dsimp only [qx_11] at h
  split at h
  · intro p e R s m args below meth c H locs cells slots ls G C hP hS hl hr
    obtain ⟨hx, hb, hml, hown, hts, -⟩ := id C
    refine lv_iand hx hb hdg ?_
    rw [← z2]
    exact h p e R s m args below meth c H locs cells slots ls G C hP hS hl hr
  · exact h.elim
theorem sd_ior (hdg : decode (mB y) (pcA y i) = .ok (.ior, len)) (ho : chkO y i (pcA y i) (.ior) len o = true) (h : qStep Ls xs (PM l ad dC dI aC b Ls xs) y i o L stk M Q) : PM l ad dC dI aC b Ls xs y i L stk M Q := by
  obtain ⟨c0, a0, b0, d0, v0, l0⟩ := o
  simp only [chkO, Bool.and_eq_true] at ho
  obtain ⟨⟨g1, g2⟩, g3⟩ := ho
  have z0 := q_bq g1
  try dsimp only at z0
  subst z0
  have z1 := q_bq g2
  subst z1
  have z2 := q_bq g3
  replace h : qx_12 (PM l ad dC dI aC b Ls xs) y i qHalt L stk M Q := q_g2 h rfl rfl
  dsimp only [qx_12] at h
  split at h
  · intro p e R s m args below meth c H locs cells slots ls G C hP hS hl hr
    obtain ⟨hx, hb, hml, hown, hts, -⟩ := id C
    refine lv_ior hx hb hdg ?_
    rw [← z2]
    exact h p e R s m args below meth c H locs cells slots ls G C hP hS hl hr
  · exact h.elim
theorem sd_ishl (hdg : decode (mB y) (pcA y i) = .ok (.ishl, len)) (ho : chkO y i (pcA y i) (.ishl) len o = true) (h : qStep Ls xs (PM l ad dC dI aC b Ls xs) y i o L stk M Q) : PM l ad dC dI aC b Ls xs y i L stk M Q := by
  obtain ⟨c0, a0, b0, d0, v0, l0⟩ := o
  simp only [chkO, Bool.and_eq_true] at ho
  obtain ⟨⟨g1, g2⟩, g3⟩ := ho
  have z0 := q_bq g1
  try dsimp only at z0
  subst z0
  have z1 := q_bq g2
  subst z1
  have z2 := q_bq g3
  replace h : qx_13 (PM l ad dC dI aC b Ls xs) y i qHalt L stk M Q := q_g2 h rfl rfl
  dsimp only [qx_13] at h
  split at h
  · intro p e R s m args below meth c H locs cells slots ls G C hP hS hl hr
    obtain ⟨hx, hb, hml, hown, hts, -⟩ := id C
    refine lv_ishl hx hb hdg ?_
    rw [← z2]
    exact h p e R s m args below meth c H locs cells slots ls G C hP hS hl hr
  · exact h.elim
theorem sd_ishr (hdg : decode (mB y) (pcA y i) = .ok (.ishr, len)) (ho : chkO y i (pcA y i) (.ishr) len o = true) (h : qStep Ls xs (PM l ad dC dI aC b Ls xs) y i o L stk M Q) : PM l ad dC dI aC b Ls xs y i L stk M Q := by
  obtain ⟨c0, a0, b0, d0, v0, l0⟩ := o
  simp only [chkO, Bool.and_eq_true] at ho
  obtain ⟨⟨g1, g2⟩, g3⟩ := ho
  have z0 := q_bq g1
  try dsimp only at z0
  subst z0
  have z1 := q_bq g2
  subst z1
  have z2 := q_bq g3
  replace h : qx_14 (PM l ad dC dI aC b Ls xs) y i qHalt L stk M Q := q_g2 h rfl rfl
  dsimp only [qx_14] at h
  split at h
  · intro p e R s m args below meth c H locs cells slots ls G C hP hS hl hr
    obtain ⟨hx, hb, hml, hown, hts, -⟩ := id C
    refine lv_ishr hx hb hdg ?_
    rw [← z2]
    exact h p e R s m args below meth c H locs cells slots ls G C hP hS hl hr
  · exact h.elim
theorem sd_idiv (hdg : decode (mB y) (pcA y i) = .ok (.idiv, len)) (ho : chkO y i (pcA y i) (.idiv) len o = true) (h : qStep Ls xs (PM l ad dC dI aC b Ls xs) y i o L stk M Q) : PM l ad dC dI aC b Ls xs y i L stk M Q := by
  obtain ⟨c0, a0, b0, d0, v0, l0⟩ := o
  simp only [chkO, Bool.and_eq_true] at ho
  obtain ⟨⟨g1, g2⟩, g3⟩ := ho
  have z0 := q_bq g1
  try dsimp only at z0
  subst z0
  have z1 := q_bq g2
  subst z1
  have z2 := q_bq g3
  replace h : qx_15 (PM l ad dC dI aC b Ls xs) y i qHalt L stk M Q := q_g2 h rfl rfl
  dsimp only [qx_15] at h
  split at h
  · intro p e R s m args below meth c H locs cells slots ls G C hP hS hl hr
    obtain ⟨hx, hb, hml, hown, hts, -⟩ := id C
    obtain ⟨hne, h⟩ := h
    refine lv_idiv hx hb hdg hne ?_
    rw [← z2]
    exact h p e R s m args below meth c H locs cells slots ls G C hP hS hl hr
  · exact h.elim
theorem sd_irem (hdg : decode (mB y) (pcA y i) = .ok (.irem, len)) (ho : chkO y i (pcA y i) (.irem) len o = true) (h : qStep Ls xs (PM l ad dC dI aC b Ls xs) y i o L stk M Q) : PM l ad dC dI aC b Ls xs y i L stk M Q := by
  obtain ⟨c0, a0, b0, d0, v0, l0⟩ := o
  simp only [chkO, Bool.and_eq_true] at ho
  obtain ⟨⟨g1, g2⟩, g3⟩ := ho
  have z0 := q_bq g1
  try dsimp only at z0
  subst z0
  have z1 := q_bq g2
  subst z1
  have z2 := q_bq g3
  replace h : qx_16 (PM l ad dC dI aC b Ls xs) y i qHalt L stk M Q := q_g2 h rfl rfl
  dsimp only [qx_16] at h
  split at h
  · intro p e R s m args below meth c H locs cells slots ls G C hP hS hl hr
    obtain ⟨hx, hb, hml, hown, hts, -⟩ := id C
    obtain ⟨hne, h⟩ := h
    refine lv_irem hx hb hdg hne ?_
    rw [← z2]
    exact h p e R s m args below meth c H locs cells slots ls G C hP hS hl hr
  · exact h.elim
theorem sd_ineg (hdg : decode (mB y) (pcA y i) = .ok (.ineg, len)) (ho : chkO y i (pcA y i) (.ineg) len o = true) (h : qStep Ls xs (PM l ad dC dI aC b Ls xs) y i o L stk M Q) : PM l ad dC dI aC b Ls xs y i L stk M Q := by
  obtain ⟨c0, a0, b0, d0, v0, l0⟩ := o
  simp only [chkO, Bool.and_eq_true] at ho
  obtain ⟨⟨g1, g2⟩, g3⟩ := ho
  have z0 := q_bq g1
  try dsimp only at z0
  subst z0
  have z1 := q_bq g2
  subst z1
  have z2 := q_bq g3
  replace h : qx_17 (PM l ad dC dI aC b Ls xs) y i qHalt L stk M Q := q_g2 h rfl rfl
  dsimp only [qx_17] at h
  split at h
  · intro p e R s m args below meth c H locs cells slots ls G C hP hS hl hr
    obtain ⟨hx, hb, hml, hown, hts, -⟩ := id C
    refine lv_ineg hx hb hdg ?_
    rw [← z2]
    exact h p e R s m args below meth c H locs cells slots ls G C hP hS hl hr
  · exact h.elim
theorem sd_ladd (hdg : decode (mB y) (pcA y i) = .ok (.ladd, len)) (ho : chkO y i (pcA y i) (.ladd) len o = true) (h : qStep Ls xs (PM l ad dC dI aC b Ls xs) y i o L stk M Q) : PM l ad dC dI aC b Ls xs y i L stk M Q := by
  obtain ⟨c0, a0, b0, d0, v0, l0⟩ := o
  simp only [chkO, Bool.and_eq_true] at ho
  obtain ⟨⟨g1, g2⟩, g3⟩ := ho
  have z0 := q_bq g1
  try dsimp only at z0
  subst z0
  have z1 := q_bq g2
  subst z1
  have z2 := q_bq g3
  replace h : qx_18 (PM l ad dC dI aC b Ls xs) y i qHalt L stk M Q := q_g2 h rfl rfl
  dsimp only [qx_18] at h
  split at h
  · intro p e R s m args below meth c H locs cells slots ls G C hP hS hl hr
    obtain ⟨hx, hb, hml, hown, hts, -⟩ := id C
    refine lv_ladd hx hb hdg ?_
    rw [← z2]
    exact h p e R s m args below meth c H locs cells slots ls G C hP hS hl hr
  · exact h.elim
theorem sd_lsub (hdg : decode (mB y) (pcA y i) = .ok (.lsub, len)) (ho : chkO y i (pcA y i) (.lsub) len o = true) (h : qStep Ls xs (PM l ad dC dI aC b Ls xs) y i o L stk M Q) : PM l ad dC dI aC b Ls xs y i L stk M Q := by
  obtain ⟨c0, a0, b0, d0, v0, l0⟩ := o
  simp only [chkO, Bool.and_eq_true] at ho
  obtain ⟨⟨g1, g2⟩, g3⟩ := ho
  have z0 := q_bq g1
  try dsimp only at z0
  subst z0
  have z1 := q_bq g2
  subst z1
  have z2 := q_bq g3
  replace h : qx_19 (PM l ad dC dI aC b Ls xs) y i qHalt L stk M Q := q_g2 h rfl rfl
  dsimp only [qx_19] at h
  split at h
  · intro p e R s m args below meth c H locs cells slots ls G C hP hS hl hr
    obtain ⟨hx, hb, hml, hown, hts, -⟩ := id C
    refine lv_lsub hx hb hdg ?_
    rw [← z2]
    exact h p e R s m args below meth c H locs cells slots ls G C hP hS hl hr
  · exact h.elim
theorem sd_lmul (hdg : decode (mB y) (pcA y i) = .ok (.lmul, len)) (ho : chkO y i (pcA y i) (.lmul) len o = true) (h : qStep Ls xs (PM l ad dC dI aC b Ls xs) y i o L stk M Q) : PM l ad dC dI aC b Ls xs y i L stk M Q := by
  obtain ⟨c0, a0, b0, d0, v0, l0⟩ := o
  simp only [chkO, Bool.and_eq_true] at ho
  obtain ⟨⟨g1, g2⟩, g3⟩ := ho
  have z0 := q_bq g1
  try dsimp only at z0
  subst z0
  have z1 := q_bq g2
  subst z1
  have z2 := q_bq g3
  replace h : qx_20 (PM l ad dC dI aC b Ls xs) y i qHalt L stk M Q := q_g2 h rfl rfl
  dsimp only [qx_20] at h
  split at h
  · intro p e R s m args below meth c H locs cells slots ls G C hP hS hl hr
    obtain ⟨hx, hb, hml, hown, hts, -⟩ := id C
    refine lv_lmul hx hb hdg ?_
    rw [← z2]
    exact h p e R s m args below meth c H locs cells slots ls G C hP hS hl hr
  · exact h.elim
theorem sd_ldiv (hdg : decode (mB y) (pcA y i) = .ok (.ldiv, len)) (ho : chkO y i (pcA y i) (.ldiv) len o = true) (h : qStep Ls xs (PM l ad dC dI aC b Ls xs) y i o L stk M Q) : PM l ad dC dI aC b Ls xs y i L stk M Q := by
  obtain ⟨c0, a0, b0, d0, v0, l0⟩ := o
  simp only [chkO, Bool.and_eq_true] at ho
  obtain ⟨⟨g1, g2⟩, g3⟩ := ho
  have z0 := q_bq g1
  try dsimp only at z0
  subst z0
  have z1 := q_bq g2
  subst z1
  have z2 := q_bq g3
  replace h : qx_21 (PM l ad dC dI aC b Ls xs) y i qHalt L stk M Q := q_g2 h rfl rfl
  dsimp only [qx_21] at h
  split at h
  · intro p e R s m args below meth c H locs cells slots ls G C hP hS hl hr
    obtain ⟨hx, hb, hml, hown, hts, -⟩ := id C
    obtain ⟨hne, h⟩ := h
    refine lv_ldiv hx hb hdg hne ?_
    rw [← z2]
    exact h p e R s m args below meth c H locs cells slots ls G C hP hS hl hr
  · exact h.elim
theorem sd_lrem (hdg : decode (mB y) (pcA y i) = .ok (.lrem, len)) (ho : chkO y i (pcA y i) (.lrem) len o = true) (h : qStep Ls xs (PM l ad dC dI aC b Ls xs) y i o L stk M Q) : PM l ad dC dI aC b Ls xs y i L stk M Q := by
  obtain ⟨c0, a0, b0, d0, v0, l0⟩ := o
  simp only [chkO, Bool.and_eq_true] at ho
  obtain ⟨⟨g1, g2⟩, g3⟩ := ho
  have z0 := q_bq g1
  try dsimp only at z0
  subst z0
  have z1 := q_bq g2
  subst z1
  have z2 := q_bq g3
  replace h : qx_22 (PM l ad dC dI aC b Ls xs) y i qHalt L stk M Q := q_g2 h rfl rfl
  dsimp only [qx_22] at h
  split at h
  · intro p e R s m args below meth c H locs cells slots ls G C hP hS hl hr
    obtain ⟨hx, hb, hml, hown, hts, -⟩ := id C
    obtain ⟨hne, h⟩ := h
    refine lv_lrem hx hb hdg hne ?_
    rw [← z2]
    exact h p e R s m args below meth c H locs cells slots ls G C hP hS hl hr
  · exact h.elim
theorem sd_lneg (hdg : decode (mB y) (pcA y i) = .ok (.lneg, len)) (ho : chkO y i (pcA y i) (.lneg) len o = true) (h : qStep Ls xs (PM l ad dC dI aC b Ls xs) y i o L stk M Q) : PM l ad dC dI aC b Ls xs y i L stk M Q := by
  obtain ⟨c0, a0, b0, d0, v0, l0⟩ := o
  simp only [chkO, Bool.and_eq_true] at ho
  obtain ⟨⟨g1, g2⟩, g3⟩ := ho
  have z0 := q_bq g1
  try dsimp only at z0
  subst z0
  have z1 := q_bq g2
  subst z1
  have z2 := q_bq g3
  replace h : qx_23 (PM l ad dC dI aC b Ls xs) y i qHalt L stk M Q := q_g2 h rfl rfl
  dsimp only [qx_23] at h
  split at h
  · intro p e R s m args below meth c H locs cells slots ls G C hP hS hl hr
    obtain ⟨hx, hb, hml, hown, hts, -⟩ := id C
    refine lv_lneg hx hb hdg ?_
    rw [← z2]
    exact h p e R s m args below meth c H locs cells slots ls G C hP hS hl hr
  · exact h.elim
theorem sd_lshl (hdg : decode (mB y) (pcA y i) = .ok (.lshl, len)) (ho : chkO y i (pcA y i) (.lshl) len o = true) (h : qStep Ls xs (PM l ad dC dI aC b Ls xs) y i o L stk M Q) : PM l ad dC dI aC b Ls xs y i L stk M Q := by
  obtain ⟨c0, a0, b0, d0, v0, l0⟩ := o
  simp only [chkO, Bool.and_eq_true] at ho
  obtain ⟨⟨g1, g2⟩, g3⟩ := ho
  have z0 := q_bq g1
  try dsimp only at z0
  subst z0
  have z1 := q_bq g2
  subst z1
  have z2 := q_bq g3
  replace h : qx_24 (PM l ad dC dI aC b Ls xs) y i qHalt L stk M Q := q_g2 h rfl rfl
  dsimp only [qx_24] at h
  split at h
  · intro p e R s m args below meth c H locs cells slots ls G C hP hS hl hr
    obtain ⟨hx, hb, hml, hown, hts, -⟩ := id C
    refine lv_lshl hx hb hdg rfl ?_
    rw [← z2]
    exact h p e R s m args below meth c H locs cells slots ls G C hP hS hl hr
  · exact h.elim
theorem sd_lcmp (hdg : decode (mB y) (pcA y i) = .ok (.lcmp, len)) (ho : chkO y i (pcA y i) (.lcmp) len o = true) (h : qStep Ls xs (PM l ad dC dI aC b Ls xs) y i o L stk M Q) : PM l ad dC dI aC b Ls xs y i L stk M Q := by
  obtain ⟨c0, a0, b0, d0, v0, l0⟩ := o
  simp only [chkO, Bool.and_eq_true] at ho
  obtain ⟨⟨g1, g2⟩, g3⟩ := ho
  have z0 := q_bq g1
  try dsimp only at z0
  subst z0
  have z1 := q_bq g2
  subst z1
  have z2 := q_bq g3
  replace h : qx_25 (PM l ad dC dI aC b Ls xs) y i qHalt L stk M Q := q_g2 h rfl rfl
  dsimp only [qx_25] at h
  split at h
  · intro p e R s m args below meth c H locs cells slots ls G C hP hS hl hr
    obtain ⟨hx, hb, hml, hown, hts, -⟩ := id C
    refine W.lcmp hx hb hdg ?_
    rw [← z2]
    exact h p e R s m args below meth c H locs cells slots ls G C hP hS hl hr
  · exact h.elim
theorem sd_i2l (hdg : decode (mB y) (pcA y i) = .ok (.i2l, len)) (ho : chkO y i (pcA y i) (.i2l) len o = true) (h : qStep Ls xs (PM l ad dC dI aC b Ls xs) y i o L stk M Q) : PM l ad dC dI aC b Ls xs y i L stk M Q := by
  obtain ⟨c0, a0, b0, d0, v0, l0⟩ := o
  simp only [chkO, Bool.and_eq_true] at ho
  obtain ⟨⟨g1, g2⟩, g3⟩ := ho
  have z0 := q_bq g1
  try dsimp only at z0
  subst z0
  have z1 := q_bq g2
  subst z1
  have z2 := q_bq g3
  replace h : qx_26 (PM l ad dC dI aC b Ls xs) y i qHalt L stk M Q := q_g2 h rfl rfl
  dsimp only [qx_26] at h
  split at h
  · intro p e R s m args below meth c H locs cells slots ls G C hP hS hl hr
    obtain ⟨hx, hb, hml, hown, hts, -⟩ := id C
    refine lv_i2l hx hb hdg rfl ?_
    rw [← z2]
    exact h p e R s m args below meth c H locs cells slots ls G C hP hS hl hr
  · exact h.elim
theorem sd_l2i (hdg : decode (mB y) (pcA y i) = .ok (.l2i, len)) (ho : chkO y i (pcA y i) (.l2i) len o = true) (h : qStep Ls xs (PM l ad dC dI aC b Ls xs) y i o L stk M Q) : PM l ad dC dI aC b Ls xs y i L stk M Q := by
  obtain ⟨c0, a0, b0, d0, v0, l0⟩ := o
  simp only [chkO, Bool.and_eq_true] at ho
  obtain ⟨⟨g1, g2⟩, g3⟩ := ho
  have z0 := q_bq g1
  try dsimp only at z0
  subst z0
  have z1 := q_bq g2
  subst z1
  have z2 := q_bq g3
  replace h : qx_27 (PM l ad dC dI aC b Ls xs) y i qHalt L stk M Q := q_g2 h rfl rfl
  dsimp only [qx_27] at h
  split at h
  · intro p e R s m args below meth c H locs cells slots ls G C hP hS hl hr
    obtain ⟨hx, hb, hml, hown, hts, -⟩ := id C
    refine lv_l2i hx hb hdg rfl ?_
    rw [← z2]
    exact h p e R s m args below meth c H locs cells slots ls G C hP hS hl hr
  · exact h.elim
theorem sd_lxor (hdg : decode (mB y) (pcA y i) = .ok (.lxor, len)) (ho : chkO y i (pcA y i) (.lxor) len o = true) (h : qStep Ls xs (PM l ad dC dI aC b Ls xs) y i o L stk M Q) : PM l ad dC dI aC b Ls xs y i L stk M Q := by
  obtain ⟨c0, a0, b0, d0, v0, l0⟩ := o
  simp only [chkO, Bool.and_eq_true] at ho
  obtain ⟨⟨g1, g2⟩, g3⟩ := ho
  have z0 := q_bq g1
  try dsimp only at z0
  subst z0
  have z1 := q_bq g2
  subst z1
  have z2 := q_bq g3
  replace h : qx_57 Ls xs (PM l ad dC dI aC b Ls xs) y i qHalt L stk M Q := q_g6 h rfl rfl rfl rfl rfl rfl
  dsimp only [qx_57] at h
  split at h
  · intro p e R s m args below meth c H locs cells slots ls G C hP hS hl hr
    obtain ⟨hx, hb, hml, hown, hts, -⟩ := id C
    refine lv_lxor hx hb hdg ?_
    rw [← z2]
    exact h p e R s m args below meth c H locs cells slots ls G C hP hS hl hr
  · exact h.elim
theorem sd_ifCond {cc : ClassFile.Cond} {off : Int} (hdg : decode (mB y) (pcA y i) = .ok (.ifCond cc off, len)) (ho : chkO y i (pcA y i) (.ifCond cc off) len o = true) (h : qStep Ls xs (PM l ad dC dI aC b Ls xs) y i o L stk M Q) : PM l ad dC dI aC b Ls xs y i L stk M Q := by
  obtain ⟨c0, a0, b0, d0, v0, l0⟩ := o
  simp only [chkO, Bool.and_eq_true] at ho
  obtain ⟨⟨⟨⟨g1, g2⟩, g3⟩, g4⟩, g5⟩ := ho
  have z0 := q_bq g1
  try dsimp only at z0
  subst z0
  have z3 := q_bq g2
  try dsimp only at z3
  subst z3
  have z4 : (pcA y i : Int) + off = (pcA y b0 : Int) := of_decide_eq_true g3
  have z1 := q_bq g4
  subst z1
  have z2 := q_bq g5
  replace h : qx_28 (PM l ad dC dI aC b Ls xs) y i _ L stk M Q := q_g3 h rfl rfl rfl
  dsimp only [qx_28] at h
  split at h
  · intro p e R s m args below meth c H locs cells slots ls G C hP hS hl hr
    obtain ⟨hx, hb, hml, hown, hts, -⟩ := id C
    obtain ⟨h1, h2⟩ := h
    cases cc
    · refine lv_if_eq hx hb hdg z4 (fun hc => ?_) (fun hc => ?_)
      · exact h1 hc p e R s m args below meth c H locs cells slots ls G C hP hS hl hr
      · rw [← z2]
        exact h2 hc p e R s m args below meth c H locs cells slots ls G C hP hS hl hr
    · refine lv_if_ne hx hb hdg z4 (fun hc => ?_) (fun hc => ?_)
      · exact h1 hc p e R s m args below meth c H locs cells slots ls G C hP hS hl hr
      · rw [← z2]
        exact h2 (fun z => z hc) p e R s m args below meth c H locs cells slots ls G C hP hS hl hr
    · refine lv_if_lt hx hb hdg z4 (fun hc => ?_) (fun hc => ?_)
      · exact h1 hc p e R s m args below meth c H locs cells slots ls G C hP hS hl hr
      · rw [← z2]
        exact h2 hc p e R s m args below meth c H locs cells slots ls G C hP hS hl hr
    · refine lv_if_ge hx hb hdg z4 (fun hc => ?_) (fun hc => ?_)
      · exact h1 hc p e R s m args below meth c H locs cells slots ls G C hP hS hl hr
      · rw [← z2]
        exact h2 hc p e R s m args below meth c H locs cells slots ls G C hP hS hl hr
    · refine lv_if_gt hx hb hdg z4 (fun hc => ?_) (fun hc => ?_)
      · exact h1 hc p e R s m args below meth c H locs cells slots ls G C hP hS hl hr
      · rw [← z2]
        exact h2 hc p e R s m args below meth c H locs cells slots ls G C hP hS hl hr
    · refine lv_if_le hx hb hdg z4 (fun hc => ?_) (fun hc => ?_)
      · exact h1 hc p e R s m args below meth c H locs cells slots ls G C hP hS hl hr
      · rw [← z2]
        exact h2 hc p e R s m args below meth c H locs cells slots ls G C hP hS hl hr
  · exact h.elim
theorem sd_if_icmp {cc : ClassFile.Cond} {off : Int} (hdg : decode (mB y) (pcA y i) = .ok (.if_icmp cc off, len)) (ho : chkO y i (pcA y i) (.if_icmp cc off) len o = true) (h : qStep Ls xs (PM l ad dC dI aC b Ls xs) y i o L stk M Q) : PM l ad dC dI aC b Ls xs y i L stk M Q := by
  obtain ⟨c0, a0, b0, d0, v0, l0⟩ := o
  simp only [chkO, Bool.and_eq_true] at ho
  obtain ⟨⟨⟨⟨g1, g2⟩, g3⟩, g4⟩, g5⟩ := ho
  have z0 := q_bq g1
  try dsimp only at z0
  subst z0
  have z3 := q_bq g2
  try dsimp only at z3
  subst z3
  have z4 : (pcA y i : Int) + off = (pcA y b0 : Int) := of_decide_eq_true g3
  have z1 := q_bq g4
  subst z1
  have z2 := q_bq g5
  replace h : qx_29 (PM l ad dC dI aC b Ls xs) y i _ L stk M Q := q_g3 h rfl rfl rfl
  dsimp only [qx_29] at h
  split at h
  · intro p e R s m args below meth c H locs cells slots ls G C hP hS hl hr
    obtain ⟨hx, hb, hml, hown, hts, -⟩ := id C
    obtain ⟨h1, h2⟩ := h
    cases cc
    · refine lv_icmp_eq hx hb hdg z4 (fun hc => ?_) (fun hc => ?_)
      · exact h1 hc p e R s m args below meth c H locs cells slots ls G C hP hS hl hr
      · rw [← z2]
        exact h2 hc p e R s m args below meth c H locs cells slots ls G C hP hS hl hr
    · refine lv_icmp_ne hx hb hdg z4 (fun hc => ?_) (fun hc => ?_)
      · exact h1 hc p e R s m args below meth c H locs cells slots ls G C hP hS hl hr
      · rw [← z2]
        exact h2 (fun z => z hc) p e R s m args below meth c H locs cells slots ls G C hP hS hl hr
    · refine lv_icmp_lt hx hb hdg z4 (fun hc => ?_) (fun hc => ?_)
      · exact h1 hc p e R s m args below meth c H locs cells slots ls G C hP hS hl hr
      · rw [← z2]
        exact h2 hc p e R s m args below meth c H locs cells slots ls G C hP hS hl hr
    · refine lv_icmp_ge hx hb hdg z4 (fun hc => ?_) (fun hc => ?_)
      · exact h1 hc p e R s m args below meth c H locs cells slots ls G C hP hS hl hr
      · rw [← z2]
        exact h2 hc p e R s m args below meth c H locs cells slots ls G C hP hS hl hr
    · refine lv_icmp_gt hx hb hdg z4 (fun hc => ?_) (fun hc => ?_)
      · exact h1 hc p e R s m args below meth c H locs cells slots ls G C hP hS hl hr
      · rw [← z2]
        exact h2 hc p e R s m args below meth c H locs cells slots ls G C hP hS hl hr
    · refine lv_icmp_le hx hb hdg z4 (fun hc => ?_) (fun hc => ?_)
      · exact h1 hc p e R s m args below meth c H locs cells slots ls G C hP hS hl hr
      · rw [← z2]
        exact h2 hc p e R s m args below meth c H locs cells slots ls G C hP hS hl hr
  · exact h.elim
theorem sd_ifnull {off : Int} (hdg : decode (mB y) (pcA y i) = .ok (.ifnull off, len)) (ho : chkO y i (pcA y i) (.ifnull off) len o = true) (h : qStep Ls xs (PM l ad dC dI aC b Ls xs) y i o L stk M Q) : PM l ad dC dI aC b Ls xs y i L stk M Q := by
  obtain ⟨c0, a0, b0, d0, v0, l0⟩ := o
  simp only [chkO, Bool.and_eq_true] at ho
  obtain ⟨⟨⟨g1, g2⟩, g3⟩, g4⟩ := ho
  have z0 := q_bq g1
  try dsimp only at z0
  subst z0
  have z4 : (pcA y i : Int) + off = (pcA y b0 : Int) := of_decide_eq_true g2
  have z1 := q_bq g3
  subst z1
  have z2 := q_bq g4
  replace h : qx_30 (PM l ad dC dI aC b Ls xs) y i _ L stk M Q := q_g3 h rfl rfl rfl
  dsimp only [qx_30] at h
  split at h
  · intro p e R s m args below meth c H locs cells slots ls G C hP hS hl hr
    obtain ⟨hx, hb, hml, hown, hts, -⟩ := id C
    refine lv_ifnullN hx hb hdg z4 ?_
    exact h p e R s m args below meth c H locs cells slots ls G C hP hS hl hr
  · intro p e R s m args below meth c H locs cells slots ls G C hP hS hl hr
    obtain ⟨hx, hb, hml, hown, hts, -⟩ := id C
    refine lv_ifnull hx hb hdg ?_
    rw [← z2]
    exact h p e R s m args below meth c H locs cells slots ls G C hP hS hl hr
  · exact h.elim
theorem sd_ifnonnull {off : Int} (hdg : decode (mB y) (pcA y i) = .ok (.ifnonnull off, len)) (ho : chkO y i (pcA y i) (.ifnonnull off) len o = true) (h : qStep Ls xs (PM l ad dC dI aC b Ls xs) y i o L stk M Q) : PM l ad dC dI aC b Ls xs y i L stk M Q := by
  obtain ⟨c0, a0, b0, d0, v0, l0⟩ := o
  simp only [chkO, Bool.and_eq_true] at ho
  obtain ⟨⟨⟨g1, g2⟩, g3⟩, g4⟩ := ho
  have z0 := q_bq g1
  try dsimp only at z0
  subst z0
  have z4 : (pcA y i : Int) + off = (pcA y b0 : Int) := of_decide_eq_true g2
  have z1 := q_bq g3
  subst z1
  have z2 := q_bq g4
  replace h : qx_31 (PM l ad dC dI aC b Ls xs) y i _ L stk M Q := q_g3 h rfl rfl rfl
  dsimp only [qx_31] at h
  split at h
  · intro p e R s m args below meth c H locs cells slots ls G C hP hS hl hr
    obtain ⟨hx, hb, hml, hown, hts, -⟩ := id C
    refine lv_ifnonnullN hx hb hdg ?_
    rw [← z2]
    exact h p e R s m args below meth c H locs cells slots ls G C hP hS hl hr
  · intro p e R s m args below meth c H locs cells slots ls G C hP hS hl hr
    obtain ⟨hx, hb, hml, hown, hts, -⟩ := id C
    refine lv_ifnonnull hx hb hdg z4 ?_
    exact h p e R s m args below meth c H locs cells slots ls G C hP hS hl hr
  · exact h.elim
theorem sd_goto {off : Int} (hdg : decode (mB y) (pcA y i) = .ok (.goto off, len)) (ho : chkO y i (pcA y i) (.goto off) len o = true) (h : qStep Ls xs (PM l ad dC dI aC b Ls xs) y i o L stk M Q) : PM l ad dC dI aC b Ls xs y i L stk M Q := by
  obtain ⟨c0, a0, b0, d0, v0, l0⟩ := o
  simp only [chkO, Bool.and_eq_true] at ho
  obtain ⟨⟨g1, g2⟩, g3⟩ := ho
  have z0 := q_bq g1
  try dsimp only at z0
  subst z0
  have z4 : (pcA y i : Int) + off = (pcA y b0 : Int) := of_decide_eq_true g2
  have z1 := q_bq g3
  subst z1
  replace h : qx_32 (PM l ad dC dI aC b Ls xs) y i _ L stk M Q := q_g3 h rfl rfl rfl
  dsimp only [qx_32] at h
  intro p e R s m args below meth c H locs cells slots ls G C hP hS hl hr
  obtain ⟨hx, hb, hml, hown, hts, -⟩ := id C
  refine lv_goto hx hb hdg z4 ?_
  exact h p e R s m args below meth c H locs cells slots ls G C hP hS hl hr
theorem sd_dup (hdg : decode (mB y) (pcA y i) = .ok (.dup, len)) (ho : chkO y i (pcA y i) (.dup) len o = true) (h : qStep Ls xs (PM l ad dC dI aC b Ls xs) y i o L stk M Q) : PM l ad dC dI aC b Ls xs y i L stk M Q := by
  obtain ⟨c0, a0, b0, d0, v0, l0⟩ := o
  simp only [chkO, Bool.and_eq_true] at ho
  obtain ⟨⟨g1, g2⟩, g3⟩ := ho
  have z0 := q_bq g1
  try dsimp only at z0
  subst z0
  have z1 := q_bq g2
  subst z1
  have z2 := q_bq g3
  replace h : qx_55 Ls xs (PM l ad dC dI aC b Ls xs) y i qHalt L stk M Q := q_g6 h rfl rfl rfl rfl rfl rfl
  dsimp only [qx_55] at h
  split at h
  · intro p e R s m args below meth c H locs cells slots ls G C hP hS hl hr
    obtain ⟨hx, hb, hml, hown, hts, -⟩ := id C
    refine lv_dup hx hb hdg rfl ?_
    rw [← z2]
    exact h p e R s m args below meth c H locs cells slots ls G C hP hS hl hr
  · intro p e R s m args below meth c H locs cells slots ls G C hP hS hl hr
    obtain ⟨hx, hb, hml, hown, hts, -⟩ := id C
    refine lv_dup hx hb hdg rfl ?_
    rw [← z2]
    exact h p e R s m args below meth c H locs cells slots ls G C hP hS hl hr
  · exact h.elim
theorem sd_dup2 (hdg : decode (mB y) (pcA y i) = .ok (.dup2, len)) (ho : chkO y i (pcA y i) (.dup2) len o = true) (h : qStep Ls xs (PM l ad dC dI aC b Ls xs) y i o L stk M Q) : PM l ad dC dI aC b Ls xs y i L stk M Q := by
  obtain ⟨c0, a0, b0, d0, v0, l0⟩ := o
  simp only [chkO, Bool.and_eq_true] at ho
  obtain ⟨⟨g1, g2⟩, g3⟩ := ho
  have z0 := q_bq g1
  try dsimp only at z0
  subst z0
  have z1 := q_bq g2
  subst z1
  have z2 := q_bq g3
  replace h : qx_56 Ls xs (PM l ad dC dI aC b Ls xs) y i qHalt L stk M Q := q_g6 h rfl rfl rfl rfl rfl rfl
  dsimp only [qx_56] at h
  split at h
  · intro p e R s m args below meth c H locs cells slots ls G C hP hS hl hr
    obtain ⟨hx, hb, hml, hown, hts, -⟩ := id C
    refine lv_dup2_11 hx hb hdg rfl rfl ?_
    rw [← z2]
    exact h p e R s m args below meth c H locs cells slots ls G C hP hS hl hr
  · exact h.elim
theorem sd_ireturn (hdg : decode (mB y) (pcA y i) = .ok (.ireturn, len)) (ho : chkO y i (pcA y i) (.ireturn) len o = true) (h : qStep Ls xs (PM l ad dC dI aC b Ls xs) y i o L stk M Q) : PM l ad dC dI aC b Ls xs y i L stk M Q := by
  obtain ⟨c0, a0, b0, d0, v0, l0⟩ := o
  simp only [chkO, Bool.and_eq_true, Bool.or_eq_true] at ho
  obtain ⟨g, g3⟩ := ho
  have z1 := q_bq g3
  subst z1
  rcases g with ⟨g1, g2⟩ | ⟨g1, g2⟩
  · have z0 := q_bq g1
    try dsimp only at z0
    subst z0
    replace h : qx_50 Ls xs (PM l ad dC dI aC b Ls xs) y i qHalt L stk M Q := q_g6 h rfl rfl rfl rfl rfl rfl
    dsimp only [qx_50] at h
    split at h
    · intro p e R s m args below meth c H locs cells slots ls G C hP hS hl hr
      exact hr (some (.int _)) M H locs ls (pcA y i) ⟨hdg, .int, of_decide_eq_true g2, rfl⟩ h hP hS
    · exact h.elim
  · have z0 := q_bq g1
    try dsimp only at z0
    subst z0
    replace h : qx_51 Ls xs (PM l ad dC dI aC b Ls xs) y i qHalt L stk M Q := q_g6 h rfl rfl rfl rfl rfl rfl
    dsimp only [qx_51] at h
    split at h
    · intro p e R s m args below meth c H locs cells slots ls G C hP hS hl hr
      exact hr (some (.int _)) M H locs ls (pcA y i) ⟨hdg, .boolean, of_decide_eq_true g2, h.1⟩ h.2 hP hS
    · exact h.elim
theorem sd_lreturn (hdg : decode (mB y) (pcA y i) = .ok (.lreturn, len)) (ho : chkO y i (pcA y i) (.lreturn) len o = true) (h : qStep Ls xs (PM l ad dC dI aC b Ls xs) y i o L stk M Q) : PM l ad dC dI aC b Ls xs y i L stk M Q := by
  obtain ⟨c0, a0, b0, d0, v0, l0⟩ := o
  simp only [chkO, Bool.and_eq_true] at ho
  obtain ⟨⟨g1, g2⟩, g3⟩ := ho
  have z0 := q_bq g1
  try dsimp only at z0
  subst z0
  have z1 := q_bq g3
  subst z1
  replace h : qx_52 Ls xs (PM l ad dC dI aC b Ls xs) y i qHalt L stk M Q := q_g6 h rfl rfl rfl rfl rfl rfl
  dsimp only [qx_52] at h
  split at h
  · intro p e R s m args below meth c H locs cells slots ls G C hP hS hl hr
    exact hr (some (.long _)) M H locs ls (pcA y i) ⟨hdg, of_decide_eq_true g2⟩ h hP hS
  · exact h.elim
theorem sd_areturn (hdg : decode (mB y) (pcA y i) = .ok (.areturn, len)) (ho : chkO y i (pcA y i) (.areturn) len o = true) (h : qStep Ls xs (PM l ad dC dI aC b Ls xs) y i o L stk M Q) : PM l ad dC dI aC b Ls xs y i L stk M Q := by
  obtain ⟨c0, a0, b0, d0, v0, l0⟩ := o
  simp only [chkO, Bool.and_eq_true] at ho
  obtain ⟨⟨g1, g2⟩, g3⟩ := ho
  have z0 := q_bq g1
  try dsimp only at z0
  subst z0
  have z1 := q_bq g3
  subst z1
  replace h : qx_53 Ls xs (PM l ad dC dI aC b Ls xs) y i qHalt L stk M Q := q_g6 h rfl rfl rfl rfl rfl rfl
  dsimp only [qx_53] at h
  have hR : ∃ n, mR y = some (.object n) := by
    revert g2
    cases mR y with
    | none => intro g2; cases g2
    | some t => cases t <;> intro g2 <;> first | exact ⟨_, rfl⟩ | cases g2
  split at h
  · intro p e R s m args below meth c H locs cells slots ls G C hP hS hl hr
    exact hr (some (.ref _)) M H locs ls (pcA y i) ⟨hdg, hR⟩ h hP hS
  · intro p e R s m args below meth c H locs cells slots ls G C hP hS hl hr
    exact hr (some .null) M H locs ls (pcA y i) ⟨hdg, hR⟩ h hP hS
  · exact h.elim
theorem sd_return (hdg : decode (mB y) (pcA y i) = .ok (.return_, len)) (ho : chkO y i (pcA y i) (.return_) len o = true) (h : qStep Ls xs (PM l ad dC dI aC b Ls xs) y i o L stk M Q) : PM l ad dC dI aC b Ls xs y i L stk M Q := by
  obtain ⟨c0, a0, b0, d0, v0, l0⟩ := o
  simp only [chkO, Bool.and_eq_true] at ho
  obtain ⟨⟨g1, g2⟩, g3⟩ := ho
  have z0 := q_bq g1
  try dsimp only at z0
  subst z0
  have z1 := q_bq g3
  subst z1
  replace h : qx_54 Ls xs (PM l ad dC dI aC b Ls xs) y i qHalt L stk M Q := q_g6 h rfl rfl rfl rfl rfl rfl
  dsimp only [qx_54] at h
  split at h
  · intro p e R s m args below meth c H locs cells slots ls G C hP hS hl hr
    exact hr none M H locs ls (pcA y i) ⟨hdg, of_decide_eq_true g2⟩ h hP hS
  · exact h.elim
end QS
