/-! the runner: many steps at once; static questions are answered by counting -/
def qWeak (P : qSem) : Prop := ∀ (y i : Nat) (L L' : qLc) (stk : List Value) (M : qMem) (Q : qPost), (∀ q ∈ L', q ∈ L) → P y i L' stk M Q → P y i L stk M Q
def qMono (P : qSem) : Prop := ∀ (y i : Nat) (L : qLc) (stk : List Value) (M : qMem) (Q Q' : qPost), (∀ v M', Q v M' → Q' v M') → P y i L stk M Q → P y i L stk M Q'
def qGood (Ls : Nat) (xs : Nat → Int32) (P : qSem) : Prop := qClosed Ls xs P ∧ qWeak P ∧ qMono P
theorem qGood_PM {l : Launch} {ad : Nat → Nat} {dC : Nat → ClassId} {dI : Nat → Nat → Nat} {aC : Nat → ClassId} {b Ls : Nat} {xs : Nat → Int32} (hA : qAd ad b) : qGood Ls xs (PM l ad dC dI aC b Ls xs) := by
  refine ⟨qSound hA, ?_, ?_⟩
  · intro y i L L' stk M Q hLL h p e R s m args below meth c H locs cells slots ls G C hP hS hl hr
    refine h p e R s m args below meth c H locs cells slots ls G C hP hS ⟨hl.1, hl.2.1, fun q hq => ?_⟩ hr
    obtain ⟨q0, h0, rfl⟩ := List.mem_map.mp hq
    exact hl.2.2 _ (List.mem_map.mpr ⟨q0, hLL q0 h0, rfl⟩)
  · intro y i L stk M Q Q' hQ h p e R s m args below meth c H locs cells slots ls G C hP hS hl hr
    exact h p e R s m args below meth c H locs cells slots ls G C hP hS hl (fun v M' H' locs' ls' pc' h1 h2 h3 h4 => hr v M' H' locs' ls' pc' h1 (hQ v M' h2) h3 h4)
def qb_34 (P : qSem) (y i : Nat) (o : qOp) (L : qLc) (stk : List Value) (M : qMem) (Q : qPost) : Prop :=
  match stk with
    | .ref k :: st => bif Nat.beq (shT k) o.2.1 then P y (i + 1) L (.int (M.1 k o.2.2.1) :: st) M Q else False
    | _ => False
def qb_35 (P : qSem) (y i : Nat) (o : qOp) (L : qLc) (stk : List Value) (M : qMem) (Q : qPost) : Prop :=
  match stk with
    | .ref k :: st => bif Nat.beq (shT k) o.2.1 then P y (i + 1) L (.long (M.2 k o.2.2.1) :: st) M Q else False
    | _ => False
def qb_36 (P : qSem) (y i : Nat) (o : qOp) (L : qLc) (stk : List Value) (M : qMem) (Q : qPost) : Prop :=
  match stk with
    | .ref k :: st => bif Nat.beq (shT k) o.2.1 then P y (i + 1) L (.ref (rf k o.2.2.1) :: st) M Q else False
    | _ => False
def qb_37 (P : qSem) (y i : Nat) (o : qOp) (L : qLc) (stk : List Value) (M : qMem) (Q : qPost) : Prop :=
  match stk with
    | .int x :: .ref k :: st => bif Nat.beq (shT k) o.2.1 then P y (i + 1) L st (pI M k o.2.2.1 x) Q else False
    | _ => False
def qb_38 (P : qSem) (y i : Nat) (o : qOp) (L : qLc) (stk : List Value) (M : qMem) (Q : qPost) : Prop :=
  match stk with
    | .long x :: .ref k :: st => bif Nat.beq (shT k) o.2.1 then P y (i + 1) L st (pJ M k o.2.2.1 x) Q else False
    | _ => False
def qb_39 (P : qSem) (y i : Nat) (o : qOp) (L : qLc) (stk : List Value) (M : qMem) (Q : qPost) : Prop :=
  match stk with
    | .int x :: .ref k :: st => bif Nat.beq (shT k) o.2.1 then narrow .boolean (.int x) = .int x ∧ P y (i + 1) L st (pI M k o.2.2.1 x) Q else False
    | _ => False
def qb_40 (P : qSem) (y i : Nat) (o : qOp) (L : qLc) (stk : List Value) (M : qMem) (Q : qPost) : Prop :=
  match stk with
    | .ref k :: st => bif Nat.ble 100 (shT k) && Nat.ble (shT k) 104 then P y (i + 1) L (.int (Int32.ofNat (shL k)) :: st) M Q else False
    | _ => False
def qb_41 (P : qSem) (y i : Nat) (o : qOp) (L : qLc) (stk : List Value) (M : qMem) (Q : qPost) : Prop :=
  match stk with
    | .int j :: .ref k :: st => bif Nat.beq (shT k) 100 then vp_in j (shL k) ∧ P y (i + 1) L (.int (M.1 k j.toNatClampNeg) :: st) M Q else False
    | _ => False
def qb_42 (P : qSem) (y i : Nat) (o : qOp) (L : qLc) (stk : List Value) (M : qMem) (Q : qPost) : Prop :=
  match stk with
    | .int j :: .ref k :: st => bif Nat.beq (shT k) 101 then vp_in j (shL k) ∧ P y (i + 1) L (.long (M.2 k j.toNatClampNeg) :: st) M Q else False
    | _ => False
def qb_43 (P : qSem) (y i : Nat) (o : qOp) (L : qLc) (stk : List Value) (M : qMem) (Q : qPost) : Prop :=
  match stk with
    | .int j :: .ref k :: st => bif Nat.beq (shT k) 102 then vp_in j (shL k) ∧ P y (i + 1) L (.int (M.1 k j.toNatClampNeg) :: st) M Q else False
    | _ => False
def qb_44 (P : qSem) (y i : Nat) (o : qOp) (L : qLc) (stk : List Value) (M : qMem) (Q : qPost) : Prop :=
  match stk with
    | .int j :: .ref k :: st => bif Nat.beq (shT k) o.2.1 then vp_in j (shL k) ∧ P y (i + 1) L (.ref (rf k j.toNatClampNeg) :: st) M Q else False
    | _ => False
def qb_45 (P : qSem) (y i : Nat) (o : qOp) (L : qLc) (stk : List Value) (M : qMem) (Q : qPost) : Prop :=
  match stk with
    | .int x :: .int j :: .ref k :: st => bif Nat.beq (shT k) 100 then vp_in j (shL k) ∧ P y (i + 1) L st (pI M k j.toNatClampNeg x) Q else False
    | _ => False
def qb_46 (P : qSem) (y i : Nat) (o : qOp) (L : qLc) (stk : List Value) (M : qMem) (Q : qPost) : Prop :=
  match stk with
    | .long x :: .int j :: .ref k :: st => bif Nat.beq (shT k) 101 then vp_in j (shL k) ∧ P y (i + 1) L st (pJ M k j.toNatClampNeg x) Q else False
    | _ => False
def qb_47 (P : qSem) (y i : Nat) (o : qOp) (L : qLc) (stk : List Value) (M : qMem) (Q : qPost) : Prop :=
  match stk with
    | .int x :: .int j :: .ref k :: st => bif Nat.beq (shT k) 102 then vp_in j (shL k) ∧ P y (i + 1) L st (pI M k j.toNatClampNeg (vp_nar .boolean x)) Q else False
    | _ => False
def qb_49 (Ls : Nat) (xs : Nat → Int32) (P : qSem) (y i : Nat) (o : qOp) (L : qLc) (stk : List Value) (M : qMem) (Q : qPost) : Prop :=
  match stk.drop o.2.2.1 with
    | .ref k :: st => bif Nat.ble o.2.2.1 stk.length && (Nat.ble (csum st) 8 && Nat.ble (csum (stk.take o.2.2.1) + 1) (mL o.2.1)) then (bif Nat.beq (shT k) o.2.2.2.1 then P o.2.1 0 (lv_args 0 (.ref k :: (stk.take o.2.2.1).reverse)) [] M (fun v M' => P y (i + 1) L (v.toList ++ st) M' Q) else False) else False
    | _ => False
def qb_60 (P : qSem) (y i : Nat) (o : qOp) (L : qLc) (stk : List Value) (M : qMem) (Q : qPost) : Prop :=
  match stk with
    | .ref k :: st => bif Nat.beq (shT k) o.2.1 then P y (i + 1) L (.int (M.1 k o.2.2.1) :: st) M Q else False
    | _ => False
def qb_61 (P : qSem) (y i : Nat) (o : qOp) (L : qLc) (stk : List Value) (M : qMem) (Q : qPost) : Prop :=
  match stk with
    | .ref k :: st => bif Nat.beq (shT k) o.2.1 then P y (i + 1) L (.long (M.2 k o.2.2.1) :: st) M Q else False
    | _ => False
def qb_62 (P : qSem) (y i : Nat) (o : qOp) (L : qLc) (stk : List Value) (M : qMem) (Q : qPost) : Prop :=
  match stk with
    | .ref k :: st => bif Nat.beq (shT k) o.2.1 then P y (i + 1) L (.ref (rf k o.2.2.1) :: st) M Q else False
    | _ => False
def qb_65 (P : qSem) (y i : Nat) (o : qOp) (L : qLc) (stk : List Value) (M : qMem) (Q : qPost) : Prop :=
  match stk with
    | .int x :: .ref k :: st => bif Nat.beq (shT k) o.2.1 then narrow .boolean (.int x) = .int x ∧ P y (i + 1) L st (pI M k o.2.2.1 x) Q else False
    | _ => False
def qBt1 (P : qSem) (y i : Nat) (o : qOp) (L : qLc) (stk : List Value) (M : qMem) (Q : qPost) : Prop :=
  match o.1 with
  | 0 => qx_0 P y i o L stk M Q
  | 1 => qx_1 P y i o L stk M Q
  | 2 => qx_2 P y i o L stk M Q
  | 3 => qx_3 P y i o L stk M Q
  | 4 => qx_4 P y i o L stk M Q
  | 5 => qx_5 P y i o L stk M Q
  | 6 => qx_6 P y i o L stk M Q
  | _ => qx_7 P y i o L stk M Q
def qBt2 (P : qSem) (y i : Nat) (o : qOp) (L : qLc) (stk : List Value) (M : qMem) (Q : qPost) : Prop :=
  match o.1 with
  | 8 => qx_8 P y i o L stk M Q
  | 9 => qx_9 P y i o L stk M Q
  | 10 => qx_10 P y i o L stk M Q
  | 11 => qx_11 P y i o L stk M Q
  | 12 => qx_12 P y i o L stk M Q
  | 13 => qx_13 P y i o L stk M Q
  | 14 => qx_14 P y i o L stk M Q
  | 15 => qx_15 P y i o L stk M Q
  | 16 => qx_16 P y i o L stk M Q
  | 17 => qx_17 P y i o L stk M Q
  | 18 => qx_18 P y i o L stk M Q
  | 19 => qx_19 P y i o L stk M Q
  | 20 => qx_20 P y i o L stk M Q
  | 21 => qx_21 P y i o L stk M Q
  | 22 => qx_22 P y i o L stk M Q
  | 23 => qx_23 P y i o L stk M Q
  | 24 => qx_24 P y i o L stk M Q
  | 25 => qx_25 P y i o L stk M Q
  | 26 => qx_26 P y i o L stk M Q
  | _ => qx_27 P y i o L stk M Q
def qBt3 (P : qSem) (y i : Nat) (o : qOp) (L : qLc) (stk : List Value) (M : qMem) (Q : qPost) : Prop :=
  match o.1 with
  | 28 => qx_28 P y i o L stk M Q
  | 29 => qx_29 P y i o L stk M Q
  | 30 => qx_30 P y i o L stk M Q
  | 31 => qx_31 P y i o L stk M Q
  | 32 => qx_32 P y i o L stk M Q
  | _ => qx_33 P y i o L stk M Q
def qBt4 (P : qSem) (y i : Nat) (o : qOp) (L : qLc) (stk : List Value) (M : qMem) (Q : qPost) : Prop :=
  match o.1 with
  | 34 => qb_34 P y i o L stk M Q
  | 35 => qb_35 P y i o L stk M Q
  | 36 => qb_36 P y i o L stk M Q
  | 37 => qb_37 P y i o L stk M Q
  | 38 => qb_38 P y i o L stk M Q
  | _ => qb_39 P y i o L stk M Q
def qBt5 (P : qSem) (y i : Nat) (o : qOp) (L : qLc) (stk : List Value) (M : qMem) (Q : qPost) : Prop :=
  match o.1 with
  | 40 => qb_40 P y i o L stk M Q
  | 41 => qb_41 P y i o L stk M Q
  | 42 => qb_42 P y i o L stk M Q
  | 43 => qb_43 P y i o L stk M Q
  | 44 => qb_44 P y i o L stk M Q
  | 45 => qb_45 P y i o L stk M Q
  | 46 => qb_46 P y i o L stk M Q
  | _ => qb_47 P y i o L stk M Q
def qBt6 (Ls : Nat) (xs : Nat → Int32) (P : qSem) (y i : Nat) (o : qOp) (L : qLc) (stk : List Value) (M : qMem) (Q : qPost) : Prop :=
  match o.1 with
  | 48 => qx_48 Ls xs P y i o L stk M Q
  | 49 => qb_49 Ls xs P y i o L stk M Q
  | 50 => qx_50 Ls xs P y i o L stk M Q
  | 51 => qx_51 Ls xs P y i o L stk M Q
  | 52 => qx_52 Ls xs P y i o L stk M Q
  | 53 => qx_53 Ls xs P y i o L stk M Q
  | 54 => qx_54 Ls xs P y i o L stk M Q
  | 55 => qx_55 Ls xs P y i o L stk M Q
  | 56 => qx_56 Ls xs P y i o L stk M Q
  | 57 => qx_57 Ls xs P y i o L stk M Q
  | 58 => qx_58 Ls xs P y i o L stk M Q
  | _ => qx_59 Ls xs P y i o L stk M Q
def qBt7 (P : qSem) (y i : Nat) (o : qOp) (L : qLc) (stk : List Value) (M : qMem) (Q : qPost) : Prop :=
  match o.1 with
  | 60 => qb_60 P y i o L stk M Q
  | 61 => qb_61 P y i o L stk M Q
  | 62 => qb_62 P y i o L stk M Q
  | 65 => qb_65 P y i o L stk M Q
  | _ => False
def qStepB (Ls : Nat) (xs : Nat → Int32) (P : qSem) (y i : Nat) (o : qOp) (L : qLc) (stk : List Value) (M : qMem) (Q : qPost) : Prop :=
  bif Nat.ble o.1 7 then qBt1 P y i o L stk M Q
  else bif Nat.ble o.1 27 then qBt2 P y i o L stk M Q
  else bif Nat.ble o.1 33 then qBt3 P y i o L stk M Q
  else bif Nat.ble o.1 39 then qBt4 P y i o L stk M Q
  else bif Nat.ble o.1 47 then qBt5 P y i o L stk M Q
  else bif Nat.ble o.1 59 then qBt6 Ls xs P y i o L stk M Q
  else qBt7 P y i o L stk M Q
section QM
variable {Ls : Nat} {xs : Nat → Int32} {R P : qSem} {y i : Nat} {o : qOp} {L : qLc} {stk : List Value} {M : qMem} {Q : qPost}
def qLe (R P : qSem) : Prop := ∀ (y i : Nat) (L : qLc) (stk : List Value) (M : qMem) (Q : qPost), R y i L stk M Q → P y i L stk M Q
theorem q_swM {x : Int32} {f g : Nat → Prop} (hfg : ∀ t, f t → g t) : ∀ (r : List (Int × Nat)) (d : Nat), swP x f r d → swP x g r d := by
  intro r
  induction r with
  | nil => intro d h; exact hfg d h
  | cons q r ih => intro d h; exact ⟨fun e => hfg _ (h.1 e), fun e => ih d (h.2 e)⟩
theorem q_bif {c : Bool} {A B : Prop} (h : bif c then A else False) (hAB : c = true → A → B) : B := by
  cases c with
  | true => exact hAB rfl h
  | false => exact h.elim
theorem q_bif2 {c : Bool} {A B : Prop} (h : bif c then A else False) (hAB : A → B) : bif c then B else False := by
  cases c with
  | true => exact hAB h
  | false => exact h.elim
theorem qm_0 (hRP : qLe R P) (hm : qMono P) (h : qx_0 R y i o L stk M Q) : qx_0 P y i o L stk M Q := by
  unfold qx_0 at h
  unfold qx_0
  exact hRP _ _ _ _ _ _ h
theorem qm_1 (hRP : qLe R P) (hm : qMono P) (h : qx_1 R y i o L stk M Q) : qx_1 P y i o L stk M Q := by
  unfold qx_1 at h
  unfold qx_1
  split at h
  · exact hRP _ _ _ _ _ _ h
  · exact h.elim
theorem qm_2 (hRP : qLe R P) (hm : qMono P) (h : qx_2 R y i o L stk M Q) : qx_2 P y i o L stk M Q := by
  unfold qx_2 at h
  unfold qx_2
  split at h
  · exact hRP _ _ _ _ _ _ h
  · exact h.elim
theorem qm_3 (hRP : qLe R P) (hm : qMono P) (h : qx_3 R y i o L stk M Q) : qx_3 P y i o L stk M Q := by
  unfold qx_3 at h
  unfold qx_3
  split at h
  · exact hRP _ _ _ _ _ _ h
  · exact hRP _ _ _ _ _ _ h
  · exact h.elim
theorem qm_4 (hRP : qLe R P) (hm : qMono P) (h : qx_4 R y i o L stk M Q) : qx_4 P y i o L stk M Q := by
  unfold qx_4 at h
  unfold qx_4
  split at h
  · exact hRP _ _ _ _ _ _ h
  · exact h.elim
theorem qm_5 (hRP : qLe R P) (hm : qMono P) (h : qx_5 R y i o L stk M Q) : qx_5 P y i o L stk M Q := by
  unfold qx_5 at h
  unfold qx_5
  split at h
  · exact hRP _ _ _ _ _ _ h
  · exact h.elim
theorem qm_6 (hRP : qLe R P) (hm : qMono P) (h : qx_6 R y i o L stk M Q) : qx_6 P y i o L stk M Q := by
  unfold qx_6 at h
  unfold qx_6
  split at h
  · exact hRP _ _ _ _ _ _ h
  · exact hRP _ _ _ _ _ _ h
  · exact h.elim
theorem qm_7 (hRP : qLe R P) (hm : qMono P) (h : qx_7 R y i o L stk M Q) : qx_7 P y i o L stk M Q := by
  unfold qx_7 at h
  unfold qx_7
  split at h
  · exact hRP _ _ _ _ _ _ h
  · exact h.elim
theorem qm_8 (hRP : qLe R P) (hm : qMono P) (h : qx_8 R y i o L stk M Q) : qx_8 P y i o L stk M Q := by
  unfold qx_8 at h
  unfold qx_8
  split at h
  · exact hRP _ _ _ _ _ _ h
  · exact h.elim
theorem qm_9 (hRP : qLe R P) (hm : qMono P) (h : qx_9 R y i o L stk M Q) : qx_9 P y i o L stk M Q := by
  unfold qx_9 at h
  unfold qx_9
  split at h
  · exact hRP _ _ _ _ _ _ h
  · exact h.elim
theorem qm_10 (hRP : qLe R P) (hm : qMono P) (h : qx_10 R y i o L stk M Q) : qx_10 P y i o L stk M Q := by
  unfold qx_10 at h
  unfold qx_10
  split at h
  · exact hRP _ _ _ _ _ _ h
  · exact h.elim
theorem qm_11 (hRP : qLe R P) (hm : qMono P) (h : qx_11 R y i o L stk M Q) : qx_11 P y i o L stk M Q := by
  unfold qx_11 at h
  unfold qx_11
  split at h
  · exact hRP _ _ _ _ _ _ h
  · exact h.elim
theorem qm_12 (hRP : qLe R P) (hm : qMono P) (h : qx_12 R y i o L stk M Q) : qx_12 P y i o L stk M Q := by
  unfold qx_12 at h
  unfold qx_12
  split at h
  · exact hRP _ _ _ _ _ _ h
  · exact h.elim
theorem qm_13 (hRP : qLe R P) (hm : qMono P) (h : qx_13 R y i o L stk M Q) : qx_13 P y i o L stk M Q := by
  unfold qx_13 at h
  unfold qx_13
  split at h
  · exact hRP _ _ _ _ _ _ h
  · exact h.elim
theorem qm_14 (hRP : qLe R P) (hm : qMono P) (h : qx_14 R y i o L stk M Q) : qx_14 P y i o L stk M Q := by
  unfold qx_14 at h
  unfold qx_14
  split at h
  · exact hRP _ _ _ _ _ _ h
  · exact h.elim
theorem qm_15 (hRP : qLe R P) (hm : qMono P) (h : qx_15 R y i o L stk M Q) : qx_15 P y i o L stk M Q := by
  unfold qx_15 at h
  unfold qx_15
  split at h
  · exact ⟨h.1, hRP _ _ _ _ _ _ h.2⟩
  · exact h.elim
theorem qm_16 (hRP : qLe R P) (hm : qMono P) (h : qx_16 R y i o L stk M Q) : qx_16 P y i o L stk M Q := by
  unfold qx_16 at h
  unfold qx_16
  split at h
  · exact ⟨h.1, hRP _ _ _ _ _ _ h.2⟩
  · exact h.elim
theorem qm_17 (hRP : qLe R P) (hm : qMono P) (h : qx_17 R y i o L stk M Q) : qx_17 P y i o L stk M Q := by
  unfold qx_17 at h
  unfold qx_17
  split at h
  · exact hRP _ _ _ _ _ _ h
  · exact h.elim
theorem qm_18 (hRP : qLe R P) (hm : qMono P) (h : qx_18 R y i o L stk M Q) : qx_18 P y i o L stk M Q := by
  unfold qx_18 at h
  unfold qx_18
  split at h
  · exact hRP _ _ _ _ _ _ h
  · exact h.elim
theorem qm_19 (hRP : qLe R P) (hm : qMono P) (h : qx_19 R y i o L stk M Q) : qx_19 P y i o L stk M Q := by
  unfold qx_19 at h
  unfold qx_19
  split at h
  · exact hRP _ _ _ _ _ _ h
  · exact h.elim
theorem qm_20 (hRP : qLe R P) (hm : qMono P) (h : qx_20 R y i o L stk M Q) : qx_20 P y i o L stk M Q := by
  unfold qx_20 at h
  unfold qx_20
  split at h
  · exact hRP _ _ _ _ _ _ h
  · exact h.elim
theorem qm_21 (hRP : qLe R P) (hm : qMono P) (h : qx_21 R y i o L stk M Q) : qx_21 P y i o L stk M Q := by
  unfold qx_21 at h
  unfold qx_21
  split at h
  · exact ⟨h.1, hRP _ _ _ _ _ _ h.2⟩
  · exact h.elim
theorem qm_22 (hRP : qLe R P) (hm : qMono P) (h : qx_22 R y i o L stk M Q) : qx_22 P y i o L stk M Q := by
  unfold qx_22 at h
  unfold qx_22
  split at h
  · exact ⟨h.1, hRP _ _ _ _ _ _ h.2⟩
  · exact h.elim
theorem qm_23 (hRP : qLe R P) (hm : qMono P) (h : qx_23 R y i o L stk M Q) : qx_23 P y i o L stk M Q := by
  unfold qx_23 at h
  unfold qx_23
  split at h
  · exact hRP _ _ _ _ _ _ h
  · exact h.elim
theorem qm_24 (hRP : qLe R P) (hm : qMono P) (h : qx_24 R y i o L stk M Q) : qx_24 P y i o L stk M Q := by
  unfold qx_24 at h
  unfold qx_24
  split at h
  · exact hRP _ _ _ _ _ _ h
  · exact h.elim
theorem qm_25 (hRP : qLe R P) (hm : qMono P) (h : qx_25 R y i o L stk M Q) : qx_25 P y i o L stk M Q := by
  unfold qx_25 at h
  unfold qx_25
  split at h
  · exact hRP _ _ _ _ _ _ h
  · exact h.elim
theorem qm_26 (hRP : qLe R P) (hm : qMono P) (h : qx_26 R y i o L stk M Q) : qx_26 P y i o L stk M Q := by
  unfold qx_26 at h
  unfold qx_26
  split at h
  · exact hRP _ _ _ _ _ _ h
  · exact h.elim
theorem qm_27 (hRP : qLe R P) (hm : qMono P) (h : qx_27 R y i o L stk M Q) : qx_27 P y i o L stk M Q := by
  unfold qx_27 at h
  unfold qx_27
  split at h
  · exact hRP _ _ _ _ _ _ h
  · exact h.elim
theorem qm_28 (hRP : qLe R P) (hm : qMono P) (h : qx_28 R y i o L stk M Q) : qx_28 P y i o L stk M Q := by
  unfold qx_28 at h
  unfold qx_28
  split at h
  · exact ⟨fun c => hRP _ _ _ _ _ _ (h.1 c), fun c => hRP _ _ _ _ _ _ (h.2 c)⟩
  · exact h.elim
theorem qm_29 (hRP : qLe R P) (hm : qMono P) (h : qx_29 R y i o L stk M Q) : qx_29 P y i o L stk M Q := by
  unfold qx_29 at h
  unfold qx_29
  split at h
  · exact ⟨fun c => hRP _ _ _ _ _ _ (h.1 c), fun c => hRP _ _ _ _ _ _ (h.2 c)⟩
  · exact h.elim
theorem qm_30 (hRP : qLe R P) (hm : qMono P) (h : qx_30 R y i o L stk M Q) : qx_30 P y i o L stk M Q := by
  unfold qx_30 at h
  unfold qx_30
  split at h
  · exact hRP _ _ _ _ _ _ h
  · exact hRP _ _ _ _ _ _ h
  · exact h.elim
theorem qm_31 (hRP : qLe R P) (hm : qMono P) (h : qx_31 R y i o L stk M Q) : qx_31 P y i o L stk M Q := by
  unfold qx_31 at h
  unfold qx_31
  split at h
  · exact hRP _ _ _ _ _ _ h
  · exact hRP _ _ _ _ _ _ h
  · exact h.elim
theorem qm_32 (hRP : qLe R P) (hm : qMono P) (h : qx_32 R y i o L stk M Q) : qx_32 P y i o L stk M Q := by
  unfold qx_32 at h
  unfold qx_32
  exact hRP _ _ _ _ _ _ h
theorem qm_33 (hRP : qLe R P) (hm : qMono P) (h : qx_33 R y i o L stk M Q) : qx_33 P y i o L stk M Q := by
  unfold qx_33 at h
  unfold qx_33
  split at h
  · exact q_swM (fun t ht => hRP _ _ _ _ _ _ ht) _ _ h
  · exact h.elim
theorem qm_34 (hRP : qLe R P) (hm : qMono P) (h : qb_34 R y i o L stk M Q) : qx_34 P y i o L stk M Q := by
  unfold qb_34 at h
  unfold qx_34
  split at h
  · exact q_bif h (fun e h => ⟨q_bq e, hRP _ _ _ _ _ _ h⟩)
  · exact h.elim
theorem qm_35 (hRP : qLe R P) (hm : qMono P) (h : qb_35 R y i o L stk M Q) : qx_35 P y i o L stk M Q := by
  unfold qb_35 at h
  unfold qx_35
  split at h
  · exact q_bif h (fun e h => ⟨q_bq e, hRP _ _ _ _ _ _ h⟩)
  · exact h.elim
theorem qm_36 (hRP : qLe R P) (hm : qMono P) (h : qb_36 R y i o L stk M Q) : qx_36 P y i o L stk M Q := by
  unfold qb_36 at h
  unfold qx_36
  split at h
  · exact q_bif h (fun e h => ⟨q_bq e, hRP _ _ _ _ _ _ h⟩)
  · exact h.elim
theorem qm_37 (hRP : qLe R P) (hm : qMono P) (h : qb_37 R y i o L stk M Q) : qx_37 P y i o L stk M Q := by
  unfold qb_37 at h
  unfold qx_37
  split at h
  · exact q_bif h (fun e h => ⟨q_bq e, hRP _ _ _ _ _ _ h⟩)
  · exact h.elim
theorem qm_38 (hRP : qLe R P) (hm : qMono P) (h : qb_38 R y i o L stk M Q) : qx_38 P y i o L stk M Q := by
  unfold qb_38 at h
  unfold qx_38
  split at h
  · exact q_bif h (fun e h => ⟨q_bq e, hRP _ _ _ _ _ _ h⟩)
  · exact h.elim
theorem qm_39 (hRP : qLe R P) (hm : qMono P) (h : qb_39 R y i o L stk M Q) : qx_39 P y i o L stk M Q := by
  unfold qb_39 at h
  unfold qx_39
  split at h
  · exact q_bif h (fun e h => ⟨q_bq e, h.1, hRP _ _ _ _ _ _ h.2⟩)
  · exact h.elim
theorem qm_40 (hRP : qLe R P) (hm : qMono P) (h : qb_40 R y i o L stk M Q) : qx_40 P y i o L stk M Q := by
  unfold qb_40 at h
  unfold qx_40
  split at h
  · refine q_bif h (fun e h => ?_)
    rw [Bool.and_eq_true] at e
    exact ⟨Nat.le_of_ble_eq_true e.1, Nat.le_of_ble_eq_true e.2, hRP _ _ _ _ _ _ h⟩
  · exact h.elim
theorem qm_41 (hRP : qLe R P) (hm : qMono P) (h : qb_41 R y i o L stk M Q) : qx_41 P y i o L stk M Q := by
  unfold qb_41 at h
  unfold qx_41
  split at h
  · exact q_bif h (fun e h => ⟨q_bq e, h.1, hRP _ _ _ _ _ _ h.2⟩)
  · exact h.elim
theorem qm_42 (hRP : qLe R P) (hm : qMono P) (h : qb_42 R y i o L stk M Q) : qx_42 P y i o L stk M Q := by
  unfold qb_42 at h
  unfold qx_42
  split at h
  · exact q_bif h (fun e h => ⟨q_bq e, h.1, hRP _ _ _ _ _ _ h.2⟩)
  · exact h.elim
theorem qm_43 (hRP : qLe R P) (hm : qMono P) (h : qb_43 R y i o L stk M Q) : qx_43 P y i o L stk M Q := by
  unfold qb_43 at h
  unfold qx_43
  split at h
  · exact q_bif h (fun e h => ⟨q_bq e, h.1, hRP _ _ _ _ _ _ h.2⟩)
  · exact h.elim
theorem qm_44 (hRP : qLe R P) (hm : qMono P) (h : qb_44 R y i o L stk M Q) : qx_44 P y i o L stk M Q := by
  unfold qb_44 at h
  unfold qx_44
  split at h
  · exact q_bif h (fun e h => ⟨q_bq e, h.1, hRP _ _ _ _ _ _ h.2⟩)
  · exact h.elim
theorem qm_45 (hRP : qLe R P) (hm : qMono P) (h : qb_45 R y i o L stk M Q) : qx_45 P y i o L stk M Q := by
  unfold qb_45 at h
  unfold qx_45
  split at h
  · exact q_bif h (fun e h => ⟨q_bq e, h.1, hRP _ _ _ _ _ _ h.2⟩)
  · exact h.elim
theorem qm_46 (hRP : qLe R P) (hm : qMono P) (h : qb_46 R y i o L stk M Q) : qx_46 P y i o L stk M Q := by
  unfold qb_46 at h
  unfold qx_46
  split at h
  · exact q_bif h (fun e h => ⟨q_bq e, h.1, hRP _ _ _ _ _ _ h.2⟩)
  · exact h.elim
theorem qm_47 (hRP : qLe R P) (hm : qMono P) (h : qb_47 R y i o L stk M Q) : qx_47 P y i o L stk M Q := by
  unfold qb_47 at h
  unfold qx_47
  split at h
  · exact q_bif h (fun e h => ⟨q_bq e, h.1, hRP _ _ _ _ _ _ h.2⟩)
  · exact h.elim
theorem qm_48 (hRP : qLe R P) (hm : qMono P) (h : qx_48 Ls xs R y i o L stk M Q) : qx_48 Ls xs P y i o L stk M Q := by
  unfold qx_48 at h
  unfold qx_48
  exact q_bif2 h (fun h => hm _ _ _ _ _ _ _ (fun v M' q => hRP _ _ _ _ _ _ q) (hRP _ _ _ _ _ _ h))
theorem qm_49 (hRP : qLe R P) (hm : qMono P) (h : qb_49 Ls xs R y i o L stk M Q) : qx_49 Ls xs P y i o L stk M Q := by
  unfold qb_49 at h
  unfold qx_49
  split at h
  · rename_i k st heq
    rw [heq]
    exact q_bif2 h (fun h => q_bif h (fun e h => ⟨q_bq e, hm _ _ _ _ _ _ _ (fun v M' q => hRP _ _ _ _ _ _ q) (hRP _ _ _ _ _ _ h)⟩))
  · exact h.elim
theorem qm_50 (hRP : qLe R P) (hm : qMono P) (h : qx_50 Ls xs R y i o L stk M Q) : qx_50 Ls xs P y i o L stk M Q := by
  unfold qx_50 at h
  unfold qx_50
  exact h
theorem qm_51 (hRP : qLe R P) (hm : qMono P) (h : qx_51 Ls xs R y i o L stk M Q) : qx_51 Ls xs P y i o L stk M Q := by
  unfold qx_51 at h
  unfold qx_51
  exact h
theorem qm_52 (hRP : qLe R P) (hm : qMono P) (h : qx_52 Ls xs R y i o L stk M Q) : qx_52 Ls xs P y i o L stk M Q := by
  unfold qx_52 at h
  unfold qx_52
  exact h
theorem qm_53 (hRP : qLe R P) (hm : qMono P) (h : qx_53 Ls xs R y i o L stk M Q) : qx_53 Ls xs P y i o L stk M Q := by
  unfold qx_53 at h
  unfold qx_53
  exact h
theorem qm_54 (hRP : qLe R P) (hm : qMono P) (h : qx_54 Ls xs R y i o L stk M Q) : qx_54 Ls xs P y i o L stk M Q := by
  unfold qx_54 at h
  unfold qx_54
  exact h
theorem qm_55 (hRP : qLe R P) (hm : qMono P) (h : qx_55 Ls xs R y i o L stk M Q) : qx_55 Ls xs P y i o L stk M Q := by
  unfold qx_55 at h
  unfold qx_55
  split at h
  · exact hRP _ _ _ _ _ _ h
  · exact hRP _ _ _ _ _ _ h
  · exact h.elim
theorem qm_56 (hRP : qLe R P) (hm : qMono P) (h : qx_56 Ls xs R y i o L stk M Q) : qx_56 Ls xs P y i o L stk M Q := by
  unfold qx_56 at h
  unfold qx_56
  split at h
  · exact hRP _ _ _ _ _ _ h
  · exact h.elim
theorem qm_57 (hRP : qLe R P) (hm : qMono P) (h : qx_57 Ls xs R y i o L stk M Q) : qx_57 Ls xs P y i o L stk M Q := by
  unfold qx_57 at h
  unfold qx_57
  split at h
  · exact hRP _ _ _ _ _ _ h
  · exact h.elim
theorem qm_58 (hRP : qLe R P) (hm : qMono P) (h : qx_58 Ls xs R y i o L stk M Q) : qx_58 Ls xs P y i o L stk M Q := by
  unfold qx_58 at h
  unfold qx_58
  split at h
  · exact ⟨h.1, hRP _ _ _ _ _ _ h.2⟩
  · exact h.elim
theorem qm_59 (hRP : qLe R P) (hm : qMono P) (h : qx_59 Ls xs R y i o L stk M Q) : qx_59 Ls xs P y i o L stk M Q := by
  unfold qx_59 at h
  unfold qx_59
  split at h
  · exact hRP _ _ _ _ _ _ h
  · exact h.elim
theorem qm_60 (hRP : qLe R P) (hm : qMono P) (h : qb_60 R y i o L stk M Q) : qx_60 P y i o L stk M Q := by
  unfold qb_60 at h
  unfold qx_60
  split at h
  · exact q_bif h (fun e h => ⟨q_bq e, hRP _ _ _ _ _ _ h⟩)
  · exact h.elim
theorem qm_61 (hRP : qLe R P) (hm : qMono P) (h : qb_61 R y i o L stk M Q) : qx_61 P y i o L stk M Q := by
  unfold qb_61 at h
  unfold qx_61
  split at h
  · exact q_bif h (fun e h => ⟨q_bq e, hRP _ _ _ _ _ _ h⟩)
  · exact h.elim
theorem qm_62 (hRP : qLe R P) (hm : qMono P) (h : qb_62 R y i o L stk M Q) : qx_62 P y i o L stk M Q := by
  unfold qb_62 at h
  unfold qx_62
  split at h
  · exact q_bif h (fun e h => ⟨q_bq e, hRP _ _ _ _ _ _ h⟩)
  · exact h.elim
theorem qm_65 (hRP : qLe R P) (hm : qMono P) (h : qb_65 R y i o L stk M Q) : qx_65 P y i o L stk M Q := by
  unfold qb_65 at h
  unfold qx_65
  split at h
  · exact q_bif h (fun e h => ⟨q_bq e, h.1, hRP _ _ _ _ _ _ h.2⟩)
  · exact h.elim
theorem qbm_1 (hRP : qLe R P) (hm : qMono P) (h : qBt1 R y i o L stk M Q) : qSt1 P y i o L stk M Q := by
  unfold qBt1 at h
  unfold qSt1
  split at h
  · rename_i e
    rw [e]
    exact qm_0 hRP hm h
  · rename_i e
    rw [e]
    exact qm_1 hRP hm h
  · rename_i e
    rw [e]
    exact qm_2 hRP hm h
  · rename_i e
    rw [e]
    exact qm_3 hRP hm h
  · rename_i e
    rw [e]
    exact qm_4 hRP hm h
  · rename_i e
    rw [e]
    exact qm_5 hRP hm h
  · rename_i e
    rw [e]
    exact qm_6 hRP hm h
  · split
    all_goals first | exact qm_7 hRP hm h | (exfalso; simp_all)
theorem qbm_2 (hRP : qLe R P) (hm : qMono P) (h : qBt2 R y i o L stk M Q) : qSt2 P y i o L stk M Q := by
  unfold qBt2 at h
  unfold qSt2
  split at h
  · rename_i e
    rw [e]
    exact qm_8 hRP hm h
  · rename_i e
    rw [e]
    exact qm_9 hRP hm h
  · rename_i e
    rw [e]
    exact qm_10 hRP hm h
  · rename_i e
    rw [e]
    exact qm_11 hRP hm h
  · rename_i e
    rw [e]
    exact qm_12 hRP hm h
  · rename_i e
    rw [e]
    exact qm_13 hRP hm h
  · rename_i e
    rw [e]
    exact qm_14 hRP hm h
  · rename_i e
    rw [e]
    exact qm_15 hRP hm h
  · rename_i e
    rw [e]
    exact qm_16 hRP hm h
  · rename_i e
    rw [e]
    exact qm_17 hRP hm h
  · rename_i e
    rw [e]
    exact qm_18 hRP hm h
  · rename_i e
    rw [e]
    exact qm_19 hRP hm h
  · rename_i e
    rw [e]
    exact qm_20 hRP hm h
  · rename_i e
    rw [e]
    exact qm_21 hRP hm h
  · rename_i e
    rw [e]
    exact qm_22 hRP hm h
  · rename_i e
    rw [e]
    exact qm_23 hRP hm h
  · rename_i e
    rw [e]
    exact qm_24 hRP hm h
  · rename_i e
    rw [e]
    exact qm_25 hRP hm h
  · rename_i e
    rw [e]
    exact qm_26 hRP hm h
  · split
    all_goals first | exact qm_27 hRP hm h | (exfalso; simp_all)
theorem qbm_3 (hRP : qLe R P) (hm : qMono P) (h : qBt3 R y i o L stk M Q) : qSt3 P y i o L stk M Q := by
  unfold qBt3 at h
  unfold qSt3
  split at h
  · rename_i e
    rw [e]
    exact qm_28 hRP hm h
  · rename_i e
    rw [e]
    exact qm_29 hRP hm h
  · rename_i e
    rw [e]
    exact qm_30 hRP hm h
  · rename_i e
    rw [e]
    exact qm_31 hRP hm h
  · rename_i e
    rw [e]
    exact qm_32 hRP hm h
  · split
    all_goals first | exact qm_33 hRP hm h | (exfalso; simp_all)
theorem qbm_4 (hRP : qLe R P) (hm : qMono P) (h : qBt4 R y i o L stk M Q) : qSt4 P y i o L stk M Q := by
  unfold qBt4 at h
  unfold qSt4
  split at h
  · rename_i e
    rw [e]
    exact qm_34 hRP hm h
  · rename_i e
    rw [e]
    exact qm_35 hRP hm h
  · rename_i e
    rw [e]
    exact qm_36 hRP hm h
  · rename_i e
    rw [e]
    exact qm_37 hRP hm h
  · rename_i e
    rw [e]
    exact qm_38 hRP hm h
  · split
    all_goals first | exact qm_39 hRP hm h | (exfalso; simp_all)
theorem qbm_5 (hRP : qLe R P) (hm : qMono P) (h : qBt5 R y i o L stk M Q) : qSt5 P y i o L stk M Q := by
  unfold qBt5 at h
  unfold qSt5
  split at h
  · rename_i e
    rw [e]
    exact qm_40 hRP hm h
  · rename_i e
    rw [e]
    exact qm_41 hRP hm h
  · rename_i e
    rw [e]
    exact qm_42 hRP hm h
  · rename_i e
    rw [e]
    exact qm_43 hRP hm h
  · rename_i e
    rw [e]
    exact qm_44 hRP hm h
  · rename_i e
    rw [e]
    exact qm_45 hRP hm h
  · rename_i e
    rw [e]
    exact qm_46 hRP hm h
  · split
    all_goals first | exact qm_47 hRP hm h | (exfalso; simp_all)
theorem qbm_6 (hRP : qLe R P) (hm : qMono P) (h : qBt6 Ls xs R y i o L stk M Q) : qSt6 Ls xs P y i o L stk M Q := by
  unfold qBt6 at h
  unfold qSt6
  split at h
  · rename_i e
    rw [e]
    exact qm_48 hRP hm h
  · rename_i e
    rw [e]
    exact qm_49 hRP hm h
  · rename_i e
    rw [e]
    exact qm_50 hRP hm h
  · rename_i e
    rw [e]
    exact qm_51 hRP hm h
  · rename_i e
    rw [e]
    exact qm_52 hRP hm h
  · rename_i e
    rw [e]
    exact qm_53 hRP hm h
  · rename_i e
    rw [e]
    exact qm_54 hRP hm h
  · rename_i e
    rw [e]
    exact qm_55 hRP hm h
  · rename_i e
    rw [e]
    exact qm_56 hRP hm h
  · rename_i e
    rw [e]
    exact qm_57 hRP hm h
  · rename_i e
    rw [e]
    exact qm_58 hRP hm h
  · split
    all_goals first | exact qm_59 hRP hm h | (exfalso; simp_all)
theorem qbm_7 (hRP : qLe R P) (hm : qMono P) (h : qBt7 R y i o L stk M Q) : qSt7 P y i o L stk M Q := by
  unfold qBt7 at h
  unfold qSt7
  split at h
  · rename_i e
    rw [e]
    exact qm_60 hRP hm h
  · rename_i e
    rw [e]
    exact qm_61 hRP hm h
  · rename_i e
    rw [e]
    exact qm_62 hRP hm h
  · rename_i e
    rw [e]
    exact qm_65 hRP hm h
  · exact h.elim
theorem qStep_le (hRP : qLe R P) (hm : qMono P) (h : qStepB Ls xs R y i o L stk M Q) : qStep Ls xs P y i o L stk M Q := by
  unfold qStepB at h
  unfold qStep
  cases h1 : Nat.ble o.1 7 with
  | true => rw [h1] at h; exact qbm_1 hRP hm h
  | false =>
    rw [h1] at h
    cases h2 : Nat.ble o.1 27 with
    | true => rw [h2] at h; exact qbm_2 hRP hm h
    | false =>
      rw [h2] at h
      cases h3 : Nat.ble o.1 33 with
      | true => rw [h3] at h; exact qbm_3 hRP hm h
      | false =>
        rw [h3] at h
        cases h4 : Nat.ble o.1 39 with
        | true => rw [h4] at h; exact qbm_4 hRP hm h
        | false =>
          rw [h4] at h
          cases h5 : Nat.ble o.1 47 with
          | true => rw [h5] at h; exact qbm_5 hRP hm h
          | false =>
            rw [h5] at h
            cases h6 : Nat.ble o.1 59 with
            | true => rw [h6] at h; exact qbm_6 hRP hm h
            | false => rw [h6] at h; exact qbm_7 hRP hm h
def qHas (k : Nat) : qLc → Bool
  | [] => false
  | q :: r => bif q.1 == k then true else qHas k r
theorem qHas_mem {k : Nat} : ∀ {L : qLc}, qHas k L = true → (k, lcG k L) ∈ L := by
  intro L
  induction L with
  | nil => intro h; cases h
  | cons q r ih =>
    intro h
    unfold qHas at h
    unfold lcG
    cases hq : (q.1 == k) with
    | true =>
      have e : q.1 = k := by simpa using hq
      show (k, q.2) ∈ q :: r
      rw [← e]
      exact List.mem_cons_self
    | false =>
      rw [hq] at h
      exact List.mem_cons_of_mem _ (ih h)
def qCan (ks : List Nat) (L : qLc) : qLc := ks.map (fun k => (k, lcG k L))
def qCut (i : Nat) : List (Nat × List Nat) → Option (List Nat)
  | [] => none
  | q :: r => bif q.1 == i then some q.2 else qCut i r
/-- many steps of one method: it stops at a cut (with the cut's locals alone), at a call, at the end -/
def qRun (Ls : Nat) (xs : Nat → Int32) (P : qSem) (y : Nat) (ops : List qOp) (cuts : List (Nat × List Nat)) : Nat → Nat → qLc → List Value → qMem → qPost → Prop
  | 0, i, L, stk, M, Q => P y i L stk M Q
  | n + 1, i, L, stk, M, Q => qStepB Ls xs (fun y' i' L' stk' M' Q' => bif Nat.beq y' y then
      (match qCut i' cuts with
       | some ks => bif ks.all (fun k => qHas k L') then P y i' (qCan ks L') stk' M' Q' else False
       | none => qRun Ls xs P y ops cuts n i' L' stk' M' Q')
      else P y' i' L' stk' M' Q') y i (ops.getD i qHalt) L stk M Q
theorem qRun_ok (hG : qGood Ls xs P) {ops : List qOp} {cuts : List (Nat × List Nat)} (hops : qOps.getD y [] = ops) : ∀ (n i : Nat) (L : qLc) (stk : List Value) (M : qMem) (Q : qPost), qRun Ls xs P y ops cuts n i L stk M Q → P y i L stk M Q := by
  intro n
  induction n with
  | zero => intro i L stk M Q h; exact h
  | succ n ih =>
    intro i L stk M Q h
    refine hG.1 y i L stk M Q ?_
    have e : qOp' y i = ops.getD i qHalt := by
      unfold qOp'
      rw [hops]
    rw [e]
    refine qStep_le ?_ hG.2.2 h
    intro y' i' L' stk' M' Q' h'
    replace h' : bif Nat.beq y' y then
      (match qCut i' cuts with
       | some ks => bif ks.all (fun k => qHas k L') then P y i' (qCan ks L') stk' M' Q' else False
       | none => qRun Ls xs P y ops cuts n i' L' stk' M' Q')
      else P y' i' L' stk' M' Q' := h'
    cases hy : Nat.beq y' y with
    | true =>
      rw [hy] at h'
      have ey := q_bq hy
      subst ey
      replace h' : (match qCut i' cuts with
       | some ks => bif ks.all (fun k => qHas k L') then P y' i' (qCan ks L') stk' M' Q' else False
       | none => qRun Ls xs P y' ops cuts n i' L' stk' M' Q') := h'
      cases hc : qCut i' cuts with
      | none => rw [hc] at h'; exact ih _ _ _ _ _ h'
      | some ks =>
        rw [hc] at h'
        refine q_bif h' (fun ha h' => hG.2.1 _ _ _ _ _ _ _ (fun q hq => ?_) h')
        obtain ⟨k, hk, rfl⟩ := List.mem_map.mp hq
        exact qHas_mem (List.all_eq_true.mp ha k hk)
    | false => rw [hy] at h'; exact h'
end QM
