/-! the claim out of one walk of the law's body -/
theorem dL_law_0 : decode cL_law 0 = .ok (.new 10, 3) := by decide +kernel
theorem dL_law_3 : decode cL_law 3 = .ok (.dup, 1) := by decide +kernel
theorem dL_law_4 : decode cL_law 4 = .ok (.invokespecial 96, 3) := by decide +kernel
theorem dL_law_7 : decode cL_law 7 = .ok (.astore_n 1, 1) := by decide +kernel
theorem dL_law_8 : decode cL_law 8 = .ok (.new 10, 3) := by decide +kernel
theorem dL_law_11 : decode cL_law 11 = .ok (.dup, 1) := by decide +kernel
theorem dL_law_12 : decode cL_law 12 = .ok (.invokespecial 96, 3) := by decide +kernel
theorem dL_law_15 : decode cL_law 15 = .ok (.astore_n 2, 1) := by decide +kernel
theorem dL_law_16 : decode cL_law 16 = .ok (.iconst 0, 1) := by decide +kernel
theorem dL_law_17 : decode cL_law 17 = .ok (.istore_n 3, 1) := by decide +kernel
theorem kw_70 : Cond.classLink RL 10 RX6 ∈ qT := tbw_T (i := 22) (by decide +kernel) rfl
theorem kw_71 : Cond.instantiable RX6 9 ∈ qT := tbw_T (i := 23) (by decide +kernel) rfl
theorem kw_72 : Cond.initialized RX6 ∈ qT := tbw_T (i := 13) (by decide +kernel) rfl
set_option maxRecDepth 100000 in
theorem kw_73 : Cond.code yX6_init cX6_init 2 none ∈ qT := List.mem_filter.mpr ⟨List.mem_of_getElem? (i := 26) rfl, rfl⟩
theorem kw_74 : Cond.instanceMethod yX6_init ∈ qT := tbw_T (i := 25) (by decide +kernel) rfl
theorem kw_75 : Cond.methodLink RL 96 yX6_init ∈ qT := tbw_T (i := 24) (by decide +kernel) rfl
/-! THE CLAIM OUT OF ONE WALK OF THE LAW'S BODY. Your part is whole_start (and what it stands on); all else here is the same for every law, but numbers. -/
def R_law : String := "StabilityAnalyzerLaw"
def lw_P (b : Addr) (xs : List Int32) (args : Array Value) (s : State) : Prop := args = #[.ref b] ∧ s.IntsAt b xs ∧ xs.length ≤ 260 ∧ (Jvm.Cond.and given_1 narrow_1).before args s = true
def lw_Q (_ : Array Value) (s : State) (o : Outcome) (t : State) : Prop := o = .returned (some (.int 1)) ∧ Framed s o t [] 600000 7302250
def lw_Z (below : List Frame) (a : Array Value) (s : State) : State → Prop := fun t => ∃ o, t.status = .running ∧ Ended t below o ∧ lw_Q a s o t
/-- the law's own end, with 1 on the stack, nothing written that was there before, its room as the claim has it -/
theorem lw_ret {p : Program} {l : Launch} {e : Env} {s : State} {m : MethodId} {below : List Frame} {meth : Method} {c : Code} {b : Nat} (hx : p.tables.exec = Jvm.exec) (hb : c.code = code) (hr : meth.sig.returnType = ret) (hlocks : meth.locks = false) {pc : Nat} {H : Heap} {ls : Array Slot} (hdg : decode code pc = .ok (.ireturn, 1)) : W p l e room_1 s m #[Value.ref b] below meth c H [] 600000 7302250 (lw_Z below #[Value.ref b] s) (F0 m pc ls [.int 1]) := by
  intro T hT X
  obtain ⟨fs, hret, hrun, hended, hW, hframe⟩ := X.leave (v := some (.int 1)) (hlocks := hlocks) (fun h => by rw [hr] at h; cases h)
  have hmeth' : T.vm.method? m = some meth := X.method'
  refine ⟨T.setFrames fs, ?_, .returned (some (.int 1)), hrun, hended, rfl, ⟨_, rfl⟩, hW, hframe⟩
  jvm_step X.here [X.here.top, hx, hb, hdg, hmeth', hr, ret, narrow_b1]
  (try refine ⟨rfl, ?_⟩); (try refine ⟨rfl, ?_⟩)
  first | (intro acts; rw [hret _ acts rfl rfl rfl]) | rw [hret _ _ rfl rfl rfl]
  exact Steps.refl _
/-- what holds at the law's entry: the machine, the code, the tables' words (any of lw_tbl by 'hts w (by decide +kernel)'), the script of L ints xs at the cell b, what the Statement gives of the start (any of its parts by flat_of_before) -/
def lw_At (p : Program) (s : State) (m : MethodId) (meth : Method) (c : Code) (b L : Nat) (xs : Nat → Int32) : Prop :=
  p.tables.exec = Jvm.exec ∧ c.code = code ∧ meth.sig.returnType = ret ∧ c.maxLocals = 7 ∧ s.vm.findClass R_law = some m.cls ∧ (∀ w ∈ lw_tbl, w.before #[Value.ref b] s = true) ∧ va_X b L xs s s.heap ∧ b < s.heap.size ∧ meth.locks = false ∧ (Jvm.Cond.and given_1 narrow_1).before #[Value.ref b] s = true
def xM0 : qMem := (fun k => if k = 33 then (fun j => if j = 2 then 0 else if j = 4 then 1 else (-1000000001)) else if k = 69 then (fun j => if j = 2 then 0 else if j = 4 then 1 else (-1000000001)) else fun _ => 0, fun _ _ => 0)
def xad (h0 : Nat) (u : Nat → Nat) (m0 : Nat) (v : Nat → Nat) (b : Nat) (k : Nat) : Nat := if k = 0 then h0 else if k < 36 then u (k - 1) else if k = 36 then m0 else if k < 72 then v (k - 37) else b
def xS0 : zSt := ((0, fun _ => 0), (0, fun _ => (0, fun _ => 0)), (fun _ => none), (0, fun _ => 0), (-1000000001), (-1000000001))
theorem xCS1 : CS xS0 xM0 := by
  refine ⟨⟨by decide, by decide, fun j hj => absurd hj (Nat.not_lt_zero j)⟩, ⟨0, by decide, by decide, by decide, by decide, fun a ha => absurd ha (Nat.not_lt_zero a)⟩, fun i hi => ⟨?_, fun r hr => nomatch hr⟩, ⟨by decide, by decide, fun j hj => absurd hj (Nat.not_lt_zero j)⟩, ⟨by decide, by decide⟩⟩
  have : i = 0 ∨ i = 1 := by omega
  rcases this with e | e <;> subst e <;> decide
theorem xCS2 : CS xS0 (swM xM0) := by
  refine ⟨⟨by decide, by decide, fun j hj => absurd hj (Nat.not_lt_zero j)⟩, ⟨0, by decide, by decide, by decide, by decide, fun a ha => absurd ha (Nat.not_lt_zero a)⟩, fun i hi => ⟨?_, fun r hr => nomatch hr⟩, ⟨by decide, by decide, fun j hj => absurd hj (Nat.not_lt_zero j)⟩, ⟨by decide, by decide⟩⟩
  have : i = 0 ∨ i = 1 := by omega
  rcases this with e | e <;> subst e <;> decide
theorem arrV_e {cA : ClassId} {n : Nat} {f g : Nat → Option Nat} (h : ∀ j, j < n → f j = g j) : vp_cell cA (n, .inr (.inr (.inr (.inr f)))) = vp_cell cA (n, .inr (.inr (.inr (.inr g)))) := by
  rw [vp_cell_q, vp_cell_q]
  unfold arrV
  congr 1
  congr 1
  funext j
  exact congrArg va_rf (h j.val j.isLt)
theorem va_P.re {D : va_G} {cl : List vw_C} {ws : va_W} {H : Heap} {k a cA n : Nat} {f g : Nat → Option Nat} (hP : va_P D cl ws H) (hk : ws[k]? = some (a, .inl (cA, n, .inr (.inr (.inr (.inr f)))))) (h : ∀ j, j < n → f j = g j) : va_P D cl (ws.set k (a, .inl (cA, n, .inr (.inr (.inr (.inr g)))))) H := by
  intro i q hq
  rw [List.getElem?_set] at hq
  by_cases e : k = i
  · subst e
    have hl := (List.getElem?_eq_some_iff.mp hk).1
    rw [if_pos rfl, if_pos hl] at hq
    cases hq
    have h0 := hP k _ hk
    show H[a]? = some (vp_cell cA (n, .inr (.inr (.inr (.inr g)))))
    rw [← arrV_e h]
    exact h0
  · rw [if_neg e] at hq
    exact hP i q hq
theorem xNst : ∀ t ∈ qNst, qNw t ∈ lw_tbl := List.forall_mem_cons.mpr ⟨List.mem_of_getElem? (i := 125) (by decide +kernel), List.forall_mem_cons.mpr ⟨List.mem_of_getElem? (i := 127) (by decide +kernel), List.forall_mem_cons.mpr ⟨List.mem_of_getElem? (i := 74) (by decide +kernel), List.forall_mem_cons.mpr ⟨List.mem_of_getElem? (i := 76) (by decide +kernel), fun _ h => absurd h List.not_mem_nil⟩⟩⟩⟩
theorem xKnst : ∀ t ∈ kNst, kNw t ∈ lw_tbl := List.forall_mem_cons.mpr ⟨List.mem_of_getElem? (i := 32) (by decide +kernel), List.forall_mem_cons.mpr ⟨List.mem_of_getElem? (i := 67) (by decide +kernel), List.forall_mem_cons.mpr ⟨List.mem_of_getElem? (i := 84) (by decide +kernel), List.forall_mem_cons.mpr ⟨List.mem_of_getElem? (i := 97) (by decide +kernel), List.forall_mem_cons.mpr ⟨List.mem_of_getElem? (i := 120) (by decide +kernel), List.forall_mem_cons.mpr ⟨List.mem_of_getElem? (i := 52) (by decide +kernel), List.forall_mem_cons.mpr ⟨List.mem_of_getElem? (i := 72) (by decide +kernel), fun _ h => absurd h List.not_mem_nil⟩⟩⟩⟩⟩⟩⟩
set_option maxHeartbeats 4000000 in
set_option maxRecDepth 100000 in
theorem whole_start {p : Program} {e : Env} {s : State} {m : MethodId} {below : List Frame} {meth : Method} {c : Code} (l : Launch) (hflags : l.flags = flags0) {b L : Nat} {xs : Nat → Int32} (hL : L ≤ 260) (C0 : lw_At p s m meth c b L xs) : W p l e room_1 s m #[Value.ref b] below meth c s.heap [] 0 0 (lw_Z below #[Value.ref b] s) (entryFrame m ([Value.ref b] : List Value).toArray 7) := by
  obtain ⟨hx, hb, hr, hml, hown, hts, hX, hbl, hlocks, hgv⟩ := id C0
  have hq : ∀ w ∈ qT, w.before #[Value.ref b] s = true := fun w hw => hts w (List.mem_filter.mp hw).1
  have hA : ∀ q : Nat, s.heap.size ≤ q → (fun q : Nat => s.heap.size ≤ q) q := fun _ h => h
  obtain ⟨c0, iS0, hKn0⟩ := u_known (C := RX0) (T := TX0) (N := 2) (n := 2) hq cw0 (hts (.instantiable RX0 2) (List.mem_of_getElem? (i := 119) (by decide +kernel)))
  obtain ⟨c1, iS1, hKn1⟩ := u_known (C := RX1) (T := TX1) (N := 3) (n := 3) hq cw1 (hts (.instantiable RX1 3) (List.mem_of_getElem? (i := 45) (by decide +kernel)))
  obtain ⟨c2, iS2, hKn2⟩ := u_known (C := RX2) (T := TX2) (N := 2) (n := 2) hq cw2 (hts (.instantiable RX2 2) (List.mem_of_getElem? (i := 66) (by decide +kernel)))
  obtain ⟨c3, iS3, hKn3⟩ := u_known (C := RX3) (T := TX3) (N := 5) (n := 5) hq cw3 (hts (.instantiable RX3 5) (List.mem_of_getElem? (i := 96) (by decide +kernel)))
  obtain ⟨c4, iS4, hKn4⟩ := u_known (C := RX4) (T := TX4) (N := 2) (n := 2) hq cw4 (hts (.instantiable RX4 2) (List.mem_of_getElem? (i := 31) (by decide +kernel)))
  obtain ⟨c5, iS5, hKn5⟩ := u_known (C := RX5) (T := TX5) (N := 2) (n := 2) hq cw5 (hts (.instantiable RX5 2) (List.mem_of_getElem? (i := 83) (by decide +kernel)))
  obtain ⟨c6, iS6, hKn6⟩ := u_known (C := RX6) (T := TX6) (N := 9) (n := 9) hq cw6 (hts (.instantiable RX6 9) (List.mem_of_getElem? (i := 23) (by decide +kernel)))
  obtain ⟨dC, dI, hKc⟩ : ∃ (dC : Nat → ClassId) (dI : Nat → Nat → Nat), ∀ (k : Nat) (q : vw_C), vwCl[k]? = some q → u_Kn s q.1 q.2.1 q.2.2 (dC k) (dI k) := by
    refine ⟨fun k => if k = 0 then c0 else if k = 1 then c1 else if k = 2 then c2 else if k = 3 then c3 else if k = 4 then c4 else if k = 5 then c5 else c6, fun k => if k = 0 then iS0 else if k = 1 then iS1 else if k = 2 then iS2 else if k = 3 then iS3 else if k = 4 then iS4 else if k = 5 then iS5 else iS6, ?_⟩
    intro k q hq
    match k, hq with
    | 0, hq => cases hq; exact hKn0
    | 1, hq => cases hq; exact hKn1
    | 2, hq => cases hq; exact hKn2
    | 3, hq => cases hq; exact hKn3
    | 4, hq => cases hq; exact hKn4
    | 5, hq => cases hq; exact hKn5
    | 6, hq => cases hq; exact hKn6
    | k + 7, hq => simp [vwCl] at hq
  obtain ⟨a0, kA0, cp0, hn0, hk0, hd0⟩ := Cond.arrayClass_spec (hts (.arrayClass .int) (List.mem_of_getElem? (i := 43) (by decide +kernel)))
  obtain ⟨a1, kA1, cp1, hn1, hk1, hd1⟩ := Cond.arrayClass_spec (hts (.arrayClass .long) (List.mem_of_getElem? (i := 63) (by decide +kernel)))
  have hO0 : va_AO RX4 s := hts (.arrayOver (.object RX4)) (List.mem_of_getElem? (i := 51) (by decide +kernel))
  obtain ⟨cp3, a3, kA3, hc3, -, hk3, hd3, hn3⟩ := Cond.arrayOver_spec hO0
  have hO1 : va_AO RX2 s := hts (.arrayOver (.object RX2)) (List.mem_of_getElem? (i := 65) (by decide +kernel))
  obtain ⟨cp4, a4, kA4, hc4, -, hk4, hd4, hn4⟩ := Cond.arrayOver_spec hO1
  obtain ⟨aC, z0, z1, z2, z3, z4⟩ : ∃ aC : Nat → ClassId, aC 0 = a0 ∧ aC 1 = a1 ∧ aC 2 = a0 ∧ aC 3 = a3 ∧ aC 4 = a4 := ⟨fun k => if k = 0 then a0 else if k = 1 then a1 else if k = 2 then a0 else if k = 3 then a3 else a4, rfl, rfl, rfl, rfl, rfl⟩
  subst z1 z3 z4
  have hK : va_K (dC, dI) vwCl (qTy aC) s := by
    refine ⟨hKc, fun k q hq => ?_⟩
    match k, hq with
    | 0, hq => cases hq; rw [z0]; exact ⟨fun n z => ⟨fun k h => (by cases h), kA0, hk0, cp0, hd0⟩, hn0⟩
    | 1, hq => cases hq; exact ⟨fun n z => ⟨fun k h => (by cases h), kA1, hk1, cp1, hd1⟩, hn1⟩
    | 2, hq => cases hq; rw [z2]; exact ⟨fun n z => ⟨fun k h => (by cases h), kA0, hk0, cp0, hd0⟩, hn0⟩
    | 3, hq => cases hq; exact ⟨fun n z => ⟨fun k h => (by cases h), kA3, hk3, cp3, hd3⟩, kA3, cp3, hk3, hd3, hc3, hn3⟩
    | 4, hq => cases hq; exact ⟨fun n z => ⟨fun k h => (by cases h), kA4, hk4, cp4, hd4⟩, kA4, cp4, hk4, hd4, hc4, hn4⟩
    | k + 5, hq => simp [qTy] at hq
  have hKC : kC dC dI aC s := ⟨hK, hO0, hO1, fun t ht => va_Nw.of rfl (hts _ (xKnst t ht))⟩
  have hSt : qSt dC dI aC b L xs s := ⟨hK, hX, hbl, fun t ht => va_Nw.of rfl (hts _ (xNst t ht))⟩
  have hS : va_S (fun q : Nat => s.heap.size ≤ q) s.heap s.heap [] := va_S.rf
  have hP : va_P (dC, dI) vwCl [] s.heap := fun k q h => by simp at h
  have hD : va_D (fun q : Nat => s.heap.size ≤ q) [] := ⟨fun i j p q h => by simp at h, fun k q h => by simp at h⟩
  have hl := lv_entry ([.ref b]) (n := 7) (Nat.le_of_ble_eq_true rfl)
  rw [lg_entry_eq]
  generalize (lg_sl ([.ref b]) ++ List.replicate (7 - (lg_sl ([.ref b])).length) Slot.unset).toArray = ls at hl ⊢
  have hl : lv_has ls 7 [(0, .ref b)] := hl
  refine va_new (D := (dC, dI)) (ci := 6) (fs := [.null, .null, .null, .null, .null, .null, .null, .null, .null]) (C := RX6) (T := TX6) (N := 9) hx hb hq cw6 tyX6 tyX6_ok hown (hq _ kw_70) (hq _ kw_71) (hq _ kw_72) hK hP hD hS hA rfl (fun j hj => by rcases (show j = 0 ∨ j = 1 ∨ j = 2 ∨ j = 3 ∨ j = 4 ∨ j = 5 ∨ j = 6 ∨ j = 7 ∨ j = 8 by omega) with rfl | rfl | rfl | rfl | rfl | rfl | rfl | rfl | rfl <;> rfl) (Nat.le_of_ble_eq_true rfl) (Nat.le_of_ble_eq_true rfl) dL_law_0 (fun q0_1 H hP hD hS => ?_)
  have hP : va_P (dC, dI) vwCl [(q0_1, .inr (6, [.null, .null, .null, .null, .null, .null, .null, .null, .null]))] H := hP
  have hD : va_D (fun q : Nat => s.heap.size ≤ q) [(q0_1, .inr (6, [.null, .null, .null, .null, .null, .null, .null, .null, .null]))] := hD
  refine W.widen (k := 1) (n := 9) (by omega) (by omega) ?_
  refine lv_dup hx hb dL_law_3 rfl ?_
  have hPc := hP.sub (ws' := [(q0_1, .inr (6, [.null, .null, .null, .null, .null, .null, .null, .null, .null]))]) [0] rfl
  have hDc := hD.sub (ws' := [(q0_1, .inr (6, [.null, .null, .null, .null, .null, .null, .null, .null, .null]))]) [0] (by decide) rfl
  have hFc := va_free (wc := [(q0_1, .inr (6, [.null, .null, .null, .null, .null, .null, .null, .null, .null]))]) hD hS hA [0] rfl
  refine va_callv (va_runI (As := []) (rest := [.ref q0_1]) ⟨hx, hb, hml, hown, hq⟩ (c6_init l dC dI aC q0_1 H.size) (cwI 0 hq (kG kw_73) rfl rfl rfl (hq _ kw_72) (hq _ kw_75) (hq _ kw_74) rfl (by decide +kernel) ⟨Nat.le_of_ble_eq_true rfl, Nat.le_of_ble_eq_true rfl⟩) ⟨fun a U g mk q => ⟨q.1, q.2.1, q.2.2.1, q.2.2.2.1.same rfl, q.2.2.2.2⟩, fun U hU hW => ⟨rfl, by rw [hU], by rw [hU]; exact hPc, hKC.warm hW, hDc.weaken (fun _ _ _ _ => trivial)⟩⟩ rfl rfl hl.1 rfl (lv_room (Nat.le_of_ble_eq_true rfl)) dL_law_4 ⟨Nat.le_of_ble_eq_true rfl, Nat.le_of_ble_eq_true rfl⟩) hS (fun q _ h => hFc q h) hFc (fun u2 t H1 locs ht hvm hw hB hz1 hk1 hS => ?_)
  obtain ⟨hP1, hD1⟩ := hB
  rw [ht] at hP1
  obtain ⟨hP, hD⟩ := va_join (wr := []) (w1 := [(q0_1, .inr (6, [.ref (u2 0), .ref (u2 2), .ref (u2 4), .ref (u2 5), .ref (u2 23), .ref (u2 30), .ref (u2 32), .ref (u2 33), .ref (u2 34)])), ((u2 0), .inr (4, [.ref (u2 1), .int 0])), ((u2 1), .inl (aC 0, 64, .inl (fun _ => 0))), ((u2 2), .inr (4, [.ref (u2 3), .int 0])), ((u2 3), .inl (aC 0, 64, .inl (fun _ => 0))), ((u2 4), .inl (aC 1, 64, .inr (.inl (fun _ => 0)))), ((u2 5), .inr (1, [.ref (u2 6), .int 0, .int 0])), ((u2 6), .inl (aC 3, 8, .inr (.inr (.inr (.inr (va_up (va_up (va_up (va_up (va_up (va_up (va_up (va_up (fun _ => none) (0 : Int32).toNatClampNeg (some (u2 7))) (1 : Int32).toNatClampNeg (some (u2 9))) (2 : Int32).toNatClampNeg (some (u2 11))) (3 : Int32).toNatClampNeg (some (u2 13))) (4 : Int32).toNatClampNeg (some (u2 15))) (5 : Int32).toNatClampNeg (some (u2 17))) (6 : Int32).toNatClampNeg (some (u2 19))) (7 : Int32).toNatClampNeg (some (u2 21)))))))), ((u2 7), .inr (4, [.ref (u2 8), .int 0])), ((u2 8), .inl (aC 0, 64, .inl (fun _ => 0))), ((u2 9), .inr (4, [.ref (u2 10), .int 0])), ((u2 10), .inl (aC 0, 64, .inl (fun _ => 0))), ((u2 11), .inr (4, [.ref (u2 12), .int 0])), ((u2 12), .inl (aC 0, 64, .inl (fun _ => 0))), ((u2 13), .inr (4, [.ref (u2 14), .int 0])), ((u2 14), .inl (aC 0, 64, .inl (fun _ => 0))), ((u2 15), .inr (4, [.ref (u2 16), .int 0])), ((u2 16), .inl (aC 0, 64, .inl (fun _ => 0))), ((u2 17), .inr (4, [.ref (u2 18), .int 0])), ((u2 18), .inl (aC 0, 64, .inl (fun _ => 0))), ((u2 19), .inr (4, [.ref (u2 20), .int 0])), ((u2 20), .inl (aC 0, 64, .inl (fun _ => 0))), ((u2 21), .inr (4, [.ref (u2 22), .int 0])), ((u2 22), .inl (aC 0, 64, .inl (fun _ => 0))), ((u2 23), .inl (aC 4, 2, .inr (.inr (.inr (.inr (va_up (va_up (fun _ => none) (0 : Int32).toNatClampNeg (some (u2 24))) (1 : Int32).toNatClampNeg (some (u2 27)))))))), ((u2 24), .inr (2, [.ref (u2 25), .int 0])), ((u2 25), .inr (4, [.ref (u2 26), .int 0])), ((u2 26), .inl (aC 0, 64, .inl (fun _ => 0))), ((u2 27), .inr (2, [.ref (u2 28), .int 0])), ((u2 28), .inr (4, [.ref (u2 29), .int 0])), ((u2 29), .inl (aC 0, 64, .inl (fun _ => 0))), ((u2 30), .inr (5, [.ref (u2 31), .int 0])), ((u2 31), .inl (aC 0, 120, .inl (fun _ => 0))), ((u2 32), .inr (3, [.int (-1000000001), .int (-1000000001), .int 0, .int (-1000000001), .int 1])), ((u2 33), .inr (0, [.long 0, .long 0])), ((u2 34), .inr (0, [.long 0, .long 0]))]) hP hD [0] [] rfl rfl (by decide) (by decide) hk1 hFc hP1 hD1
  generalize H1 = H at hP hS ⊢
  have hP : va_P (dC, dI) vwCl [(q0_1, .inr (6, [.ref (u2 0), .ref (u2 2), .ref (u2 4), .ref (u2 5), .ref (u2 23), .ref (u2 30), .ref (u2 32), .ref (u2 33), .ref (u2 34)])), ((u2 0), .inr (4, [.ref (u2 1), .int 0])), ((u2 1), .inl (aC 0, 64, .inl (fun _ => 0))), ((u2 2), .inr (4, [.ref (u2 3), .int 0])), ((u2 3), .inl (aC 0, 64, .inl (fun _ => 0))), ((u2 4), .inl (aC 1, 64, .inr (.inl (fun _ => 0)))), ((u2 5), .inr (1, [.ref (u2 6), .int 0, .int 0])), ((u2 6), .inl (aC 3, 8, .inr (.inr (.inr (.inr (va_up (va_up (va_up (va_up (va_up (va_up (va_up (va_up (fun _ => none) (0 : Int32).toNatClampNeg (some (u2 7))) (1 : Int32).toNatClampNeg (some (u2 9))) (2 : Int32).toNatClampNeg (some (u2 11))) (3 : Int32).toNatClampNeg (some (u2 13))) (4 : Int32).toNatClampNeg (some (u2 15))) (5 : Int32).toNatClampNeg (some (u2 17))) (6 : Int32).toNatClampNeg (some (u2 19))) (7 : Int32).toNatClampNeg (some (u2 21)))))))), ((u2 7), .inr (4, [.ref (u2 8), .int 0])), ((u2 8), .inl (aC 0, 64, .inl (fun _ => 0))), ((u2 9), .inr (4, [.ref (u2 10), .int 0])), ((u2 10), .inl (aC 0, 64, .inl (fun _ => 0))), ((u2 11), .inr (4, [.ref (u2 12), .int 0])), ((u2 12), .inl (aC 0, 64, .inl (fun _ => 0))), ((u2 13), .inr (4, [.ref (u2 14), .int 0])), ((u2 14), .inl (aC 0, 64, .inl (fun _ => 0))), ((u2 15), .inr (4, [.ref (u2 16), .int 0])), ((u2 16), .inl (aC 0, 64, .inl (fun _ => 0))), ((u2 17), .inr (4, [.ref (u2 18), .int 0])), ((u2 18), .inl (aC 0, 64, .inl (fun _ => 0))), ((u2 19), .inr (4, [.ref (u2 20), .int 0])), ((u2 20), .inl (aC 0, 64, .inl (fun _ => 0))), ((u2 21), .inr (4, [.ref (u2 22), .int 0])), ((u2 22), .inl (aC 0, 64, .inl (fun _ => 0))), ((u2 23), .inl (aC 4, 2, .inr (.inr (.inr (.inr (va_up (va_up (fun _ => none) (0 : Int32).toNatClampNeg (some (u2 24))) (1 : Int32).toNatClampNeg (some (u2 27)))))))), ((u2 24), .inr (2, [.ref (u2 25), .int 0])), ((u2 25), .inr (4, [.ref (u2 26), .int 0])), ((u2 26), .inl (aC 0, 64, .inl (fun _ => 0))), ((u2 27), .inr (2, [.ref (u2 28), .int 0])), ((u2 28), .inr (4, [.ref (u2 29), .int 0])), ((u2 29), .inl (aC 0, 64, .inl (fun _ => 0))), ((u2 30), .inr (5, [.ref (u2 31), .int 0])), ((u2 31), .inl (aC 0, 120, .inl (fun _ => 0))), ((u2 32), .inr (3, [.int (-1000000001), .int (-1000000001), .int 0, .int (-1000000001), .int 1])), ((u2 33), .inr (0, [.long 0, .long 0])), ((u2 34), .inr (0, [.long 0, .long 0]))] H := hP
  have hD : va_D (fun q : Nat => s.heap.size ≤ q) [(q0_1, .inr (6, [.ref (u2 0), .ref (u2 2), .ref (u2 4), .ref (u2 5), .ref (u2 23), .ref (u2 30), .ref (u2 32), .ref (u2 33), .ref (u2 34)])), ((u2 0), .inr (4, [.ref (u2 1), .int 0])), ((u2 1), .inl (aC 0, 64, .inl (fun _ => 0))), ((u2 2), .inr (4, [.ref (u2 3), .int 0])), ((u2 3), .inl (aC 0, 64, .inl (fun _ => 0))), ((u2 4), .inl (aC 1, 64, .inr (.inl (fun _ => 0)))), ((u2 5), .inr (1, [.ref (u2 6), .int 0, .int 0])), ((u2 6), .inl (aC 3, 8, .inr (.inr (.inr (.inr (va_up (va_up (va_up (va_up (va_up (va_up (va_up (va_up (fun _ => none) (0 : Int32).toNatClampNeg (some (u2 7))) (1 : Int32).toNatClampNeg (some (u2 9))) (2 : Int32).toNatClampNeg (some (u2 11))) (3 : Int32).toNatClampNeg (some (u2 13))) (4 : Int32).toNatClampNeg (some (u2 15))) (5 : Int32).toNatClampNeg (some (u2 17))) (6 : Int32).toNatClampNeg (some (u2 19))) (7 : Int32).toNatClampNeg (some (u2 21)))))))), ((u2 7), .inr (4, [.ref (u2 8), .int 0])), ((u2 8), .inl (aC 0, 64, .inl (fun _ => 0))), ((u2 9), .inr (4, [.ref (u2 10), .int 0])), ((u2 10), .inl (aC 0, 64, .inl (fun _ => 0))), ((u2 11), .inr (4, [.ref (u2 12), .int 0])), ((u2 12), .inl (aC 0, 64, .inl (fun _ => 0))), ((u2 13), .inr (4, [.ref (u2 14), .int 0])), ((u2 14), .inl (aC 0, 64, .inl (fun _ => 0))), ((u2 15), .inr (4, [.ref (u2 16), .int 0])), ((u2 16), .inl (aC 0, 64, .inl (fun _ => 0))), ((u2 17), .inr (4, [.ref (u2 18), .int 0])), ((u2 18), .inl (aC 0, 64, .inl (fun _ => 0))), ((u2 19), .inr (4, [.ref (u2 20), .int 0])), ((u2 20), .inl (aC 0, 64, .inl (fun _ => 0))), ((u2 21), .inr (4, [.ref (u2 22), .int 0])), ((u2 22), .inl (aC 0, 64, .inl (fun _ => 0))), ((u2 23), .inl (aC 4, 2, .inr (.inr (.inr (.inr (va_up (va_up (fun _ => none) (0 : Int32).toNatClampNeg (some (u2 24))) (1 : Int32).toNatClampNeg (some (u2 27)))))))), ((u2 24), .inr (2, [.ref (u2 25), .int 0])), ((u2 25), .inr (4, [.ref (u2 26), .int 0])), ((u2 26), .inl (aC 0, 64, .inl (fun _ => 0))), ((u2 27), .inr (2, [.ref (u2 28), .int 0])), ((u2 28), .inr (4, [.ref (u2 29), .int 0])), ((u2 29), .inl (aC 0, 64, .inl (fun _ => 0))), ((u2 30), .inr (5, [.ref (u2 31), .int 0])), ((u2 31), .inl (aC 0, 120, .inl (fun _ => 0))), ((u2 32), .inr (3, [.int (-1000000001), .int (-1000000001), .int 0, .int (-1000000001), .int 1])), ((u2 33), .inr (0, [.long 0, .long 0])), ((u2 34), .inr (0, [.long 0, .long 0]))] := hD
  refine W.widen (k := 36) (n := 1013) (by omega) (by omega) ?_
  refine lv_astore_n (lv' := [(1, .ref q0_1), (0, .ref b)]) hx hb dL_law_7 rfl hl (by decide) rfl (fun ls hl => ?_)
  refine va_new (D := (dC, dI)) (ci := 6) (fs := [.null, .null, .null, .null, .null, .null, .null, .null, .null]) (C := RX6) (T := TX6) (N := 9) hx hb hq cw6 tyX6 tyX6_ok hown (hq _ kw_70) (hq _ kw_71) (hq _ kw_72) hK hP hD hS hA rfl (fun j hj => by rcases (show j = 0 ∨ j = 1 ∨ j = 2 ∨ j = 3 ∨ j = 4 ∨ j = 5 ∨ j = 6 ∨ j = 7 ∨ j = 8 by omega) with rfl | rfl | rfl | rfl | rfl | rfl | rfl | rfl | rfl <;> rfl) (Nat.le_of_ble_eq_true rfl) (Nat.le_of_ble_eq_true rfl) dL_law_8 (fun q8_3 H hP hD hS => ?_)
  have hP : va_P (dC, dI) vwCl [(q0_1, .inr (6, [.ref (u2 0), .ref (u2 2), .ref (u2 4), .ref (u2 5), .ref (u2 23), .ref (u2 30), .ref (u2 32), .ref (u2 33), .ref (u2 34)])), ((u2 0), .inr (4, [.ref (u2 1), .int 0])), ((u2 1), .inl (aC 0, 64, .inl (fun _ => 0))), ((u2 2), .inr (4, [.ref (u2 3), .int 0])), ((u2 3), .inl (aC 0, 64, .inl (fun _ => 0))), ((u2 4), .inl (aC 1, 64, .inr (.inl (fun _ => 0)))), ((u2 5), .inr (1, [.ref (u2 6), .int 0, .int 0])), ((u2 6), .inl (aC 3, 8, .inr (.inr (.inr (.inr (va_up (va_up (va_up (va_up (va_up (va_up (va_up (va_up (fun _ => none) (0 : Int32).toNatClampNeg (some (u2 7))) (1 : Int32).toNatClampNeg (some (u2 9))) (2 : Int32).toNatClampNeg (some (u2 11))) (3 : Int32).toNatClampNeg (some (u2 13))) (4 : Int32).toNatClampNeg (some (u2 15))) (5 : Int32).toNatClampNeg (some (u2 17))) (6 : Int32).toNatClampNeg (some (u2 19))) (7 : Int32).toNatClampNeg (some (u2 21)))))))), ((u2 7), .inr (4, [.ref (u2 8), .int 0])), ((u2 8), .inl (aC 0, 64, .inl (fun _ => 0))), ((u2 9), .inr (4, [.ref (u2 10), .int 0])), ((u2 10), .inl (aC 0, 64, .inl (fun _ => 0))), ((u2 11), .inr (4, [.ref (u2 12), .int 0])), ((u2 12), .inl (aC 0, 64, .inl (fun _ => 0))), ((u2 13), .inr (4, [.ref (u2 14), .int 0])), ((u2 14), .inl (aC 0, 64, .inl (fun _ => 0))), ((u2 15), .inr (4, [.ref (u2 16), .int 0])), ((u2 16), .inl (aC 0, 64, .inl (fun _ => 0))), ((u2 17), .inr (4, [.ref (u2 18), .int 0])), ((u2 18), .inl (aC 0, 64, .inl (fun _ => 0))), ((u2 19), .inr (4, [.ref (u2 20), .int 0])), ((u2 20), .inl (aC 0, 64, .inl (fun _ => 0))), ((u2 21), .inr (4, [.ref (u2 22), .int 0])), ((u2 22), .inl (aC 0, 64, .inl (fun _ => 0))), ((u2 23), .inl (aC 4, 2, .inr (.inr (.inr (.inr (va_up (va_up (fun _ => none) (0 : Int32).toNatClampNeg (some (u2 24))) (1 : Int32).toNatClampNeg (some (u2 27)))))))), ((u2 24), .inr (2, [.ref (u2 25), .int 0])), ((u2 25), .inr (4, [.ref (u2 26), .int 0])), ((u2 26), .inl (aC 0, 64, .inl (fun _ => 0))), ((u2 27), .inr (2, [.ref (u2 28), .int 0])), ((u2 28), .inr (4, [.ref (u2 29), .int 0])), ((u2 29), .inl (aC 0, 64, .inl (fun _ => 0))), ((u2 30), .inr (5, [.ref (u2 31), .int 0])), ((u2 31), .inl (aC 0, 120, .inl (fun _ => 0))), ((u2 32), .inr (3, [.int (-1000000001), .int (-1000000001), .int 0, .int (-1000000001), .int 1])), ((u2 33), .inr (0, [.long 0, .long 0])), ((u2 34), .inr (0, [.long 0, .long 0])), (q8_3, .inr (6, [.null, .null, .null, .null, .null, .null, .null, .null, .null]))] H := hP
  have hD : va_D (fun q : Nat => s.heap.size ≤ q) [(q0_1, .inr (6, [.ref (u2 0), .ref (u2 2), .ref (u2 4), .ref (u2 5), .ref (u2 23), .ref (u2 30), .ref (u2 32), .ref (u2 33), .ref (u2 34)])), ((u2 0), .inr (4, [.ref (u2 1), .int 0])), ((u2 1), .inl (aC 0, 64, .inl (fun _ => 0))), ((u2 2), .inr (4, [.ref (u2 3), .int 0])), ((u2 3), .inl (aC 0, 64, .inl (fun _ => 0))), ((u2 4), .inl (aC 1, 64, .inr (.inl (fun _ => 0)))), ((u2 5), .inr (1, [.ref (u2 6), .int 0, .int 0])), ((u2 6), .inl (aC 3, 8, .inr (.inr (.inr (.inr (va_up (va_up (va_up (va_up (va_up (va_up (va_up (va_up (fun _ => none) (0 : Int32).toNatClampNeg (some (u2 7))) (1 : Int32).toNatClampNeg (some (u2 9))) (2 : Int32).toNatClampNeg (some (u2 11))) (3 : Int32).toNatClampNeg (some (u2 13))) (4 : Int32).toNatClampNeg (some (u2 15))) (5 : Int32).toNatClampNeg (some (u2 17))) (6 : Int32).toNatClampNeg (some (u2 19))) (7 : Int32).toNatClampNeg (some (u2 21)))))))), ((u2 7), .inr (4, [.ref (u2 8), .int 0])), ((u2 8), .inl (aC 0, 64, .inl (fun _ => 0))), ((u2 9), .inr (4, [.ref (u2 10), .int 0])), ((u2 10), .inl (aC 0, 64, .inl (fun _ => 0))), ((u2 11), .inr (4, [.ref (u2 12), .int 0])), ((u2 12), .inl (aC 0, 64, .inl (fun _ => 0))), ((u2 13), .inr (4, [.ref (u2 14), .int 0])), ((u2 14), .inl (aC 0, 64, .inl (fun _ => 0))), ((u2 15), .inr (4, [.ref (u2 16), .int 0])), ((u2 16), .inl (aC 0, 64, .inl (fun _ => 0))), ((u2 17), .inr (4, [.ref (u2 18), .int 0])), ((u2 18), .inl (aC 0, 64, .inl (fun _ => 0))), ((u2 19), .inr (4, [.ref (u2 20), .int 0])), ((u2 20), .inl (aC 0, 64, .inl (fun _ => 0))), ((u2 21), .inr (4, [.ref (u2 22), .int 0])), ((u2 22), .inl (aC 0, 64, .inl (fun _ => 0))), ((u2 23), .inl (aC 4, 2, .inr (.inr (.inr (.inr (va_up (va_up (fun _ => none) (0 : Int32).toNatClampNeg (some (u2 24))) (1 : Int32).toNatClampNeg (some (u2 27)))))))), ((u2 24), .inr (2, [.ref (u2 25), .int 0])), ((u2 25), .inr (4, [.ref (u2 26), .int 0])), ((u2 26), .inl (aC 0, 64, .inl (fun _ => 0))), ((u2 27), .inr (2, [.ref (u2 28), .int 0])), ((u2 28), .inr (4, [.ref (u2 29), .int 0])), ((u2 29), .inl (aC 0, 64, .inl (fun _ => 0))), ((u2 30), .inr (5, [.ref (u2 31), .int 0])), ((u2 31), .inl (aC 0, 120, .inl (fun _ => 0))), ((u2 32), .inr (3, [.int (-1000000001), .int (-1000000001), .int 0, .int (-1000000001), .int 1])), ((u2 33), .inr (0, [.long 0, .long 0])), ((u2 34), .inr (0, [.long 0, .long 0])), (q8_3, .inr (6, [.null, .null, .null, .null, .null, .null, .null, .null, .null]))] := hD
  refine W.widen (k := 37) (n := 1022) (by omega) (by omega) ?_
  refine lv_dup hx hb dL_law_11 rfl ?_
  have hPc := hP.sub (ws' := [(q8_3, .inr (6, [.null, .null, .null, .null, .null, .null, .null, .null, .null]))]) [36] rfl
  have hDc := hD.sub (ws' := [(q8_3, .inr (6, [.null, .null, .null, .null, .null, .null, .null, .null, .null]))]) [36] (by decide) rfl
  have hFc := va_free (wc := [(q8_3, .inr (6, [.null, .null, .null, .null, .null, .null, .null, .null, .null]))]) hD hS hA [36] rfl
  refine va_callv (va_runI (As := []) (rest := [.ref q8_3]) ⟨hx, hb, hml, hown, hq⟩ (c6_init l dC dI aC q8_3 H.size) (cwI 0 hq (kG kw_73) rfl rfl rfl (hq _ kw_72) (hq _ kw_75) (hq _ kw_74) rfl (by decide +kernel) ⟨Nat.le_of_ble_eq_true rfl, Nat.le_of_ble_eq_true rfl⟩) ⟨fun a U g mk q => ⟨q.1, q.2.1, q.2.2.1, q.2.2.2.1.same rfl, q.2.2.2.2⟩, fun U hU hW => ⟨rfl, by rw [hU], by rw [hU]; exact hPc, hKC.warm hW, hDc.weaken (fun _ _ _ _ => trivial)⟩⟩ rfl rfl hl.1 rfl (lv_room (Nat.le_of_ble_eq_true rfl)) dL_law_12 ⟨Nat.le_of_ble_eq_true rfl, Nat.le_of_ble_eq_true rfl⟩) hS (fun q _ h => hFc q h) hFc (fun u4 t H1 locs ht hvm hw hB hz1 hk1 hS => ?_)
  obtain ⟨hP1, hD1⟩ := hB
  rw [ht] at hP1
  obtain ⟨hP, hD⟩ := va_join (wr := [(q0_1, .inr (6, [.ref (u2 0), .ref (u2 2), .ref (u2 4), .ref (u2 5), .ref (u2 23), .ref (u2 30), .ref (u2 32), .ref (u2 33), .ref (u2 34)])), ((u2 0), .inr (4, [.ref (u2 1), .int 0])), ((u2 1), .inl (aC 0, 64, .inl (fun _ => 0))), ((u2 2), .inr (4, [.ref (u2 3), .int 0])), ((u2 3), .inl (aC 0, 64, .inl (fun _ => 0))), ((u2 4), .inl (aC 1, 64, .inr (.inl (fun _ => 0)))), ((u2 5), .inr (1, [.ref (u2 6), .int 0, .int 0])), ((u2 6), .inl (aC 3, 8, .inr (.inr (.inr (.inr (va_up (va_up (va_up (va_up (va_up (va_up (va_up (va_up (fun _ => none) (0 : Int32).toNatClampNeg (some (u2 7))) (1 : Int32).toNatClampNeg (some (u2 9))) (2 : Int32).toNatClampNeg (some (u2 11))) (3 : Int32).toNatClampNeg (some (u2 13))) (4 : Int32).toNatClampNeg (some (u2 15))) (5 : Int32).toNatClampNeg (some (u2 17))) (6 : Int32).toNatClampNeg (some (u2 19))) (7 : Int32).toNatClampNeg (some (u2 21)))))))), ((u2 7), .inr (4, [.ref (u2 8), .int 0])), ((u2 8), .inl (aC 0, 64, .inl (fun _ => 0))), ((u2 9), .inr (4, [.ref (u2 10), .int 0])), ((u2 10), .inl (aC 0, 64, .inl (fun _ => 0))), ((u2 11), .inr (4, [.ref (u2 12), .int 0])), ((u2 12), .inl (aC 0, 64, .inl (fun _ => 0))), ((u2 13), .inr (4, [.ref (u2 14), .int 0])), ((u2 14), .inl (aC 0, 64, .inl (fun _ => 0))), ((u2 15), .inr (4, [.ref (u2 16), .int 0])), ((u2 16), .inl (aC 0, 64, .inl (fun _ => 0))), ((u2 17), .inr (4, [.ref (u2 18), .int 0])), ((u2 18), .inl (aC 0, 64, .inl (fun _ => 0))), ((u2 19), .inr (4, [.ref (u2 20), .int 0])), ((u2 20), .inl (aC 0, 64, .inl (fun _ => 0))), ((u2 21), .inr (4, [.ref (u2 22), .int 0])), ((u2 22), .inl (aC 0, 64, .inl (fun _ => 0))), ((u2 23), .inl (aC 4, 2, .inr (.inr (.inr (.inr (va_up (va_up (fun _ => none) (0 : Int32).toNatClampNeg (some (u2 24))) (1 : Int32).toNatClampNeg (some (u2 27)))))))), ((u2 24), .inr (2, [.ref (u2 25), .int 0])), ((u2 25), .inr (4, [.ref (u2 26), .int 0])), ((u2 26), .inl (aC 0, 64, .inl (fun _ => 0))), ((u2 27), .inr (2, [.ref (u2 28), .int 0])), ((u2 28), .inr (4, [.ref (u2 29), .int 0])), ((u2 29), .inl (aC 0, 64, .inl (fun _ => 0))), ((u2 30), .inr (5, [.ref (u2 31), .int 0])), ((u2 31), .inl (aC 0, 120, .inl (fun _ => 0))), ((u2 32), .inr (3, [.int (-1000000001), .int (-1000000001), .int 0, .int (-1000000001), .int 1])), ((u2 33), .inr (0, [.long 0, .long 0])), ((u2 34), .inr (0, [.long 0, .long 0]))]) (w1 := [(q8_3, .inr (6, [.ref (u4 0), .ref (u4 2), .ref (u4 4), .ref (u4 5), .ref (u4 23), .ref (u4 30), .ref (u4 32), .ref (u4 33), .ref (u4 34)])), ((u4 0), .inr (4, [.ref (u4 1), .int 0])), ((u4 1), .inl (aC 0, 64, .inl (fun _ => 0))), ((u4 2), .inr (4, [.ref (u4 3), .int 0])), ((u4 3), .inl (aC 0, 64, .inl (fun _ => 0))), ((u4 4), .inl (aC 1, 64, .inr (.inl (fun _ => 0)))), ((u4 5), .inr (1, [.ref (u4 6), .int 0, .int 0])), ((u4 6), .inl (aC 3, 8, .inr (.inr (.inr (.inr (va_up (va_up (va_up (va_up (va_up (va_up (va_up (va_up (fun _ => none) (0 : Int32).toNatClampNeg (some (u4 7))) (1 : Int32).toNatClampNeg (some (u4 9))) (2 : Int32).toNatClampNeg (some (u4 11))) (3 : Int32).toNatClampNeg (some (u4 13))) (4 : Int32).toNatClampNeg (some (u4 15))) (5 : Int32).toNatClampNeg (some (u4 17))) (6 : Int32).toNatClampNeg (some (u4 19))) (7 : Int32).toNatClampNeg (some (u4 21)))))))), ((u4 7), .inr (4, [.ref (u4 8), .int 0])), ((u4 8), .inl (aC 0, 64, .inl (fun _ => 0))), ((u4 9), .inr (4, [.ref (u4 10), .int 0])), ((u4 10), .inl (aC 0, 64, .inl (fun _ => 0))), ((u4 11), .inr (4, [.ref (u4 12), .int 0])), ((u4 12), .inl (aC 0, 64, .inl (fun _ => 0))), ((u4 13), .inr (4, [.ref (u4 14), .int 0])), ((u4 14), .inl (aC 0, 64, .inl (fun _ => 0))), ((u4 15), .inr (4, [.ref (u4 16), .int 0])), ((u4 16), .inl (aC 0, 64, .inl (fun _ => 0))), ((u4 17), .inr (4, [.ref (u4 18), .int 0])), ((u4 18), .inl (aC 0, 64, .inl (fun _ => 0))), ((u4 19), .inr (4, [.ref (u4 20), .int 0])), ((u4 20), .inl (aC 0, 64, .inl (fun _ => 0))), ((u4 21), .inr (4, [.ref (u4 22), .int 0])), ((u4 22), .inl (aC 0, 64, .inl (fun _ => 0))), ((u4 23), .inl (aC 4, 2, .inr (.inr (.inr (.inr (va_up (va_up (fun _ => none) (0 : Int32).toNatClampNeg (some (u4 24))) (1 : Int32).toNatClampNeg (some (u4 27)))))))), ((u4 24), .inr (2, [.ref (u4 25), .int 0])), ((u4 25), .inr (4, [.ref (u4 26), .int 0])), ((u4 26), .inl (aC 0, 64, .inl (fun _ => 0))), ((u4 27), .inr (2, [.ref (u4 28), .int 0])), ((u4 28), .inr (4, [.ref (u4 29), .int 0])), ((u4 29), .inl (aC 0, 64, .inl (fun _ => 0))), ((u4 30), .inr (5, [.ref (u4 31), .int 0])), ((u4 31), .inl (aC 0, 120, .inl (fun _ => 0))), ((u4 32), .inr (3, [.int (-1000000001), .int (-1000000001), .int 0, .int (-1000000001), .int 1])), ((u4 33), .inr (0, [.long 0, .long 0])), ((u4 34), .inr (0, [.long 0, .long 0]))]) hP hD [36] [0, 1, 2, 3, 4, 5, 6, 7, 8, 9, 10, 11, 12, 13, 14, 15, 16, 17, 18, 19, 20, 21, 22, 23, 24, 25, 26, 27, 28, 29, 30, 31, 32, 33, 34, 35] rfl rfl (by decide) (by decide) hk1 hFc hP1 hD1
  generalize H1 = H at hP hS ⊢
  have hP : va_P (dC, dI) vwCl [(q0_1, .inr (6, [.ref (u2 0), .ref (u2 2), .ref (u2 4), .ref (u2 5), .ref (u2 23), .ref (u2 30), .ref (u2 32), .ref (u2 33), .ref (u2 34)])), ((u2 0), .inr (4, [.ref (u2 1), .int 0])), ((u2 1), .inl (aC 0, 64, .inl (fun _ => 0))), ((u2 2), .inr (4, [.ref (u2 3), .int 0])), ((u2 3), .inl (aC 0, 64, .inl (fun _ => 0))), ((u2 4), .inl (aC 1, 64, .inr (.inl (fun _ => 0)))), ((u2 5), .inr (1, [.ref (u2 6), .int 0, .int 0])), ((u2 6), .inl (aC 3, 8, .inr (.inr (.inr (.inr (va_up (va_up (va_up (va_up (va_up (va_up (va_up (va_up (fun _ => none) (0 : Int32).toNatClampNeg (some (u2 7))) (1 : Int32).toNatClampNeg (some (u2 9))) (2 : Int32).toNatClampNeg (some (u2 11))) (3 : Int32).toNatClampNeg (some (u2 13))) (4 : Int32).toNatClampNeg (some (u2 15))) (5 : Int32).toNatClampNeg (some (u2 17))) (6 : Int32).toNatClampNeg (some (u2 19))) (7 : Int32).toNatClampNeg (some (u2 21)))))))), ((u2 7), .inr (4, [.ref (u2 8), .int 0])), ((u2 8), .inl (aC 0, 64, .inl (fun _ => 0))), ((u2 9), .inr (4, [.ref (u2 10), .int 0])), ((u2 10), .inl (aC 0, 64, .inl (fun _ => 0))), ((u2 11), .inr (4, [.ref (u2 12), .int 0])), ((u2 12), .inl (aC 0, 64, .inl (fun _ => 0))), ((u2 13), .inr (4, [.ref (u2 14), .int 0])), ((u2 14), .inl (aC 0, 64, .inl (fun _ => 0))), ((u2 15), .inr (4, [.ref (u2 16), .int 0])), ((u2 16), .inl (aC 0, 64, .inl (fun _ => 0))), ((u2 17), .inr (4, [.ref (u2 18), .int 0])), ((u2 18), .inl (aC 0, 64, .inl (fun _ => 0))), ((u2 19), .inr (4, [.ref (u2 20), .int 0])), ((u2 20), .inl (aC 0, 64, .inl (fun _ => 0))), ((u2 21), .inr (4, [.ref (u2 22), .int 0])), ((u2 22), .inl (aC 0, 64, .inl (fun _ => 0))), ((u2 23), .inl (aC 4, 2, .inr (.inr (.inr (.inr (va_up (va_up (fun _ => none) (0 : Int32).toNatClampNeg (some (u2 24))) (1 : Int32).toNatClampNeg (some (u2 27)))))))), ((u2 24), .inr (2, [.ref (u2 25), .int 0])), ((u2 25), .inr (4, [.ref (u2 26), .int 0])), ((u2 26), .inl (aC 0, 64, .inl (fun _ => 0))), ((u2 27), .inr (2, [.ref (u2 28), .int 0])), ((u2 28), .inr (4, [.ref (u2 29), .int 0])), ((u2 29), .inl (aC 0, 64, .inl (fun _ => 0))), ((u2 30), .inr (5, [.ref (u2 31), .int 0])), ((u2 31), .inl (aC 0, 120, .inl (fun _ => 0))), ((u2 32), .inr (3, [.int (-1000000001), .int (-1000000001), .int 0, .int (-1000000001), .int 1])), ((u2 33), .inr (0, [.long 0, .long 0])), ((u2 34), .inr (0, [.long 0, .long 0])), (q8_3, .inr (6, [.ref (u4 0), .ref (u4 2), .ref (u4 4), .ref (u4 5), .ref (u4 23), .ref (u4 30), .ref (u4 32), .ref (u4 33), .ref (u4 34)])), ((u4 0), .inr (4, [.ref (u4 1), .int 0])), ((u4 1), .inl (aC 0, 64, .inl (fun _ => 0))), ((u4 2), .inr (4, [.ref (u4 3), .int 0])), ((u4 3), .inl (aC 0, 64, .inl (fun _ => 0))), ((u4 4), .inl (aC 1, 64, .inr (.inl (fun _ => 0)))), ((u4 5), .inr (1, [.ref (u4 6), .int 0, .int 0])), ((u4 6), .inl (aC 3, 8, .inr (.inr (.inr (.inr (va_up (va_up (va_up (va_up (va_up (va_up (va_up (va_up (fun _ => none) (0 : Int32).toNatClampNeg (some (u4 7))) (1 : Int32).toNatClampNeg (some (u4 9))) (2 : Int32).toNatClampNeg (some (u4 11))) (3 : Int32).toNatClampNeg (some (u4 13))) (4 : Int32).toNatClampNeg (some (u4 15))) (5 : Int32).toNatClampNeg (some (u4 17))) (6 : Int32).toNatClampNeg (some (u4 19))) (7 : Int32).toNatClampNeg (some (u4 21)))))))), ((u4 7), .inr (4, [.ref (u4 8), .int 0])), ((u4 8), .inl (aC 0, 64, .inl (fun _ => 0))), ((u4 9), .inr (4, [.ref (u4 10), .int 0])), ((u4 10), .inl (aC 0, 64, .inl (fun _ => 0))), ((u4 11), .inr (4, [.ref (u4 12), .int 0])), ((u4 12), .inl (aC 0, 64, .inl (fun _ => 0))), ((u4 13), .inr (4, [.ref (u4 14), .int 0])), ((u4 14), .inl (aC 0, 64, .inl (fun _ => 0))), ((u4 15), .inr (4, [.ref (u4 16), .int 0])), ((u4 16), .inl (aC 0, 64, .inl (fun _ => 0))), ((u4 17), .inr (4, [.ref (u4 18), .int 0])), ((u4 18), .inl (aC 0, 64, .inl (fun _ => 0))), ((u4 19), .inr (4, [.ref (u4 20), .int 0])), ((u4 20), .inl (aC 0, 64, .inl (fun _ => 0))), ((u4 21), .inr (4, [.ref (u4 22), .int 0])), ((u4 22), .inl (aC 0, 64, .inl (fun _ => 0))), ((u4 23), .inl (aC 4, 2, .inr (.inr (.inr (.inr (va_up (va_up (fun _ => none) (0 : Int32).toNatClampNeg (some (u4 24))) (1 : Int32).toNatClampNeg (some (u4 27)))))))), ((u4 24), .inr (2, [.ref (u4 25), .int 0])), ((u4 25), .inr (4, [.ref (u4 26), .int 0])), ((u4 26), .inl (aC 0, 64, .inl (fun _ => 0))), ((u4 27), .inr (2, [.ref (u4 28), .int 0])), ((u4 28), .inr (4, [.ref (u4 29), .int 0])), ((u4 29), .inl (aC 0, 64, .inl (fun _ => 0))), ((u4 30), .inr (5, [.ref (u4 31), .int 0])), ((u4 31), .inl (aC 0, 120, .inl (fun _ => 0))), ((u4 32), .inr (3, [.int (-1000000001), .int (-1000000001), .int 0, .int (-1000000001), .int 1])), ((u4 33), .inr (0, [.long 0, .long 0])), ((u4 34), .inr (0, [.long 0, .long 0]))] H := hP
  have hD : va_D (fun q : Nat => s.heap.size ≤ q) [(q0_1, .inr (6, [.ref (u2 0), .ref (u2 2), .ref (u2 4), .ref (u2 5), .ref (u2 23), .ref (u2 30), .ref (u2 32), .ref (u2 33), .ref (u2 34)])), ((u2 0), .inr (4, [.ref (u2 1), .int 0])), ((u2 1), .inl (aC 0, 64, .inl (fun _ => 0))), ((u2 2), .inr (4, [.ref (u2 3), .int 0])), ((u2 3), .inl (aC 0, 64, .inl (fun _ => 0))), ((u2 4), .inl (aC 1, 64, .inr (.inl (fun _ => 0)))), ((u2 5), .inr (1, [.ref (u2 6), .int 0, .int 0])), ((u2 6), .inl (aC 3, 8, .inr (.inr (.inr (.inr (va_up (va_up (va_up (va_up (va_up (va_up (va_up (va_up (fun _ => none) (0 : Int32).toNatClampNeg (some (u2 7))) (1 : Int32).toNatClampNeg (some (u2 9))) (2 : Int32).toNatClampNeg (some (u2 11))) (3 : Int32).toNatClampNeg (some (u2 13))) (4 : Int32).toNatClampNeg (some (u2 15))) (5 : Int32).toNatClampNeg (some (u2 17))) (6 : Int32).toNatClampNeg (some (u2 19))) (7 : Int32).toNatClampNeg (some (u2 21)))))))), ((u2 7), .inr (4, [.ref (u2 8), .int 0])), ((u2 8), .inl (aC 0, 64, .inl (fun _ => 0))), ((u2 9), .inr (4, [.ref (u2 10), .int 0])), ((u2 10), .inl (aC 0, 64, .inl (fun _ => 0))), ((u2 11), .inr (4, [.ref (u2 12), .int 0])), ((u2 12), .inl (aC 0, 64, .inl (fun _ => 0))), ((u2 13), .inr (4, [.ref (u2 14), .int 0])), ((u2 14), .inl (aC 0, 64, .inl (fun _ => 0))), ((u2 15), .inr (4, [.ref (u2 16), .int 0])), ((u2 16), .inl (aC 0, 64, .inl (fun _ => 0))), ((u2 17), .inr (4, [.ref (u2 18), .int 0])), ((u2 18), .inl (aC 0, 64, .inl (fun _ => 0))), ((u2 19), .inr (4, [.ref (u2 20), .int 0])), ((u2 20), .inl (aC 0, 64, .inl (fun _ => 0))), ((u2 21), .inr (4, [.ref (u2 22), .int 0])), ((u2 22), .inl (aC 0, 64, .inl (fun _ => 0))), ((u2 23), .inl (aC 4, 2, .inr (.inr (.inr (.inr (va_up (va_up (fun _ => none) (0 : Int32).toNatClampNeg (some (u2 24))) (1 : Int32).toNatClampNeg (some (u2 27)))))))), ((u2 24), .inr (2, [.ref (u2 25), .int 0])), ((u2 25), .inr (4, [.ref (u2 26), .int 0])), ((u2 26), .inl (aC 0, 64, .inl (fun _ => 0))), ((u2 27), .inr (2, [.ref (u2 28), .int 0])), ((u2 28), .inr (4, [.ref (u2 29), .int 0])), ((u2 29), .inl (aC 0, 64, .inl (fun _ => 0))), ((u2 30), .inr (5, [.ref (u2 31), .int 0])), ((u2 31), .inl (aC 0, 120, .inl (fun _ => 0))), ((u2 32), .inr (3, [.int (-1000000001), .int (-1000000001), .int 0, .int (-1000000001), .int 1])), ((u2 33), .inr (0, [.long 0, .long 0])), ((u2 34), .inr (0, [.long 0, .long 0])), (q8_3, .inr (6, [.ref (u4 0), .ref (u4 2), .ref (u4 4), .ref (u4 5), .ref (u4 23), .ref (u4 30), .ref (u4 32), .ref (u4 33), .ref (u4 34)])), ((u4 0), .inr (4, [.ref (u4 1), .int 0])), ((u4 1), .inl (aC 0, 64, .inl (fun _ => 0))), ((u4 2), .inr (4, [.ref (u4 3), .int 0])), ((u4 3), .inl (aC 0, 64, .inl (fun _ => 0))), ((u4 4), .inl (aC 1, 64, .inr (.inl (fun _ => 0)))), ((u4 5), .inr (1, [.ref (u4 6), .int 0, .int 0])), ((u4 6), .inl (aC 3, 8, .inr (.inr (.inr (.inr (va_up (va_up (va_up (va_up (va_up (va_up (va_up (va_up (fun _ => none) (0 : Int32).toNatClampNeg (some (u4 7))) (1 : Int32).toNatClampNeg (some (u4 9))) (2 : Int32).toNatClampNeg (some (u4 11))) (3 : Int32).toNatClampNeg (some (u4 13))) (4 : Int32).toNatClampNeg (some (u4 15))) (5 : Int32).toNatClampNeg (some (u4 17))) (6 : Int32).toNatClampNeg (some (u4 19))) (7 : Int32).toNatClampNeg (some (u4 21)))))))), ((u4 7), .inr (4, [.ref (u4 8), .int 0])), ((u4 8), .inl (aC 0, 64, .inl (fun _ => 0))), ((u4 9), .inr (4, [.ref (u4 10), .int 0])), ((u4 10), .inl (aC 0, 64, .inl (fun _ => 0))), ((u4 11), .inr (4, [.ref (u4 12), .int 0])), ((u4 12), .inl (aC 0, 64, .inl (fun _ => 0))), ((u4 13), .inr (4, [.ref (u4 14), .int 0])), ((u4 14), .inl (aC 0, 64, .inl (fun _ => 0))), ((u4 15), .inr (4, [.ref (u4 16), .int 0])), ((u4 16), .inl (aC 0, 64, .inl (fun _ => 0))), ((u4 17), .inr (4, [.ref (u4 18), .int 0])), ((u4 18), .inl (aC 0, 64, .inl (fun _ => 0))), ((u4 19), .inr (4, [.ref (u4 20), .int 0])), ((u4 20), .inl (aC 0, 64, .inl (fun _ => 0))), ((u4 21), .inr (4, [.ref (u4 22), .int 0])), ((u4 22), .inl (aC 0, 64, .inl (fun _ => 0))), ((u4 23), .inl (aC 4, 2, .inr (.inr (.inr (.inr (va_up (va_up (fun _ => none) (0 : Int32).toNatClampNeg (some (u4 24))) (1 : Int32).toNatClampNeg (some (u4 27)))))))), ((u4 24), .inr (2, [.ref (u4 25), .int 0])), ((u4 25), .inr (4, [.ref (u4 26), .int 0])), ((u4 26), .inl (aC 0, 64, .inl (fun _ => 0))), ((u4 27), .inr (2, [.ref (u4 28), .int 0])), ((u4 28), .inr (4, [.ref (u4 29), .int 0])), ((u4 29), .inl (aC 0, 64, .inl (fun _ => 0))), ((u4 30), .inr (5, [.ref (u4 31), .int 0])), ((u4 31), .inl (aC 0, 120, .inl (fun _ => 0))), ((u4 32), .inr (3, [.int (-1000000001), .int (-1000000001), .int 0, .int (-1000000001), .int 1])), ((u4 33), .inr (0, [.long 0, .long 0])), ((u4 34), .inr (0, [.long 0, .long 0]))] := hD
  refine W.widen (k := 72) (n := 2026) (by omega) (by omega) ?_
  refine lv_astore_n (lv' := [(2, .ref q8_3), (1, .ref q0_1), (0, .ref b)]) hx hb dL_law_15 rfl hl (by decide) rfl (fun ls hl => ?_)
  refine lv_iconst (v := 0) hx hb dL_law_16 (by decide) ?_
  refine lv_istore_n (lv' := [(3, .int 0), (2, .ref q8_3), (1, .ref q0_1), (0, .ref b)]) hx hb dL_law_17 rfl hl (by decide) rfl (fun ls hl => ?_)
  obtain ⟨ad, had⟩ : ∃ ad, ad = xad q0_1 u2 q8_3 u4 b := ⟨_, rfl⟩
  have hP2 := ((((hP.re (k := 7) (g := fun j => some (ad (rf 7 j))) rfl (fun j hj => by
    subst had
    rcases (show j = 0 ∨ j = 1 ∨ j = 2 ∨ j = 3 ∨ j = 4 ∨ j = 5 ∨ j = 6 ∨ j = 7 by omega) with rfl | rfl | rfl | rfl | rfl | rfl | rfl | rfl <;> rfl)).re (k := 24) (g := fun j => some (ad (rf 24 j))) rfl (fun j hj => by
    subst had
    rcases (show j = 0 ∨ j = 1 by omega) with rfl | rfl <;> rfl)).re (k := 43) (g := fun j => some (ad (rf 43 j))) rfl (fun j hj => by
    subst had
    rcases (show j = 0 ∨ j = 1 ∨ j = 2 ∨ j = 3 ∨ j = 4 ∨ j = 5 ∨ j = 6 ∨ j = 7 by omega) with rfl | rfl | rfl | rfl | rfl | rfl | rfl | rfl <;> rfl)).re (k := 60) (g := fun j => some (ad (rf 60 j))) rfl (fun j hj => by
    subst had
    rcases (show j = 0 ∨ j = 1 by omega) with rfl | rfl <;> rfl))
  have hD2 := ((((hD.set (p := 7) (e := .inl (aC 3, 8, .inr (.inr (.inr (.inr (fun j => some (ad (rf 7 j)))))))) rfl).set (p := 24) (e := .inl (aC 4, 2, .inr (.inr (.inr (.inr (fun j => some (ad (rf 24 j)))))))) rfl).set (p := 43) (e := .inl (aC 3, 8, .inr (.inr (.inr (.inr (fun j => some (ad (rf 43 j)))))))) rfl).set (p := 60) (e := .inl (aC 4, 2, .inr (.inr (.inr (.inr (fun j => some (ad (rf 60 j)))))))) rfl)
  have hPw : va_P (dC, dI) vwCl (wl ad aC xM0) H := by
    subst had
    exact hP2
  have hDw : va_D (fun q : Nat => s.heap.size ≤ q) (wl ad aC xM0) := by
    subst had
    exact hD2
  have hAd : qAd ad b := ⟨fun i j hi hj e => hDw.1 i j _ _ (wl_get hi) (wl_get hj) e, fun k hk e => by
    have h := hDw.2 k _ (wl_get hk)
    have h2 : s.heap.size ≤ ad k := h
    rw [e] at h2
    exact absurd hbl (Nat.not_lt.mpr h2), by subst had; rfl⟩
  have hlo : ∀ k, k < 72 → s.heap.size ≤ ad k := fun k hk => hDw.2 k _ (wl_get hk)
  have e0 : ad 0 = q0_1 := by subst had; rfl
  have e36 : ad 36 = q8_3 := by subst had; rfl
  have hl2 : lv_has ls (mL 81) (trL ad [(0, .ref 1000), (1, .ref 0), (2, .ref 36), (3, .int (iI 0))]) := by
    have e : trL ad [(0, .ref 1000), (1, .ref 0), (2, .ref 36), (3, .int (iI 0))] = [(0, .ref b), (1, .ref q0_1), (2, .ref q8_3), (3, .int 0)] := by
      rw [← e0, ← e36, ← hAd.2.2]
      rfl
    rw [e]
    exact lv_sub hl [3, 2, 1, 0] rfl
  have hrun := law_loop (qGood_PM (l := l) (dC := dC) (dI := dI) (aC := aC) (Ls := L) (xs := xs) hAd) (qGood_PM (l := l) (dC := dC) (dI := dI) (aC := aC) (Ls := L) (xs := xs) (qAd_sw hAd)) qTw_PM hL (Q := fun v _ => v = some (.int 1)) (fun _ => rfl) 40 0 xM0 xS0 (by omega) ⟨xCS1, xCS2⟩
  have e18 : pcA 81 10 = 18 := by decide +kernel
  refine va_forget (fun q hq => hS.2.2 q hq) ?_
  have hw := hrun p e room_1 s m #[Value.ref b] below meth c H [] 72 2026 ls (lw_Z below #[Value.ref b] s) ⟨hx, hb, hml, hown, hq, by decide +kernel, by decide +kernel, by decide, by decide, hSt⟩ hPw ⟨hS.1, fun q h1 h2 => hS.2.1 q h1 (fun z => absurd h1 (Nat.not_lt.mpr z)), fun q hq => absurd hq List.not_mem_nil⟩ hl2 ?_
  · rw [e18] at hw
    exact hw
  · intro v M' H' locs' ls' pc' hret hv hP' hS'
    subst hv
    refine va_forget (fun q hq => ?_) ?_
    · obtain ⟨k, hk, e⟩ := hS'.2.2 q hq
      rw [e]
      exact hlo k hk
    · refine W.widen (k := 600000) (n := 7302250) (Nat.le_of_ble_eq_true rfl) (Nat.le_of_ble_eq_true rfl) ?_
      exact lw_ret hx hb hr hlocks hret.1
set_option maxHeartbeats 4000000 in
theorem lw_walk (l : Launch) (hflags : l.flags = flags0) (b : Addr) (xs : List Int32) : MetFree l x (headSpec (Jvm.Cond.code x code maxLocals ret :: tables_1) room_1) (lw_P b xs) (fun _ _ _ _ _ => True) lw_Q := by
  refine MetFree.of_bodyS (code := code) (maxLocals := maxLocals) (ret := ret) (by decide) ?_ ?_
  · intro args s m h hn
    obtain ⟨meth, c, h1, h2, h3, h4, h5, h6, -, -⟩ := Cond.code_spec hn (atoms_spec (ws := Jvm.Cond.code x code maxLocals ret :: tables_1) h _ List.mem_cons_self)
    exact ⟨meth, c, h1, h2, h3, h4, h5, h6⟩
  · intro p e s m args below meth c s₁ B hml0 hP _
    obtain ⟨rfl, hx, hbd, hgv⟩ := hP
    obtain ⟨scr, harrAt, hlist, hof, hsmall⟩ := hx
    obtain ⟨hcb, hkn, -, -⟩ := State.arrayAt?_spec harrAt
    have hown : s.vm.findClass R_law = some m.cls := findClass_of_methodNamed B.named
    have hts0 : ∀ c ∈ (Jvm.Cond.code x code maxLocals ret :: tables_1), c.before #[Value.ref b] s = true := atoms_spec (ws := Jvm.Cond.code x code maxLocals ret :: tables_1) B.pre
    have hts : ∀ w ∈ lw_tbl, w.before #[Value.ref b] s = true := k2_hts_sels lw_privs (fun w hw => hts0 w (List.mem_cons_of_mem _ hw)) lw_privs_ok
    have hml : c.maxLocals = 7 := B.maxLocals_eq (hts0 _ List.mem_cons_self)
    have X₀ : Stand p l e room_1 s m #[Value.ref b] below meth c s₁ [] 0 0 := Stand.of_body B
    have hh0 : s₁.heap = s.heap := by rw [B.state]; rfl
    have hsz : scr.slots.size = xs.length := by rw [← Array.length_toList, hlist, List.length_map]
    have hval : ∀ j : Nat, j < xs.length → scr.slots[j]? = some (.int (xs.getD j 0)) := fun j hj => by
      rw [← Array.getElem?_toList, hlist]
      simp [hj]
    have hbl : b < s.heap.size := (Array.getElem?_eq_some_iff.mp hcb).1
    have hX : va_X b xs.length (fun j => xs.getD j 0) s s.heap := ⟨scr, hcb, hof, hkn, hsz, hval⟩
    have K : W p l e room_1 s m #[Value.ref b] below meth c s₁.heap [] 0 0 (lw_Z below #[Value.ref b] s) (entryFrame m ([Value.ref b] : List Value).toArray 7) := by
      rw [hh0]
      exact whole_start l hflags hbd ⟨B.exec, B.bytes, B.returns, hml, hown, hts, hX, hbl, B.notSynchronized, hgv⟩
    obtain ⟨t, a1, o, b1, b2, b3⟩ := K s₁ rfl X₀
    exact ⟨t, o, a1, b1, b2, b3⟩
theorem lw_pre_spec {args : Array Value} {s : State} (h : (Jvm.Cond.and given_1 narrow_1).before args s = true) (hr : rest_1_c.before args s = true) : ∃ (b : Addr) (xs : List Int32), lw_P b xs args s := by
  have hs := flat_of_before _ h
  have hq := flat_of_before _ hr
  have hc : (Cond.count 1).before args s = true := hs _ (by decide +kernel)
  have harr : (Cond.arrayOf (.arg 0) .int).before args s = true := hs _ (by decide +kernel)
  have hle : (Cond.le (.length (.arg 0)) (.int 260)).before args s = true := hs _ (by decide +kernel)
  have hlen : (Cond.isInt (.length (.arg 0))).before args s = true := hq _ (by decide +kernel)
  have hall : (Cond.all (.arg 0) (.isInt (.elem (.arg 0) (.index 0)))).before args s = true := hq _ (by decide +kernel)
  obtain ⟨b, xs, hb, hx⟩ := State.ints_of_pre rfl harr hlen hall
  have hsm : xs.length < 2 ^ 31 := hx.choose_spec.2.2.2
  have hev : (Term.length (.arg 0)).eval args s none [] s = some (.int xs.length.toInt32) := hx.length_eval hb
  have hv := Cond.le_ints hev (show (Term.int 260).eval args s none [] s = some (.int 260) from rfl)
  have hd : xs.length.toInt32 ≤ 260 := by
    simpa [Cond.before, Cond.holds, hv] using hle
  have hN : xs.length ≤ 260 := (Int32.ofNat_le_ofNat hsm (by decide)).mp (show Int32.ofNat xs.length ≤ Int32.ofNat 260 from hd)
  exact ⟨b, xs, Cond.one_arg hc (show args[0]? = some (.ref b) from hb), hx, hN, h⟩
theorem lw_comes (l : Launch) (hflags : l.flags = flags0) : Comes l x (Jvm.Cond.code x code maxLocals ret :: tables_1) room_1 (fun tb e args s => Calls_1 tb e args s ∧ rest_1 tb e args s ∧ Pre_1 tb e args s)
    (fun _ _ args s o t => lw_Q args s o t) := by
  intro p e ha hc hk s m args below hf hfit hheap happ hpre
  obtain ⟨b, xs, hP⟩ := lw_pre_spec hpre.2.2 hpre.2.1
  obtain ⟨k, o, h1, h2, h3, hQ⟩ := lw_walk l hflags b xs p e ha hc hk s m args below hf ((Spec.applies_iff_loose hf).mp happ).1 hP trivial
  exact ⟨k, o, h1, h2, h3, hQ⟩
theorem lw_frame {s t : State} {o : Outcome} {args : Array Value} (h : Framed s o t [] 600000 7302250) :
    Framed s o t (fieldLocs frame_1_writes args s ++ arrayLocs frame_1_arrays args s ++ staticLocs frame_1_statics s) 600000 7302250 := h
theorem lw_limb (L : Cond) (hL : ∀ (args : Array Value) (s t : State), L.after args s (.returned (some (.int 1))) t = true) :
    ArmFor flags0 classFile x code maxLocals ret World_1 tables_1 room_1 Calls_1 rest_1 Pre_1
      (fun tb e a s o t => postC L tb e a s o t ∧ Framed s o t (fieldLocs frame_1_writes a s ++ arrayLocs frame_1_arrays a s ++ staticLocs frame_1_statics s) 600000 7302250) := by
  intro l hflags _ _ p e ha hc hk s m args below hf hfit hheap happ hpre
  obtain ⟨k, o, h1, h2, h3, rfl, hF⟩ := lw_comes l hflags p e ha hc hk s m args below hf hfit hheap happ hpre
  exact ⟨k, _, h1, h2, h3, hL args s _, lw_frame hF⟩
theorem i_vc : Claimed_1_1 ∧ Claimed_1_2 := ⟨lw_limb limb_1_1 (fun args s t => by simp [limb_1_1, Cond.after, Cond.holds, Cond.value]), lw_limb limb_1_2 (fun args s t => Cond.after_iff.mpr (by
  first | (rw [show limb_1_2 = Cond.eq .result (.int 1) from rfl, Cond.eq_ints (x := 1) (y := 1) rfl rfl]; simp; done) | (simp [limb_1_2, Cond.value, Term.eval]; done)))⟩
