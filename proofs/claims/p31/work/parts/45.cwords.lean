/-! the constructors: words, rows, contracts (printed by wip/gencon.py) -/
def kWs (y : MethodName) (cc : ByteArray) (n : Nat) : List Cond := Cond.code y cc n none :: qT
theorem kG {y : MethodName} {cc : ByteArray} {n : Nat} (h : Cond.code y cc n none ∈ qT) : GoodIn qT (kWs y cc n) := fun w hw => by
  rcases List.mem_cons.mp hw with e | h2
  · rw [e]; exact qT_good _ h
  · exact qT_good _ h2
def kNst : List (String × Nat × MethodName) := [(RX6, 9, yX4_init), (RX6, 36, yX2_init), (RX6, 39, yX5_init), (RX6, 46, yX3_init), (RX6, 53, yX0_init), (RX1, 24, yX4_init), (RX2, 9, yX4_init)]
def kNw (t : String × Nat × MethodName) : Cond := .methodLinkNest t.1 t.2.1 t.2.2 "StabilityAnalyzer"
def kC (dC : Nat → ClassId) (dI : Nat → Nat → Nat) (aC : Nat → ClassId) (U : State) : Prop := va_K (dC, dI) vwCl (qTy aC) U ∧ va_AO RX4 U ∧ va_AO RX2 U ∧ ∀ t ∈ kNst, va_Nw (kNw t) U
section KC
variable {dC : Nat → ClassId} {dI : Nat → Nat → Nat} {aC : Nat → ClassId} {U V : State}
theorem kC.nst {t : String × Nat × MethodName} (h : kC dC dI aC U) (i : Nat) (hi : kNst[i]? = some t) : va_Nw (kNw t) U := h.2.2.2 t (List.mem_of_getElem? hi)
theorem kC.same (h : kC dC dI aC U) (hv : V.vm = U.vm) : kC dC dI aC V := by
  have hal : U.vm.Alike V.vm := by rw [hv]; exact Vm.Alike.refl _
  exact ⟨va_K.moved hal h.1, va_AO.moved hal h.2.1, va_AO.moved hal h.2.2.1, fun t ht => va_Nw.same rfl hv.symm (h.2.2.2 t ht)⟩
theorem kC.warm (h : kC dC dI aC U) (hW : U.WarmedH V.vm) : kC dC dI aC V := ⟨va_K.moved hW.alike h.1, va_AO.moved hW.alike h.2.1, va_AO.moved hW.alike h.2.2.1, fun t ht => va_Nw.warmM hW (h.2.2.2 t ht)⟩
end KC
theorem cw0 : ∀ w ∈ u_ws RX0 TX0 2, w ∈ qT := cls_w 0 (by decide)
theorem cw3 : ∀ w ∈ u_ws RX3 TX3 5, w ∈ qT := cls_w 3 (by decide)
theorem cw4 : ∀ w ∈ u_ws RX4 TX4 2, w ∈ qT := cls_w 4 (by decide)
theorem cw5 : ∀ w ∈ u_ws RX5 TX5 2, w ∈ qT := cls_w 5 (by decide)
theorem cw2 : ∀ w ∈ u_ws RX2 TX2 2, w ∈ qT := cls_w 2 (by decide)
theorem cw1 : ∀ w ∈ u_ws RX1 TX1 3, w ∈ qT := cls_w 1 (by decide)
theorem cw6 : ∀ w ∈ u_ws RX6 TX6 9, w ∈ qT := cls_w 6 (by decide)
section KN
variable {p : Program} {l : Launch} {e : Env} {R : Room} {s : State} {m : MethodId} {args : Array Value} {below : List Frame} {meth : Method} {c : Code} {H : Heap} {locs : List Loc} {cells slots : Nat} {Q : State → Prop}
variable {cc : ByteArray} {pc : Nat} {ls : Array Slot} {rest : List Value} {dC : Nat → ClassId} {dI : Nat → Nat → Nat} {aC : Nat → ClassId} {A : Nat → Prop} {ws : va_W} {H0 : Heap}
theorem k_newa (hexec : p.tables.exec = Jvm.exec) (hb : c.code = cc) {atype : ArrayType} {ty : FieldType} {t0 : Nat} (harr : (Cond.arrayClass (newarray.typeOf atype)).before args s = true) (hty : newarray.typeOf atype = ty) (hra : ∀ cA, va_RA s cA ty → s.vm.findClass ("[" ++ ty.toString) = some cA) (ht0 : (qTy aC)[t0]? = some (aC t0, ty)) (hK : va_K (dC, dI) vwCl (qTy aC) s) (hP : va_P (dC, dI) vwCl ws H) (hD : va_D A ws) (hS : va_S A H0 H locs) (hA : ∀ q, H0.size ≤ q → A q)
    {n : Int32} {N' : Nat} {x : (Nat → Int32) ⊕ ((Nat → Int64) ⊕ ((Nat → UInt32) ⊕ ((Nat → UInt64) ⊕ (Nat → Option Nat))))} (ha : ∀ cA : ClassId, vp_cell cA (N', x) = arrV cA N' (fun _ => defaultValue ty)) (hn : ¬ n < 0) (hN : n.toNatClampNeg = N') (hbytes : N' * componentBytes ty ≤ 536870912) (hcells : cells + 1 ≤ R.cells) (hslots : slots + N' ≤ R.slots) (hdg : decode cc pc = .ok (.newarray atype, 2))
    (kk : ∀ (q : Nat) (H1 : Heap), va_P (dC, dI) vwCl (ws ++ [(q, .inl (aC t0, N', x))]) H1 → va_D A (ws ++ [(q, .inl (aC t0, N', x))]) → va_S A H0 H1 locs →
      W p l e R s m args below meth c H1 locs (cells + 1) (slots + N') Q (F0 m (pc + 2) ls (.ref q :: rest))) : W p l e R s m args below meth c H locs cells slots Q (F0 m pc ls (.int n :: rest)) := by
  refine va_newa hexec hb harr hty hK hP hD hS hA (a0 := (N', x)) ha hn hN hbytes hcells hslots hdg (fun q cA H1 hK1 hP1 hD1 hS1 => ?_)
  have h5 : (qTy aC ++ [(cA, ty)])[5]? = some (cA, ty) := rfl
  have e1 := hra _ (hK1.2 5 _ h5).2
  have e2 := hra _ (hK.2 t0 _ ht0).2
  have e : cA = aC t0 := Option.some.inj (e1.symm.trans e2)
  subst e
  exact kk q H1 hP1 hD1 hS1
theorem k_newq (hexec : p.tables.exec = Jvm.exec) (hb : c.code = cc) {own C : String} {index t0 : Nat} (hown : s.vm.findClass own = some m.cls) (hclink : (Cond.classLink own index C).before args s = true) (hover : va_AO C s) (ht0 : (qTy aC)[t0]? = some (aC t0, .object C)) (hK : va_K (dC, dI) vwCl (qTy aC) s) (hP : va_P (dC, dI) vwCl ws H) (hD : va_D A ws) (hS : va_S A H0 H locs) (hA : ∀ q, H0.size ≤ q → A q)
    {n : Int32} {N' : Nat} (hn : ¬ n < 0) (hN : n.toNatClampNeg = N') (hbytes : N' * 4 ≤ 536870912) (hcells : cells + 1 ≤ R.cells) (hslots : slots + N' ≤ R.slots) (hdg : decode cc pc = .ok (.anewarray index, 3))
    (kk : ∀ (q : Nat) (H1 : Heap), va_P (dC, dI) vwCl (ws ++ [(q, .inl (aC t0, N', .inr (.inr (.inr (.inr (fun _ => none))))))]) H1 → va_D A (ws ++ [(q, .inl (aC t0, N', .inr (.inr (.inr (.inr (fun _ => none))))))]) → va_S A H0 H1 locs →
      W p l e R s m args below meth c H1 locs (cells + 1) (slots + N') Q (F0 m (pc + 3) ls (.ref q :: rest))) : W p l e R s m args below meth c H locs cells slots Q (F0 m pc ls (.int n :: rest)) := by
  refine va_newq hexec hb hown hclink hover hK hP hD hS hA hn hN hbytes hcells hslots hdg (fun q cA H1 hK1 hP1 hD1 hS1 => ?_)
  have h5 : (qTy aC ++ [(cA, FieldType.object C)])[5]? = some (cA, .object C) := rfl
  obtain ⟨-, -, -, -, -, -, e1⟩ := hK1.2 5 _ h5
  obtain ⟨-, -, -, -, -, -, e2⟩ := hK.2 t0 _ ht0
  have e : cA = aC t0 := Option.some.inj (e1.symm.trans e2)
  subst e
  exact kk q H1 hP1 hD1 hS1
end KN
theorem dX0_init_0 : decode cX0_init 0 = .ok (.aload_n 0, 1) := by decide +kernel
theorem dX0_init_1 : decode cX0_init 1 = .ok (.invokespecial 1, 3) := by decide +kernel
theorem dX0_init_4 : decode cX0_init 4 = .ok (.aload_n 0, 1) := by decide +kernel
theorem dX0_init_5 : decode cX0_init 5 = .ok (.lconst 0, 1) := by decide +kernel
theorem dX0_init_6 : decode cX0_init 6 = .ok (.putfield 7, 3) := by decide +kernel
theorem dX0_init_9 : decode cX0_init 9 = .ok (.aload_n 0, 1) := by decide +kernel
theorem dX0_init_10 : decode cX0_init 10 = .ok (.lconst 0, 1) := by decide +kernel
theorem dX0_init_11 : decode cX0_init 11 = .ok (.putfield 13, 3) := by decide +kernel
theorem dX0_init_14 : decode cX0_init 14 = .ok (.return_, 1) := by decide +kernel
theorem dX3_init_0 : decode cX3_init 0 = .ok (.aload_n 0, 1) := by decide +kernel
theorem dX3_init_1 : decode cX3_init 1 = .ok (.invokespecial 3, 3) := by decide +kernel
theorem dX3_init_4 : decode cX3_init 4 = .ok (.aload_n 0, 1) := by decide +kernel
theorem dX3_init_5 : decode cX3_init 5 = .ok (.ldc 9, 2) := by decide +kernel
theorem dX3_init_7 : decode cX3_init 7 = .ok (.putfield 10, 3) := by decide +kernel
theorem dX3_init_10 : decode cX3_init 10 = .ok (.aload_n 0, 1) := by decide +kernel
theorem dX3_init_11 : decode cX3_init 11 = .ok (.ldc 9, 2) := by decide +kernel
theorem dX3_init_13 : decode cX3_init 13 = .ok (.putfield 16, 3) := by decide +kernel
theorem dX3_init_16 : decode cX3_init 16 = .ok (.aload_n 0, 1) := by decide +kernel
theorem dX3_init_17 : decode cX3_init 17 = .ok (.iconst 0, 1) := by decide +kernel
theorem dX3_init_18 : decode cX3_init 18 = .ok (.putfield 19, 3) := by decide +kernel
theorem dX3_init_21 : decode cX3_init 21 = .ok (.aload_n 0, 1) := by decide +kernel
theorem dX3_init_22 : decode cX3_init 22 = .ok (.ldc 9, 2) := by decide +kernel
theorem dX3_init_24 : decode cX3_init 24 = .ok (.putfield 22, 3) := by decide +kernel
theorem dX3_init_27 : decode cX3_init 27 = .ok (.aload_n 0, 1) := by decide +kernel
theorem dX3_init_28 : decode cX3_init 28 = .ok (.iconst 1, 1) := by decide +kernel
theorem dX3_init_29 : decode cX3_init 29 = .ok (.putfield 25, 3) := by decide +kernel
theorem dX3_init_32 : decode cX3_init 32 = .ok (.return_, 1) := by decide +kernel
theorem dX4_init_0 : decode cX4_init 0 = .ok (.aload_n 0, 1) := by decide +kernel
theorem dX4_init_1 : decode cX4_init 1 = .ok (.invokespecial 3, 3) := by decide +kernel
theorem dX4_init_4 : decode cX4_init 4 = .ok (.aload_n 0, 1) := by decide +kernel
theorem dX4_init_5 : decode cX4_init 5 = .ok (.bipush 64, 2) := by decide +kernel
theorem dX4_init_7 : decode cX4_init 7 = .ok (.newarray .int, 2) := by decide +kernel
theorem dX4_init_9 : decode cX4_init 9 = .ok (.putfield 9, 3) := by decide +kernel
theorem dX4_init_12 : decode cX4_init 12 = .ok (.aload_n 0, 1) := by decide +kernel
theorem dX4_init_13 : decode cX4_init 13 = .ok (.iconst 0, 1) := by decide +kernel
theorem dX4_init_14 : decode cX4_init 14 = .ok (.putfield 15, 3) := by decide +kernel
theorem dX4_init_17 : decode cX4_init 17 = .ok (.return_, 1) := by decide +kernel
theorem dX5_init_0 : decode cX5_init 0 = .ok (.aload_n 0, 1) := by decide +kernel
theorem dX5_init_1 : decode cX5_init 1 = .ok (.invokespecial 3, 3) := by decide +kernel
theorem dX5_init_4 : decode cX5_init 4 = .ok (.aload_n 0, 1) := by decide +kernel
theorem dX5_init_5 : decode cX5_init 5 = .ok (.bipush 120, 2) := by decide +kernel
theorem dX5_init_7 : decode cX5_init 7 = .ok (.newarray .int, 2) := by decide +kernel
theorem dX5_init_9 : decode cX5_init 9 = .ok (.putfield 9, 3) := by decide +kernel
theorem dX5_init_12 : decode cX5_init 12 = .ok (.aload_n 0, 1) := by decide +kernel
theorem dX5_init_13 : decode cX5_init 13 = .ok (.iconst 0, 1) := by decide +kernel
theorem dX5_init_14 : decode cX5_init 14 = .ok (.putfield 15, 3) := by decide +kernel
theorem dX5_init_17 : decode cX5_init 17 = .ok (.return_, 1) := by decide +kernel
theorem dX2_init_0 : decode cX2_init 0 = .ok (.aload_n 0, 1) := by decide +kernel
theorem dX2_init_1 : decode cX2_init 1 = .ok (.invokespecial 1, 3) := by decide +kernel
theorem dX2_init_4 : decode cX2_init 4 = .ok (.aload_n 0, 1) := by decide +kernel
theorem dX2_init_5 : decode cX2_init 5 = .ok (.new 7, 3) := by decide +kernel
theorem dX2_init_8 : decode cX2_init 8 = .ok (.dup, 1) := by decide +kernel
theorem dX2_init_9 : decode cX2_init 9 = .ok (.invokespecial 9, 3) := by decide +kernel
theorem dX2_init_12 : decode cX2_init 12 = .ok (.putfield 10, 3) := by decide +kernel
theorem dX2_init_15 : decode cX2_init 15 = .ok (.aload_n 0, 1) := by decide +kernel
theorem dX2_init_16 : decode cX2_init 16 = .ok (.iconst 0, 1) := by decide +kernel
theorem dX2_init_17 : decode cX2_init 17 = .ok (.putfield 16, 3) := by decide +kernel
theorem dX2_init_20 : decode cX2_init 20 = .ok (.return_, 1) := by decide +kernel
theorem dX1_init_0 : decode cX1_init 0 = .ok (.aload_n 0, 1) := by decide +kernel
theorem dX1_init_1 : decode cX1_init 1 = .ok (.invokespecial 3, 3) := by decide +kernel
theorem dX1_init_4 : decode cX1_init 4 = .ok (.aload_n 0, 1) := by decide +kernel
theorem dX1_init_5 : decode cX1_init 5 = .ok (.bipush 8, 2) := by decide +kernel
theorem dX1_init_7 : decode cX1_init 7 = .ok (.anewarray 9, 3) := by decide +kernel
theorem dX1_init_10 : decode cX1_init 10 = .ok (.putfield 11, 3) := by decide +kernel
theorem dX1_init_13 : decode cX1_init 13 = .ok (.aload_n 0, 1) := by decide +kernel
theorem dX1_init_14 : decode cX1_init 14 = .ok (.iconst 0, 1) := by decide +kernel
theorem dX1_init_15 : decode cX1_init 15 = .ok (.putfield 17, 3) := by decide +kernel
theorem dX1_init_18 : decode cX1_init 18 = .ok (.aload_n 0, 1) := by decide +kernel
theorem dX1_init_19 : decode cX1_init 19 = .ok (.iconst 0, 1) := by decide +kernel
theorem dX1_init_20 : decode cX1_init 20 = .ok (.putfield 21, 3) := by decide +kernel
theorem dX1_init_23 : decode cX1_init 23 = .ok (.iconst 0, 1) := by decide +kernel
theorem dX1_init_24 : decode cX1_init 24 = .ok (.istore_n 1, 1) := by decide +kernel
theorem dX1_init_25 : decode cX1_init 25 = .ok (.iload_n 1, 1) := by decide +kernel
theorem dX1_init_26 : decode cX1_init 26 = .ok (.aload_n 0, 1) := by decide +kernel
theorem dX1_init_27 : decode cX1_init 27 = .ok (.getfield 11, 3) := by decide +kernel
theorem dX1_init_30 : decode cX1_init 30 = .ok (.arraylength, 1) := by decide +kernel
theorem dX1_init_31 : decode cX1_init 31 = .ok (.if_icmp .ge 22, 3) := by decide +kernel
theorem dX1_init_34 : decode cX1_init 34 = .ok (.aload_n 0, 1) := by decide +kernel
theorem dX1_init_35 : decode cX1_init 35 = .ok (.getfield 11, 3) := by decide +kernel
theorem dX1_init_38 : decode cX1_init 38 = .ok (.iload_n 1, 1) := by decide +kernel
theorem dX1_init_39 : decode cX1_init 39 = .ok (.new 9, 3) := by decide +kernel
theorem dX1_init_42 : decode cX1_init 42 = .ok (.dup, 1) := by decide +kernel
theorem dX1_init_43 : decode cX1_init 43 = .ok (.invokespecial 24, 3) := by decide +kernel
theorem dX1_init_46 : decode cX1_init 46 = .ok (.aastore, 1) := by decide +kernel
theorem dX1_init_47 : decode cX1_init 47 = .ok (.iinc 1 1, 3) := by decide +kernel
theorem dX1_init_50 : decode cX1_init 50 = .ok (.goto (-25), 3) := by decide +kernel
theorem dX1_init_53 : decode cX1_init 53 = .ok (.return_, 1) := by decide +kernel
theorem dX6_init_0 : decode cX6_init 0 = .ok (.aload_n 0, 1) := by decide +kernel
theorem dX6_init_1 : decode cX6_init 1 = .ok (.invokespecial 1, 3) := by decide +kernel
theorem dX6_init_4 : decode cX6_init 4 = .ok (.aload_n 0, 1) := by decide +kernel
theorem dX6_init_5 : decode cX6_init 5 = .ok (.new 7, 3) := by decide +kernel
theorem dX6_init_8 : decode cX6_init 8 = .ok (.dup, 1) := by decide +kernel
theorem dX6_init_9 : decode cX6_init 9 = .ok (.invokespecial 9, 3) := by decide +kernel
theorem dX6_init_12 : decode cX6_init 12 = .ok (.putfield 10, 3) := by decide +kernel
theorem dX6_init_15 : decode cX6_init 15 = .ok (.aload_n 0, 1) := by decide +kernel
theorem dX6_init_16 : decode cX6_init 16 = .ok (.new 7, 3) := by decide +kernel
theorem dX6_init_19 : decode cX6_init 19 = .ok (.dup, 1) := by decide +kernel
theorem dX6_init_20 : decode cX6_init 20 = .ok (.invokespecial 9, 3) := by decide +kernel
theorem dX6_init_23 : decode cX6_init 23 = .ok (.putfield 16, 3) := by decide +kernel
theorem dX6_init_26 : decode cX6_init 26 = .ok (.aload_n 0, 1) := by decide +kernel
theorem dX6_init_27 : decode cX6_init 27 = .ok (.bipush 64, 2) := by decide +kernel
theorem dX6_init_29 : decode cX6_init 29 = .ok (.newarray .long, 2) := by decide +kernel
theorem dX6_init_31 : decode cX6_init 31 = .ok (.putfield 19, 3) := by decide +kernel
theorem dX6_init_34 : decode cX6_init 34 = .ok (.aload_n 0, 1) := by decide +kernel
theorem dX6_init_35 : decode cX6_init 35 = .ok (.new 23, 3) := by decide +kernel
theorem dX6_init_38 : decode cX6_init 38 = .ok (.dup, 1) := by decide +kernel
theorem dX6_init_39 : decode cX6_init 39 = .ok (.invokespecial 25, 3) := by decide +kernel
theorem dX6_init_42 : decode cX6_init 42 = .ok (.putfield 26, 3) := by decide +kernel
theorem dX6_init_45 : decode cX6_init 45 = .ok (.aload_n 0, 1) := by decide +kernel
theorem dX6_init_46 : decode cX6_init 46 = .ok (.iconst 2, 1) := by decide +kernel
theorem dX6_init_47 : decode cX6_init 47 = .ok (.anewarray 30, 3) := by decide +kernel
theorem dX6_init_50 : decode cX6_init 50 = .ok (.putfield 32, 3) := by decide +kernel
theorem dX6_init_53 : decode cX6_init 53 = .ok (.iconst 0, 1) := by decide +kernel
theorem dX6_init_54 : decode cX6_init 54 = .ok (.istore_n 1, 1) := by decide +kernel
theorem dX6_init_55 : decode cX6_init 55 = .ok (.iload_n 1, 1) := by decide +kernel
theorem dX6_init_56 : decode cX6_init 56 = .ok (.aload_n 0, 1) := by decide +kernel
theorem dX6_init_57 : decode cX6_init 57 = .ok (.getfield 32, 3) := by decide +kernel
theorem dX6_init_60 : decode cX6_init 60 = .ok (.arraylength, 1) := by decide +kernel
theorem dX6_init_61 : decode cX6_init 61 = .ok (.if_icmp .ge 22, 3) := by decide +kernel
theorem dX6_init_64 : decode cX6_init 64 = .ok (.aload_n 0, 1) := by decide +kernel
theorem dX6_init_65 : decode cX6_init 65 = .ok (.getfield 32, 3) := by decide +kernel
theorem dX6_init_68 : decode cX6_init 68 = .ok (.iload_n 1, 1) := by decide +kernel
theorem dX6_init_69 : decode cX6_init 69 = .ok (.new 30, 3) := by decide +kernel
theorem dX6_init_72 : decode cX6_init 72 = .ok (.dup, 1) := by decide +kernel
theorem dX6_init_73 : decode cX6_init 73 = .ok (.invokespecial 36, 3) := by decide +kernel
theorem dX6_init_76 : decode cX6_init 76 = .ok (.aastore, 1) := by decide +kernel
theorem dX6_init_77 : decode cX6_init 77 = .ok (.iinc 1 1, 3) := by decide +kernel
theorem dX6_init_80 : decode cX6_init 80 = .ok (.goto (-25), 3) := by decide +kernel
theorem dX6_init_83 : decode cX6_init 83 = .ok (.aload_n 0, 1) := by decide +kernel
theorem dX6_init_84 : decode cX6_init 84 = .ok (.new 37, 3) := by decide +kernel
theorem dX6_init_87 : decode cX6_init 87 = .ok (.dup, 1) := by decide +kernel
theorem dX6_init_88 : decode cX6_init 88 = .ok (.invokespecial 39, 3) := by decide +kernel
theorem dX6_init_91 : decode cX6_init 91 = .ok (.putfield 40, 3) := by decide +kernel
theorem dX6_init_94 : decode cX6_init 94 = .ok (.aload_n 0, 1) := by decide +kernel
theorem dX6_init_95 : decode cX6_init 95 = .ok (.new 44, 3) := by decide +kernel
theorem dX6_init_98 : decode cX6_init 98 = .ok (.dup, 1) := by decide +kernel
theorem dX6_init_99 : decode cX6_init 99 = .ok (.invokespecial 46, 3) := by decide +kernel
theorem dX6_init_102 : decode cX6_init 102 = .ok (.putfield 47, 3) := by decide +kernel
theorem dX6_init_105 : decode cX6_init 105 = .ok (.aload_n 0, 1) := by decide +kernel
theorem dX6_init_106 : decode cX6_init 106 = .ok (.new 51, 3) := by decide +kernel
theorem dX6_init_109 : decode cX6_init 109 = .ok (.dup, 1) := by decide +kernel
theorem dX6_init_110 : decode cX6_init 110 = .ok (.invokespecial 53, 3) := by decide +kernel
theorem dX6_init_113 : decode cX6_init 113 = .ok (.putfield 54, 3) := by decide +kernel
theorem dX6_init_116 : decode cX6_init 116 = .ok (.aload_n 0, 1) := by decide +kernel
theorem dX6_init_117 : decode cX6_init 117 = .ok (.new 51, 3) := by decide +kernel
theorem dX6_init_120 : decode cX6_init 120 = .ok (.dup, 1) := by decide +kernel
theorem dX6_init_121 : decode cX6_init 121 = .ok (.invokespecial 53, 3) := by decide +kernel
theorem dX6_init_124 : decode cX6_init 124 = .ok (.putfield 58, 3) := by decide +kernel
theorem dX6_init_127 : decode cX6_init 127 = .ok (.return_, 1) := by decide +kernel
theorem kw_0 : Cond.methodLink RX0 1 objectInit ∈ qT := tbw_T (i := 123) (by decide +kernel) rfl
theorem kw_1 : Cond.instanceMethod objectInit ∈ qT := tbw_T (i := 28) (by decide +kernel) rfl
set_option maxRecDepth 100000 in
theorem kw_2 : Cond.code objectInit ⟨#[0xb1]⟩ 1 none ∈ qT := List.mem_filter.mpr ⟨List.mem_of_getElem? (i := 29) rfl, rfl⟩
theorem kw_3 : Cond.fieldLink RX0 7 "StabilityAnalyzer$Fraction" "numerator" "J" ∈ qT := tbw_T (i := 124) (by decide +kernel) rfl
theorem kw_4 : Cond.fieldLink RX0 13 "StabilityAnalyzer$Fraction" "denominator" "J" ∈ qT := tbw_T (i := 126) (by decide +kernel) rfl
theorem kw_5 : Cond.methodLink RX3 3 objectInit ∈ qT := tbw_T (i := 100) (by decide +kernel) rfl
theorem kw_6 : Cond.constant RX3 9 (-1000000001) ∈ qT := tbw_T (i := 101) (by decide +kernel) rfl
theorem kw_7 : Cond.fieldLink RX3 10 "StabilityAnalyzer$Loader" "faultKind" "I" ∈ qT := tbw_T (i := 102) (by decide +kernel) rfl
theorem kw_8 : Cond.fieldLink RX3 16 "StabilityAnalyzer$Loader" "faultPlace" "I" ∈ qT := tbw_T (i := 103) (by decide +kernel) rfl
theorem kw_9 : Cond.fieldLink RX3 19 "StabilityAnalyzer$Loader" "place" "I" ∈ qT := tbw_T (i := 104) (by decide +kernel) rfl
theorem kw_10 : Cond.fieldLink RX3 22 "StabilityAnalyzer$Loader" "phase" "I" ∈ qT := tbw_T (i := 105) (by decide +kernel) rfl
theorem kw_11 : Cond.fieldLink RX3 25 "StabilityAnalyzer$Loader" "times" "I" ∈ qT := tbw_T (i := 106) (by decide +kernel) rfl
theorem kw_12 : Cond.methodLink RX4 3 objectInit ∈ qT := tbw_T (i := 35) (by decide +kernel) rfl
theorem kw_13 : Cond.arrayClass .int ∈ qT := tbw_T (i := 43) (by decide +kernel) rfl
theorem kw_14 : Cond.fieldLink RX4 9 "StabilityAnalyzer$Readings" "phases" "[I" ∈ qT := tbw_T (i := 36) (by decide +kernel) rfl
theorem kw_15 : Cond.fieldLink RX4 15 "StabilityAnalyzer$Readings" "size" "I" ∈ qT := tbw_T (i := 37) (by decide +kernel) rfl
theorem kw_16 : Cond.methodLink RX5 3 objectInit ∈ qT := tbw_T (i := 87) (by decide +kernel) rfl
theorem kw_17 : Cond.fieldLink RX5 9 "StabilityAnalyzer$Text" "bytes" "[I" ∈ qT := tbw_T (i := 88) (by decide +kernel) rfl
theorem kw_18 : Cond.fieldLink RX5 15 "StabilityAnalyzer$Text" "size" "I" ∈ qT := tbw_T (i := 89) (by decide +kernel) rfl
theorem kw_19 : Cond.methodLink RX2 1 objectInit ∈ qT := tbw_T (i := 70) (by decide +kernel) rfl
theorem kw_20 : Cond.classLink RX2 7 RX4 ∈ qT := tbw_T (i := 71) (by decide +kernel) rfl
theorem kw_21 : Cond.instantiable RX4 2 ∈ qT := tbw_T (i := 31) (by decide +kernel) rfl
theorem kw_22 : Cond.initialized RX4 ∈ qT := tbw_T (i := 14) (by decide +kernel) rfl
set_option maxRecDepth 100000 in
theorem kw_23 : Cond.code yX4_init cX4_init 1 none ∈ qT := List.mem_filter.mpr ⟨List.mem_of_getElem? (i := 34) rfl, rfl⟩
theorem kw_24 : Cond.instanceMethod yX4_init ∈ qT := tbw_T (i := 33) (by decide +kernel) rfl
theorem kw_25 : Cond.fieldLink RX2 10 "StabilityAnalyzer$Image" "readings" "LStabilityAnalyzer$Readings;" ∈ qT := tbw_T (i := 73) (by decide +kernel) rfl
theorem kw_26 : Cond.fieldLink RX2 16 "StabilityAnalyzer$Image" "used" "Z" ∈ qT := tbw_T (i := 75) (by decide +kernel) rfl
theorem kw_27 : Cond.methodLink RX1 3 objectInit ∈ qT := tbw_T (i := 49) (by decide +kernel) rfl
theorem kw_28 : Cond.classLink RX1 9 RX4 ∈ qT := tbw_T (i := 50) (by decide +kernel) rfl
theorem kw_29 : Cond.fieldLink RX1 11 "StabilityAnalyzer$History" "states" "[LStabilityAnalyzer$Readings;" ∈ qT := tbw_T (i := 53) (by decide +kernel) rfl
theorem kw_30 : Cond.fieldLink RX1 17 "StabilityAnalyzer$History" "oldest" "I" ∈ qT := tbw_T (i := 54) (by decide +kernel) rfl
theorem kw_31 : Cond.fieldLink RX1 21 "StabilityAnalyzer$History" "depth" "I" ∈ qT := tbw_T (i := 55) (by decide +kernel) rfl
theorem kw_32 : Cond.methodLink RX6 1 objectInit ∈ qT := tbw_T (i := 27) (by decide +kernel) rfl
theorem kw_33 : Cond.classLink RX6 7 RX4 ∈ qT := tbw_T (i := 30) (by decide +kernel) rfl
theorem kw_34 : Cond.fieldLink RX6 10 "StabilityAnalyzer" "now" "LStabilityAnalyzer$Readings;" ∈ qT := tbw_T (i := 133) (by decide +kernel) rfl
theorem kw_35 : Cond.fieldLink RX6 16 "StabilityAnalyzer" "next" "LStabilityAnalyzer$Readings;" ∈ qT := tbw_T (i := 134) (by decide +kernel) rfl
theorem kw_36 : Cond.arrayClass .long ∈ qT := tbw_T (i := 63) (by decide +kernel) rfl
theorem kw_37 : Cond.fieldLink RX6 19 "StabilityAnalyzer" "amounts" "[J" ∈ qT := tbw_T (i := 135) (by decide +kernel) rfl
theorem kw_38 : Cond.classLink RX6 23 RX1 ∈ qT := tbw_T (i := 44) (by decide +kernel) rfl
theorem kw_39 : Cond.instantiable RX1 3 ∈ qT := tbw_T (i := 45) (by decide +kernel) rfl
theorem kw_40 : Cond.initialized RX1 ∈ qT := tbw_T (i := 15) (by decide +kernel) rfl
set_option maxRecDepth 100000 in
theorem kw_41 : Cond.code yX1_init cX1_init 2 none ∈ qT := List.mem_filter.mpr ⟨List.mem_of_getElem? (i := 48) rfl, rfl⟩
theorem kw_42 : Cond.instanceMethod yX1_init ∈ qT := tbw_T (i := 47) (by decide +kernel) rfl
theorem kw_43 : Cond.methodLink RX6 25 yX1_init ∈ qT := tbw_T (i := 46) (by decide +kernel) rfl
theorem kw_44 : Cond.fieldLink RX6 26 "StabilityAnalyzer" "history" "LStabilityAnalyzer$History;" ∈ qT := tbw_T (i := 136) (by decide +kernel) rfl
theorem kw_45 : Cond.classLink RX6 30 RX2 ∈ qT := tbw_T (i := 64) (by decide +kernel) rfl
theorem kw_46 : Cond.fieldLink RX6 32 "StabilityAnalyzer" "images" "[LStabilityAnalyzer$Image;" ∈ qT := tbw_T (i := 137) (by decide +kernel) rfl
theorem kw_47 : Cond.instantiable RX2 2 ∈ qT := tbw_T (i := 66) (by decide +kernel) rfl
theorem kw_48 : Cond.initialized RX2 ∈ qT := tbw_T (i := 16) (by decide +kernel) rfl
set_option maxRecDepth 100000 in
theorem kw_49 : Cond.code yX2_init cX2_init 1 none ∈ qT := List.mem_filter.mpr ⟨List.mem_of_getElem? (i := 69) rfl, rfl⟩
theorem kw_50 : Cond.instanceMethod yX2_init ∈ qT := tbw_T (i := 68) (by decide +kernel) rfl
theorem kw_51 : Cond.classLink RX6 37 RX5 ∈ qT := tbw_T (i := 82) (by decide +kernel) rfl
theorem kw_52 : Cond.instantiable RX5 2 ∈ qT := tbw_T (i := 83) (by decide +kernel) rfl
theorem kw_53 : Cond.initialized RX5 ∈ qT := tbw_T (i := 17) (by decide +kernel) rfl
set_option maxRecDepth 100000 in
theorem kw_54 : Cond.code yX5_init cX5_init 1 none ∈ qT := List.mem_filter.mpr ⟨List.mem_of_getElem? (i := 86) rfl, rfl⟩
theorem kw_55 : Cond.instanceMethod yX5_init ∈ qT := tbw_T (i := 85) (by decide +kernel) rfl
theorem kw_56 : Cond.fieldLink RX6 40 "StabilityAnalyzer" "text" "LStabilityAnalyzer$Text;" ∈ qT := tbw_T (i := 138) (by decide +kernel) rfl
theorem kw_57 : Cond.classLink RX6 44 RX3 ∈ qT := tbw_T (i := 95) (by decide +kernel) rfl
theorem kw_58 : Cond.instantiable RX3 5 ∈ qT := tbw_T (i := 96) (by decide +kernel) rfl
theorem kw_59 : Cond.initialized RX3 ∈ qT := tbw_T (i := 18) (by decide +kernel) rfl
set_option maxRecDepth 100000 in
theorem kw_60 : Cond.code yX3_init cX3_init 1 none ∈ qT := List.mem_filter.mpr ⟨List.mem_of_getElem? (i := 99) rfl, rfl⟩
theorem kw_61 : Cond.instanceMethod yX3_init ∈ qT := tbw_T (i := 98) (by decide +kernel) rfl
theorem kw_62 : Cond.fieldLink RX6 47 "StabilityAnalyzer" "loader" "LStabilityAnalyzer$Loader;" ∈ qT := tbw_T (i := 139) (by decide +kernel) rfl
theorem kw_63 : Cond.classLink RX6 51 RX0 ∈ qT := tbw_T (i := 118) (by decide +kernel) rfl
theorem kw_64 : Cond.instantiable RX0 2 ∈ qT := tbw_T (i := 119) (by decide +kernel) rfl
theorem kw_65 : Cond.initialized RX0 ∈ qT := tbw_T (i := 19) (by decide +kernel) rfl
set_option maxRecDepth 100000 in
theorem kw_66 : Cond.code yX0_init cX0_init 1 none ∈ qT := List.mem_filter.mpr ⟨List.mem_of_getElem? (i := 122) rfl, rfl⟩
theorem kw_67 : Cond.instanceMethod yX0_init ∈ qT := tbw_T (i := 121) (by decide +kernel) rfl
theorem kw_68 : Cond.fieldLink RX6 54 "StabilityAnalyzer" "one" "LStabilityAnalyzer$Fraction;" ∈ qT := tbw_T (i := 140) (by decide +kernel) rfl
theorem kw_69 : Cond.fieldLink RX6 58 "StabilityAnalyzer" "two" "LStabilityAnalyzer$Fraction;" ∈ qT := tbw_T (i := 141) (by decide +kernel) rfl
