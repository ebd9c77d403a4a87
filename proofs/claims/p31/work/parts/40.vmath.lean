/-! numbers for variances: roots, greatest divisors, lowest terms, bounds -/
def r64 (z : Int) : Prop := -9223372036854775808 ≤ z ∧ z < 9223372036854775808
theorem lgE {a b : Int} (h1 : r64 a) (h2 : r64 b) : (lg_cmp (lI a) (lI b) = (0 : Int32) ↔ a = b) ∧ (lg_cmp (lI a) (lI b) < (0 : Int32) ↔ a < b) ∧ (lg_cmp (lI a) (lI b) ≤ (0 : Int32) ↔ a ≤ b) ∧ ((0 : Int32) < lg_cmp (lI a) (lI b) ↔ b < a) := by
  obtain ⟨h3, h4⟩ := h1
  obtain ⟨h5, h6⟩ := h2
  have hz := cmpZ_in a b
  have e1 := cmpZ_0 a b
  have e2 := cmpZ_p a b
  have e3 := cmpZ_le a b
  have e4 := cmpZ_ge a b
  rw [lg_cmpZ h3 h4 h5 h6, iL0, iI_eq (by omega) (by omega) (by omega) (by omega), iI_lt (by omega) (by omega) (by omega) (by omega), iI_le (by omega) (by omega) (by omega) (by omega), iI_lt (by omega) (by omega) (by omega) (by omega)]
  omega
theorem isq_ex : ∀ v : Nat, ∃ r : Nat, r * r ≤ v ∧ v < (r + 1) * (r + 1) := by
  intro v
  induction v with
  | zero => exact ⟨0, by decide, by decide⟩
  | succ v ih =>
    obtain ⟨r, h1, h2⟩ := ih
    rcases Nat.lt_or_ge (v + 1) ((r + 1) * (r + 1)) with q | q
    · exact ⟨r, by omega, q⟩
    · refine ⟨r + 1, q, ?_⟩
      have e : (r + 1 + 1) * (r + 1 + 1) = (r + 1) * (r + 1) + 2 * r + 3 := by
        rw [Nat.add_mul (r + 1) 1 (r + 1 + 1), Nat.mul_add (r + 1) (r + 1) 1]
        omega
      omega
theorem isq_sp (v : Nat) : 0 ≤ isq v ∧ isq v * isq v ≤ v ∧ (v : Int) < (isq v + 1) * (isq v + 1) := by
  obtain ⟨r, h1, h2⟩ := isq_ex v
  have h3 : (r : Int) * r ≤ v := by exact_mod_cast h1
  have h4 : (v : Int) < ((r : Int) + 1) * (r + 1) := by exact_mod_cast h2
  rw [isq_eq (r := (r : Int)) (by omega) h3 h4]
  exact ⟨by omega, h3, h4⟩
theorem red_1 {a b : Nat} (hb : 0 < b) : Nat.gcd (a / Nat.gcd a b) (b / Nat.gcd a b) = 1 := by
  have hg : 0 < Nat.gcd a b := Nat.gcd_pos_of_pos_right _ hb
  obtain ⟨u, hu⟩ := Nat.gcd_dvd_left a b
  obtain ⟨v, hv⟩ := Nat.gcd_dvd_right a b
  have h := Nat.gcd_mul_left (Nat.gcd a b) u v
  rw [← hu, ← hv] at h
  have h1 : a / Nat.gcd a b = u := Nat.div_eq_of_eq_mul_right hg hu
  have h2 : b / Nat.gcd a b = v := Nat.div_eq_of_eq_mul_right hg hv
  rw [h1, h2]
  refine Nat.eq_of_mul_eq_mul_left hg ?_
  rw [← h, Nat.mul_one]
theorem red_eq {a b c d : Nat} (hb : 0 < b) (hd : 0 < d) (h : a * d = c * b) : a / Nat.gcd a b = c / Nat.gcd c d ∧ b / Nat.gcd a b = d / Nat.gcd c d := by
  have hg : 0 < Nat.gcd a b := Nat.gcd_pos_of_pos_right _ hb
  have hk : 0 < Nat.gcd c d := Nat.gcd_pos_of_pos_right _ hd
  have e1 : Nat.gcd a b * d = Nat.gcd c d * b := by
    rw [← Nat.gcd_mul_right, ← Nat.gcd_mul_right, h, Nat.mul_comm b d]
  obtain ⟨u, hu⟩ := Nat.gcd_dvd_left a b
  obtain ⟨v, hv⟩ := Nat.gcd_dvd_right a b
  obtain ⟨x, hx⟩ := Nat.gcd_dvd_left c d
  obtain ⟨y, hy⟩ := Nat.gcd_dvd_right c d
  rw [Nat.div_eq_of_eq_mul_right hg hu, Nat.div_eq_of_eq_mul_right hg hv, Nat.div_eq_of_eq_mul_right hk hx, Nat.div_eq_of_eq_mul_right hk hy]
  generalize Nat.gcd a b = g at *
  generalize Nat.gcd c d = k at *
  have hvy : v = y := by
    refine Nat.eq_of_mul_eq_mul_left (Nat.mul_pos hg hk) ?_
    rw [hv, hy] at e1
    rw [show g * k * v = k * (g * v) by rw [Nat.mul_comm g k, Nat.mul_assoc], show g * k * y = g * (k * y) by rw [Nat.mul_assoc], ← e1]
  refine ⟨?_, hvy⟩
  subst hvy
  have hv0 : 0 < v := by
    rcases Nat.eq_zero_or_pos v with q | q
    · rw [q, Nat.mul_zero] at hv
      omega
    · exact q
  refine Nat.eq_of_mul_eq_mul_left (Nat.mul_pos (Nat.mul_pos hg hk) hv0) ?_
  rw [hu, hy, hx, hv] at h
  rw [show g * k * v * u = g * u * (k * v) by ac_rfl, h]
  ac_rfl
theorem cz_ex {p : Nat → Bool} : ∀ {k : Nat}, cz p k ≠ 0 → ∃ j, j < k ∧ p j = true := by
  intro k
  induction k with
  | zero => intro h; exact absurd rfl h
  | succ k ih =>
    intro h
    by_cases e : p k = true
    · exact ⟨k, by omega, e⟩
    · rw [czs, if_neg e, Int.add_zero] at h
      obtain ⟨j, hj, hp⟩ := ih h
      exact ⟨j, by omega, hp⟩
section VM
variable {n : Nat} {f : Nat → Int}
theorem m_21 (hf : ∀ j, j < n → okv (f j)) (hn : n ≤ 64) {m : Nat} (hm : 1 ≤ m) (hm2 : m ≤ 31) (h : cnd n f 4 m ≠ 0) : m ≤ 21 := by
  obtain ⟨j, hj, hp⟩ := cz_ex h
  have hp := of_decide_eq_true hp
  rw [dif4 (by omega), men_ne hf hm2] at hp
  have h2 := okS_at _ m (m - 1) hp (by omega)
  have h3 := vl_lt (sec_r h2).1.2.2
  omega
theorem vNB (w : Int) (m : Nat) (h : vB n f w m ≠ 0) : vN n f w m * vB n f w m = vS n f w m * vD n f w m ∧ Nat.gcd (vN n f w m) (vD n f w m) = 1 ∧ 0 < vD n f w m ∧ vN n f w m ≤ vS n f w m ∧ vN n f w m = vS n f w m / Nat.gcd (vS n f w m) (vB n f w m) ∧ vD n f w m = vB n f w m / Nat.gcd (vS n f w m) (vB n f w m) := by
  have e1 : vN n f w m = vS n f w m / Nat.gcd (vS n f w m) (vB n f w m) := if_neg h
  have e2 : vD n f w m = vB n f w m / Nat.gcd (vS n f w m) (vB n f w m) := if_neg h
  rw [e1, e2]
  generalize vS n f w m = a at *
  generalize vB n f w m = b at *
  have hb : 0 < b := by omega
  have hg : 0 < Nat.gcd a b := Nat.gcd_pos_of_pos_right _ hb
  obtain ⟨u, hu⟩ := Nat.gcd_dvd_left a b
  obtain ⟨v, hv⟩ := Nat.gcd_dvd_right a b
  refine ⟨?_, red_1 hb, Nat.div_pos (Nat.le_of_dvd hb (Nat.gcd_dvd_right a b)) hg, Nat.div_le_self _ _, rfl, rfl⟩
  rw [Nat.div_eq_of_eq_mul_right hg hu, Nat.div_eq_of_eq_mul_right hg hv]
  generalize Nat.gcd a b = g at *
  rw [hu, hv, Nat.mul_left_comm, Nat.mul_assoc]
theorem od_23 : od 2 = 4 ∧ od 3 = 4 := ⟨rfl, rfl⟩
theorem vS_23 (m : Nat) : vS n f 2 m = vS n f 3 m := rfl
theorem vB_23 {m : Nat} (hn : n ≤ 64) (hm : 1 ≤ m) (hm2 : m ≤ 31) : vB n f 3 m * (m * m) = 3 * vB n f 2 m := by
  have h2 := (vB_c (n := n) (f := f) hn hm hm2 (w := 2) ⟨by decide, by decide⟩).1
  have h3 := (vB_c (n := n) (f := f) hn hm hm2 (w := 3) ⟨by decide, by decide⟩).1
  rw [dv_2] at h2
  rw [dv_3] at h3
  have e : ((vB n f 3 m * (m * m) : Nat) : Int) = ((3 * vB n f 2 m : Nat) : Int) := by
    push_cast
    rw [h2, h3]
    show 6 * ((m : Int) * m) * cnd n f 4 m * ((m : Int) * m) = 3 * (2 * ((m : Int) * m) * ((m : Int) * m) * cnd n f 4 m)
    generalize (m : Int) * m = q
    generalize cnd n f 4 m = c
    rw [Int.mul_assoc, Int.mul_comm c q, ← Int.mul_assoc, ← Int.mul_assoc, ← Int.mul_assoc, ← Int.mul_assoc]
    rfl
  exact_mod_cast e
theorem vB_3 {m : Nat} (hf : ∀ j, j < n → okv (f j)) (hn : n ≤ 64) (hm : 1 ≤ m) (hm2 : m ≤ 31) (h : cnd n f 4 m ≠ 0) : vB n f 3 m ≤ 169344 ∧ m * m ≤ 441 := by
  have h3 := (vB_c (n := n) (f := f) hn hm hm2 (w := 3) ⟨by decide, by decide⟩).1
  have h21 := m_21 hf hn hm hm2 h
  have hmm : m * m ≤ 441 := Nat.mul_le_mul h21 h21
  have hc : 0 ≤ cnd n f 4 m ∧ cnd n f 4 m ≤ n := cz_in _ n
  rw [dv_3] at h3
  have hmm2 : (m : Int) * m ≤ 441 := by
    rw [← Int.natCast_mul]
    omega
  have hmm0 : 0 ≤ (m : Int) * m := Int.mul_nonneg (by omega) (by omega)
  have h4 := mul_bd (A := 2646) (C := 64) (a := 6 * ((m : Int) * m)) (c := cnd n f 4 m) (by omega) (by omega) (by omega) (by omega)
  have e : ((vB n f 3 m : Nat) : Int) = 6 * ((m : Int) * m) * cnd n f 4 m := h3
  exact ⟨by omega, hmm⟩
theorem vT {m : Nat} (hf : ∀ j, j < n → okv (f j)) (hn : n ≤ 64) (hm : 1 ≤ m) (hm2 : m ≤ 31) (h : cnd n f 4 m ≠ 0) : vN n f 2 m * m * m < 9223372036854775808 ∧ 0 < vD n f 2 m ∧ vN n f 3 m = vN n f 2 m * m * m / Nat.gcd (vN n f 2 m * m * m) (3 * vD n f 2 m) ∧ vD n f 3 m = 3 * vD n f 2 m / Nat.gcd (vN n f 2 m * m * m) (3 * vD n f 2 m) := by
  have b2 := vB_c (n := n) (f := f) hn hm hm2 (w := 2) ⟨by decide, by decide⟩
  have b3 := vB_c (n := n) (f := f) hn hm hm2 (w := 3) ⟨by decide, by decide⟩
  have n2 : vB n f 2 m ≠ 0 := fun z => h (b2.2.2.mp z)
  have n3 : vB n f 3 m ≠ 0 := fun z => h (b3.2.2.mp z)
  have k2 := vNB 2 m n2
  have k3 := vNB 3 m n3
  have hB := vB_3 hf hn hm hm2 h
  have hK := vS_K hf hn hm hm2 (w := 3) ⟨by decide, by decide⟩
  have h23 := vB_23 (n := n) (f := f) hn hm hm2
  refine ⟨?_, k2.2.2.1, ?_⟩
  · have s1 : vN n f 2 m ≤ 110000000000 * 169344 := by
      have := k2.2.2.2.1
      rw [vS_23] at this
      omega
    have s2 : vN n f 2 m * (m * m) ≤ 110000000000 * 169344 * 441 := Nat.mul_le_mul s1 hB.2
    rw [Nat.mul_assoc]
    omega
  · have hx : vS n f 3 m * (3 * vD n f 2 m) = vN n f 2 m * m * m * vB n f 3 m := by
      have e1 := k2.1
      rw [vS_23] at e1
      rw [Nat.mul_left_comm, ← e1, Nat.mul_left_comm, ← h23, Nat.mul_assoc (vN n f 2 m), Nat.mul_assoc (vN n f 2 m), Nat.mul_comm (m * m)]
    rw [k3.2.2.2.2.1, k3.2.2.2.2.2]
    exact red_eq (by omega) (by omega) hx
theorem men_1 {i : Int} (hf : ∀ j, j < n → okv (f j)) : men n f 1 i = sec n f 1 i := by
  have h := sec_ok hf 1 i
  have e0 : okS (fun j => sec n f (1 : Nat) (i + j)) 1 = (true && decide (sec n f (1 : Nat) (i + (0 : Nat)) ≠ (-1000000001))) := rfl
  have e1 : smS (fun j => sec n f (1 : Nat) (i + j)) 1 = 0 + sec n f (1 : Nat) (i + (0 : Nat)) := rfl
  unfold men
  rw [e0, e1, show i + ((0 : Nat) : Int) = i by omega, show ((1 : Nat) : Int) = 1 from rfl, Bool.true_and, Int.zero_add]
  split
  · rfl
  · rename_i c
    have c : sec n f 1 i = (-1000000001) := by
      by_cases q : sec n f 1 i = (-1000000001)
      · exact q
      · exact absurd (decide_eq_true q) c
    rw [c]
theorem dif_1 (hf : ∀ j, j < n → okv (f j)) (i : Int) : dif n f 4 1 i = dif n f 2 1 i := by
  unfold dif
  by_cases c : 0 ≤ i ∧ i < n
  · rw [if_pos c, if_pos c, if_neg (by decide), if_neg (by decide), if_pos rfl, men_1 hf]
    rfl
  · rw [if_neg c, if_neg c]
theorem sqz_c {n : Nat} {f f' : Nat → Int} {o o' : Int} {m m' : Nat} (h : ∀ i : Nat, dif n f o m i = dif n f' o' m' i) : ∀ k, sqz n f o m k = sqz n f' o' m' k := by
  intro k
  induction k with
  | zero => rfl
  | succ k ih => rw [sqz_s, sqz_s, ih, h k]
theorem cz_c {p p' : Nat → Bool} (h : ∀ i : Nat, p i = p' i) : ∀ k, cz p k = cz p' k := by
  intro k
  induction k with
  | zero => rfl
  | succ k ih => rw [czs, czs, ih, h k]
theorem vND_c {n : Nat} {f f' : Nat → Int} {w w' : Int} {m m' : Nat} (h : ∀ i : Nat, dif n f (od w) m i = dif n f' (od w') m' i) (hv : dv w m = dv w' m') : vN n f w m = vN n f' w' m' ∧ vD n f w m = vD n f' w' m' := by
  have e1 : vS n f w m = vS n f' w' m' := by
    unfold vS
    rw [sqz_c h]
  have e2 : vB n f w m = vB n f' w' m' := by
    unfold vB cnd
    rw [hv, cz_c (fun i => by rw [h i])]
  unfold vN vD
  rw [e1, e2]
  exact ⟨rfl, rfl⟩
theorem vND_1 (hf : ∀ j, j < n → okv (f j)) : vN n f 2 1 = vN n f 0 1 ∧ vD n f 2 1 = vD n f 0 1 := vND_c (fun i => dif_1 hf i) (by decide)
end VM
