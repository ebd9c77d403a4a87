/-! the reference's differences, counts, gaps, outliers -/
theorem okS_le (g : Nat → Int) : ∀ (d j : Nat), okS g (j + d) = true → okS g j = true := by
  intro d
  induction d with
  | zero => intro j h; exact h
  | succ d ih =>
    intro j h
    refine ih j ?_
    rw [← Nat.add_assoc] at h
    unfold okS at h
    simp only [Bool.and_eq_true] at h
    exact h.1
theorem okS_at (g : Nat → Int) : ∀ (m j : Nat), okS g m = true → j < m → g j ≠ (-1000000001) := by
  intro m j h hj
  have h2 := okS_le g (m - (j + 1)) (j + 1) (by rw [show j + 1 + (m - (j + 1)) = m by omega]; exact h)
  unfold okS at h2
  simp only [Bool.and_eq_true, decide_eq_true_eq] at h2
  exact h2.2
theorem men_ne {n : Nat} {f : Nat → Int} (hf : ∀ j, j < n → okv (f j)) {m : Nat} (hm : m ≤ 31) (i : Int) : men n f m i ≠ (-1000000001) ↔ okS (fun j => sec n f m (i + j)) m = true := by
  unfold men
  split
  · rename_i h
    have h1 := smS_in (B := 399996) (fun j => sec_ok hf m (i + j)) m h
    constructor
    · intro _; exact h
    · intro _; omega
  · rename_i h
    constructor
    · intro q; exact absurd rfl q
    · intro q; exact absurd q h
theorem thr_ne {n : Nat} {f : Nat → Int} (hf : ∀ j, j < n → okv (f j)) {m : Int} {i : Int} : thr n f m i ≠ (-1000000001) ↔ (sec n f m i ≠ (-1000000001) ∧ vl n f (i + 3 * m) ≠ (-1000000001)) := by
  have h1 := vl_ok hf i
  have h2 := vl_ok hf (i + m)
  have h3 := vl_ok hf (i + 2 * m)
  have h4 := vl_ok hf (i + 3 * m)
  unfold okv at h1 h2 h3 h4
  unfold thr sec
  split <;> split <;> omega
def cnd (n : Nat) (f : Nat → Int) (o : Int) (m : Nat) : Int := cz (fun j => decide (dif n f o m j ≠ (-1000000001))) n
def wdz (n : Nat) (f : Nat → Int) : Nat → Int
  | 0 => 0
  | k + 1 => if 0 < cnd n f 2 (k + 1) then ((k + 1 : Nat) : Int) else wdz n f k
theorem wdz_in (n : Nat) (f : Nat → Int) : ∀ k : Nat, 0 ≤ wdz n f k ∧ wdz n f k ≤ k := by
  intro k
  induction k with
  | zero => unfold wdz; omega
  | succ k ih => unfold wdz; split <;> omega
theorem lsz_st (f : Nat → Int) (j : Nat) : lsz f (j + 1) = if f j ≠ (-1000000001) ∧ (lsz f j = (-1000000001) ∨ f j < lsz f j) then f j else lsz f j := rfl
theorem grz_st {n : Nat} {f : Nat → Int} (hf : ∀ j, j < n → okv (f j)) {j : Nat} (hj : j < n) : grz f (j + 1) = if f j ≠ (-1000000001) ∧ (grz f j = (-1000000001) ∨ grz f j < f j) then f j else grz f j := by
  have h1 := grz_ok hf j (by omega)
  have h2 := hf j hj
  unfold okv at h1 h2
  show (if grz f j < f j then f j else grz f j) = _
  split <;> split <;> omega
section MD2
variable {Ls : Nat} {xs : Nat → Int32} {P : qSem} {n : Nat} {f : Nat → Int} {M : qMem} {Q : qPost}
end MD2
