/-! BACKWARD IS FORWARD, mirrored: sums and maxima -/
def sg (f : Nat → Int32) : Nat → Int32
  | 0 => 0
  | n + 1 => sg f n + f n
theorem sg_c {f g : Nat → Int32} {n : Nat} (h : ∀ i, i < n → f i = g i) : sg f n = sg g n := by
  induction n with
  | zero => rfl
  | succ n ih =>
    show sg f n + f n = sg g n + g n
    rw [ih (fun i hi => h i (by omega)), h n (by omega)]
theorem sg_front (f : Nat → Int32) (n : Nat) : sg f (n + 1) = f 0 + sg (fun k => f (k + 1)) n := by
  induction n with
  | zero =>
    show (0 : Int32) + f 0 = f 0 + 0
    rw [Int32.zero_add, Int32.add_zero]
  | succ n ih =>
    show sg f (n + 1) + f (n + 1) = f 0 + (sg (fun k => f (k + 1)) n + f (n + 1))
    rw [ih, Int32.add_assoc]
theorem sg_rev (f : Nat → Int32) (n : Nat) : sg (fun k => f (n - 1 - k)) n = sg f n := by
  induction n generalizing f with
  | zero => rfl
  | succ n ih =>
    rw [sg_front]
    show f (n + 1 - 1 - 0) + sg (fun k => f (n + 1 - 1 - (k + 1))) n = sg f n + f n
    have e : sg (fun k => f (n + 1 - 1 - (k + 1))) n = sg (fun k => f (n - 1 - k)) n := sg_c fun i hi => by
      show f _ = f _
      congr 1
      omega
    rw [e, ih, Int32.add_comm]
    rfl
theorem topF_le (f : Nat → Int32) (n i : Nat) (hi : i < n) : f i ≤ topF f n := by
  induction n with
  | zero => omega
  | succ n ih =>
    show f i ≤ if topF f n < f n then f n else topF f n
    by_cases h : topF f n < f n
    · rw [if_pos h]
      by_cases e : i = n
      · rw [e]; exact Int32.le_refl _
      · exact Int32.le_of_lt (Int32.lt_of_le_of_lt (ih (by omega)) h)
    · rw [if_neg h]
      by_cases e : i = n
      · rw [e]; exact Int32.not_lt.mp h
      · exact ih (by omega)
theorem topF_is (f : Nat → Int32) (n : Nat) : 0 ≤ topF f n ∧ (topF f n = 0 ∨ ∃ i, i < n ∧ topF f n = f i) := by
  induction n with
  | zero => exact ⟨Int32.le_refl _, Or.inl rfl⟩
  | succ n ih =>
    have e : topF f (n + 1) = if topF f n < f n then f n else topF f n := rfl
    rw [e]
    by_cases h : topF f n < f n
    · rw [if_pos h]
      exact ⟨Int32.le_of_lt (Int32.lt_of_le_of_lt ih.1 h), Or.inr ⟨n, by omega, rfl⟩⟩
    · rw [if_neg h]
      refine ⟨ih.1, ih.2.imp id fun ⟨i, hi, he⟩ => ⟨i, by omega, he⟩⟩
theorem topF_sub {f g : Nat → Int32} {n : Nat} (h : ∀ i, i < n → ∃ j, j < n ∧ f i = g j) : topF f n ≤ topF g n := by
  rcases (topF_is f n).2 with e | ⟨i, hi, e⟩
  · rw [e]; exact (topF_is g n).1
  · obtain ⟨j, hj, e2⟩ := h i hi
    rw [e, e2]
    exact topF_le g n j hj
theorem topF_mir {f g : Nat → Int32} {L : Nat} (h : ∀ i, i ≤ L → f i = g (L - i)) : topF f (L + 1) = topF g (L + 1) := by
  refine Int32.le_antisymm (topF_sub fun i hi => ⟨L - i, by omega, h i (by omega)⟩) (topF_sub fun i hi => ⟨L - i, by omega, ?_⟩)
  rw [h (L - i) (by omega)]
  congr 1
  omega
