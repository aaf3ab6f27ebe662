/-! THE SAME, said twice -/
theorem wn_reason (S : Sto) (r d t : Int32) : wnH S r d t (bV (bornH S d r)) = reasonH S r d t := by
  unfold wnH reasonH lastH bornH
  by_cases h1 : sizeH S r.toNatClampNeg d.toNatClampNeg d t = 0
  · rw [if_pos h1, if_pos h1]
    by_cases h2 : S.1 2 5 d.toNatClampNeg < S.1 4 2 r.toNatClampNeg
    · rw [if_pos h2, if_pos h2, if_neg (by decide)]
    · rw [if_neg h2, if_neg h2]
      cases borneH S d.toNatClampNeg r.toNatClampNeg with
      | false =>
        rw [if_pos (show bV false = 0 by decide), if_neg (show ¬ false = true by decide), if_neg (show ¬ (4 : Int32) = 0 by decide)]
      | true =>
        rw [if_neg (show ¬ bV true = 0 by decide), if_pos rfl]
        by_cases h3 : S.1 10 1 (S.1 2 2 d.toNatClampNeg).toNatClampNeg < heavH S r.toNatClampNeg
        · rw [if_pos h3, if_pos h3, if_neg (by decide)]
        · rw [if_neg h3, if_neg h3, if_pos rfl]
  · rw [if_neg h1, if_neg h1]
theorem leave_night {S : Sto} {i : Nat} {rig t : Int32} (h : leaveH S i rig t = 0) : nightH t (S.1 2 6 i) = true := by
  unfold leaveH at h
  by_cases h1 : anyN (permH S rig (S.1 2 2 i) t (t + S.1 2 6 i)) (S.2.2 23) = true
  · rw [if_pos h1] at h
    by_cases h2 : anyN (embH S (S.1 2 2 i) t (t + S.1 2 6 i)) (S.2.2 24) = true
    · rw [if_pos h2] at h
      exact absurd h (by decide)
    · rw [if_neg h2] at h
      by_cases h3 : nightH t (S.1 2 6 i) = true
      · exact h3
      · rw [if_neg h3] at h
        exact absurd h (by decide)
  · rw [if_neg h1] at h
    exact absurd h (by decide)
theorem reason_open (S : Sto) (r d t : Int32) : reasonH S r d t = 0 ↔ (fitH S r.toNatClampNeg d.toNatClampNeg && openH S r d t) = true := by
  unfold reasonH fitH openH
  by_cases h1 : sizeH S r.toNatClampNeg d.toNatClampNeg d t = 0
  · by_cases h2 : lastH S r.toNatClampNeg d.toNatClampNeg = 0
    · rw [if_pos h1, if_pos h2, decide_eq_true h1, decide_eq_true h2]
      constructor
      · intro h
        rw [leave_night h, decide_eq_true h]
        rfl
      · intro h
        simp only [Bool.true_and, Bool.and_eq_true, decide_eq_true_eq] at h
        exact h.2
    · rw [if_pos h1, if_neg h2, decide_eq_false h2]
      constructor
      · intro h
        exact absurd h h2
      · intro h
        cases h
  · rw [if_neg h1, decide_eq_false h1]
    constructor
    · intro h
      exact absurd h h1
    · intro h
      simp at h
