/-! BACKWARD IS FORWARD: one step -/
theorem sub_int {x y : Int32} {a b : Int} (hx : x.toInt = a) (hy : y.toInt = b) (h1 : -1000 ≤ a - b) (h2 : a - b ≤ 1000) : (x - y).toInt = a - b := by
  rw [Int32.toInt_sub, hx, hy]
  exact Int.bmod_eq_of_le (by omega) (by omega)
theorem pos_int {n k d : Nat} (hn : n ≤ 300) (h : k * d ≤ 300) : (posF (nI n) (nI d) k).toInt = (n : Int) - ((k * d : Nat) : Int) := by
  unfold posF
  rw [nI_mul]
  exact sub_int (nI_toInt (by omega)) (nI_toInt (by omega)) (by omega) (by omega)
theorem val_sym {w p p' sp isM : Int32} {s q : Int} (hs : sp.toInt = s) (hp : p.toInt = q) (hp' : p'.toInt = s - q) (h0 : 0 ≤ q) (h1 : q ≤ s) (h2 : s ≤ 100) : valF w p sp isM = valF w p' sp isM := by
  have e1 : (sp - p).toInt = s - q := sub_int hs hp (by omega) (by omega)
  have e2 : (sp - p').toInt = s - (s - q) := sub_int hs hp' (by omega) (by omega)
  have f1 : sp - p = p' := Int32.toInt_inj.mp (by rw [e1, hp'])
  have f2 : sp - p' = p := Int32.toInt_inj.mp (by rw [e2, hp]; omega)
  have e : (if sp - p < p then sp - p else p) = (if sp - p' < p' then sp - p' else p') := by
    rw [f1, f2]
    by_cases h : p' < p
    · rw [if_pos h]
      by_cases h' : p < p'
      · exact absurd h' (Int32.not_lt.mpr (Int32.le_of_lt h))
      · rw [if_neg h']
    · rw [if_neg h]
      by_cases h' : p < p'
      · rw [if_pos h']
      · rw [if_neg h']
        exact Int32.le_antisymm (Int32.not_lt.mp h) (Int32.not_lt.mp h')
  unfold valF
  rw [e]
