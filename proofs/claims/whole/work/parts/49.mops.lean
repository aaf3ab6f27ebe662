/-! THE MODEL's PUBLIC METHODS: its checks -/
def lastS (S : Sto) (v : Int32) : Sto := wrI S 1 37 0 v
theorem isN_ok {v : Int32} {n : Nat} (hn : n ≤ 1000) : (¬ v < 0 ∧ v ≤ nI n - 1) ↔ nm v (nI n) := by
  constructor
  · intro h
    refine ⟨h.1, ?_⟩
    have h1 := Int32.le_iff_toInt_le.mp h.2
    rw [Int32.lt_iff_toInt_lt, nI_toInt (by omega)]
    have e : (nI n - 1).toInt = (n : Int) - 1 := sub_int (nI_toInt (by omega)) rfl (by omega) (by omega)
    rw [e] at h1
    omega
  · intro h
    refine ⟨h.1, ?_⟩
    have h1 := Int32.lt_iff_toInt_lt.mp h.2
    rw [nI_toInt (by omega)] at h1
    rw [Int32.le_iff_toInt_le]
    have e : (nI n - 1).toInt = (n : Int) - 1 := sub_int (nI_toInt (by omega)) rfl (by omega) (by omega)
    rw [e]
    omega
