/-! BACKWARD IS FORWARD: one step -/
theorem sub_int {x y : Int32} {a b : Int} (hx : x.toInt = a) (hy : y.toInt = b) (h1 : -1000 ≤ a - b) (h2 : a - b ≤ 1000) : (x - y).toInt = a - b := by
  rw [Int32.toInt_sub, hx, hy]
  exact Int.bmod_eq_of_le (by omega) (by omega)
theorem pos_int {n k d : Nat} (hn : n ≤ 300) (h : k * d ≤ 300) : (posF (nI n) (nI d) k).toInt = (n : Int) - ((k * d : Nat) : Int) := by
  unfold posF
  rw [nI_mul]
  exact sub_int (nI_toInt (by omega)) (nI_toInt (by omega)) (by omega) (by omega)
theorem val_sym {w p p' sp isM : Int32} {s q : Int} (hs : sp.toInt = s) (hp : p.toInt = q) (hp' : p'.toInt = s - q) (h0 : 0 ≤ q) (h1 : q ≤ s) (h2 : s ≤ 100) : valF w p sp isM = valF w p' sp isM := by
  have e1 : (sp - p).toInt = s - q := sub_int hs hp (by omega) (by omega)
  have e2 : (sp - p').toInt = s - (s - q) := sub_int hs hp' (by omega) (by omega)
  have f1 : sp - p = p' := Int32.toInt_inj.mp (by rw [e1, hp'])
  have f2 : sp - p' = p := Int32.toInt_inj.mp (by rw [e2, hp]; omega)
  have e : (if sp - p < p then sp - p else p) = (if sp - p' < p' then sp - p' else p') := by
    rw [f1, f2]
    by_cases h : p' < p
    · rw [if_pos h]
      by_cases h' : p < p'
      · exact absurd h' (Int32.not_lt.mpr (Int32.le_of_lt h))
      · rw [if_neg h']
    · rw [if_neg h]
      by_cases h' : p < p'
      · rw [if_pos h']
      · rw [if_neg h']
        exact Int32.le_antisymm (Int32.not_lt.mp h) (Int32.not_lt.mp h')
  unfold valF
  rw [e]
def tm (fr re ax ap sp st isM isB : Int32) (k : Nat) : Int32 := if posF st ap k < 0 ∨ sp < posF st ap k then 0 else valF (wtF fr re ax (if isB = 0 then nI k else ax - 1 - nI k)) (posF st ap k) sp isM
theorem sumF_sg {fr re ax ap sp st isM isB : Int32} (n : Nat) : sumF fr re ax ap sp st isM isB n = sg (tm fr re ax ap sp st isM isB) n := by
  induction n with
  | zero => rfl
  | succ n ih =>
    show (if _ then sumF fr re ax ap sp st isM isB n else sumF fr re ax ap sp st isM isB n + _) = sg (tm fr re ax ap sp st isM isB) n + tm fr re ax ap sp st isM isB n
    rw [← ih]
    unfold tm
    by_cases h : posF st ap n < 0 ∨ sp < posF st ap n
    · rw [if_pos h, if_pos h, Int32.add_zero]
    · rw [if_neg h, if_neg h]
theorem tm_mir {fr re isM : Int32} {a d s n k : Nat} (a8 : a ≤ 8) (d5 : d ≤ 5) (s4 : s ≤ 40) (hn : n ≤ s + (2 * a - 1) * d) (hk : k < 2 * a) : tm fr re (nI (2 * a)) (nI d) (nI s) (nI n) isM 1 k = tm fr re (nI (2 * a)) (nI d) (nI s) (nI (s + (2 * a - 1) * d - n)) isM 0 (2 * a - 1 - k) := by
  have hb : (2 * a - 1) * d ≤ 15 * 5 := Nat.mul_le_mul (by omega) d5
  have hs : (2 * a - 1 - k) * d + k * d = (2 * a - 1) * d := by
    rw [← Nat.add_mul]
    congr 1
    omega
  have p1 := pos_int (n := n) (k := k) (d := d) (by omega) (by omega)
  have p2 := pos_int (n := s + (2 * a - 1) * d - n) (k := 2 * a - 1 - k) (d := d) (by omega) (by omega)
  have hsp : (nI s).toInt = (s : Int) := nI_toInt (by omega)
  have e1 : (1 : Int32) = nI 1 := rfl
  have hidx : nI (2 * a) - 1 - nI k = nI (2 * a - 1 - k) := by rw [e1, nI_sub (by omega), nI_sub (by omega)]
  have p3 : (posF (nI (s + (2 * a - 1) * d - n)) (nI d) (2 * a - 1 - k)).toInt = (s : Int) - ((n : Int) - ((k * d : Nat) : Int)) := by
    rw [p2]
    omega
  unfold tm
  rw [if_neg (show ¬ (1 : Int32) = 0 by decide), if_pos (show (0 : Int32) = 0 from rfl), hidx]
  have z0 : (0 : Int32).toInt = 0 := rfl
  have hiff : (posF (nI n) (nI d) k < 0 ∨ nI s < posF (nI n) (nI d) k) ↔ (posF (nI (s + (2 * a - 1) * d - n)) (nI d) (2 * a - 1 - k) < 0 ∨ nI s < posF (nI (s + (2 * a - 1) * d - n)) (nI d) (2 * a - 1 - k)) := by
    rw [Int32.lt_iff_toInt_lt, Int32.lt_iff_toInt_lt, Int32.lt_iff_toInt_lt, Int32.lt_iff_toInt_lt, p1, p3, hsp, z0]
    omega
  by_cases h : posF (nI n) (nI d) k < 0 ∨ nI s < posF (nI n) (nI d) k
  · rw [if_pos h, if_pos (hiff.mp h)]
  · rw [if_neg h, if_neg fun z => h (hiff.mpr z)]
    have h' := h
    rw [Int32.lt_iff_toInt_lt, Int32.lt_iff_toInt_lt, p1, hsp, z0] at h'
    exact val_sym hsp p1 p3 (by omega) (by omega) (by omega)
theorem greatH_mir {S : Sto} (hW : WfH S) {i j : Nat} (hi : i < S.2.2 20) (hj : j < S.2.2 22) (isM : Int32) : greatH S i j isM 1 = greatH S i j isM 0 := by
  obtain ⟨p, q, au, t, s, -, -, -, -, h1, -, -, -, -, -, -, h2⟩ := hW.2.2.2.2.2.2.1 i hi
  obtain ⟨a, d, r, k1, k2, -, k3, k4, k5, k6, -⟩ := hW.2.2.2.2.2.2.2 j hj
  have hb : (2 * a - 1) * d ≤ 15 * 5 := Nat.mul_le_mul (by omega) k6
  have eL : lastN S i j = s + (2 * a - 1) * d := by
    have e1 : (1 : Int32) = nI 1 := rfl
    unfold lastN
    rw [h1, k1, k2, e1, nI_sub (by omega), nI_mul, nI_add]
    exact nI_cl (by omega)
  unfold greatH
  by_cases h : S.1 2 7 i ≤ 0
  · rw [if_pos h, if_pos h]
  · rw [if_neg h, if_neg h, eL]
    refine topF_mir fun n hn => ?_
    unfold sumH
    have hA : (nI (2 * a)).toNatClampNeg = 2 * a := nI_cl (by omega)
    rw [h1, k1, k2, hA, sumF_sg, sumF_sg, ← sg_rev (tm _ _ _ _ _ (nI (s + (2 * a - 1) * d - n)) _ _)]
    exact sg_c fun k hk => tm_mir k4 k6 h2 hn hk
