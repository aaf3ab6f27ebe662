/-! BITS OF LONGS; the places for each ten, by the law's loops -/
theorem leave_night {S : Sto} {i : Nat} {rig t : Int32} (h : leaveH S i rig t = 0) : nightH t (S.1 2 6 i) = true := by
  unfold leaveH at h
  by_cases h1 : anyN (permH S rig (S.1 2 2 i) t (t + S.1 2 6 i)) (S.2.2 23) = true
  · rw [if_pos h1] at h
    by_cases h2 : anyN (embH S (S.1 2 2 i) t (t + S.1 2 6 i)) (S.2.2 24) = true
    · rw [if_pos h2] at h
      exact absurd h (by decide)
    · rw [if_neg h2] at h
      by_cases h3 : nightH t (S.1 2 6 i) = true
      · exact h3
      · rw [if_neg h3] at h
        exact absurd h (by decide)
  · rw [if_neg h1] at h
    exact absurd h (by decide)
theorem reason_open (S : Sto) (r d t : Int32) : reasonH S r d t = 0 ↔ (fitH S r.toNatClampNeg d.toNatClampNeg && openH S r d t) = true := by
  unfold reasonH fitH openH
  by_cases h1 : sizeH S r.toNatClampNeg d.toNatClampNeg d t = 0
  · by_cases h2 : lastH S r.toNatClampNeg d.toNatClampNeg = 0
    · rw [if_pos h1, if_pos h2, decide_eq_true h1, decide_eq_true h2]
      constructor
      · intro h
        rw [leave_night h, decide_eq_true h]
        rfl
      · intro h
        simp only [Bool.true_and, Bool.and_eq_true, decide_eq_true_eq] at h
        exact h.2
    · rw [if_pos h1, if_neg h2, decide_eq_false h2]
      constructor
      · intro h
        exact absurd h h2
      · intro h
        cases h
  · rw [if_neg h1, decide_eq_false h1]
    constructor
    · intro h
      exact absurd h h1
    · intro h
      simp at h
theorem lsh_sm : ∀ p, p < 64 → (((nI p).toInt64 &&& 63).toBitVec.smod 64).toNat = p := by decide +kernel
theorem lbit_1 : ∀ p, p < 64 → ∀ q, q < 64 → ((1 : Int64) <<< ((nI p).toInt64 &&& 63)).toBitVec.getLsbD q = decide (q = p) := by decide +kernel
theorem lbit_one : ∀ q, q < 64 → (1 : Int64).toBitVec.getLsbD q = decide (q = 0) := by decide +kernel
theorem t_lbit (w : Int64) (p : Nat) (hp : p < 64) : (w >>> ((nI p).toInt64 &&& 63)) &&& 1 = 1 ↔ w.toBitVec.getLsbD p = true := by
  have h : (((nI p).toInt64 &&& 63).toBitVec.smod 64).toNat = p := lsh_sm p hp
  rw [← Int64.toBitVec_inj, Int64.toBitVec_and, Int64.toBitVec_shiftRight]
  unfold BitVec.sshiftRight'
  rw [h]
  show w.toBitVec.sshiftRight p &&& 1#64 = 1#64 ↔ _
  rw [BitVec.and_one_eq_setWidth_ofBool_getLsbD, BitVec.getLsbD_sshiftRight]
  have h2 : (!decide (64 ≤ 0) && (if p + 0 < 64 then w.toBitVec.getLsbD (p + 0) else w.toBitVec.msb)) = w.toBitVec.getLsbD p := by
    rw [if_pos (by omega)]
    simp
  rw [h2]
  cases w.toBitVec.getLsbD p <;> decide
def lb (D : Nat → Int64) (g p : Nat) : Bool := (D (5 * p + g / 64)).toBitVec.getLsbD (g % 64)
def setD (D : Nat → Int64) (g p : Nat) : Nat → Int64 := fun y => if y = 5 * p + g / 64 then D (5 * p + g / 64) ||| (1 : Int64) <<< ((nI (g % 64)).toInt64 &&& 63) else D y
theorem lb_set {D : Nat → Int64} {g p g' p' : Nat} (hg : g < 320) (hg' : g' < 320) : lb (setD D g p) g' p' = (lb D g' p' || (decide (g' = g) && decide (p' = p))) := by
  unfold lb setD
  by_cases h : 5 * p' + g' / 64 = 5 * p + g / 64
  · have hp : p' = p := by omega
    have hq : g' / 64 = g / 64 := by omega
    rw [if_pos h, Int64.toBitVec_or, BitVec.getLsbD_or, lbit_1 _ (Nat.mod_lt _ (by omega)) _ (Nat.mod_lt _ (by omega)), h, decide_eq_true hp, Bool.and_true]
    congr 1
    exact decide_eq_decide.mpr ⟨fun z => by omega, fun z => by rw [z]⟩
  · rw [if_neg h]
    have : (decide (g' = g) && decide (p' = p)) = false := by
      by_cases e : g' = g
      · by_cases e2 : p' = p
        · exact absurd (by rw [e, e2]) h
        · rw [decide_eq_false e2, Bool.and_false]
      · rw [decide_eq_false e, Bool.false_and]
    rw [this, Bool.or_false]
def D1 (f : Nat) : Nat → Int64 := fun y => if y = 5 * f then 1 else 0
theorem lb_D1 {f g p : Nat} (hg : g < 320) : lb (D1 f) g p = (decide (g = 0) && decide (p = f)) := by
  unfold lb D1
  by_cases h : 5 * p + g / 64 = 5 * f
  · rw [if_pos h, lbit_one _ (Nat.mod_lt _ (by omega)), decide_eq_true (show p = f by omega), Bool.and_true]
    exact decide_eq_decide.mpr ⟨fun z => by omega, fun z => by rw [z]⟩
  · rw [if_neg h]
    have e : (decide (g = 0) && decide (p = f)) = false := by
      by_cases e1 : g = 0
      · by_cases e2 : p = f
        · exact absurd (by omega) h
        · rw [decide_eq_false e2, Bool.and_false]
      · rw [decide_eq_false e1, Bool.false_and]
    rw [e]
    exact BitVec.getLsbD_zero
/-- S with the newest array of longs -/
def jS (S : Sto) (D : Nat → Int64) : Sto := (S.1, fun i => if i = S.2.2 12 then D else S.2.1 i, bump S.2.2 12)
theorem jS_mk {S : Sto} : mkJ S = jS S fun _ => 0 := rfl
theorem jS_rd {S : Sto} {D : Nat → Int64} {x : Nat} : (jS S D).2.1 (S.2.2 12) x = D x := by
  show (if S.2.2 12 = S.2.2 12 then D else S.2.1 _) x = D x
  rw [if_pos rfl]
theorem jS_wr {S : Sto} {D : Nat → Int64} {x : Nat} {v : Int64} : wrJ (jS S D) (S.2.2 12) x v = jS S fun y => if y = x then v else D y := by
  unfold wrJ jS
  congr 2
  funext i y
  by_cases h : i = S.2.2 12
  · show (if i = S.2.2 12 ∧ y = x then v else (if i = S.2.2 12 then D else S.2.1 i) y) = (if i = S.2.2 12 then (fun y => if y = x then v else D y) else S.2.1 i) y
    rw [if_pos h, if_pos h]
    by_cases e : y = x
    · rw [if_pos ⟨h, e⟩, if_pos e]
    · rw [if_neg fun z => e z.2, if_neg e]
  · show (if i = S.2.2 12 ∧ y = x then v else (if i = S.2.2 12 then D else S.2.1 i) y) = (if i = S.2.2 12 then (fun y => if y = x then v else D y) else S.2.1 i) y
    rw [if_neg h, if_neg h, if_neg fun z => h z.1]
theorem jS_same {S : Sto} {D : Nat → Int64} : sameL S (jS S D) := ⟨fun k hk => bump_ne hk, fun _ _ _ _ => rfl⟩
theorem anyN_or (a b : Nat → Bool) (n : Nat) : anyN (fun i => a i || b i) n = (anyN a n || anyN b n) := by
  induction n with
  | zero => rfl
  | succ n ih =>
    show (anyN (fun i => a i || b i) n || (a n || b n)) = ((anyN a n || a n) || (anyN b n || b n))
    rw [ih]
    cases anyN a n <;> cases anyN b n <;> cases a n <;> cases b n <;> rfl
def lvC (S0 : Sto) (rig ten : Int32) (p g g' p' i : Nat) : Bool := ((decide (p = onN S0 i) && decide (p' = otN S0 i)) || (decide (p = otN S0 i) && decide (p' = onN S0 i))) && ((fitH S0 rig.toNatClampNeg i && openH S0 rig (nI i) (ten + nI g)) && decide (g' = g + tnN S0 i))
def lvN (S0 : Sto) (rig ten : Int32) (p g g' p' n : Nat) : Bool := anyN (lvC S0 rig ten p g g' p') n
theorem lvN_s {S0 : Sto} {rig ten : Int32} {p g g' p' n : Nat} : lvN S0 rig ten p g g' p' (n + 1) = (lvN S0 rig ten p g g' p' n || lvC S0 rig ten p g g' p' n) := rfl
/-- the marks while the places below q are through -/
def tabP (S0 : Sto) (rig ten : Int32) (T : Nat → Nat → Bool) (k q g p : Nat) : Bool := (T g p || (decide (g = k + 1) && ((T k p && decide (p < q)) && bayH S0 p))) || anyN (fun i => (((T k (onN S0 i) && decide (onN S0 i < q)) && decide (p = otN S0 i)) || ((T k (otN S0 i) && decide (otN S0 i < q)) && decide (p = onN S0 i))) && ((fitH S0 rig.toNatClampNeg i && openH S0 rig (nI i) (ten + nI k)) && decide (g = k + tnN S0 i))) (S0.2.2 20)
theorem tabP_0 {S0 : Sto} {rig ten : Int32} {T : Nat → Nat → Bool} {k g p : Nat} : tabP S0 rig ten T k 0 g p = T g p := by
  unfold tabP
  have h0 : ∀ x : Nat, decide (x < 0) = false := fun x => decide_eq_false (Nat.not_lt_zero x)
  rw [anyN_f (fun i _ => by rw [h0, h0, Bool.and_false, Bool.and_false, Bool.false_and, Bool.false_and, Bool.false_or, Bool.false_and]), h0, Bool.and_false, Bool.false_and, Bool.and_false, Bool.or_false, Bool.or_false]
theorem tabP_k {S0 : Sto} (hW : WfH S0) {rig ten : Int32} {T : Nat → Nat → Bool} {k q p : Nat} : tabP S0 rig ten T k q k p = T k p := by
  unfold tabP
  rw [anyN_f (fun i hi => by
    obtain ⟨-, -, -, -, -, -, t1, -⟩ := ro_N hW hi
    rw [decide_eq_false (show ¬ k = k + tnN S0 i by omega), Bool.and_false, Bool.and_false]), decide_eq_false (show ¬ k = k + 1 by omega), Bool.false_and, Bool.or_false, Bool.or_false]
theorem tabP_5 {S0 : Sto} (h5 : ∀ i, i < S0.2.2 20 → onN S0 i < 5 ∧ otN S0 i < 5) {rig fr ten : Int32} {k g p : Nat} (hp : p < 5) : tabP S0 rig ten (tabH S0 rig fr ten k) k 5 g p = tabH S0 rig fr ten (k + 1) g p := by
  have hstep : tabH S0 rig fr ten (k + 1) g p = ((tabH S0 rig fr ten k g p || (decide (g = k + 1) && (tabH S0 rig fr ten k k p && bayH S0 p))) || anyN (fun i => ((tabH S0 rig fr ten k k (onN S0 i) && decide (p = otN S0 i)) || (tabH S0 rig fr ten k k (otN S0 i) && decide (p = onN S0 i))) && ((fitH S0 rig.toNatClampNeg i && openH S0 rig (nI i) (ten + nI k)) && decide (g = k + tnN S0 i))) (S0.2.2 20)) := rfl
  rw [hstep]
  unfold tabP
  rw [decide_eq_true hp, Bool.and_true]
  congr 1
  refine anyN_c fun i hi => ?_
  obtain ⟨l1, l2⟩ := h5 i hi
  rw [decide_eq_true l1, decide_eq_true l2, Bool.and_true, Bool.and_true]
theorem lq_s (t : Bool) (x q : Nat) : (t && decide (x < q + 1)) = ((t && decide (x < q)) || (t && decide (q = x))) := by
  by_cases h1 : x < q
  · rw [decide_eq_true h1, decide_eq_true (show x < q + 1 by omega)]
    cases t <;> simp
  · by_cases h2 : q = x
    · rw [decide_eq_false h1, decide_eq_true h2, decide_eq_true (show x < q + 1 by omega)]
      cases t <;> simp
    · rw [decide_eq_false h1, decide_eq_false h2, decide_eq_false (show ¬ x < q + 1 by omega)]
      cases t <;> simp
theorem bl_a : ∀ A e d A2 e2 d2 C : Bool, ((((A || e) && d) || ((A2 || e2) && d2)) && C) = ((((A && d) || (A2 && d2)) && C) || (((e && d) || (e2 && d2)) && C)) := by decide
theorem bl_b : ∀ t dk a e b n1 n2 : Bool, ((t || (dk && ((a || e) && b))) || (n1 || n2)) = ((((t || (dk && (a && b))) || n1) || (dk && (e && b))) || n2) := by decide
theorem tabP_s {S0 : Sto} {rig ten : Int32} {T : Nat → Nat → Bool} {k q g p : Nat} : tabP S0 rig ten T k (q + 1) g p = ((tabP S0 rig ten T k q g p || (decide (g = k + 1) && ((T k p && decide (q = p)) && bayH S0 p))) || anyN (fun i => (((T k (onN S0 i) && decide (q = onN S0 i)) && decide (p = otN S0 i)) || ((T k (otN S0 i) && decide (q = otN S0 i)) && decide (p = onN S0 i))) && ((fitH S0 rig.toNatClampNeg i && openH S0 rig (nI i) (ten + nI k)) && decide (g = k + tnN S0 i))) (S0.2.2 20)) := by
  unfold tabP
  rw [lq_s (T k p) p q, ← bl_b, ← anyN_or]
  congr 1
  refine anyN_c fun i _ => ?_
  rw [lq_s (T k (onN S0 i)) _ q, lq_s (T k (otN S0 i)) _ q, bl_a]
theorem tq_f {T : Nat → Nat → Bool} {k q x : Nat} (h : T k q = false) : (T k x && decide (q = x)) = false := by
  by_cases e : q = x
  · rw [← e, h, Bool.false_and]
  · rw [decide_eq_false e, Bool.and_false]
theorem tq_t {T : Nat → Nat → Bool} {k q x : Nat} (h : T k q = true) : (T k x && decide (q = x)) = decide (q = x) := by
  by_cases e : q = x
  · rw [← e, h, Bool.true_and]
  · rw [decide_eq_false e, Bool.and_false]
theorem tabP_f {S0 : Sto} {rig ten : Int32} {T : Nat → Nat → Bool} {k q g p : Nat} (h : T k q = false) : tabP S0 rig ten T k (q + 1) g p = tabP S0 rig ten T k q g p := by
  rw [tabP_s, tq_f h, anyN_f (fun i _ => by rw [tq_f h, tq_f h, Bool.false_and, Bool.false_and, Bool.false_or, Bool.false_and]), Bool.false_and, Bool.and_false, Bool.or_false, Bool.or_false]
theorem tabP_t {S0 : Sto} {rig ten : Int32} {T : Nat → Nat → Bool} {k q g p : Nat} (h : T k q = true) : tabP S0 rig ten T k (q + 1) g p = ((tabP S0 rig ten T k q g p || (decide (g = k + 1) && (decide (p = q) && bayH S0 q))) || lvN S0 rig ten q k g p (S0.2.2 20)) := by
  rw [tabP_s, tq_t h]
  congr 1
  · congr 2
    by_cases e : p = q
    · rw [e]
    · rw [decide_eq_false e, decide_eq_false fun z => e z.symm, Bool.false_and, Bool.false_and]
  · refine anyN_c fun i _ => ?_
    unfold lvC
    rw [tq_t h, tq_t h]
