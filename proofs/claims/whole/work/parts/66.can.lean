/-! WHAT THE CONSTRUCTORS LEAVE, in one form -/
def isIn (f : Nat) : Bool := f == 0 || f == 12 || f == 14 || f == 28 || f == 32 || f == 34 || f == 37
def can (a b l o m p q x : Nat) : Sto := (fun k f i => if k = 17 ∧ i = 0 ∧ f < p then 1 else if k = 18 ∧ i = 0 ∧ f < q ∧ isIn f = false then 1 else if k = 10 ∧ f = 1 ∧ i < 4 ∧ x = 1 then 99999 else 0, 0, fun k => if k = 10 then a else if k = 11 then b else if k = 13 then l else if k = 17 then o else if k = 18 then m else 0)
theorem can_at {a b l o m p q x k f i : Nat} : (can a b l o m p q x).1 k f i = if k = 17 ∧ i = 0 ∧ f < p then 1 else if k = 18 ∧ i = 0 ∧ f < q ∧ isIn f = false then 1 else if k = 10 ∧ f = 1 ∧ i < 4 ∧ x = 1 then 99999 else 0 := rfl
theorem can_n {a b l o m p q x k : Nat} : (can a b l o m p q x).2.2 k = if k = 10 then a else if k = 11 then b else if k = 13 then l else if k = 17 then o else if k = 18 then m else 0 := rfl
theorem n_eq {S : Sto} {N N' : Nat → Nat} (h : N = N') : (S.1, S.2.1, N) = (S.1, S.2.1, N') := by rw [h]
theorem sto_eq3 {S S' : Sto} (h1 : ∀ k f i, S.1 k f i = S'.1 k f i) (h2 : S.2.1 = S'.2.1) (h3 : ∀ k, S.2.2 k = S'.2.2 k) : S = S' := sto_eq h1 (by
  have : S.2.2 = S'.2.2 := funext h3
  exact Prod.ext h2 this)
theorem can_A10 {a b l o m p q x : Nat} (h : x = 1 → a ≠ 1) : mkA (can a b l o m p q x) 10 = can (a + 1) b l o m p q x := by
  refine sto_eq3 (fun k f i => ?_) rfl (fun k => ?_)
  · show (if k = 10 ∧ f = a then (fun _ => (0 : Int32)) else (can a b l o m p q x).1 k f) i = _
    by_cases e : k = 10 ∧ f = a
    · rw [if_pos e]
      obtain ⟨rfl, rfl⟩ := e
      rw [can_at, if_neg fun z => absurd z.1 (by decide), if_neg fun z => absurd z.1 (by decide), if_neg fun z => h z.2.2.2 z.2.1]
    · rw [if_neg e]
      rfl
  · show (if k = 10 then a + 1 else (can a b l o m p q x).2.2 k) = _
    by_cases e : k = 10
    · subst e; rfl
    · rw [if_neg e]
      show (if k = 10 then _ else _) = (if k = 10 then _ else _)
      rw [if_neg e, if_neg e]
theorem can_A11 {a b l o m p q x : Nat} : mkA (can a b l o m p q x) 11 = can a (b + 1) l o m p q x := by
  refine sto_eq3 (fun k f i => ?_) rfl (fun k => ?_)
  · show (if k = 11 ∧ f = b then (fun _ => (0 : Int32)) else (can a b l o m p q x).1 k f) i = _
    by_cases e : k = 11 ∧ f = b
    · rw [if_pos e]
      obtain ⟨rfl, rfl⟩ := e
      rw [can_at, if_neg fun z => absurd z.1 (by decide), if_neg fun z => absurd z.1 (by decide), if_neg fun z => absurd z.1 (by decide)]
    · rw [if_neg e]
      rfl
  · show (if k = 11 then b + 1 else (can a b l o m p q x).2.2 k) = _
    by_cases e : k = 11
    · subst e; rfl
    · rw [if_neg e]
      show (if k = 10 then _ else if k = 11 then _ else _) = (if k = 10 then _ else if k = 11 then _ else _)
      rw [if_neg e, if_neg e]
theorem can_L {a b l o m p q x : Nat} : mkL (can a b l o m p q x) = can a b (l + 1) o m p q x := by
  refine sto_eq3 (fun k f i => rfl) rfl (fun k => ?_)
  show (if k = 13 then l + 1 else (can a b l o m p q x).2.2 k) = _
  by_cases e : k = 13
  · subst e; rfl
  · rw [if_neg e]
    show (if k = 10 then _ else if k = 11 then _ else if k = 13 then _ else _) = (if k = 10 then _ else if k = 11 then _ else if k = 13 then _ else _)
    rw [if_neg e, if_neg e]
theorem can_w17 {a b l o m q x f : Nat} : wrI (can a b l o m f q x) 17 f 0 1 = can a b l o m (f + 1) q x := by
  refine sto_eq3 (fun k f' i => ?_) rfl (fun k => rfl)
  rw [wrI_at, can_at, can_at]
  by_cases e : k = 17 ∧ f' = f ∧ i = 0
  · have e3 : k = 17 ∧ i = 0 ∧ f' < f + 1 := ⟨e.1, e.2.2, by omega⟩
    rw [if_pos e, if_pos e3]
  · rw [if_neg e]
    by_cases e2 : k = 17 ∧ i = 0 ∧ f' < f
    · have e3 : k = 17 ∧ i = 0 ∧ f' < f + 1 := ⟨e2.1, e2.2.1, by omega⟩
      rw [if_pos e2, if_pos e3]
    · have e3 : ¬ (k = 17 ∧ i = 0 ∧ f' < f + 1) := by omega
      rw [if_neg e2, if_neg e3]
theorem can_w9 {a b l o m q x : Nat} : wrI (can a b l o m 9 q x) 17 9 0 0 = can a b l o m 9 q x := by
  refine sto_eq3 (fun k f' i => ?_) rfl (fun k => rfl)
  rw [wrI_at]
  by_cases e : k = 17 ∧ f' = 9 ∧ i = 0
  · rw [if_pos e]
    obtain ⟨rfl, rfl, rfl⟩ := e
    rfl
  · rw [if_neg e]
theorem can_w18 {a b l o m p q x f : Nat} (hq : q ≤ f) (h1 : isIn f = false) (h2 : ∀ z, q ≤ z → z < f → isIn z = true) : wrI (can a b l o m p q x) 18 f 0 1 = can a b l o m p (f + 1) x := by
  refine sto_eq3 (fun k f' i => ?_) rfl (fun k => rfl)
  rw [wrI_at, can_at, can_at]
  by_cases e3 : k = 17 ∧ i = 0 ∧ f' < p
  · have e : ¬ (k = 18 ∧ f' = f ∧ i = 0) := by omega
    rw [if_neg e, if_pos e3, if_pos e3]
  · by_cases e : k = 18 ∧ f' = f ∧ i = 0
    · have e4 : k = 18 ∧ i = 0 ∧ f' < f + 1 ∧ isIn f' = false := ⟨e.1, e.2.2, by omega, by rw [e.2.1]; exact h1⟩
      rw [if_pos e, if_neg e3, if_pos e4]
    · rw [if_neg e, if_neg e3, if_neg e3]
      by_cases e2 : k = 18 ∧ i = 0 ∧ f' < q ∧ isIn f' = false
      · have e4 : k = 18 ∧ i = 0 ∧ f' < f + 1 ∧ isIn f' = false := ⟨e2.1, e2.2.1, by omega, e2.2.2.2⟩
        rw [if_pos e2, if_pos e4]
      · have e4 : ¬ (k = 18 ∧ i = 0 ∧ f' < f + 1 ∧ isIn f' = false) := fun z => by
          have h3 : f' ≠ f := fun y => e ⟨z.1, y, z.2.1⟩
          have h4 : f' < f := by omega
          have h6 : f' < q := Nat.not_le.mp fun y => by
            have h5 := h2 f' y h4
            rw [z.2.2.2] at h5
            cases h5
          exact e2 ⟨z.1, z.2.1, h6, z.2.2.2⟩
        rw [if_neg e2, if_neg e4]
theorem can_f {a b l o m p q : Nat} : fillS (can a b l o m p q 0) 1 99999 4 = can a b l o m p q 1 := by
  refine sto_eq3 (fun k f i => ?_) rfl (fun k => rfl)
  show (if k = 10 ∧ f = 1 ∧ i < 4 then (99999 : Int32) else (can a b l o m p q 0).1 k f i) = _
  rw [can_at, can_at]
  have e0 : ¬ (k = 10 ∧ f = 1 ∧ i < 4 ∧ (0 : Nat) = 1) := by omega
  rw [if_neg e0]
  by_cases e : k = 10 ∧ f = 1 ∧ i < 4
  · have e1 : ¬ (k = 17 ∧ i = 0 ∧ f < p) := by omega
    have e2 : ¬ (k = 18 ∧ i = 0 ∧ f < q ∧ isIn f = false) := fun z => by omega
    have e3 : k = 10 ∧ f = 1 ∧ i < 4 ∧ (1 : Nat) = 1 := ⟨e.1, e.2.1, e.2.2, rfl⟩
    rw [if_pos e, if_neg e1, if_neg e2, if_pos e3]
  · have e3 : ¬ (k = 10 ∧ f = 1 ∧ i < 4 ∧ (1 : Nat) = 1) := by omega
    rw [if_neg e, if_neg e3]
theorem can_O17 : mkO S00 17 = can 0 0 0 1 0 0 0 0 := by
  refine sto_eq3 (fun k f i => ?_) rfl (fun k => ?_)
  · rw [mkO_at, can_at]
    have e1 : ¬ (k = 17 ∧ i = 0 ∧ f < 0) := by omega
    have e2 : ¬ (k = 18 ∧ i = 0 ∧ f < 0 ∧ isIn f = false) := fun z => by omega
    have e3 : ¬ (k = 10 ∧ f = 1 ∧ i < 4 ∧ (0 : Nat) = 1) := by omega
    rw [if_neg e1, if_neg e2, if_neg e3]
    split <;> rfl
  · rw [can_n]
    show (if k = 17 then 0 + 1 else 0) = _
    by_cases e : k = 17
    · subst e; rfl
    · rw [if_neg e, if_neg e]
      split <;> (try rfl)
      split <;> (try rfl)
      split <;> (try rfl)
      split <;> rfl
theorem can_O18 {a b l o p x : Nat} : mkO (can a b l o 0 p 0 x) 18 = can a b l o 1 p 0 x := by
  refine sto_eq3 (fun k f i => ?_) rfl (fun k => ?_)
  · rw [mkO_at]
    by_cases e : k = 18 ∧ i = 0
    · rw [if_pos (show k = 18 ∧ i = (can a b l o 0 p 0 x).2.2 18 from e)]
      obtain ⟨rfl, rfl⟩ := e
      rw [can_at, if_neg fun z => absurd z.1 (by decide), if_neg fun z => absurd z.2.2.1 (Nat.not_lt_zero _), if_neg fun z => absurd z.1 (by decide)]
    · rw [if_neg (show ¬ (k = 18 ∧ i = (can a b l o 0 p 0 x).2.2 18) from e)]
      rfl
  · show (if k = 18 then 0 + 1 else if k = 10 then a else if k = 11 then b else if k = 13 then l else if k = 17 then o else if k = 18 then 0 else 0) = if k = 10 then a else if k = 11 then b else if k = 13 then l else if k = 17 then o else if k = 18 then 1 else 0
    by_cases e : k = 18
    · subst e; rfl
    · rw [if_neg e, if_neg e, if_neg e]
theorem eH0 : cH0 = can 0 0 0 1 0 0 0 0 := can_O17
theorem eH1 : cH1 = can 0 1 0 1 0 1 0 0 := by
  unfold cH1
  rw [eH0, can_A11, can_w17]
theorem eH2 : cH2 = can 1 1 0 1 0 2 0 0 := by
  unfold cH2
  rw [eH1, can_A10 (by decide), can_w17]
theorem eH3 : cH3 = can 2 1 0 1 0 3 0 0 := by
  unfold cH3
  rw [eH2, can_A10 (by decide), can_w17]
theorem eH4 : cH4 = can 2 1 1 1 0 4 0 0 := by
  unfold cH4
  rw [eH3, can_L, can_w17]
theorem eH5 : cH5 = can 2 1 2 1 0 5 0 0 := by
  unfold cH5
  rw [eH4, can_L, can_w17]
theorem eH6 : cH6 = can 2 1 3 1 0 6 0 0 := by
  unfold cH6
  rw [eH5, can_L, can_w17]
theorem eH7 : cH7 = can 2 1 4 1 0 7 0 0 := by
  unfold cH7
  rw [eH6, can_L, can_w17]
theorem eH8 : cH8 = can 2 1 5 1 0 8 0 0 := by
  unfold cH8
  rw [eH7, can_L, can_w17]
theorem eH9 : cH9 = can 3 1 5 1 0 9 0 0 := by
  unfold cH9
  rw [eH8, can_A10 (by decide), can_w17]
theorem eHa : cHa = can 3 1 5 1 0 9 0 0 := by
  unfold cHa
  rw [eH9, can_w9]
theorem eHb : cHb = can 3 1 5 1 0 9 0 1 := by
  unfold cHb
  rw [eHa, can_f]
theorem eM0 : cM0 = can 3 1 5 1 1 9 0 1 := by
  unfold cM0
  rw [eHb, can_O18]
theorem eM1 : cM1 = can 3 2 5 1 1 9 2 1 := by
  unfold cM1
  rw [eM0, can_A11, can_w18 (by decide) rfl (fun z h1 h2 => by
    obtain rfl : z = 0 := by omega
    rfl)]
theorem eM2 : cM2 = can 4 2 5 1 1 9 3 1 := by
  unfold cM2
  rw [eM1, can_A10 (by decide), can_w18 (by decide) rfl (fun z h1 h2 => absurd h1 (by omega))]
theorem eM3 : cM3 = can 5 2 5 1 1 9 4 1 := by
  unfold cM3
  rw [eM2, can_A10 (by decide), can_w18 (by decide) rfl (fun z h1 h2 => absurd h1 (by omega))]
theorem eM4 : cM4 = can 6 2 5 1 1 9 5 1 := by
  unfold cM4
  rw [eM3, can_A10 (by decide), can_w18 (by decide) rfl (fun z h1 h2 => absurd h1 (by omega))]
theorem eM5 : cM5 = can 7 2 5 1 1 9 6 1 := by
  unfold cM5
  rw [eM4, can_A10 (by decide), can_w18 (by decide) rfl (fun z h1 h2 => absurd h1 (by omega))]
theorem eM6 : cM6 = can 8 2 5 1 1 9 7 1 := by
  unfold cM6
  rw [eM5, can_A10 (by decide), can_w18 (by decide) rfl (fun z h1 h2 => absurd h1 (by omega))]
theorem eM7 : cM7 = can 9 2 5 1 1 9 8 1 := by
  unfold cM7
  rw [eM6, can_A10 (by decide), can_w18 (by decide) rfl (fun z h1 h2 => absurd h1 (by omega))]
theorem eM8 : cM8 = can 10 2 5 1 1 9 9 1 := by
  unfold cM8
  rw [eM7, can_A10 (by decide), can_w18 (by decide) rfl (fun z h1 h2 => absurd h1 (by omega))]
theorem eM9 : cM9 = can 11 2 5 1 1 9 10 1 := by
  unfold cM9
  rw [eM8, can_A10 (by decide), can_w18 (by decide) rfl (fun z h1 h2 => absurd h1 (by omega))]
theorem eM10 : cM10 = can 12 2 5 1 1 9 11 1 := by
  unfold cM10
  rw [eM9, can_A10 (by decide), can_w18 (by decide) rfl (fun z h1 h2 => absurd h1 (by omega))]
theorem eM11 : cM11 = can 13 2 5 1 1 9 12 1 := by
  unfold cM11
  rw [eM10, can_A10 (by decide), can_w18 (by decide) rfl (fun z h1 h2 => absurd h1 (by omega))]
theorem eM12 : cM12 = can 14 2 5 1 1 9 14 1 := by
  unfold cM12
  rw [eM11, can_A10 (by decide), can_w18 (by decide) rfl (fun z h1 h2 => by
    obtain rfl : z = 12 := by omega
    rfl)]
theorem eM13 : cM13 = can 15 2 5 1 1 9 16 1 := by
  unfold cM13
  rw [eM12, can_A10 (by decide), can_w18 (by decide) rfl (fun z h1 h2 => by
    obtain rfl : z = 14 := by omega
    rfl)]
theorem eM14 : cM14 = can 16 2 5 1 1 9 17 1 := by
  unfold cM14
  rw [eM13, can_A10 (by decide), can_w18 (by decide) rfl (fun z h1 h2 => absurd h1 (by omega))]
theorem eM15 : cM15 = can 17 2 5 1 1 9 18 1 := by
  unfold cM15
  rw [eM14, can_A10 (by decide), can_w18 (by decide) rfl (fun z h1 h2 => absurd h1 (by omega))]
theorem eM16 : cM16 = can 18 2 5 1 1 9 19 1 := by
  unfold cM16
  rw [eM15, can_A10 (by decide), can_w18 (by decide) rfl (fun z h1 h2 => absurd h1 (by omega))]
theorem eM17 : cM17 = can 19 2 5 1 1 9 20 1 := by
  unfold cM17
  rw [eM16, can_A10 (by decide), can_w18 (by decide) rfl (fun z h1 h2 => absurd h1 (by omega))]
theorem eM18 : cM18 = can 20 2 5 1 1 9 21 1 := by
  unfold cM18
  rw [eM17, can_A10 (by decide), can_w18 (by decide) rfl (fun z h1 h2 => absurd h1 (by omega))]
theorem eM19 : cM19 = can 21 2 5 1 1 9 22 1 := by
  unfold cM19
  rw [eM18, can_A10 (by decide), can_w18 (by decide) rfl (fun z h1 h2 => absurd h1 (by omega))]
theorem eM20 : cM20 = can 22 2 5 1 1 9 23 1 := by
  unfold cM20
  rw [eM19, can_A10 (by decide), can_w18 (by decide) rfl (fun z h1 h2 => absurd h1 (by omega))]
theorem eM21 : cM21 = can 23 2 5 1 1 9 24 1 := by
  unfold cM21
  rw [eM20, can_A10 (by decide), can_w18 (by decide) rfl (fun z h1 h2 => absurd h1 (by omega))]
theorem eM22 : cM22 = can 24 2 5 1 1 9 25 1 := by
  unfold cM22
  rw [eM21, can_A10 (by decide), can_w18 (by decide) rfl (fun z h1 h2 => absurd h1 (by omega))]
theorem eM23 : cM23 = can 25 2 5 1 1 9 26 1 := by
  unfold cM23
  rw [eM22, can_A10 (by decide), can_w18 (by decide) rfl (fun z h1 h2 => absurd h1 (by omega))]
theorem eM24 : cM24 = can 26 2 5 1 1 9 27 1 := by
  unfold cM24
  rw [eM23, can_A10 (by decide), can_w18 (by decide) rfl (fun z h1 h2 => absurd h1 (by omega))]
theorem eM25 : cM25 = can 27 2 5 1 1 9 28 1 := by
  unfold cM25
  rw [eM24, can_A10 (by decide), can_w18 (by decide) rfl (fun z h1 h2 => absurd h1 (by omega))]
theorem eM26 : cM26 = can 28 2 5 1 1 9 30 1 := by
  unfold cM26
  rw [eM25, can_A10 (by decide), can_w18 (by decide) rfl (fun z h1 h2 => by
    obtain rfl : z = 28 := by omega
    rfl)]
theorem eM27 : cM27 = can 29 2 5 1 1 9 31 1 := by
  unfold cM27
  rw [eM26, can_A10 (by decide), can_w18 (by decide) rfl (fun z h1 h2 => absurd h1 (by omega))]
theorem eM28 : cM28 = can 30 2 5 1 1 9 32 1 := by
  unfold cM28
  rw [eM27, can_A10 (by decide), can_w18 (by decide) rfl (fun z h1 h2 => absurd h1 (by omega))]
theorem eM29 : cM29 = can 31 2 5 1 1 9 34 1 := by
  unfold cM29
  rw [eM28, can_A10 (by decide), can_w18 (by decide) rfl (fun z h1 h2 => by
    obtain rfl : z = 32 := by omega
    rfl)]
theorem eM30 : cM30 = can 31 3 5 1 1 9 36 1 := by
  unfold cM30
  rw [eM29, can_A11, can_w18 (by decide) rfl (fun z h1 h2 => by
    obtain rfl : z = 34 := by omega
    rfl)]
theorem eM31 : cM31 = can 31 4 5 1 1 9 37 1 := by
  unfold cM31
  rw [eM30, can_A11, can_w18 (by decide) rfl (fun z h1 h2 => absurd h1 (by omega))]
def cX : Sto := fillS (can 31 4 5 1 1 9 37 1) 28 99999 4
theorem eMx : cMx = cX := by
  unfold cMx cX
  rw [eM31]
