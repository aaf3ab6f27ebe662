/-! THE INVARIANT, kept: bays, authorities, bridges -/
/-- a bay is told: the law's bits, the class's place -/
theorem inv_bay {T : Nat} {S : Sto} (hI : LawI T S) {p : Nat} (hp : p < 5) (is mm : Int32) (hb : is &&& 1 = is) (hm : ∀ q, q < 5 → bit mm q = if q = p then decide (is ≠ 0) else bit (S.1 10 9 1) q) : LawI T (wrI (wrI S 10 9 1 mm) 11 0 p is) := by
  have rd : ∀ k f i, (wrI (wrI S 10 9 1 mm) 11 0 p is).1 k f i = if k = 11 ∧ f = 0 ∧ i = p then is else if k = 10 ∧ f = 9 ∧ i = 1 then mm else S.1 k f i := fun k f i => by simp only [wrI_at]
  have n2 : (wrI (wrI S 10 9 1 mm) 11 0 p is).2.2 = S.2.2 := rfl
  generalize wrI (wrI S 10 9 1 mm) 11 0 p is = S' at rd n2
  obtain ⟨hW, hN, hro, hri, hwo, hpe, hem, hau, hmm, hba⟩ := hI
  refine ⟨?_, ?_, ?_, ?_, ?_, ?_, ?_, ?_, ?_, ?_⟩
  · unfold WfH RoF RiF at hW ⊢
    simpa [rd, n2] using hW
  · rw [n2]
    exact hN
  · unfold RoL onN otN at hro ⊢
    simpa [rd, n2] using hro
  · unfold RiL LoF DrF canT shrF reaF levF basF at hri ⊢
    simpa [rd, n2] using hri
  · unfold WoL at hwo ⊢
    simpa [rd, n2] using hwo
  · unfold PeL at hpe ⊢
    simpa [rd, n2] using hpe
  · unfold EmL at hem ⊢
    simpa [rd, n2] using hem
  · unfold AuL at hau ⊢
    simpa [rd, n2] using hau
  · obtain ⟨d1, d2, d3, d4, d5⟩ := hmm
    exact ⟨by simp [rd, d1], by simp [rd, d2], by simp [rd, n2, d3], by simp [rd, n2, d4], by simp [rd, n2, d5]⟩
  · refine ⟨fun q hq => ?_, fun i => ?_⟩
    · have e1 : S'.1 10 9 1 = mm := by simp [rd]
      unfold bayH
      rw [e1, hm q hq, rd]
      by_cases e : q = p
      · rw [if_pos e, if_pos ⟨rfl, rfl, e⟩]
      · rw [if_neg e, if_neg fun z => e z.2.2, if_neg fun z => absurd z.1 (by decide), hba.1 q hq]
        rfl
    · rw [rd]
      by_cases e : i = p
      · rw [if_pos ⟨rfl, rfl, e⟩]
        exact hb
      · rw [if_neg fun z => e z.2.2, if_neg fun z => absurd z.1 (by decide)]
        exact hba.2 i
theorem inv_authority {T : Nat} {S : Sto} (hI : LawI T S) {p : Nat} (hp : p < 4) (x : Nat) (hx : x ≤ 39) (y : Int32) : LawI T (wrI (wrI (wrI (wrI S 10 8 p (nI x)) 10 8 (4 + p) y) 10 0 p (nI x)) 10 1 p y) := by
  have rd : ∀ k f i, (wrI (wrI (wrI (wrI S 10 8 p (nI x)) 10 8 (4 + p) y) 10 0 p (nI x)) 10 1 p y).1 k f i = if k = 10 ∧ f = 1 ∧ i = p then y else if k = 10 ∧ f = 0 ∧ i = p then nI x else if k = 10 ∧ f = 8 ∧ i = 4 + p then y else if k = 10 ∧ f = 8 ∧ i = p then nI x else S.1 k f i := fun k f i => by simp only [wrI_at]
  have n2 : (wrI (wrI (wrI (wrI S 10 8 p (nI x)) 10 8 (4 + p) y) 10 0 p (nI x)) 10 1 p y).2.2 = S.2.2 := rfl
  generalize wrI (wrI (wrI (wrI S 10 8 p (nI x)) 10 8 (4 + p) y) 10 0 p (nI x)) 10 1 p y = S' at rd n2
  obtain ⟨hW, hN, hro, hri, hwo, hpe, hem, hau, hmm, hba⟩ := hI
  refine ⟨?_, ?_, ?_, ?_, ?_, ?_, ?_, ?_, ?_, ?_⟩
  · unfold WfH RoF RiF at hW ⊢
    simpa [rd, n2] using hW
  · rw [n2]
    exact hN
  · unfold RoL onN otN at hro ⊢
    simpa [rd, n2] using hro
  · unfold RiL LoF DrF canT shrF reaF levF basF at hri ⊢
    simpa [rd, n2] using hri
  · unfold WoL at hwo ⊢
    simpa [rd, n2] using hwo
  · unfold PeL at hpe ⊢
    simpa [rd, n2] using hpe
  · unfold EmL at hem ⊢
    simpa [rd, n2] using hem
  · intro i hi
    obtain ⟨c1, c2, z, c3, c4⟩ := hau i hi
    by_cases e : i = p
    · subst e
      refine ⟨?_, ?_, x, ?_, hx⟩
      · rw [rd, rd]
        rw [if_neg fun z => absurd z.2.1 (by decide), if_neg fun z => absurd z.2.1 (by decide), if_neg fun z => by omega, if_pos ⟨rfl, rfl, rfl⟩, if_neg fun z => absurd z.2.1 (by decide), if_pos ⟨rfl, rfl, rfl⟩]
      · rw [rd, rd]
        rw [if_neg fun z => absurd z.2.1 (by decide), if_neg fun z => absurd z.2.1 (by decide), if_pos ⟨rfl, rfl, rfl⟩, if_pos ⟨rfl, rfl, rfl⟩]
      · rw [rd]
        rw [if_neg fun z => absurd z.2.1 (by decide), if_pos ⟨rfl, rfl, rfl⟩]
    · have o : ∀ f i', ¬ (i' = p) → ¬ (i' = 4 + p) → S'.1 10 f i' = S.1 10 f i' := fun f i' a b => by
        rw [rd]
        rw [if_neg fun z => a z.2.2, if_neg fun z => a z.2.2, if_neg fun z => b z.2.2, if_neg fun z => a z.2.2]
      refine ⟨?_, ?_, z, ?_, c4⟩
      · rw [o 8 i e (by omega), o 0 i e (by omega)]
        exact c1
      · rw [o 8 (4 + i) (by omega) (by omega), o 1 i e (by omega)]
        exact c2
      · rw [o 0 i e (by omega)]
        exact c3
  · obtain ⟨d1, d2, d3, d4, d5⟩ := hmm
    exact ⟨by simp [rd, d1], by simp [rd, d2], by simp [rd, n2, d3], by simp [rd, n2, d4], by simp [rd, n2, d5]⟩
  · unfold BaL bayH at hba ⊢
    simpa [rd, n2] using hba
/-- the law's rows of a bridge -/
def lwB (S : Sto) (d : Nat) (a b c : Int32) : Sto := wrI (wrI (wrI S 10 3 (10 * d + 7) a) 10 3 (10 * d + 8) b) 10 3 (10 * d + 9) c
theorem inv_bridge {T : Nat} {S : Sto} (hI : LawI T S) {d : Nat} (hd : d < 6) (a b c : Int32) (ha : rg a 1 40) : LawI T (brgS (lwB S d a b c) d a b c) := by
  have rd : ∀ k f i, (brgS (lwB S d a b c) d a b c).1 k f i = if k = 2 ∧ f = 9 ∧ i = d then c else if k = 2 ∧ f = 8 ∧ i = d then b else if k = 2 ∧ f = 7 ∧ i = d then a else if k = 10 ∧ f = 3 ∧ i = 10 * d + 9 then c else if k = 10 ∧ f = 3 ∧ i = 10 * d + 8 then b else if k = 10 ∧ f = 3 ∧ i = 10 * d + 7 then a else S.1 k f i := fun k f i => by
    unfold brgS lwB
    simp only [wrI_at]
  have n2 : (brgS (lwB S d a b c) d a b c).2.2 = S.2.2 := rfl
  generalize brgS (lwB S d a b c) d a b c = S' at rd n2
  obtain ⟨hW, hN, hro, hri, hwo, hpe, hem, hau, hmm, hba⟩ := hI
  obtain ⟨m, em, m1, m2⟩ := rg_nI (a := 1) (b := 40) ha (by omega) (by omega)
  refine ⟨?_, ?_, ?_, ?_, ?_, ?_, ?_, ?_, ?_, ?_⟩
  · obtain ⟨w1, w2, w3, w4, w5, w6, w7, w8⟩ := hW
    refine ⟨by simpa [n2] using w1, by simpa [n2] using w2, by simpa [n2] using w3, by simpa [rd, n2] using w4, by simpa [rd, n2] using w5, by simpa [rd, n2] using w6, fun i hi => ?_, ?_⟩
    · rw [n2] at hi
      obtain ⟨p, q, a', t, s, h1, h2, h3, h4, h5, h6, h7, h8, h9, h10, h11, h12⟩ := w7 i hi
      by_cases e : i = d
      · exact ⟨p, q, a', t, m, by simp [rd, h1], by simp [rd, h2], by simp [rd, h3], by simp [rd, h4], by simp [rd, e, em], h6, h7, h8, h9, h10, h11, m2⟩
      · exact ⟨p, q, a', t, s, by simp [rd, h1], by simp [rd, h2], by simp [rd, h3], by simp [rd, h4], by simp [rd, e, h5], h6, h7, h8, h9, h10, h11, h12⟩
    · unfold RiF at w8 ⊢
      simpa [rd, n2] using w8
  · rw [n2]
    exact hN
  · intro i hi
    obtain ⟨c0, c1, c2⟩ := hro i hi
    refine ⟨fun f hf => ?_, by unfold onN at c1 ⊢; simpa [rd] using c1, by unfold otN at c2 ⊢; simpa [rd] using c2⟩
    have h9 := c0 f hf
    rw [rd, rd]
    by_cases e : i = d
    · subst e
      by_cases f9 : f = 9
      · subst f9; simp
      · by_cases f8 : f = 8
        · subst f8; simp
        · by_cases f7 : f = 7
          · subst f7; simp
          · simp [f9, f8, f7, h9]
    · have e9 : ¬ 10 * i + f = 10 * d + 9 := by omega
      have e8 : ¬ 10 * i + f = 10 * d + 8 := by omega
      have e7 : ¬ 10 * i + f = 10 * d + 7 := by omega
      simp [e, e9, e8, e7, h9]
  · unfold RiL LoF DrF canT shrF reaF levF basF at hri ⊢
    simpa [rd, n2] using hri
  · unfold WoL at hwo ⊢
    simpa [rd, n2] using hwo
  · unfold PeL at hpe ⊢
    simpa [rd, n2] using hpe
  · unfold EmL at hem ⊢
    simpa [rd, n2] using hem
  · unfold AuL at hau ⊢
    simpa [rd, n2] using hau
  · obtain ⟨d1, d2, d3, d4, d5⟩ := hmm
    exact ⟨by simp [rd, d1], by simp [rd, d2], by simp [rd, n2, d3], by simp [rd, n2, d4], by simp [rd, n2, d5]⟩
  · unfold BaL bayH at hba ⊢
    simpa [rd, n2] using hba
