/-! THE INVARIANT, kept: what is told -/
theorem mkO_at {S : Sto} {k0 k f i : Nat} : (mkO S k0).1 k f i = if k = k0 ∧ i = S.2.2 k0 then 0 else S.1 k f i := by
  by_cases h : k = k0 ∧ i = S.2.2 k0
  · rw [if_pos h, h.1, h.2]
    exact mkO_new
  · rw [if_neg h]
    exact mkO_ne h
/-- what the law writes ahead of an embargo -/
def lwE (S : Sto) (a f t : Int32) : Sto := wrI (wrI (wrI (wrI S 10 7 (3 * S.2.2 24) a) 10 7 (3 * S.2.2 24 + 1) f) 10 7 (3 * S.2.2 24 + 2) t) 10 9 4 (nI (S.2.2 24 + 1))
theorem inv_embargo {T : Nat} {S : Sto} (hI : LawI T S) (hlt : S.2.2 24 < 3) (a f9 t : Int32) (hft : f9 < t) : LawI T (newE (lwE S a f9 t) a f9 t) := by
  have w21 : S.2.2 6 = S.2.2 24 := hI.1.2.2.1.2.2.2.2.1
  have w27 : S.2.2 9 = S.2.2 24 := hI.1.2.2.1.2.2.2.2.2.2.2
  obtain ⟨n, hn⟩ : ∃ n, n = S.2.2 24 := ⟨_, rfl⟩
  rw [← hn] at hlt w21 w27
  have rd : ∀ k f i, (newE (lwE S a f9 t) a f9 t).1 k f i = if k = 6 ∧ f = 1 ∧ i = n then 1 else if k = 6 ∧ f = 0 ∧ i = n then a else if k = 9 ∧ f = 1 ∧ i = n then t else if k = 9 ∧ f = 0 ∧ i = n then f9 else if k = 9 ∧ i = n then 0 else if k = 6 ∧ i = n then 0 else
      if k = 10 ∧ f = 9 ∧ i = 4 then nI (n + 1) else if k = 10 ∧ f = 7 ∧ i = 3 * n + 2 then t else if k = 10 ∧ f = 7 ∧ i = 3 * n + 1 then f9 else if k = 10 ∧ f = 7 ∧ i = 3 * n then a else S.1 k f i := fun k f i => by
    have e7 : (mkO (lwE S a f9 t) 6).2.2 9 = n := by
      show (if (9 : Nat) = 6 then S.2.2 6 + 1 else S.2.2 9) = n
      rw [if_neg (by decide), w27]
    have e6 : (lwE S a f9 t).2.2 6 = n := w21
    have e9 : (lwE S a f9 t).2.2 9 = n := w27
    unfold newE sAdd
    simp only [wrI_at, mkO_at, e6, e7, e9]
    unfold lwE
    simp only [wrI_at, ← hn]
  have n2 : ∀ q, (newE (lwE S a f9 t) a f9 t).2.2 q = if q = 24 then n + 1 else if q = 9 then n + 1 else if q = 6 then n + 1 else S.2.2 q := fun q => by
    show (if q = 24 then (if (24 : Nat) = 9 then (if (9 : Nat) = 6 then S.2.2 6 + 1 else S.2.2 9) + 1 else if (24 : Nat) = 6 then S.2.2 6 + 1 else S.2.2 24) + 1 else if q = 9 then (if (9 : Nat) = 6 then S.2.2 6 + 1 else S.2.2 9) + 1 else if q = 6 then S.2.2 6 + 1 else S.2.2 q) = _
    rw [if_neg (show ¬ (24 : Nat) = 9 by decide), if_neg (show ¬ (24 : Nat) = 6 by decide), if_neg (show ¬ (9 : Nat) = 6 by decide), w21, w27, ← hn]
  generalize newE (lwE S a f9 t) a f9 t = S' at rd n2
  obtain ⟨hW, hN, hro, hri, hwo, hpe, hem, hau, hmm, hba⟩ := hI
  refine ⟨?_, ?_, ?_, ?_, ?_, ?_, ?_, ?_, ?_, ?_⟩
  · obtain ⟨w1, w2, w3, w4, w5, w6, w7, w8⟩ := hW
    refine ⟨by simpa [n2] using w1, ?_, ?_, by simpa [rd, n2] using w4, by simpa [rd, n2] using w5, fun i hi => ?_, ?_, ?_⟩
    · simp only [n2]
      exact ⟨w2.1, w2.2.1, w2.2.2.1, w2.2.2.2.1, by simp; omega⟩
    · obtain ⟨v1, v2, v3, v4, v5, v6, v7, v8⟩ := w3
      simp only [n2]
      exact ⟨v1, v2, v3, v4, by simp, v6, v7, by simp⟩
    · rw [n2, if_pos rfl] at hi
      by_cases e1 : i = n
      · simp [rd, e1]
      · simpa [rd, e1] using w6 i (by omega)
    · unfold RoF at w7 ⊢
      simpa [rd, n2] using w7
    · unfold RiF at w8 ⊢
      simpa [rd, n2] using w8
  · simp only [n2]
    exact ⟨hN.1, hN.2.1, hN.2.2.1, hN.2.2.2.1, by simp; omega⟩
  · unfold RoL onN otN at hro ⊢
    simpa [rd, n2] using hro
  · unfold RiL LoF DrF canT shrF reaF levF basF at hri ⊢
    simpa [rd, n2] using hri
  · unfold WoL at hwo ⊢
    simpa [rd, n2] using hwo
  · unfold PeL at hpe ⊢
    simpa [rd, n2] using hpe
  · intro i hi
    rw [n2, if_pos rfl] at hi
    by_cases e1 : i = n
    · subst e1
      simp [rd, hft]
    · have old : ∀ q, q < 3 * n → S'.1 10 7 q = S.1 10 7 q := fun q hq => by
        rw [rd]
        rw [if_neg (by omega), if_neg (by omega), if_neg (by omega), if_neg (by omega), if_neg (by omega), if_neg (by omega), if_neg (by omega), if_neg (by omega), if_neg (by omega), if_neg (by omega)]
      rw [old (3 * i) (by omega), old (3 * i + 1) (by omega), old (3 * i + 2) (by omega)]
      simpa [rd, e1] using hem i (by omega)
  · unfold AuL at hau ⊢
    simpa [rd, n2] using hau
  · obtain ⟨d1, d2, d3, d4, d5⟩ := hmm
    exact ⟨by simp [rd, d1], by simp [rd, d2], by simp [rd, n2, d3], by simp [rd, n2, d4], by simp [rd, n2]⟩
  · unfold BaL bayH at hba ⊢
    simpa [rd, n2] using hba
/-- .. ahead of a permit -/
def lwP (S : Sto) (r a f t : Int32) : Sto := wrI (wrI (wrI (wrI (wrI S 10 6 (4 * S.2.2 23) r) 10 6 (4 * S.2.2 23 + 1) a) 10 6 (4 * S.2.2 23 + 2) f) 10 6 (4 * S.2.2 23 + 3) t) 10 9 3 (nI (S.2.2 23 + 1))
theorem inv_permit {T : Nat} {S : Sto} (hI : LawI T S) (hlt : S.2.2 23 < 12) (r a f9 t : Int32) : LawI T (newP (lwP S r a f9 t) r a f9 t) := by
  have w21 : S.2.2 5 = S.2.2 23 := hI.1.2.2.1.2.2.2.1
  have w27 : S.2.2 8 = S.2.2 23 := hI.1.2.2.1.2.2.2.2.2.2.1
  obtain ⟨n, hn⟩ : ∃ n, n = S.2.2 23 := ⟨_, rfl⟩
  rw [← hn] at hlt w21 w27
  have rd : ∀ k f i, (newP (lwP S r a f9 t) r a f9 t).1 k f i = if k = 5 ∧ f = 2 ∧ i = n then 1 else if k = 5 ∧ f = 1 ∧ i = n then a else if k = 5 ∧ f = 0 ∧ i = n then r else if k = 8 ∧ f = 1 ∧ i = n then t else if k = 8 ∧ f = 0 ∧ i = n then f9 else if k = 8 ∧ i = n then 0 else if k = 5 ∧ i = n then 0 else
      if k = 10 ∧ f = 9 ∧ i = 3 then nI (n + 1) else if k = 10 ∧ f = 6 ∧ i = 4 * n + 3 then t else if k = 10 ∧ f = 6 ∧ i = 4 * n + 2 then f9 else if k = 10 ∧ f = 6 ∧ i = 4 * n + 1 then a else if k = 10 ∧ f = 6 ∧ i = 4 * n then r else S.1 k f i := fun k f i => by
    have e7 : (mkO (lwP S r a f9 t) 5).2.2 8 = n := by
      show (if (8 : Nat) = 5 then S.2.2 5 + 1 else S.2.2 8) = n
      rw [if_neg (by decide), w27]
    have e6 : (lwP S r a f9 t).2.2 5 = n := w21
    have e9 : (lwP S r a f9 t).2.2 8 = n := w27
    unfold newP sAdd
    simp only [wrI_at, mkO_at, e6, e7, e9]
    unfold lwP
    simp only [wrI_at, ← hn]
  have n2 : ∀ q, (newP (lwP S r a f9 t) r a f9 t).2.2 q = if q = 23 then n + 1 else if q = 8 then n + 1 else if q = 5 then n + 1 else S.2.2 q := fun q => by
    show (if q = 23 then (if (23 : Nat) = 8 then (if (8 : Nat) = 5 then S.2.2 5 + 1 else S.2.2 8) + 1 else if (23 : Nat) = 5 then S.2.2 5 + 1 else S.2.2 23) + 1 else if q = 8 then (if (8 : Nat) = 5 then S.2.2 5 + 1 else S.2.2 8) + 1 else if q = 5 then S.2.2 5 + 1 else S.2.2 q) = _
    rw [if_neg (show ¬ (23 : Nat) = 8 by decide), if_neg (show ¬ (23 : Nat) = 5 by decide), if_neg (show ¬ (8 : Nat) = 5 by decide), w21, w27, ← hn]
  generalize newP (lwP S r a f9 t) r a f9 t = S' at rd n2
  obtain ⟨hW, hN, hro, hri, hwo, hpe, hem, hau, hmm, hba⟩ := hI
  refine ⟨?_, ?_, ?_, ?_, ?_, ?_, ?_, ?_, ?_, ?_⟩
  · obtain ⟨w1, w2, w3, w4, w5, w6, w7, w8⟩ := hW
    refine ⟨by simpa [n2] using w1, ?_, ?_, by simpa [rd, n2] using w4, fun i hi => ?_, by simpa [rd, n2] using w6, ?_, ?_⟩
    · simp only [n2]
      exact ⟨w2.1, w2.2.1, w2.2.2.1, by simp; omega, w2.2.2.2.2⟩
    · obtain ⟨v1, v2, v3, v4, v5, v6, v7, v8⟩ := w3
      simp only [n2]
      exact ⟨v1, v2, v3, by simp, v5, v6, by simp, v8⟩
    · rw [n2, if_pos rfl] at hi
      by_cases e1 : i = n
      · simp [rd, e1]
      · simpa [rd, e1] using w5 i (by omega)
    · unfold RoF at w7 ⊢
      simpa [rd, n2] using w7
    · unfold RiF at w8 ⊢
      simpa [rd, n2] using w8
  · simp only [n2]
    exact ⟨hN.1, hN.2.1, hN.2.2.1, by simp; omega, hN.2.2.2.2⟩
  · unfold RoL onN otN at hro ⊢
    simpa [rd, n2] using hro
  · unfold RiL LoF DrF canT shrF reaF levF basF at hri ⊢
    simpa [rd, n2] using hri
  · unfold WoL at hwo ⊢
    simpa [rd, n2] using hwo
  · intro i hi
    rw [n2, if_pos rfl] at hi
    by_cases e1 : i = n
    · subst e1
      simp [rd]
    · have old : ∀ q, q < 4 * n → S'.1 10 6 q = S.1 10 6 q := fun q hq => by
        rw [rd]
        rw [if_neg (by omega), if_neg (by omega), if_neg (by omega), if_neg (by omega), if_neg (by omega), if_neg (by omega), if_neg (by omega), if_neg (by omega), if_neg (by omega), if_neg (by omega), if_neg (by omega), if_neg (by omega)]
      rw [old (4 * i) (by omega), old (4 * i + 1) (by omega), old (4 * i + 2) (by omega), old (4 * i + 3) (by omega)]
      simpa [rd, e1] using hpe i (by omega)
  · unfold EmL at hem ⊢
    simpa [rd, n2] using hem
  · unfold AuL at hau ⊢
    simpa [rd, n2] using hau
  · obtain ⟨d1, d2, d3, d4, d5⟩ := hmm
    exact ⟨by simp [rd, d1], by simp [rd, d2], by simp [rd, n2, d3], by simp [rd, n2], by simp [rd, n2, d5]⟩
  · unfold BaL bayH at hba ⊢
    simpa [rd, n2] using hba
/-- .. ahead of a work -/
def lwW (S : Sto) (r w x f t : Int32) : Sto := wrI (wrI (wrI (wrI (wrI (wrI S 10 4 (5 * S.2.2 21) r) 10 4 (5 * S.2.2 21 + 1) w) 10 4 (5 * S.2.2 21 + 2) x) 10 4 (5 * S.2.2 21 + 3) f) 10 4 (5 * S.2.2 21 + 4) t) 10 9 2 (nI (S.2.2 21 + 1))
theorem inv_work {T : Nat} {S : Sto} (hI : LawI T S) (hlt : S.2.2 21 < 6) (r w x f9 t : Int32) : LawI T (newW (lwW S r w x f9 t) r w x f9 t) := by
  have w21 : S.2.2 3 = S.2.2 21 := hI.1.2.2.1.2.1
  have w27 : S.2.2 7 = S.2.2 21 := hI.1.2.2.1.2.2.2.2.2.1
  obtain ⟨n, hn⟩ : ∃ n, n = S.2.2 21 := ⟨_, rfl⟩
  rw [← hn] at hlt w21 w27
  have rd : ∀ k f i, (newW (lwW S r w x f9 t) r w x f9 t).1 k f i = if k = 3 ∧ f = 3 ∧ i = n then 1 else if k = 3 ∧ f = 2 ∧ i = n then x else if k = 3 ∧ f = 1 ∧ i = n then w else if k = 3 ∧ f = 0 ∧ i = n then r else if k = 7 ∧ f = 1 ∧ i = n then t else if k = 7 ∧ f = 0 ∧ i = n then f9 else if k = 7 ∧ i = n then 0 else if k = 3 ∧ i = n then 0 else
      if k = 10 ∧ f = 9 ∧ i = 2 then nI (n + 1) else if k = 10 ∧ f = 4 ∧ i = 5 * n + 4 then t else if k = 10 ∧ f = 4 ∧ i = 5 * n + 3 then f9 else if k = 10 ∧ f = 4 ∧ i = 5 * n + 2 then x else if k = 10 ∧ f = 4 ∧ i = 5 * n + 1 then w else if k = 10 ∧ f = 4 ∧ i = 5 * n then r else S.1 k f i := fun k f i => by
    have e7 : (mkO (lwW S r w x f9 t) 3).2.2 7 = n := by
      show (if (7 : Nat) = 3 then S.2.2 3 + 1 else S.2.2 7) = n
      rw [if_neg (by decide), w27]
    have e6 : (lwW S r w x f9 t).2.2 3 = n := w21
    have e9 : (lwW S r w x f9 t).2.2 7 = n := w27
    unfold newW sAdd
    simp only [wrI_at, mkO_at, e6, e7, e9]
    unfold lwW
    simp only [wrI_at, ← hn]
  have n2 : ∀ q, (newW (lwW S r w x f9 t) r w x f9 t).2.2 q = if q = 21 then n + 1 else if q = 7 then n + 1 else if q = 3 then n + 1 else S.2.2 q := fun q => by
    show (if q = 21 then (if (21 : Nat) = 7 then (if (7 : Nat) = 3 then S.2.2 3 + 1 else S.2.2 7) + 1 else if (21 : Nat) = 3 then S.2.2 3 + 1 else S.2.2 21) + 1 else if q = 7 then (if (7 : Nat) = 3 then S.2.2 3 + 1 else S.2.2 7) + 1 else if q = 3 then S.2.2 3 + 1 else S.2.2 q) = _
    rw [if_neg (show ¬ (21 : Nat) = 7 by decide), if_neg (show ¬ (21 : Nat) = 3 by decide), if_neg (show ¬ (7 : Nat) = 3 by decide), w21, w27, ← hn]
  generalize newW (lwW S r w x f9 t) r w x f9 t = S' at rd n2
  obtain ⟨hW, hN, hro, hri, hwo, hpe, hem, hau, hmm, hba⟩ := hI
  refine ⟨?_, ?_, ?_, ?_, ?_, ?_, ?_, ?_, ?_, ?_⟩
  · obtain ⟨w1, w2, w3, w4, w5, w6, w7, w8⟩ := hW
    refine ⟨by simpa [n2] using w1, ?_, ?_, fun i hi => ?_, by simpa [rd, n2] using w5, by simpa [rd, n2] using w6, ?_, ?_⟩
    · simp only [n2]
      exact ⟨w2.1, by simp; omega, w2.2.2⟩
    · obtain ⟨v1, v2, v3, v4, v5, v6, v7, v8⟩ := w3
      simp only [n2]
      exact ⟨v1, by simp, v3, v4, v5, by simp, v7, v8⟩
    · rw [n2, if_pos rfl] at hi
      by_cases e1 : i = n
      · simp [rd, e1]
      · simpa [rd, e1] using w4 i (by omega)
    · unfold RoF at w7 ⊢
      simpa [rd, n2] using w7
    · unfold RiF at w8 ⊢
      simpa [rd, n2] using w8
  · simp only [n2]
    exact ⟨hN.1, hN.2.1, by simp; omega, hN.2.2.2⟩
  · unfold RoL onN otN at hro ⊢
    simpa [rd, n2] using hro
  · unfold RiL LoF DrF canT shrF reaF levF basF at hri ⊢
    simpa [rd, n2] using hri
  · intro i hi
    rw [n2, if_pos rfl] at hi
    by_cases e1 : i = n
    · subst e1
      simp [rd]
    · have old : ∀ q, q < 5 * n → S'.1 10 4 q = S.1 10 4 q := fun q hq => by
        rw [rd]
        rw [if_neg (by omega), if_neg (by omega), if_neg (by omega), if_neg (by omega), if_neg (by omega), if_neg (by omega), if_neg (by omega), if_neg (by omega), if_neg (by omega), if_neg (by omega), if_neg (by omega), if_neg (by omega), if_neg (by omega), if_neg (by omega)]
      rw [old (5 * i) (by omega), old (5 * i + 1) (by omega), old (5 * i + 2) (by omega), old (5 * i + 3) (by omega), old (5 * i + 4) (by omega)]
      simpa [rd, e1] using hwo i (by omega)
  · unfold PeL at hpe ⊢
    simpa [rd, n2] using hpe
  · unfold EmL at hem ⊢
    simpa [rd, n2] using hem
  · unfold AuL at hau ⊢
    simpa [rd, n2] using hau
  · obtain ⟨d1, d2, d3, d4, d5⟩ := hmm
    exact ⟨by simp [rd, d1], by simp [rd, d2], by simp [rd, n2], by simp [rd, n2, d4], by simp [rd, n2, d5]⟩
  · unfold BaL bayH at hba ⊢
    simpa [rd, n2] using hba
