/-! THE INVARIANT, kept: loads, drives, time -/
theorem wrI_twice {S : Sto} {k f i : Nat} {x y : Int32} : wrI (wrI S k f i x) k f i y = wrI S k f i y := by
  refine sto_eq (fun k' f' i' => ?_) rfl
  simp only [wrI_at]
  by_cases h : k' = k ∧ f' = f ∧ i' = i
  · rw [if_pos h, if_pos h]
  · rw [if_neg h, if_neg h, if_neg h]
def lwL (S : Sto) (r : Nat) (w c : Int32) : Sto := wrI (wrI S 10 5 (14 * r + 7) w) 10 5 (14 * r + 8) c
theorem inv_load {T : Nat} {S : Sto} (hI : LawI T S) {r : Nat} (hr : r < 2) (w c : Int32) (hw : rg w 0 200000) (hc9 : rg c 0 80) (hcan : canT S r w c) : LawI T (takeS (lwL S r w c) r w c) := by
  obtain ⟨A, hA⟩ : ∃ A, A = shrF S r (w - reaF S r w c) := ⟨_, rfl⟩
  obtain ⟨B, hB⟩ : ∃ B, B = shrF S r (reaF S r w c) := ⟨_, rfl⟩
  have hA2 : shrF (lwL S r w c) r (w - reaF (lwL S r w c) r w c) = A := hA.symm
  have hB2 : shrF (lwL S r w c) r (reaF (lwL S r w c) r w c) = B := hB.symm
  have rd : ∀ k f i, (takeS (lwL S r w c) r w c).1 k f i = if k = 4 ∧ f = 7 ∧ i = r then B else if k = 4 ∧ f = 6 ∧ i = r then A else if k = 10 ∧ f = 5 ∧ i = 14 * r + 8 then c else if k = 10 ∧ f = 5 ∧ i = 14 * r + 7 then w else S.1 k f i := fun k f i => by
    unfold takeS
    rw [hA2, hB2]
    unfold lwL
    simp only [wrI_at]
  have n2 : (takeS (lwL S r w c) r w c).2.2 = S.2.2 := rfl
  generalize takeS (lwL S r w c) r w c = S' at rd n2
  have eS : ∀ i x, shrF S' i x = shrF S i x := fun i x => by simp [shrF, rd]
  have eR : ∀ i x y, reaF S' i x y = reaF S i x y := fun i x y => by simp [reaF, levF, basF, rd]
  have eC : ∀ i x y, canT S' i x y = canT S i x y := fun i x y => by simp [canT, levF, basF, rd]
  obtain ⟨hW, hN, hro, hri, hwo, hpe, hem, hau, hmm, hba⟩ := hI
  obtain ⟨m, em, -, m2⟩ := rg_nI (a := 0) (b := 200000) hw (by omega) (by omega)
  obtain ⟨q, eq, -, q2⟩ := rg_nI (a := 0) (b := 80) hc9 (by omega) (by omega)
  refine ⟨?_, ?_, ?_, ?_, ?_, ?_, ?_, ?_, ?_, ?_⟩
  · unfold WfH RoF RiF at hW ⊢
    simpa [rd, n2] using hW
  · rw [n2]
    exact hN
  · unfold RoL onN otN at hro ⊢
    simpa [rd, n2] using hro
  · intro i hi
    obtain ⟨c0, ⟨⟨l, cc, o, l1, l2, l3, l4, l5, l6⟩, l7, l8, l9⟩, c2⟩ := hri i hi
    refine ⟨fun f hf h7 h8 => ?_, ?_, ?_⟩
    · have g9 : gmF f ≠ 7 ∧ gmF f ≠ 6 := by
        have : ∀ f, f < 13 → f ≠ 7 → f ≠ 8 → gmF f ≠ 7 ∧ gmF f ≠ 6 := by decide
        exact this f hf h7 h8
      rw [rd, rd]
      rw [if_neg fun z => absurd z.1 (by decide), if_neg fun z => absurd z.1 (by decide), if_neg fun z => by omega, if_neg fun z => by omega, if_neg fun z => g9.1 z.2.1, if_neg fun z => g9.2 z.2.1, if_neg fun z => absurd z.1 (by decide), if_neg fun z => absurd z.1 (by decide)]
      exact c0 f hf h7 h8
    · by_cases e : i = r
      · subst e
        have x1 : S'.1 10 5 (14 * i + 7) = w := by simp [rd]
        have x2 : S'.1 10 5 (14 * i + 8) = c := by simp [rd]
        rw [x1, x2]
        refine ⟨⟨m, q, o, em, eq, by simp [rd, l3], m2, q2, l6⟩, by rw [eC]; exact hcan, ?_, ?_⟩
        · rw [eS, eR, ← hA]
          simp [rd]
        · rw [eS, eR, ← hB]
          simp [rd]
      · have x1 : S'.1 10 5 (14 * i + 7) = S.1 10 5 (14 * i + 7) := by
          rw [rd]
          rw [if_neg fun z => absurd z.1 (by decide), if_neg fun z => absurd z.1 (by decide), if_neg fun z => by omega, if_neg fun z => by omega]
        have x2 : S'.1 10 5 (14 * i + 8) = S.1 10 5 (14 * i + 8) := by
          rw [rd]
          rw [if_neg fun z => absurd z.1 (by decide), if_neg fun z => absurd z.1 (by decide), if_neg fun z => by omega, if_neg fun z => by omega]
        rw [x1, x2]
        refine ⟨⟨l, cc, o, l1, l2, by simp [rd, l3], l4, l5, l6⟩, by rw [eC]; exact l7, ?_, ?_⟩
        · rw [eS, eR, ← l8]
          simp [rd, e]
        · rw [eS, eR, ← l9]
          simp [rd, e]
    · unfold DrF at c2 ⊢
      simpa [rd] using c2
  · unfold WoL at hwo ⊢
    simpa [rd, n2] using hwo
  · unfold PeL at hpe ⊢
    simpa [rd, n2] using hpe
  · unfold EmL at hem ⊢
    simpa [rd, n2] using hem
  · unfold AuL at hau ⊢
    simpa [rd, n2] using hau
  · obtain ⟨d1, d2, d3, d4, d5⟩ := hmm
    exact ⟨by simp [rd, d1], by simp [rd, d2], by simp [rd, n2, d3], by simp [rd, n2, d4], by simp [rd, n2, d5]⟩
  · unfold BaL bayH at hba ⊢
    simpa [rd, n2] using hba
def lwD (S : Sto) (r : Nat) (d n p v : Int32) : Sto := wrI (wrI (wrI (wrI S 10 5 (14 * r + 9) d) 10 5 (14 * r + 10) n) 10 5 (14 * r) p) 10 5 (14 * r + 12) v
theorem inv_drive {T : Nat} {S : Sto} (hI : LawI T S) (hT : T ≤ 9000) {r i0 : Nat} (hr : r < 2) (hd : i0 < 6) : LawI T (drvS (lwD S r (nI i0) (S.1 0 9 0 + S.1 2 6 i0) (beyP S i0 (S.1 4 8 r)) (S.1 4 12 r + 1)) r i0 (nI i0)) := by
  obtain ⟨P, hP⟩ : ∃ P, P = beyP S i0 (S.1 4 8 r) := ⟨_, rfl⟩
  obtain ⟨N, hN9⟩ : ∃ N, N = S.1 0 9 0 + S.1 2 6 i0 := ⟨_, rfl⟩
  obtain ⟨D, hD⟩ : ∃ D, D = S.1 4 12 r + 1 := ⟨_, rfl⟩
  rw [← hP, ← hN9, ← hD]
  have rd : ∀ k f i, (drvS (lwD S r (nI i0) N P D) r i0 (nI i0)).1 k f i = if k = 4 ∧ f = 12 ∧ i = r then D else if k = 4 ∧ f = 10 ∧ i = r then N else if k = 4 ∧ f = 8 ∧ i = r then P else if k = 4 ∧ f = 9 ∧ i = r then nI i0 else if k = 10 ∧ f = 5 ∧ i = 14 * r + 12 then D else if k = 10 ∧ f = 5 ∧ i = 14 * r then P else if k = 10 ∧ f = 5 ∧ i = 14 * r + 10 then N else if k = 10 ∧ f = 5 ∧ i = 14 * r + 9 then nI i0 else S.1 k f i := fun k f i => by
    have q1 : beyP (lwD S r (nI i0) N P D) i0 ((lwD S r (nI i0) N P D).1 4 8 r) = P := hP.symm
    have q2 : (lwD S r (nI i0) N P D).1 0 9 0 + (lwD S r (nI i0) N P D).1 2 6 i0 = N := hN9.symm
    have q3 : (lwD S r (nI i0) N P D).1 4 12 r + 1 = D := hD.symm
    unfold drvS
    rw [q1, q2, q3]
    unfold lwD
    simp only [wrI_at]
  have n2 : (drvS (lwD S r (nI i0) N P D) r i0 (nI i0)).2.2 = S.2.2 := rfl
  generalize drvS (lwD S r (nI i0) N P D) r i0 (nI i0) = S' at rd n2
  have eS : ∀ i x, shrF S' i x = shrF S i x := fun i x => by simp [shrF, rd]
  have eR : ∀ i x y, reaF S' i x y = reaF S i x y := fun i x y => by simp [reaF, levF, basF, rd]
  have eC : ∀ i x y, canT S' i x y = canT S i x y := fun i x y => by simp [canT, levF, basF, rd]
  obtain ⟨r1, r2, r3, -, -, -, t1, t9⟩ := ro_N hI.wf (hI.i20 hd)
  obtain ⟨hW, hN, hro, hri, hwo, hpe, hem, hau, hmm, hba⟩ := hI
  obtain ⟨-, o1, o2⟩ := hro i0 hd
  obtain ⟨pp, epp, pp5⟩ : ∃ p : Nat, P = nI p ∧ p < 5 := by
    rw [hP]
    unfold beyP
    by_cases h : S.1 4 8 r = S.1 2 0 i0
    · rw [if_pos h, r2]
      exact ⟨_, rfl, o2⟩
    · rw [if_neg h, r1]
      exact ⟨_, rfl, o1⟩
  have eN : N = nI (T + tnN S i0) := by rw [hN9, hmm.2.1, r3, nI_add]
  refine ⟨?_, ?_, ?_, ?_, ?_, ?_, ?_, ?_, ?_, ?_⟩
  · obtain ⟨w1, w2, w3, w4, w5, w6, w7, w8⟩ := hW
    refine ⟨by simpa [n2] using w1, by simpa [n2] using w2, by simpa [n2] using w3, by simpa [rd, n2] using w4, by simpa [rd, n2] using w5, by simpa [rd, n2] using w6, ?_, fun i hi => ?_⟩
    · unfold RoF at w7 ⊢
      simpa [rd, n2] using w7
    · rw [n2] at hi
      obtain ⟨a, d, p, h1, h2, h3, h4, h5, h6, h7, h8⟩ := w8 i hi
      by_cases e : i = r
      · exact ⟨a, d, pp, by simp [rd, h1], by simp [rd, h2], by simp [rd, e, epp], h4, h5, h6, h7, by omega⟩
      · exact ⟨a, d, p, by simp [rd, h1], by simp [rd, h2], by simp [rd, e, h3], h4, h5, h6, h7, h8⟩
  · rw [n2]
    exact hN
  · unfold RoL onN otN at hro ⊢
    simpa [rd, n2] using hro
  · intro i hi
    obtain ⟨c0, c1, c2⟩ := hri i hi
    have oth : ∀ x, x ≠ 14 * r → x ≠ 14 * r + 9 → x ≠ 14 * r + 10 → x ≠ 14 * r + 12 → S'.1 10 5 x = S.1 10 5 x := fun x a b c d => by
      rw [rd]
      rw [if_neg fun z => absurd z.1 (by decide), if_neg fun z => absurd z.1 (by decide), if_neg fun z => absurd z.1 (by decide), if_neg fun z => absurd z.1 (by decide), if_neg fun z => d z.2.2, if_neg fun z => a z.2.2, if_neg fun z => c z.2.2, if_neg fun z => b z.2.2]
    refine ⟨fun f hf h7 h8 => ?_, ?_, ?_⟩
    · by_cases e : i = r
      · subst e
        have hf2 : f = 0 ∨ f = 9 ∨ f = 10 ∨ f = 12 ∨ (f ≠ 0 ∧ f ≠ 9 ∧ f ≠ 10 ∧ f ≠ 12) := by omega
        rcases hf2 with rfl | rfl | rfl | rfl | ⟨x0, x9, x10, x12⟩
        · simp [rd, gmF]
        · simp [rd, gmF]
        · simp [rd, gmF]
        · simp [rd, gmF]
        · have g9 : gmF f ≠ 8 ∧ gmF f ≠ 9 ∧ gmF f ≠ 10 ∧ gmF f ≠ 12 := by
            have : ∀ f, f < 13 → f ≠ 0 ∧ f ≠ 9 ∧ f ≠ 10 ∧ f ≠ 12 ∧ f ≠ 7 ∧ f ≠ 8 → gmF f ≠ 8 ∧ gmF f ≠ 9 ∧ gmF f ≠ 10 ∧ gmF f ≠ 12 := by decide
            exact this f hf ⟨x0, x9, x10, x12, h7, h8⟩
          rw [oth _ (by omega) (by omega) (by omega) (by omega), rd]
          rw [if_neg fun z => g9.2.2.2 z.2.1, if_neg fun z => g9.2.2.1 z.2.1, if_neg fun z => g9.1 z.2.1, if_neg fun z => g9.2.1 z.2.1, if_neg fun z => absurd z.1 (by decide), if_neg fun z => absurd z.1 (by decide), if_neg fun z => absurd z.1 (by decide), if_neg fun z => absurd z.1 (by decide)]
          exact c0 f hf h7 h8
      · rw [oth _ (by omega) (by omega) (by omega) (by omega), rd]
        rw [if_neg fun z => e z.2.2, if_neg fun z => e z.2.2, if_neg fun z => e z.2.2, if_neg fun z => e z.2.2, if_neg fun z => absurd z.1 (by decide), if_neg fun z => absurd z.1 (by decide), if_neg fun z => absurd z.1 (by decide), if_neg fun z => absurd z.1 (by decide)]
        exact c0 f hf h7 h8
    · obtain ⟨⟨l, cc, o, l1, l2, l3, l4, l5, l6⟩, l7, l8, l9⟩ := c1
      rw [oth (14 * i + 7) (by omega) (by omega) (by omega) (by omega), oth (14 * i + 8) (by omega) (by omega) (by omega) (by omega)]
      refine ⟨⟨l, cc, o, l1, l2, by simp [rd, l3], l4, l5, l6⟩, by rw [eC]; exact l7, ?_, ?_⟩
      · rw [eS, eR, ← l8]
        simp [rd]
      · rw [eS, eR, ← l9]
        simp [rd]
    · obtain ⟨⟨p, ep, p5⟩, c4⟩ := c2
      by_cases e : i = r
      · refine ⟨⟨pp, by simp [rd, e, epp], pp5⟩, Or.inr ⟨i0, T + tnN S i0, by simp [rd, e], hd, by simp [rd, e, eN], by omega, by omega⟩⟩
      · refine ⟨⟨p, by simp [rd, e, ep], p5⟩, ?_⟩
        simpa [rd, e] using c4
  · unfold WoL at hwo ⊢
    simpa [rd, n2] using hwo
  · unfold PeL at hpe ⊢
    simpa [rd, n2] using hpe
  · unfold EmL at hem ⊢
    simpa [rd, n2] using hem
  · unfold AuL at hau ⊢
    simpa [rd, n2] using hau
  · obtain ⟨d1, d2, d3, d4, d5⟩ := hmm
    exact ⟨by simp [rd, d1], by simp [rd, d2], by simp [rd, n2, d3], by simp [rd, n2, d4], by simp [rd, n2, d5]⟩
  · unfold BaL bayH at hba ⊢
    simpa [rd, n2] using hba
/-- the class's part of time sees the class's columns alone -/
def agr (S S0 : Sto) : Prop := S.2 = S0.2 ∧ ∀ k f i, k = 0 ∨ k = 4 ∨ k = 11 → S.1 k f i = S0.1 k f i
theorem agr_ten {S S0 : Sto} (h : agr S S0) (m : Nat) : agr (tenS S m) (tenS S0 m) := by
  refine ⟨h.1, fun k f i hk => ?_⟩
  have e0 : ∀ f i, S.1 0 f i = S0.1 0 f i := fun f i => h.2 0 f i (Or.inl rfl)
  have e4 : ∀ f i, S.1 4 f i = S0.1 4 f i := fun f i => h.2 4 f i (Or.inr (Or.inl rfl))
  have e11 : ∀ f i, S.1 11 f i = S0.1 11 f i := fun f i => h.2 11 f i (Or.inr (Or.inr rfl))
  rw [tenS_at, tenS_at]
  unfold rdT brT
  rw [h.2 k f i hk]
  simp only [e0, e4, e11]
theorem agr_pass {S S0 : Sto} (h : agr S S0) (n : Nat) : agr (passS S n) (passS S0 n) := by
  induction n with
  | zero => exact h
  | succ n ih =>
    rw [passS_s, passS_s]
    have e : (passS S n).2.2 22 = (passS S0 n).2.2 22 := by rw [ih.1]
    rw [e]
    exact agr_ten ih _
theorem inv_pass {T n : Nat} {S S0 : Sto} (hI : LawI T S0) (hTn : T + n < 10000) (hP : pasK T S0 n 0 S) : LawI (T + n) (passS S n) := by
  obtain ⟨p1, p2, p3, p4⟩ := hP
  have hag : agr S S0 := ⟨p1, fun k f i hk => p4 k f i (fun q => by omega) (fun q => by omega)⟩
  have hagn := agr_pass hag n
  have h2 : (passS S n).2 = S0.2 := by rw [passS_2]; exact p1
  have o : ∀ k f i, ¬ (k = 0 ∧ f = 9) → ¬ (k = 4 ∧ f = 9) → ¬ (k = 4 ∧ f = 11) → ¬ (k = 10 ∧ f = 9 ∧ i = 0) → ¬ (k = 10 ∧ f = 5 ∧ (i = 9 ∨ i = 23 ∨ i = 11 ∨ i = 25)) → (passS S n).1 k f i = S0.1 k f i := fun k f i a b c d e => (passS_o ⟨a, b, c⟩).trans (p4 k f i d e)
  have c : ∀ k, k ≠ 0 → k ≠ 4 → k ≠ 10 → (passS S n).1 k = S0.1 k := fun k a b d => by
    funext f i
    exact o k f i (fun q => a q.1) (fun q => b q.1) (fun q => b q.1) (fun q => d q.1) (fun q => d q.1)
  have t : ∀ f, f ≠ 9 → f ≠ 5 → (passS S n).1 10 f = S0.1 10 f := fun f a b => by
    funext i
    exact o 10 f i (fun q => absurd q.1 (by decide)) (fun q => absurd q.1 (by decide)) (fun q => absurd q.1 (by decide)) (fun q => a q.2.1) (fun q => b q.2.1)
  have r : ∀ f, f ≠ 9 → f ≠ 11 → (passS S n).1 4 f = S0.1 4 f := fun f a b => by
    funext i
    exact o 4 f i (fun q => absurd q.1 (by decide)) (fun q => a q.2) (fun q => b q.2) (fun q => absurd q.1 (by decide)) (fun q => absurd q.1 (by decide))
  have m9 : ∀ i, i ≠ 0 → (passS S n).1 10 9 i = S0.1 10 9 i := fun i hi => o 10 9 i (fun q => absurd q.1 (by decide)) (fun q => absurd q.1 (by decide)) (fun q => absurd q.1 (by decide)) (fun q => hi q.2.2) (fun q => absurd q.2.1 (by decide))
  have e00 : S0.1 0 9 0 = nI T := hI.mm.2.1
  have hdrv : drvI S0 := fun i hi hd => by
    obtain ⟨-, -, -, h9⟩ := hI.ri i (by have := hI.n.2.1; omega)
    rcases h9 with h9 | ⟨d, q, -, -, h10, hq, hq2⟩
    · exact absurd h9 hd
    · rw [e00, h10]
      exact (nI_lt2 (by omega) (by omega)).mpr hq
  have h22 := hI.n.2.1
  obtain ⟨hW, hN, hro, hri, hwo, hpe, hem, hau, hmm, hba⟩ := hI
  refine ⟨?_, ?_, ?_, ?_, ?_, ?_, ?_, ?_, ?_, ?_⟩
  · unfold WfH RoF RiF at hW ⊢
    rw [h2, c 2 (by decide) (by decide) (by decide), c 3 (by decide) (by decide) (by decide), c 5 (by decide) (by decide) (by decide), c 6 (by decide) (by decide) (by decide), r 0 (by decide) (by decide), r 1 (by decide) (by decide), r 8 (by decide) (by decide)]
    exact hW
  · rw [h2]
    exact hN
  · unfold RoL onN otN at hro ⊢
    rw [c 2 (by decide) (by decide) (by decide), t 3 (by decide) (by decide)]
    exact hro
  · intro i hi
    obtain ⟨c0, c1, ⟨p, ep, p5⟩, c3⟩ := hri i hi
    have g5 : ∀ f, f < 13 → f ≠ 9 → f ≠ 11 → (passS S n).1 10 5 (14 * i + f) = S0.1 10 5 (14 * i + f) := fun f hf h9 h11 => o 10 5 _ (fun q => absurd q.1 (by decide)) (fun q => absurd q.1 (by decide)) (fun q => absurd q.1 (by decide)) (fun q => absurd q.2.1 (by decide)) (fun q => by omega)
    have g59 : ∀ x, (passS S n).1 10 5 x = S.1 10 5 x := fun x => passS_o ⟨fun q => absurd q.1 (by decide), fun q => absurd q.1 (by decide), fun q => absurd q.1 (by decide)⟩
    refine ⟨fun f hf h7 h8 => ?_, ?_, ⟨p, by rw [r 8 (by decide) (by decide)]; exact ep, p5⟩, ?_⟩
    · by_cases e9 : f = 9
      · subst e9
        rw [g59, (p3 i hi).1, if_neg (Nat.not_lt_zero _)]
        exact (hagn.2 4 9 i (Or.inr (Or.inl rfl))).symm
      · by_cases e11 : f = 11
        · subst e11
          rw [g59, (p3 i hi).2, if_neg (Nat.not_lt_zero _)]
          exact (hagn.2 4 11 i (Or.inr (Or.inl rfl))).symm
        · have g9 : gmF f ≠ 9 ∧ gmF f ≠ 11 := by
            have : ∀ f, f < 13 → f ≠ 9 → f ≠ 11 → gmF f ≠ 9 ∧ gmF f ≠ 11 := by decide
            exact this f hf e9 e11
          rw [g5 f hf e9 e11, r _ g9.1 g9.2]
          exact c0 f hf h7 h8
    · unfold LoF canT shrF reaF levF basF at c1 ⊢
      rw [g5 7 (by decide) (by decide) (by decide), g5 8 (by decide) (by decide) (by decide), r 0 (by decide) (by decide), r 1 (by decide) (by decide), r 5 (by decide) (by decide), r 6 (by decide) (by decide), r 7 (by decide) (by decide)]
      exact c1
    · have hrd := passS_rd (S := S0) n i
      rw [hagn.2 4 9 i (Or.inr (Or.inl rfl)), r 10 (by decide) (by decide)]
      by_cases hz : (passS S0 n).1 4 9 i = -1
      · exact Or.inl hz
      · right
        have e := hrd.resolve_right hz
        rcases c3 with c3 | ⟨d, q, q1, q2, q3, q4, q5⟩
        · exact absurd (e.trans c3) hz
        · refine ⟨d, q, e.trans q1, q2, q3, ?_, q5⟩
          have hlt := drvI_s hdrv n i (by rw [passS_2]; omega) hz
          rw [passS_now, e00, nI_add, passS_o (by decide), q3] at hlt
          exact (nI_lt2 (by omega) (by omega)).mp hlt
  · unfold WoL at hwo ⊢
    rw [h2, c 3 (by decide) (by decide) (by decide), c 7 (by decide) (by decide) (by decide), t 4 (by decide) (by decide)]
    exact hwo
  · unfold PeL at hpe ⊢
    rw [h2, c 5 (by decide) (by decide) (by decide), c 8 (by decide) (by decide) (by decide), t 6 (by decide) (by decide)]
    exact hpe
  · unfold EmL at hem ⊢
    rw [h2, c 6 (by decide) (by decide) (by decide), c 9 (by decide) (by decide) (by decide), t 7 (by decide) (by decide)]
    exact hem
  · unfold AuL at hau ⊢
    rw [t 0 (by decide) (by decide), t 1 (by decide) (by decide), t 8 (by decide) (by decide)]
    exact hau
  · obtain ⟨d1, d2, d3, d4, d5⟩ := hmm
    refine ⟨?_, ?_, ?_, ?_, ?_⟩
    · rw [passS_o ⟨fun q => absurd q.1 (by decide), fun q => absurd q.1 (by decide), fun q => absurd q.1 (by decide)⟩]
      exact p2
    · rw [passS_now, p4 0 9 0 (fun q => absurd q.1 (by decide)) (fun q => absurd q.1 (by decide)), d2, nI_add]
    · rw [m9 2 (by decide), h2]
      exact d3
    · rw [m9 3 (by decide), h2]
      exact d4
    · rw [m9 4 (by decide), h2]
      exact d5
  · unfold BaL bayH at hba ⊢
    rw [m9 1 (by decide), c 11 (by decide) (by decide) (by decide)]
    exact hba
