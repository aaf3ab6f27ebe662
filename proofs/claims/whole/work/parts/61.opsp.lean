/-! CLASS AND MODEL AGREE: permits, embargoes, rigs -/
theorem inv_permit {S : Sto} (hI : InvS S) (hlt : S.2.2 23 < 40) (r a f9 t : Int32) (j : Int64) : InvS (mkPS (wrJ (newP S r a f9 t) j) (nI (S.2.2 23)) r a f9 t) := by
  have w21 : S.2.2 5 = S.2.2 23 := hI.1.2.2.1.2.2.2.1
  have w27 : S.2.2 8 = S.2.2 23 := hI.1.2.2.1.2.2.2.2.2.2.1
  obtain ⟨n, hn⟩ : ∃ n, n = S.2.2 23 := ⟨_, rfl⟩
  rw [← hn] at hlt w21 w27 ⊢
  have i0 : ((4 : Int32) * nI n).toNatClampNeg = 4 * n := ix_1 4 n (by omega)
  have i1 : ((4 : Int32) * nI n + 1).toNatClampNeg = 4 * n + 1 := ix_2 4 n 1 (by omega)
  have i2 : ((4 : Int32) * nI n + 2).toNatClampNeg = 4 * n + 2 := ix_2 4 n 2 (by omega)
  have i3 : ((4 : Int32) * nI n + 3).toNatClampNeg = 4 * n + 3 := ix_2 4 n 3 (by omega)
  have rd : ∀ k f i, (mkPS (wrJ (newP S r a f9 t) j) (nI n) r a f9 t).1 k f i = if k = 1 ∧ f = 32 ∧ i = 0 then nI (n + 1) else if k = 10 ∧ f = 29 ∧ i = 4 * n + 3 then t else if k = 10 ∧ f = 29 ∧ i = 4 * n + 2 then f9 else if k = 10 ∧ f = 29 ∧ i = 4 * n + 1 then a else if k = 10 ∧ f = 29 ∧ i = 4 * n then r else if k = 1 ∧ f = 37 ∧ i = 0 then 0 else
      if k = 5 ∧ f = 2 ∧ i = n then 1 else if k = 5 ∧ f = 1 ∧ i = n then a else if k = 5 ∧ f = 0 ∧ i = n then r else if k = 8 ∧ f = 1 ∧ i = n then t else if k = 8 ∧ f = 0 ∧ i = n then f9 else if k = 8 ∧ i = n then 0 else if k = 5 ∧ i = n then 0 else S.1 k f i := fun k f i => by
    have e9 : (wrJ (newP S r a f9 t) j).1 k f i = (newP S r a f9 t).1 k f i := rfl
    have e7 : (mkO S 5).2.2 8 = n := by
      show (if (8 : Nat) = 5 then S.2.2 5 + 1 else S.2.2 8) = n
      rw [if_neg (by decide), w27]
    unfold mkPS lastS
    rw [i0, i1, i2, i3, nI_s]
    simp only [wrI_at, e9]
    unfold newP sAdd
    simp only [wrI_at, mkO_at, w21, w27, e7]
  have n2 : ∀ q, (mkPS (wrJ (newP S r a f9 t) j) (nI n) r a f9 t).2.2 q = if q = 23 then n + 1 else if q = 8 then n + 1 else if q = 5 then n + 1 else S.2.2 q := fun q => by
    show (if q = 23 then (if (23 : Nat) = 8 then (if (8 : Nat) = 5 then S.2.2 5 + 1 else S.2.2 8) + 1 else if (23 : Nat) = 5 then S.2.2 5 + 1 else S.2.2 23) + 1 else if q = 8 then (if (8 : Nat) = 5 then S.2.2 5 + 1 else S.2.2 8) + 1 else if q = 5 then S.2.2 5 + 1 else S.2.2 q) = _
    rw [if_neg (show ¬ (23 : Nat) = 8 by decide), if_neg (show ¬ (23 : Nat) = 5 by decide), if_neg (show ¬ (8 : Nat) = 5 by decide), w21, w27, ← hn]
  generalize mkPS (wrJ (newP S r a f9 t) j) (nI n) r a f9 t = S' at rd n2
  obtain ⟨hW, hc, hro, hrz, hwo, hpe, hem, hri, hgz, hau, hba, hT⟩ := hI
  refine ⟨?_, ?_, ?_, ?_, ?_, ?_, ?_, ?_, ?_, ?_, ?_, ?_⟩
  · obtain ⟨w1, w2, w3, w4, w5, w6, w7, w8⟩ := hW
    refine ⟨by simpa [n2] using w1, ?_, ?_, by simpa [rd, n2] using w4, fun i hi => ?_, by simpa [rd, n2] using w6, ?_, ?_⟩
    · simp only [n2]
      exact ⟨w2.1, w2.2.1, w2.2.2.1, by simp; omega, w2.2.2.2.2⟩
    · obtain ⟨v1, v2, v3, v4, v5, v6, v7, v8⟩ := w3
      simp only [n2]
      exact ⟨v1, v2, v3, by simp, v5, v6, by simp, v8⟩
    · rw [n2, if_pos rfl] at hi
      by_cases e1 : i = n
      · simp [rd, e1]
      · simpa [rd, e1] using w5 i (by omega)
    · unfold RoF at w7 ⊢
      simpa [rd, n2] using w7
    · unfold RiF at w8 ⊢
      simpa [rd, n2] using w8
  · obtain ⟨d1, d2, d3, d4, d5, d6⟩ := hc
    exact ⟨by simp [rd, n2, d1], by simp [rd, n2, d2], by simp [rd, n2, d3], by simp [rd, n2], by simp [rd, n2, d5], by simp [rd, d6]⟩
  · simpa [rd, n2] using hro
  · simpa [rd, n2] using hrz
  · simpa [rd, n2] using hwo
  · intro i hi
    rw [n2, if_pos rfl] at hi
    by_cases e1 : i = n
    · subst e1
      simp [rd]
    · have old : ∀ q, q < 4 * n → S'.1 10 29 q = S.1 10 29 q := fun q hq => by
        rw [rd]
        rw [if_neg (by omega), if_neg (by omega), if_neg (by omega), if_neg (by omega), if_neg (by omega), if_neg (by omega), if_neg (by omega), if_neg (by omega), if_neg (by omega), if_neg (by omega), if_neg (by omega), if_neg (by omega), if_neg (by omega)]
      rw [old (4 * i) (by omega), old (4 * i + 1) (by omega), old (4 * i + 2) (by omega), old (4 * i + 3) (by omega)]
      simpa [rd, e1] using hpe i (by omega)
  · simpa [rd, n2] using hem
  · unfold LoF canT shrF reaF levF basF at hri ⊢
    simpa [rd, n2] using hri
  · simpa [rd, n2] using hgz
  · simpa [rd] using hau
  · simpa [rd] using hba
  · simpa [rd] using hT
theorem op_permit {S : Sto} (hI : InvS S) (r a f9 t : Int32) : OpI s_L_permit s_X7_permit [aR 0 0, aI r, aI a, aI f9, aI t, aR 12 0] [aR 1 0, aI r, aI a, aI f9, aI t] S := by
  intro F F2 hF hF2
  have hr : ref S S := ref.rf hI
  have hn20 := hI.1.2.1.2.2.2.1
  have e12 : S.1 1 32 0 = nI (S.2.2 23) := hI.2.1.2.2.2.1
  by_cases hk : knP S r a
  · by_cases hf : perF f9 t
    · by_cases hm : canP S a f9
      · have hlt : S.2.2 23 < 40 := (nI_lt2 (a := S.2.2 23) (b := 40) (by omega) (by omega)).mp hm.2
        have o : ∀ k f i, k ≠ 5 → k ≠ 8 → (newP S r a f9 t).1 k f i = S.1 k f i := fun k f i q q2 => by
          unfold newP sAdd
          simp [wrI_at, mkO_at, q, q2]
        have ec : (newP S r a f9 t).2.2 23 = S.2.2 23 + 1 := rfl
        have e12' : (wrJ (newP S r a f9 t) (nI ((newP S r a f9 t).2.2 23)).toInt64).1 1 32 0 = nI (S.2.2 23) := (o 1 32 0 (by decide) (by decide)).trans e12
        refine ⟨[aR 0 0, aI r, aI a, aI f9, aI t], rfl, rfl, rfl, hI.1, fun z => absurd hk z, fun _ z => absurd hf z, fun _ _ z => absurd hm z, fun _ _ _ => hF _ _ ⟨rfl, rfl, S, ⟨hI, fun q9 _ => ?_, fun a9 _ => ?_, ?_⟩, fun z => absurd hk z, fun _ z => absurd hf z, fun _ _ z => absurd hm z, fun _ _ _ => hF2 _ _ _ ?_ ?_ fun _ => ?_⟩⟩
        · funext i
          exact o 1 q9 i (by decide) (by decide)
        · funext i
          exact o 10 a9 i (by decide) (by decide)
        · funext i
          exact o 11 1 i (by decide) (by decide)
        · rw [e12']
          exact inv_permit hI hlt r a f9 t _
        · unfold mkPS
          rw [wrI_ne fun z => absurd z.2.1 (by decide), wrI_ne fun z => absurd z.1 (by decide), wrI_ne fun z => absurd z.1 (by decide), wrI_ne fun z => absurd z.1 (by decide), wrI_ne fun z => absurd z.1 (by decide)]
          exact last_v
        · rw [e12']
          show (nI ((newP S r a f9 t).2.2 23)).toInt64 = _
          rw [ec, nI_s]
      · exact ⟨[aR 0 0, aI r, aI a, aI f9, aI t], rfl, rfl, rfl, hI.1, fun z => absurd hk z, fun _ z => absurd hf z, fun _ _ _ => hF _ _ ⟨rfl, rfl, S, hr, fun z => absurd hk z, fun _ z => absurd hf z, fun _ _ _ => hF2 _ _ _ (hI.last 3) last_v fun z => absurd z three0, fun _ _ z => absurd z hm⟩, fun _ _ z => absurd z hm⟩
    · exact ⟨[aR 0 0, aI r, aI a, aI f9, aI t], rfl, rfl, rfl, hI.1, fun z => absurd hk z, fun _ _ => hF _ _ ⟨rfl, rfl, S, hr, fun z => absurd hk z, fun _ _ => hF2 _ _ _ (hI.last 2) last_v fun z => absurd z two0, fun _ z => absurd z hf, fun _ z => absurd z hf⟩, fun _ z => absurd z hf, fun _ z => absurd z hf⟩
  · exact ⟨[aR 0 0, aI r, aI a, aI f9, aI t], rfl, rfl, rfl, hI.1, fun _ => hF _ _ ⟨rfl, rfl, S, hr, fun _ => hF2 _ _ _ (hI.last 1) last_v fun z => absurd z one0, fun z => absurd z hk, fun z => absurd z hk, fun z => absurd z hk⟩, fun z => absurd z hk, fun z => absurd z hk, fun z => absurd z hk⟩
theorem inv_embargo {S : Sto} (hI : InvS S) (hlt : S.2.2 24 < 20) (a f9 t : Int32) (j : Int64) : InvS (mkES (wrJ (newE S a f9 t) j) (nI (S.2.2 24)) a f9 t) := by
  have w21 : S.2.2 6 = S.2.2 24 := hI.1.2.2.1.2.2.2.2.1
  have w27 : S.2.2 9 = S.2.2 24 := hI.1.2.2.1.2.2.2.2.2.2.2
  obtain ⟨n, hn⟩ : ∃ n, n = S.2.2 24 := ⟨_, rfl⟩
  rw [← hn] at hlt w21 w27 ⊢
  have i0 : ((3 : Int32) * nI n).toNatClampNeg = 3 * n := ix_1 3 n (by omega)
  have i1 : ((3 : Int32) * nI n + 1).toNatClampNeg = 3 * n + 1 := ix_2 3 n 1 (by omega)
  have i2 : ((3 : Int32) * nI n + 2).toNatClampNeg = 3 * n + 2 := ix_2 3 n 2 (by omega)
  have rd : ∀ k f i, (mkES (wrJ (newE S a f9 t) j) (nI n) a f9 t).1 k f i = if k = 1 ∧ f = 34 ∧ i = 0 then nI (n + 1) else if k = 10 ∧ f = 30 ∧ i = 3 * n + 2 then t else if k = 10 ∧ f = 30 ∧ i = 3 * n + 1 then f9 else if k = 10 ∧ f = 30 ∧ i = 3 * n then a else if k = 1 ∧ f = 37 ∧ i = 0 then 0 else
      if k = 6 ∧ f = 1 ∧ i = n then 1 else if k = 6 ∧ f = 0 ∧ i = n then a else if k = 9 ∧ f = 1 ∧ i = n then t else if k = 9 ∧ f = 0 ∧ i = n then f9 else if k = 9 ∧ i = n then 0 else if k = 6 ∧ i = n then 0 else S.1 k f i := fun k f i => by
    have e9 : (wrJ (newE S a f9 t) j).1 k f i = (newE S a f9 t).1 k f i := rfl
    have e7 : (mkO S 6).2.2 9 = n := by
      show (if (9 : Nat) = 6 then S.2.2 6 + 1 else S.2.2 9) = n
      rw [if_neg (by decide), w27]
    unfold mkES lastS
    rw [i0, i1, i2, nI_s]
    simp only [wrI_at, e9]
    unfold newE sAdd
    simp only [wrI_at, mkO_at, w21, w27, e7]
  have n2 : ∀ q, (mkES (wrJ (newE S a f9 t) j) (nI n) a f9 t).2.2 q = if q = 24 then n + 1 else if q = 9 then n + 1 else if q = 6 then n + 1 else S.2.2 q := fun q => by
    show (if q = 24 then (if (24 : Nat) = 9 then (if (9 : Nat) = 6 then S.2.2 6 + 1 else S.2.2 9) + 1 else if (24 : Nat) = 6 then S.2.2 6 + 1 else S.2.2 24) + 1 else if q = 9 then (if (9 : Nat) = 6 then S.2.2 6 + 1 else S.2.2 9) + 1 else if q = 6 then S.2.2 6 + 1 else S.2.2 q) = _
    rw [if_neg (show ¬ (24 : Nat) = 9 by decide), if_neg (show ¬ (24 : Nat) = 6 by decide), if_neg (show ¬ (9 : Nat) = 6 by decide), w21, w27, ← hn]
  generalize mkES (wrJ (newE S a f9 t) j) (nI n) a f9 t = S' at rd n2
  obtain ⟨hW, hc, hro, hrz, hwo, hpe, hem, hri, hgz, hau, hba, hT⟩ := hI
  refine ⟨?_, ?_, ?_, ?_, ?_, ?_, ?_, ?_, ?_, ?_, ?_, ?_⟩
  · obtain ⟨w1, w2, w3, w4, w5, w6, w7, w8⟩ := hW
    refine ⟨by simpa [n2] using w1, ?_, ?_, by simpa [rd, n2] using w4, by simpa [rd, n2] using w5, fun i hi => ?_, ?_, ?_⟩
    · simp only [n2]
      exact ⟨w2.1, w2.2.1, w2.2.2.1, w2.2.2.2.1, by simp; omega⟩
    · obtain ⟨v1, v2, v3, v4, v5, v6, v7, v8⟩ := w3
      simp only [n2]
      exact ⟨v1, v2, v3, v4, by simp, v6, v7, by simp⟩
    · rw [n2, if_pos rfl] at hi
      by_cases e1 : i = n
      · simp [rd, e1]
      · simpa [rd, e1] using w6 i (by omega)
    · unfold RoF at w7 ⊢
      simpa [rd, n2] using w7
    · unfold RiF at w8 ⊢
      simpa [rd, n2] using w8
  · obtain ⟨d1, d2, d3, d4, d5, d6⟩ := hc
    exact ⟨by simp [rd, n2, d1], by simp [rd, n2, d2], by simp [rd, n2, d3], by simp [rd, n2, d4], by simp [rd, n2], by simp [rd, d6]⟩
  · simpa [rd, n2] using hro
  · simpa [rd, n2] using hrz
  · simpa [rd, n2] using hwo
  · simpa [rd, n2] using hpe
  · intro i hi
    rw [n2, if_pos rfl] at hi
    by_cases e1 : i = n
    · subst e1
      simp [rd]
    · have old : ∀ q, q < 3 * n → S'.1 10 30 q = S.1 10 30 q := fun q hq => by
        rw [rd]
        rw [if_neg (by omega), if_neg (by omega), if_neg (by omega), if_neg (by omega), if_neg (by omega), if_neg (by omega), if_neg (by omega), if_neg (by omega), if_neg (by omega), if_neg (by omega), if_neg (by omega)]
      rw [old (3 * i) (by omega), old (3 * i + 1) (by omega), old (3 * i + 2) (by omega)]
      simpa [rd, e1] using hem i (by omega)
  · unfold LoF canT shrF reaF levF basF at hri ⊢
    simpa [rd, n2] using hri
  · simpa [rd, n2] using hgz
  · simpa [rd] using hau
  · simpa [rd] using hba
  · simpa [rd] using hT
theorem op_embargo {S : Sto} (hI : InvS S) (a f9 t : Int32) : OpI s_L_embargo s_X7_embargo [aR 0 0, aI a, aI f9, aI t, aR 12 0] [aR 1 0, aI a, aI f9, aI t] S := by
  intro F F2 hF hF2
  have hr : ref S S := ref.rf hI
  have hn20 := hI.1.2.1.2.2.2.2
  have e12 : S.1 1 34 0 = nI (S.2.2 24) := hI.2.1.2.2.2.2.1
  by_cases hk : nm a 4
  · by_cases hf : perF f9 t
    · by_cases hm : nI (S.2.2 24) < 20
      · have hlt : S.2.2 24 < 20 := (nI_lt2 (a := S.2.2 24) (b := 20) (by omega) (by omega)).mp hm
        have o : ∀ k f i, k ≠ 6 → k ≠ 9 → (newE S a f9 t).1 k f i = S.1 k f i := fun k f i q q2 => by
          unfold newE sAdd
          simp [wrI_at, mkO_at, q, q2]
        have ec : (newE S a f9 t).2.2 24 = S.2.2 24 + 1 := rfl
        have e12' : (wrJ (newE S a f9 t) (nI ((newE S a f9 t).2.2 24)).toInt64).1 1 34 0 = nI (S.2.2 24) := (o 1 34 0 (by decide) (by decide)).trans e12
        refine ⟨[aR 0 0, aI a, aI f9, aI t], rfl, rfl, rfl, hI.1, fun z => absurd hk z, fun _ z => absurd hf z, fun _ _ z => absurd hm z, fun _ _ _ => hF _ _ ⟨rfl, rfl, S, ⟨hI, fun q9 _ => ?_, fun a9 _ => ?_, ?_⟩, fun z => absurd hk z, fun _ z => absurd hf z, fun _ _ z => absurd ?_ z, fun _ _ _ => hF2 _ _ _ ?_ ?_ fun _ => ?_⟩⟩
        · funext i
          exact o 1 q9 i (by decide) (by decide)
        · funext i
          exact o 10 a9 i (by decide) (by decide)
        · funext i
          exact o 11 1 i (by decide) (by decide)
        · rw [e12']
          exact hm
        · rw [e12']
          exact inv_embargo hI hlt a f9 t _
        · unfold mkES
          rw [wrI_ne fun z => absurd z.2.1 (by decide), wrI_ne fun z => absurd z.1 (by decide), wrI_ne fun z => absurd z.1 (by decide), wrI_ne fun z => absurd z.1 (by decide)]
          exact last_v
        · rw [e12']
          show (nI ((newE S a f9 t).2.2 24)).toInt64 = _
          rw [ec, nI_s]
      · exact ⟨[aR 0 0, aI a, aI f9, aI t], rfl, rfl, rfl, hI.1, fun z => absurd hk z, fun _ z => absurd hf z, fun _ _ _ => hF _ _ ⟨rfl, rfl, S, hr, fun z => absurd hk z, fun _ z => absurd hf z, fun _ _ _ => hF2 _ _ _ (hI.last 3) last_v fun z => absurd z three0, fun _ _ z => absurd (by rw [← e12]; exact z) hm⟩, fun _ _ z => absurd z hm⟩
    · exact ⟨[aR 0 0, aI a, aI f9, aI t], rfl, rfl, rfl, hI.1, fun z => absurd hk z, fun _ _ => hF _ _ ⟨rfl, rfl, S, hr, fun z => absurd hk z, fun _ _ => hF2 _ _ _ (hI.last 2) last_v fun z => absurd z two0, fun _ z => absurd z hf, fun _ z => absurd z hf⟩, fun _ z => absurd z hf, fun _ z => absurd z hf⟩
  · exact ⟨[aR 0 0, aI a, aI f9, aI t], rfl, rfl, rfl, hI.1, fun _ => hF _ _ ⟨rfl, rfl, S, hr, fun _ => hF2 _ _ _ (hI.last 1) last_v fun z => absurd z one0, fun z => absurd z hk, fun z => absurd z hk, fun z => absurd z hk⟩, fun z => absurd z hk, fun z => absurd z hk, fun z => absurd z hk⟩
theorem inv_rig {S : Sto} (hI : InvS S) (hlt : S.2.2 22 < 6) {p a b c d e x : Int32} (hk : nm p 10) (hf : fitG a b c d e x) (j : Int64) : InvS (mkGS (wrJ (newG S p a b c d e x) j) (S.2.2 22) p a b c d e x (nI (S.2.2 22 + 1))) := by
  have w22 : S.2.2 4 = S.2.2 22 := hI.1.2.2.1.2.2.1
  have hRi := rawG_ri (S := S) (c := c) (d := d) (e := e) (x := x) hk hf.1 hf.2.1 hf.2.2.1
  obtain ⟨n, hn⟩ : ∃ n, n = S.2.2 22 := ⟨_, rfl⟩
  rw [← hn] at hlt w22 ⊢
  rw [w22] at hRi
  have rw_at : ∀ k f i, (rawG S p a b c d e x).1 k f i = if k = 4 ∧ i = n then (if f = 9 ∨ f = 10 then -1 else if f = 8 then p else if f = 0 then a else if f = 1 then b else if f = 2 then c else if f = 3 then d else if f = 4 then e else if f = 5 then x else 0) else S.1 k f i := fun k f i => by rw [rawG_at, w22]
  obtain ⟨A, hA⟩ : ∃ A, A = shrF (rawG S p a b c d e x) n (0 - reaF (rawG S p a b c d e x) n 0 0) := ⟨_, rfl⟩
  obtain ⟨B, hB⟩ : ∃ B, B = shrF (rawG S p a b c d e x) n (reaF (rawG S p a b c d e x) n 0 0) := ⟨_, rfl⟩
  have rd : ∀ k f i, (mkGS (wrJ (newG S p a b c d e x) j) n p a b c d e x (nI (n + 1))).1 k f i = if k = 1 ∧ f = 28 ∧ i = 0 then nI (n + 1) else if k = 10 ∧ f = 24 ∧ i = n then -1 else if k = 10 ∧ f = 23 ∧ i = n then -1 else if k = 10 ∧ f = 20 ∧ i = n then x else if k = 10 ∧ f = 19 ∧ i = n then e else if k = 10 ∧ f = 18 ∧ i = n then d else if k = 10 ∧ f = 17 ∧ i = n then c else if k = 10 ∧ f = 16 ∧ i = n then b else if k = 10 ∧ f = 15 ∧ i = n then a else if k = 10 ∧ f = 14 ∧ i = n then p else if k = 1 ∧ f = 37 ∧ i = 0 then 0 else
      if k = 4 ∧ f = 7 ∧ i = n then B else if k = 4 ∧ f = 6 ∧ i = n then A else if k = 4 ∧ i = n then (if f = 9 ∨ f = 10 then -1 else if f = 8 then p else if f = 0 then a else if f = 1 then b else if f = 2 then c else if f = 3 then d else if f = 4 then e else if f = 5 then x else 0) else S.1 k f i := fun k f i => by
    have e9 : (wrJ (newG S p a b c d e x) j).1 k f i = (newG S p a b c d e x).1 k f i := rfl
    unfold mkGS lastS
    simp only [wrI_at, e9]
    unfold newG sAdd takeS
    rw [w22, ← hA, ← hB]
    simp only [wrI_at, rw_at]
  have n2 : ∀ q, (mkGS (wrJ (newG S p a b c d e x) j) n p a b c d e x (nI (n + 1))).2.2 q = if q = 22 then n + 1 else if q = 4 then n + 1 else S.2.2 q := fun q => by
    show (if q = 22 then (if (22 : Nat) = 4 then S.2.2 4 + 1 else S.2.2 22) + 1 else if q = 4 then S.2.2 4 + 1 else S.2.2 q) = _
    rw [if_neg (show ¬ (22 : Nat) = 4 by decide), w22, ← hn]
  generalize mkGS (wrJ (newG S p a b c d e x) j) n p a b c d e x (nI (n + 1)) = S' at rd n2
  have eS : ∀ y, shrF S' n y = shrF (rawG S p a b c d e x) n y := fun y => by simp [shrF, rd, rw_at]
  have eR : ∀ y z, reaF S' n y z = reaF (rawG S p a b c d e x) n y z := fun y z => by simp [reaF, levF, basF, rd, rw_at]
  have oS : ∀ i y, i ≠ n → shrF S' i y = shrF S i y := fun i y h => by simp [shrF, rd, h]
  have oR : ∀ i y z, i ≠ n → reaF S' i y z = reaF S i y z := fun i y z h => by simp [reaF, levF, basF, rd, h]
  have oC : ∀ i y z, i ≠ n → canT S' i y z = canT S i y z := fun i y z h => by simp [canT, levF, basF, rd, h]
  obtain ⟨hW, hc, hro, hrz, hwo, hpe, hem, hri, hgz, hau, hba, hT⟩ := hI
  obtain ⟨o9, eo9, -, o2⟩ := rg_nI (a := 0) (b := 99999) hf.2.2.2.2.2.2 (by omega) (by omega)
  refine ⟨?_, ?_, ?_, ?_, ?_, ?_, ?_, ?_, ?_, ?_, ?_, ?_⟩
  · obtain ⟨w1, w2, w3, w4, w5, w6, w7, w8⟩ := hW
    refine ⟨by simpa [n2] using w1, ?_, ?_, by simpa [rd, n2] using w4, by simpa [rd, n2] using w5, by simpa [rd, n2] using w6, ?_, fun i hi => ?_⟩
    · simp only [n2]
      exact ⟨w2.1, w2.2.1, by simp; omega, w2.2.2.2⟩
    · obtain ⟨v1, v2, v3, v4, v5, v6, v7, v8⟩ := w3
      simp only [n2]
      exact ⟨v1, v2, by simp, v4, v5, v6, v7, v8⟩
    · unfold RoF at w7 ⊢
      simpa [rd, n2] using w7
    · rw [n2, if_pos rfl] at hi
      by_cases e1 : i = n
      · subst e1
        obtain ⟨a1, d1, p1, k1, k2, k3, k4⟩ := hRi
        rw [rw_at] at k1 k2 k3
        exact ⟨a1, d1, p1, by simpa [rd] using k1, by simpa [rd] using k2, by simpa [rd] using k3, k4⟩
      · obtain ⟨a1, d1, p1, k1, k2, k3, k4⟩ := w8 i (by omega)
        exact ⟨a1, d1, p1, by simp [rd, e1, k1], by simp [rd, e1, k2], by simp [rd, e1, k3], k4⟩
  · obtain ⟨d1, d2, d3, d4, d5, d6⟩ := hc
    exact ⟨by simp [rd, n2, d1], by simp [rd, n2, d2], by simp [rd, n2], by simp [rd, n2, d4], by simp [rd, n2, d5], by simp [rd, d6]⟩
  · simpa [rd, n2] using hro
  · simpa [rd, n2] using hrz
  · simpa [rd, n2] using hwo
  · simpa [rd, n2] using hpe
  · simpa [rd, n2] using hem
  · intro i hi
    rw [n2, if_pos rfl] at hi
    by_cases e1 : i = n
    · subst e1
      obtain ⟨g1, g2, g3, g4⟩ := hgz i (by omega)
      have x1 : S'.1 10 21 i = 0 := by simp [rd, g1]
      have x2 : S'.1 10 22 i = 0 := by simp [rd, g2]
      refine ⟨by simp [rd], by simp [rd], by simp [rd], by simp [rd], by simp [rd], by simp [rd], by simp [rd], by simp [rd], by simp [rd], by simp [rd, g3], by simp [rd, g4], ?_, fun z => absurd (by simp [rd]) z⟩
      rw [x1, x2]
      refine ⟨⟨0, 0, o9, rfl, rfl, by simp [rd, eo9], by omega, by omega, o2⟩, Or.inl rfl, ?_, ?_⟩
      · rw [eS, eR, ← hA]
        simp [rd]
      · rw [eS, eR, ← hB]
        simp [rd]
    · obtain ⟨c0, c1, c2, c3, c4, c5, c6, c7, c8, c9, c10, ⟨⟨l, cc, o, l1, l2, l3, l4, l5, l6⟩, l7, l8, l9⟩, c12⟩ := hri i (by omega)
      have x1 : S'.1 10 21 i = S.1 10 21 i := by simp [rd]
      have x2 : S'.1 10 22 i = S.1 10 22 i := by simp [rd]
      refine ⟨by simp [rd, e1, c0], by simp [rd, e1, c1], by simp [rd, e1, c2], by simp [rd, e1, c3], by simp [rd, e1, c4], by simp [rd, e1, c5], by simp [rd, e1, c6], by simp [rd, e1, c7], by simp [rd, e1, c8], by simp [rd, e1, c9], by simp [rd, e1, c10], ?_, by simpa [rd, e1] using c12⟩
      rw [x1, x2]
      refine ⟨⟨l, cc, o, l1, l2, by simp [rd, e1, l3], l4, l5, l6⟩, by rw [oC _ _ _ e1]; exact l7, ?_, ?_⟩
      · rw [oS _ _ e1, oR _ _ _ e1, ← l8]
        simp [rd, e1]
      · rw [oS _ _ e1, oR _ _ _ e1, ← l9]
        simp [rd, e1]
  · intro i hi
    rw [n2, if_pos rfl] at hi
    simpa [rd, show i ≠ n by omega] using hgz i (by omega)
  · simpa [rd] using hau
  · simpa [rd] using hba
  · simpa [rd] using hT
theorem op_rig {S : Sto} (hI : InvS S) (p a b c d e x : Int32) : OpI s_L_rig s_X7_rig [aR 0 0, aI p, aI a, aI b, aI c, aI d, aI e, aI x, aR 12 0] [aR 1 0, aI p, aI a, aI b, aI c, aI d, aI e, aI x] S := by
  intro F F2 hF hF2
  have hr : ref S S := ref.rf hI
  have hn20 := hI.1.2.1.2.2.1
  have w22 : S.2.2 4 = S.2.2 22 := hI.1.2.2.1.2.2.1
  have e12 : S.1 1 28 0 = nI (S.2.2 22) := hI.2.1.2.2.1
  by_cases hk : nm p 10
  · by_cases hf : fitG a b c d e x
    · by_cases hm : nI (S.2.2 22) < 6
      · have hlt : S.2.2 22 < 6 := (nI_lt2 (a := S.2.2 22) (b := 6) (by omega) (by omega)).mp hm
        have o : ∀ k f i, k ≠ 4 → (newG S p a b c d e x).1 k f i = S.1 k f i := fun k f i q => by
          unfold newG sAdd takeS
          simp [wrI_at, rawG_at, q]
        have e12' : (wrJ (newG S p a b c d e x) ((nI ((newG S p a b c d e x).2.2 22) - 1 : Int32)).toInt64).1 1 28 0 = nI (S.2.2 22) := (o 1 28 0 (by decide)).trans e12
        have ec : (newG S p a b c d e x).2.2 22 = S.2.2 22 + 1 := rfl
        refine ⟨[aR 0 0, aI p, aI a, aI b, aI c, aI d, aI e, aI x], rfl, rfl, rfl, hI.1, fun z => absurd hk z, fun _ z => absurd hf z, fun _ _ z => absurd hm z, fun _ _ _ => hF _ _ ⟨rfl, rfl, S, ⟨hI, fun f9 _ => ?_, fun a9 _ => ?_, ?_⟩, fun z => absurd hk z, fun _ z => absurd hf z, fun _ _ z => absurd ?_ z, fun _ _ _ => hF2 _ _ _ ?_ ?_ fun _ => ?_⟩⟩
        · funext i
          exact o 1 f9 i (by decide)
        · funext i
          exact o 10 a9 i (by decide)
        · funext i
          exact o 11 1 i (by decide)
        · rw [e12']
          exact hm
        · rw [e12', nI_cl (by omega), nI_s]
          exact inv_rig hI hlt hk hf _
        · unfold mkGS
          rw [wrI_ne fun z => absurd z.2.1 (by decide), wrI_ne fun z => absurd z.1 (by decide), wrI_ne fun z => absurd z.1 (by decide), wrI_ne fun z => absurd z.1 (by decide), wrI_ne fun z => absurd z.1 (by decide), wrI_ne fun z => absurd z.1 (by decide), wrI_ne fun z => absurd z.1 (by decide), wrI_ne fun z => absurd z.1 (by decide), wrI_ne fun z => absurd z.1 (by decide), wrI_ne fun z => absurd z.1 (by decide)]
          exact last_v
        · rw [e12']
          show (nI ((newG S p a b c d e x).2.2 22) - 1 : Int32).toInt64 = _
          rw [ec, nI_s]
      · exact ⟨[aR 0 0, aI p, aI a, aI b, aI c, aI d, aI e, aI x], rfl, rfl, rfl, hI.1, fun z => absurd hk z, fun _ z => absurd hf z, fun _ _ _ => hF _ _ ⟨rfl, rfl, S, hr, fun z => absurd hk z, fun _ z => absurd hf z, fun _ _ _ => hF2 _ _ _ (hI.last 3) last_v fun z => absurd z three0, fun _ _ z => absurd (by rw [← e12]; exact z) hm⟩, fun _ _ z => absurd z hm⟩
    · exact ⟨[aR 0 0, aI p, aI a, aI b, aI c, aI d, aI e, aI x], rfl, rfl, rfl, hI.1, fun z => absurd hk z, fun _ _ => hF _ _ ⟨rfl, rfl, S, hr, fun z => absurd hk z, fun _ _ => hF2 _ _ _ (hI.last 2) last_v fun z => absurd z two0, fun _ z => absurd z hf, fun _ z => absurd z hf⟩, fun _ z => absurd z hf, fun _ z => absurd z hf⟩
  · exact ⟨[aR 0 0, aI p, aI a, aI b, aI c, aI d, aI e, aI x], rfl, rfl, rfl, hI.1, fun _ => hF _ _ ⟨rfl, rfl, S, hr, fun _ => hF2 _ _ _ (hI.last 1) last_v fun z => absurd z one0, fun z => absurd z hk, fun z => absurd z hk, fun z => absurd z hk⟩, fun z => absurd z hk, fun z => absurd z hk, fun z => absurd z hk⟩
