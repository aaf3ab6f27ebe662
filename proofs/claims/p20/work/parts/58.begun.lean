/-! THE BEGINNING: roads and rigs are told -/
def BegI (n r : Nat) (S : Sto) : Prop :=
  WfH S ∧ (S.2.2 20 = n ∧ S.2.2 22 = r ∧ S.2.2 21 = 0 ∧ S.2.2 23 = 0 ∧ S.2.2 24 = 0) ∧ RoL S n ∧ (∀ i, 10 * n ≤ i → S.1 10 3 i = 0) ∧ RiL S r 0 ∧ (∀ i, 14 * r ≤ i → S.1 10 5 i = 0) ∧ (∀ i, S.1 10 8 i = 0 ∧ (i < 4 → S.1 10 0 i = 0 ∧ S.1 10 1 i = 99999)) ∧ MmL 0 S ∧ BaL S
def lwR (S : Sto) (n : Nat) (a b c d e x y : Int32) : Sto := wrI (wrI (wrI (wrI (wrI (wrI (wrI S 10 3 (10 * n) a) 10 3 (10 * n + 1) b) 10 3 (10 * n + 2) c) 10 3 (10 * n + 3) d) 10 3 (10 * n + 4) e) 10 3 (10 * n + 5) x) 10 3 (10 * n + 6) y
theorem inv_road {n r : Nat} {S : Sto} (hI : BegI n r S) (hlt : n < 6) {p q u : Nat} {d e x y : Int32} (hp : p < 5) (hq : q < 5) (hpq : p ≠ q) (hu : u < 4) (hy : rg y 1 9) : BegI (n + 1) r (newR (lwR S n (nI p) (nI q) (nI u) d e x y) (nI p) (nI q) (nI u) d e x y) := by
  obtain ⟨hW, hN, hro, hrz, hri, hgz, hau, hmm, hba⟩ := hI
  have w20 : S.2.2 2 = n := hW.2.2.1.1.trans hN.1
  have rd : ∀ k f i, (newR (lwR S n (nI p) (nI q) (nI u) d e x y) (nI p) (nI q) (nI u) d e x y).1 k f i = if k = 2 ∧ f = 6 ∧ i = n then y else if k = 2 ∧ f = 5 ∧ i = n then x else if k = 2 ∧ f = 4 ∧ i = n then e else if k = 2 ∧ f = 3 ∧ i = n then d else if k = 2 ∧ f = 2 ∧ i = n then nI u else if k = 2 ∧ f = 1 ∧ i = n then nI q else if k = 2 ∧ f = 0 ∧ i = n then nI p else if k = 2 ∧ i = n then 0 else
      if k = 10 ∧ f = 3 ∧ i = 10 * n + 6 then y else if k = 10 ∧ f = 3 ∧ i = 10 * n + 5 then x else if k = 10 ∧ f = 3 ∧ i = 10 * n + 4 then e else if k = 10 ∧ f = 3 ∧ i = 10 * n + 3 then d else if k = 10 ∧ f = 3 ∧ i = 10 * n + 2 then nI u else if k = 10 ∧ f = 3 ∧ i = 10 * n + 1 then nI q else if k = 10 ∧ f = 3 ∧ i = 10 * n then nI p else S.1 k f i := fun k f i => by
    have e6 : (lwR S n (nI p) (nI q) (nI u) d e x y).2.2 2 = n := w20
    unfold newR sAdd
    simp only [wrI_at, mkO_at, e6]
    unfold lwR
    simp only [wrI_at]
  have n2 : ∀ z, (newR (lwR S n (nI p) (nI q) (nI u) d e x y) (nI p) (nI q) (nI u) d e x y).2.2 z = if z = 20 then n + 1 else if z = 2 then n + 1 else S.2.2 z := fun z => by
    show (if z = 20 then (if (20 : Nat) = 2 then S.2.2 2 + 1 else S.2.2 20) + 1 else if z = 2 then S.2.2 2 + 1 else S.2.2 z) = _
    rw [if_neg (show ¬ (20 : Nat) = 2 by decide), w20, hN.1]
  generalize newR (lwR S n (nI p) (nI q) (nI u) d e x y) (nI p) (nI q) (nI u) d e x y = S' at rd n2
  obtain ⟨t, et, t1, t2⟩ := rg_nI (a := 1) (b := 9) hy (by omega) (by omega)
  refine ⟨?_, ?_, ?_, ?_, ?_, ?_, ?_, ?_, ?_⟩
  · obtain ⟨w1, w2, w3, w4, w5, w6, w7, w8⟩ := hW
    refine ⟨by simpa [n2] using w1, ?_, ?_, by simpa [rd, n2] using w4, by simpa [rd, n2] using w5, by simpa [rd, n2] using w6, fun i hi => ?_, ?_⟩
    · simp only [n2]
      exact ⟨by simp; omega, w2.2⟩
    · simp only [n2]
      exact ⟨by simp, w3.2⟩
    · rw [n2, if_pos rfl] at hi
      by_cases e1 : i = n
      · subst e1
        exact ⟨p, q, u, t, 0, by simp [rd], by simp [rd], by simp [rd], by simp [rd, et], by simp [rd]; rfl, by omega, by omega, hpq, hu, t1, t2, by omega⟩
      · obtain ⟨p, q, a', t, s, h1, h2, h3, h4, h5, h6, h7, h8, h9, h10, h11, h12⟩ := w7 i (by omega)
        exact ⟨p, q, a', t, s, by simp [rd, e1, h1], by simp [rd, e1, h2], by simp [rd, e1, h3], by simp [rd, e1, h4], by simp [rd, e1, h5], h6, h7, h8, h9, h10, h11, h12⟩
    · unfold RiF at w8 ⊢
      simpa [rd, n2] using w8
  · simp only [n2]
    exact ⟨by simp, by simpa using hN.2.1, by simpa using hN.2.2.1, by simpa using hN.2.2.2.1, by simpa using hN.2.2.2.2⟩
  · intro i hi
    by_cases e1 : i = n
    · subst e1
      refine ⟨fun f hf => ?_, ?_, ?_⟩
      · have z7 := hrz (10 * i + 7) (by omega)
        have z8 := hrz (10 * i + 8) (by omega)
        have z9 := hrz (10 * i + 9) (by omega)
        have h10 : f = 0 ∨ f = 1 ∨ f = 2 ∨ f = 3 ∨ f = 4 ∨ f = 5 ∨ f = 6 ∨ f = 7 ∨ f = 8 ∨ f = 9 := by omega
        rcases h10 with rfl | rfl | rfl | rfl | rfl | rfl | rfl | rfl | rfl | rfl <;> simp [rd, z7, z8, z9]
      · have e9 : S'.1 2 0 i = nI p := by simp [rd]
        unfold onN
        rw [e9, nI_cl (by omega)]
        exact hp
      · have e9 : S'.1 2 1 i = nI q := by simp [rd]
        unfold otN
        rw [e9, nI_cl (by omega)]
        exact hq
    · obtain ⟨c0, c1, c2⟩ := hro i (by omega)
      refine ⟨fun f hf => ?_, ?_, ?_⟩
      · have h9 := c0 f hf
        have o : S'.1 10 3 (10 * i + f) = S.1 10 3 (10 * i + f) := by
          rw [rd]
          rw [if_neg fun z => absurd z.1 (by decide), if_neg fun z => absurd z.1 (by decide), if_neg fun z => absurd z.1 (by decide), if_neg fun z => absurd z.1 (by decide), if_neg fun z => absurd z.1 (by decide), if_neg fun z => absurd z.1 (by decide), if_neg fun z => absurd z.1 (by decide), if_neg fun z => absurd z.1 (by decide), if_neg fun z => by omega, if_neg fun z => by omega, if_neg fun z => by omega, if_neg fun z => by omega, if_neg fun z => by omega, if_neg fun z => by omega, if_neg fun z => by omega]
        rw [o, h9]
        simp [rd, e1]
      · unfold onN at c1 ⊢
        simpa [rd, e1] using c1
      · unfold otN at c2 ⊢
        simpa [rd, e1] using c2
  · intro i hi
    rw [rd]
    rw [if_neg fun z => absurd z.1 (by decide), if_neg fun z => absurd z.1 (by decide), if_neg fun z => absurd z.1 (by decide), if_neg fun z => absurd z.1 (by decide), if_neg fun z => absurd z.1 (by decide), if_neg fun z => absurd z.1 (by decide), if_neg fun z => absurd z.1 (by decide), if_neg fun z => absurd z.1 (by decide), if_neg fun z => by omega, if_neg fun z => by omega, if_neg fun z => by omega, if_neg fun z => by omega, if_neg fun z => by omega, if_neg fun z => by omega, if_neg fun z => by omega]
    exact hrz i (by omega)
  · unfold RiL LoF DrF canT shrF reaF levF basF at hri ⊢
    simpa [rd, n2] using hri
  · simpa [rd] using hgz
  · simpa [rd] using hau
  · obtain ⟨d1, d2, d3, d4, d5⟩ := hmm
    exact ⟨by simp [rd, d1], by simp [rd, d2], by simp [rd, n2, d3], by simp [rd, n2, d4], by simp [rd, n2, d5]⟩
  · unfold BaL bayH at hba ⊢
    simpa [rd, n2] using hba
def lwG (S : Sto) (n : Nat) (p a b c d e x : Int32) : Sto := wrI (wrI (wrI (wrI (wrI (wrI (wrI (wrI (wrI S 10 5 (14 * n) p) 10 5 (14 * n + 1) a) 10 5 (14 * n + 2) b) 10 5 (14 * n + 3) c) 10 5 (14 * n + 4) d) 10 5 (14 * n + 5) e) 10 5 (14 * n + 6) x) 10 5 (14 * n + 9) (-1)) 10 5 (14 * n + 10) (-1)
theorem inv_rig {n r : Nat} {S : Sto} (hI : BegI n r S) (hlt : r < 2) {p : Nat} {a b c d e x : Int32} (hp : p < 5) (hf : fitG a b c d e x) : BegI n (r + 1) (newG (lwG S r (nI p) a b c d e x) (nI p) a b c d e x) := by
  obtain ⟨hW, hN, hro, hrz, hri, hgz, hau, hmm, hba⟩ := hI
  have w22 : S.2.2 4 = r := hW.2.2.1.2.2.1.trans hN.2.1
  have hk : nm (nI p) 10 := nmN (b := 10) (by omega) (by omega)
  obtain ⟨S1, hS1⟩ : ∃ S1, S1 = lwG S r (nI p) a b c d e x := ⟨_, rfl⟩
  have s1 : ∀ k f i, S1.1 k f i = if k = 10 ∧ f = 5 ∧ i = 14 * r + 10 then -1 else if k = 10 ∧ f = 5 ∧ i = 14 * r + 9 then -1 else if k = 10 ∧ f = 5 ∧ i = 14 * r + 6 then x else if k = 10 ∧ f = 5 ∧ i = 14 * r + 5 then e else if k = 10 ∧ f = 5 ∧ i = 14 * r + 4 then d else if k = 10 ∧ f = 5 ∧ i = 14 * r + 3 then c else if k = 10 ∧ f = 5 ∧ i = 14 * r + 2 then b else if k = 10 ∧ f = 5 ∧ i = 14 * r + 1 then a else if k = 10 ∧ f = 5 ∧ i = 14 * r then nI p else S.1 k f i := fun k f i => by
    rw [hS1]
    unfold lwG
    simp only [wrI_at]
  have s2 : S1.2 = S.2 := by rw [hS1]; rfl
  have w4 : S1.2.2 4 = r := by rw [s2]; exact w22
  have hRi := rawG_ri (S := S1) (c := c) (d := d) (e := e) (x := x) hk hf.1 hf.2.1 hf.2.2.1
  rw [← hS1]
  rw [w4] at hRi
  have rw_at : ∀ k f i, (rawG S1 (nI p) a b c d e x).1 k f i = if k = 4 ∧ i = r then (if f = 9 ∨ f = 10 then -1 else if f = 8 then nI p else if f = 0 then a else if f = 1 then b else if f = 2 then c else if f = 3 then d else if f = 4 then e else if f = 5 then x else 0) else S1.1 k f i := fun k f i => by rw [rawG_at, w4]
  obtain ⟨A, hA⟩ : ∃ A, A = shrF (rawG S1 (nI p) a b c d e x) r (0 - reaF (rawG S1 (nI p) a b c d e x) r 0 0) := ⟨_, rfl⟩
  obtain ⟨B, hB⟩ : ∃ B, B = shrF (rawG S1 (nI p) a b c d e x) r (reaF (rawG S1 (nI p) a b c d e x) r 0 0) := ⟨_, rfl⟩
  have rd1 : ∀ k f i, (newG S1 (nI p) a b c d e x).1 k f i = if k = 4 ∧ f = 7 ∧ i = r then B else if k = 4 ∧ f = 6 ∧ i = r then A else if k = 4 ∧ i = r then (if f = 9 ∨ f = 10 then -1 else if f = 8 then nI p else if f = 0 then a else if f = 1 then b else if f = 2 then c else if f = 3 then d else if f = 4 then e else if f = 5 then x else 0) else S1.1 k f i := fun k f i => by
    unfold newG sAdd takeS
    rw [w4, ← hA, ← hB]
    simp only [wrI_at, rw_at]
  have n2 : ∀ q, (newG S1 (nI p) a b c d e x).2.2 q = if q = 22 then r + 1 else if q = 4 then r + 1 else S.2.2 q := fun q => by
    show (if q = 22 then (if (22 : Nat) = 4 then S1.2.2 4 + 1 else S1.2.2 22) + 1 else if q = 4 then S1.2.2 4 + 1 else S1.2.2 q) = _
    rw [if_neg (show ¬ (22 : Nat) = 4 by decide), w4, s2, hN.2.1]
  generalize newG S1 (nI p) a b c d e x = S' at rd1 n2
  have eS : ∀ y, shrF S' r y = shrF (rawG S1 (nI p) a b c d e x) r y := fun y => by simp [shrF, rd1, rw_at]
  have eR : ∀ y z, reaF S' r y z = reaF (rawG S1 (nI p) a b c d e x) r y z := fun y z => by simp [reaF, levF, basF, rd1, rw_at]
  have rd : ∀ k f i, S'.1 k f i = if k = 4 ∧ f = 7 ∧ i = r then B else if k = 4 ∧ f = 6 ∧ i = r then A else if k = 4 ∧ i = r then (if f = 9 ∨ f = 10 then -1 else if f = 8 then nI p else if f = 0 then a else if f = 1 then b else if f = 2 then c else if f = 3 then d else if f = 4 then e else if f = 5 then x else 0) else if k = 10 ∧ f = 5 ∧ i = 14 * r + 10 then -1 else if k = 10 ∧ f = 5 ∧ i = 14 * r + 9 then -1 else if k = 10 ∧ f = 5 ∧ i = 14 * r + 6 then x else if k = 10 ∧ f = 5 ∧ i = 14 * r + 5 then e else if k = 10 ∧ f = 5 ∧ i = 14 * r + 4 then d else if k = 10 ∧ f = 5 ∧ i = 14 * r + 3 then c else if k = 10 ∧ f = 5 ∧ i = 14 * r + 2 then b else if k = 10 ∧ f = 5 ∧ i = 14 * r + 1 then a else if k = 10 ∧ f = 5 ∧ i = 14 * r then nI p else S.1 k f i := fun k f i => by rw [rd1, s1]
  have oS : ∀ i y, i ≠ r → shrF S' i y = shrF S i y := fun i y h => by simp [shrF, rd, h]
  have oR : ∀ i y z, i ≠ r → reaF S' i y z = reaF S i y z := fun i y z h => by simp [reaF, levF, basF, rd, h]
  have oC : ∀ i y z, i ≠ r → canT S' i y z = canT S i y z := fun i y z h => by simp [canT, levF, basF, rd, h]
  obtain ⟨o9, eo9, -, o2⟩ := rg_nI (a := 0) (b := 99999) hf.2.2.2.2.2.2 (by omega) (by omega)
  refine ⟨?_, ?_, ?_, ?_, ?_, ?_, ?_, ?_, ?_⟩
  · obtain ⟨w1, w2, w3, w4, w5, w6, w7, w8⟩ := hW
    refine ⟨by simpa [n2] using w1, ?_, ?_, by simpa [rd, n2] using w4, by simpa [rd, n2] using w5, by simpa [rd, n2] using w6, ?_, fun i hi => ?_⟩
    · simp only [n2]
      exact ⟨w2.1, w2.2.1, by simp; omega, w2.2.2.2⟩
    · obtain ⟨v1, v2, v3, v4, v5, v6, v7, v8⟩ := w3
      simp only [n2]
      exact ⟨v1, v2, by simp, v4, v5, v6, v7, v8⟩
    · unfold RoF at w7 ⊢
      simpa [rd, n2] using w7
    · rw [n2, if_pos rfl] at hi
      by_cases e1 : i = r
      · subst e1
        obtain ⟨a1, d1, p1, k1, k2, k3, k4⟩ := hRi
        rw [rw_at] at k1 k2 k3
        exact ⟨a1, d1, p1, by simpa [rd] using k1, by simpa [rd] using k2, by simpa [rd] using k3, k4⟩
      · obtain ⟨a1, d1, p1, k1, k2, k3, k4⟩ := w8 i (by omega)
        exact ⟨a1, d1, p1, by simp [rd, e1, k1], by simp [rd, e1, k2], by simp [rd, e1, k3], k4⟩
  · simp only [n2]
    exact ⟨by simpa using hN.1, by simp, by simpa using hN.2.2.1, by simpa using hN.2.2.2.1, by simpa using hN.2.2.2.2⟩
  · unfold RoL onN otN at hro ⊢
    simpa [rd, n2] using hro
  · simpa [rd] using hrz
  · intro i hi
    by_cases e1 : i = r
    · subst e1
      have z7 := hgz (14 * i + 7) (by omega)
      have z8 := hgz (14 * i + 8) (by omega)
      have z11 := hgz (14 * i + 11) (by omega)
      have z12 := hgz (14 * i + 12) (by omega)
      refine ⟨fun f hf9 h7 h8 => ?_, ?_, ⟨p, by simp [rd], hp⟩, Or.inl (by simp [rd])⟩
      · have h13 : f = 0 ∨ f = 1 ∨ f = 2 ∨ f = 3 ∨ f = 4 ∨ f = 5 ∨ f = 6 ∨ f = 9 ∨ f = 10 ∨ f = 11 ∨ f = 12 := by omega
        rcases h13 with rfl | rfl | rfl | rfl | rfl | rfl | rfl | rfl | rfl | rfl | rfl <;> simp [rd, gmF, z11, z12]
      · have x1 : S'.1 10 5 (14 * i + 7) = 0 := by simp [rd, z7]
        have x2 : S'.1 10 5 (14 * i + 8) = 0 := by simp [rd, z8]
        rw [x1, x2]
        refine ⟨⟨0, 0, o9, rfl, rfl, by simp [rd, eo9], by omega, by omega, o2⟩, Or.inl rfl, ?_, ?_⟩
        · rw [eS, eR, ← hA]
          simp [rd]
        · rw [eS, eR, ← hB]
          simp [rd]
    · obtain ⟨c0, ⟨⟨l, cc, o, l1, l2, l3, l4, l5, l6⟩, l7, l8, l9⟩, c2⟩ := hri i (by omega)
      have old : ∀ f, f < 14 → S'.1 10 5 (14 * i + f) = S.1 10 5 (14 * i + f) := fun f hf9 => by
        rw [rd]
        rw [if_neg fun z => absurd z.1 (by decide), if_neg fun z => absurd z.1 (by decide), if_neg fun z => absurd z.1 (by decide), if_neg fun z => by omega, if_neg fun z => by omega, if_neg fun z => by omega, if_neg fun z => by omega, if_neg fun z => by omega, if_neg fun z => by omega, if_neg fun z => by omega, if_neg fun z => by omega, if_neg fun z => by omega]
      refine ⟨fun f hf9 h7 h8 => ?_, ?_, ?_⟩
      · rw [old f (by omega), c0 f hf9 h7 h8]
        simp [rd, e1]
      · rw [old 7 (by omega), old 8 (by omega)]
        refine ⟨⟨l, cc, o, l1, l2, by simp [rd, e1, l3], l4, l5, l6⟩, by rw [oC _ _ _ e1]; exact l7, ?_, ?_⟩
        · rw [oS _ _ e1, oR _ _ _ e1, ← l8]
          simp [rd, e1]
        · rw [oS _ _ e1, oR _ _ _ e1, ← l9]
          simp [rd, e1]
      · unfold DrF at c2 ⊢
        simpa [rd, e1] using c2
  · intro i hi
    rw [rd]
    rw [if_neg fun z => absurd z.1 (by decide), if_neg fun z => absurd z.1 (by decide), if_neg fun z => absurd z.1 (by decide), if_neg fun z => by omega, if_neg fun z => by omega, if_neg fun z => by omega, if_neg fun z => by omega, if_neg fun z => by omega, if_neg fun z => by omega, if_neg fun z => by omega, if_neg fun z => by omega, if_neg fun z => by omega]
    exact hgz i (by omega)
  · simpa [rd] using hau
  · obtain ⟨d1, d2, d3, d4, d5⟩ := hmm
    exact ⟨by simp [rd, d1], by simp [rd, d2], by simp [rd, n2, d3], by simp [rd, n2, d4], by simp [rd, n2, d5]⟩
  · unfold BaL bayH at hba ⊢
    simpa [rd, n2] using hba
/-- all stands -/
theorem beg_law {S : Sto} (hI : BegI 6 2 S) : LawI 0 (wrI (wrI (wrI (wrI S 10 8 4 99999) 10 8 5 99999) 10 8 6 99999) 10 8 7 99999) := by
  obtain ⟨hW, hN, hro, hrz, hri, hgz, hau, hmm, hba⟩ := hI
  have rd : ∀ k f i, (wrI (wrI (wrI (wrI S 10 8 4 99999) 10 8 5 99999) 10 8 6 99999) 10 8 7 99999).1 k f i = if k = 10 ∧ f = 8 ∧ i = 7 then 99999 else if k = 10 ∧ f = 8 ∧ i = 6 then 99999 else if k = 10 ∧ f = 8 ∧ i = 5 then 99999 else if k = 10 ∧ f = 8 ∧ i = 4 then 99999 else S.1 k f i := fun k f i => by simp only [wrI_at]
  have n2 : (wrI (wrI (wrI (wrI S 10 8 4 99999) 10 8 5 99999) 10 8 6 99999) 10 8 7 99999).2.2 = S.2.2 := rfl
  generalize wrI (wrI (wrI (wrI S 10 8 4 99999) 10 8 5 99999) 10 8 6 99999) 10 8 7 99999 = S' at rd n2
  refine ⟨?_, ?_, ?_, ?_, ?_, ?_, ?_, ?_, ?_, ?_⟩
  · unfold WfH RoF RiF at hW ⊢
    simpa [rd, n2] using hW
  · rw [n2, hN.2.2.1, hN.2.2.2.1, hN.2.2.2.2]
    exact ⟨hN.1, hN.2.1, by omega, by omega, by omega⟩
  · unfold RoL onN otN at hro ⊢
    simpa [rd, n2] using hro
  · unfold RiL LoF DrF canT shrF reaF levF basF at hri ⊢
    simpa [rd, n2] using hri
  · intro i hi
    rw [n2, hN.2.2.1] at hi
    exact absurd hi (Nat.not_lt_zero i)
  · intro i hi
    rw [n2, hN.2.2.2.1] at hi
    exact absurd hi (Nat.not_lt_zero i)
  · intro i hi
    rw [n2, hN.2.2.2.2] at hi
    exact absurd hi (Nat.not_lt_zero i)
  · intro i hi
    obtain ⟨x8, x4⟩ := hau i
    obtain ⟨x0, x1⟩ := x4 hi
    refine ⟨?_, ?_, 0, ?_, by omega⟩
    · have : i ≠ 7 ∧ i ≠ 6 ∧ i ≠ 5 ∧ i ≠ 4 := by omega
      simp [rd, this, x8, x0]
    · have h4 : i = 0 ∨ i = 1 ∨ i = 2 ∨ i = 3 := by omega
      rcases h4 with rfl | rfl | rfl | rfl <;> simp [rd, x1]
    · simp [rd, x0]
      rfl
  · obtain ⟨d1, d2, d3, d4, d5⟩ := hmm
    exact ⟨by simp [rd, d1], by simp [rd, d2], by simp [rd, n2, d3], by simp [rd, n2, d4], by simp [rd, n2, d5]⟩
  · unfold BaL bayH at hba ⊢
    simpa [rd, n2] using hba
