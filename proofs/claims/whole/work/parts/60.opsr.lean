/-! CLASS AND MODEL AGREE: roads, works -/
theorem mkO_at {S : Sto} {k0 k f i : Nat} : (mkO S k0).1 k f i = if k = k0 ∧ i = S.2.2 k0 then 0 else S.1 k f i := by
  by_cases h : k = k0 ∧ i = S.2.2 k0
  · rw [if_pos h, h.1, h.2]
    exact mkO_new
  · rw [if_neg h]
    exact mkO_ne h
theorem inv_road {S : Sto} (hI : InvS S) (hlt : S.2.2 20 < 20) {a b c d e x y : Int32} (hk : knR a b c) (hf : fitR a b d e x y) (j : Int64) : InvS (mkRS (wrJ (newR S a b c d e x y) j) (S.2.2 20) a b c d e x y (nI (S.2.2 20 + 1))) := by
  have w20 : S.2.2 2 = S.2.2 20 := hI.1.2.2.1.1
  obtain ⟨n, hn⟩ : ∃ n, n = S.2.2 20 := ⟨_, rfl⟩
  have rd : ∀ k f i, (mkRS (wrJ (newR S a b c d e x y) j) (S.2.2 20) a b c d e x y (nI (S.2.2 20 + 1))).1 k f i = if k = 1 ∧ f = 12 ∧ i = 0 then nI (n + 1) else if k = 10 ∧ f = 9 ∧ i = n then y else if k = 10 ∧ f = 8 ∧ i = n then x else if k = 10 ∧ f = 7 ∧ i = n then e else if k = 10 ∧ f = 6 ∧ i = n then d else if k = 10 ∧ f = 5 ∧ i = n then c else if k = 10 ∧ f = 4 ∧ i = n then b else if k = 10 ∧ f = 3 ∧ i = n then a else if k = 1 ∧ f = 37 ∧ i = 0 then 0 else
      if k = 2 ∧ f = 6 ∧ i = n then y else if k = 2 ∧ f = 5 ∧ i = n then x else if k = 2 ∧ f = 4 ∧ i = n then e else if k = 2 ∧ f = 3 ∧ i = n then d else if k = 2 ∧ f = 2 ∧ i = n then c else if k = 2 ∧ f = 1 ∧ i = n then b else if k = 2 ∧ f = 0 ∧ i = n then a else if k = 2 ∧ i = n then 0 else S.1 k f i := fun k f i => by
    have e9 : (wrJ (newR S a b c d e x y) j).1 k f i = (newR S a b c d e x y).1 k f i := rfl
    unfold mkRS lastS
    simp only [wrI_at, e9, ← hn]
    unfold newR sAdd
    simp only [wrI_at, mkO_at, w20, ← hn]
  have n2 : ∀ q, (mkRS (wrJ (newR S a b c d e x y) j) (S.2.2 20) a b c d e x y (nI (S.2.2 20 + 1))).2.2 q = if q = 20 then n + 1 else if q = 2 then n + 1 else S.2.2 q := fun q => by
    show (if q = 20 then (if (20 : Nat) = 2 then S.2.2 2 + 1 else S.2.2 20) + 1 else if q = 2 then S.2.2 2 + 1 else S.2.2 q) = _
    rw [if_neg (show ¬ (20 : Nat) = 2 by decide), w20, ← hn]
  generalize mkRS (wrJ (newR S a b c d e x y) j) (S.2.2 20) a b c d e x y (nI (S.2.2 20 + 1)) = S' at rd n2
  obtain ⟨hW, hc, hro, hrz, hwo, hpe, hem, hri, hgz, hau, hba, hT⟩ := hI
  obtain ⟨p, ep, p0⟩ : ∃ p, a = nI p ∧ p < 10 := ⟨_, nm_eq (n := 0) hk.1.1, nm_lt (n := 10) hk.1 (by omega)⟩
  obtain ⟨q, eq, q0⟩ : ∃ p, b = nI p ∧ p < 10 := ⟨_, nm_eq (n := 0) hk.2.1.1, nm_lt (n := 10) hk.2.1 (by omega)⟩
  obtain ⟨u, eu, u0⟩ : ∃ p, c = nI p ∧ p < 4 := ⟨_, nm_eq (n := 0) hk.2.2.1, nm_lt (n := 4) hk.2.2 (by omega)⟩
  obtain ⟨t, et, t1, t2⟩ := rg_nI (a := 1) (b := 9) hf.2.2.2.2 (by omega) (by omega)
  have hpq : p ≠ q := fun z => hf.1 (by rw [ep, eq, z])
  rw [← hn] at hlt
  refine ⟨?_, ?_, ?_, ?_, ?_, ?_, ?_, ?_, ?_, ?_, ?_, ?_⟩
  · obtain ⟨w1, w2, w3, w4, w5, w6, w7, w8⟩ := hW
    refine ⟨by simpa [n2] using w1, ?_, ?_, by simpa [rd, n2] using w4, by simpa [rd, n2] using w5, by simpa [rd, n2] using w6, fun i hi => ?_, ?_⟩
    · simp only [n2]
      exact ⟨by simp; omega, w2.2⟩
    · simp only [n2]
      exact ⟨by simp, w3.2⟩
    · rw [n2, if_pos rfl] at hi
      by_cases e1 : i = n
      · subst e1
        exact ⟨p, q, u, t, 0, by simp [rd, ep], by simp [rd, eq], by simp [rd, eu], by simp [rd, et], by simp [rd]; rfl, p0, q0, hpq, u0, t1, t2, by omega⟩
      · obtain ⟨p, q, a', t, s, h1, h2, h3, h4, h5, h6, h7, h8, h9, h10, h11, h12⟩ := w7 i (by omega)
        exact ⟨p, q, a', t, s, by simp [rd, e1, h1], by simp [rd, e1, h2], by simp [rd, e1, h3], by simp [rd, e1, h4], by simp [rd, e1, h5], h6, h7, h8, h9, h10, h11, h12⟩
    · unfold RiF at w8 ⊢
      simpa [rd, n2] using w8
  · obtain ⟨d1, d2, d3, d4, d5, d6⟩ := hc
    exact ⟨by simp [rd, n2], by simp [rd, n2, d2], by simp [rd, n2, d3], by simp [rd, n2, d4], by simp [rd, n2, d5], by simp [rd, d6]⟩
  · intro i hi
    rw [n2, if_pos rfl] at hi
    by_cases e1 : i = n
    · subst e1
      obtain ⟨z1, z2, z3⟩ := hrz i (by omega)
      simp [rd, z1, z2, z3]
    · simpa [rd, e1] using hro i (by omega)
  · intro i hi
    rw [n2, if_pos rfl] at hi
    simpa [rd, show i ≠ n by omega] using hrz i (by omega)
  · simpa [rd, n2] using hwo
  · simpa [rd, n2] using hpe
  · simpa [rd, n2] using hem
  · unfold LoF canT shrF reaF levF basF at hri ⊢
    simpa [rd, n2] using hri
  · simpa [rd, n2] using hgz
  · simpa [rd] using hau
  · simpa [rd] using hba
  · simpa [rd] using hT
theorem nI_m1 (n : Nat) : nI (n + 1) - 1 = nI n := by
  rw [show (1 : Int32) = nI 1 from rfl, nI_sub (by omega)]
  rfl
theorem op_road {S : Sto} (hI : InvS S) (a b c d e x y : Int32) : OpI s_L_road s_X7_road [aR 0 0, aI a, aI b, aI c, aI d, aI e, aI x, aI y, aR 12 0] [aR 1 0, aI a, aI b, aI c, aI d, aI e, aI x, aI y] S := by
  intro F F2 hF hF2
  have hr : ref S S := ref.rf hI
  have hn20 := hI.1.2.1.1
  have w20 : S.2.2 2 = S.2.2 20 := hI.1.2.2.1.1
  have e12 : S.1 1 12 0 = nI (S.2.2 20) := hI.2.1.1
  by_cases hk : knR a b c
  · by_cases hf : fitR a b d e x y
    · by_cases hm : nI (S.2.2 20) < 20
      · have hlt : S.2.2 20 < 20 := (nI_lt2 (a := S.2.2 20) (b := 20) (by omega) (by omega)).mp hm
        have o : ∀ k f i, k ≠ 2 → (newR S a b c d e x y).1 k f i = S.1 k f i := fun k f i q => by
          unfold newR sAdd
          simp [wrI_at, mkO_at, q]
        have e12' : (wrJ (newR S a b c d e x y) ((nI ((newR S a b c d e x y).2.2 20) - 1 : Int32)).toInt64).1 1 12 0 = nI (S.2.2 20) := (o 1 12 0 (by decide)).trans e12
        have ec : (newR S a b c d e x y).2.2 20 = S.2.2 20 + 1 := rfl
        refine ⟨[aR 0 0, aI a, aI b, aI c, aI d, aI e, aI x, aI y], rfl, rfl, rfl, hI.1, fun z => absurd hk z, fun _ z => absurd hf z, fun _ _ z => absurd hm z, fun _ _ _ => hF _ _ ⟨rfl, rfl, S, ⟨hI, fun f9 _ => ?_, fun a9 _ => ?_, ?_⟩, fun z => absurd hk z, fun _ z => absurd hf z, fun _ _ z => absurd ?_ z, fun _ _ _ => hF2 _ _ _ ?_ ?_ fun _ => ?_⟩⟩
        · funext i
          exact o 1 f9 i (by decide)
        · funext i
          exact o 10 a9 i (by decide)
        · funext i
          exact o 11 1 i (by decide)
        · rw [e12']
          exact hm
        · rw [e12', nI_cl (by omega), nI_s]
          exact inv_road hI hlt hk hf _
        · unfold mkRS
          rw [wrI_ne fun z => absurd z.2.1 (by decide), wrI_ne fun z => absurd z.1 (by decide), wrI_ne fun z => absurd z.1 (by decide), wrI_ne fun z => absurd z.1 (by decide), wrI_ne fun z => absurd z.1 (by decide), wrI_ne fun z => absurd z.1 (by decide), wrI_ne fun z => absurd z.1 (by decide), wrI_ne fun z => absurd z.1 (by decide)]
          exact last_v
        · rw [e12']
          show (nI ((newR S a b c d e x y).2.2 20) - 1 : Int32).toInt64 = _
          rw [ec, nI_s]
      · exact ⟨[aR 0 0, aI a, aI b, aI c, aI d, aI e, aI x, aI y], rfl, rfl, rfl, hI.1, fun z => absurd hk z, fun _ z => absurd hf z, fun _ _ _ => hF _ _ ⟨rfl, rfl, S, hr, fun z => absurd hk z, fun _ z => absurd hf z, fun _ _ _ => hF2 _ _ _ (hI.last 3) last_v fun z => absurd z three0, fun _ _ z => absurd (by rw [← e12]; exact z) hm⟩, fun _ _ z => absurd z hm⟩
    · exact ⟨[aR 0 0, aI a, aI b, aI c, aI d, aI e, aI x, aI y], rfl, rfl, rfl, hI.1, fun z => absurd hk z, fun _ _ => hF _ _ ⟨rfl, rfl, S, hr, fun z => absurd hk z, fun _ _ => hF2 _ _ _ (hI.last 2) last_v fun z => absurd z two0, fun _ z => absurd z hf, fun _ z => absurd z hf⟩, fun _ z => absurd z hf, fun _ z => absurd z hf⟩
  · exact ⟨[aR 0 0, aI a, aI b, aI c, aI d, aI e, aI x, aI y], rfl, rfl, rfl, hI.1, fun _ => hF _ _ ⟨rfl, rfl, S, hr, fun _ => hF2 _ _ _ (hI.last 1) last_v fun z => absurd z one0, fun z => absurd z hk, fun z => absurd z hk, fun z => absurd z hk⟩, fun z => absurd z hk, fun z => absurd z hk, fun z => absurd z hk⟩
theorem inv_work {S : Sto} (hI : InvS S) (hlt : S.2.2 21 < 30) (r w x f9 t : Int32) (j : Int64) : InvS (mkWS (wrJ (newW S r w x f9 t) j) (nI (S.2.2 21)) r w x f9 t) := by
  have w21 : S.2.2 3 = S.2.2 21 := hI.1.2.2.1.2.1
  have w27 : S.2.2 7 = S.2.2 21 := hI.1.2.2.1.2.2.2.2.2.1
  obtain ⟨n, hn⟩ : ∃ n, n = S.2.2 21 := ⟨_, rfl⟩
  rw [← hn] at hlt w21 w27 ⊢
  have i0 : ((5 : Int32) * nI n).toNatClampNeg = 5 * n := ix_1 5 n (by omega)
  have i1 : ((5 : Int32) * nI n + 1).toNatClampNeg = 5 * n + 1 := ix_2 5 n 1 (by omega)
  have i2 : ((5 : Int32) * nI n + 2).toNatClampNeg = 5 * n + 2 := ix_2 5 n 2 (by omega)
  have i3 : ((5 : Int32) * nI n + 3).toNatClampNeg = 5 * n + 3 := ix_2 5 n 3 (by omega)
  have i4 : ((5 : Int32) * nI n + 4).toNatClampNeg = 5 * n + 4 := ix_2 5 n 4 (by omega)
  have rd : ∀ k f i, (mkWS (wrJ (newW S r w x f9 t) j) (nI n) r w x f9 t).1 k f i = if k = 1 ∧ f = 14 ∧ i = 0 then nI (n + 1) else if k = 10 ∧ f = 13 ∧ i = 5 * n + 4 then t else if k = 10 ∧ f = 13 ∧ i = 5 * n + 3 then f9 else if k = 10 ∧ f = 13 ∧ i = 5 * n + 2 then x else if k = 10 ∧ f = 13 ∧ i = 5 * n + 1 then w else if k = 10 ∧ f = 13 ∧ i = 5 * n then r else if k = 1 ∧ f = 37 ∧ i = 0 then 0 else
      if k = 3 ∧ f = 3 ∧ i = n then 1 else if k = 3 ∧ f = 2 ∧ i = n then x else if k = 3 ∧ f = 1 ∧ i = n then w else if k = 3 ∧ f = 0 ∧ i = n then r else if k = 7 ∧ f = 1 ∧ i = n then t else if k = 7 ∧ f = 0 ∧ i = n then f9 else if k = 7 ∧ i = n then 0 else if k = 3 ∧ i = n then 0 else S.1 k f i := fun k f i => by
    have e9 : (wrJ (newW S r w x f9 t) j).1 k f i = (newW S r w x f9 t).1 k f i := rfl
    have e7 : (mkO S 3).2.2 7 = n := by
      show (if (7 : Nat) = 3 then S.2.2 3 + 1 else S.2.2 7) = n
      rw [if_neg (by decide), w27]
    unfold mkWS lastS
    rw [i0, i1, i2, i3, i4, nI_s]
    simp only [wrI_at, e9]
    unfold newW sAdd
    simp only [wrI_at, mkO_at, w21, w27, e7]
  have n2 : ∀ q, (mkWS (wrJ (newW S r w x f9 t) j) (nI n) r w x f9 t).2.2 q = if q = 21 then n + 1 else if q = 7 then n + 1 else if q = 3 then n + 1 else S.2.2 q := fun q => by
    show (if q = 21 then (if (21 : Nat) = 7 then (if (7 : Nat) = 3 then S.2.2 3 + 1 else S.2.2 7) + 1 else if (21 : Nat) = 3 then S.2.2 3 + 1 else S.2.2 21) + 1 else if q = 7 then (if (7 : Nat) = 3 then S.2.2 3 + 1 else S.2.2 7) + 1 else if q = 3 then S.2.2 3 + 1 else S.2.2 q) = _
    rw [if_neg (show ¬ (21 : Nat) = 7 by decide), if_neg (show ¬ (21 : Nat) = 3 by decide), if_neg (show ¬ (7 : Nat) = 3 by decide), w21, w27, ← hn]
  generalize mkWS (wrJ (newW S r w x f9 t) j) (nI n) r w x f9 t = S' at rd n2
  obtain ⟨hW, hc, hro, hrz, hwo, hpe, hem, hri, hgz, hau, hba, hT⟩ := hI
  refine ⟨?_, ?_, ?_, ?_, ?_, ?_, ?_, ?_, ?_, ?_, ?_, ?_⟩
  · obtain ⟨w1, w2, w3, w4, w5, w6, w7, w8⟩ := hW
    refine ⟨by simpa [n2] using w1, ?_, ?_, fun i hi => ?_, by simpa [rd, n2] using w5, by simpa [rd, n2] using w6, ?_, ?_⟩
    · simp only [n2]
      exact ⟨w2.1, by simp; omega, w2.2.2⟩
    · obtain ⟨v1, v2, v3, v4, v5, v6, v7, v8⟩ := w3
      simp only [n2]
      exact ⟨v1, by simp, v3, v4, v5, by simp, v7, v8⟩
    · rw [n2, if_pos rfl] at hi
      by_cases e1 : i = n
      · simp [rd, e1]
      · simpa [rd, e1] using w4 i (by omega)
    · unfold RoF at w7 ⊢
      simpa [rd, n2] using w7
    · unfold RiF at w8 ⊢
      simpa [rd, n2] using w8
  · obtain ⟨d1, d2, d3, d4, d5, d6⟩ := hc
    exact ⟨by simp [rd, n2, d1], by simp [rd, n2], by simp [rd, n2, d3], by simp [rd, n2, d4], by simp [rd, n2, d5], by simp [rd, d6]⟩
  · simpa [rd, n2] using hro
  · simpa [rd, n2] using hrz
  · intro i hi
    rw [n2, if_pos rfl] at hi
    by_cases e1 : i = n
    · subst e1
      simp [rd]
    · have old : ∀ q, q < 5 * n → S'.1 10 13 q = S.1 10 13 q := fun q hq => by
        rw [rd]
        rw [if_neg (by omega), if_neg (by omega), if_neg (by omega), if_neg (by omega), if_neg (by omega), if_neg (by omega), if_neg (by omega), if_neg (by omega), if_neg (by omega), if_neg (by omega), if_neg (by omega), if_neg (by omega), if_neg (by omega), if_neg (by omega), if_neg (by omega)]
      rw [old (5 * i) (by omega), old (5 * i + 1) (by omega), old (5 * i + 2) (by omega), old (5 * i + 3) (by omega), old (5 * i + 4) (by omega)]
      simpa [rd, e1] using hwo i (by omega)
  · simpa [rd, n2] using hpe
  · simpa [rd, n2] using hem
  · unfold LoF canT shrF reaF levF basF at hri ⊢
    simpa [rd, n2] using hri
  · simpa [rd, n2] using hgz
  · simpa [rd] using hau
  · simpa [rd] using hba
  · simpa [rd] using hT
theorem op_work {S : Sto} (hI : InvS S) (r w x f9 t : Int32) : OpI s_L_work s_X7_work [aR 0 0, aI r, aI w, aI x, aI f9, aI t, aR 12 0] [aR 1 0, aI r, aI w, aI x, aI f9, aI t] S := by
  intro F F2 hF hF2
  have hr : ref S S := ref.rf hI
  have hn20 := hI.1.2.1.2.1
  have e12 : S.1 1 14 0 = nI (S.2.2 21) := hI.2.1.2.1
  by_cases hk : knW S r
  · by_cases hf : fitW w x f9 t
    · by_cases hm : nI (S.2.2 21) < 30
      · have hlt : S.2.2 21 < 30 := (nI_lt2 (a := S.2.2 21) (b := 30) (by omega) (by omega)).mp hm
        have o : ∀ k f i, k ≠ 3 → k ≠ 7 → (newW S r w x f9 t).1 k f i = S.1 k f i := fun k f i q q2 => by
          unfold newW sAdd
          simp [wrI_at, mkO_at, q, q2]
        have ec : (newW S r w x f9 t).2.2 21 = S.2.2 21 + 1 := rfl
        have e12' : (wrJ (newW S r w x f9 t) (nI ((newW S r w x f9 t).2.2 21)).toInt64).1 1 14 0 = nI (S.2.2 21) := (o 1 14 0 (by decide) (by decide)).trans e12
        refine ⟨[aR 0 0, aI r, aI w, aI x, aI f9, aI t], rfl, rfl, rfl, hI.1, fun z => absurd hk z, fun _ z => absurd hf z, fun _ _ z => absurd hm z, fun _ _ _ => hF _ _ ⟨rfl, rfl, S, ⟨hI, fun q9 _ => ?_, fun a9 _ => ?_, ?_⟩, fun z => absurd hk z, fun _ z => absurd hf z, fun _ _ z => absurd ?_ z, fun _ _ _ => hF2 _ _ _ ?_ ?_ fun _ => ?_⟩⟩
        · funext i
          exact o 1 q9 i (by decide) (by decide)
        · funext i
          exact o 10 a9 i (by decide) (by decide)
        · funext i
          exact o 11 1 i (by decide) (by decide)
        · rw [e12']
          exact hm
        · rw [e12']
          exact inv_work hI hlt r w x f9 t _
        · unfold mkWS
          rw [wrI_ne fun z => absurd z.2.1 (by decide), wrI_ne fun z => absurd z.1 (by decide), wrI_ne fun z => absurd z.1 (by decide), wrI_ne fun z => absurd z.1 (by decide), wrI_ne fun z => absurd z.1 (by decide), wrI_ne fun z => absurd z.1 (by decide)]
          exact last_v
        · rw [e12']
          show (nI ((newW S r w x f9 t).2.2 21)).toInt64 = _
          rw [ec, nI_s]
      · exact ⟨[aR 0 0, aI r, aI w, aI x, aI f9, aI t], rfl, rfl, rfl, hI.1, fun z => absurd hk z, fun _ z => absurd hf z, fun _ _ _ => hF _ _ ⟨rfl, rfl, S, hr, fun z => absurd hk z, fun _ z => absurd hf z, fun _ _ _ => hF2 _ _ _ (hI.last 3) last_v fun z => absurd z three0, fun _ _ z => absurd (by rw [← e12]; exact z) hm⟩, fun _ _ z => absurd z hm⟩
    · exact ⟨[aR 0 0, aI r, aI w, aI x, aI f9, aI t], rfl, rfl, rfl, hI.1, fun z => absurd hk z, fun _ _ => hF _ _ ⟨rfl, rfl, S, hr, fun z => absurd hk z, fun _ _ => hF2 _ _ _ (hI.last 2) last_v fun z => absurd z two0, fun _ z => absurd z hf, fun _ z => absurd z hf⟩, fun _ z => absurd z hf, fun _ z => absurd z hf⟩
  · exact ⟨[aR 0 0, aI r, aI w, aI x, aI f9, aI t], rfl, rfl, rfl, hI.1, fun _ => hF _ _ ⟨rfl, rfl, S, hr, fun _ => hF2 _ _ _ (hI.last 1) last_v fun z => absurd z one0, fun z => absurd z hk, fun z => absurd z hk, fun z => absurd z hk⟩, fun z => absurd z hk, fun z => absurd z hk, fun z => absurd z hk⟩
