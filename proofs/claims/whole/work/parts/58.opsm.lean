/-! CLASS AND MODEL AGREE: calls that write -/
theorem inv_bay {S : Sto} (hI : InvS S) (p : Nat) (is : Int32) (j : Int64) (hb : is &&& 1 = is) : InvS (wrI (lastS (wrJ (wrI S 11 0 p is) j) 0) 11 1 p is) := by
  have rd : ∀ k f i, (wrI (lastS (wrJ (wrI S 11 0 p is) j) 0) 11 1 p is).1 k f i = if k = 11 ∧ f = 1 ∧ i = p then is else if k = 1 ∧ f = 37 ∧ i = 0 then 0 else if k = 11 ∧ f = 0 ∧ i = p then is else S.1 k f i := fun k f i => by
    rw [wrI_at]
    unfold lastS
    rw [wrI_at]
    show (if _ then _ else if _ then _ else (wrI S 11 0 p is).1 k f i) = _
    rw [wrI_at]
  have n2 : (wrI (lastS (wrJ (wrI S 11 0 p is) j) 0) 11 1 p is).2.2 = S.2.2 := rfl
  generalize wrI (lastS (wrJ (wrI S 11 0 p is) j) 0) 11 1 p is = S' at rd n2
  obtain ⟨hW, hc, hro, hrz, hwo, hpe, hem, hri, hgz, hau, hba, hT⟩ := hI
  refine ⟨?_, ?_, ?_, ?_, ?_, ?_, ?_, ?_, ?_, ?_, ?_, ?_⟩
  · unfold WfH RoF RiF at hW ⊢
    simpa [rd, n2] using hW
  · simpa [rd, n2] using hc
  · simpa [rd, n2] using hro
  · simpa [rd, n2] using hrz
  · simpa [rd, n2] using hwo
  · simpa [rd, n2] using hpe
  · simpa [rd, n2] using hem
  · unfold LoF canT shrF reaF levF basF at hri ⊢
    simpa [rd, n2] using hri
  · simpa [rd, n2] using hgz
  · simpa [rd, n2] using hau
  · intro i
    have h1 := hba i
    simp [rd]
    by_cases e : i = p
    · simp [e, hb]
    · simpa [e] using h1
  · simpa [rd] using hT
theorem op_bay {S : Sto} (hI : InvS S) (p is : Int32) (hb : is &&& 1 = is) : OpB s_L_bay s_X7_bay [aR 0 0, aI p, aI is, aR 12 0] [aR 1 0, aI p, aI is] S := by
  intro F F2 hF hF2
  have hba := hI.2.2.2.2.2.2.2.2.2.2.1
  have h0 : ∀ i, S.1 11 0 i &&& 1 = S.1 11 0 i := fun i => (hba i).2
  have h1 : ∀ i, S.1 11 1 i &&& 1 = S.1 11 1 i := fun i => by rw [← (hba i).1]; exact (hba i).2
  by_cases hk : nm p 10
  · have key : ∀ j : Int64, j = (if S.1 11 0 p.toNatClampNeg = 0 then 0 else 1) → F (Sum.inl (some (aI 0))) (wrJ (wrI S 11 0 p.toNatClampNeg is) j) := fun j hj => by
      have e : ∀ i, (wrJ (wrI S 11 0 p.toNatClampNeg is) j).1 11 1 i = S.1 11 1 i := fun i => by
        show (wrI S 11 0 p.toNatClampNeg is).1 11 1 i = _
        exact wrI_ne fun z => absurd z.2.1 (by decide)
      refine hF _ _ ⟨rfl, rfl, hb, fun i => ?_, fun z => absurd hk z, fun _ => hF2 _ _ _ (inv_bay hI _ is j hb) ?_ fun _ => ?_⟩
      · rw [e]; exact h1 i
      · rw [wrI_ne fun z => absurd z.1 (by decide)]
        exact last_v
      · rw [e, ← (hba _).1]
        exact hj
    exact ⟨[aR 0 0, aI p, aI is], rfl, rfl, rfl, hb, h0, fun z => absurd hk z, fun _ => ⟨fun z => key 0 (if_pos z).symm, fun z => key 1 (if_neg z).symm⟩⟩
  · exact ⟨[aR 0 0, aI p, aI is], rfl, rfl, rfl, hb, h0, fun _ => hF _ _ ⟨rfl, rfl, hb, h1, fun _ => hF2 _ _ _ (hI.last 1) last_v fun z => absurd z one0, fun z => absurd z hk⟩, fun z => absurd z hk⟩
theorem inv_authority {S : Sto} (hI : InvS S) (p : Nat) (n x : Int32) : InvS (wrI (wrI (lastS (wrI (wrI S 10 0 p n) 10 1 p x) 0) 10 27 p n) 10 28 p x) := by
  have rd : ∀ k f i, (wrI (wrI (lastS (wrI (wrI S 10 0 p n) 10 1 p x) 0) 10 27 p n) 10 28 p x).1 k f i = if k = 10 ∧ f = 28 ∧ i = p then x else if k = 10 ∧ f = 27 ∧ i = p then n else if k = 1 ∧ f = 37 ∧ i = 0 then 0 else if k = 10 ∧ f = 1 ∧ i = p then x else if k = 10 ∧ f = 0 ∧ i = p then n else S.1 k f i := fun k f i => by
    unfold lastS
    simp only [wrI_at]
  have n2 : (wrI (wrI (lastS (wrI (wrI S 10 0 p n) 10 1 p x) 0) 10 27 p n) 10 28 p x).2.2 = S.2.2 := rfl
  generalize wrI (wrI (lastS (wrI (wrI S 10 0 p n) 10 1 p x) 0) 10 27 p n) 10 28 p x = S' at rd n2
  obtain ⟨hW, hc, hro, hrz, hwo, hpe, hem, hri, hgz, hau, hba, hT⟩ := hI
  refine ⟨?_, ?_, ?_, ?_, ?_, ?_, ?_, ?_, ?_, ?_, ?_, ?_⟩
  · unfold WfH RoF RiF at hW ⊢
    simpa [rd, n2] using hW
  · simpa [rd, n2] using hc
  · simpa [rd, n2] using hro
  · simpa [rd, n2] using hrz
  · simpa [rd, n2] using hwo
  · simpa [rd, n2] using hpe
  · simpa [rd, n2] using hem
  · unfold LoF canT shrF reaF levF basF at hri ⊢
    simpa [rd, n2] using hri
  · simpa [rd, n2] using hgz
  · intro i
    have h1 := hau i
    by_cases e : i = p
    · simp [rd, e]
    · simpa [rd, e] using h1
  · simpa [rd] using hba
  · simpa [rd] using hT
theorem op_authority {S : Sto} (hI : InvS S) (a n x : Int32) : OpN s_L_authority s_X7_authority [aR 0 0, aI a, aI n, aI x] [aR 1 0, aI a, aI n, aI x] S := by
  intro F F2 hF hF2
  by_cases hk : nm a 4
  · by_cases hf : fitA n x
    · refine ⟨rfl, rfl, fun z => absurd hk z, fun _ z => absurd hf z, fun _ _ => hF _ _ ⟨rfl, rfl, fun z => absurd hk z, fun _ z => absurd hf z, fun _ _ => hF2 _ _ (inv_authority hI _ n x) ?_⟩⟩
      rw [wrI_ne fun z => absurd z.1 (by decide), wrI_ne fun z => absurd z.1 (by decide)]
      exact last_v
    · exact ⟨rfl, rfl, fun z => absurd hk z, fun _ _ => hF _ _ ⟨rfl, rfl, fun z => absurd hk z, fun _ _ => hF2 _ _ (hI.last 2) last_v, fun _ z => absurd z hf⟩, fun _ z => absurd z hf⟩
  · exact ⟨rfl, rfl, fun _ => hF _ _ ⟨rfl, rfl, fun _ => hF2 _ _ (hI.last 1) last_v, fun z => absurd z hk, fun z => absurd z hk⟩, fun z => absurd z hk, fun z => absurd z hk⟩
theorem inv_bridge {S : Sto} (hI : InvS S) (d : Nat) (hd : d < S.2.2 20) (a b c : Int32) (ha : rg a 1 40) (j : Int64) : InvS (mkBS (wrJ (brgS S d a b c) j) d a b c) := by
  have rd : ∀ k f i, (mkBS (wrJ (brgS S d a b c) j) d a b c).1 k f i = if k = 10 ∧ f = 12 ∧ i = d then c else if k = 10 ∧ f = 11 ∧ i = d then b else if k = 10 ∧ f = 10 ∧ i = d then a else if k = 1 ∧ f = 37 ∧ i = 0 then 0 else if k = 2 ∧ f = 9 ∧ i = d then c else if k = 2 ∧ f = 8 ∧ i = d then b else if k = 2 ∧ f = 7 ∧ i = d then a else S.1 k f i := fun k f i => by
    have e : (wrJ (brgS S d a b c) j).1 k f i = (brgS S d a b c).1 k f i := rfl
    unfold mkBS lastS
    simp only [wrI_at, e]
    unfold brgS
    simp only [wrI_at]
  have n2 : (mkBS (wrJ (brgS S d a b c) j) d a b c).2.2 = S.2.2 := rfl
  generalize mkBS (wrJ (brgS S d a b c) j) d a b c = S' at rd n2
  obtain ⟨hW, hc, hro, hrz, hwo, hpe, hem, hri, hgz, hau, hba, hT⟩ := hI
  obtain ⟨m, em, m1, m2⟩ := rg_nI (a := 1) (b := 40) ha (by omega) (by omega)
  refine ⟨?_, ?_, ?_, ?_, ?_, ?_, ?_, ?_, ?_, ?_, ?_, ?_⟩
  · obtain ⟨w1, w2, w3, w4, w5, w6, w7, w8⟩ := hW
    refine ⟨by simpa [n2] using w1, by simpa [n2] using w2, by simpa [n2] using w3, by simpa [rd, n2] using w4, by simpa [rd, n2] using w5, by simpa [rd, n2] using w6, fun i hi => ?_, ?_⟩
    · rw [n2] at hi
      obtain ⟨p, q, a', t, s, h1, h2, h3, h4, h5, h6, h7, h8, h9, h10, h11, h12⟩ := w7 i hi
      by_cases e : i = d
      · exact ⟨p, q, a', t, m, by simp [rd, h1], by simp [rd, h2], by simp [rd, h3], by simp [rd, h4], by simp [rd, e, em], h6, h7, h8, h9, h10, h11, m2⟩
      · exact ⟨p, q, a', t, s, by simp [rd, h1], by simp [rd, h2], by simp [rd, h3], by simp [rd, h4], by simp [rd, e, h5], h6, h7, h8, h9, h10, h11, h12⟩
    · unfold RiF at w8 ⊢
      simpa [rd, n2] using w8
  · simpa [rd, n2] using hc
  · intro i hi
    rw [n2] at hi
    obtain ⟨c0, c1, c2, c3, c4, c5, c6, c7, c8, c9⟩ := hro i hi
    by_cases e : i = d
    · simp [rd, e]
      rw [← e]
      exact ⟨c0, c1, c2, c3, c4, c5, c6⟩
    · simp [rd, e, c0, c1, c2, c3, c4, c5, c6, c7, c8, c9]
  · intro i hi
    rw [n2] at hi
    have e : i ≠ d := by omega
    simpa [rd, e] using hrz i hi
  · simpa [rd, n2] using hwo
  · simpa [rd, n2] using hpe
  · simpa [rd, n2] using hem
  · unfold LoF canT shrF reaF levF basF at hri ⊢
    simpa [rd, n2] using hri
  · simpa [rd, n2] using hgz
  · simpa [rd] using hau
  · simpa [rd] using hba
  · simpa [rd] using hT
theorem op_bridge {S : Sto} (hI : InvS S) (r a b c : Int32) : OpB s_L_bridge s_X7_bridge [aR 0 0, aI r, aI a, aI b, aI c, aR 12 0] [aR 1 0, aI r, aI a, aI b, aI c] S := by
  intro F F2 hF hF2
  have hr : ref S S := ref.rf hI
  have hn := hI.1.2.1.1
  by_cases hk : nm r (nI (S.2.2 20))
  · have hd := nm_lt hk (by omega)
    by_cases hf : fitB a b c
    · have key : ∀ j : Int64, j = (if (if S.1 2 7 r.toNatClampNeg ≤ 0 then (0 : Int32) else 1) = 0 then 0 else 1) → F (Sum.inl (some (aI 0))) (wrJ (brgS S r.toNatClampNeg a b c) j) := fun j hj => by
        refine hF _ _ ⟨rfl, rfl, S, ⟨hI, fun f9 h9 => ?_, fun a9 h9 => ?_, ?_⟩, fun z => absurd hk z, fun _ z => absurd hf z, fun _ _ => hF2 _ _ _ (inv_bridge hI _ hd a b c hf.1 j) ?_ fun _ => hj⟩
        · funext i
          show (brgS S r.toNatClampNeg a b c).1 1 f9 i = _
          unfold brgS
          simp [wrI_at]
        · funext i
          show (brgS S r.toNatClampNeg a b c).1 10 a9 i = _
          unfold brgS
          simp [wrI_at]
        · funext i
          show (brgS S r.toNatClampNeg a b c).1 11 1 i = _
          unfold brgS
          simp [wrI_at]
        · unfold mkBS
          rw [wrI_ne fun z => absurd z.1 (by decide), wrI_ne fun z => absurd z.1 (by decide), wrI_ne fun z => absurd z.1 (by decide)]
          exact last_v
      exact ⟨[aR 0 0, aI r, aI a, aI b, aI c], rfl, rfl, rfl, hI.1, fun z => absurd hk z, fun _ z => absurd hf z, fun _ _ => ⟨fun z => key 0 (if_pos z).symm, fun z => key 1 (if_neg z).symm⟩⟩
    · exact ⟨[aR 0 0, aI r, aI a, aI b, aI c], rfl, rfl, rfl, hI.1, fun z => absurd hk z, fun _ _ => hF _ _ ⟨rfl, rfl, S, hr, fun z => absurd hk z, fun _ _ => hF2 _ _ _ (hI.last 2) last_v fun z => absurd z two0, fun _ z => absurd z hf⟩, fun _ z => absurd z hf⟩
  · exact ⟨[aR 0 0, aI r, aI a, aI b, aI c], rfl, rfl, rfl, hI.1, fun _ => hF _ _ ⟨rfl, rfl, S, hr, fun _ => hF2 _ _ _ (hI.last 1) last_v fun z => absurd z one0, fun z => absurd z hk, fun z => absurd z hk⟩, fun z => absurd z hk, fun z => absurd z hk⟩
theorem inv_load {S : Sto} (hI : InvS S) (r : Nat) (hr : r < S.2.2 22) (w c : Int32) (hw : rg w 0 200000) (hc9 : rg c 0 80) (hcan : canT S r w c) : InvS (wrI (wrI (lastS (takeS S r w c) 0) 10 21 r w) 10 22 r c) := by
  obtain ⟨A, hA⟩ : ∃ A, A = shrF S r (w - reaF S r w c) := ⟨_, rfl⟩
  obtain ⟨B, hB⟩ : ∃ B, B = shrF S r (reaF S r w c) := ⟨_, rfl⟩
  have rd : ∀ k f i, (wrI (wrI (lastS (takeS S r w c) 0) 10 21 r w) 10 22 r c).1 k f i = if k = 10 ∧ f = 22 ∧ i = r then c else if k = 10 ∧ f = 21 ∧ i = r then w else if k = 1 ∧ f = 37 ∧ i = 0 then 0 else if k = 4 ∧ f = 7 ∧ i = r then B else if k = 4 ∧ f = 6 ∧ i = r then A else S.1 k f i := fun k f i => by
    unfold lastS takeS
    rw [← hA, ← hB]
    simp only [wrI_at]
  have n2 : (wrI (wrI (lastS (takeS S r w c) 0) 10 21 r w) 10 22 r c).2.2 = S.2.2 := rfl
  generalize wrI (wrI (lastS (takeS S r w c) 0) 10 21 r w) 10 22 r c = S' at rd n2
  have eS : ∀ i x, shrF S' i x = shrF S i x := fun i x => by simp [shrF, rd]
  have eR : ∀ i x y, reaF S' i x y = reaF S i x y := fun i x y => by simp [reaF, levF, basF, rd]
  have eC : ∀ i x y, canT S' i x y = canT S i x y := fun i x y => by simp [canT, levF, basF, rd]
  obtain ⟨hW, hc, hro, hrz, hwo, hpe, hem, hri, hgz, hau, hba, hT⟩ := hI
  obtain ⟨m, em, -, m2⟩ := rg_nI (a := 0) (b := 200000) hw (by omega) (by omega)
  obtain ⟨q, eq, -, q2⟩ := rg_nI (a := 0) (b := 80) hc9 (by omega) (by omega)
  refine ⟨?_, ?_, ?_, ?_, ?_, ?_, ?_, ?_, ?_, ?_, ?_, ?_⟩
  · unfold WfH RoF RiF at hW ⊢
    simpa [rd, n2] using hW
  · simpa [rd, n2] using hc
  · simpa [rd, n2] using hro
  · simpa [rd, n2] using hrz
  · simpa [rd, n2] using hwo
  · simpa [rd, n2] using hpe
  · simpa [rd, n2] using hem
  · intro i hi
    rw [n2] at hi
    obtain ⟨c0, c1, c2, c3, c4, c5, c6, c7, c8, c9, c10, c11, c12⟩ := hri i hi
    refine ⟨by simp [rd, c0], by simp [rd, c1], by simp [rd, c2], by simp [rd, c3], by simp [rd, c4], by simp [rd, c5], by simp [rd, c6], by simp [rd, c7], by simp [rd, c8], by simp [rd, c9], by simp [rd, c10], ?_, by simpa [rd] using c12⟩
    obtain ⟨⟨l, cc, o, l1, l2, l3, l4, l5, l6⟩, l7, l8, l9⟩ := c11
    by_cases e : i = r
    · subst e
      have x1 : S'.1 10 21 i = w := by simp [rd]
      have x2 : S'.1 10 22 i = c := by simp [rd]
      rw [x1, x2]
      refine ⟨⟨m, q, o, em, eq, by simp [rd, l3], m2, q2, l6⟩, by rw [eC]; exact hcan, ?_, ?_⟩
      · rw [eS, eR, ← hA]
        simp [rd]
      · rw [eS, eR, ← hB]
        simp [rd]
    · have x1 : S'.1 10 21 i = S.1 10 21 i := by simp [rd, e]
      have x2 : S'.1 10 22 i = S.1 10 22 i := by simp [rd, e]
      rw [x1, x2]
      refine ⟨⟨l, cc, o, l1, l2, by simp [rd, l3], l4, l5, l6⟩, by rw [eC]; exact l7, ?_, ?_⟩
      · rw [eS, eR, ← l8]
        simp [rd, e]
      · rw [eS, eR, ← l9]
        simp [rd, e]
  · intro i hi
    rw [n2] at hi
    have e : i ≠ r := by omega
    simpa [rd, e] using hgz i hi
  · simpa [rd] using hau
  · simpa [rd] using hba
  · simpa [rd] using hT
theorem op_load {S : Sto} (hI : InvS S) (r w c : Int32) : OpN s_L_load s_X7_load [aR 0 0, aI r, aI w, aI c] [aR 1 0, aI r, aI w, aI c] S := by
  intro F F2 hF hF2
  have hr : ref S S := ref.rf hI
  have hn := hI.1.2.1.2.2.1
  by_cases hk : nm r (nI (S.2.2 22))
  · have hj := nm_lt hk (by omega)
    by_cases hf : fitL w c
    · by_cases hc : canL S r w c
      · refine ⟨rfl, rfl, hI.1, fun z => absurd hk z, fun _ z => absurd hf z, fun _ _ z => absurd hc z, fun _ _ _ => hF _ _ ⟨rfl, rfl, S, ⟨hI, fun f9 h9 => ?_, fun a9 h9 => ?_, ?_⟩, fun z => absurd hk z, fun _ z => absurd hf z, fun _ _ z => absurd hc z, fun _ _ _ => hF2 _ _ (inv_load hI _ hj w c hf.1 hf.2 hc.2) ?_⟩⟩
        · funext i
          unfold takeS
          simp [wrI_at]
        · funext i
          unfold takeS
          simp [wrI_at]
        · funext i
          unfold takeS
          simp [wrI_at]
        · rw [wrI_ne fun z => absurd z.1 (by decide), wrI_ne fun z => absurd z.1 (by decide)]
          exact last_v
      · exact ⟨rfl, rfl, hI.1, fun z => absurd hk z, fun _ z => absurd hf z, fun _ _ _ => hF _ _ ⟨rfl, rfl, S, hr, fun z => absurd hk z, fun _ z => absurd hf z, fun _ _ _ => hF2 _ _ (hI.last 3) last_v, fun _ _ z => absurd z hc⟩, fun _ _ z => absurd z hc⟩
    · exact ⟨rfl, rfl, hI.1, fun z => absurd hk z, fun _ _ => hF _ _ ⟨rfl, rfl, S, hr, fun z => absurd hk z, fun _ _ => hF2 _ _ (hI.last 2) last_v, fun _ z => absurd z hf, fun _ z => absurd z hf⟩, fun _ z => absurd z hf, fun _ z => absurd z hf⟩
  · exact ⟨rfl, rfl, hI.1, fun _ => hF _ _ ⟨rfl, rfl, S, hr, fun _ => hF2 _ _ (hI.last 1) last_v, fun z => absurd z hk, fun z => absurd z hk, fun z => absurd z hk⟩, fun z => absurd z hk, fun z => absurd z hk, fun z => absurd z hk⟩
