/-! CLASS AND MODEL AGREE: drives and time -/
theorem inv_drive {S : Sto} (hI : InvS S) (r i0 : Nat) (hr : r < S.2.2 22) (hd : i0 < S.2.2 20) (d : Int32) (j : Int64) : InvS (mkDS (wrJ (drvS S r i0 d) j) S r i0 d) := by
  obtain ⟨P, hP⟩ : ∃ P, P = beyP S i0 (S.1 4 8 r) := ⟨_, rfl⟩
  obtain ⟨N, hN⟩ : ∃ N, N = S.1 0 9 0 + S.1 2 6 i0 := ⟨_, rfl⟩
  obtain ⟨D, hD⟩ : ∃ D, D = S.1 4 12 r + 1 := ⟨_, rfl⟩
  have rd : ∀ k f i, (mkDS (wrJ (drvS S r i0 d) j) S r i0 d).1 k f i = if k = 10 ∧ f = 26 ∧ i = r then D else if k = 10 ∧ f = 14 ∧ i = r then P else if k = 10 ∧ f = 24 ∧ i = r then N else if k = 10 ∧ f = 23 ∧ i = r then d else if k = 1 ∧ f = 37 ∧ i = 0 then 0 else if k = 4 ∧ f = 12 ∧ i = r then D else if k = 4 ∧ f = 10 ∧ i = r then N else if k = 4 ∧ f = 8 ∧ i = r then P else if k = 4 ∧ f = 9 ∧ i = r then d else S.1 k f i := fun k f i => by
    have e : (wrJ (drvS S r i0 d) j).1 k f i = (drvS S r i0 d).1 k f i := rfl
    unfold mkDS lastS
    rw [← hP, ← hN, ← hD]
    simp only [wrI_at, e]
    unfold drvS
    rw [← hP, ← hN, ← hD]
    simp only [wrI_at]
  have n2 : (mkDS (wrJ (drvS S r i0 d) j) S r i0 d).2.2 = S.2.2 := rfl
  generalize mkDS (wrJ (drvS S r i0 d) j) S r i0 d = S' at rd n2
  have eS : ∀ i x, shrF S' i x = shrF S i x := fun i x => by simp [shrF, rd]
  have eR : ∀ i x y, reaF S' i x y = reaF S i x y := fun i x y => by simp [reaF, levF, basF, rd]
  have eC : ∀ i x y, canT S' i x y = canT S i x y := fun i x y => by simp [canT, levF, basF, rd]
  obtain ⟨hW, hc, hro, hrz, hwo, hpe, hem, hri, hgz, hau, hba, hT⟩ := hI
  obtain ⟨T, eT, T9⟩ := hT
  obtain ⟨p, q, a', t, s, h1, h2, h3, h4, h5, h6, h7, h8, h9, h10, h11, h12⟩ := hW.2.2.2.2.2.2.1 i0 hd
  have hP2 : ∃ z, P = nI z ∧ z < 10 := by
    rw [hP]
    unfold beyP
    by_cases e : S.1 4 8 r = S.1 2 0 i0
    · rw [if_pos e]; exact ⟨q, h2, h7⟩
    · rw [if_neg e]; exact ⟨p, h1, h6⟩
  obtain ⟨z, ez, z10⟩ := hP2
  refine ⟨?_, ?_, ?_, ?_, ?_, ?_, ?_, ?_, ?_, ?_, ?_, ?_⟩
  · obtain ⟨w1, w2, w3, w4, w5, w6, w7, w8⟩ := hW
    refine ⟨by simpa [n2] using w1, by simpa [n2] using w2, by simpa [n2] using w3, by simpa [rd, n2] using w4, by simpa [rd, n2] using w5, by simpa [rd, n2] using w6, ?_, fun i hi => ?_⟩
    · unfold RoF at w7 ⊢
      simpa [rd, n2] using w7
    · rw [n2] at hi
      obtain ⟨a, dd, pp, k1, k2, k3, k4, k5, k6, k7, k8⟩ := w8 i hi
      by_cases e : i = r
      · exact ⟨a, dd, z, by simp [rd, k1], by simp [rd, k2], by simp [rd, e, ez], k4, k5, k6, k7, z10⟩
      · exact ⟨a, dd, pp, by simp [rd, k1], by simp [rd, k2], by simp [rd, e, k3], k4, k5, k6, k7, k8⟩
  · simpa [rd, n2] using hc
  · simpa [rd, n2] using hro
  · simpa [rd, n2] using hrz
  · simpa [rd, n2] using hwo
  · simpa [rd, n2] using hpe
  · simpa [rd, n2] using hem
  · intro i hi
    rw [n2] at hi
    obtain ⟨c0, c1, c2, c3, c4, c5, c6, c7, c8, c9, c10, ⟨⟨l, cc, o, l1, l2, l3, l4, l5, l6⟩, l7, l8, l9⟩, c12⟩ := hri i hi
    have x1 : S'.1 10 21 i = S.1 10 21 i := by simp [rd]
    have x2 : S'.1 10 22 i = S.1 10 22 i := by simp [rd]
    have hLo : LoF S' i (S'.1 10 21 i) (S'.1 10 22 i) := by
      rw [x1, x2]
      refine ⟨⟨l, cc, o, l1, l2, by simp [rd, l3], l4, l5, l6⟩, by rw [eC]; exact l7, ?_, ?_⟩
      · rw [eS, eR, ← l8]
        simp [rd]
      · rw [eS, eR, ← l9]
        simp [rd]
    by_cases e : i = r
    · refine ⟨by simp [rd, e], by simp [rd, c1], by simp [rd, c2], by simp [rd, c3], by simp [rd, c4], by simp [rd, c5], by simp [rd, c6], by simp [rd, e], by simp [rd, e], by simp [rd, c9], by simp [rd, e], hLo, fun _ => ?_⟩
      have y1 : S'.1 0 9 0 = nI T := by simp [rd, eT]
      have y2 : S'.1 4 10 i = nI (T + t) := by
        simp [rd, e]
        rw [hN, eT, h4, nI_add]
      rw [y1, y2]
      exact (nI_lt2 (by omega) (by omega)).mpr (by omega)
    · exact ⟨by simp [rd, e, c0], by simp [rd, c1], by simp [rd, c2], by simp [rd, c3], by simp [rd, c4], by simp [rd, c5], by simp [rd, c6], by simp [rd, e, c7], by simp [rd, e, c8], by simp [rd, c9], by simp [rd, e, c10], hLo, by simpa [rd, e] using c12⟩
  · intro i hi
    rw [n2] at hi
    have e : i ≠ r := by omega
    simpa [rd, e] using hgz i hi
  · simpa [rd] using hau
  · simpa [rd] using hba
  · exact ⟨T, by simp [rd, eT], T9⟩
theorem op_drive {S : Sto} (hI : InvS S) (r d : Int32) : OpI s_L_drive s_X7_drive [aR 0 0, aI r, aI d, aR 12 0] [aR 1 0, aI r, aI d] S := by
  intro F F2 hF hF2
  have hr : ref S S := ref.rf hI
  have hn := hI.1.2.1.2.2.1
  have hn20 := hI.1.2.1.1
  by_cases hk : knY S r d
  · by_cases hf : canD S r d
    · refine ⟨[aR 0 0, aI r, aI d], rfl, rfl, rfl, hI.1, fun z => absurd hk z, fun _ z => absurd hf z, fun _ _ => hF _ _ ⟨rfl, rfl, S, ⟨hI, fun f9 h9 => ?_, fun a9 h9 => ?_, ?_⟩, fun z => absurd hk z, fun _ z => absurd hf z, fun _ _ => hF2 _ _ _ (inv_drive hI _ _ (nm_lt hk.1 (by omega)) (nm_lt hk.2 (by omega)) d _) ?_ fun _ => ?_⟩⟩
      · funext i
        show (drvS S r.toNatClampNeg d.toNatClampNeg d).1 1 f9 i = _
        unfold drvS
        simp [wrI_at]
      · funext i
        show (drvS S r.toNatClampNeg d.toNatClampNeg d).1 10 a9 i = _
        unfold drvS
        simp [wrI_at]
      · funext i
        show (drvS S r.toNatClampNeg d.toNatClampNeg d).1 11 1 i = _
        unfold drvS
        simp [wrI_at]
      · unfold mkDS
        rw [wrI_ne fun z => absurd z.1 (by decide), wrI_ne fun z => absurd z.1 (by decide), wrI_ne fun z => absurd z.1 (by decide), wrI_ne fun z => absurd z.1 (by decide)]
        exact last_v
      · show ((drvS S r.toNatClampNeg d.toNatClampNeg d).1 4 10 r.toNatClampNeg).toInt64 = _
        have e : (drvS S r.toNatClampNeg d.toNatClampNeg d).1 4 10 r.toNatClampNeg = S.1 0 9 0 + S.1 2 6 d.toNatClampNeg := by
          unfold drvS
          simp [wrI_at]
        rw [e]
    · exact ⟨[aR 0 0, aI r, aI d], rfl, rfl, rfl, hI.1, fun z => absurd hk z, fun _ _ => hF _ _ ⟨rfl, rfl, S, hr, fun z => absurd hk z, fun _ _ => hF2 _ _ _ (hI.last 2) last_v fun z => absurd z two0, fun _ z => absurd z hf⟩, fun _ z => absurd z hf⟩
  · exact ⟨[aR 0 0, aI r, aI d], rfl, rfl, rfl, hI.1, fun _ => hF _ _ ⟨rfl, rfl, S, hr, fun _ => hF2 _ _ _ (hI.last 1) last_v fun z => absurd z one0, fun z => absurd z hk, fun z => absurd z hk⟩, fun z => absurd z hk, fun z => absurd z hk⟩
theorem inv_pass {S S' : Sto} (hI : InvS S) {N : Nat} {T : Nat} (eT : S.1 0 9 0 = nI T) (hT9 : T + N ≤ 9999) {j : Int64} (hP : pasM (lastS (wrJ (passS S N) j) 0) S N 0 S') : InvS S' := by
  obtain ⟨p1, p2, p3, p4⟩ := hP
  have hcl : ∀ k f i, k ≠ 1 → k ≠ 10 → S'.1 k f i = (passS S N).1 k f i := fun k f i a b => by
    rw [p4 k f i (fun q => a q.1) (fun q => b q.1) (fun q => b q.1)]
    exact wrI_ne fun q => a q.1
  have hm : ∀ f i, f ≠ 0 → f ≠ 37 → S'.1 1 f i = S.1 1 f i := fun f i a b => by
    rw [p4 1 f i (fun q => a q.2.1) (fun q => absurd q.1 (by decide)) (fun q => absurd q.1 (by decide))]
    refine (wrI_ne fun q => b q.2.1).trans ?_
    exact passS_o ⟨fun q => absurd q.1 (by decide), fun q => absurd q.1 (by decide), fun q => absurd q.1 (by decide)⟩
  have ht : ∀ f i, ¬ (f = 23 ∧ i < S.2.2 22) → ¬ (f = 25 ∧ i < S.2.2 22) → S'.1 10 f i = S.1 10 f i := fun f i a b => by
    rw [p4 10 f i (fun q => absurd q.1 (by decide)) (fun q => a q.2) (fun q => b q.2)]
    refine (wrI_ne fun q => absurd q.1 (by decide)).trans ?_
    exact passS_o ⟨fun q => absurd q.1 (by decide), fun q => absurd q.1 (by decide), fun q => absurd q.1 (by decide)⟩
  have c : ∀ k f i, k ≠ 0 → k ≠ 1 → k ≠ 4 → k ≠ 10 → S'.1 k f i = S.1 k f i := fun k f i a b d e => by
    rw [hcl k f i b e]
    exact passS_o ⟨fun q => a q.1, fun q => d q.1, fun q => d q.1⟩
  have c4 : ∀ f i, f ≠ 9 → f ≠ 11 → S'.1 4 f i = S.1 4 f i := fun f i a b => by
    rw [hcl 4 f i (by decide) (by decide)]
    exact passS_o ⟨fun q => absurd q.1 (by decide), fun q => a q.2, fun q => b q.2⟩
  have n2 : S'.2.2 = S.2.2 := by
    rw [p1]
    show (passS S N).2.2 = _
    rw [passS_2]
  have now : S'.1 0 9 0 = nI (T + N) := by
    rw [hcl 0 9 0 (by decide) (by decide), passS_now, eT, nI_add]
  have hdrv : drvI (passS S N) := drvI_s (fun i hi => (hI.2.2.2.2.2.2.2.1 i hi).2.2.2.2.2.2.2.2.2.2.2.2) N
  obtain ⟨hW, hc, hro, hrz, hwo, hpe, hem, hri, hgz, hau, hba, hT⟩ := hI
  have eS : ∀ i x, shrF S' i x = shrF S i x := fun i x => by simp [shrF, c4]
  have eR : ∀ i x y, reaF S' i x y = reaF S i x y := fun i x y => by simp [reaF, levF, basF, c4]
  have eC : ∀ i x y, canT S' i x y = canT S i x y := fun i x y => by simp [canT, levF, basF, c4]
  have cc := fun k f i => c k f i
  refine ⟨?_, ?_, ?_, ?_, ?_, ?_, ?_, ?_, ?_, ?_, ?_, ?_⟩
  · unfold WfH RoF RiF at hW ⊢
    simpa [c, c4, n2] using hW
  · obtain ⟨d1, d2, d3, d4, d5, d6⟩ := hc
    rw [hm 12 0 (by decide) (by decide), hm 14 0 (by decide) (by decide), hm 28 0 (by decide) (by decide), hm 32 0 (by decide) (by decide), hm 34 0 (by decide) (by decide), n2, p2, hcl 0 9 0 (by decide) (by decide)]
    exact ⟨d1, d2, d3, d4, d5, rfl⟩
  · simpa [c, ht, n2] using hro
  · simpa [c, ht, n2] using hrz
  · simpa [c, ht, n2] using hwo
  · simpa [c, ht, n2] using hpe
  · simpa [c, ht, n2] using hem
  · intro i hi
    rw [n2] at hi
    obtain ⟨c0, c1, c2, c3, c4', c5, c6, c7, c8, c9, c10, ⟨⟨l, cc, o, l1, l2, l3, l4, l5, l6⟩, l7, l8, l9⟩, c12⟩ := hri i hi
    obtain ⟨r23, r25⟩ := p3 i hi
    rw [if_neg (Nat.not_lt_zero _)] at r23 r25
    refine ⟨by simp [ht, c4, c0], by simp [ht, c4, c1], by simp [ht, c4, c2], by simp [ht, c4, c3], by simp [ht, c4, c4'], by simp [ht, c4, c5], by simp [ht, c4, c6], ?_, by simp [ht, c4, c8], ?_, by simp [ht, c4, c10], ?_, ?_⟩
    · rw [r23, hcl 4 9 i (by decide) (by decide)]
    · rw [r25, hcl 4 11 i (by decide) (by decide)]
    · rw [ht 21 i (by omega) (by omega), ht 22 i (by omega) (by omega)]
      refine ⟨⟨l, cc, o, l1, l2, by simp [c4, l3], l4, l5, l6⟩, by rw [eC]; exact l7, ?_, ?_⟩
      · rw [eS, eR, ← l8]
        simp [c4]
      · rw [eS, eR, ← l9]
        simp [c4]
    · rw [hcl 4 9 i (by decide) (by decide), hcl 0 9 0 (by decide) (by decide), hcl 4 10 i (by decide) (by decide)]
      exact hdrv i (by rw [passS_2]; exact hi)
  · intro i hi
    rw [n2] at hi
    rw [ht 21 i (by omega) (by omega), ht 22 i (by omega) (by omega), ht 25 i (by omega) (by omega), ht 26 i (by omega) (by omega)]
    exact hgz i hi
  · simpa [ht] using hau
  · simpa [c] using hba
  · exact ⟨T + N, now, hT9⟩
theorem op_pass {S : Sto} (hI : InvS S) (t : Int32) : OpI s_L_pass s_X7_pass [aR 0 0, aI t, aR 12 0] [aR 1 0, aI t] S := by
  intro F F2 hF hF2
  have hr : ref S S := ref.rf hI
  by_cases hk : rg t 1 144
  · by_cases hf : S.1 0 9 0 + t ≤ 9999
    · refine ⟨[aR 0 0, aI t], rfl, rfl, rfl, hI.1, fun z => absurd hk z, fun _ z => absurd hf z, fun _ _ => hF _ _ ⟨rfl, rfl, S, ⟨hI, fun f9 h9 => ?_, fun a9 h9 => ?_, ?_⟩, fun z => absurd hk z, fun _ z => absurd hf z, fun _ _ S2 hP => hF2 _ _ _ ?_ ?_ fun _ => ?_⟩⟩
      · funext i
        exact passS_o ⟨fun q => absurd q.1 (by decide), fun q => absurd q.1 (by decide), fun q => absurd q.1 (by decide)⟩
      · funext i
        exact passS_o ⟨fun q => absurd q.1 (by decide), fun q => absurd q.1 (by decide), fun q => absurd q.1 (by decide)⟩
      · funext i
        exact passS_o ⟨fun q => absurd q.1 (by decide), fun q => absurd q.1 (by decide), fun q => absurd q.1 (by decide)⟩
      · obtain ⟨T, eT, T9⟩ := hI.2.2.2.2.2.2.2.2.2.2.2
        refine inv_pass hI eT ?_ hP
        obtain ⟨m, em, m1, m2⟩ := rg_nI (a := 1) (b := 144) hk (by omega) (by omega)
        rw [eT, em, nI_add] at hf
        have h9 := (nI_le2 (a := T + m) (b := 9999) (by omega) (by omega)).mp hf
        rw [em, nI_cl (by omega)]
        exact h9
      · rw [hP.2.2.2 1 37 0 (by decide) (fun q => absurd q.1 (by decide)) (fun q => absurd q.1 (by decide))]
        exact last_v
      · rw [hP.1]
        rfl
    · exact ⟨[aR 0 0, aI t], rfl, rfl, rfl, hI.1, fun z => absurd hk z, fun _ _ => hF _ _ ⟨rfl, rfl, S, hr, fun z => absurd hk z, fun _ _ => hF2 _ _ _ (hI.last 2) last_v fun z => absurd z two0, fun _ z => absurd z hf⟩, fun _ z => absurd z hf⟩
  · exact ⟨[aR 0 0, aI t], rfl, rfl, rfl, hI.1, fun _ => hF _ _ ⟨rfl, rfl, S, hr, fun _ => hF2 _ _ _ (hI.last 1) last_v fun z => absurd z one0, fun z => absurd z hk, fun z => absurd z hk⟩, fun z => absurd z hk, fun z => absurd z hk⟩
