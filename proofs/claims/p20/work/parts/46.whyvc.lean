/-! WHY NOT, by the law: the walk -/
set_option maxRecDepth 8000 in
theorem vc_L_why : ∀ (G : Gt) (Q : Out → Sto → Prop) (as : List AV) (S : Sto), s_L_why as S Q → Seg tb_L_why G Q 1 0 [] (0, fun _ => 0) → G 0 (argL as 20) [] S 0 := by
  intro G Q as S h hs
  obtain ⟨r, d, t0, b, rfl, T, i, j, n, hI, rfl, hj, rfl, hi, rfl, hn, rfl, hQ⟩ := wy_ok h
  have va2 : vp_in ((10 : Int32) * nI i + 2) 60 := vA hI hi 2 (by decide)
  have a2 : S.1 10 3 ((10 : Int32) * nI i + 2).toNatClampNeg = S.1 2 2 i := aA hI hi 2 (by decide)
  have va3 : vp_in ((10 : Int32) * nI i + 3) 60 := vA hI hi 3 (by decide)
  have a3 : S.1 10 3 ((10 : Int32) * nI i + 3).toNatClampNeg = S.1 2 3 i := aA hI hi 3 (by decide)
  have va4 : vp_in ((10 : Int32) * nI i + 4) 60 := vA hI hi 4 (by decide)
  have a4 : S.1 10 3 ((10 : Int32) * nI i + 4).toNatClampNeg = S.1 2 4 i := aA hI hi 4 (by decide)
  have va5 : vp_in ((10 : Int32) * nI i + 5) 60 := vA hI hi 5 (by decide)
  have a5 : S.1 10 3 ((10 : Int32) * nI i + 5).toNatClampNeg = S.1 2 5 i := aA hI hi 5 (by decide)
  have va6 : vp_in ((10 : Int32) * nI i + 6) 60 := vA hI hi 6 (by decide)
  have a6 : S.1 10 3 ((10 : Int32) * nI i + 6).toNatClampNeg = S.1 2 6 i := aA hI hi 6 (by decide)
  have vg3 : vp_in ((14 : Int32) * nI j + 3) 28 := vG hI hj 3 (by decide)
  have g3 : S.1 10 5 ((14 : Int32) * nI j + 3).toNatClampNeg = S.1 4 2 j := aG hI hj 3 (by decide)
  have vg4 : vp_in ((14 : Int32) * nI j + 4) 28 := vG hI hj 4 (by decide)
  have g4 : S.1 10 5 ((14 : Int32) * nI j + 4).toNatClampNeg = S.1 4 3 j := aG hI hj 4 (by decide)
  have vg5 : vp_in ((14 : Int32) * nI j + 5) 28 := vG hI hj 5 (by decide)
  have g5 : S.1 10 5 ((14 : Int32) * nI j + 5).toNatClampNeg = S.1 4 4 j := aG hI hj 5 (by decide)
  obtain ⟨p, q, au, t, s, -, -, eau, et, -, -, -, -, au4, t1, t9, -⟩ := hI.wf.2.2.2.2.2.2.1 i (hI.i20 hi)
  have hn21 := hI.n.2.2.1
  have hn23 := hI.n.2.2.2.1
  have hn24 := hI.n.2.2.2.2
  obtain ⟨-, -, m2, m3, m4⟩ := hI.mm
  have vm2 : vp_in (2 : Int32) 5 := nI_vin (a := 2) (by omega) (by decide)
  have vm3 : vp_in (3 : Int32) 5 := nI_vin (a := 3) (by omega) (by decide)
  have vm4 : vp_in (4 : Int32) 5 := nI_vin (a := 4) (by omega) (by decide)
  have em2 : S.1 10 9 (2 : Int32).toNatClampNeg = nI (S.2.2 21) := m2
  have em3 : S.1 10 9 (3 : Int32).toNatClampNeg = nI (S.2.2 23) := m3
  have em4 : S.1 10 9 (4 : Int32).toNatClampNeg = nI (S.2.2 24) := m4
  have eov : nI n + S.1 2 6 i = nI (n + t) := by rw [et, nI_add]
  -- the end
  obtain ⟨pm, hpm⟩ : ∃ pm, pm = anyN (permH S (nI j) (S.1 2 2 i) (nI n) (nI (n + t))) (S.2.2 23) := ⟨_, rfl⟩
  obtain ⟨em, hem⟩ : ∃ em, em = anyN (embH S (S.1 2 2 i) (nI n) (nI (n + t))) (S.2.2 24) := ⟨_, rfl⟩
  obtain ⟨gw, hgw⟩ : ∃ gw, gw = gainH S (nI i) 0 (nI n) (nI (n + t)) (S.2.2 21) := ⟨_, rfl⟩
  obtain ⟨gh, hgh⟩ : ∃ gh, gh = gainH S (nI i) 1 (nI n) (nI (n + t)) (S.2.2 21) := ⟨_, rfl⟩
  have hlast : ∀ x15 x16 x17 x18 x19, x15 = some (aI (bV pm)) → x16 = some (aI (bV em)) → x17 = some (aI (heavH S j)) → x18 = some (aI (bV (nightH (nI n) (nI t)))) → G 411 [some (aR 10 3), some (aR 10 4), some (aR 10 5), some (aR 10 6), some (aR 10 7), some (aR 10 8), some (aR 10 9), some (aI (nI j)), some (aI (nI i)), some (aI (nI n)), some (aI (bV (borneH S i j))), some (aI ((10 : Int32) * nI i)), some (aI (nI (n + t))), some (aI gw), some (aI gh), x15, x16, x17, x18, x19] [] S 0 := by
    intro x15 x16 x17 x18 x19 e15 e16 e17 e18
    subst e15 e16 e17 e18
    have hR : reasonH S (nI j) (nI i) (nI n) = if S.1 2 3 i + gw < S.1 4 3 j then 1 else if S.1 2 4 i + gh < S.1 4 4 j then 2 else if S.1 2 5 i < S.1 4 2 j then 3 else if borneH S i j = true then (if S.1 10 1 au < heavH S j then 5 else if pm = true then (if em = true then 7 else if nightH (nI n) (nI t) = true then 0 else 8) else 6) else 4 := by
      unfold reasonH
      rw [nI_cl (show j < 2 ^ 31 by omega), nI_cl (show i < 2 ^ 31 by omega)]
      unfold sizeH gwH
      rw [eov, ← hgw, ← hgh]
      by_cases c1 : S.1 2 3 i + gw < S.1 4 3 j
      · rw [if_pos c1, if_pos c1, if_neg (by decide)]
      · rw [if_neg c1, if_neg c1]
        by_cases c2 : S.1 2 4 i + gh < S.1 4 4 j
        · rw [if_pos c2, if_pos c2, if_neg (by decide)]
        · rw [if_neg c2, if_neg c2, if_pos rfl]
          unfold lastH
          rw [eau, nI_cl (show au < 2 ^ 31 by omega)]
          by_cases c3 : S.1 2 5 i < S.1 4 2 j
          · rw [if_pos c3, if_pos c3, if_neg (by decide)]
          · rw [if_neg c3, if_neg c3]
            by_cases c4 : borneH S i j = true
            · rw [if_pos c4, if_pos c4]
              by_cases c5 : S.1 10 1 au < heavH S j
              · rw [if_pos c5, if_pos c5, if_neg (by decide)]
              · rw [if_neg c5, if_neg c5, if_pos rfl]
                unfold leaveH
                rw [eov, ← hpm, ← hem, et]
            · rw [if_neg c4, if_neg c4, if_neg (by decide)]
    rw [hR] at hQ
    have v4 : vp_in ((4 : Int32) + S.1 2 2 i) 8 := by
      rw [eau]
      show vp_in (nI 4 + nI au) 8
      rw [nI_add]
      exact nI_vin (by omega) (by omega)
    have e4 : S.1 10 8 ((4 : Int32) + S.1 2 2 i).toNatClampNeg = S.1 10 1 au := by
      rw [eau]
      show S.1 10 8 (nI 4 + nI au).toNatClampNeg = _
      rw [nI_add, nI_cl (by omega)]
      exact (hI.au au au4).2.1
    refine hs [] 120 411 _ _ _ _ ?_
    refine ⟨vg4, va3, ?_⟩
    rw [g4, a3]
    refine ⟨fun c1 => ⟨vg5, va4, ?_⟩, fun c1 => ?_⟩
    · rw [if_neg (Int32.not_lt.mpr c1)] at hQ
      rw [g5, a4]
      refine ⟨fun c2 => ⟨vg3, va5, ?_⟩, fun c2 => ?_⟩
      · rw [if_neg (Int32.not_lt.mpr c2)] at hQ
        rw [g3, a5]
        refine ⟨fun c3 => ⟨fun c4 => ⟨va2, ?_⟩, fun c4 => ?_⟩, fun c3 => ?_⟩
        · rw [if_neg (Int32.not_lt.mpr c3)] at hQ
          have c4' : borneH S i j = true := by
            cases hb : borneH S i j with
            | true => rfl
            | false =>
              rw [hb] at c4
              exact absurd rfl c4
          rw [if_pos c4'] at hQ
          rw [a2]
          refine ⟨v4, ?_⟩
          rw [e4]
          refine ⟨fun c5 => ?_, fun c5 => ?_⟩
          · rw [if_neg (Int32.not_lt.mpr c5)] at hQ
            cases pm with
            | false =>
              rw [if_neg (by decide)] at hQ
              exact ⟨fun z => absurd rfl z, fun _ => hQ⟩
            | true =>
              rw [if_pos rfl] at hQ
              refine ⟨fun _ => ?_, fun z => absurd z (by decide)⟩
              cases em with
              | true =>
                rw [if_pos rfl] at hQ
                exact ⟨fun z => absurd z (by decide), fun _ => hQ⟩
              | false =>
                rw [if_neg (by decide)] at hQ
                refine ⟨fun _ => ?_, fun z => absurd rfl z⟩
                cases hng : nightH (nI n) (nI t) with
                | true =>
                  rw [hng, if_pos rfl] at hQ
                  exact ⟨fun z => absurd z (by decide), fun _ => hQ⟩
                | false =>
                  rw [hng, if_neg (by decide)] at hQ
                  exact ⟨fun _ => hQ, fun z => absurd rfl z⟩
          · rw [if_pos (Int32.not_le.mp c5)] at hQ
            exact hQ
        · rw [if_neg (Int32.not_lt.mpr c3)] at hQ
          have c4' : ¬ borneH S i j = true := fun z => by
            rw [z] at c4
            exact absurd c4 (by decide)
          rw [if_neg c4'] at hQ
          exact hQ
        · rw [if_pos (Int32.not_le.mp c3)] at hQ
          exact hQ
      · rw [if_pos (Int32.not_le.mp c2)] at hQ
        exact hQ
    · rw [if_pos (Int32.not_le.mp c1)] at hQ
      exact hQ
  -- the night
  have eq144 : ∀ a, a < 2 ^ 31 → nI a - nI a / 144 * 144 = nI (a % 144) := fun a ha => pk_rem (d := 144) ha (by omega) (by omega)
  have ed144 : ∀ a, a < 2 ^ 31 → nI a / 144 = nI (a / 144) := fun a ha => pk_div (d := 144) ha (by omega) (by omega)
  have g360 : ∀ m q, q + m = t → ∀ x19, x19 = some (aI (nI (n + q))) → G 360 [some (aR 10 3), some (aR 10 4), some (aR 10 5), some (aR 10 6), some (aR 10 7), some (aR 10 8), some (aR 10 9), some (aI (nI j)), some (aI (nI i)), some (aI (nI n)), some (aI (bV (borneH S i j))), some (aI ((10 : Int32) * nI i)), some (aI (nI (n + t))), some (aI gw), some (aI gh), some (aI (bV pm)), some (aI (bV em)), some (aI (heavH S j)), some (aI (bV (allN (fun q => decide ((n + q) % 144 < 36) && decide ((n + q) / 144 = n / 144)) q))), x19] [] S 0 := by
    intro m
    induction m with
    | zero =>
      intro q hq x19 e19
      obtain rfl : q = t := hq
      subst e19
      rw [night_all t1 t9 hn]
      refine hs [360, 411] 120 360 _ _ _ _ ?_
      exact ⟨fun _ => hlast _ _ _ _ _ rfl rfl rfl rfl, fun z => (lp_end z).elim⟩
    | succ m ih =>
      intro q hq x19 e19
      subst e19
      have hb := ih (q + 1) (by omega) (some (aI (nI (n + q) + 1))) (by rw [nI_s]; rfl)
      have hs1 : allN (fun q => decide ((n + q) % 144 < 36) && decide ((n + q) / 144 = n / 144)) (q + 1) = (allN (fun q => decide ((n + q) % 144 < 36) && decide ((n + q) / 144 = n / 144)) q && (decide ((n + q) % 144 < 36) && decide ((n + q) / 144 = n / 144))) := rfl
      rw [hs1] at hb
      refine hs [360, 411] 120 360 _ _ _ _ ?_
      refine ⟨fun z => absurd ((nI_le2 (by omega) (by omega)).mp z) (by omega), fun _ => ?_⟩
      cases ha : allN (fun q => decide ((n + q) % 144 < 36) && decide ((n + q) / 144 = n / 144)) q with
      | false =>
        rw [ha, Bool.false_and] at hb
        exact ⟨fun _ => hb, fun z => absurd rfl z⟩
      | true =>
        rw [ha, Bool.true_and] at hb
        refine ⟨fun z => absurd z (by decide), fun _ => ⟨rem144 0, ?_⟩⟩
        rw [eq144 (n + q) (by omega)]
        refine ⟨fun z => ?_, fun z => ⟨rem144 0, rem144 0, ?_⟩⟩
        · have z' := (nI_le2 (a := 36) (by omega) (by omega)).mp z
          rw [decide_eq_false (show ¬ (n + q) % 144 < 36 by omega), Bool.false_and] at hb
          exact hb
        · have z' : (n + q) % 144 < 36 := Nat.not_le.mp fun y => z ((nI_le2 (a := 36) (by omega) (by omega)).mpr y)
          rw [decide_eq_true z', Bool.true_and] at hb
          rw [ed144 (n + q) (by omega), ed144 n (by omega)]
          refine ⟨fun y => ?_, fun y => ?_⟩
          · rw [decide_eq_false fun w => y (by rw [w])] at hb
            exact hb
          · rw [decide_eq_true ((nI_eq (by omega) (by omega)).mp y)] at hb
            exact hb
  -- the axles
  have g317 : ∀ x17 x18, G 317 [some (aR 10 3), some (aR 10 4), some (aR 10 5), some (aR 10 6), some (aR 10 7), some (aR 10 8), some (aR 10 9), some (aI (nI j)), some (aI (nI i)), some (aI (nI n)), some (aI (bV (borneH S i j))), some (aI ((10 : Int32) * nI i)), some (aI (nI (n + t))), some (aI gw), some (aI gh), some (aI (bV pm)), some (aI (bV em)), x17, x18, none] [] S 0 := by
    intro x17 x18
    have g351 : G 351 [some (aR 10 3), some (aR 10 4), some (aR 10 5), some (aR 10 6), some (aR 10 7), some (aR 10 8), some (aR 10 9), some (aI (nI j)), some (aI (nI i)), some (aI (nI n)), some (aI (bV (borneH S i j))), some (aI ((10 : Int32) * nI i)), some (aI (nI (n + t))), some (aI gw), some (aI gh), some (aI (bV pm)), some (aI (bV em)), x17, x18, none] [aI (heavH S j)] S 0 := by
      refine hs [360] 120 351 _ _ _ _ ?_
      exact g360 t 0 (by omega) _ rfl
    refine hs [351] 120 317 _ _ _ _ ?_
    refine ⟨rfl, rfl, T, j, hI, rfl, hj, rfl, rfl, T, j, hI, rfl, hj, fun z => ⟨rfl, rfl, T, j, hI, rfl, hj, ?_⟩, fun z => ⟨rfl, rfl, T, j, hI, rfl, hj, ?_⟩⟩
    · have z' : S.1 4 6 j ≤ S.1 4 7 j := z
      have e : heavH S j = S.1 4 7 j := by
        unfold heavH
        by_cases y : S.1 4 6 j < S.1 4 7 j
        · rw [if_pos y]
        · rw [if_neg y]
          exact Int32.le_antisymm z' (Int32.not_lt.mp y)
      rw [e] at g351
      exact g351
    · have z' : ¬ S.1 4 6 j ≤ S.1 4 7 j := z
      have e : heavH S j = S.1 4 6 j := if_neg fun y => z' (Int32.le_of_lt y)
      rw [e] at g351
      exact g351
  -- the embargoes
  have g229 : ∀ m k, k + m = S.2.2 24 → ∀ x18, G 229 [some (aR 10 3), some (aR 10 4), some (aR 10 5), some (aR 10 6), some (aR 10 7), some (aR 10 8), some (aR 10 9), some (aI (nI j)), some (aI (nI i)), some (aI (nI n)), some (aI (bV (borneH S i j))), some (aI ((10 : Int32) * nI i)), some (aI (nI (n + t))), some (aI gw), some (aI gh), some (aI (bV pm)), some (aI (bV (anyN (embH S (S.1 2 2 i) (nI n) (nI (n + t))) k))), some (aI (nI k)), x18, none] [] S 0 := by
    intro m
    induction m with
    | zero =>
      intro k hk x18
      obtain rfl : k = S.2.2 24 := hk
      rw [← hem]
      refine hs [229, 317] 120 229 _ _ _ _ ?_
      refine ⟨vm4, ?_⟩
      rw [em4]
      exact ⟨fun _ => g317 _ _, fun z => (lp_end z).elim⟩
    | succ m ih =>
      intro k hk x18
      have hk2 : k < S.2.2 24 := by omega
      have ve0 : vp_in ((3 : Int32) * nI k) 9 := vE0 hI hk2
      have e0 : S.1 10 7 ((3 : Int32) * nI k).toNatClampNeg = S.1 6 0 k := aE0 hI hk2
      have ve1 : vp_in ((3 : Int32) * nI k + 1) 9 := vE hI hk2 1 (by decide)
      have e1 : S.1 10 7 ((3 : Int32) * nI k + 1).toNatClampNeg = S.1 9 0 k := aE hI hk2 1 (by decide)
      have ve2 : vp_in ((3 : Int32) * nI k + 2) 9 := vE hI hk2 2 (by decide)
      have e2 : S.1 10 7 ((3 : Int32) * nI k + 2).toNatClampNeg = S.1 9 1 k := aE hI hk2 2 (by decide)
      have hpos : S.1 9 0 k < S.1 9 1 k := (hI.em k hk2).2.2.2
      have g242 : ∀ m2 q, q + m2 = t → ∀ y18, y18 = some (aI (nI (n + q))) → G 242 [some (aR 10 3), some (aR 10 4), some (aR 10 5), some (aR 10 6), some (aR 10 7), some (aR 10 8), some (aR 10 9), some (aI (nI j)), some (aI (nI i)), some (aI (nI n)), some (aI (bV (borneH S i j))), some (aI ((10 : Int32) * nI i)), some (aI (nI (n + t))), some (aI gw), some (aI gh), some (aI (bV pm)), some (aI (bV (anyN (embH S (S.1 2 2 i) (nI n) (nI (n + t))) k || anyN (fun q => decide (S.1 6 0 k = S.1 2 2 i ∧ S.1 9 0 k ≤ nI (n + q) ∧ nI (n + q) < S.1 9 1 k)) q))), some (aI (nI k)), y18, none] [] S 0 := by
        intro m2
        induction m2 with
        | zero =>
          intro q hq y18 e18
          obtain rfl : q = t := hq
          subst e18
          rw [emb_ten hn t1 t9 hpos]
          have h1 := ih (k + 1) (by omega) (some (aI (nI (n + q))))
          rw [← nI_s] at h1
          refine hs [229, 242] 120 242 _ _ _ _ ?_
          exact ⟨fun _ => h1, fun z => (lp_end z).elim⟩
        | succ m2 ih2 =>
          intro q hq y18 e18
          subst e18
          have h1 := ih2 (q + 1) (by omega) (some (aI (nI (n + q) + 1))) (by rw [nI_s]; rfl)
          have hs1 : anyN (fun q => decide (S.1 6 0 k = S.1 2 2 i ∧ S.1 9 0 k ≤ nI (n + q) ∧ nI (n + q) < S.1 9 1 k)) (q + 1) = (anyN (fun q => decide (S.1 6 0 k = S.1 2 2 i ∧ S.1 9 0 k ≤ nI (n + q) ∧ nI (n + q) < S.1 9 1 k)) q || decide (S.1 6 0 k = S.1 2 2 i ∧ S.1 9 0 k ≤ nI (n + q) ∧ nI (n + q) < S.1 9 1 k)) := rfl
          rw [hs1, ← Bool.or_assoc] at h1
          refine hs [229, 242] 120 242 _ _ _ _ ?_
          refine ⟨fun z => absurd ((nI_le2 (by omega) (by omega)).mp z) (by omega), fun _ => ?_⟩
          cases ha : (anyN (embH S (S.1 2 2 i) (nI n) (nI (n + t))) k || anyN (fun q => decide (S.1 6 0 k = S.1 2 2 i ∧ S.1 9 0 k ≤ nI (n + q) ∧ nI (n + q) < S.1 9 1 k)) q) with
          | true =>
            rw [ha, Bool.true_or] at h1
            exact ⟨fun _ => h1, fun z => absurd z (by decide)⟩
          | false =>
            rw [ha, Bool.false_or] at h1
            have no : ¬ (S.1 6 0 k = S.1 2 2 i ∧ S.1 9 0 k ≤ nI (n + q) ∧ nI (n + q) < S.1 9 1 k) → G 242 [some (aR 10 3), some (aR 10 4), some (aR 10 5), some (aR 10 6), some (aR 10 7), some (aR 10 8), some (aR 10 9), some (aI (nI j)), some (aI (nI i)), some (aI (nI n)), some (aI (bV (borneH S i j))), some (aI ((10 : Int32) * nI i)), some (aI (nI (n + t))), some (aI gw), some (aI gh), some (aI (bV pm)), some (aI 0), some (aI (nI k)), some (aI (nI (n + q) + 1)), none] [] S 0 := fun z => by
              rw [decide_eq_false z] at h1
              exact h1
            refine ⟨fun z => absurd rfl z, fun _ => ⟨ve0, va2, ?_⟩⟩
            rw [e0, a2]
            refine ⟨fun z => no fun y => z y.1, fun z0 => ⟨ve1, ?_⟩⟩
            rw [e1]
            refine ⟨fun z => no fun y => absurd y.2.1 (Int32.not_le.mpr z), fun z1 => ⟨ve2, ?_⟩⟩
            rw [e2]
            refine ⟨fun z => no fun y => absurd y.2.2 (Int32.not_lt.mpr z), fun z2 => ?_⟩
            rw [decide_eq_true ⟨z0, Int32.not_lt.mp z1, Int32.not_le.mp z2⟩] at h1
            exact h1
      have h0 := g242 t 0 (by omega) _ rfl
      refine hs [242] 120 229 _ _ _ _ ?_
      refine ⟨vm4, ?_⟩
      rw [em4]
      refine ⟨fun z => absurd z (lp_go (by omega) hk2), fun _ => ?_⟩
      have hz : anyN (fun q => decide (S.1 6 0 k = S.1 2 2 i ∧ S.1 9 0 k ≤ nI (n + q) ∧ nI (n + q) < S.1 9 1 k)) 0 = false := rfl
      rw [hz, Bool.or_false] at h0
      exact h0
  -- the permits
  have g142 : ∀ m k, k + m = S.2.2 23 → G 142 [some (aR 10 3), some (aR 10 4), some (aR 10 5), some (aR 10 6), some (aR 10 7), some (aR 10 8), some (aR 10 9), some (aI (nI j)), some (aI (nI i)), some (aI (nI n)), some (aI (bV (borneH S i j))), some (aI ((10 : Int32) * nI i)), some (aI (nI (n + t))), some (aI gw), some (aI gh), some (aI (bV (anyN (permH S (nI j) (S.1 2 2 i) (nI n) (nI (n + t))) k))), some (aI (nI k)), none, none, none] [] S 0 := by
    intro m
    induction m with
    | zero =>
      intro k hk
      obtain rfl : k = S.2.2 23 := hk
      rw [← hpm]
      refine hs [142, 229] 120 142 _ _ _ _ ?_
      refine ⟨vm3, ?_⟩
      rw [em3]
      exact ⟨fun _ => g229 (S.2.2 24) 0 (by omega) none, fun z => (lp_end z).elim⟩
    | succ m ih =>
      intro k hk
      have hk2 : k < S.2.2 23 := by omega
      have vp0 : vp_in ((4 : Int32) * nI k) 48 := vP0 hI hk2
      have p0 : S.1 10 6 ((4 : Int32) * nI k).toNatClampNeg = S.1 5 0 k := aP0 hI hk2
      have vp1 : vp_in ((4 : Int32) * nI k + 1) 48 := vP hI hk2 1 (by decide)
      have p1 : S.1 10 6 ((4 : Int32) * nI k + 1).toNatClampNeg = S.1 5 1 k := aP hI hk2 1 (by decide)
      have vp2 : vp_in ((4 : Int32) * nI k + 2) 48 := vP hI hk2 2 (by decide)
      have p2 : S.1 10 6 ((4 : Int32) * nI k + 2).toNatClampNeg = S.1 8 0 k := aP hI hk2 2 (by decide)
      have vp3 : vp_in ((4 : Int32) * nI k + 3) 48 := vP hI hk2 3 (by decide)
      have p3 : S.1 10 6 ((4 : Int32) * nI k + 3).toNatClampNeg = S.1 8 1 k := aP hI hk2 3 (by decide)
      have h1 := ih (k + 1) (by omega)
      rw [← nI_s] at h1
      have hs1 : anyN (permH S (nI j) (S.1 2 2 i) (nI n) (nI (n + t))) (k + 1) = (anyN (permH S (nI j) (S.1 2 2 i) (nI n) (nI (n + t))) k || permH S (nI j) (S.1 2 2 i) (nI n) (nI (n + t)) k) := rfl
      rw [hs1] at h1
      refine hs [142] 120 142 _ _ _ _ ?_
      refine ⟨vm3, ?_⟩
      rw [em3]
      refine ⟨fun z => absurd z (lp_go (by omega) hk2), fun _ => ?_⟩
      cases ha : anyN (permH S (nI j) (S.1 2 2 i) (nI n) (nI (n + t))) k with
      | true =>
        rw [ha, Bool.true_or] at h1
        exact ⟨fun _ => h1, fun z => absurd z (by decide)⟩
      | false =>
        rw [ha, Bool.false_or] at h1
        have no : ¬ (S.1 5 0 k = nI j ∧ S.1 5 1 k = S.1 2 2 i ∧ S.1 8 0 k ≤ nI n ∧ nI (n + t) ≤ S.1 8 1 k) → G 142 [some (aR 10 3), some (aR 10 4), some (aR 10 5), some (aR 10 6), some (aR 10 7), some (aR 10 8), some (aR 10 9), some (aI (nI j)), some (aI (nI i)), some (aI (nI n)), some (aI (bV (borneH S i j))), some (aI ((10 : Int32) * nI i)), some (aI (nI (n + t))), some (aI gw), some (aI gh), some (aI 0), some (aI (nI k + 1)), none, none, none] [] S 0 := fun z => by
          have e : permH S (nI j) (S.1 2 2 i) (nI n) (nI (n + t)) k = false := decide_eq_false z
          rw [e] at h1
          exact h1
        refine ⟨fun z => absurd rfl z, fun _ => ⟨vp0, ?_⟩⟩
        rw [p0]
        refine ⟨fun z => no fun y => z y.1, fun z0 => ⟨vp1, va2, ?_⟩⟩
        rw [p1, a2]
        refine ⟨fun z => no fun y => z y.2.1, fun z1 => ⟨vp2, ?_⟩⟩
        rw [p2]
        refine ⟨fun z => no fun y => absurd y.2.2.1 (Int32.not_le.mpr z), fun z2 => ⟨vp3, ?_⟩⟩
        rw [p3]
        refine ⟨fun z => no fun y => absurd y.2.2.2 (Int32.not_le.mpr z), fun z3 => ?_⟩
        have e : permH S (nI j) (S.1 2 2 i) (nI n) (nI (n + t)) k = true := decide_eq_true ⟨z0, z1, Int32.not_lt.mp z2, Int32.not_lt.mp z3⟩
        rw [e] at h1
        exact h1
  -- the works
  have g28 : ∀ m k, k + m = S.2.2 21 → G 28 [some (aR 10 3), some (aR 10 4), some (aR 10 5), some (aR 10 6), some (aR 10 7), some (aR 10 8), some (aR 10 9), some (aI (nI j)), some (aI (nI i)), some (aI (nI n)), some (aI (bV (borneH S i j))), some (aI ((10 : Int32) * nI i)), some (aI (nI (n + t))), some (aI (gainH S (nI i) 0 (nI n) (nI (n + t)) k)), some (aI (gainH S (nI i) 1 (nI n) (nI (n + t)) k)), some (aI (nI k)), none, none, none, none] [] S 0 := by
    intro m
    induction m with
    | zero =>
      intro k hk
      obtain rfl : k = S.2.2 21 := hk
      rw [← hgw, ← hgh]
      refine hs [28, 142] 120 28 _ _ _ _ ?_
      refine ⟨vm2, ?_⟩
      rw [em2]
      exact ⟨fun _ => g142 (S.2.2 23) 0 (by omega), fun z => (lp_end z).elim⟩
    | succ m ih =>
      intro k hk
      have hk2 : k < S.2.2 21 := by omega
      have vw0 : vp_in ((5 : Int32) * nI k) 30 := vW0 hI hk2
      have w0 : S.1 10 4 ((5 : Int32) * nI k).toNatClampNeg = S.1 3 0 k := aW0 hI hk2
      have vw1 : vp_in ((5 : Int32) * nI k + 1) 30 := vW hI hk2 1 (by decide)
      have w1 : S.1 10 4 ((5 : Int32) * nI k + 1).toNatClampNeg = S.1 3 1 k := aW hI hk2 1 (by decide)
      have vw2 : vp_in ((5 : Int32) * nI k + 2) 30 := vW hI hk2 2 (by decide)
      have w2 : S.1 10 4 ((5 : Int32) * nI k + 2).toNatClampNeg = S.1 3 2 k := aW hI hk2 2 (by decide)
      have vw3 : vp_in ((5 : Int32) * nI k + 3) 30 := vW hI hk2 3 (by decide)
      have w3 : S.1 10 4 ((5 : Int32) * nI k + 3).toNatClampNeg = S.1 7 0 k := aW hI hk2 3 (by decide)
      have vw4 : vp_in ((5 : Int32) * nI k + 4) 30 := vW hI hk2 4 (by decide)
      have w4 : S.1 10 4 ((5 : Int32) * nI k + 4).toNatClampNeg = S.1 7 1 k := aW hI hk2 4 (by decide)
      have h1 := ih (k + 1) (by omega)
      rw [← nI_s] at h1
      have no : ¬ (S.1 3 0 k = nI i ∧ S.1 7 0 k ≤ nI n ∧ nI (n + t) ≤ S.1 7 1 k) → G 28 [some (aR 10 3), some (aR 10 4), some (aR 10 5), some (aR 10 6), some (aR 10 7), some (aR 10 8), some (aR 10 9), some (aI (nI j)), some (aI (nI i)), some (aI (nI n)), some (aI (bV (borneH S i j))), some (aI ((10 : Int32) * nI i)), some (aI (nI (n + t))), some (aI (gainH S (nI i) 0 (nI n) (nI (n + t)) k)), some (aI (gainH S (nI i) 1 (nI n) (nI (n + t)) k)), some (aI (nI k + 1)), none, none, none, none] [] S 0 := fun z => by
        have e : ∀ x, gainH S (nI i) x (nI n) (nI (n + t)) (k + 1) = gainH S (nI i) x (nI n) (nI (n + t)) k := fun x => if_neg z
        rw [e, e] at h1
        exact h1
      refine hs [28] 120 28 _ _ _ _ ?_
      refine ⟨vm2, ?_⟩
      rw [em2]
      refine ⟨fun z => absurd z (lp_go (by omega) hk2), fun _ => ⟨vw0, ?_⟩⟩
      rw [w0]
      refine ⟨fun z => no fun y => z y.1, fun z0 => ⟨vw3, ?_⟩⟩
      rw [w3]
      refine ⟨fun z => no fun y => absurd y.2.1 (Int32.not_le.mpr z), fun z3 => ⟨vw4, ?_⟩⟩
      rw [w4]
      refine ⟨fun z => no fun y => absurd y.2.2 (Int32.not_le.mpr z), fun z4 => ⟨vw1, ?_⟩⟩
      have hc : S.1 3 0 k = nI i ∧ S.1 7 0 k ≤ nI n ∧ nI (n + t) ≤ S.1 7 1 k := ⟨z0, Int32.not_lt.mp z3, Int32.not_lt.mp z4⟩
      have q0 := gainH_s (isH := 0) hc (vl := S.1 3 1) (if_pos rfl)
      have q1 := gainH_s (isH := 1) hc (vl := S.1 3 2) (if_neg (by decide))
      rw [← q0, ← q1] at h1
      rw [w1]
      refine ⟨fun c0 => ⟨vw2, ?_⟩, fun c0 => ⟨vw1, vw2, ?_⟩⟩
      · rw [if_neg (Int32.not_lt.mpr c0)] at h1
        rw [w2]
        refine ⟨fun c1 => ?_, fun c1 => ⟨vw2, ?_⟩⟩
        · rw [if_neg (Int32.not_lt.mpr c1)] at h1
          exact h1
        · rw [if_pos (Int32.not_le.mp c1)] at h1
          rw [w2]
          exact h1
      · rw [if_pos (Int32.not_le.mp c0)] at h1
        rw [w1, w2]
        refine ⟨fun c1 => ?_, fun c1 => ⟨vw2, ?_⟩⟩
        · rw [if_neg (Int32.not_lt.mpr c1)] at h1
          exact h1
        · rw [if_pos (Int32.not_le.mp c1)] at h1
          rw [w2]
          exact h1
  have h0 := g28 (S.2.2 21) 0 (by omega)
  rw [← eov] at h0
  refine hs [28] 120 0 _ _ _ _ ?_
  refine ⟨va6, ?_⟩
  rw [a6]
  exact h0
theorem ct_L_why {l : Launch} (hl : l.stackTraces = false) (hNL : NewL l) : CT l yL_why cL_why 20 (some .int) 1 0 s_L_why := CT_of hl hNL (by decide +kernel) (own := "HeavyHaulLaw") rfl (ini := false) (fun q => nomatch q) chk_L_why (cal_L_why hl hNL) ar_L_why vc_L_why
