/-! THE LAW's LOOP: each case, then the loop -/

theorem bif_ok {c a B : Nat} {X : Prop} (hc : Nat.ble c 8 = true) (h : a ≤ B) (x : X) : bif Nat.ble c 8 && Nat.ble a B then X else False := by
  rw [hc, Nat.ble_eq_true_of_le h]
  exact x
abbrev lwL (i : Nat) (x5 x6 : Option AV) : Lo := [some (aR 14 0), some (aR 0 0), some (aR 1 0), some (aR 12 0), some (aI (nI i)), x5, x6]
abbrev lwH (G : Gt) (L i u : Nat) : Prop := (∀ k, k < 8 → vp_in (nI i + nI k) L) ∧ u + 12 ≤ 9000 ∧ ∀ x5 x6 S2 u2, InvS S2 → u2 ≤ u + 12 → G 1598 (lwL i x5 x6) [] S2 u2

set_option maxRecDepth 8000 in
theorem lw_bay {sl sm : Nat → SP} {G : Gt} {Q : Out → Sto → Prop} {L : Nat} {xs : Nat → Int32} {i u : Nat} {S : Sto} (hs : Seg (tb_law sl sm) G Q 2 9000 [] (L + 1, xs)) (hop : ∀ a b, b &&& 1 = b → OpB (sl 0) (sm 0) [aR 0 0, aI a, aI b, aR 12 0] [aR 1 0, aI a, aI b] S) (hH : lwH G L i u) (x5 x6 : Option AV) : G 124 (lwL i x5 x6) [] S u := by
  obtain ⟨hv, hu, hend⟩ := hH
  refine hs [1598] 300 124 _ _ _ _ ?_
  refine ⟨hv 1 (by omega), hv 2 (by omega), fun z => ?_, fun z => ?_⟩
  · refine bif_ok rfl (by omega) ?_
    apply hop _ _ (by decide)
    · intro k S1 h
      exact ⟨hv 1 (by omega), hv 2 (by omega), fun _ => bif_ok rfl (by omega) h, fun y => absurd z y⟩
    · intro k b S2 hI2 ht hj
      refine bif_ok rfl (by omega) ?_
      refine ⟨fun _ => ?_, fun z => absurd ht z⟩
      exact ⟨fun _ => hend _ _ S2 _ hI2 (by omega), fun w => ⟨rfl, fun v => ⟨fun _ => hend _ _ S2 _ hI2 (by omega), fun y => absurd ((lg_cmp_eq _ _).mpr ((hj w).trans (if_pos v))) y⟩, fun v => ⟨fun _ => hend _ _ S2 _ hI2 (by omega), fun y => absurd ((lg_cmp_eq _ _).mpr ((hj w).trans (if_neg v))) y⟩⟩⟩
  · refine bif_ok rfl (by omega) ?_
    apply hop _ _ (by decide)
    · intro k S1 h
      exact ⟨hv 1 (by omega), hv 2 (by omega), fun y => absurd y z, fun _ => bif_ok rfl (by omega) h⟩
    · intro k b S2 hI2 ht hj
      refine bif_ok rfl (by omega) ?_
      refine ⟨fun _ => ?_, fun z => absurd ht z⟩
      exact ⟨fun _ => hend _ _ S2 _ hI2 (by omega), fun w => ⟨rfl, fun v => ⟨fun _ => hend _ _ S2 _ hI2 (by omega), fun y => absurd ((lg_cmp_eq _ _).mpr ((hj w).trans (if_pos v))) y⟩, fun v => ⟨fun _ => hend _ _ S2 _ hI2 (by omega), fun y => absurd ((lg_cmp_eq _ _).mpr ((hj w).trans (if_neg v))) y⟩⟩⟩
set_option maxRecDepth 8000 in
theorem lw_road {sl sm : Nat → SP} {G : Gt} {Q : Out → Sto → Prop} {L : Nat} {xs : Nat → Int32} {i u : Nat} {S : Sto} (hs : Seg (tb_law sl sm) G Q 2 9000 [] (L + 1, xs)) (hop : ∀ a b c d e x y, OpI (sl 1) (sm 1) [aR 0 0, aI a, aI b, aI c, aI d, aI e, aI x, aI y, aR 12 0] [aR 1 0, aI a, aI b, aI c, aI d, aI e, aI x, aI y] S) (hH : lwH G L i u) (x5 x6 : Option AV) : G 215 (lwL i x5 x6) [] S u := by
  obtain ⟨hv, hu, hend⟩ := hH
  refine hs [1598] 300 215 _ _ _ _ ?_
  refine ⟨hv 1 (by omega), hv 2 (by omega), hv 3 (by omega), hv 4 (by omega), hv 5 (by omega), hv 6 (by omega), hv 7 (by omega), ?_⟩
  refine bif_ok rfl (by omega) ?_
  apply hop
  · intro k S1 h
    exact ⟨hv 1 (by omega), hv 2 (by omega), hv 3 (by omega), hv 4 (by omega), hv 5 (by omega), hv 6 (by omega), hv 7 (by omega), bif_ok rfl (by omega) h⟩
  · intro k b S2 hI2 ht hj
    refine bif_ok rfl (by omega) ?_
    refine ⟨fun _ => ?_, fun z => absurd ht z⟩
    exact ⟨fun _ => hend _ _ S2 _ hI2 (by omega), fun w => ⟨rfl, fun _ => hend _ _ S2 _ hI2 (by omega), fun y => absurd ((lg_cmp_eq _ _).mpr (hj w)) y⟩⟩
set_option maxRecDepth 8000 in
theorem lw_bridge {sl sm : Nat → SP} {G : Gt} {Q : Out → Sto → Prop} {L : Nat} {xs : Nat → Int32} {i u : Nat} {S : Sto} (hs : Seg (tb_law sl sm) G Q 2 9000 [] (L + 1, xs)) (hop : ∀ a b c d, OpB (sl 2) (sm 2) [aR 0 0, aI a, aI b, aI c, aI d, aR 12 0] [aR 1 0, aI a, aI b, aI c, aI d] S) (hH : lwH G L i u) (x5 x6 : Option AV) : G 347 (lwL i x5 x6) [] S u := by
  obtain ⟨hv, hu, hend⟩ := hH
  refine hs [1598] 300 347 _ _ _ _ ?_
  refine ⟨hv 1 (by omega), hv 2 (by omega), hv 3 (by omega), hv 4 (by omega), ?_⟩
  refine bif_ok rfl (by omega) ?_
  apply hop
  · intro k S1 h
    exact ⟨hv 1 (by omega), hv 2 (by omega), hv 3 (by omega), hv 4 (by omega), bif_ok rfl (by omega) h⟩
  · intro k b S2 hI2 ht hj
    refine bif_ok rfl (by omega) ?_
    refine ⟨fun _ => ?_, fun z => absurd ht z⟩
    exact ⟨fun _ => hend _ _ S2 _ hI2 (by omega), fun w => ⟨rfl, fun v => ⟨fun _ => hend _ _ S2 _ hI2 (by omega), fun y => absurd ((lg_cmp_eq _ _).mpr ((hj w).trans (if_pos v))) y⟩, fun v => ⟨fun _ => hend _ _ S2 _ hI2 (by omega), fun y => absurd ((lg_cmp_eq _ _).mpr ((hj w).trans (if_neg v))) y⟩⟩⟩
set_option maxRecDepth 8000 in
theorem lw_work {sl sm : Nat → SP} {G : Gt} {Q : Out → Sto → Prop} {L : Nat} {xs : Nat → Int32} {i u : Nat} {S : Sto} (hs : Seg (tb_law sl sm) G Q 2 9000 [] (L + 1, xs)) (hop : ∀ a b c d e, OpI (sl 3) (sm 3) [aR 0 0, aI a, aI b, aI c, aI d, aI e, aR 12 0] [aR 1 0, aI a, aI b, aI c, aI d, aI e] S) (hH : lwH G L i u) (x5 x6 : Option AV) : G 446 (lwL i x5 x6) [] S u := by
  obtain ⟨hv, hu, hend⟩ := hH
  refine hs [1598] 300 446 _ _ _ _ ?_
  refine ⟨hv 1 (by omega), hv 2 (by omega), hv 3 (by omega), hv 4 (by omega), hv 5 (by omega), ?_⟩
  refine bif_ok rfl (by omega) ?_
  apply hop
  · intro k S1 h
    exact ⟨hv 1 (by omega), hv 2 (by omega), hv 3 (by omega), hv 4 (by omega), hv 5 (by omega), bif_ok rfl (by omega) h⟩
  · intro k b S2 hI2 ht hj
    refine bif_ok rfl (by omega) ?_
    refine ⟨fun _ => ?_, fun z => absurd ht z⟩
    exact ⟨fun _ => hend _ _ S2 _ hI2 (by omega), fun w => ⟨rfl, fun _ => hend _ _ S2 _ hI2 (by omega), fun y => absurd ((lg_cmp_eq _ _).mpr (hj w)) y⟩⟩
set_option maxRecDepth 8000 in
theorem lw_rig {sl sm : Nat → SP} {G : Gt} {Q : Out → Sto → Prop} {L : Nat} {xs : Nat → Int32} {i u : Nat} {S : Sto} (hs : Seg (tb_law sl sm) G Q 2 9000 [] (L + 1, xs)) (hop : ∀ a b c d e x y, OpI (sl 4) (sm 4) [aR 0 0, aI a, aI b, aI c, aI d, aI e, aI x, aI y, aR 12 0] [aR 1 0, aI a, aI b, aI c, aI d, aI e, aI x, aI y] S) (hH : lwH G L i u) (x5 x6 : Option AV) : G 550 (lwL i x5 x6) [] S u := by
  obtain ⟨hv, hu, hend⟩ := hH
  refine hs [1598] 300 550 _ _ _ _ ?_
  refine ⟨hv 1 (by omega), hv 2 (by omega), hv 3 (by omega), hv 4 (by omega), hv 5 (by omega), hv 6 (by omega), hv 7 (by omega), ?_⟩
  refine bif_ok rfl (by omega) ?_
  apply hop
  · intro k S1 h
    exact ⟨hv 1 (by omega), hv 2 (by omega), hv 3 (by omega), hv 4 (by omega), hv 5 (by omega), hv 6 (by omega), hv 7 (by omega), bif_ok rfl (by omega) h⟩
  · intro k b S2 hI2 ht hj
    refine bif_ok rfl (by omega) ?_
    refine ⟨fun _ => ?_, fun z => absurd ht z⟩
    exact ⟨fun _ => hend _ _ S2 _ hI2 (by omega), fun w => ⟨rfl, fun _ => hend _ _ S2 _ hI2 (by omega), fun y => absurd ((lg_cmp_eq _ _).mpr (hj w)) y⟩⟩
set_option maxRecDepth 8000 in
theorem lw_load {sl sm : Nat → SP} {G : Gt} {Q : Out → Sto → Prop} {L : Nat} {xs : Nat → Int32} {i u : Nat} {S : Sto} (hs : Seg (tb_law sl sm) G Q 2 9000 [] (L + 1, xs)) (hop : ∀ a b c, OpN (sl 5) (sm 5) [aR 0 0, aI a, aI b, aI c] [aR 1 0, aI a, aI b, aI c] S) (hH : lwH G L i u) (x5 x6 : Option AV) : G 682 (lwL i x5 x6) [] S u := by
  obtain ⟨hv, hu, hend⟩ := hH
  refine hs [1598] 300 682 _ _ _ _ ?_
  refine ⟨hv 1 (by omega), hv 2 (by omega), hv 3 (by omega), ?_⟩
  refine bif_ok rfl (by omega) ?_
  apply hop
  · intro k S1 h
    exact ⟨hv 1 (by omega), hv 2 (by omega), hv 3 (by omega), bif_ok rfl (by omega) h⟩
  · intro k S2 hI2 ht
    refine bif_ok rfl (by omega) ?_
    exact ⟨fun _ => hend _ _ S2 _ hI2 (by omega), fun z => absurd ht z⟩
set_option maxRecDepth 8000 in
theorem lw_axle {sl sm : Nat → SP} {G : Gt} {Q : Out → Sto → Prop} {L : Nat} {xs : Nat → Int32} {i u : Nat} {S : Sto} (hs : Seg (tb_law sl sm) G Q 2 9000 [] (L + 1, xs)) (hop : ∀ a b, OpI (sl 6) (sm 6) [aR 0 0, aI a, aI b, aR 12 0] [aR 1 0, aI a, aI b] S) (hH : lwH G L i u) (x5 x6 : Option AV) : G 742 (lwL i x5 x6) [] S u := by
  obtain ⟨hv, hu, hend⟩ := hH
  refine hs [1598] 300 742 _ _ _ _ ?_
  refine ⟨hv 1 (by omega), hv 2 (by omega), ?_⟩
  refine bif_ok rfl (by omega) ?_
  apply hop
  · intro k S1 h
    exact ⟨hv 1 (by omega), hv 2 (by omega), bif_ok rfl (by omega) h⟩
  · intro k b S2 hI2 ht hj
    refine bif_ok rfl (by omega) ?_
    refine ⟨fun _ => ?_, fun z => absurd ht z⟩
    exact ⟨fun _ => hend _ _ S2 _ hI2 (by omega), fun w => ⟨rfl, fun _ => hend _ _ S2 _ hI2 (by omega), fun y => absurd ((lg_cmp_eq _ _).mpr (hj w)) y⟩⟩
set_option maxRecDepth 8000 in
theorem lw_greatest {sl sm : Nat → SP} {G : Gt} {Q : Out → Sto → Prop} {L : Nat} {xs : Nat → Int32} {i u : Nat} {S : Sto} (hs : Seg (tb_law sl sm) G Q 2 9000 [] (L + 1, xs)) (hop : ∀ a b c, OpI (sl 7) (sm 7) [aR 0 0, aI a, aI b, aI c, aR 12 0] [aR 1 0, aI a, aI b, aI c] S) (hH : lwH G L i u) (x5 x6 : Option AV) : G 810 (lwL i x5 x6) [] S u := by
  obtain ⟨hv, hu, hend⟩ := hH
  refine hs [1598] 300 810 _ _ _ _ ?_
  refine ⟨hv 1 (by omega), hv 2 (by omega), hv 3 (by omega), fun z => ?_, fun z => ?_⟩
  · refine bif_ok rfl (by omega) ?_
    apply hop
    · intro k S1 h
      exact ⟨hv 1 (by omega), hv 2 (by omega), hv 3 (by omega), fun _ => bif_ok rfl (by omega) h, fun y => absurd z y⟩
    · intro k b S2 hI2 ht hj
      refine bif_ok rfl (by omega) ?_
      refine ⟨fun _ => ?_, fun z => absurd ht z⟩
      exact ⟨fun _ => hend _ _ S2 _ hI2 (by omega), fun w => ⟨rfl, fun _ => hend _ _ S2 _ hI2 (by omega), fun y => absurd ((lg_cmp_eq _ _).mpr (hj w)) y⟩⟩
  · refine bif_ok rfl (by omega) ?_
    apply hop
    · intro k S1 h
      exact ⟨hv 1 (by omega), hv 2 (by omega), hv 3 (by omega), fun y => absurd y z, fun _ => bif_ok rfl (by omega) h⟩
    · intro k b S2 hI2 ht hj
      refine bif_ok rfl (by omega) ?_
      refine ⟨fun _ => ?_, fun z => absurd ht z⟩
      exact ⟨fun _ => hend _ _ S2 _ hI2 (by omega), fun w => ⟨rfl, fun _ => hend _ _ S2 _ hI2 (by omega), fun y => absurd ((lg_cmp_eq _ _).mpr (hj w)) y⟩⟩
set_option maxRecDepth 8000 in
theorem lw_greatestAnew {sl sm : Nat → SP} {G : Gt} {Q : Out → Sto → Prop} {L : Nat} {xs : Nat → Int32} {i u : Nat} {S : Sto} (hs : Seg (tb_law sl sm) G Q 2 9000 [] (L + 1, xs)) (hop : ∀ a b c, OpI (sl 8) (sm 8) [aR 0 0, aI a, aI b, aI c, aR 12 0] [aR 1 0, aI a, aI b, aI c] S) (hH : lwH G L i u) (x5 x6 : Option AV) : G 906 (lwL i x5 x6) [] S u := by
  obtain ⟨hv, hu, hend⟩ := hH
  refine hs [1598] 300 906 _ _ _ _ ?_
  refine ⟨hv 1 (by omega), hv 2 (by omega), hv 3 (by omega), fun z => ?_, fun z => ?_⟩
  · refine bif_ok rfl (by omega) ?_
    apply hop
    · intro k S1 h
      exact ⟨hv 1 (by omega), hv 2 (by omega), hv 3 (by omega), fun _ => bif_ok rfl (by omega) h, fun y => absurd z y⟩
    · intro k b S2 hI2 ht hj
      refine bif_ok rfl (by omega) ?_
      refine ⟨fun _ => ?_, fun z => absurd ht z⟩
      exact ⟨fun _ => hend _ _ S2 _ hI2 (by omega), fun w => ⟨rfl, fun _ => hend _ _ S2 _ hI2 (by omega), fun y => absurd ((lg_cmp_eq _ _).mpr (hj w)) y⟩⟩
  · refine bif_ok rfl (by omega) ?_
    apply hop
    · intro k S1 h
      exact ⟨hv 1 (by omega), hv 2 (by omega), hv 3 (by omega), fun y => absurd y z, fun _ => bif_ok rfl (by omega) h⟩
    · intro k b S2 hI2 ht hj
      refine bif_ok rfl (by omega) ?_
      refine ⟨fun _ => ?_, fun z => absurd ht z⟩
      exact ⟨fun _ => hend _ _ S2 _ hI2 (by omega), fun w => ⟨rfl, fun _ => hend _ _ S2 _ hI2 (by omega), fun y => absurd ((lg_cmp_eq _ _).mpr (hj w)) y⟩⟩
set_option maxRecDepth 8000 in
theorem lw_authority {sl sm : Nat → SP} {G : Gt} {Q : Out → Sto → Prop} {L : Nat} {xs : Nat → Int32} {i u : Nat} {S : Sto} (hs : Seg (tb_law sl sm) G Q 2 9000 [] (L + 1, xs)) (hop : ∀ a b c, OpN (sl 9) (sm 9) [aR 0 0, aI a, aI b, aI c] [aR 1 0, aI a, aI b, aI c] S) (hH : lwH G L i u) (x5 x6 : Option AV) : G 1002 (lwL i x5 x6) [] S u := by
  obtain ⟨hv, hu, hend⟩ := hH
  refine hs [1598] 300 1002 _ _ _ _ ?_
  refine ⟨hv 1 (by omega), hv 2 (by omega), hv 3 (by omega), ?_⟩
  refine bif_ok rfl (by omega) ?_
  apply hop
  · intro k S1 h
    exact ⟨hv 1 (by omega), hv 2 (by omega), hv 3 (by omega), bif_ok rfl (by omega) h⟩
  · intro k S2 hI2 ht
    refine bif_ok rfl (by omega) ?_
    exact ⟨fun _ => hend _ _ S2 _ hI2 (by omega), fun z => absurd ht z⟩
set_option maxRecDepth 8000 in
theorem lw_permit {sl sm : Nat → SP} {G : Gt} {Q : Out → Sto → Prop} {L : Nat} {xs : Nat → Int32} {i u : Nat} {S : Sto} (hs : Seg (tb_law sl sm) G Q 2 9000 [] (L + 1, xs)) (hop : ∀ a b c d, OpI (sl 10) (sm 10) [aR 0 0, aI a, aI b, aI c, aI d, aR 12 0] [aR 1 0, aI a, aI b, aI c, aI d] S) (hH : lwH G L i u) (x5 x6 : Option AV) : G 1062 (lwL i x5 x6) [] S u := by
  obtain ⟨hv, hu, hend⟩ := hH
  refine hs [1598] 300 1062 _ _ _ _ ?_
  refine ⟨hv 1 (by omega), hv 2 (by omega), hv 3 (by omega), hv 4 (by omega), ?_⟩
  refine bif_ok rfl (by omega) ?_
  apply hop
  · intro k S1 h
    exact ⟨hv 1 (by omega), hv 2 (by omega), hv 3 (by omega), hv 4 (by omega), bif_ok rfl (by omega) h⟩
  · intro k b S2 hI2 ht hj
    refine bif_ok rfl (by omega) ?_
    refine ⟨fun _ => ?_, fun z => absurd ht z⟩
    exact ⟨fun _ => hend _ _ S2 _ hI2 (by omega), fun w => ⟨rfl, fun _ => hend _ _ S2 _ hI2 (by omega), fun y => absurd ((lg_cmp_eq _ _).mpr (hj w)) y⟩⟩
set_option maxRecDepth 8000 in
theorem lw_embargo {sl sm : Nat → SP} {G : Gt} {Q : Out → Sto → Prop} {L : Nat} {xs : Nat → Int32} {i u : Nat} {S : Sto} (hs : Seg (tb_law sl sm) G Q 2 9000 [] (L + 1, xs)) (hop : ∀ a b c, OpI (sl 11) (sm 11) [aR 0 0, aI a, aI b, aI c, aR 12 0] [aR 1 0, aI a, aI b, aI c] S) (hH : lwH G L i u) (x5 x6 : Option AV) : G 1154 (lwL i x5 x6) [] S u := by
  obtain ⟨hv, hu, hend⟩ := hH
  refine hs [1598] 300 1154 _ _ _ _ ?_
  refine ⟨hv 1 (by omega), hv 2 (by omega), hv 3 (by omega), ?_⟩
  refine bif_ok rfl (by omega) ?_
  apply hop
  · intro k S1 h
    exact ⟨hv 1 (by omega), hv 2 (by omega), hv 3 (by omega), bif_ok rfl (by omega) h⟩
  · intro k b S2 hI2 ht hj
    refine bif_ok rfl (by omega) ?_
    refine ⟨fun _ => ?_, fun z => absurd ht z⟩
    exact ⟨fun _ => hend _ _ S2 _ hI2 (by omega), fun w => ⟨rfl, fun _ => hend _ _ S2 _ hI2 (by omega), fun y => absurd ((lg_cmp_eq _ _).mpr (hj w)) y⟩⟩
set_option maxRecDepth 8000 in
theorem lw_why {sl sm : Nat → SP} {G : Gt} {Q : Out → Sto → Prop} {L : Nat} {xs : Nat → Int32} {i u : Nat} {S : Sto} (hs : Seg (tb_law sl sm) G Q 2 9000 [] (L + 1, xs)) (hop : ∀ a b c, OpI (sl 12) (sm 12) [aR 0 0, aI a, aI b, aI c, aR 12 0] [aR 1 0, aI a, aI b, aI c] S) (hH : lwH G L i u) (x5 x6 : Option AV) : G 1234 (lwL i x5 x6) [] S u := by
  obtain ⟨hv, hu, hend⟩ := hH
  refine hs [1598] 300 1234 _ _ _ _ ?_
  refine ⟨hv 1 (by omega), hv 2 (by omega), hv 3 (by omega), ?_⟩
  refine bif_ok rfl (by omega) ?_
  apply hop
  · intro k S1 h
    exact ⟨hv 1 (by omega), hv 2 (by omega), hv 3 (by omega), bif_ok rfl (by omega) h⟩
  · intro k b S2 hI2 ht hj
    refine bif_ok rfl (by omega) ?_
    refine ⟨fun _ => ?_, fun z => absurd ht z⟩
    exact ⟨fun _ => hend _ _ S2 _ hI2 (by omega), fun w => ⟨rfl, fun _ => hend _ _ S2 _ hI2 (by omega), fun y => absurd ((lg_cmp_eq _ _).mpr (hj w)) y⟩⟩
set_option maxRecDepth 8000 in
theorem lw_drive {sl sm : Nat → SP} {G : Gt} {Q : Out → Sto → Prop} {L : Nat} {xs : Nat → Int32} {i u : Nat} {S : Sto} (hs : Seg (tb_law sl sm) G Q 2 9000 [] (L + 1, xs)) (hop : ∀ a b, OpI (sl 13) (sm 13) [aR 0 0, aI a, aI b, aR 12 0] [aR 1 0, aI a, aI b] S) (hH : lwH G L i u) (x5 x6 : Option AV) : G 1314 (lwL i x5 x6) [] S u := by
  obtain ⟨hv, hu, hend⟩ := hH
  refine hs [1598] 300 1314 _ _ _ _ ?_
  refine ⟨hv 1 (by omega), hv 2 (by omega), ?_⟩
  refine bif_ok rfl (by omega) ?_
  apply hop
  · intro k S1 h
    exact ⟨hv 1 (by omega), hv 2 (by omega), bif_ok rfl (by omega) h⟩
  · intro k b S2 hI2 ht hj
    refine bif_ok rfl (by omega) ?_
    refine ⟨fun _ => ?_, fun z => absurd ht z⟩
    exact ⟨fun _ => hend _ _ S2 _ hI2 (by omega), fun w => ⟨rfl, fun _ => hend _ _ S2 _ hI2 (by omega), fun y => absurd ((lg_cmp_eq _ _).mpr (hj w)) y⟩⟩
set_option maxRecDepth 8000 in
theorem lw_arrives {sl sm : Nat → SP} {G : Gt} {Q : Out → Sto → Prop} {L : Nat} {xs : Nat → Int32} {i u : Nat} {S : Sto} (hs : Seg (tb_law sl sm) G Q 2 9000 [] (L + 1, xs)) (hop : ∀ a b c d, OpI (sl 14) (sm 14) [aR 0 0, aI a, aI b, aI c, aI d, aR 12 0] [aR 1 0, aI a, aI b, aI c, aI d] S) (hH : lwH G L i u) (x5 x6 : Option AV) : G 1382 (lwL i x5 x6) [] S u := by
  obtain ⟨hv, hu, hend⟩ := hH
  refine hs [1598] 300 1382 _ _ _ _ ?_
  refine ⟨hv 1 (by omega), hv 2 (by omega), hv 3 (by omega), hv 4 (by omega), ?_⟩
  refine bif_ok rfl (by omega) ?_
  apply hop
  · intro k S1 h
    exact ⟨hv 1 (by omega), hv 2 (by omega), hv 3 (by omega), hv 4 (by omega), bif_ok rfl (by omega) h⟩
  · intro k b S2 hI2 ht hj
    refine bif_ok rfl (by omega) ?_
    refine ⟨fun _ => ?_, fun z => absurd ht z⟩
    exact ⟨fun _ => hend _ _ S2 _ hI2 (by omega), fun w => ⟨rfl, fun _ => hend _ _ S2 _ hI2 (by omega), fun y => absurd ((lg_cmp_eq _ _).mpr (hj w)) y⟩⟩
set_option maxRecDepth 8000 in
theorem lw_rigIs {sl sm : Nat → SP} {G : Gt} {Q : Out → Sto → Prop} {L : Nat} {xs : Nat → Int32} {i u : Nat} {S : Sto} (hs : Seg (tb_law sl sm) G Q 2 9000 [] (L + 1, xs)) (hop : ∀ a b, OpI (sl 15) (sm 15) [aR 0 0, aI a, aI b, aR 12 0] [aR 1 0, aI a, aI b] S) (hH : lwH G L i u) (x5 x6 : Option AV) : G 1474 (lwL i x5 x6) [] S u := by
  obtain ⟨hv, hu, hend⟩ := hH
  refine hs [1598] 300 1474 _ _ _ _ ?_
  refine ⟨hv 1 (by omega), hv 2 (by omega), ?_⟩
  refine bif_ok rfl (by omega) ?_
  apply hop
  · intro k S1 h
    exact ⟨hv 1 (by omega), hv 2 (by omega), bif_ok rfl (by omega) h⟩
  · intro k b S2 hI2 ht hj
    refine bif_ok rfl (by omega) ?_
    refine ⟨fun _ => ?_, fun z => absurd ht z⟩
    exact ⟨fun _ => hend _ _ S2 _ hI2 (by omega), fun w => ⟨rfl, fun _ => hend _ _ S2 _ hI2 (by omega), fun y => absurd ((lg_cmp_eq _ _).mpr (hj w)) y⟩⟩
set_option maxRecDepth 8000 in
theorem lw_pass {sl sm : Nat → SP} {G : Gt} {Q : Out → Sto → Prop} {L : Nat} {xs : Nat → Int32} {i u : Nat} {S : Sto} (hs : Seg (tb_law sl sm) G Q 2 9000 [] (L + 1, xs)) (hop : ∀ a, OpI (sl 16) (sm 16) [aR 0 0, aI a, aR 12 0] [aR 1 0, aI a] S) (hH : lwH G L i u) (x5 x6 : Option AV) : G 1542 (lwL i x5 x6) [] S u := by
  obtain ⟨hv, hu, hend⟩ := hH
  refine hs [1598] 300 1542 _ _ _ _ ?_
  refine ⟨hv 1 (by omega), ?_⟩
  refine bif_ok rfl (by omega) ?_
  apply hop
  · intro k S1 h
    exact ⟨hv 1 (by omega), bif_ok rfl (by omega) h⟩
  · intro k b S2 hI2 ht hj
    refine bif_ok rfl (by omega) ?_
    refine ⟨fun _ => ?_, fun z => absurd ht z⟩
    exact ⟨fun _ => hend _ _ S2 _ hI2 (by omega), fun w => ⟨rfl, fun _ => hend _ _ S2 _ hI2 (by omega), fun y => absurd ((lg_cmp_eq _ _).mpr (hj w)) y⟩⟩
theorem lw_cmp {L i : Nat} (hL : L ≤ 4096) (hi : i ≤ 5000) : (nI L - 8 < nI i) ↔ L < i + 8 := by
  rw [Int32.lt_iff_toInt_lt, Int32.toInt_sub, nI_toInt (by omega), nI_toInt (by omega)]
  rw [show (8 : Int32).toInt = 8 from rfl, Int.bmod_eq_of_le (by omega) (by omega)]
  omega
def opsOK (sl sm : Nat → SP) (S : Sto) : Prop :=
  (∀ a b, b &&& 1 = b → OpB (sl 0) (sm 0) [aR 0 0, aI a, aI b, aR 12 0] [aR 1 0, aI a, aI b] S) ∧
  (∀ a b c d e x y, OpI (sl 1) (sm 1) [aR 0 0, aI a, aI b, aI c, aI d, aI e, aI x, aI y, aR 12 0] [aR 1 0, aI a, aI b, aI c, aI d, aI e, aI x, aI y] S) ∧
  (∀ a b c d, OpB (sl 2) (sm 2) [aR 0 0, aI a, aI b, aI c, aI d, aR 12 0] [aR 1 0, aI a, aI b, aI c, aI d] S) ∧
  (∀ a b c d e, OpI (sl 3) (sm 3) [aR 0 0, aI a, aI b, aI c, aI d, aI e, aR 12 0] [aR 1 0, aI a, aI b, aI c, aI d, aI e] S) ∧
  (∀ a b c d e x y, OpI (sl 4) (sm 4) [aR 0 0, aI a, aI b, aI c, aI d, aI e, aI x, aI y, aR 12 0] [aR 1 0, aI a, aI b, aI c, aI d, aI e, aI x, aI y] S) ∧
  (∀ a b c, OpN (sl 5) (sm 5) [aR 0 0, aI a, aI b, aI c] [aR 1 0, aI a, aI b, aI c] S) ∧
  (∀ a b, OpI (sl 6) (sm 6) [aR 0 0, aI a, aI b, aR 12 0] [aR 1 0, aI a, aI b] S) ∧
  (∀ a b c, OpI (sl 7) (sm 7) [aR 0 0, aI a, aI b, aI c, aR 12 0] [aR 1 0, aI a, aI b, aI c] S) ∧
  (∀ a b c, OpI (sl 8) (sm 8) [aR 0 0, aI a, aI b, aI c, aR 12 0] [aR 1 0, aI a, aI b, aI c] S) ∧
  (∀ a b c, OpN (sl 9) (sm 9) [aR 0 0, aI a, aI b, aI c] [aR 1 0, aI a, aI b, aI c] S) ∧
  (∀ a b c d, OpI (sl 10) (sm 10) [aR 0 0, aI a, aI b, aI c, aI d, aR 12 0] [aR 1 0, aI a, aI b, aI c, aI d] S) ∧
  (∀ a b c, OpI (sl 11) (sm 11) [aR 0 0, aI a, aI b, aI c, aR 12 0] [aR 1 0, aI a, aI b, aI c] S) ∧
  (∀ a b c, OpI (sl 12) (sm 12) [aR 0 0, aI a, aI b, aI c, aR 12 0] [aR 1 0, aI a, aI b, aI c] S) ∧
  (∀ a b, OpI (sl 13) (sm 13) [aR 0 0, aI a, aI b, aR 12 0] [aR 1 0, aI a, aI b] S) ∧
  (∀ a b c d, OpI (sl 14) (sm 14) [aR 0 0, aI a, aI b, aI c, aI d, aR 12 0] [aR 1 0, aI a, aI b, aI c, aI d] S) ∧
  (∀ a b, OpI (sl 15) (sm 15) [aR 0 0, aI a, aI b, aR 12 0] [aR 1 0, aI a, aI b] S) ∧
  (∀ a, OpI (sl 16) (sm 16) [aR 0 0, aI a, aR 12 0] [aR 1 0, aI a] S)
theorem ops_ok {S : Sto} (hI : InvS S) : opsOK slC smC S :=
  ⟨fun a b h => op_bay hI a b h, fun a b c d e x y => op_road hI a b c d e x y, fun a b c d => op_bridge hI a b c d, fun a b c d e => op_work hI a b c d e, fun a b c d e x y => op_rig hI a b c d e x y, fun a b c => op_load hI a b c, fun a b => op_axle hI a b, fun a b c => op_greatest hI a b c, fun a b c => op_greatestAnew hI a b c, fun a b c => op_authority hI a b c, fun a b c d => op_permit hI a b c d, fun a b c => op_embargo hI a b c, fun a b c => op_why hI a b c, fun a b => op_drive hI a b, fun a b c d => op_arrives hI a b c d, fun a b => op_rigIs hI a b, fun a => op_pass hI a⟩
set_option maxRecDepth 8000 in
theorem lw_loop {sl sm : Nat → SP} (hops : ∀ S, InvS S → opsOK sl sm S) {G : Gt} {Q : Out → Sto → Prop} {L : Nat} {xs : Nat → Int32} (hL : L ≤ 4096) (hQ : ∀ S, Q (Sum.inl (some (aI 1))) S) (hs : Seg (tb_law sl sm) G Q 2 9000 [] (L + 1, xs)) :
    ∀ m i u, L ≤ i + 8 * m + 7 → i ≤ L + 8 → u + 12 * m ≤ 9000 → ∀ S, InvS S → ∀ x5 x6, G 23 (lwL i x5 x6) [] S u := by
  intro m
  induction m with
  | zero =>
    intro i u h1 h2 h3 S hI x5 x6
    refine hs [23] 300 23 _ _ _ _ ?_
    exact ⟨fun _ => ⟨rfl, hQ S⟩, fun z => absurd ((lw_cmp hL (by omega)).mpr (by omega)) z⟩
  | succ m ih =>
    intro i u h1 h2 h3 S hI x5 x6
    have hop := hops S hI
    refine hs [23, 124, 215, 347, 446, 550, 682, 742, 810, 906, 1002, 1062, 1154, 1234, 1314, 1382, 1474, 1542, 1598] 300 23 _ _ _ _ ?_
    refine ⟨fun _ => ⟨rfl, hQ S⟩, fun z => ?_⟩
    have hi : i + 8 ≤ L := Nat.not_lt.mp fun y => z ((lw_cmp hL (by omega)).mpr y)
    have hv : ∀ k, k < 8 → vp_in (nI i + nI k) L := fun k hk => by
      rw [nI_add]
      exact nI_vin (by omega) (by omega)
    have hend : ∀ x5 x6 S2 u2, InvS S2 → u2 ≤ u + 12 → G 1598 (lwL i x5 x6) [] S2 u2 := fun x5 x6 S2 u2 hI2 hu2 => by
      have h9 := ih (i + 8) u2 (by omega) (by omega) (by omega) S2 hI2 x5 x6
      have e8 : nI (i + 8) = nI i + 8 := (nI_add i 8).symm
      unfold lwL at h9
      rw [e8] at h9
      refine hs [23] 300 1598 _ _ _ _ ?_
      exact h9
    have hH : lwH G L i u := ⟨hv, by omega, hend⟩
    refine ⟨nI_vin (by omega) (by omega), fun _ => hend _ _ S u hI (by omega), fun _ => lw_bay hs hop.1 hH _ _, fun _ => lw_road hs hop.2.1 hH _ _, fun _ => lw_bridge hs hop.2.2.1 hH _ _, fun _ => lw_work hs hop.2.2.2.1 hH _ _, fun _ => lw_rig hs hop.2.2.2.2.1 hH _ _, fun _ => lw_load hs hop.2.2.2.2.2.1 hH _ _, fun _ => lw_axle hs hop.2.2.2.2.2.2.1 hH _ _, fun _ => lw_greatest hs hop.2.2.2.2.2.2.2.1 hH _ _, fun _ => lw_greatestAnew hs hop.2.2.2.2.2.2.2.2.1 hH _ _, fun _ => lw_authority hs hop.2.2.2.2.2.2.2.2.2.1 hH _ _, fun _ => lw_permit hs hop.2.2.2.2.2.2.2.2.2.2.1 hH _ _, fun _ => lw_embargo hs hop.2.2.2.2.2.2.2.2.2.2.2.1 hH _ _, fun _ => lw_why hs hop.2.2.2.2.2.2.2.2.2.2.2.2.1 hH _ _, fun _ => lw_drive hs hop.2.2.2.2.2.2.2.2.2.2.2.2.2.1 hH _ _, fun _ => lw_arrives hs hop.2.2.2.2.2.2.2.2.2.2.2.2.2.2.1 hH _ _, fun _ => lw_rigIs hs hop.2.2.2.2.2.2.2.2.2.2.2.2.2.2.2.1 hH _ _, fun _ => lw_pass hs hop.2.2.2.2.2.2.2.2.2.2.2.2.2.2.2.2 hH _ _, trivial⟩
