/-! THE INVARIANT, kept -/
def skp (k f : Nat) : Prop := (k = 1 ∧ f = 37) ∨ (k = 10 ∧ f = 2) ∨ (k = 11 ∧ (f = 2 ∨ f = 3))
theorem InvS.same {S S' : Sto} (h : InvS S) (h2 : S'.2.2 = S.2.2) (h1 : ∀ k f i, ¬ skp k f → S'.1 k f i = S.1 k f i) : InvS S' := by
  have c : ∀ k, k ≠ 1 → k ≠ 10 → k ≠ 11 → S'.1 k = S.1 k := fun k a b d => by
    funext f i
    exact h1 k f i fun q => by rcases q with q | q | q <;> omega
  have m : ∀ f, f ≠ 37 → S'.1 1 f = S.1 1 f := fun f a => by
    funext i
    exact h1 1 f i fun q => by rcases q with q | q | q <;> omega
  have t : ∀ f, f ≠ 2 → S'.1 10 f = S.1 10 f := fun f a => by
    funext i
    exact h1 10 f i fun q => by rcases q with q | q | q <;> omega
  have b : ∀ f, f ≠ 2 → f ≠ 3 → S'.1 11 f = S.1 11 f := fun f a d => by
    funext i
    exact h1 11 f i fun q => by rcases q with q | q | q <;> omega
  unfold InvS WfH RoF RiF LoF canT shrF reaF levF basF at h ⊢
  simp only [h2, c 0 (by decide) (by decide) (by decide), c 2 (by decide) (by decide) (by decide), c 3 (by decide) (by decide) (by decide), c 4 (by decide) (by decide) (by decide), c 5 (by decide) (by decide) (by decide), c 6 (by decide) (by decide) (by decide), c 7 (by decide) (by decide) (by decide), c 8 (by decide) (by decide) (by decide), c 9 (by decide) (by decide) (by decide), m 0 (by decide), m 12 (by decide), m 14 (by decide), m 28 (by decide), m 32 (by decide), m 34 (by decide), b 0 (by decide) (by decide), b 1 (by decide) (by decide),
    t 0 (by decide), t 1 (by decide), t 3 (by decide), t 4 (by decide), t 5 (by decide), t 6 (by decide), t 7 (by decide), t 8 (by decide), t 9 (by decide), t 10 (by decide), t 11 (by decide), t 12 (by decide), t 13 (by decide), t 14 (by decide), t 15 (by decide), t 16 (by decide), t 17 (by decide), t 18 (by decide), t 19 (by decide), t 20 (by decide), t 21 (by decide), t 22 (by decide), t 23 (by decide), t 24 (by decide), t 25 (by decide), t 26 (by decide), t 27 (by decide), t 28 (by decide), t 29 (by decide), t 30 (by decide)]
  exact h
theorem InvS.last {S : Sto} (h : InvS S) (v : Int32) : InvS (lastS S v) := h.same rfl fun k f i q => wrI_ne fun z => q (Or.inl ⟨z.1, z.2.1⟩)
theorem InvS.j {S : Sto} (h : InvS S) (v : Int64) : InvS (wrJ S v) := h
theorem last_v {S : Sto} {v : Int32} : (lastS S v).1 1 37 0 = v := by
  unfold lastS
  rw [wrI_at, if_pos ⟨rfl, rfl, rfl⟩]
/-- class and model, one call: an int, a truth, nothing -/
def OpI (sl sm : SP) (las bs : List AV) (S : Sto) : Prop := ∀ (F : Out → Sto → Prop) (F2 : Int32 → Out → Sto → Prop), (∀ k S1, sm bs S1 (F2 k) → F (Sum.inl (some (aI k))) S1) → (∀ k b S2, InvS S2 → S2.1 1 37 0 = k → (k = 0 → S2.2.1 = b.toInt64) → F2 k (Sum.inl (some (aI b))) S2) → sl las S F
def OpB (sl sm : SP) (las bs : List AV) (S : Sto) : Prop := ∀ (F : Out → Sto → Prop) (F2 : Int32 → Out → Sto → Prop), (∀ k S1, sm bs S1 (F2 k) → F (Sum.inl (some (aI k))) S1) → (∀ k b S2, InvS S2 → S2.1 1 37 0 = k → (k = 0 → S2.2.1 = if b = 0 then 0 else 1) → F2 k (Sum.inl (some (aI b))) S2) → sl las S F
def OpN (sl sm : SP) (las bs : List AV) (S : Sto) : Prop := ∀ (F : Out → Sto → Prop) (F2 : Int32 → Out → Sto → Prop), (∀ k S1, sm bs S1 (F2 k) → F (Sum.inl (some (aI k))) S1) → (∀ k S2, InvS S2 → S2.1 1 37 0 = k → F2 k (Sum.inl none) S2) → sl las S F
theorem op_axle {S : Sto} (hI : InvS S) (r x : Int32) : OpI s_L_axle s_X7_axle [aR 0 0, aI r, aI x, aR 12 0] [aR 1 0, aI r, aI x] S := by
  intro F F2 hF hF2
  have hr : ref S S := ref.rf hI
  by_cases hk : knX S r x
  · refine ⟨[aR 0 0, aI r, aI x], rfl, rfl, rfl, hI.1, fun z => absurd hk z, fun _ => hF _ _ ⟨rfl, rfl, S, hr, fun z => absurd hk z, fun _ => hF2 _ _ _ ((hI.j _).last 0) last_v fun _ => rfl⟩⟩
  · refine ⟨[aR 0 0, aI r, aI x], rfl, rfl, rfl, hI.1, fun _ => hF _ _ ⟨rfl, rfl, S, hr, fun _ => hF2 _ _ _ (hI.last 1) last_v fun z => absurd z one0, fun z => absurd z hk⟩, fun z => absurd z hk⟩
theorem op_greatest {S : Sto} (hI : InvS S) (d r x : Int32) : OpI s_L_greatest s_X7_greatest [aR 0 0, aI d, aI r, aI x, aR 12 0] [aR 1 0, aI d, aI r, aI x] S := by
  intro F F2 hF hF2
  have hr : ref S S := ref.rf hI
  by_cases hk : knG S d r
  · refine ⟨[aR 0 0, aI d, aI r, aI x], rfl, rfl, rfl, hI.1, fun z => absurd hk z, fun _ => hF _ _ ⟨rfl, rfl, S, hr, fun z => absurd hk z, fun _ => hF2 _ _ _ ((hI.j _).last 0) last_v fun _ => rfl⟩⟩
  · refine ⟨[aR 0 0, aI d, aI r, aI x], rfl, rfl, rfl, hI.1, fun _ => hF _ _ ⟨rfl, rfl, S, hr, fun _ => hF2 _ _ _ (hI.last 1) last_v fun z => absurd z one0, fun z => absurd z hk⟩, fun z => absurd z hk⟩
theorem op_greatestAnew {S : Sto} (hI : InvS S) (d r x : Int32) : OpI s_L_greatestAnew s_X7_greatestAnew [aR 0 0, aI d, aI r, aI x, aR 12 0] [aR 1 0, aI d, aI r, aI x] S := by
  intro F F2 hF hF2
  have hr : ref S S := ref.rf hI
  by_cases hk : knG S d r
  · have hm := greatH_mir hI.1 (nm_lt hk.1 (by have := hI.1.2.1.1; omega)) (nm_lt hk.2 (by have := hI.1.2.1.2.2.1; omega)) x
    refine ⟨[aR 0 0, aI d, aI r, aI x], rfl, rfl, rfl, hI.1, fun z => absurd hk z, fun _ => hF _ _ ⟨rfl, rfl, S, hr, fun z => absurd hk z, fun _ => hF2 _ _ _ ((hI.j _).last 0) last_v fun _ => by rw [← hm]; rfl⟩⟩
  · refine ⟨[aR 0 0, aI d, aI r, aI x], rfl, rfl, rfl, hI.1, fun _ => hF _ _ ⟨rfl, rfl, S, hr, fun _ => hF2 _ _ _ (hI.last 1) last_v fun z => absurd z one0, fun z => absurd z hk⟩, fun z => absurd z hk⟩
theorem two0 : ¬ (2 : Int32) = 0 := by decide
theorem three0 : ¬ (3 : Int32) = 0 := by decide
theorem op_why {S : Sto} (hI : InvS S) (r d t : Int32) : OpI s_L_why s_X7_why [aR 0 0, aI r, aI d, aI t, aR 12 0] [aR 1 0, aI r, aI d, aI t] S := by
  intro F F2 hF hF2
  have hr : ref S S := ref.rf hI
  by_cases hk : knY S r d
  · by_cases hf : rg t 0 9999
    · exact ⟨[aR 0 0, aI r, aI d, aI t], rfl, rfl, rfl, hI.1, fun z => absurd hk z, fun _ z => absurd hf z, fun _ _ => hF _ _ ⟨rfl, rfl, S, hr, fun z => absurd hk z, fun _ z => absurd hf z, fun _ _ => hF2 _ _ _ ((hI.j _).last 0) last_v fun _ => rfl⟩⟩
    · exact ⟨[aR 0 0, aI r, aI d, aI t], rfl, rfl, rfl, hI.1, fun z => absurd hk z, fun _ _ => hF _ _ ⟨rfl, rfl, S, hr, fun z => absurd hk z, fun _ _ => hF2 _ _ _ (hI.last 2) last_v fun z => absurd z two0, fun _ z => absurd z hf⟩, fun _ z => absurd z hf⟩
  · exact ⟨[aR 0 0, aI r, aI d, aI t], rfl, rfl, rfl, hI.1, fun _ => hF _ _ ⟨rfl, rfl, S, hr, fun _ => hF2 _ _ _ (hI.last 1) last_v fun z => absurd z one0, fun z => absurd z hk, fun z => absurd z hk⟩, fun z => absurd z hk, fun z => absurd z hk⟩
theorem op_rigIs {S : Sto} (hI : InvS S) (r w : Int32) : OpI s_L_rigIs s_X7_rigIs [aR 0 0, aI r, aI w, aR 12 0] [aR 1 0, aI r, aI w] S := by
  intro F F2 hF hF2
  have hr : ref S S := ref.rf hI
  by_cases hk : nm r (nI (S.2.2 22))
  · by_cases hf : rg w 0 4
    · exact ⟨[aR 0 0, aI r, aI w], rfl, rfl, rfl, hI.1, fun z => absurd hk z, fun _ z => absurd hf z, fun _ _ => hF _ _ ⟨rfl, rfl, S, hr, fun z => absurd hk z, fun _ z => absurd hf z, fun _ _ => hF2 _ _ _ ((hI.j _).last 0) last_v fun _ => rfl⟩⟩
    · exact ⟨[aR 0 0, aI r, aI w], rfl, rfl, rfl, hI.1, fun z => absurd hk z, fun _ _ => hF _ _ ⟨rfl, rfl, S, hr, fun z => absurd hk z, fun _ _ => hF2 _ _ _ (hI.last 2) last_v fun z => absurd z two0, fun _ z => absurd z hf⟩, fun _ z => absurd z hf⟩
  · exact ⟨[aR 0 0, aI r, aI w], rfl, rfl, rfl, hI.1, fun _ => hF _ _ ⟨rfl, rfl, S, hr, fun _ => hF2 _ _ _ (hI.last 1) last_v fun z => absurd z one0, fun z => absurd z hk, fun z => absurd z hk⟩, fun z => absurd z hk, fun z => absurd z hk⟩
theorem op_arrives {S : Sto} (hI : InvS S) (r f t n : Int32) : OpI s_L_arrives s_X7_arrives [aR 0 0, aI r, aI f, aI t, aI n, aR 12 0] [aR 1 0, aI r, aI f, aI t, aI n] S := by
  intro F F2 hF hF2
  have hr : ref S S := ref.rf hI
  by_cases hk : knA S r f t
  · by_cases hf : tenA n
    · refine ⟨[aR 0 0, aI r, aI f, aI t, aI n], rfl, rfl, rfl, hI.1, fun z => absurd hk z, fun _ z => absurd hf z, fun _ _ S1 hO => hF _ _ ⟨rfl, rfl, S, ?_, fun z => absurd hk z, fun _ z => absurd hf z, fun _ _ S2 hN => hF2 _ _ _ ?_ ?_ fun _ => ?_⟩⟩
      · refine ⟨hI, fun f9 _ => ?_, fun a ha => hO.a a (by omega), ?_⟩
        · show S1.1 1 f9 = S.1 1 f9
          rw [hO.k 1 (by decide)]
        · show S1.1 11 1 = S.1 11 1
          rw [hO.k 11 (by decide)]
      · refine hI.same ?_ fun k f9 i q => ?_
        · rw [hN.1]
          show S1.2.2 = _
          rw [hO.1]
        · rw [hN.2 k f9 i fun z => q (Or.inr (Or.inr z))]
          refine (wrI_ne fun z => q (Or.inl ⟨z.1, z.2.1⟩)).trans ?_
          exact hO.2 k f9 i fun z => q (Or.inr (Or.inl z))
      · rw [hN.2 1 37 0 fun z => absurd z.1 (by decide)]
        exact last_v
      · rw [hN.1]
        rfl
    · exact ⟨[aR 0 0, aI r, aI f, aI t, aI n], rfl, rfl, rfl, hI.1, fun z => absurd hk z, fun _ _ => hF _ _ ⟨rfl, rfl, S, hr, fun z => absurd hk z, fun _ _ => hF2 _ _ _ (hI.last 2) last_v fun z => absurd z two0, fun _ z => absurd z hf⟩, fun _ z => absurd z hf⟩
  · exact ⟨[aR 0 0, aI r, aI f, aI t, aI n], rfl, rfl, rfl, hI.1, fun _ => hF _ _ ⟨rfl, rfl, S, hr, fun _ => hF2 _ _ _ (hI.last 1) last_v fun z => absurd z one0, fun z => absurd z hk, fun z => absurd z hk⟩, fun z => absurd z hk, fun z => absurd z hk⟩
