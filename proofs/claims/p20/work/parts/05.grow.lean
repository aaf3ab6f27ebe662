/-! NEW OBJECTS, and other names for the same addresses -/
abbrev AgR (S : Sto) (α α' : Nat → Nat → Nat) : Prop := ∀ k i, LvR S k i → α' k i = α k i
theorem fv_ext {α α' : Nat → Nat → Nat} {S : Sto} (ha : AgR S α α') {k i f : Nat} (hc : (ft k f).1 ≠ 0 → ((ft k f).1 ≠ 1 ∧ S.1 k f i = 0) ∨ LvR S (fR k f i).1 (fR k f i).2) : fv α' S k i f = fv α S k i f := by
  unfold fv
  unfold fR at hc
  rcases hft : ft k f with ⟨t, a, b⟩
  rw [hft] at hc
  dsimp only at hc
  rcases t with _ | _ | _ | t
  · rfl
  · have h1 := hc (by decide)
    rcases h1 with h1 | h1
    · exact absurd rfl h1.1
    · rw [if_pos (by decide)] at h1
      show Value.ref _ = Value.ref _
      rw [ha _ _ h1]
  · show (if S.1 k f i = 0 then Value.null else Value.ref _) = (if S.1 k f i = 0 then Value.null else Value.ref _)
    by_cases h0 : S.1 k f i = 0
    · rw [if_pos h0, if_pos h0]
    · rw [if_neg h0, if_neg h0]
      rcases hc (by omega) with h1 | h1
      · exact absurd h1.2 h0
      · rw [if_pos (by omega)] at h1
        rw [ha _ _ h1]
  · show (if S.1 k f i = 0 then Value.null else Value.ref _) = (if S.1 k f i = 0 then Value.null else Value.ref _)
    by_cases h0 : S.1 k f i = 0
    · rw [if_pos h0, if_pos h0]
    · rw [if_neg h0, if_neg h0]
      rcases hc (by omega) with h1 | h1
      · exact absurd h1.2 h0
      · rw [if_neg (by omega)] at h1
        rw [ha _ _ h1]
theorem lk_ok {i : Nat} : obK (lk i) = true := by
  rcases i with _ | _ | _ | _ | i <;> rfl
theorem ent_ext {g : GT} {α α' : Nat → Nat → Nat} {h : HT} {S : Sto} {H : Heap} (R : Rep g α h S H) (ha : AgR S α α') {k i : Nat} (hl : Lv h S k i) : ent g α' h S k i = ent g α h S k i := by
  rcases Lv_un hl with ⟨rfl, h1, h2⟩ | ⟨h1, h2, h3⟩
  · rw [ent_15, ent_15]
    congr 7
    funext j
    by_cases hj : j < S.2.2 (20 + i)
    · rw [if_pos hj, if_pos hj, ha]
      exact Or.inr (Or.inr ⟨Or.inl lk_ok, Nat.lt_of_lt_of_le hj (R.2.2.2.2.1 i h1).2.1⟩)
    · rw [if_neg hj, if_neg hj]
  · rcases h2 with h2 | h2
    · rw [ent_ob h2, ent_ob h2]
      have e : fs α' S k i = fs α S k i := List.map_congr_left fun f hf => fv_ext ha fun h0 => R.2.2.2.1 k i f h2 h3 (List.mem_range.mp hf) h0
      rw [e]
    · rcases ar_or h2 with rfl | rfl | rfl | rfl <;> rfl
theorem adr_ext {α α' : Nat → Nat → Nat} {h : HT} {S : Sto} (ha : AgR S α α') {k i : Nat} (hl : Lv h S k i) : adr α' h k i = adr α h k i := by
  rcases Lv_un hl with ⟨rfl, h1, h2⟩ | ⟨h1, h2, h3⟩
  · rfl
  · rw [adr_of h2, adr_of h2]
    exact ha _ _ (Or.inr (Or.inr ⟨h2, h3⟩))
/-- the name of the object k, i is q -/
def al1 (α : Nat → Nat → Nat) (k i q : Nat) : Nat → Nat → Nat := fun k' i' => if k' = k ∧ i' = i then q else α k' i'
theorem al1_ne {α : Nat → Nat → Nat} {k i q k' i' : Nat} (h : ¬ (k' = k ∧ i' = i)) : al1 α k i q k' i' = α k' i' := if_neg h
theorem al1_eq {α : Nat → Nat → Nat} {k i q : Nat} : al1 α k i q k i = q := if_pos ⟨rfl, rfl⟩
theorem al1_ag {α : Nat → Nat → Nat} {S : Sto} {k q : Nat} (hk : obK k = true ∨ arK k = true) : AgR S α (al1 α k (S.2.2 k) q) := by
  intro k' i' hl
  refine al1_ne fun e => ?_
  obtain ⟨rfl, rfl⟩ := e
  exact Nat.lt_irrefl _ (LvR_of hl hk)
theorem bump_k {N : Nat → Nat} {k : Nat} : bump N k k = N k + 1 := if_pos rfl
theorem bump_ne {N : Nat → Nat} {k k' : Nat} (h : k' ≠ k) : bump N k k' = N k' := if_neg h
theorem bump_le {N : Nat → Nat} {k : Nat} (k' : Nat) : N k' ≤ bump N k k' := by
  unfold bump
  split
  · rename_i h
    subst h
    omega
  · omega
theorem LvR_le {S S' : Sto} (hN : ∀ k, S.2.2 k ≤ S'.2.2 k) {k i : Nat} (h : LvR S k i) : LvR S' k i := by
  rcases h with h | h | h
  · exact Or.inl h
  · exact Or.inr (Or.inl h)
  · exact Or.inr (Or.inr ⟨h.1, Nat.lt_of_lt_of_le h.2 (hN k)⟩)
/-- a new object, at the end of the heap -/
theorem Rep.grow {g : GT} {α : Nat → Nat → Nat} {h : HT} {S S' : Sto} {H H1 : Heap} (R : Rep g α h S H) {k : Nat} (hk : obK k = true ∨ (k = 10 ∨ k = 11 ∨ k = 12)) (hb : g.2.2.2 ≤ H.size)
    (hN : S'.2.2 = bump S.2.2 k) (hat : va_at g.1 vwCl (H.size, ent g (al1 α k (S.2.2 k) H.size) h S' k (S.2.2 k)) H1) (hoth : ∀ q, q < H.size → H1[q]? = H[q]?)
    (hent : ∀ k' i', Lv h S k' i' → ent g (al1 α k (S.2.2 k) H.size) h S' k' i' = ent g (al1 α k (S.2.2 k) H.size) h S k' i')
    (hcl : ∀ k' i f, obK k' = true → i < S'.2.2 k' → f < nf k' → (ft k' f).1 ≠ 0 → ((ft k' f).1 ≠ 1 ∧ S'.1 k' f i = 0) ∨ LvR S (fR k' f i).1 (fR k' f i).2) : Rep g (al1 α k (S.2.2 k) H.size) h S' H1 := by
  have hk2 : obK k = true ∨ arK k = true := by
    rcases hk with hk | rfl | rfl | rfl
    · exact Or.inl hk
    · exact Or.inr rfl
    · exact Or.inr rfl
    · exact Or.inr rfl
  have h13 : k ≠ 13 := by
    rcases hk with hk | rfl | rfl | rfl
    · rintro rfl
      exact absurd hk (by decide)
    · decide
    · decide
    · decide
  have hag : AgR S α (al1 α k (S.2.2 k) H.size) := al1_ag hk2
  have hS13 : S'.2.2 13 = S.2.2 13 := by rw [hN, bump_ne (fun e => h13 e.symm)]
  have hle : ∀ k', S.2.2 k' ≤ S'.2.2 k' := fun k' => by rw [hN]; exact bump_le k'
  have e1 : ∀ k' i', Lv h S' k' i' → (k' = k ∧ i' = S.2.2 k) ∨ Lv h S k' i' := by
    intro k' i' h1
    rcases Lv_un h1 with ⟨rfl, h2, h3⟩ | ⟨h2, h3, h4⟩
    · right
      rw [Lv, if_pos rfl]
      rw [hS13] at h2
      exact ⟨h2, h3⟩
    · by_cases e : k' = k
      · subst e
        rw [hN, bump_k] at h4
        by_cases e2 : i' = S.2.2 k'
        · exact Or.inl ⟨rfl, e2⟩
        · exact Or.inr (Lv_of h3 (by omega))
      · rw [hN, bump_ne e] at h4
        exact Or.inr (Lv_of h3 h4)
  have e2 : ∀ k' i', Lv h S k' i' → adr (al1 α k (S.2.2 k) H.size) h k' i' = adr α h k' i' := fun k' i' h1 => adr_ext hag h1
  have e3 : adr (al1 α k (S.2.2 k) H.size) h k (S.2.2 k) = H.size := by rw [adr_of hk2, al1_eq]
  refine ⟨fun k' i' h1 => ?_, fun k1 i1 k2 i2 h1 h2 he => ?_, fun k' i' h1 => ?_, fun k' i' f h1 h2 h3 h4 => ?_, fun i hi => ?_, ?_⟩
  · rcases e1 k' i' h1 with ⟨rfl, rfl⟩ | h2
    · rw [e3]
      exact hat
    · rw [e2 k' i' h2, hent k' i' h2, ent_ext R hag h2]
      exact (R.1 k' i' h2).kept (hoth _ (R.lt h2))
  · rcases e1 k1 i1 h1 with ⟨rfl, rfl⟩ | h3 <;> rcases e1 k2 i2 h2 with ⟨rfl, rfl⟩ | h4
    · exact ⟨rfl, rfl⟩
    · rw [e3, e2 k2 i2 h4] at he
      have := R.lt h4
      omega
    · rw [e3, e2 k1 i1 h3] at he
      have := R.lt h3
      omega
    · rw [e2 k1 i1 h3, e2 k2 i2 h4] at he
      exact R.2.1 _ _ _ _ h3 h4 he
  · rcases e1 k' i' h1 with ⟨rfl, rfl⟩ | h2
    · rw [e3]
      exact hb
    · rw [e2 k' i' h2]
      exact R.2.2.1 k' i' h2
  · rcases hcl k' i' f h1 h2 h3 h4 with h5 | h5
    · exact Or.inl h5
    · exact Or.inr (LvR_le hle h5)
  · rw [hS13] at hi
    have h9 := R.2.2.2.2.1 i hi
    have h20 : S'.2.2 (20 + i) = S.2.2 (20 + i) := by
      rw [hN, bump_ne]
      have := (ob_ne hk2).2.2.2
      omega
    rw [h20]
    exact ⟨h9.1, Nat.le_trans h9.2.1 (hle _), h9.2.2⟩
  · rw [al1_ne fun q => (ob_ne hk2).2.2.1 q.1.symm]
    exact R.2.2.2.2.2
theorem mkO_ne {S : Sto} {k k' f i : Nat} (h : ¬ (k' = k ∧ i = S.2.2 k)) : (mkO S k).1 k' f i = S.1 k' f i := by
  show (if k' = k then _root_.Jvm.Pilot.@@N@@.upd (S.1 k f) (S.2.2 k) 0 else S.1 k' f) i = _
  by_cases e : k' = k
  · subst e
    rw [if_pos rfl]
    exact if_neg fun q => h ⟨rfl, q⟩
  · rw [if_neg e]
theorem mkO_new {S : Sto} {k f : Nat} : (mkO S k).1 k f (S.2.2 k) = 0 := by
  show (if k = k then _root_.Jvm.Pilot.@@N@@.upd (S.1 k f) (S.2.2 k) 0 else S.1 k f) (S.2.2 k) = 0
  rw [if_pos rfl]
  exact if_pos rfl
theorem mkA_ne {S : Sto} {k k' f : Nat} (h : ¬ (k' = k ∧ f = S.2.2 k)) : (mkA S k).1 k' f = S.1 k' f := by
  show (if k' = k ∧ f = S.2.2 k then (fun _ => (0 : Int32)) else S.1 k' f) = _
  rw [if_neg h]
theorem mkA_new {S : Sto} {k : Nat} : (mkA S k).1 k (S.2.2 k) = fun _ => 0 := by
  show (if k = k ∧ S.2.2 k = S.2.2 k then (fun _ => (0 : Int32)) else S.1 k (S.2.2 k)) = _
  rw [if_pos ⟨rfl, rfl⟩]
