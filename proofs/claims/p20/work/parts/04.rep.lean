/-! HOW THE WORLD CHANGES: reads, writes and new objects, as facts of Rep -/
theorem ob15 : obK 15 = false := rfl
theorem ar15 : arK 15 = false := rfl
theorem ob_ar {k : Nat} (h : obK k = true) : arK k = false := by
  rcases obK_or h with rfl | rfl | rfl | rfl | rfl | rfl | rfl | rfl | rfl | rfl <;> rfl
theorem ar_or {k : Nat} (h : arK k = true) : k = 10 ∨ k = 11 ∨ k = 12 ∨ k = 13 := by
  simp only [arK, Bool.or_eq_true, beq_iff_eq] at h
  omega
theorem ob_ne {k : Nat} (h : obK k = true ∨ arK k = true) : k ≠ 15 ∧ k ≠ 99 ∧ k ≠ 14 ∧ k < 20 := by
  rcases h with h | h
  · rcases obK_or h with rfl | rfl | rfl | rfl | rfl | rfl | rfl | rfl | rfl | rfl <;> decide
  · rcases ar_or h with rfl | rfl | rfl | rfl <;> decide
theorem Lv_of {h : HT} {S : Sto} {k i : Nat} (hk : obK k = true ∨ arK k = true) (hi : i < S.2.2 k) : Lv h S k i := by
  rw [Lv, if_neg (ob_ne hk).1]
  exact ⟨hk, hi⟩
theorem Lv_un {h : HT} {S : Sto} {k i : Nat} (hl : Lv h S k i) : (k = 15 ∧ i < S.2.2 13 ∧ (h i).1 ≠ 0) ∨ (k ≠ 15 ∧ (obK k = true ∨ arK k = true) ∧ i < S.2.2 k) := by
  rw [Lv] at hl
  split at hl
  · exact Or.inl ⟨by assumption, hl⟩
  · exact Or.inr ⟨by assumption, hl⟩
theorem adr_of {α : Nat → Nat → Nat} {h : HT} {k i : Nat} (hk : obK k = true ∨ arK k = true) : adr α h k i = α k i := by rw [adr, if_neg (ob_ne hk).1]
theorem LvR_of {S : Sto} {k i : Nat} (h : LvR S k i) (hk : obK k = true ∨ arK k = true) : i < S.2.2 k := by
  rcases h with h | h | h
  · exact absurd h (ob_ne hk).2.1
  · exact absurd h (ob_ne hk).2.2.1
  · exact h.2
theorem ent_ob {g : GT} {α : Nat → Nat → Nat} {h : HT} {S : Sto} {k i : Nat} (hk : obK k = true) : ent g α h S k i = .inr (ci k, fs α S k i) := by rw [ent, if_pos hk]
theorem ent_10 {g : GT} {α : Nat → Nat → Nat} {h : HT} {S : Sto} {i : Nat} : ent g α h S 10 i = .inl (g.2.1.1, al 10 i, .inl (S.1 10 i)) := rfl
theorem ent_11 {g : GT} {α : Nat → Nat → Nat} {h : HT} {S : Sto} {i : Nat} : ent g α h S 11 i = .inl (g.2.1.2.1, al 11 i, .inl (S.1 11 i)) := rfl
theorem ent_12 {g : GT} {α : Nat → Nat → Nat} {h : HT} {S : Sto} {i : Nat} : ent g α h S 12 i = .inl (g.2.1.2.2.1, 25, .inr (.inl (S.2.1 i))) := rfl
theorem ent_13 {g : GT} {α : Nat → Nat → Nat} {h : HT} {S : Sto} {i : Nat} : ent g α h S 13 i = .inr (0, [.int (h i).2.2, .ref (if (h i).1 = 0 then g.2.2.1 else (h i).2.1), .int (nI (S.2.2 (20 + i)))]) := rfl
theorem ent_15 {g : GT} {α : Nat → Nat → Nat} {h : HT} {S : Sto} {i : Nat} : ent g α h S 15 i = .inl (g.2.1.2.2.2.1, (h i).1, .inr (.inr (.inr (.inr (fun j => if j < S.2.2 (20 + i) then some (α (lk i) j) else none))))) := rfl
theorem fs_len {α : Nat → Nat → Nat} {S : Sto} {k i : Nat} : (fs α S k i).length = nf k := by simp [fs]
theorem fs_get {α : Nat → Nat → Nat} {S : Sto} {k i f : Nat} (hf : f < nf k) : (fs α S k i)[f]? = some (fv α S k i f) := by simp [fs, hf]
theorem fs_V {α : Nat → Nat → Nat} {S : Sto} {k i f : Nat} (hf : f < nf k) : vp_V (fs α S k i) f = fv α S k i f := by simp [vp_V, fs, hf]
theorem va_P1 {D : va_G} {cl : List vw_C} {q : Nat × va_E} {H : Heap} (h : va_at D cl q H) : va_P D cl [q] H := by
  intro k q' hk
  have hz : k < 1 := (List.getElem?_eq_some_iff.mp hk).1
  rw [show k = 0 by omega] at hk
  cases hk
  exact h
/-- fewer: the parts of Rep by name -/
theorem Rep.at {g : GT} {α : Nat → Nat → Nat} {h : HT} {S : Sto} {H : Heap} (R : Rep g α h S H) {k i : Nat} (hl : Lv h S k i) : va_at g.1 vwCl (adr α h k i, ent g α h S k i) H := R.1 k i hl
theorem Rep.ob {g : GT} {α : Nat → Nat → Nat} {h : HT} {S : Sto} {H : Heap} (R : Rep g α h S H) {k i : Nat} (hk : obK k = true) (hi : i < S.2.2 k) : va_P g.1 vwCl [(α k i, .inr (ci k, fs α S k i))] H := by
  have h1 := R.1 k i (Lv_of (Or.inl hk) hi)
  rw [adr_of (Or.inl hk), ent_ob hk] at h1
  exact va_P1 h1
theorem Rep.lt {g : GT} {α : Nat → Nat → Nat} {h : HT} {S : Sto} {H : Heap} (R : Rep g α h S H) {k i : Nat} (hl : Lv h S k i) : adr α h k i < H.size := (R.1 k i hl).lt
theorem Rep.cong {g : GT} {α : Nat → Nat → Nat} {h : HT} {S : Sto} {H : Heap} (R : Rep g α h S H) {H1 : Heap} (hq : ∀ q : Nat, q < H.size → AB g q → H1[q]? = H[q]?) : Rep g α h S H1 :=
  ⟨fun k i hl => (R.1 k i hl).kept (hq _ (R.lt hl) (R.2.2.1 k i hl)), R.2⟩
/-- one object is written -/
theorem Rep.upd {g : GT} {α : Nat → Nat → Nat} {h : HT} {S S' : Sto} {H H1 : Heap} (R : Rep g α h S H) {k i : Nat} (hl : Lv h S k i) (hat : va_at g.1 vwCl (adr α h k i, ent g α h S' k i) H1)
    (hoth : ∀ q, q ≠ adr α h k i → H1[q]? = H[q]?) (hN : S'.2.2 = S.2.2) (hent : ∀ k' i', Lv h S k' i' → ¬ (k' = k ∧ i' = i) → ent g α h S' k' i' = ent g α h S k' i')
    (hcl : ∀ k i f, obK k = true → i < S.2.2 k → f < nf k → (ft k f).1 ≠ 0 → ((ft k f).1 ≠ 1 ∧ S'.1 k f i = 0) ∨ LvR S (fR k f i).1 (fR k f i).2) : Rep g α h S' H1 := by
  have e1 : ∀ k' i', Lv h S' k' i' → Lv h S k' i' := fun k' i' h1 => by
    rw [Lv, hN] at h1
    exact h1
  refine ⟨fun k' i' h1 => ?_, fun k1 i1 k2 i2 h1 h2 he => R.2.1 _ _ _ _ (e1 _ _ h1) (e1 _ _ h2) he, fun k' i' h1 => R.2.2.1 _ _ (e1 _ _ h1), ?_, ?_⟩
  · by_cases he : k' = k ∧ i' = i
    · obtain ⟨rfl, rfl⟩ := he
      exact hat
    · rw [hent k' i' (e1 _ _ h1) he]
      refine (R.1 k' i' (e1 _ _ h1)).kept (hoth _ fun hq => he ?_)
      exact R.2.1 _ _ _ _ (e1 _ _ h1) hl hq
  · intro k' i' f h1 h2 h3 h4
    rw [hN] at h2
    have h5 := hcl k' i' f h1 h2 h3 h4
    unfold LvR at h5 ⊢
    rw [hN]
    exact h5
  · rw [hN]
    exact R.2.2.2.2
theorem wrI_at (S : Sto) (k f i : Nat) (v : Int32) (k' f' i' : Nat) : (wrI S k f i v).1 k' f' i' = if k' = k ∧ f' = f ∧ i' = i then v else S.1 k' f' i' := by
  unfold wrI
  by_cases h : k' = k ∧ f' = f
  · obtain ⟨rfl, rfl⟩ := h
    simp [_root_.Jvm.Pilot.@@N@@.upd]
  · have h2 : ¬ (k' = k ∧ f' = f ∧ i' = i) := fun q => h ⟨q.1, q.2.1⟩
    simp [h, h2]
theorem wrI_ne {S : Sto} {k f i : Nat} {v : Int32} {k' f' i' : Nat} (h : ¬ (k' = k ∧ f' = f ∧ i' = i)) : (wrI S k f i v).1 k' f' i' = S.1 k' f' i' := by rw [wrI_at, if_neg h]
theorem wrI_row {S : Sto} {k f i : Nat} {v : Int32} {k' f' : Nat} (h : ¬ (k' = k ∧ f' = f)) : (wrI S k f i v).1 k' f' = S.1 k' f' := by
  funext i'
  exact wrI_ne fun q => h ⟨q.1, q.2.1⟩
theorem fv_wrI {α : Nat → Nat → Nat} {S : Sto} {k f i : Nat} {v : Int32} {k' i' f' : Nat} (h : ¬ (k' = k ∧ f' = f ∧ i' = i)) : fv α (wrI S k f i v) k' i' f' = fv α S k' i' f' := by
  unfold fv
  rw [wrI_ne h]
theorem ent_wrI {g : GT} {α : Nat → Nat → Nat} {h : HT} {S : Sto} {k f i : Nat} {v : Int32} {k' i' : Nat} (hk : obK k = true) (hne : ¬ (k' = k ∧ i' = i)) : ent g α h (wrI S k f i v) k' i' = ent g α h S k' i' := by
  unfold ent
  have e1 : fs α (wrI S k f i v) k' i' = fs α S k' i' := List.map_congr_left fun f' _ => fv_wrI fun q => hne ⟨q.1, q.2.2⟩
  have e2 : (wrI S k f i v).1 10 i' = S.1 10 i' := wrI_row fun q => by rw [← q.1] at hk; exact absurd hk (by decide)
  have e3 : (wrI S k f i v).1 11 i' = S.1 11 i' := wrI_row fun q => by rw [← q.1] at hk; exact absurd hk (by decide)
  rw [e1, e2, e3]
  rfl
theorem ent_wrA {g : GT} {α : Nat → Nat → Nat} {h : HT} {S : Sto} {k a j : Nat} {v : Int32} {k' i' : Nat} (hk : k = 10 ∨ k = 11) (hne : ¬ (k' = k ∧ i' = a)) : ent g α h (wrI S k a j v) k' i' = ent g α h S k' i' := by
  by_cases hob : obK k' = true
  · rw [ent_ob hob, ent_ob hob]
    have e1 : fs α (wrI S k a j v) k' i' = fs α S k' i' := List.map_congr_left fun f' _ => fv_wrI fun q => by
      rw [q.1] at hob
      rcases hk with rfl | rfl <;> exact absurd hob (by decide)
    rw [e1]
  · unfold ent
    rw [if_neg hob, if_neg hob]
    by_cases h10 : k' = 10
    · subst h10
      have e : (wrI S k a j v).1 10 i' = S.1 10 i' := wrI_row fun q => hne ⟨q.1, q.2⟩
      rw [if_pos rfl, if_pos rfl, e]
    · by_cases h11 : k' = 11
      · subst h11
        have e : (wrI S k a j v).1 11 i' = S.1 11 i' := wrI_row fun q => hne ⟨q.1, q.2⟩
        rw [if_neg h10, if_neg h10, if_pos rfl, if_pos rfl, e]
      · rw [if_neg h10, if_neg h10, if_neg h11, if_neg h11]
        rfl
