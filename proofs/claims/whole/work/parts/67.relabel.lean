/-! BOTH OBJECTS STAND: the class's and the model's, under their names -/
def SF : Sto := (fun k f i => if k = 0 then cX.1 17 f i else if k = 1 then cX.1 18 f i else cX.1 k f i, 0, fun k => if k = 0 then 1 else if k = 1 then 1 else if k = 12 then 1 else if k = 17 then 0 else if k = 18 then 0 else cX.2.2 k)
def aF (α : Nat → Nat → Nat) (q : Nat) : Nat → Nat → Nat := fun k i => if k = 0 then α 17 i else if k = 1 then α 18 i else if k = 12 then q else α k i
theorem aF_o {α : Nat → Nat → Nat} {q k i : Nat} (h : k ≠ 0 ∧ k ≠ 1 ∧ k ≠ 12) : aF α q k i = α k i := by
  unfold aF
  rw [if_neg h.1, if_neg h.2.1, if_neg h.2.2]
theorem SF_n {k : Nat} (h : k ≠ 0 ∧ k ≠ 1 ∧ k ≠ 12 ∧ k ≠ 17 ∧ k ≠ 18) : SF.2.2 k = cX.2.2 k := by
  show (if k = 0 then 1 else if k = 1 then 1 else if k = 12 then 1 else if k = 17 then 0 else if k = 18 then 0 else cX.2.2 k) = _
  rw [if_neg h.1, if_neg h.2.1, if_neg h.2.2.1, if_neg h.2.2.2.1, if_neg h.2.2.2.2]
def tl (k : Nat) : Nat := if k = 0 then 17 else if k = 1 then 18 else k
theorem SF_val {α : Nat → Nat → Nat} {h : HT} {q k i : Nat} (hl : Lv h SF k i) : (k = 12 ∧ i = 0) ∨ (((k = 0 ∧ i = 0) ∨ (k = 1 ∧ i = 0) ∨ k = 10 ∨ k = 11 ∨ k = 13 ∨ k = 15) ∧ Lv h cX (tl k) i ∧ adr (aF α q) h k i = adr α h (tl k) i) := by
  rcases Lv_un hl with ⟨rfl, h1, h2⟩ | ⟨h1, h2, h3⟩
  · refine Or.inr ⟨by omega, ?_, rfl⟩
    show Lv h cX 15 i
    rw [Lv, if_pos rfl]
    exact ⟨h1, h2⟩
  · rcases h2 with h2 | h2
    · rcases obK_or h2 with rfl | rfl | rfl | rfl | rfl | rfl | rfl | rfl | rfl | rfl | rfl | rfl
      · have h3' : i < 1 := h3
        obtain rfl : i = 0 := by omega
        exact Or.inr ⟨by omega, Lv_of (k := 17) (Or.inl rfl) (show 0 < 1 by decide), rfl⟩
      · have h3' : i < 1 := h3
        obtain rfl : i = 0 := by omega
        exact Or.inr ⟨by omega, Lv_of (k := 18) (Or.inl rfl) (show 0 < 1 by decide), rfl⟩
      all_goals exact absurd h3 (Nat.not_lt_zero i)
    · rcases ar_or h2 with rfl | rfl | rfl | rfl
      · exact Or.inr ⟨by omega, Lv_of (k := 10) (Or.inr rfl) h3, rfl⟩
      · exact Or.inr ⟨by omega, Lv_of (k := 11) (Or.inr rfl) h3, rfl⟩
      · have h3' : i < 1 := h3
        exact Or.inl ⟨rfl, by omega⟩
      · exact Or.inr ⟨by omega, Lv_of (k := 13) (Or.inr rfl) h3, rfl⟩
set_option maxRecDepth 20000 in
theorem fs_0 {α : Nat → Nat → Nat} {q : Nat} : fs (aF α q) SF 0 0 = fs α cX 17 0 := by
  refine List.map_congr_left fun f hf => ?_
  have hf2 : f < 10 := List.mem_range.mp hf
  have h10 : f = 0 ∨ f = 1 ∨ f = 2 ∨ f = 3 ∨ f = 4 ∨ f = 5 ∨ f = 6 ∨ f = 7 ∨ f = 8 ∨ f = 9 := by omega
  rcases h10 with rfl | rfl | rfl | rfl | rfl | rfl | rfl | rfl | rfl | rfl <;> rfl
set_option maxRecDepth 20000 in
theorem fs_1 {α : Nat → Nat → Nat} {q : Nat} : fs (aF α q) SF 1 0 = fs α cX 18 0 := by
  refine List.map_congr_left fun f hf => ?_
  have hf2 : f < 38 := List.mem_range.mp hf
  have h19 : f = 0 ∨ f = 1 ∨ f = 2 ∨ f = 3 ∨ f = 4 ∨ f = 5 ∨ f = 6 ∨ f = 7 ∨ f = 8 ∨ f = 9 ∨ f = 10 ∨ f = 11 ∨ f = 12 ∨ f = 13 ∨ f = 14 ∨ f = 15 ∨ f = 16 ∨ f = 17 ∨ f = 18 ∨ 19 ≤ f := by omega
  rcases h19 with rfl | rfl | rfl | rfl | rfl | rfl | rfl | rfl | rfl | rfl | rfl | rfl | rfl | rfl | rfl | rfl | rfl | rfl | rfl | hg
  case inr =>
    have h38 : f = 19 ∨ f = 20 ∨ f = 21 ∨ f = 22 ∨ f = 23 ∨ f = 24 ∨ f = 25 ∨ f = 26 ∨ f = 27 ∨ f = 28 ∨ f = 29 ∨ f = 30 ∨ f = 31 ∨ f = 32 ∨ f = 33 ∨ f = 34 ∨ f = 35 ∨ f = 36 ∨ f = 37 := by omega
    rcases h38 with rfl | rfl | rfl | rfl | rfl | rfl | rfl | rfl | rfl | rfl | rfl | rfl | rfl | rfl | rfl | rfl | rfl | rfl | rfl <;> rfl
  all_goals rfl
theorem tl_inj {k k' : Nat} (h1 : k = 0 ∨ k = 1 ∨ k = 10 ∨ k = 11 ∨ k = 13 ∨ k = 15) (h2 : k' = 0 ∨ k' = 1 ∨ k' = 10 ∨ k' = 11 ∨ k' = 13 ∨ k' = 15) (h : tl k = tl k') : k = k' := by
  unfold tl at h
  rcases h1 with rfl | rfl | rfl | rfl | rfl | rfl <;> rcases h2 with rfl | rfl | rfl | rfl | rfl | rfl <;> first | rfl | exact absurd h (by decide)
theorem tk_or {k i : Nat} (h : (k = 0 ∧ i = 0) ∨ (k = 1 ∧ i = 0) ∨ k = 10 ∨ k = 11 ∨ k = 13 ∨ k = 15) : k = 0 ∨ k = 1 ∨ k = 10 ∨ k = 11 ∨ k = 13 ∨ k = 15 := by omega
theorem SF_k {k : Nat} (h : k = 2 ∨ k = 3 ∨ k = 4 ∨ k = 5 ∨ k = 6) (α : Nat → Nat → Nat) (q j : Nat) : aF α q k j = α k j := aF_o (by omega)
theorem Rep.start {g : GT} {α : Nat → Nat → Nat} {h : HT} {H H1 : Heap} (hR : Rep g α h cX H) (hb : g.2.2.2 ≤ H.size) (e1 : H1[H.size]? = some (arrV g.2.1.2.2.1 1 (fun _ => .long 0))) (o1 : ∀ q, q < H.size → H1[q]? = H[q]?) : Rep g (aF α H.size) h SF H1 := by
  have keep : ∀ {k i : Nat}, Lv h cX k i → va_at g.1 vwCl (adr α h k i, ent g α h cX k i) H1 := fun hl => (hR.1 _ _ hl).kept (o1 _ (hR.lt hl))
  have n20 : ∀ i, SF.2.2 (20 + i) = cX.2.2 (20 + i) := fun i => SF_n (by omega)
  refine ⟨fun k i hl => ?_, fun k i k' i' hl hl' he => ?_, fun k i hl => ?_, fun k i f hk hi hf hne => ?_, fun i hi => ?_⟩
  · rcases SF_val (α := α) (q := H.size) hl with ⟨rfl, rfl⟩ | ⟨hk, hl2, ha⟩
    · have e2 : (fun j : Nat => Value.long (if j = 0 ∧ (0 : Nat) = 0 then SF.2.1 else 0)) = fun _ => Value.long 0 := by
        funext j
        split <;> rfl
      show H1[H.size]? = some (arrV g.2.1.2.2.1 1 (fun j : Nat => Value.long (if j = 0 ∧ (0 : Nat) = 0 then SF.2.1 else 0)))
      rw [e2]
      exact e1
    · rw [ha]
      have hold := keep hl2
      rcases hk with ⟨rfl, rfl⟩ | ⟨rfl, rfl⟩ | rfl | rfl | rfl | rfl
      · have e : ent g (aF α H.size) h SF 0 0 = ent g α h cX 17 0 := by
          rw [ent_ob rfl, ent_ob rfl, fs_0]
          rfl
        rw [e]
        exact hold
      · have e : ent g (aF α H.size) h SF 1 0 = ent g α h cX 18 0 := by
          rw [ent_ob rfl, ent_ob rfl, fs_1]
          rfl
        rw [e]
        exact hold
      · exact hold
      · exact hold
      · have e : ent g (aF α H.size) h SF 13 i = ent g α h cX 13 i := by
          rw [ent_13, ent_13, n20]
        rw [e]
        exact hold
      · have e : ent g (aF α H.size) h SF 15 i = ent g α h cX 15 i := by
          rw [ent_15, ent_15, n20]
          congr 7
          funext j
          rw [SF_k (lk_or i)]
        rw [e]
        exact hold
  · rcases SF_val (α := α) (q := H.size) hl with ⟨rfl, rfl⟩ | ⟨hk, hl2, ha⟩
    · rcases SF_val (α := α) (q := H.size) hl' with ⟨rfl, rfl⟩ | ⟨hk', hl2', ha'⟩
      · exact ⟨rfl, rfl⟩
      · rw [ha'] at he
        have h9 := hR.lt hl2'
        have he' : H.size = adr α h (tl k') i' := he
        omega
    · rcases SF_val (α := α) (q := H.size) hl' with ⟨rfl, rfl⟩ | ⟨hk', hl2', ha'⟩
      · rw [ha] at he
        have h9 := hR.lt hl2
        have he' : adr α h (tl k) i = H.size := he
        omega
      · rw [ha, ha'] at he
        obtain ⟨h8, h9⟩ := hR.2.1 _ _ _ _ hl2 hl2' he
        exact ⟨tl_inj (tk_or hk) (tk_or hk') h8, h9⟩
  · rcases SF_val (α := α) (q := H.size) hl with ⟨rfl, rfl⟩ | ⟨hk, hl2, ha⟩
    · exact hb
    · rw [ha]
      exact hR.2.2.1 _ _ hl2
  · rcases SF_val (α := α) (h := h) (q := H.size) (Lv_of (Or.inl hk) hi) with ⟨rfl, -⟩ | ⟨h9, -, -⟩
    · exact absurd hk (by decide)
    · rcases h9 with ⟨rfl, rfl⟩ | ⟨rfl, rfl⟩ | rfl | rfl | rfl | rfl
      · right
        have h10 : f = 0 ∨ f = 1 ∨ f = 2 ∨ f = 3 ∨ f = 4 ∨ f = 5 ∨ f = 6 ∨ f = 7 ∨ f = 8 ∨ f = 9 := by
          have : f < 10 := hf
          omega
        have hall : ∀ f, f < 9 → LvR SF (fR 0 f 0).1 (fR 0 f 0).2 := by
          intro f hf
          have h10 : f = 0 ∨ f = 1 ∨ f = 2 ∨ f = 3 ∨ f = 4 ∨ f = 5 ∨ f = 6 ∨ f = 7 ∨ f = 8 := by omega
          rcases h10 with rfl | rfl | rfl | rfl | rfl | rfl | rfl | rfl | rfl <;> exact Or.inr (Or.inr ⟨Or.inr rfl, by decide⟩)
        by_cases h11 : f < 9
        · exact hall f h11
        · obtain rfl : f = 9 := by omega
          exact absurd rfl hne
      · right
        have hall : ∀ f, f < 38 → (ft 1 f).1 ≠ 0 → ((fR 1 f 0).1 = 10 ∨ (fR 1 f 0).1 = 11) ∧ (fR 1 f 0).2 < SF.2.2 (fR 1 f 0).1 := by decide +kernel
        obtain ⟨h12, h13⟩ := hall f hf hne
        refine Or.inr (Or.inr ⟨Or.inr ?_, h13⟩)
        rcases h12 with h12 | h12 <;> rw [h12] <;> rfl
      all_goals exact absurd hk (by decide)
  · have hi5 : i < 5 := hi
    have h9 := hR.2.2.2.2 i (show i < 5 from hi)
    rw [n20, SF_n (by have := lk_or i; omega)]
    exact h9
theorem nz {n : Nat} (h : n = 0) {i : Nat} (hi : i < n) : False := by omega
set_option maxRecDepth 20000 in
theorem inv_SF : InvS SF := by
  have z20 : SF.2.2 20 = 0 := rfl
  have z21 : SF.2.2 21 = 0 := rfl
  have z22 : SF.2.2 22 = 0 := rfl
  have z23 : SF.2.2 23 = 0 := rfl
  have z24 : SF.2.2 24 = 0 := rfl
  have e10 : ∀ f i, f ≠ 1 → f ≠ 28 → SF.1 10 f i = 0 := fun f i h1 h2 => by
    show (if 10 = 10 ∧ f = 28 ∧ i < 4 then (99999 : Int32) else (can 31 4 5 1 1 9 37 1).1 10 f i) = 0
    rw [if_neg fun z => h2 z.2.1, can_at, if_neg fun z => absurd z.1 (by decide), if_neg fun z => absurd z.1 (by decide), if_neg fun z => h1 z.2.1]
  have e11 : ∀ f i, SF.1 11 f i = 0 := fun f i => by
    show (if (11 : Nat) = 10 ∧ f = 28 ∧ i < 4 then (99999 : Int32) else (can 31 4 5 1 1 9 37 1).1 11 f i) = 0
    rw [if_neg fun z => absurd z.1 (by decide), can_at, if_neg fun z => absurd z.1 (by decide), if_neg fun z => absurd z.1 (by decide), if_neg fun z => absurd z.1 (by decide)]
  have ea : ∀ i, SF.1 10 1 i = SF.1 10 28 i := fun i => by
    show (if (10 : Nat) = 10 ∧ (1 : Nat) = 28 ∧ i < 4 then (99999 : Int32) else (can 31 4 5 1 1 9 37 1).1 10 1 i) = (if (10 : Nat) = 10 ∧ (28 : Nat) = 28 ∧ i < 4 then (99999 : Int32) else (can 31 4 5 1 1 9 37 1).1 10 28 i)
    rw [if_neg fun z => absurd z.2.1 (by decide), can_at, can_at, if_neg fun z => absurd z.1 (by decide), if_neg fun z => absurd z.1 (by decide)]
    by_cases h : i < 4
    · rw [if_pos ⟨rfl, rfl, h, rfl⟩, if_pos ⟨rfl, rfl, h⟩]
    · rw [if_neg fun z => h z.2.2.1, if_neg fun z => h z.2.2, if_neg fun z => absurd z.1 (by decide), if_neg fun z => absurd z.1 (by decide), if_neg fun z => absurd z.2.1 (by decide)]
  refine ⟨⟨rfl, ⟨by rw [z20]; omega, by rw [z21]; omega, by rw [z22]; omega, by rw [z23]; omega, by rw [z24]; omega⟩, ⟨rfl, rfl, rfl, rfl, rfl, rfl, rfl, rfl⟩, fun i hi => (nz z21 hi).elim, fun i hi => (nz z23 hi).elim, fun i hi => (nz z24 hi).elim, fun i hi => (nz z20 hi).elim, fun i hi => (nz z22 hi).elim⟩, ⟨rfl, rfl, rfl, rfl, rfl, rfl⟩, fun i hi => (nz z20 hi).elim, fun i _ => ⟨e10 _ _ (by decide) (by decide), e10 _ _ (by decide) (by decide), e10 _ _ (by decide) (by decide)⟩, fun i hi => (nz z21 hi).elim, fun i hi => (nz z23 hi).elim, fun i hi => (nz z24 hi).elim, fun i hi => (nz z22 hi).elim, fun i _ => ⟨e10 _ _ (by decide) (by decide), e10 _ _ (by decide) (by decide), e10 _ _ (by decide) (by decide), e10 _ _ (by decide) (by decide)⟩, fun i => ⟨?_, ea i⟩, fun i => ⟨?_, ?_⟩, ⟨0, rfl, by omega⟩⟩
  · rw [e10 _ _ (by decide) (by decide), e10 _ _ (by decide) (by decide)]
  · rw [e11, e11]
  · rw [e11]
    rfl
