/-! BOTH OBJECTS STAND: the class's and the model's, under their names -/
def SF : Sto := (fun k f i => if k = 0 then cX.1 17 f i else if k = 1 then cX.1 18 f i else cX.1 k f i, 0, fun k => if k = 0 then 1 else if k = 1 then 1 else if k = 12 then 1 else if k = 17 then 0 else if k = 18 then 0 else cX.2.2 k)
def aF (α : Nat → Nat → Nat) (q : Nat) : Nat → Nat → Nat := fun k i => if k = 0 then α 17 i else if k = 1 then α 18 i else if k = 12 then q else α k i
theorem aF_o {α : Nat → Nat → Nat} {q k i : Nat} (h : k ≠ 0 ∧ k ≠ 1 ∧ k ≠ 12) : aF α q k i = α k i := by
  unfold aF
  rw [if_neg h.1, if_neg h.2.1, if_neg h.2.2]
theorem SF_n {k : Nat} (h : k ≠ 0 ∧ k ≠ 1 ∧ k ≠ 12 ∧ k ≠ 17 ∧ k ≠ 18) : SF.2.2 k = cX.2.2 k := by
  show (if k = 0 then 1 else if k = 1 then 1 else if k = 12 then 1 else if k = 17 then 0 else if k = 18 then 0 else cX.2.2 k) = _
  rw [if_neg h.1, if_neg h.2.1, if_neg h.2.2.1, if_neg h.2.2.2.1, if_neg h.2.2.2.2]
def tl (k : Nat) : Nat := if k = 0 then 17 else if k = 1 then 18 else k
theorem SF_val {α : Nat → Nat → Nat} {h : HT} {q k i : Nat} (hl : Lv h SF k i) : (k = 12 ∧ i = 0) ∨ (((k = 0 ∧ i = 0) ∨ (k = 1 ∧ i = 0) ∨ k = 10 ∨ k = 11 ∨ k = 13 ∨ k = 15) ∧ Lv h cX (tl k) i ∧ adr (aF α q) h k i = adr α h (tl k) i) := by
  rcases Lv_un hl with ⟨rfl, h1, h2⟩ | ⟨h1, h2, h3⟩
  · refine Or.inr ⟨by omega, ?_, rfl⟩
    show Lv h cX 15 i
    rw [Lv, if_pos rfl]
    exact ⟨h1, h2⟩
  · rcases h2 with h2 | h2
    · rcases obK_or h2 with rfl | rfl | rfl | rfl | rfl | rfl | rfl | rfl | rfl | rfl | rfl | rfl
      · have h3' : i < 1 := h3
        obtain rfl : i = 0 := by omega
        exact Or.inr ⟨by omega, Lv_of (k := 17) (Or.inl rfl) (show 0 < 1 by decide), rfl⟩
      · have h3' : i < 1 := h3
        obtain rfl : i = 0 := by omega
        exact Or.inr ⟨by omega, Lv_of (k := 18) (Or.inl rfl) (show 0 < 1 by decide), rfl⟩
      all_goals exact absurd h3 (Nat.not_lt_zero i)
    · rcases ar_or h2 with rfl | rfl | rfl | rfl
      · exact Or.inr ⟨by omega, Lv_of (k := 10) (Or.inr rfl) h3, rfl⟩
      · exact Or.inr ⟨by omega, Lv_of (k := 11) (Or.inr rfl) h3, rfl⟩
      · have h3' : i < 1 := h3
        exact Or.inl ⟨rfl, by omega⟩
      · exact Or.inr ⟨by omega, Lv_of (k := 13) (Or.inr rfl) h3, rfl⟩
set_option maxRecDepth 20000 in
theorem fs_0 {α : Nat → Nat → Nat} {q : Nat} : fs (aF α q) SF 0 0 = fs α cX 17 0 := by
  refine List.map_congr_left fun f hf => ?_
  have hf2 : f < 10 := List.mem_range.mp hf
  have h10 : f = 0 ∨ f = 1 ∨ f = 2 ∨ f = 3 ∨ f = 4 ∨ f = 5 ∨ f = 6 ∨ f = 7 ∨ f = 8 ∨ f = 9 := by omega
  rcases h10 with rfl | rfl | rfl | rfl | rfl | rfl | rfl | rfl | rfl | rfl <;> rfl
set_option maxRecDepth 20000 in
theorem fs_1 {α : Nat → Nat → Nat} {q : Nat} : fs (aF α q) SF 1 0 = fs α cX 18 0 := by
  refine List.map_congr_left fun f hf => ?_
  have hf2 : f < 38 := List.mem_range.mp hf
  have h19 : f = 0 ∨ f = 1 ∨ f = 2 ∨ f = 3 ∨ f = 4 ∨ f = 5 ∨ f = 6 ∨ f = 7 ∨ f = 8 ∨ f = 9 ∨ f = 10 ∨ f = 11 ∨ f = 12 ∨ f = 13 ∨ f = 14 ∨ f = 15 ∨ f = 16 ∨ f = 17 ∨ f = 18 ∨ 19 ≤ f := by omega
  rcases h19 with rfl | rfl | rfl | rfl | rfl | rfl | rfl | rfl | rfl | rfl | rfl | rfl | rfl | rfl | rfl | rfl | rfl | rfl | rfl | hg
  case inr =>
    have h38 : f = 19 ∨ f = 20 ∨ f = 21 ∨ f = 22 ∨ f = 23 ∨ f = 24 ∨ f = 25 ∨ f = 26 ∨ f = 27 ∨ f = 28 ∨ f = 29 ∨ f = 30 ∨ f = 31 ∨ f = 32 ∨ f = 33 ∨ f = 34 ∨ f = 35 ∨ f = 36 ∨ f = 37 := by omega
    rcases h38 with rfl | rfl | rfl | rfl | rfl | rfl | rfl | rfl | rfl | rfl | rfl | rfl | rfl | rfl | rfl | rfl | rfl | rfl | rfl <;> rfl
  all_goals rfl
