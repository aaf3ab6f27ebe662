/-! THE WORLD: how a store lies in the machine's heap -/
def tyC : Nat → Nat → FieldType
  | 0 => tyJx4a65c
  | 1 => tyX0
  | 2 => tyX1
  | 3 => tyX2
  | 4 => tyX3
  | 5 => tyX4
  | 6 => tyX5
  | _ => tyX6
def vC (a : Nat) : vw_C := vwCl.getD a ("", fun _ => ("", "", "", false), 0)
def rty : FieldType → Bool
  | .object _ => true
  | .array _ => true
  | _ => false
/-- what is known of a class -/
def KF (a : Nat) : Prop := vwCl[a]? = some ((vC a).1, (vC a).2.1, (vC a).2.2) ∧ (∀ k, k < (vC a).2.2 → parseFieldDescriptor ((vC a).2.1 k).2.2.1 = some (tyC a k)) ∧
  (∀ x, x < (vC a).2.2 → ∀ y, y < (vC a).2.2 → x ≠ y → ((vC a).2.1 x).2.1 ≠ ((vC a).2.1 y).2.1) ∧ (∀ w ∈ u_ws (vC a).1 (vC a).2.1 (vC a).2.2, w ∈ lw_tbl ∧ goodWord w = true)
theorem KF0 : KF 0 := ⟨rfl, tyJx4a65c_ok, nmJx4a65c, by decide +kernel⟩
theorem KF1 : KF 1 := ⟨rfl, tyX0_ok, nmX0, by decide +kernel⟩
theorem KF2 : KF 2 := ⟨rfl, tyX1_ok, nmX1, by decide +kernel⟩
theorem KF3 : KF 3 := ⟨rfl, tyX2_ok, nmX2, by decide +kernel⟩
theorem KF4 : KF 4 := ⟨rfl, tyX3_ok, nmX3, by decide +kernel⟩
theorem KF5 : KF 5 := ⟨rfl, tyX4_ok, nmX4, by decide +kernel⟩
theorem KF6 : KF 6 := ⟨rfl, tyX5_ok, nmX5, by decide +kernel⟩
theorem KF7 : KF 7 := ⟨rfl, tyX6_ok, nmX6, by decide +kernel⟩
theorem obK_or {k : Nat} (h : obK k = true) : k = 0 ∨ k = 2 ∨ k = 3 ∨ k = 4 ∨ k = 5 ∨ k = 6 ∨ k = 7 ∨ k = 8 ∨ k = 9 ∨ k = 17 := by
  simp only [obK, Bool.or_eq_true, Bool.and_eq_true, Nat.ble_eq, beq_iff_eq, Bool.not_eq_true', beq_eq_false_iff_ne, ne_eq] at h
  omega
theorem kd_KF {k : Nat} (h : obK k = true) : KF (ci k) ∧ nf k = (vC (ci k)).2.2 := by
  rcases obK_or h with rfl | rfl | rfl | rfl | rfl | rfl | rfl | rfl | rfl | rfl
  · exact ⟨KF7, rfl⟩
  · exact ⟨KF5, rfl⟩
  · exact ⟨KF6, rfl⟩
  · exact ⟨KF4, rfl⟩
  · exact ⟨KF3, rfl⟩
  · exact ⟨KF1, rfl⟩
  · exact ⟨KF2, rfl⟩
  · exact ⟨KF2, rfl⟩
  · exact ⟨KF2, rfl⟩
  · exact ⟨KF7, rfl⟩
def kdc (k : Nat) : Bool := (List.range (nf k)).all fun f => if (ft k f).1 = 0 then decide (tyC (ci k) f = .int) else rty (tyC (ci k) f) && decide ((ft k f).1 < 4)
theorem kd_ty {k f : Nat} (h : obK k = true) (hf : f < nf k) : if (ft k f).1 = 0 then tyC (ci k) f = .int else rty (tyC (ci k) f) = true ∧ (ft k f).1 < 4 := by
  have hk : kdc k = true := by
    rcases obK_or h with rfl | rfl | rfl | rfl | rfl | rfl | rfl | rfl | rfl | rfl <;> decide +kernel
  have h2 := List.all_eq_true.mp hk f (List.mem_range.mpr hf)
  split at h2 <;> rename_i h3
  · rw [if_pos h3]; simpa using h2
  · rw [if_neg h3]; simpa using h2
theorem rty_ok {t : FieldType} (h : rty t = true) : defaultValue t = .null ∧ ∀ a, narrow t (.ref a) = .ref a ∧ fits t (.ref a) = true := by
  cases t <;> first | (simp [rty] at h; done) | exact ⟨rfl, fun a => ⟨rfl, rfl⟩⟩
/-- classes, arrays' classes and the script's address, the empty list's cell, where the new begins -/
abbrev GT : Type := va_G × (ClassId × ClassId × ClassId × (ClassId × Nat)) × Nat × Nat
abbrev scA (g : GT) : Nat := g.2.1.2.2.2.2
abbrev AB (g : GT) : Nat → Prop := fun q => g.2.2.2 ≤ q
def tysG (g : GT) : List (ClassId × FieldType) := [(g.2.1.1, .int), (g.2.1.2.1, .boolean), (g.2.1.2.2.1, .long), (g.2.1.2.2.2.1, .object "java/lang/Object")]
def conc (α : Nat → Nat → Nat) : AV → Value
  | Sum.inl x => .int x
  | Sum.inr (Sum.inl x) => .long x
  | Sum.inr (Sum.inr (k, i)) => .ref (if k = 99 then i else α k i)
abbrev HT : Type := Nat → Nat × Nat × Int32
def fv (α : Nat → Nat → Nat) (S : Sto) (k i f : Nat) : Value := match ft k f with
  | (0, _, _) => .int (S.1 k f i)
  | (1, k', i') => .ref (α k' i')
  | (2, k', i') => if S.1 k f i = 0 then .null else .ref (α k' i')
  | (_, k', _) => if S.1 k f i = 0 then .null else .ref (α k' i)
def fs (α : Nat → Nat → Nat) (S : Sto) (k i : Nat) : List Value := (List.range (nf k)).map (fv α S k i)
def arK (k : Nat) : Bool := k == 10 || k == 11 || k == 12 || k == 13
def ent (g : GT) (α : Nat → Nat → Nat) (h : HT) (S : Sto) (k i : Nat) : va_E :=
  if obK k = true then .inr (ci k, fs α S k i) else
  if k = 10 then .inl (g.2.1.1, al 10 i, .inl (S.1 10 i)) else
  if k = 11 then .inl (g.2.1.2.1, al 11 i, .inl (S.1 11 i)) else
  if k = 12 then .inl (g.2.1.2.2.1, 25, .inr (.inl (S.2.1 i))) else
  if k = 13 then .inr (0, [.int (h i).2.2, .ref (if (h i).1 = 0 then g.2.2.1 else (h i).2.1), .int (nI (S.2.2 (20 + i)))]) else
  .inl (g.2.1.2.2.2.1, (h i).1, .inr (.inr (.inr (.inr (fun j => if j < S.2.2 (20 + i) then some (α (lk i) j) else none)))))
def Lv (h : HT) (S : Sto) (k i : Nat) : Prop := if k = 15 then i < S.2.2 13 ∧ (h i).1 ≠ 0 else (obK k = true ∨ arK k = true) ∧ i < S.2.2 k
def adr (α : Nat → Nat → Nat) (h : HT) (k i : Nat) : Nat := if k = 15 then (h i).2.1 else α k i
def LvR (S : Sto) (k i : Nat) : Prop := k = 99 ∨ k = 14 ∨ ((obK k = true ∨ arK k = true) ∧ i < S.2.2 k)
def LvV (S : Sto) : AV → Prop
  | Sum.inr (Sum.inr (k, i)) => LvR S k i
  | _ => True
/-- the object that a field names -/
def fR (k f i : Nat) : Nat × Nat := if (ft k f).1 ≤ 2 then ((ft k f).2.1, (ft k f).2.2) else ((ft k f).2.1, i)
def Rep (g : GT) (α : Nat → Nat → Nat) (h : HT) (S : Sto) (H : Heap) : Prop :=
  (∀ k i, Lv h S k i → va_at g.1 vwCl (adr α h k i, ent g α h S k i) H) ∧
  (∀ k i k' i', Lv h S k i → Lv h S k' i' → adr α h k i = adr α h k' i' → k = k' ∧ i = i') ∧
  (∀ k i, Lv h S k i → g.2.2.2 ≤ adr α h k i) ∧
  (∀ k i f, obK k = true → i < S.2.2 k → f < nf k → (ft k f).1 ≠ 0 → ((ft k f).1 ≠ 1 ∧ S.1 k f i = 0) ∨ LvR S (fR k f i).1 (fR k f i).2) ∧
  ((∀ i, i < S.2.2 13 → i < 5 ∧ S.2.2 (20 + i) ≤ S.2.2 (lk i) ∧ S.2.2 (20 + i) ≤ (h i).1 ∧ (h i).1 ≤ 100 ∧ ((h i).1 = 0 ∨ 10 ≤ (h i).1)) ∧ α 14 0 = scA g)
def isDC : Jvm.Cond → Bool
  | .declares _ => true
  | .castable .. => true
  | .arrayOver (.object _) => true
  | _ => false
/-- the tables' words -/
def WT (U : State) : Prop := ∀ w ∈ lw_tbl, (goodWord w || isDC w) = true → ∀ a : Array Value, w.before a U = true
theorem WT.warm {s U : State} (hW : s.WarmedH U.vm) (h : WT s) : WT U := by
  intro w hw hg a
  by_cases h1 : goodWord w = true
  · exact word_at hW (good_of_word h1) (h w hw hg #[])
  · have h2 : isDC w = true := by
      rw [Bool.or_eq_true] at hg
      exact hg.resolve_left h1
    have h3 := h w hw hg #[]
    cases w <;> first | (simp [isDC] at h2; done) | exact va_Nw.use rfl (va_Nw.warmD hW h3) | exact va_Nw.use rfl (va_Nw.warmC hW h3) | (rename_i ty9; cases ty9 <;> first | (simp [isDC] at h2; done) | exact (va_AO.of h3).moved hW.alike)
def strs : List (Nat × String) := [(115, "the axles are not even"), (133, "the rig drives"), (140, "the centre is not between the halves"), (153, "the notice is too short"), (176, "the rig does not stand at an end of the road"), (178, "the rig may not begin the drive"), (183, "another rig is on the road with the bridge"), (220, "time ends"), (227, "there is no such number"), (230, "an argument is out of range"), (232, "there are as many as there may be"), (59, "both places are the same")]
def DEc (g : GT) (U : State) (H : Heap) : Prop := g.2.2.1 < g.2.2.2 ∧ ∃ cell : Cell, H[g.2.2.1]? = some cell ∧ U.isArrayOf cell (.object "java/lang/Object") ∧ cell.vm ≠ .unknown ∧ cell.slots.size = 0
/-- exceptions that aren't each other's -/
def ncs : List (String × String) := [("java/lang/IllegalArgumentException", "java/lang/IndexOutOfBoundsException"), ("java/lang/IllegalArgumentException", "java/lang/IllegalStateException"), ("java/lang/IllegalStateException", "java/lang/IndexOutOfBoundsException"), ("java/lang/IllegalStateException", "java/lang/IllegalArgumentException"), ("java/lang/IndexOutOfBoundsException", "java/lang/IllegalArgumentException"), ("java/lang/IndexOutOfBoundsException", "java/lang/IllegalStateException")]
def NcF (U : State) : Prop := ∀ q ∈ ncs, va_Nc q.1 q.2 U
/-- the script -/
def SX (g : GT) (U : State) (H : Heap) : Prop := scA g < g.2.2.2 ∧ ∃ (L : Nat) (xs : Nat → Int32), L ≤ 260 ∧ va_X (scA g) L xs U H
def ST (g : GT) (U : State) (H : Heap) : Prop :=
  vx_Zq Bundle.tN "UNASSIGNED_STACK" Bundle.steD (AB g) U H ∧ vx_Zq Bundle.tN "SUPPRESSED_SENTINEL" Bundle.listD (AB g) U H ∧ (∀ q ∈ strs, ∃ a, vk_R "HeavyHaul" q.1 q.2 a U) ∧
  va_Z "java/util/ArrayList" "DEFAULTCAPACITY_EMPTY_ELEMENTDATA" "[Ljava/lang/Object;" (.ref g.2.2.1) (AB g) U H ∧ DEc g U H ∧ (∃ mi, va_Mi "[Ljava/lang/Object;" mi U) ∧ NcF U ∧ SX g U H
theorem ST.moved {g : GT} {s U : State} {H : Heap} (hW : s.WarmedH U.vm) (h : ST g s H) : ST g U H := by
  obtain ⟨h1, h2, h3, h4, ⟨h5, cell, h6, h7, h8⟩, ⟨mi, h9⟩, h10, x1, L, xs, x2, cx, x3, x4, x5⟩ := h
  exact ⟨h1.moved hW.alike, h2.moved hW.alike, fun q hq => (h3 q hq).imp fun a ha => vk_R.warm hW ha, h4.moved hW.alike, ⟨h5, cell, h6, State.isArrayOf_alike hW.alike h7, h8⟩, ⟨mi, h9.moved hW.alike⟩, fun q hq => (h10 q hq).moved hW.alike, x1, L, xs, x2, cx, x3, State.isArrayOf_alike hW.alike x4, x5⟩
theorem ST.kept {g : GT} {U : State} {H H1 : Heap} (h : ST g U H) (hq : ∀ a : Nat, a < H.size → ¬ AB g a → H1[a]? = H[a]?) : ST g U H1 := by
  obtain ⟨h1, h2, h3, h4, ⟨h5, cell, h6, h7⟩, h9, h10, x1, L, xs, x2, cx, x3, x4⟩ := h
  exact ⟨h1.kept hq, h2.kept hq, h3, h4.kept hq, ⟨h5, cell, by rw [hq _ (Array.getElem?_eq_some_iff.mp h6).1 (Nat.not_le.mpr h5)]; exact h6, h7⟩, h9, h10, x1, L, xs, x2, cx, by rw [hq _ (Array.getElem?_eq_some_iff.mp x3).1 (Nat.not_le.mpr x1)]; exact x3, x4⟩
/-- the world: the store in the heap, and what stands beside it -/
def Wd (g : GT) (α : Nat → Nat → Nat) (h : HT) (S : Sto) (U : State) : Prop := Rep g α h S U.heap ∧ va_K g.1 vwCl (tysG g) U ∧ WT U ∧ ST g U U.heap ∧ g.2.2.2 ≤ U.heap.size
