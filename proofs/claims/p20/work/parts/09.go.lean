/-! THE MACHINE AT A ROW, and what a row's instruction needs of the tables -/
def LH (α : Nat → Nat → Nat) (ls : Array Slot) (nL : Nat) (L : Lo) : Prop := ls.size = nL ∧ L.length = nL ∧ lv_wf ls ∧ ∀ (i : Nat) (a : AV), L[i]? = some (some a) → ls[i]? = some (Slot.val (conc α a))
def Go (p : Program) (l : Launch) (e : Env) (R : Room) (s : State) (m : MethodId) (args : Array Value) (below : List Frame) (meth : Method) (c : Code) (Q : State → Prop) (g : GT) (α0 : Nat → Nat → Nat) (S0 : Sto) (nL cb sb B : Nat) : Gt := fun pc L st S u =>
  u ≤ B → ∀ (α : Nat → Nat → Nat) (h : HT) (H : Heap) (locs : List Loc) (ls : Array Slot), Rep g α h S H → Ext α0 S0 α S → (∀ a, some a ∈ L → LvV S a) → (∀ a ∈ st, LvV S a) → va_S (AB g) s.heap H locs → LH α ls nL L →
    W p l e R s m args below meth c H locs (cb + u) (sb + 120 * u) Q (F0 m pc ls (st.map (conc α)))
def kn (α : Nat → Nat → Nat) (L : Lo) : List (Nat × Value) := (List.range L.length).filterMap fun i => match L[i]? with
  | some (some a) => some (i, conc α a)
  | _ => none
theorem kn_mem {α : Nat → Nat → Nat} {L : Lo} {q : Nat × Value} : q ∈ kn α L ↔ ∃ a, L[q.1]? = some (some a) ∧ q.2 = conc α a := by
  unfold kn
  rw [List.mem_filterMap]
  constructor
  · rintro ⟨i, hi, h⟩
    split at h
    · rename_i a ha
      cases h
      exact ⟨a, ha, rfl⟩
    · cases h
  · rintro ⟨a, h1, h2⟩
    refine ⟨q.1, List.mem_range.mpr (List.getElem?_eq_some_iff.mp h1).1, ?_⟩
    rw [h1]
    show some (q.1, conc α a) = some q
    rw [← h2]
theorem LH.has {α : Nat → Nat → Nat} {ls : Array Slot} {nL : Nat} {L : Lo} (h : LH α ls nL L) : lv_has ls nL (kn α L) := by
  refine ⟨h.1, h.2.2.1, fun q hq => ?_⟩
  obtain ⟨a, h1, h2⟩ := kn_mem.mp hq
  rw [h2]
  exact h.2.2.2 q.1 a h1
theorem getL_ok {L : Lo} {i : Nat} {k : AV → Prop} (h : getL L i k) : ∃ v, L[i]? = some (some v) ∧ k v := by
  induction L generalizing i with
  | nil => exact h.elim
  | cons x r ih =>
    cases i with
    | zero =>
      cases x with
      | none => exact h.elim
      | some v => exact ⟨v, rfl, h⟩
    | succ i =>
      cases x with
      | none => exact ih h
      | some v => exact ih h
theorem forceL_ok {L : Lo} {k : Lo → Prop} (h : forceL L k) : k L := by
  induction L generalizing k with
  | nil => exact h
  | cons x r ih => exact ih h
def isLg : Option AV → Bool
  | some (Sum.inr (Sum.inl _)) => true
  | _ => false
theorem clrP_eq {x : Option AV} : clrP x = if isLg x = true then none else x := by
  rcases x with _ | (_ | (_ | _)) <;> rfl
theorem setL_len {L : Lo} {i : Nat} {v : AV} : (setL L i v).length = L.length := by
  induction L generalizing i with
  | nil => rfl
  | cons x r ih =>
    rcases i with _ | _ | i
    · rfl
    · show (setL r 0 v).length + 1 = _
      rw [ih]; rfl
    · show (setL r (i + 1) v).length + 1 = _
      rw [ih]; rfl
theorem setL_at {L : Lo} {i j : Nat} {v a : AV} (h : (setL L i v)[j]? = some (some a)) : (j = i ∧ a = v) ∨ (j ≠ i ∧ L[j]? = some (some a) ∧ ¬ (j + 1 = i ∧ isLg (some a) = true)) := by
  induction L generalizing i j with
  | nil => cases h
  | cons x r ih =>
    rcases i with _ | _ | i
    · rcases j with _ | j
      · left
        cases h
        exact ⟨rfl, rfl⟩
      · exact Or.inr ⟨by omega, h, by omega⟩
    · rcases j with _ | j
      · right
        have h' : some (clrP x) = some (some a) := h
        rw [clrP_eq] at h'
        by_cases hx : isLg x = true
        · rw [if_pos hx] at h'; cases h'
        · rw [if_neg hx] at h'
          have hx' : x = some a := Option.some.inj h'
          subst hx'
          exact ⟨by omega, rfl, fun q => hx q.2⟩
      · rcases ih (i := 0) (j := j) h with ⟨q1, q2⟩ | ⟨q1, q2, q3⟩
        · exact Or.inl ⟨by omega, q2⟩
        · exact Or.inr ⟨by omega, q2, by omega⟩
    · rcases j with _ | j
      · right
        have hx' : x = some a := Option.some.inj h
        subst hx'
        exact ⟨by omega, rfl, by omega⟩
      · rcases ih (i := i + 1) (j := j) h with ⟨q1, q2⟩ | ⟨q1, q2, q3⟩
        · exact Or.inl ⟨by omega, q2⟩
        · exact Or.inr ⟨by omega, q2, fun q => q3 ⟨by omega, q.2⟩⟩
theorem cat_conc {α : Nat → Nat → Nat} (a : AV) : (conc α a).category = catV a := by
  rcases a with _ | (_ | _) <;> rfl
theorem cats_conc {α : Nat → Nat → Nat} (st : List AV) : ((st.map (conc α)).map fun v => v.category).sum = catS st := by
  induction st with
  | nil => rfl
  | cons v r ih =>
    simp only [List.map_cons, List.sum_cons, catS, cat_conc]
    rw [ih]
theorem isLg_cat {a : AV} : isLg (some a) = true ↔ catV a = 2 := by
  rcases a with _ | (_ | _) <;> simp [isLg, catV]
/-- after a store of one slot -/
theorem LH.set {α : Nat → Nat → Nat} {ls ls' : Array Slot} {nL : Nat} {L : Lo} (h : LH α ls nL L) {i : Nat} {v : AV} (hl : lv_has ls' nL ((i, conc α v) :: (kn α L).filter (fun q => !(q.1 == i) && !(q.1 + 1 == i && q.2.category == 2)))) : LH α ls' nL (setL L i v) := by
  refine ⟨hl.1, by rw [setL_len]; exact h.2.1, hl.2.1, fun j a hj => ?_⟩
  rcases setL_at hj with ⟨rfl, rfl⟩ | ⟨h1, h2, h3⟩
  · exact hl.2.2 (j, conc α a) List.mem_cons_self
  · refine hl.2.2 (j, conc α a) (List.mem_cons_of_mem _ (List.mem_filter.mpr ⟨kn_mem.mpr ⟨a, h2, rfl⟩, ?_⟩))
    rw [isLg_cat] at h3
    simp only [cat_conc, Bool.and_eq_true, Bool.not_eq_true', beq_eq_false_iff_ne, ne_eq, Bool.and_eq_false_iff]
    refine ⟨h1, ?_⟩
    by_cases hji : j + 1 = i
    · exact Or.inr fun q => h3 ⟨hji, q⟩
    · exact Or.inl hji
theorem setL_mem {S : Sto} {L : Lo} {i : Nat} {v : AV} (h : ∀ a, some a ∈ L → LvV S a) (hv : LvV S v) : ∀ a, some a ∈ setL L i v → LvV S a := by
  intro a ha
  obtain ⟨j, hj⟩ := List.getElem?_of_mem ha
  rcases setL_at hj with ⟨-, rfl⟩ | ⟨-, h2, -⟩
  · exact hv
  · exact h a (List.mem_of_getElem? h2)
theorem setL2_len {L : Lo} {i : Nat} {v : AV} : (setL2 L i v).length = L.length := by
  induction L generalizing i with
  | nil => rfl
  | cons x r ih =>
    rcases i with _ | _ | i
    · cases r <;> rfl
    · show (setL2 r 0 v).length + 1 = _
      rw [ih]; rfl
    · show (setL2 r (i + 1) v).length + 1 = _
      rw [ih]; rfl
theorem setL2_at {L : Lo} {i j : Nat} {v a : AV} (h : (setL2 L i v)[j]? = some (some a)) : (j = i ∧ a = v) ∨ (j ≠ i ∧ j ≠ i + 1 ∧ L[j]? = some (some a) ∧ ¬ (j + 1 = i ∧ isLg (some a) = true)) := by
  induction L generalizing i j with
  | nil => cases h
  | cons x r ih =>
    rcases i with _ | _ | i
    · rcases r with _ | ⟨y, r⟩
      · rcases j with _ | j
        · left
          cases h
          exact ⟨rfl, rfl⟩
        · cases h
      · rcases j with _ | _ | j
        · left
          cases h
          exact ⟨rfl, rfl⟩
        · cases h
        · exact Or.inr ⟨by omega, by omega, h, by omega⟩
    · rcases j with _ | j
      · right
        have h' : some (clrP x) = some (some a) := h
        rw [clrP_eq] at h'
        by_cases hx : isLg x = true
        · rw [if_pos hx] at h'; cases h'
        · rw [if_neg hx] at h'
          have hx' : x = some a := Option.some.inj h'
          subst hx'
          exact ⟨by omega, by omega, rfl, fun q => hx q.2⟩
      · rcases ih (i := 0) (j := j) h with ⟨q1, q2⟩ | ⟨q1, q2, q3, q4⟩
        · exact Or.inl ⟨by omega, q2⟩
        · exact Or.inr ⟨by omega, by omega, q3, by omega⟩
    · rcases j with _ | j
      · right
        have hx' : x = some a := Option.some.inj h
        subst hx'
        exact ⟨by omega, by omega, rfl, by omega⟩
      · rcases ih (i := i + 1) (j := j) h with ⟨q1, q2⟩ | ⟨q1, q2, q3, q4⟩
        · exact Or.inl ⟨by omega, q2⟩
        · exact Or.inr ⟨by omega, by omega, q3, fun q => q4 ⟨by omega, q.2⟩⟩
theorem LH.set2 {α : Nat → Nat → Nat} {ls ls' : Array Slot} {nL : Nat} {L : Lo} (h : LH α ls nL L) {i : Nat} {v : AV} (hl : lv_has ls' nL ((i, conc α v) :: (kn α L).filter (fun q => !(q.1 == i) && (!(q.1 == i + 1) && !(q.1 + 1 == i && q.2.category == 2))))) : LH α ls' nL (setL2 L i v) := by
  refine ⟨hl.1, by rw [setL2_len]; exact h.2.1, hl.2.1, fun j a hj => ?_⟩
  rcases setL2_at hj with ⟨rfl, rfl⟩ | ⟨h1, h0, h2, h3⟩
  · exact hl.2.2 (j, conc α a) List.mem_cons_self
  · refine hl.2.2 (j, conc α a) (List.mem_cons_of_mem _ (List.mem_filter.mpr ⟨kn_mem.mpr ⟨a, h2, rfl⟩, ?_⟩))
    rw [isLg_cat] at h3
    simp only [cat_conc, Bool.and_eq_true, Bool.not_eq_true', beq_eq_false_iff_ne, ne_eq, Bool.and_eq_false_iff]
    refine ⟨h1, h0, ?_⟩
    by_cases hji : j + 1 = i
    · exact Or.inr fun q => h3 ⟨hji, q⟩
    · exact Or.inl hji
theorem setL2_mem {S : Sto} {L : Lo} {i : Nat} {v : AV} (h : ∀ a, some a ∈ L → LvV S a) (hv : LvV S v) : ∀ a, some a ∈ setL2 L i v → LvV S a := by
  intro a ha
  obtain ⟨j, hj⟩ := List.getElem?_of_mem ha
  rcases setL2_at hj with ⟨-, rfl⟩ | ⟨-, -, h2, -⟩
  · exact hv
  · exact h a (List.mem_of_getElem? h2)
