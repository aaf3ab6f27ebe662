/-! SOUND: what the pure machine asks of an instruction is enough for the machine -/
theorem i1_ok {st : List AV} {k : Int32 → List AV → Prop} (h : i1 st k) : ∃ a r, st = Sum.inl a :: r ∧ k a r := by
  rcases st with _ | ⟨v | v, r⟩
  · exact h.elim
  · exact ⟨v, r, rfl, h⟩
  · exact h.elim
theorem r1_ok {st : List AV} {k : Nat → Nat → List AV → Prop} (h : r1 st k) : ∃ a b r, st = aR a b :: r ∧ k a b r := by
  rcases st with _ | ⟨v | (v | ⟨a, b⟩), r⟩
  · exact h.elim
  · exact h.elim
  · exact h.elim
  · exact ⟨a, b, r, rfl, h⟩
theorem i2_ok {st : List AV} {k : Int32 → Int32 → List AV → Prop} (h : i2 st k) : ∃ a b r, st = aI b :: aI a :: r ∧ k a b r := by
  rcases st with _ | ⟨v | v, _ | ⟨w | w, r⟩⟩
  · exact h.elim
  · exact h.elim
  · exact ⟨w, v, r, rfl, h⟩
  · exact h.elim
  · exact h.elim
  · exact h.elim
  · exact h.elim
theorem l2_ok {st : List AV} {k : Int64 → Int64 → List AV → Prop} (h : l2 st k) : ∃ a b r, st = aL b :: aL a :: r ∧ k a b r := by
  rcases st with _ | ⟨v | (v | v), _ | ⟨w | (w | w), r⟩⟩
  all_goals first | exact h.elim | exact ⟨w, v, r, rfl, h⟩
theorem il_ok {st : List AV} {k : Int64 → Int32 → List AV → Prop} (h : il st k) : ∃ a b r, st = aI b :: aL a :: r ∧ k a b r := by
  rcases st with _ | ⟨v | v, _ | ⟨w | (w | w), r⟩⟩
  all_goals first | exact h.elim | exact ⟨w, v, r, rfl, h⟩
theorem isI_ok {v : AV} {k : Prop} (h : isI v k) : ∃ x, v = aI x ∧ k := by
  rcases v with v | v
  · exact ⟨v, rfl, h⟩
  · exact h.elim
theorem isJ_ok {v : AV} {k : Prop} (h : isJ v k) : ∃ x, v = aL x ∧ k := by
  rcases v with v | (v | v)
  · exact h.elim
  · exact ⟨v, rfl, h⟩
  · exact h.elim
theorem isR_ok {v : AV} {k : Prop} (h : isR v k) : ∃ a b, v = aR a b ∧ k := by
  rcases v with v | (v | ⟨a, b⟩)
  · exact h.elim
  · exact h.elim
  · exact ⟨a, b, rfl, h⟩
theorem cond_ok {b : Bool} {k : Prop} (h : bif b then k else False) : b = true ∧ k := by
  cases b
  · exact h.elim
  · exact ⟨rfl, h⟩
theorem popN_ok {n : Nat} {st acc : List AV} {k : List AV → List AV → Prop} (h : popN n st acc k) : ∃ as r, st = as.reverse ++ r ∧ as.length = n ∧ k (as ++ acc) r := by
  induction n generalizing st acc with
  | zero => exact ⟨[], st, rfl, rfl, h⟩
  | succ n ih =>
    cases st with
    | nil => exact h.elim
    | cons v st =>
      obtain ⟨as, r, h1, h2, h3⟩ := ih h
      refine ⟨as ++ [v], r, ?_, by simp [h2], ?_⟩
      · rw [List.reverse_append, h1]
        rfl
      · rw [List.append_assoc]
        exact h3
theorem drp_hd {tb : Tb} {t : Nat} : ∀ q ∈ (drp tb t).head?, q.1 = t := by
  induction tb with
  | nil => intro q hq; cases hq
  | cons a r ih =>
    intro q hq
    unfold drp at hq
    by_cases h : (a.1 == t) = true
    · rw [h] at hq
      cases hq
      exact eq_of_beq h
    · rw [Bool.not_eq_true] at h
      rw [h] at hq
      exact ih q hq
theorem drp_suf {tb : Tb} {t : Nat} : drp tb t <:+ tb := by
  induction tb with
  | nil => exact List.suffix_refl _
  | cons a r ih =>
    unfold drp
    by_cases h : (a.1 == t) = true
    · rw [h]
      exact List.suffix_refl _
    · rw [Bool.not_eq_true] at h
      rw [h]
      exact ih.trans (List.suffix_cons _ _)
theorem chn_hd {tb : Tb} (h : chn tb = true) {q : Nat × Instr × Nat × Xi} {r : Tb} (hs : (q :: r) <:+ tb) : ∀ q' ∈ r.head?, q'.1 = q.1 + q.2.2.1 := by
  induction tb with
  | nil => exact absurd hs (by simp)
  | cons a t ih =>
    have h2 : chn t = true := by
      unfold chn at h
      rw [Bool.and_eq_true] at h
      exact h.2
    rcases List.suffix_cons_iff.mp hs with e | e
    · cases e
      intro q' hq'
      cases r with
      | nil => cases hq'
      | cons b r =>
        cases hq'
        unfold chn at h
        rw [Bool.and_eq_true] at h
        exact eq_of_beq h.1
    · exact ih h2 e
section SND
variable {p : Program} {l : Launch} {e : Env} {R : Room} {s : State} {m : MethodId} {args : Array Value} {below : List Frame} {meth : Method} {c : Code} {Qm : State → Prop} {g : GT} {α0 : Nat → Nat → Nat} {S0 : Sto} {cc : ByteArray} {own : String} {nL rk cb sb B : Nat} {ini : Bool}
/-- a row's own part of Go: from here on with what stands now -/
abbrev GoW (p : Program) (l : Launch) (e : Env) (R : Room) (s : State) (m : MethodId) (args : Array Value) (below : List Frame) (meth : Method) (c : Code) (Qm : State → Prop) (g : GT) (α0 : Nat → Nat → Nat) (S0 : Sto) (nL cb sb B : Nat) : Gt := Go p l e R s m args below meth c Qm g α0 S0 nL cb sb B
theorem lvV_cons {S : Sto} {v : AV} {st : List AV} (hv : LvV S v) (h : ∀ a ∈ st, LvV S a) : ∀ a ∈ v :: st, LvV S a := fun a ha => (List.mem_cons.mp ha).elim (fun q => by rw [q]; exact hv) (h a)
theorem lvV_tail {S : Sto} {v : AV} {st : List AV} (h : ∀ a ∈ v :: st, LvV S a) : ∀ a ∈ st, LvV S a := fun a ha => h a (List.mem_cons_of_mem _ ha)
theorem lvV_hd {S : Sto} {v : AV} {st : List AV} (h : ∀ a ∈ v :: st, LvV S a) : LvV S v := h v List.mem_cons_self
theorem LH.slot {α : Nat → Nat → Nat} {ls : Array Slot} {L : Lo} (h : LH α ls nL L) {i : Nat} {a : AV} (ha : L[i]? = some (some a)) : ls[i]? = some (.val (conc α a)) := h.2.2.2 i a ha
theorem lvL_get {S : Sto} {L : Lo} (h : ∀ a, some a ∈ L → LvV S a) {i : Nat} {a : AV} (ha : L[i]? = some (some a)) : LvV S a := h a (List.mem_of_getElem? ha)
theorem conc_ref {α : Nat → Nat → Nat} {k i : Nat} : ∃ q, conc α (aR k i) = .ref q := ⟨_, rfl⟩
theorem conc_ob {α : Nat → Nat → Nat} {k i : Nat} (hk : k ≠ 99) : conc α (aR k i) = .ref (α k i) := by show Value.ref (if k = 99 then i else α k i) = _; rw [if_neg hk]
/-- pushing a value and going on: the simple instructions -/
theorem go_push {pc pc' : Nat} {L : Lo} {st st' : List AV} {S : Sto} {u : Nat} (hgo : Go p l e R s m args below meth c Qm g α0 S0 nL cb sb B pc' L st' S u)
    (hlv : ∀ α : Nat → Nat → Nat, (∀ a, some a ∈ L → LvV S a) → (∀ a ∈ st, LvV S a) → ∀ a ∈ st', LvV S a)
    (hw : ∀ (α : Nat → Nat → Nat) (H : Heap) (locs : List Loc) (ls : Array Slot), LH α ls nL L → W p l e R s m args below meth c H locs (cb + u) (sb + 120 * u) Qm (F0 m pc' ls (st'.map (conc α))) → W p l e R s m args below meth c H locs (cb + u) (sb + 120 * u) Qm (F0 m pc ls (st.map (conc α)))) :
    Go p l e R s m args below meth c Qm g α0 S0 nL cb sb B pc L st S u := by
  intro hu α h H locs ls hR hE hL hst hS hLH
  exact hw α H locs ls hLH (hgo hu α h H locs ls hR hE hL (hlv α hL hst) hS hLH)
end SND
