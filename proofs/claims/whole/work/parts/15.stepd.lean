/-! SOUND, instruction by instruction: arrays, new objects, returns, calls -/
section STS
variable {p : Program} {l : Launch} {e : Env} {R : Room} {s : State} {m : MethodId} {args : Array Value} {below : List Frame} {meth : Method} {c : Code} {Qm : State → Prop} {g : GT} {α0 : Nat → Nat → Nat} {S0 : Sto} {cc : ByteArray} {own : String} {nL rk cb sb B : Nat} {ini rb : Bool}
variable {tb : Tb} {Q : Out → Sto → Prop} {hn : List (Nat × Nat × Nat × Nat)} {scr : Nat × (Nat → Int32)}
variable {pc len xa xb : Nat} {xv : Int32} {xl : List Nat} {xu : Nat} {xs : SP} {nx : Tb} {K : Tb → Lo → List AV → Sto → Nat → Prop} {L : Lo} {st : List AV} {S : Sto} {u : Nat}
theorem ar_ok {st : List AV} {k : Int32 → Nat → Nat → List AV → Prop} (h : match st with
        | Sum.inl j :: Sum.inr (Sum.inr (a, i)) :: r => k j a i r
        | _ => False) : ∃ j a i r, st = aI j :: aR a i :: r ∧ k j a i r := by
  rcases st with _ | ⟨v | v, _ | ⟨w | (w | ⟨a, i⟩), r⟩⟩
  all_goals first | exact h.elim | exact ⟨v, a, i, r, rfl, h⟩
theorem aw_ok {st : List AV} {k : Int32 → Int32 → Nat → Nat → List AV → Prop} (h : match st with
        | Sum.inl v :: Sum.inl j :: Sum.inr (Sum.inr (a, i)) :: r => k v j a i r
        | _ => False) : ∃ v j a i r, st = aI v :: aI j :: aR a i :: r ∧ k v j a i r := by
  rcases st with _ | ⟨v | v, _ | ⟨w | w, _ | ⟨z | (z | ⟨a, i⟩), r⟩⟩⟩
  all_goals first | exact h.elim | exact ⟨v, w, a, i, r, rfl, h⟩
theorem lw_ok {st : List AV} {k : Int64 → Int32 → Nat → Nat → List AV → Prop} (h : match st with
        | Sum.inr (Sum.inl v) :: Sum.inl j :: Sum.inr (Sum.inr (a, i)) :: r => k v j a i r
        | _ => False) : ∃ v j a i r, st = aL v :: aI j :: aR a i :: r ∧ k v j a i r := by
  rcases st with _ | ⟨v | (v | v), _ | ⟨w | w, _ | ⟨z | (z | ⟨a, i⟩), r⟩⟩⟩
  all_goals first | exact h.elim | exact ⟨v, w, a, i, r, rfl, h⟩
/-- the script, where there is one -/
def ScrOK (s : State) (g : GT) (α0 : Nat → Nat → Nat) (scr : Nat × (Nat → Int32)) : Prop := va_X (α0 14 0) scr.1 scr.2 s s.heap ∧ α0 14 0 < s.heap.size ∧ α0 14 0 < g.2.2.2
theorem bif_or {a b : Bool} {x y z : Prop} (h : bif a then x else bif b then y else z) : (a = true ∧ x) ∨ (a = false ∧ b = true ∧ y) ∨ (a = false ∧ b = false ∧ z) := by
  cases a
  · cases b
    · exact Or.inr (Or.inr ⟨rfl, rfl, h⟩)
    · exact Or.inr (Or.inl ⟨rfl, rfl, h⟩)
  · exact Or.inl ⟨rfl, h⟩
theorem s_iaload (hd : (dcd cc pc .iaload len && len == 1) = true) (hsc : ScrOK s g α0 scr ∨ scr.1 = 0) (h : match st with
        | Sum.inl j :: Sum.inr (Sum.inr (k, i)) :: r => bif k == 10 then vp_in j (al 10 i) ∧ K nx L (aI (S.1 10 i j.toNatClampNeg) :: r) S u else
          bif k == 14 then vp_in j scr.1 ∧ K nx L (aI (scr.2 j.toNatClampNeg) :: r) S u else False
        | _ => False) (C : Cx p l s m meth c R cc own nL rk cb sb B ini g) (hK : KOK tb (Ga p l e R s m args below meth c Qm g α0 S0 nL cb sb B) K) (hsx : nx <:+ tb) (hnx : ∀ q ∈ nx.head?, q.1 = pc + len) : Go p l e R s m args below meth c Qm g α0 S0 nL cb sb B pc L st S u := by
  obtain ⟨hdg, rfl⟩ := chk_plain (own := own) (ini := ini) (xa := 0) (xb := 0) (xv := 0) (xl := []) hd
  obtain ⟨j, k, i, r, rfl, hA⟩ := ar_ok (k := fun j k i r => bif k == 10 then vp_in j (al 10 i) ∧ K nx L (aI (S.1 10 i j.toNatClampNeg) :: r) S u else
          bif k == 14 then vp_in j scr.1 ∧ K nx L (aI (scr.2 j.toNatClampNeg) :: r) S u else False) h
  intro hu α h9 H locs ls hR hE hL hst hS hLH
  have hlr := lvV_hd (lvV_tail hst)
  rcases bif_or hA with ⟨h1, h2, h3⟩ | ⟨-, h1, h2, h3⟩ | ⟨-, -, h1⟩
  · have h1 : k = 10 := eq_of_beq h1
    subst h1
    exact w_iald C.1 C.2.1 C.2.2.2.2.2.2.1 hR (LvR_of hlr (Or.inr rfl)) h2 hdg (kok_next hK hsx hnx h3 hu α h9 H locs ls hR hE hL (lvV_cons trivial (lvV_tail (lvV_tail hst))) hS hLH)
  · have h1 : k = 14 := eq_of_beq h1
    subst h1
    rcases hsc with ⟨q1, q2, q3⟩ | q
    · by_cases hi : i = 0
      · subst hi
        have e14 : α 14 0 = α0 14 0 := hE.1 14 0 (Or.inr (Or.inl rfl))
        show W p l e R s m args below meth c H locs (cb + u) (sb + 120 * u) Qm (F0 m pc ls (.int j :: .ref (α 14 0) :: r.map (conc α)))
        rw [e14]
        exact va_sld C.1 C.2.1 q1 q2 (Nat.not_le.mpr q3) hS h2 hdg (kok_next hK hsx hnx h3 hu α h9 H locs ls hR hE hL (lvV_cons trivial (lvV_tail (lvV_tail hst))) hS hLH)
      · sorry
    · exact absurd (Or.inr (by rw [q]; exact Nat.zero_le _)) h2
  · exact h1.elim
end STS
