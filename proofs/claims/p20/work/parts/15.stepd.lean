/-! SOUND, instruction by instruction: arrays, new objects, returns, calls -/
section STS
variable {p : Program} {l : Launch} {e : Env} {R : Room} {s : State} {m : MethodId} {args : Array Value} {below : List Frame} {meth : Method} {c : Code} {Qm : State → Prop} {g : GT} {α0 : Nat → Nat → Nat} {S0 : Sto} {cc : ByteArray} {own : String} {nL rk cb sb B : Nat} {ini : Bool} {rb : Nat}
variable {tb : Tb} {Q : Out → Sto → Prop} {hn : List (Nat × Nat × Nat × Nat)} {scr : Nat × (Nat → Int32)}
variable {pc len xa xb : Nat} {xv : Int32} {xl : List Nat} {xu : Nat} {xs : SP} {nx : Tb} {K : Tb → Lo → List AV → Sto → Nat → Prop} {L : Lo} {st : List AV} {S : Sto} {u : Nat}
theorem ar_ok {st : List AV} {k : Int32 → Nat → Nat → List AV → Prop} (h : match st with
        | Sum.inl j :: Sum.inr (Sum.inr (a, i)) :: r => k j a i r
        | _ => False) : ∃ j a i r, st = aI j :: aR a i :: r ∧ k j a i r := by
  rcases st with _ | ⟨v | v, _ | ⟨w | (w | ⟨a, i⟩), r⟩⟩
  all_goals first | exact h.elim | exact ⟨v, a, i, r, rfl, h⟩
theorem aw_ok {st : List AV} {k : Int32 → Int32 → Nat → Nat → List AV → Prop} (h : match st with
        | Sum.inl v :: Sum.inl j :: Sum.inr (Sum.inr (a, i)) :: r => k v j a i r
        | _ => False) : ∃ v j a i r, st = aI v :: aI j :: aR a i :: r ∧ k v j a i r := by
  rcases st with _ | ⟨v | v, _ | ⟨w | w, _ | ⟨z | (z | ⟨a, i⟩), r⟩⟩⟩
  all_goals first | exact h.elim | exact ⟨v, w, a, i, r, rfl, h⟩
theorem lw_ok {st : List AV} {k : Int64 → Int32 → Nat → Nat → List AV → Prop} (h : match st with
        | Sum.inr (Sum.inl v) :: Sum.inl j :: Sum.inr (Sum.inr (a, i)) :: r => k v j a i r
        | _ => False) : ∃ v j a i r, st = aL v :: aI j :: aR a i :: r ∧ k v j a i r := by
  rcases st with _ | ⟨v | (v | v), _ | ⟨w | w, _ | ⟨z | (z | ⟨a, i⟩), r⟩⟩⟩
  all_goals first | exact h.elim | exact ⟨v, w, a, i, r, rfl, h⟩
/-- the script, where there is one -/
def ScrOK (s : State) (g : GT) (α0 : Nat → Nat → Nat) (scr : Nat × (Nat → Int32)) : Prop := va_X (α0 14 0) (scr.1 - 1) scr.2 s s.heap ∧ α0 14 0 < s.heap.size ∧ α0 14 0 < g.2.2.2
theorem bif_or {a b : Bool} {x y z : Prop} (h : bif a then x else bif b then y else z) : (a = true ∧ x) ∨ (a = false ∧ b = true ∧ y) ∨ (a = false ∧ b = false ∧ z) := by
  cases a
  · cases b
    · exact Or.inr (Or.inr ⟨rfl, rfl, h⟩)
    · exact Or.inr (Or.inl ⟨rfl, rfl, h⟩)
  · exact Or.inl ⟨rfl, h⟩
theorem s_iaload (hd : (dcd cc pc .iaload len && len == 1) = true) (hsc : 0 < scr.1 → ScrOK s g α0 scr) (h : match st with
        | Sum.inl j :: Sum.inr (Sum.inr (k, i)) :: r => bif k == 10 then vp_in j (al 10 i) ∧ K nx L (aI (S.1 10 i j.toNatClampNeg) :: r) S u else
          bif k == 14 && i == 0 && Nat.blt 0 scr.1 then vp_in j (scr.1 - 1) ∧ K nx L (aI (scr.2 j.toNatClampNeg) :: r) S u else False
        | _ => False) (C : Cx p l s m meth c R cc own nL rk cb sb B ini g) (hK : KOK tb (Ga p l e R s m args below meth c Qm g α0 S0 nL cb sb B) K) (hsx : nx <:+ tb) (hnx : ∀ q ∈ nx.head?, q.1 = pc + len) : Go p l e R s m args below meth c Qm g α0 S0 nL cb sb B pc L st S u := by
  obtain ⟨hdg, rfl⟩ := chk_plain (own := own) (ini := ini) (xa := 0) (xb := 0) (xv := 0) (xl := []) hd
  obtain ⟨j, k, i, r, rfl, hA⟩ := ar_ok (k := fun j k i r => bif k == 10 then vp_in j (al 10 i) ∧ K nx L (aI (S.1 10 i j.toNatClampNeg) :: r) S u else
          bif k == 14 && i == 0 && Nat.blt 0 scr.1 then vp_in j (scr.1 - 1) ∧ K nx L (aI (scr.2 j.toNatClampNeg) :: r) S u else False) h
  intro hu α h9 H locs ls hR hE hL hst hS hLH
  have hlr := lvV_hd (lvV_tail hst)
  rcases bif_or hA with ⟨h1, h2, h3⟩ | ⟨-, h1, h2, h3⟩ | ⟨-, -, h1⟩
  · have h1 : k = 10 := eq_of_beq h1
    subst h1
    exact w_iald C.1 C.2.1 C.2.2.2.2.2.2.1 hR (LvR_of hlr (Or.inr rfl)) h2 hdg (kok_next hK hsx hnx h3 hu α h9 H locs ls hR hE hL (lvV_cons trivial (lvV_tail (lvV_tail hst))) hS hLH)
  · rw [Bool.and_eq_true, Bool.and_eq_true, Nat.blt_eq] at h1
    have e1 : k = 14 := eq_of_beq h1.1.1
    have e2 : i = 0 := eq_of_beq h1.1.2
    subst e1 e2
    obtain ⟨q1, q2, q3⟩ := hsc h1.2
    · have e14 : α 14 0 = α0 14 0 := hE.1 14 0 (Or.inr (Or.inl rfl))
      show W p l e R s m args below meth c H locs (cb + u) (sb + 120 * u) Qm (F0 m pc ls (.int j :: .ref (α 14 0) :: r.map (conc α)))
      rw [e14]
      exact va_sld C.1 C.2.1 q1 q2 (Nat.not_le.mpr q3) hS h2 hdg (kok_next hK hsx hnx h3 hu α h9 H locs ls hR hE hL (lvV_cons trivial (lvV_tail (lvV_tail hst))) hS hLH)
  · exact h1.elim
theorem s_baload (hd : (dcd cc pc .baload len && len == 1) = true) (h : match st with
        | Sum.inl j :: Sum.inr (Sum.inr (k, i)) :: r => bif k == 11 then vp_in j (al 11 i) ∧ K nx L (aI (S.1 11 i j.toNatClampNeg) :: r) S u else False
        | _ => False) (C : Cx p l s m meth c R cc own nL rk cb sb B ini g) (hK : KOK tb (Ga p l e R s m args below meth c Qm g α0 S0 nL cb sb B) K) (hsx : nx <:+ tb) (hnx : ∀ q ∈ nx.head?, q.1 = pc + len) : Go p l e R s m args below meth c Qm g α0 S0 nL cb sb B pc L st S u := by
  obtain ⟨hdg, rfl⟩ := chk_plain (own := own) (ini := ini) (xa := 0) (xb := 0) (xv := 0) (xl := []) hd
  obtain ⟨j, k, i, r, rfl, hA⟩ := ar_ok (k := fun j k i r => bif k == 11 then vp_in j (al 11 i) ∧ K nx L (aI (S.1 11 i j.toNatClampNeg) :: r) S u else False) h
  obtain ⟨h1, h2, h3⟩ := cond_ok hA
  have h1 : k = 11 := eq_of_beq h1
  subst h1
  intro hu α h9 H locs ls hR hE hL hst hS hLH
  exact w_bald C.1 C.2.1 C.2.2.2.2.2.2.1 hR (LvR_of (lvV_hd (lvV_tail hst)) (Or.inr rfl)) h2 hdg (kok_next hK hsx hnx h3 hu α h9 H locs ls hR hE hL (lvV_cons trivial (lvV_tail (lvV_tail hst))) hS hLH)
theorem s_laload (hd : (dcd cc pc .laload len && len == 1) = true) (h : match st with
        | Sum.inl j :: Sum.inr (Sum.inr (k, i)) :: r => bif k == 12 then vp_in j 25 ∧ K nx L (aL (S.2.1 i j.toNatClampNeg) :: r) S u else False
        | _ => False) (C : Cx p l s m meth c R cc own nL rk cb sb B ini g) (hK : KOK tb (Ga p l e R s m args below meth c Qm g α0 S0 nL cb sb B) K) (hsx : nx <:+ tb) (hnx : ∀ q ∈ nx.head?, q.1 = pc + len) : Go p l e R s m args below meth c Qm g α0 S0 nL cb sb B pc L st S u := by
  obtain ⟨hdg, rfl⟩ := chk_plain (own := own) (ini := ini) (xa := 0) (xb := 0) (xv := 0) (xl := []) hd
  obtain ⟨j, k, i, r, rfl, hA⟩ := ar_ok (k := fun j k i r => bif k == 12 then vp_in j 25 ∧ K nx L (aL (S.2.1 i j.toNatClampNeg) :: r) S u else False) h
  obtain ⟨h1, h2, h3⟩ := cond_ok hA
  have e1 : k = 12 := eq_of_beq h1
  subst e1
  intro hu α h9 H locs ls hR hE hL hst hS hLH
  exact w_lald C.1 C.2.1 C.2.2.2.2.2.2.1 hR (LvR_of (lvV_hd (lvV_tail hst)) (Or.inr rfl)) h2 hdg (kok_next hK hsx hnx h3 hu α h9 H locs ls hR hE hL (lvV_cons trivial (lvV_tail (lvV_tail hst))) hS hLH)
theorem s_iastore (hd : (dcd cc pc .iastore len && len == 1) = true) (h : match st with
        | Sum.inl v :: Sum.inl j :: Sum.inr (Sum.inr (k, i)) :: r => bif k == 10 then vp_in j (al 10 i) ∧ K nx L r (wrI S 10 i j.toNatClampNeg v) u else False
        | _ => False) (C : Cx p l s m meth c R cc own nL rk cb sb B ini g) (hK : KOK tb (Ga p l e R s m args below meth c Qm g α0 S0 nL cb sb B) K) (hsx : nx <:+ tb) (hnx : ∀ q ∈ nx.head?, q.1 = pc + len) : Go p l e R s m args below meth c Qm g α0 S0 nL cb sb B pc L st S u := by
  obtain ⟨hdg, rfl⟩ := chk_plain (own := own) (ini := ini) (xa := 0) (xb := 0) (xv := 0) (xl := []) hd
  obtain ⟨v, j, k, i, r, rfl, hA⟩ := aw_ok (k := fun v j k i r => bif k == 10 then vp_in j (al 10 i) ∧ K nx L r (wrI S 10 i j.toNatClampNeg v) u else False) h
  obtain ⟨h1, h2, h3⟩ := cond_ok hA
  have h1 : k = 10 := eq_of_beq h1
  subst h1
  intro hu α h9 H locs ls hR hE hL hst hS hLH
  exact w_iast C.1 C.2.1 C.2.2.2.2.2.2.1 hR hS (LvR_of (lvV_hd (lvV_tail (lvV_tail hst))) (Or.inr rfl)) h2 hdg fun H1 locs1 hR1 hS1 => kok_next hK hsx hnx h3 hu α h9 H1 locs1 ls hR1 hE hL (lvV_tail (lvV_tail (lvV_tail hst))) hS1 hLH
theorem s_bastore (hd : (dcd cc pc .bastore len && len == 1) = true) (h : match st with
        | Sum.inl v :: Sum.inl j :: Sum.inr (Sum.inr (k, i)) :: r => bif k == 11 then vp_in j (al 11 i) ∧ K nx L r (wrI S 11 i j.toNatClampNeg (v &&& 1)) u else False
        | _ => False) (C : Cx p l s m meth c R cc own nL rk cb sb B ini g) (hK : KOK tb (Ga p l e R s m args below meth c Qm g α0 S0 nL cb sb B) K) (hsx : nx <:+ tb) (hnx : ∀ q ∈ nx.head?, q.1 = pc + len) : Go p l e R s m args below meth c Qm g α0 S0 nL cb sb B pc L st S u := by
  obtain ⟨hdg, rfl⟩ := chk_plain (own := own) (ini := ini) (xa := 0) (xb := 0) (xv := 0) (xl := []) hd
  obtain ⟨v, j, k, i, r, rfl, hA⟩ := aw_ok (k := fun v j k i r => bif k == 11 then vp_in j (al 11 i) ∧ K nx L r (wrI S 11 i j.toNatClampNeg (v &&& 1)) u else False) h
  obtain ⟨h1, h2, h3⟩ := cond_ok hA
  have h1 : k = 11 := eq_of_beq h1
  subst h1
  intro hu α h9 H locs ls hR hE hL hst hS hLH
  exact w_bast C.1 C.2.1 C.2.2.2.2.2.2.1 hR hS (LvR_of (lvV_hd (lvV_tail (lvV_tail hst))) (Or.inr rfl)) h2 hdg fun H1 locs1 hR1 hS1 => kok_next hK hsx hnx h3 hu α h9 H1 locs1 ls hR1 hE hL (lvV_tail (lvV_tail (lvV_tail hst))) hS1 hLH
theorem s_lastore (hd : (dcd cc pc .lastore len && len == 1) = true) (h : match st with
        | Sum.inr (Sum.inl v) :: Sum.inl j :: Sum.inr (Sum.inr (k, i)) :: r => bif k == 12 then vp_in j 25 ∧ K nx L r (wrJ S i j.toNatClampNeg v) u else False
        | _ => False) (C : Cx p l s m meth c R cc own nL rk cb sb B ini g) (hK : KOK tb (Ga p l e R s m args below meth c Qm g α0 S0 nL cb sb B) K) (hsx : nx <:+ tb) (hnx : ∀ q ∈ nx.head?, q.1 = pc + len) : Go p l e R s m args below meth c Qm g α0 S0 nL cb sb B pc L st S u := by
  obtain ⟨hdg, rfl⟩ := chk_plain (own := own) (ini := ini) (xa := 0) (xb := 0) (xv := 0) (xl := []) hd
  obtain ⟨v, j, k, i, r, rfl, hA⟩ := lw_ok (k := fun v j k i r => bif k == 12 then vp_in j 25 ∧ K nx L r (wrJ S i j.toNatClampNeg v) u else False) h
  obtain ⟨h1, h2, h3⟩ := cond_ok hA
  have e1 : k = 12 := eq_of_beq h1
  subst e1
  intro hu α h9 H locs ls hR hE hL hst hS hLH
  exact w_last C.1 C.2.1 C.2.2.2.2.2.2.1 hR hS (LvR_of (lvV_hd (lvV_tail (lvV_tail hst))) (Or.inr rfl)) h2 hdg fun H1 locs1 hR1 hS1 => kok_next hK hsx hnx h3 hu α h9 H1 locs1 ls hR1 hE hL (lvV_tail (lvV_tail (lvV_tail hst))) hS1 hLH
theorem s_alen (hd : (dcd cc pc .arraylength len && len == 1) = true) (hsc : 0 < scr.1 → ScrOK s g α0 scr) (h : r1 st fun k i r => bif k == 10 || k == 11 then K nx L (aI (Int32.ofNat (al k i)) :: r) S u else
          bif k == 14 && i == 0 && Nat.blt 0 scr.1 then K nx L (aI (Int32.ofNat (scr.1 - 1)) :: r) S u else False) (C : Cx p l s m meth c R cc own nL rk cb sb B ini g) (hK : KOK tb (Ga p l e R s m args below meth c Qm g α0 S0 nL cb sb B) K) (hsx : nx <:+ tb) (hnx : ∀ q ∈ nx.head?, q.1 = pc + len) : Go p l e R s m args below meth c Qm g α0 S0 nL cb sb B pc L st S u := by
  obtain ⟨hdg, rfl⟩ := chk_plain (own := own) (ini := ini) (xa := 0) (xb := 0) (xv := 0) (xl := []) hd
  obtain ⟨k, i, r, rfl, hA⟩ := r1_ok h
  intro hu α h9 H locs ls hR hE hL hst hS hLH
  have hlr := lvV_hd hst
  rcases bif_or hA with ⟨h1, h3⟩ | ⟨-, h1, h3⟩ | ⟨-, -, h1⟩
  · have hk : k = 10 ∨ k = 11 := by simpa using h1
    have hk2 : arK k = true := by rcases hk with rfl | rfl <;> rfl
    have key := w_alen (rest := r.map (conc α)) (ls := ls) (pc := pc) (cells := cb + u) (slots := sb + 120 * u) (locs := locs) (Q := Qm) (e := e) (R := R) (args := args) (below := below) (meth := meth) (l := l) (m := m) C.1 C.2.1 C.2.2.2.2.2.2.1 hR hk (LvR_of hlr (Or.inr hk2)) hdg
    rw [List.map_cons, conc_ob (ob_ne (Or.inr hk2)).2.1]
    exact key (kok_next hK hsx hnx h3 hu α h9 H locs ls hR hE hL (lvV_cons trivial (lvV_tail hst)) hS hLH)
  · rw [Bool.and_eq_true, Bool.and_eq_true, Nat.blt_eq] at h1
    have e1 : k = 14 := eq_of_beq h1.1.1
    have e2 : i = 0 := eq_of_beq h1.1.2
    subst e1 e2
    obtain ⟨q1, q2, q3⟩ := hsc h1.2
    · have e14 : α 14 0 = α0 14 0 := hE.1 14 0 (Or.inr (Or.inl rfl))
      show W p l e R s m args below meth c H locs (cb + u) (sb + 120 * u) Qm (F0 m pc ls (.ref (α 14 0) :: r.map (conc α)))
      rw [e14]
      exact va_slen C.1 C.2.1 q1 q2 (Nat.not_le.mpr q3) hS hdg (kok_next hK hsx hnx h3 hu α h9 H locs ls hR hE hL (lvV_cons trivial (lvV_tail hst)) hS hLH)
  · exact h1.elim
end STS
