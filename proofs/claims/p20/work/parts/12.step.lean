/-! SOUND, instruction by instruction -/
section STP
variable {p : Program} {l : Launch} {e : Env} {R : Room} {s : State} {m : MethodId} {args : Array Value} {below : List Frame} {meth : Method} {c : Code} {Qm : State → Prop} {g : GT} {α0 : Nat → Nat → Nat} {S0 : Sto} {cc : ByteArray} {own : String} {nL rk cb sb B : Nat} {ini : Bool} {rb : Nat}
variable {tb : Tb} {Q : Out → Sto → Prop} {hn : List (Nat × Nat × Nat × Nat)} {scr : Nat × (Nat → Int32)}
abbrev Ga (p : Program) (l : Launch) (e : Env) (R : Room) (s : State) (m : MethodId) (args : Array Value) (below : List Frame) (meth : Method) (c : Code) (Qm : State → Prop) (g : GT) (α0 : Nat → Nat → Nat) (S0 : Sto) (nL cb sb B : Nat) : Gt := Go p l e R s m args below meth c Qm g α0 S0 nL cb sb B
/-- what K gives -/
def KOK (tb : Tb) (G : Gt) (K : Tb → Lo → List AV → Sto → Nat → Prop) : Prop := ∀ (nx : Tb) (pc' : Nat) (L : Lo) (st : List AV) (S : Sto) (u : Nat), nx <:+ tb → (∀ q ∈ nx.head?, q.1 = pc') → K nx L st S u → G pc' L st S u
theorem kok_next {G : Gt} {K : Tb → Lo → List AV → Sto → Nat → Prop} (hK : KOK tb G K) {nx : Tb} {pc' : Nat} (hs : nx <:+ tb) (hh : ∀ q ∈ nx.head?, q.1 = pc') {L : Lo} {st : List AV} {S : Sto} {u : Nat} (h : K nx L st S u) : G pc' L st S u := hK nx pc' L st S u hs hh h
theorem kok_jump {G : Gt} {K : Tb → Lo → List AV → Sto → Nat → Prop} (hK : KOK tb G K) {t : Nat} {L : Lo} {st : List AV} {S : Sto} {u : Nat} (h : K (drp tb t) L st S u) : G t L st S u := hK _ t L st S u drp_suf drp_hd h
/-- chkI of a plain instruction -/
theorem chk_plain {cc : ByteArray} {own : String} {ini : Bool} {pc : Nat} {ins : Instr} {len xa xb : Nat} {xv : Int32} {xl : List Nat} {n : Nat} (h : (dcd cc pc ins len && len == n) = true) : decode cc pc = .ok (ins, n) ∧ len = n := by
  rw [Bool.and_eq_true] at h
  have h2 : len = n := eq_of_beq h.2
  subst h2
  exact ⟨dcd_ok h.1, rfl⟩
section
variable {pc len xa xb : Nat} {xv : Int32} {xl : List Nat} {xu : Nat} {xs : SP} {nx : Tb} {K : Tb → Lo → List AV → Sto → Nat → Prop} {L : Lo} {st : List AV} {S : Sto} {u : Nat}
variable (C : Cx p l s m meth c R cc own nL rk cb sb B ini g) (hK : KOK tb (Ga p l e R s m args below meth c Qm g α0 S0 nL cb sb B) K) (hsx : nx <:+ tb) (hnx : ∀ q ∈ nx.head?, q.1 = pc + len)
theorem s_load {n : Nat} {i : Nat} {v : AV} (hi : L[i]? = some (some v)) (hlen : len = n) (hr : ∀ {α : Nat → Nat → Nat} {H : Heap} {locs : List Loc} {ls : Array Slot}, ls[i]? = some (Slot.val (conc α v)) → W p l e R s m args below meth c H locs (cb + u) (sb + 120 * u) Qm (F0 m (pc + n) ls (conc α v :: st.map (conc α))) → W p l e R s m args below meth c H locs (cb + u) (sb + 120 * u) Qm (F0 m pc ls (st.map (conc α)))) (h : K nx L (v :: st) S u) (hK : KOK tb (Ga p l e R s m args below meth c Qm g α0 S0 nL cb sb B) K) (hsx : nx <:+ tb) (hnx : ∀ q ∈ nx.head?, q.1 = pc + len) : Go p l e R s m args below meth c Qm g α0 S0 nL cb sb B pc L st S u := by
  subst hlen
  intro hu α h9 H locs ls hR hE hL hst hS hLH
  exact hr (hLH.slot hi) (kok_next hK hsx hnx h hu α h9 H locs ls hR hE hL (lvV_cons (lvL_get hL hi) hst) hS hLH)
theorem s_iload_n {i : Fin 4} (hd : (dcd cc pc (.iload_n i) len && len == 1) = true) (h : getL L i.val fun v => isI v (K nx L (v :: st) S u)) (C : Cx p l s m meth c R cc own nL rk cb sb B ini g) (hK : KOK tb (Ga p l e R s m args below meth c Qm g α0 S0 nL cb sb B) K) (hsx : nx <:+ tb) (hnx : ∀ q ∈ nx.head?, q.1 = pc + len) : Go p l e R s m args below meth c Qm g α0 S0 nL cb sb B pc L st S u := by
  obtain ⟨v, h1, h2⟩ := getL_ok h
  obtain ⟨x, rfl, h3⟩ := isI_ok h2
  obtain ⟨hdg, hl⟩ := chk_plain (own := own) (ini := ini) (xa := 0) (xb := 0) (xv := 0) (xl := []) hd
  exact s_load h1 hl (fun hs kk => lv_iload_n C.1 C.2.1 hdg rfl hs kk) h3 hK hsx hnx
theorem s_iload {i : Nat} (hd : (dcd cc pc (.iload i) len && len == 2) = true) (h : getL L i fun v => isI v (K nx L (v :: st) S u)) (C : Cx p l s m meth c R cc own nL rk cb sb B ini g) (hK : KOK tb (Ga p l e R s m args below meth c Qm g α0 S0 nL cb sb B) K) (hsx : nx <:+ tb) (hnx : ∀ q ∈ nx.head?, q.1 = pc + len) : Go p l e R s m args below meth c Qm g α0 S0 nL cb sb B pc L st S u := by
  obtain ⟨v, h1, h2⟩ := getL_ok h
  obtain ⟨x, rfl, h3⟩ := isI_ok h2
  obtain ⟨hdg, hl⟩ := chk_plain (own := own) (ini := ini) (xa := 0) (xb := 0) (xv := 0) (xl := []) hd
  exact s_load h1 hl (fun hs kk => lv_iload C.1 C.2.1 hdg hs kk) h3 hK hsx hnx
theorem s_aload_n {i : Fin 4} (hd : (dcd cc pc (.aload_n i) len && len == 1) = true) (h : getL L i.val fun v => isR v (K nx L (v :: st) S u)) (C : Cx p l s m meth c R cc own nL rk cb sb B ini g) (hK : KOK tb (Ga p l e R s m args below meth c Qm g α0 S0 nL cb sb B) K) (hsx : nx <:+ tb) (hnx : ∀ q ∈ nx.head?, q.1 = pc + len) : Go p l e R s m args below meth c Qm g α0 S0 nL cb sb B pc L st S u := by
  obtain ⟨v, h1, h2⟩ := getL_ok h
  obtain ⟨a, b, rfl, h3⟩ := isR_ok h2
  obtain ⟨hdg, hl⟩ := chk_plain (own := own) (ini := ini) (xa := 0) (xb := 0) (xv := 0) (xl := []) hd
  exact s_load h1 hl (fun hs kk => lv_aload_n C.1 C.2.1 hdg rfl hs kk) h3 hK hsx hnx
theorem s_aload {i : Nat} (hd : (dcd cc pc (.aload i) len && len == 2) = true) (h : getL L i fun v => isR v (K nx L (v :: st) S u)) (C : Cx p l s m meth c R cc own nL rk cb sb B ini g) (hK : KOK tb (Ga p l e R s m args below meth c Qm g α0 S0 nL cb sb B) K) (hsx : nx <:+ tb) (hnx : ∀ q ∈ nx.head?, q.1 = pc + len) : Go p l e R s m args below meth c Qm g α0 S0 nL cb sb B pc L st S u := by
  obtain ⟨v, h1, h2⟩ := getL_ok h
  obtain ⟨a, b, rfl, h3⟩ := isR_ok h2
  obtain ⟨hdg, hl⟩ := chk_plain (own := own) (ini := ini) (xa := 0) (xb := 0) (xv := 0) (xl := []) hd
  exact s_load h1 hl (fun hs kk => lv_aload C.1 C.2.1 hdg hs kk) h3 hK hsx hnx
theorem s_lload_n {i : Fin 4} (hd : (dcd cc pc (.lload_n i) len && len == 1) = true) (h : getL L i.val fun v => isJ v (K nx L (v :: st) S u)) (C : Cx p l s m meth c R cc own nL rk cb sb B ini g) (hK : KOK tb (Ga p l e R s m args below meth c Qm g α0 S0 nL cb sb B) K) (hsx : nx <:+ tb) (hnx : ∀ q ∈ nx.head?, q.1 = pc + len) : Go p l e R s m args below meth c Qm g α0 S0 nL cb sb B pc L st S u := by
  obtain ⟨v, h1, h2⟩ := getL_ok h
  obtain ⟨x, rfl, h3⟩ := isJ_ok h2
  obtain ⟨hdg, hl⟩ := chk_plain (own := own) (ini := ini) (xa := 0) (xb := 0) (xv := 0) (xl := []) hd
  exact s_load h1 hl (fun hs kk => lv_lload_n C.1 C.2.1 hdg rfl hs kk) h3 hK hsx hnx
theorem s_lload {i : Nat} (hd : (dcd cc pc (.lload i) len && len == 2) = true) (h : getL L i fun v => isJ v (K nx L (v :: st) S u)) (C : Cx p l s m meth c R cc own nL rk cb sb B ini g) (hK : KOK tb (Ga p l e R s m args below meth c Qm g α0 S0 nL cb sb B) K) (hsx : nx <:+ tb) (hnx : ∀ q ∈ nx.head?, q.1 = pc + len) : Go p l e R s m args below meth c Qm g α0 S0 nL cb sb B pc L st S u := by
  obtain ⟨v, h1, h2⟩ := getL_ok h
  obtain ⟨x, rfl, h3⟩ := isJ_ok h2
  obtain ⟨hdg, hl⟩ := chk_plain (own := own) (ini := ini) (xa := 0) (xb := 0) (xv := 0) (xl := []) hd
  exact s_load h1 hl (fun hs kk => lv_lload C.1 C.2.1 hdg hs kk) h3 hK hsx hnx
/-- a store of one slot -/
theorem s_store {n i : Nat} {v : AV} {r : List AV} (hi : Nat.blt i L.length = true) (hlen : len = n)
    (hr : ∀ {α : Nat → Nat → Nat} {H : Heap} {locs : List Loc} {ls : Array Slot}, lv_has ls nL (kn α L) → i < nL → (∀ ls' : Array Slot, lv_has ls' nL ((i, conc α v) :: (kn α L).filter (fun q => !(q.1 == i) && !(q.1 + 1 == i && q.2.category == 2))) → W p l e R s m args below meth c H locs (cb + u) (sb + 120 * u) Qm (F0 m (pc + n) ls' (r.map (conc α)))) → W p l e R s m args below meth c H locs (cb + u) (sb + 120 * u) Qm (F0 m pc ls ((v :: r).map (conc α))))
    (h : K nx (setL L i v) r S u) (hK : KOK tb (Ga p l e R s m args below meth c Qm g α0 S0 nL cb sb B) K) (hsx : nx <:+ tb) (hnx : ∀ q ∈ nx.head?, q.1 = pc + len) : Go p l e R s m args below meth c Qm g α0 S0 nL cb sb B pc L (v :: r) S u := by
  subst hlen
  intro hu α h9 H locs ls hR hE hL hst hS hLH
  have hi' : i < nL := by
    rw [← hLH.2.1]
    simpa [Nat.blt_eq] using hi
  exact hr hLH.has hi' fun ls' hl => kok_next hK hsx hnx h hu α h9 H locs ls' hR hE (setL_mem hL (lvV_hd hst)) (lvV_tail hst) hS (hLH.set hl)
theorem s_istore_n {i : Fin 4} (hd : (dcd cc pc (.istore_n i) len && len == 1) = true) (h : i1 st fun a r => bif Nat.blt i.val L.length then forceL (setL L i.val (aI a)) fun L' => K nx L' r S u else False) (C : Cx p l s m meth c R cc own nL rk cb sb B ini g) (hK : KOK tb (Ga p l e R s m args below meth c Qm g α0 S0 nL cb sb B) K) (hsx : nx <:+ tb) (hnx : ∀ q ∈ nx.head?, q.1 = pc + len) : Go p l e R s m args below meth c Qm g α0 S0 nL cb sb B pc L st S u := by
  obtain ⟨a, r, rfl, h1⟩ := i1_ok h
  obtain ⟨h2, h3⟩ := cond_ok h1
  obtain ⟨hdg, hl⟩ := chk_plain (own := own) (ini := ini) (xa := 0) (xb := 0) (xv := 0) (xl := []) hd
  exact s_store (v := aI a) h2 hl (fun hh hi kk => lv_istore_n C.1 C.2.1 hdg rfl hh hi rfl kk) (forceL_ok h3) hK hsx hnx
theorem s_istore {i : Nat} (hd : (dcd cc pc (.istore i) len && len == 2) = true) (h : i1 st fun a r => bif Nat.blt i L.length then forceL (setL L i (aI a)) fun L' => K nx L' r S u else False) (C : Cx p l s m meth c R cc own nL rk cb sb B ini g) (hK : KOK tb (Ga p l e R s m args below meth c Qm g α0 S0 nL cb sb B) K) (hsx : nx <:+ tb) (hnx : ∀ q ∈ nx.head?, q.1 = pc + len) : Go p l e R s m args below meth c Qm g α0 S0 nL cb sb B pc L st S u := by
  obtain ⟨a, r, rfl, h1⟩ := i1_ok h
  obtain ⟨h2, h3⟩ := cond_ok h1
  obtain ⟨hdg, hl⟩ := chk_plain (own := own) (ini := ini) (xa := 0) (xb := 0) (xv := 0) (xl := []) hd
  exact s_store (v := aI a) h2 hl (fun hh hi kk => lv_istore C.1 C.2.1 hdg hh hi rfl kk) (forceL_ok h3) hK hsx hnx
theorem s_astore_n {i : Fin 4} (hd : (dcd cc pc (.astore_n i) len && len == 1) = true) (h : r1 st fun a b r => bif Nat.blt i.val L.length then forceL (setL L i.val (aR a b)) fun L' => K nx L' r S u else False) (C : Cx p l s m meth c R cc own nL rk cb sb B ini g) (hK : KOK tb (Ga p l e R s m args below meth c Qm g α0 S0 nL cb sb B) K) (hsx : nx <:+ tb) (hnx : ∀ q ∈ nx.head?, q.1 = pc + len) : Go p l e R s m args below meth c Qm g α0 S0 nL cb sb B pc L st S u := by
  obtain ⟨a, b, r, rfl, h1⟩ := r1_ok h
  obtain ⟨h2, h3⟩ := cond_ok h1
  obtain ⟨hdg, hl⟩ := chk_plain (own := own) (ini := ini) (xa := 0) (xb := 0) (xv := 0) (xl := []) hd
  exact s_store (v := aR a b) h2 hl (fun hh hi kk => lv_astore_n C.1 C.2.1 hdg rfl hh hi rfl kk) (forceL_ok h3) hK hsx hnx
theorem s_astore {i : Nat} (hd : (dcd cc pc (.astore i) len && len == 2) = true) (h : r1 st fun a b r => bif Nat.blt i L.length then forceL (setL L i (aR a b)) fun L' => K nx L' r S u else False) (C : Cx p l s m meth c R cc own nL rk cb sb B ini g) (hK : KOK tb (Ga p l e R s m args below meth c Qm g α0 S0 nL cb sb B) K) (hsx : nx <:+ tb) (hnx : ∀ q ∈ nx.head?, q.1 = pc + len) : Go p l e R s m args below meth c Qm g α0 S0 nL cb sb B pc L st S u := by
  obtain ⟨a, b, r, rfl, h1⟩ := r1_ok h
  obtain ⟨h2, h3⟩ := cond_ok h1
  obtain ⟨hdg, hl⟩ := chk_plain (own := own) (ini := ini) (xa := 0) (xb := 0) (xv := 0) (xl := []) hd
  exact s_store (v := aR a b) h2 hl (fun hh hi kk => lv_astore C.1 C.2.1 hdg hh hi rfl kk) (forceL_ok h3) hK hsx hnx
/-- a store of a long -/
theorem s_store2 {n i : Nat} {v : AV} {r : List AV} (hi : Nat.blt (i + 1) L.length = true) (hlen : len = n)
    (hr : ∀ {α : Nat → Nat → Nat} {H : Heap} {locs : List Loc} {ls : Array Slot}, lv_has ls nL (kn α L) → i + 1 < nL → (∀ ls' : Array Slot, lv_has ls' nL ((i, conc α v) :: (kn α L).filter (fun q => !(q.1 == i) && (!(q.1 == i + 1) && !(q.1 + 1 == i && q.2.category == 2)))) → W p l e R s m args below meth c H locs (cb + u) (sb + 120 * u) Qm (F0 m (pc + n) ls' (r.map (conc α)))) → W p l e R s m args below meth c H locs (cb + u) (sb + 120 * u) Qm (F0 m pc ls ((v :: r).map (conc α))))
    (h : K nx (setL2 L i v) r S u) (hK : KOK tb (Ga p l e R s m args below meth c Qm g α0 S0 nL cb sb B) K) (hsx : nx <:+ tb) (hnx : ∀ q ∈ nx.head?, q.1 = pc + len) : Go p l e R s m args below meth c Qm g α0 S0 nL cb sb B pc L (v :: r) S u := by
  subst hlen
  intro hu α h9 H locs ls hR hE hL hst hS hLH
  have hi' : i + 1 < nL := by
    rw [← hLH.2.1]
    simpa [Nat.blt_eq] using hi
  exact hr hLH.has hi' fun ls' hl => kok_next hK hsx hnx h hu α h9 H locs ls' hR hE (setL2_mem hL (lvV_hd hst)) (lvV_tail hst) hS (hLH.set2 hl)
theorem j1_ok {st : List AV} {k : Int64 → List AV → Prop} (h : match st with
        | Sum.inr (Sum.inl a) :: r => k a r
        | _ => False) : ∃ a r, st = aL a :: r ∧ k a r := by
  rcases st with _ | ⟨v | (v | v), r⟩
  · exact h.elim
  · exact h.elim
  · exact ⟨v, r, rfl, h⟩
  · exact h.elim
theorem s_iinc {i : Nat} {n : Int} (hd : (dcd cc pc (.iinc i n) len && len == 3) = true) (hv : Int32.ofInt n = xv) (h : getL L i fun v => match v with
        | Sum.inl a => bif Nat.blt i L.length then forceL (setL L i (aI (a + xv))) fun L' => K nx L' st S u else False
        | _ => False) (C : Cx p l s m meth c R cc own nL rk cb sb B ini g) (hK : KOK tb (Ga p l e R s m args below meth c Qm g α0 S0 nL cb sb B) K) (hsx : nx <:+ tb) (hnx : ∀ q ∈ nx.head?, q.1 = pc + len) : Go p l e R s m args below meth c Qm g α0 S0 nL cb sb B pc L st S u := by
  obtain ⟨v, h1, h2⟩ := getL_ok h
  rcases v with a | v
  · obtain ⟨h3, h4⟩ := cond_ok h2
    obtain ⟨hdg, rfl⟩ := chk_plain (own := own) (ini := ini) (xa := 0) (xb := 0) (xv := 0) (xl := []) hd
    intro hu α h9 H locs ls hR hE hL hst hS hLH
    have hi' : i < nL := by
      rw [← hLH.2.1]
      simpa [Nat.blt_eq] using h3
    have hm : (i, Value.int a) ∈ kn α L := kn_mem.mpr ⟨aI a, h1, rfl⟩
    obtain ⟨k, hk⟩ := List.getElem?_of_mem hm
    exact lv_iinc C.1 C.2.1 hdg hLH.has hk (by rw [hv]) hi' rfl fun ls' hl => kok_next hK hsx hnx (forceL_ok h4) hu α h9 H locs ls' hR hE (setL_mem hL trivial) hst hS (hLH.set (v := aI (a + xv)) hl)
  · exact h2.elim
end
end STP
