/-! SOUND, instruction by instruction: the heap, returns, calls -/
def RetAt (cc : ByteArray) (pc : Nat) (rb : Nat) : Option AV → Prop
  | none => rb = 0 ∧ decode cc pc = .ok (.return_, 1)
  | some (Sum.inl a) => (rb = 1 ∨ (rb = 2 ∧ a &&& 1 = a)) ∧ decode cc pc = .ok (.ireturn, 1)
  | some (Sum.inr (Sum.inl _)) => False
  | some (Sum.inr (Sum.inr _)) => rb = 3 ∧ decode cc pc = .ok (.areturn, 1)
/-- how a body ends -/
def Fin (p : Program) (l : Launch) (e : Env) (R : Room) (s : State) (m : MethodId) (args : Array Value) (below : List Frame) (meth : Method) (c : Code) (Qm : State → Prop) (g : GT) (α0 : Nat → Nat → Nat) (S0 : Sto) (nL cb sb B : Nat) (cc : ByteArray) (own : String) (Q : Out → Sto → Prop) (rb : Nat) (hn : List (Nat × Nat × Nat × Nat)) : Prop :=
  (∀ (r : Option AV) (S : Sto) (u : Nat) (α : Nat → Nat → Nat) (h : HT) (H : Heap) (locs : List Loc) (pc : Nat) (ls : Array Slot), Q (Sum.inl r) S → u ≤ B → Rep g α h S H → Ext α0 S0 α S → LvO S r → va_S (AB g) s.heap H locs → RetAt cc pc rb r → W p l e R s m args below meth c H locs (cb + u) (sb + 120 * u) Qm (F0 m pc ls (r.map (conc α)).toList)) ∧
  (∀ (x : Nat) (S : Sto) (u : Nat) (α : Nat → Nat → Nat) (h : HT) (H : Heap) (locs : List Loc) (pc : Nat) (ls : Array Slot) (rest : List Value) (q : Addr) (ce : Cell), Q (Sum.inr x) S → u ≤ B → Rep g α h S H → Ext α0 S0 α S → va_S (AB g) s.heap H locs → fH hn pc x = none → H[q]? = some ce → ce.vm = .none → s.vm.findClass (exn x) = some ce.cls →
    vx_W p l e R s m args below meth c H locs (cb + u) (sb + 120 * u) Qm (F0 m pc ls rest) q) ∧
  (∀ (x t : Nat) (u : Nat) (H : Heap) (locs : List Loc) (pc : Nat) (ls : Array Slot) (rest : List Value) (q : Addr) (ce : Cell), fH hn pc x = some t → H[q]? = some ce → ce.vm = .none → s.vm.findClass (exn x) = some ce.cls → W p l e R s m args below meth c H locs (cb + u) (sb + 120 * u) Qm (F0 m t ls [.ref q]) →
    vx_W p l e R s m args below meth c H locs (cb + u) (sb + 120 * u) Qm (F0 m pc ls rest) q) ∧
  (∀ (x pc i len : Nat) (xl : List Nat) (S : Sto) (u : Nat) (α : Nat → Nat → Nat) (h : HT) (H : Heap) (locs : List Loc) (ls : Array Slot) (rest : List Value), chkT cc own pc i x len xl = true → Q (Sum.inr x) S → u + 1 ≤ B → Rep g α h S H → Ext α0 S0 α S → va_S (AB g) s.heap H locs → ls.size = nL → (rest.map fun v => v.category).sum ≤ 8 →
    W p l e R s m args below meth c H locs (cb + u) (sb + 120 * u) Qm (F0 m pc ls rest)) ∧
  (∀ (pc i len : Nat) (xl : List Nat) (S : Sto) (u : Nat) (α : Nat → Nat → Nat) (h : HT) (H : Heap) (locs : List Loc) (ls : Array Slot) (rest : List Value), chkL cc own pc i len xl = true → S.2.2 13 < 5 → S.2.2 (20 + S.2.2 13) = 0 → u + 1 ≤ B → Rep g α h S H → va_S (AB g) s.heap H locs → ls.size = nL → (rest.map fun v => v.category).sum ≤ 6 →
    (∀ (h' : HT) (H1 : Heap) (locs1 : List Loc) (q : Nat), Rep g (al1 α 13 (S.2.2 13) q) h' (mkL S) H1 → va_S (AB g) s.heap H1 locs1 → W p l e R s m args below meth c H1 locs1 (cb + (u + 1)) (sb + 120 * (u + 1)) Qm (F0 m (pc + 7) ls (.ref q :: rest))) →
    W p l e R s m args below meth c H locs (cb + u) (sb + 120 * u) Qm (F0 m pc ls rest))
section STR
variable {p : Program} {l : Launch} {e : Env} {R : Room} {s : State} {m : MethodId} {args : Array Value} {below : List Frame} {meth : Method} {c : Code} {Qm : State → Prop} {g : GT} {α0 : Nat → Nat → Nat} {S0 : Sto} {cc : ByteArray} {own : String} {nL rk cb sb B : Nat} {ini : Bool} {rb : Nat}
variable {tb : Tb} {Q : Out → Sto → Prop} {hn : List (Nat × Nat × Nat × Nat)} {scr : Nat × (Nat → Int32)}
variable {pc len xa xb : Nat} {xv : Int32} {xl : List Nat} {xu : Nat} {xs : SP} {nx : Tb} {K : Tb → Lo → List AV → Sto → Nat → Prop} {L : Lo} {st : List AV} {S : Sto} {u : Nat}
theorem gF_ok {k f i : Nat} {k' : AV → Prop} (h : gF S k f i k') : ((ft k f).1 = 0 ∧ k' (aI (S.1 k f i))) ∨ ((ft k f).1 ≠ 0 ∧ ((ft k f).1 ≠ 1 → S.1 k f i ≠ 0) ∧ k' (aR (fR k f i).1 (fR k f i).2)) := by
  unfold gF at h
  unfold fR
  rcases hft : ft k f with ⟨t, a, b⟩
  rw [hft] at h
  rcases t with _ | _ | _ | t
  · exact Or.inl ⟨rfl, h⟩
  · exact Or.inr ⟨by simp, fun q => absurd rfl q, h⟩
  · exact Or.inr ⟨by simp, fun _ => h.1, h.2⟩
  · refine Or.inr ⟨by omega, fun _ => h.1, ?_⟩
    rw [if_neg (by omega)]
    exact h.2
theorem fv_int {α : Nat → Nat → Nat} {k i f : Nat} (h : (ft k f).1 = 0) : fv α S k i f = .int (S.1 k f i) := by
  unfold fv
  rcases hft : ft k f with ⟨t, a, b⟩
  rw [hft] at h
  dsimp only at h
  subst h
  rfl
theorem fv_ref {α : Nat → Nat → Nat} {k i f : Nat} (h : (ft k f).1 ≠ 0) (h2 : (ft k f).1 ≠ 1 → S.1 k f i ≠ 0) : fv α S k i f = .ref (α (fR k f i).1 (fR k f i).2) := by
  unfold fv
  unfold fR
  rcases hft : ft k f with ⟨t, a, b⟩
  rw [hft] at h h2
  dsimp only at h h2
  rcases t with _ | _ | _ | t
  · exact absurd rfl h
  · rfl
  · show (if S.1 k f i = 0 then Value.null else Value.ref _) = _
    rw [if_neg (h2 (by decide))]
    rfl
  · show (if S.1 k f i = 0 then Value.null else Value.ref _) = _
    rw [if_neg (h2 (by omega)), if_neg (by omega)]
theorem fk_no {k f i : Nat} (hk : obK k = true) (hf : f < nf k) : (fR k f i).1 ≠ 99 := by
  have h : (List.range (nf k)).all (fun f => decide ((ft k f).2.1 ≠ 99)) = true := by
    rcases obK_or hk with rfl | rfl | rfl | rfl | rfl | rfl | rfl | rfl | rfl | rfl <;> decide +kernel
  have h2 := List.all_eq_true.mp h f (List.mem_range.mpr hf)
  unfold fR
  split <;> simpa using h2
theorem hbase {H : Heap} {locs : List Loc} (C : Cx p l s m meth c R cc own nL rk cb sb B ini g) (hS : va_S (AB g) s.heap H locs) : g.2.2.2 ≤ H.size := Nat.le_trans C.2.2.2.2.2.2.2.2.2.1 hS.1
theorem s_getfield {k : Nat} (hd : (dcd cc pc (.getfield k) len && len == 3) = true) {w : Nat} (hv : (Nat.blt xb (vC xa).2.2 && decide (((vC xa).2.1 xb).1 = (vC xa).1) && wdAt w (.fieldLink own k (vC xa).1 ((vC xa).2.1 xb).2.1 ((vC xa).2.1 xb).2.2.1)) = true) (h : r1 st fun k i r => bif obK k && ci k == xa then gF S k xb i fun v => K nx L (v :: r) S u else False) (C : Cx p l s m meth c R cc own nL rk cb sb B ini g) (hK : KOK tb (Ga p l e R s m args below meth c Qm g α0 S0 nL cb sb B) K) (hsx : nx <:+ tb) (hnx : ∀ q ∈ nx.head?, q.1 = pc + len) : Go p l e R s m args below meth c Qm g α0 S0 nL cb sb B pc L st S u := by
  obtain ⟨hdg, rfl⟩ := chk_plain (own := own) (ini := ini) (xa := 0) (xb := 0) (xv := 0) (xl := []) hd
  obtain ⟨k', i, r, rfl, hA⟩ := r1_ok h
  obtain ⟨h1, hB⟩ := cond_ok hA
  rw [Bool.and_eq_true] at h1
  obtain ⟨hk, h2⟩ := h1
  have h2 : ci k' = xa := eq_of_beq h2
  subst h2
  simp only [Bool.and_eq_true, decide_eq_true_eq, Nat.blt_eq] at hv
  obtain ⟨⟨hb1, hb2⟩, hb3⟩ := hv
  have hf : xb < nf k' := by rw [(kd_KF hk).2]; exact hb1
  intro hu α h9 H locs ls hR hE hL hst hS hLH
  have hi : i < S.2.2 k' := LvR_of (lvV_hd hst) (Or.inl hk)
  have key := w_get (own := own) (idx := k) (rest := r.map (conc α)) (ls := ls) (pc := pc) (cells := cb + u) (slots := sb + 120 * u) (locs := locs) (Q := Qm) (e := e) (R := R) (args := args) (below := below) (meth := meth) (l := l) C.1 C.2.1 C.2.2.2.1 C.2.2.2.2.2.2.1 C.2.2.2.2.2.2.2.1 hR hk hi hf (wdAt_ok hb3 C.2.2.2.2.2.2.2.1 _) hb2 hdg
  rw [List.map_cons, conc_ob (ob_ne (Or.inl hk)).2.1]
  refine key ?_
  rcases gF_ok hB with ⟨h3, h4⟩ | ⟨h3, h5, h4⟩
  · rw [fv_int h3]
    exact kok_next hK hsx hnx h4 hu α h9 H locs ls hR hE hL (lvV_cons trivial (lvV_tail hst)) hS hLH
  · rw [fv_ref h3 h5]
    have hl : LvR S (fR k' xb i).1 (fR k' xb i).2 := (hR.2.2.2.1 k' i xb hk hi hf h3).resolve_left fun q => h5 q.1 q.2
    have := kok_next hK hsx hnx h4 hu α h9 H locs ls hR hE hL (lvV_cons (v := aR _ _) hl (lvV_tail hst)) hS hLH
    rw [List.map_cons, conc_ob (fk_no hk hf)] at this
    exact this
theorem s_putfield {k : Nat} (hd : (dcd cc pc (.putfield k) len && len == 3) = true) {w : Nat} (hv : (Nat.blt xb (vC xa).2.2 && decide (((vC xa).2.1 xb).1 = (vC xa).1) && wdAt w (.fieldLink own k (vC xa).1 ((vC xa).2.1 xb).2.1 ((vC xa).2.1 xb).2.2.1) && (!((vC xa).2.1 xb).2.2.2 || (ini && decide ((vC xa).1 = own)))) = true) (h : match st with
        | v :: Sum.inr (Sum.inr (k, i)) :: r => bif obK k && ci k == xa then pF S k xb i v fun S' => K nx L r S' u else False
        | _ => False) (C : Cx p l s m meth c R cc own nL rk cb sb B ini g) (hK : KOK tb (Ga p l e R s m args below meth c Qm g α0 S0 nL cb sb B) K) (hsx : nx <:+ tb) (hnx : ∀ q ∈ nx.head?, q.1 = pc + len) : Go p l e R s m args below meth c Qm g α0 S0 nL cb sb B pc L st S u := by
  obtain ⟨hdg, rfl⟩ := chk_plain (own := own) (ini := ini) (xa := 0) (xb := 0) (xv := 0) (xl := []) hd
  rcases st with _ | ⟨v, _ | ⟨w1 | (w1 | ⟨k', i⟩), r⟩⟩
  · exact h.elim
  · exact h.elim
  · exact h.elim
  · exact h.elim
  · obtain ⟨h1, hB⟩ := cond_ok h
    rw [Bool.and_eq_true] at h1
    obtain ⟨hk, h2⟩ := h1
    have h2 : ci k' = xa := eq_of_beq h2
    subst h2
    simp only [Bool.and_eq_true, decide_eq_true_eq, Nat.blt_eq, Bool.or_eq_true, Bool.not_eq_true'] at hv
    obtain ⟨⟨⟨hb1, hb2⟩, hb3⟩, hb4⟩ := hv
    have hf : xb < nf k' := by rw [(kd_KF hk).2]; exact hb1
    have hty := kd_ty hk hf
    have hfin : ((vC (ci k')).2.1 xb).2.2.2 = false ∨ (meth.name = "<init>" ∧ (vC (ci k')).1 = own) := hb4.imp id fun q => ⟨C.2.2.2.2.2.1 q.1, q.2⟩
    intro hu α h9 H locs ls hR hE hL hst hS hLH
    have hi : i < S.2.2 k' := LvR_of (lvV_hd (lvV_tail hst)) (Or.inl hk)
    have go : ∀ x : Int32, conc α v = fv α (wrI S k' xb i x) k' i xb → (narrow (tyC (ci k') xb) (fv α (wrI S k' xb i x) k' i xb) = fv α (wrI S k' xb i x) k' i xb ∧ fits (tyC (ci k') xb) (fv α (wrI S k' xb i x) k' i xb) = true) → ((ft k' xb).1 = 0 ∨ LvR S (fR k' xb i).1 (fR k' xb i).2) → K nx L r (wrI S k' xb i x) u → W p l e R s m args below meth c H locs (cb + u) (sb + 120 * u) Qm (F0 m pc ls ((v :: Sum.inr (Sum.inr (k', i)) :: r).map (conc α))) := by
      intro x hcv hfit hlv hkk
      rw [List.map_cons, List.map_cons, hcv, show conc α (Sum.inr (Sum.inr (k', i))) = .ref (α k' i) from conc_ob (ob_ne (Or.inl hk)).2.1]
      exact w_put C.1 C.2.1 C.2.2.2.1 C.2.2.2.2.2.2.1 C.2.2.2.2.2.2.2.1 hR hS hk hi hf (wdAt_ok hb3 C.2.2.2.2.2.2.2.1 _) hb2 hfin hfit hlv hdg fun H1 locs1 hR1 hS1 => kok_next hK hsx hnx hkk hu α h9 H1 locs1 ls hR1 hE hL (lvV_tail (lvV_tail hst)) hS1 hLH
    unfold pF at hB
    rcases hft : ft k' xb with ⟨t, a, b⟩
    rw [hft] at hB hty
    dsimp only at hty
    have hfr : (fR k' xb i) = if t ≤ 2 then (a, b) else (a, i) := by unfold fR; rw [hft]
    rcases t with _ | _ | _ | _ | t
    · rcases v with x | v
      · rw [if_pos rfl] at hty
        have e1 : fv α (wrI S k' xb i x) k' i xb = .int x := by rw [fv_int (by rw [hft]), wrI_at, if_pos ⟨rfl, rfl, rfl⟩]
        exact go x e1.symm (by rw [e1, hty]; exact ⟨rfl, rfl⟩) (Or.inl (by rw [hft])) hB
      · exact hB.elim
    · exact hB.elim
    · rcases v with x | (v | ⟨a', b'⟩)
      · exact hB.elim
      · exact hB.elim
      · obtain ⟨h3, h4⟩ := cond_ok hB
        rw [Bool.and_eq_true] at h3
        have ea : a' = a := eq_of_beq h3.1
        have eb : b' = b := eq_of_beq h3.2
        subst ea eb
        rw [if_neg (by decide)] at hty
        have hfr2 : fR k' xb i = (a', b') := hfr
        have e1 : fv α (wrI S k' xb i 1) k' i xb = .ref (α a' b') := by
          rw [fv_ref (by rw [hft]; simp) (fun _ => by rw [wrI_at, if_pos ⟨rfl, rfl, rfl⟩]; decide), hfr2]
        have h99 : a' ≠ 99 := by have := fk_no (i := i) hk hf; rw [hfr2] at this; exact this
        exact go 1 (by rw [e1]; exact conc_ob h99) (by rw [e1]; exact (rty_ok hty.1).2 _) (Or.inr (by rw [hfr2]; exact lvV_hd hst)) h4
    · rcases v with x | (v | ⟨a', b'⟩)
      · exact hB.elim
      · exact hB.elim
      · obtain ⟨h3, h5, h4⟩ := cond_ok hB
        have ea : a' = a := eq_of_beq h3
        subst ea h5
        rw [if_neg (by decide)] at hty
        have hfr2 : fR k' xb b' = (a', b') := hfr
        have e1 : fv α (wrI S k' xb b' 1) k' b' xb = .ref (α a' b') := by
          rw [fv_ref (by rw [hft]; simp) (fun _ => by rw [wrI_at, if_pos ⟨rfl, rfl, rfl⟩]; decide), hfr2]
        have h99 : a' ≠ 99 := by have := fk_no (i := b') hk hf; rw [hfr2] at this; exact this
        exact go 1 (by rw [e1]; exact conc_ob h99) (by rw [e1]; exact (rty_ok hty.1).2 _) (Or.inr (by rw [hfr2]; exact lvV_hd hst)) h4
    · rcases v with x | (v | ⟨a', b'⟩)
      · exact hB.elim
      · exact hB.elim
      · exact hB.elim
end STR
