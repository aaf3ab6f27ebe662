/-! SOUND, instruction by instruction: new objects, casts, returns, calls -/
section STT
variable {p : Program} {l : Launch} {e : Env} {R : Room} {s : State} {m : MethodId} {args : Array Value} {below : List Frame} {meth : Method} {c : Code} {Qm : State → Prop} {g : GT} {α0 : Nat → Nat → Nat} {S0 : Sto} {cc : ByteArray} {own : String} {nL rk cb sb B : Nat} {ini : Bool} {rb : Nat}
variable {tb : Tb} {Q : Out → Sto → Prop} {hn : List (Nat × Nat × Nat × Nat)} {scr : Nat × (Nat → Int32)}
variable {pc len xa xb : Nat} {xv : Int32} {xl : List Nat} {xu : Nat} {xs : SP} {nx : Tb} {K : Tb → Lo → List AV → Sto → Nat → Prop} {L : Lo} {st : List AV} {S : Sto} {u : Nat}
theorem LH.ag {α α' : Nat → Nat → Nat} {ls : Array Slot} (h : LH α ls nL L) (hL : ∀ a, some a ∈ L → LvV S a) (ha : AgR S α α') : LH α' ls nL L := by
  refine ⟨h.1, h.2.1, h.2.2.1, fun i a hi => ?_⟩
  have h1 := h.2.2.2 i a hi
  have h2 := hL a (List.mem_of_getElem? hi)
  rcases a with x | (x | ⟨k, j⟩)
  · exact h1
  · exact h1
  · have : conc α' (Sum.inr (Sum.inr (k, j))) = conc α (Sum.inr (Sum.inr (k, j))) := by
      show Value.ref _ = Value.ref _
      by_cases h9 : k = 99
      · rw [if_pos h9, if_pos h9]
      · rw [if_neg h9, if_neg h9, ha k j h2]
    rw [this]
    exact h1
theorem conc_ag {α α' : Nat → Nat → Nat} {S : Sto} {st : List AV} (hst : ∀ a ∈ st, LvV S a) (ha : AgR S α α') : st.map (conc α') = st.map (conc α) := by
  refine List.map_congr_left fun a hm => ?_
  have h2 := hst a hm
  rcases a with x | (x | ⟨k, j⟩)
  · rfl
  · rfl
  · show Value.ref _ = Value.ref _
    by_cases h9 : k = 99
    · rw [if_pos h9, if_pos h9]
    · rw [if_neg h9, if_neg h9, ha k j h2]
theorem LvV_le {S S' : Sto} (hN : ∀ k, S.2.2 k ≤ S'.2.2 k) {a : AV} (h : LvV S a) : LvV S' a := by
  rcases a with x | (x | ⟨k, j⟩)
  · trivial
  · trivial
  · exact LvR_le hN h
theorem Ext.tr {α1 α2 α3 : Nat → Nat → Nat} {S1 S2 S3 : Sto} (h : Ext α1 S1 α2 S2) (h' : Ext α2 S2 α3 S3) : Ext α1 S1 α3 S3 := ⟨fun k i hl => (h'.1 k i (LvR_le h.2 hl)).trans (h.1 k i hl), fun k => Nat.le_trans (h.2 k) (h'.2 k)⟩
/-- a step that makes something new: the frame's own values stay -/
theorem go_new {α α' : Nat → Nat → Nat} {h' : HT} {S' : Sto} {u' pc' : Nat} {L : Lo} {st : List AV} {S : Sto} {v : AV} {H1 : Heap} {locs1 : List Loc} {ls : Array Slot} (hgo : Go p l e R s m args below meth c Qm g α0 S0 nL cb sb B pc' L (v :: st) S' u') (hu : u' ≤ B) (hR : Rep g α' h' S' H1) (hE : Ext α0 S0 α S) (hE2 : Ext α S α' S')
    (hL : ∀ a, some a ∈ L → LvV S a) (hst : ∀ a ∈ st, LvV S a) (hv : LvV S' v) (hS : va_S (AB g) s.heap H1 locs1) (hLH : LH α ls nL L) : W p l e R s m args below meth c H1 locs1 (cb + u') (sb + 120 * u') Qm (F0 m pc' ls (conc α' v :: st.map (conc α))) := by
  have := hgo hu α' h' H1 locs1 ls hR (hE.tr hE2) (fun a ha => LvV_le hE2.2 (hL a ha)) (lvV_cons hv fun a ha => LvV_le hE2.2 (hst a ha)) hS (hLH.ag hL hE2.1)
  rw [List.map_cons, conc_ag hst hE2.1] at this
  exact this
theorem go_new0 {α α' : Nat → Nat → Nat} {h' : HT} {S' : Sto} {u' pc' : Nat} {L : Lo} {st : List AV} {S : Sto} {H1 : Heap} {locs1 : List Loc} {ls : Array Slot} (hgo : Go p l e R s m args below meth c Qm g α0 S0 nL cb sb B pc' L st S' u') (hu : u' ≤ B) (hR : Rep g α' h' S' H1) (hE : Ext α0 S0 α S) (hE2 : Ext α S α' S')
    (hL : ∀ a, some a ∈ L → LvV S a) (hst : ∀ a ∈ st, LvV S a) (hS : va_S (AB g) s.heap H1 locs1) (hLH : LH α ls nL L) : W p l e R s m args below meth c H1 locs1 (cb + u') (sb + 120 * u') Qm (F0 m pc' ls (st.map (conc α))) := by
  have := hgo hu α' h' H1 locs1 ls hR (hE.tr hE2) (fun a ha => LvV_le hE2.2 (hL a ha)) (fun a ha => LvV_le hE2.2 (hst a ha)) hS (hLH.ag hL hE2.1)
  rw [conc_ag hst hE2.1] at this
  exact this
theorem nfs_le {k : Nat} (hk : obK k = true) : (vC (ci k)).2.2 ≤ 40 := by
  rcases obK_or hk with rfl | rfl | rfl | rfl | rfl | rfl | rfl | rfl | rfl | rfl <;> decide
theorem al_le {k i : Nat} : al k i ≤ 3000 := by
  have h1 : ∀ (l : List Nat), (∀ x ∈ l, x ≤ 3000) → ∀ i, l.getD i 0 ≤ 3000 := by
    intro l hl i
    rw [List.getD_eq_getElem?_getD]
    cases hq : l[i]? with
    | none => exact Nat.zero_le _
    | some x => exact hl x (List.mem_of_getElem? hq)
  unfold al
  split
  · exact h1 _ (by decide) i
  · exact h1 _ (by decide) i
  · omega
  · omega
theorem s_newarray {t : ArrayType} (hd : (dcd cc pc (.newarray t) len && len == 2) = true) {w : Nat} (hv : (((xa == 10 && decide (t = .int)) || (xa == 11 && decide (t = .boolean)) || (xa == 12 && decide (t = .long))) && wdAt w (.arrayClass (newarray.typeOf t))) = true) (h : i1 st fun a r => bif xa == 10 || xa == 11 then a = Int32.ofNat (al xa (S.2.2 xa)) ∧ (bif Nat.ble (u + 30) B then K nx L (aR xa (S.2.2 xa) :: r) (mkA S xa) (u + 30) else False) else
          bif xa == 12 then a = 25 ∧ (bif Nat.ble (u + 30) B then K nx L (aR 12 (S.2.2 12) :: r) (mkJ S) (u + 30) else False) else False) (C : Cx p l s m meth c R cc own nL rk cb sb B ini g) (hK : KOK tb (Ga p l e R s m args below meth c Qm g α0 S0 nL cb sb B) K) (hsx : nx <:+ tb) (hnx : ∀ q ∈ nx.head?, q.1 = pc + len) : Go p l e R s m args below meth c Qm g α0 S0 nL cb sb B pc L st S u := by
  obtain ⟨hdg, rfl⟩ := chk_plain (own := own) (ini := ini) (xa := 0) (xb := 0) (xv := 0) (xl := []) hd
  obtain ⟨a, r, rfl, hA⟩ := i1_ok h
  rcases bif_or hA with ⟨h1, h2, h3⟩ | ⟨-, h1, h2, h3⟩ | ⟨-, -, h1⟩
  · obtain ⟨h4, h5⟩ := cond_ok h3
    rw [Nat.ble_eq] at h4
    simp only [Bool.and_eq_true, Bool.or_eq_true, beq_iff_eq, decide_eq_true_eq] at hv
    obtain ⟨hkt0, hw⟩ := hv
    have hkt : (xa = 10 ∧ t = .int) ∨ (xa = 11 ∧ t = .boolean) := by
      simp only [Bool.or_eq_true, beq_iff_eq] at h1
      rcases hkt0 with (q | q) | q
      · exact Or.inl q
      · exact Or.inr q
      · have := q.1; omega
    have hk2 : arK xa = true := by rcases hkt with ⟨rfl, -⟩ | ⟨rfl, -⟩ <;> rfl
    intro hu α h9 H locs ls hR hE hL hst hS hLH
    have h30 := C.2.2.2.2.2.2.2.2.2.2.2.2.1
    have h31 := C.2.2.2.2.2.2.2.2.2.2.2.2.2.1
    have hal := al_le (k := xa) (i := S.2.2 xa)
    refine w_newa C.1 C.2.1 C.2.2.2.2.2.2.1 hR hS (hbase C hS) hkt (wdAt_ok hw C.2.2.2.2.2.2.2.1 _) (by rw [h2]; exact nI_pos (by omega)) (by rw [h2]; exact nI_clamp (by omega)) hal (by omega) (by omega) hdg fun H1 hR1 hS1 hz => ?_
    refine W.widen (k := cb + (u + 30)) (n := sb + 120 * (u + 30)) (by omega) (by omega) ?_
    have hE2 : Ext α S (al1 α xa (S.2.2 xa) H.size) (mkA S xa) := ⟨al1_ag (Or.inr hk2), fun k => bump_le k⟩
    have := go_new (kok_next hK hsx hnx h5) h4 hR1 hE hE2 hL (lvV_tail hst) (Or.inr (Or.inr ⟨Or.inr hk2, by show S.2.2 xa < bump S.2.2 xa xa; rw [bump_k]; omega⟩)) hS1 hLH
    rw [conc_ob (ob_ne (Or.inr hk2)).2.1, al1_eq] at this
    exact this
  · obtain ⟨h4, h5⟩ := cond_ok h3
    rw [Nat.ble_eq] at h4
    have e12 : xa = 12 := eq_of_beq h1
    subst e12
    subst h2
    simp only [Bool.and_eq_true, Bool.or_eq_true, beq_iff_eq, decide_eq_true_eq] at hv
    obtain ⟨hkt, hw⟩ := hv
    have ht : t = .long := by
      rcases hkt with (⟨q, -⟩ | ⟨q, -⟩) | ⟨-, q⟩
      · exact absurd q (by decide)
      · exact absurd q (by decide)
      · exact q
    subst ht
    intro hu α h9 H locs ls hR hE hL hst hS hLH
    have h30 := C.2.2.2.2.2.2.2.2.2.2.2.2.1
    have h31 := C.2.2.2.2.2.2.2.2.2.2.2.2.2.1
    refine w_newJ C.1 C.2.1 C.2.2.2.2.2.2.1 hR hS (hbase C hS) (wdAt_ok hw C.2.2.2.2.2.2.2.1 _) (by omega) (by omega) hdg fun H1 hR1 hS1 hz => ?_
    refine W.widen (k := cb + (u + 30)) (n := sb + 120 * (u + 30)) (by omega) (by omega) ?_
    have hE2 : Ext α S (al1 α 12 (S.2.2 12) H.size) (mkJ S) := ⟨al1_ag (Or.inr rfl), fun k => bump_le k⟩
    have := go_new (v := aR 12 (S.2.2 12)) (kok_next hK hsx hnx h5) h4 hR1 hE hE2 hL (lvV_tail hst) (Or.inr (Or.inr ⟨Or.inr rfl, by show S.2.2 12 < bump S.2.2 12 12; rw [bump_k]; omega⟩)) hS1 hLH
    rw [conc_ob (by decide), al1_eq] at this
    exact this
  · exact h1.elim
theorem s_new {k : Nat} (hf : Fin p l e R s m args below meth c Qm g α0 S0 nL cb sb B cc own Q rb hn) (hc : (if 50 ≤ xa then chkT cc own pc k (xa - 50) len xl else if xa = 13 then chkL cc own pc k len xl else match xl with
    | [w1, w2, w3] => dcd cc pc (.new k) 3 && len == 3 && !(xa == 0) && !(xa == 1) && wdAt w1 (.classLink own k (vC (ci xa)).1) && wdAt w2 (.instantiable (vC (ci xa)).1 (vC (ci xa)).2.2) && wdAt w3 (.initialized (vC (ci xa)).1)
    | _ => false) = true) (h : bif Nat.ble 50 xa then (bif Nat.ble (u + 1) B && Nat.ble (catS st) 8 then Q (Sum.inr (xa - 50)) S else False) else
          bif xa == 13 then (bif Nat.ble (u + 1) B && Nat.ble (catS st) 6 then S.2.2 13 < 5 ∧ S.2.2 (20 + S.2.2 13) = 0 ∧ K nx L (aR 13 (S.2.2 13) :: st) (mkL S) (u + 1) else False) else
          bif obK xa && Nat.ble (u + 1) B then K nx L (aR xa (S.2.2 xa) :: st) (mkO S xa) (u + 1) else False) (C : Cx p l s m meth c R cc own nL rk cb sb B ini g) (hK : KOK tb (Ga p l e R s m args below meth c Qm g α0 S0 nL cb sb B) K) (hsx : nx <:+ tb) (hnx : ∀ q ∈ nx.head?, q.1 = pc + len) : Go p l e R s m args below meth c Qm g α0 S0 nL cb sb B pc L st S u := by
  intro hu α h9 H locs ls hR hE hL hst hS hLH
  have h30 := C.2.2.2.2.2.2.2.2.2.2.2.2.1
  have h31 := C.2.2.2.2.2.2.2.2.2.2.2.2.2.1
  rcases bif_or h with ⟨h1, h2⟩ | ⟨h0, h1, h2⟩ | ⟨h0, h1, h2⟩
  · rw [Nat.ble_eq] at h1
    rw [if_pos h1] at hc
    obtain ⟨h3, h4⟩ := cond_ok h2
    rw [Bool.and_eq_true, Nat.ble_eq, Nat.ble_eq] at h3
    exact hf.2.2.2.1 (xa - 50) pc k len xl S u α h9 H locs ls _ hc h4 h3.1 hR hE hS hLH.1 (by rw [cats_conc]; exact h3.2)
  · have h0 : ¬ 50 ≤ xa := by rw [← Nat.ble_eq, h0]; decide
    have h1 : xa = 13 := eq_of_beq h1
    rw [if_neg h0, if_pos h1] at hc
    obtain ⟨h3, h5, h6, h4⟩ := cond_ok h2
    rw [Bool.and_eq_true, Nat.ble_eq, Nat.ble_eq] at h3
    have hlen : len = 7 := by
      unfold chkL at hc
      split at hc
      · rw [Bool.and_eq_true] at hc
        exact eq_of_beq hc.2
      · cases hc
    subst hlen
    refine hf.2.2.2.2 pc k 7 xl S u α h9 H locs ls _ hc h5 h6 h3.1 hR hS hLH.1 (by rw [cats_conc]; exact h3.2) fun h' H1 locs1 q hR1 hS1 => ?_
    have hE2 : Ext α S (al1 α 13 (S.2.2 13) q) (mkL S) := ⟨al1_ag (Or.inr rfl), fun k => bump_le k⟩
    have := go_new (v := aR 13 (S.2.2 13)) (kok_next hK hsx hnx h4) h3.1 hR1 hE hE2 hL hst (Or.inr (Or.inr ⟨Or.inr rfl, by show S.2.2 13 < bump S.2.2 13 13; rw [bump_k]; omega⟩)) hS1 hLH
    rw [conc_ob (by decide), al1_eq] at this
    exact this
  · have h0 : ¬ 50 ≤ xa := by rw [← Nat.ble_eq, h0]; decide
    have h1 : ¬ xa = 13 := by intro q; rw [q] at h1; cases h1
    rw [if_neg h0, if_neg h1] at hc
    obtain ⟨h3, h4⟩ := cond_ok h2
    rw [Bool.and_eq_true, Nat.ble_eq] at h3
    split at hc
    · simp only [Bool.and_eq_true, Bool.not_eq_true', beq_eq_false_iff_ne, ne_eq] at hc
      obtain ⟨⟨⟨⟨⟨⟨c1, c2⟩, c3⟩, c4⟩, c5⟩, c6⟩, c7⟩ := hc
      have c2 : len = 3 := eq_of_beq c2
      subst c2
      have hN := nfs_le h3.1
      have hWT := C.2.2.2.2.2.2.2.1
      refine w_new C.1 C.2.1 C.2.2.2.1 C.2.2.2.2.2.2.1 hWT hR hS (hbase C hS) h3.1 ⟨c3, c4⟩ (wdAt_ok c5 hWT _) (wdAt_ok c6 hWT _) (wdAt_ok c7 hWT _) (by omega) (by omega) (dcd_ok c1) fun H1 hR1 hS1 hz => ?_
      refine W.widen (k := cb + (u + 1)) (n := sb + 120 * (u + 1)) (by omega) (by omega) ?_
      have hE2 : Ext α S (al1 α xa (S.2.2 xa) H.size) (mkO S xa) := ⟨al1_ag (Or.inl h3.1), fun k => bump_le k⟩
      have := go_new (kok_next hK hsx hnx h4) h3.2 hR1 hE hE2 hL hst (Or.inr (Or.inr ⟨Or.inl h3.1, by show S.2.2 xa < bump S.2.2 xa xa; rw [bump_k]; omega⟩)) hS1 hLH
      rw [conc_ob (ob_ne (Or.inl h3.1)).2.1, al1_eq] at this
      exact this
    · cases hc
end STT
