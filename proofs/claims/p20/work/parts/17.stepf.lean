/-! SOUND: casts, returns, calls; the whole -/
section STU
variable {p : Program} {l : Launch} {e : Env} {R : Room} {s : State} {m : MethodId} {args : Array Value} {below : List Frame} {meth : Method} {c : Code} {Qm : State → Prop} {g : GT} {α0 : Nat → Nat → Nat} {S0 : Sto} {cc : ByteArray} {own : String} {nL rk cb sb B : Nat} {ini : Bool} {rb : Nat}
variable {tb : Tb} {Q : Out → Sto → Prop} {hn : List (Nat × Nat × Nat × Nat)} {scr : Nat × (Nat → Int32)}
variable {pc len xa xb : Nat} {xv : Int32} {xl : List Nat} {xu : Nat} {xs : SP} {nx : Tb} {K : Tb → Lo → List AV → Sto → Nat → Prop} {L : Lo} {st : List AV} {S : Sto} {u : Nat}
theorem w_cast (C : Cx p l s m meth c R cc own nL rk cb sb B ini g) {H : Heap} {locs : List Loc} {ls : Array Slot} {rest : List Value} {α : Nat → Nat → Nat} {h : HT} {k i idx cells slots : Nat} (hR : Rep g α h S H) (hk : obK k = true) (hi : i < S.2.2 k) (hl : (Cond.classLink own idx (vC (ci k)).1).before args s = true) (hdg : decode cc pc = .ok (.checkcast idx, 3))
    (kk : W p l e R s m args below meth c H locs cells slots Qm (F0 m (pc + 3) ls (.ref (α k i) :: rest))) : W p l e R s m args below meth c H locs cells slots Qm (F0 m pc ls (.ref (α k i) :: rest)) := by
  exact va_castS C.1 C.2.1 C.2.2.2.1 hl (C.2.2.2.2.2.2.1.1 (ci k) _ (kd_KF hk).1.1).2 (recv_ob C.2.2.2.2.2.2.1 hR (Or.inl hk) hi) hdg kk
theorem s_cast {k w1 : Nat} (hd : (dcd cc pc (.checkcast k) len && len == 3) = true) (hv : wdAt w1 (.classLink own k (vC xa).1) = true) (h : r1 st fun k i r => bif obK k && ci k == xa then K nx L (aR k i :: r) S u else False) (C : Cx p l s m meth c R cc own nL rk cb sb B ini g) (hK : KOK tb (Ga p l e R s m args below meth c Qm g α0 S0 nL cb sb B) K) (hsx : nx <:+ tb) (hnx : ∀ q ∈ nx.head?, q.1 = pc + len) : Go p l e R s m args below meth c Qm g α0 S0 nL cb sb B pc L st S u := by
  obtain ⟨hdg, rfl⟩ := chk_plain (own := own) (ini := ini) (xa := 0) (xb := 0) (xv := 0) (xl := []) hd
  obtain ⟨k', i, r, rfl, hA⟩ := r1_ok h
  obtain ⟨h1, hB⟩ := cond_ok hA
  rw [Bool.and_eq_true] at h1
  obtain ⟨hk, h2⟩ := h1
  have h2 : ci k' = xa := eq_of_beq h2
  subst h2
  intro hu α h9 H locs ls hR hE hL hst hS hLH
  have hWT := C.2.2.2.2.2.2.2.1
  have key := kok_next hK hsx hnx hB hu α h9 H locs ls hR hE hL hst hS hLH
  rw [List.map_cons, conc_ob (ob_ne (Or.inl hk)).2.1] at key ⊢
  exact w_cast C hR hk (LvR_of (lvV_hd hst) (Or.inl hk)) (wdAt_ok hv hWT _) hdg key
theorem s_ireturn (hf : Fin p l e R s m args below meth c Qm g α0 S0 nL cb sb B cc own Q rb hn) (hd : (dcd cc pc .ireturn len && len == 1) = true) (h : match st with
        | Sum.inl a :: [] => bif rb == 2 then (a &&& 1 = a ∧ Q (Sum.inl (some (aI a))) S) else bif rb == 1 then Q (Sum.inl (some (aI a))) S else False
        | _ => False) (C : Cx p l s m meth c R cc own nL rk cb sb B ini g) (hK : KOK tb (Ga p l e R s m args below meth c Qm g α0 S0 nL cb sb B) K) (hsx : nx <:+ tb) (hnx : ∀ q ∈ nx.head?, q.1 = pc + len) : Go p l e R s m args below meth c Qm g α0 S0 nL cb sb B pc L st S u := by
  obtain ⟨hdg, rfl⟩ := chk_plain (own := own) (ini := ini) (xa := 0) (xb := 0) (xv := 0) (xl := []) hd
  rcases st with _ | ⟨a | v, _ | ⟨w, r⟩⟩
  · exact h.elim
  · have h2 : (rb = 1 ∨ (rb = 2 ∧ a &&& 1 = a)) ∧ Q (Sum.inl (some (aI a))) S := by
      rcases bif_or h with ⟨q1, q2, q3⟩ | ⟨-, q1, q2⟩ | ⟨-, -, q⟩
      · exact ⟨Or.inr ⟨eq_of_beq q1, q2⟩, q3⟩
      · exact ⟨Or.inl (eq_of_beq q1), q2⟩
      · exact q.elim
    intro hu α h9 H locs ls hR hE hL hst hS hLH
    exact hf.1 (some (aI a)) S u α h9 H locs pc ls h2.2 hu hR hE trivial hS ⟨h2.1, hdg⟩
  · exact h.elim
  · exact h.elim
  · exact h.elim
theorem s_areturn (hf : Fin p l e R s m args below meth c Qm g α0 S0 nL cb sb B cc own Q rb hn) (hd : (dcd cc pc .areturn len && len == 1) = true) (h : match st with
        | Sum.inr (Sum.inr q) :: [] => bif rb == 3 then Q (Sum.inl (some (Sum.inr (Sum.inr q)))) S else False
        | _ => False) (C : Cx p l s m meth c R cc own nL rk cb sb B ini g) (hK : KOK tb (Ga p l e R s m args below meth c Qm g α0 S0 nL cb sb B) K) (hsx : nx <:+ tb) (hnx : ∀ q ∈ nx.head?, q.1 = pc + len) : Go p l e R s m args below meth c Qm g α0 S0 nL cb sb B pc L st S u := by
  obtain ⟨hdg, rfl⟩ := chk_plain (own := own) (ini := ini) (xa := 0) (xb := 0) (xv := 0) (xl := []) hd
  rcases st with _ | ⟨a | (v | q), _ | ⟨w, r⟩⟩
  · exact h.elim
  · exact h.elim
  · exact h.elim
  · exact h.elim
  · exact h.elim
  · obtain ⟨q1, q2⟩ := cond_ok h
    intro hu α h9 H locs ls hR hE hL hst hS hLH
    exact hf.1 (some (Sum.inr (Sum.inr q))) S u α h9 H locs pc ls q2 hu hR hE (lvV_hd hst) hS ⟨eq_of_beq q1, hdg⟩
  · exact h.elim
theorem s_return (hf : Fin p l e R s m args below meth c Qm g α0 S0 nL cb sb B cc own Q rb hn) (hd : (dcd cc pc .return_ len && len == 1) = true) (h : match st with
        | [] => bif rb == 0 then Q (Sum.inl none) S else False
        | _ => False) (C : Cx p l s m meth c R cc own nL rk cb sb B ini g) (hK : KOK tb (Ga p l e R s m args below meth c Qm g α0 S0 nL cb sb B) K) (hsx : nx <:+ tb) (hnx : ∀ q ∈ nx.head?, q.1 = pc + len) : Go p l e R s m args below meth c Qm g α0 S0 nL cb sb B pc L st S u := by
  obtain ⟨hdg, rfl⟩ := chk_plain (own := own) (ini := ini) (xa := 0) (xb := 0) (xv := 0) (xl := []) hd
  rcases st with _ | ⟨a, r⟩
  · obtain ⟨q1, q2⟩ := cond_ok h
    intro hu α h9 H locs ls hR hE hL hst hS hLH
    exact hf.1 none S u α h9 H locs pc ls q2 hu hR hE trivial hS ⟨eq_of_beq q1, hdg⟩
  · exact h.elim
/-- what a call's answer brings -/
theorem call_kk {α α' : Nat → Nat → Nat} {h' : HT} {S' : Sto} {r : List AV} {o : Option AV} {H1 : Heap} {locs1 : List Loc} {ls : Array Slot} (hK : KOK tb (Ga p l e R s m args below meth c Qm g α0 S0 nL cb sb B) K) (hsx : nx <:+ tb) (hnx : ∀ q ∈ nx.head?, q.1 = pc + 3) (hu : u + xu ≤ B) (hE : Ext α0 S0 α S) (hL : ∀ a, some a ∈ L → LvV S a) (hst : ∀ a ∈ r, LvV S a) (hLH : LH α ls nL L)
    (hP : (fun o S' => match o with
            | Sum.inl (some v) => K nx L (v :: r) S' (u + xu)
            | Sum.inl none => K nx L r S' (u + xu)
            | Sum.inr e => match fH hn pc e with
              | some t => ∀ q : Nat, K (drp tb t) L (aR 99 q :: []) S' (u + xu)
              | none => Q (Sum.inr e) S') (Sum.inl o) S') (hE2 : Ext α S α' S') (hlo : LvO S' o) (hR : Rep g α' h' S' H1) (hS : va_S (AB g) s.heap H1 locs1) : W p l e R s m args below meth c H1 locs1 (cb + u + xu) (sb + 120 * u + 120 * xu) Qm (F0 m (pc + 3) ls ((o.map (conc α')).toList ++ r.map (conc α))) := by
  have e1 : cb + u + xu = cb + (u + xu) := by omega
  have e2 : sb + 120 * u + 120 * xu = sb + 120 * (u + xu) := by omega
  rw [e1, e2]
  cases o with
  | none => exact go_new0 (kok_next hK hsx hnx hP) hu hR hE hE2 hL hst hS hLH
  | some v => exact go_new (kok_next hK hsx hnx hP) hu hR hE hE2 hL hst hlo hS hLH
theorem call_kx {α α' : Nat → Nat → Nat} {h' : HT} {S' : Sto} {r : List AV} {x : Nat} {H1 : Heap} {locs1 : List Loc} {ls : Array Slot} {q9 : Addr} {ce : Cell} {rest : List Value} (hf : Fin p l e R s m args below meth c Qm g α0 S0 nL cb sb B cc own Q rb hn) (hK : KOK tb (Ga p l e R s m args below meth c Qm g α0 S0 nL cb sb B) K) (hu : u + xu ≤ B) (hE : Ext α0 S0 α S) (hL : ∀ a, some a ∈ L → LvV S a) (hLH : LH α ls nL L)
    (hP : (fun o S' => match o with
            | Sum.inl (some v) => K nx L (v :: r) S' (u + xu)
            | Sum.inl none => K nx L r S' (u + xu)
            | Sum.inr e => match fH hn pc e with
              | some t => ∀ q : Nat, K (drp tb t) L (aR 99 q :: []) S' (u + xu)
              | none => Q (Sum.inr e) S') (Sum.inr x) S') (hE2 : Ext α S α' S') (hR : Rep g α' h' S' H1) (hS : va_S (AB g) s.heap H1 locs1) (hce : H1[q9]? = some ce) (hcv : ce.vm = .none) (hcl : s.vm.findClass (exn x) = some ce.cls) :
    vx_W p l e R s m args below meth c H1 locs1 (cb + u + xu) (sb + 120 * u + 120 * xu) Qm (F0 m pc ls rest) q9 := by
  have e1 : cb + u + xu = cb + (u + xu) := by omega
  have e2 : sb + 120 * u + 120 * xu = sb + 120 * (u + xu) := by omega
  rw [e1, e2]
  have hP : (match fH hn pc x with
              | some t => ∀ q : Nat, K (drp tb t) L (aR 99 q :: []) S' (u + xu)
              | none => Q (Sum.inr x) S') := hP
  cases hh : fH hn pc x with
  | none =>
    rw [hh] at hP
    exact hf.2.1 x S' (u + xu) α' h' H1 locs1 pc ls rest q9 ce hP hu hR (hE.tr hE2) hS hh hce hcv hcl
  | some t =>
    rw [hh] at hP
    refine hf.2.2.1 x t (u + xu) H1 locs1 pc ls rest q9 ce hh hce hcv hcl ?_
    exact go_new (v := aR 99 q9) (st := []) (kok_jump hK (hP q9)) hu hR hE hE2 hL (fun a ha => nomatch ha) (Or.inl rfl) hS hLH
theorem mathI_ok : Cond.initialized "java/lang/Math" ∈ lw_tbl ∧ Cond.static Lib.Math.max.name ∈ lw_tbl ∧ Cond.code Lib.Math.max.name Lib.Math.max.code 2 (some .int) ∈ lw_tbl ∧ Cond.static Lib.Math.min.name ∈ lw_tbl ∧ Cond.code Lib.Math.min.name Lib.Math.min.code 2 (some .int) ∈ lw_tbl := by decide +kernel
theorem s_invS {k : Nat} (hf : Fin p l e R s m args below meth c Qm g α0 S0 nL cb sb B cc own Q rb hn) (hd : (dcd cc pc (.invokestatic k) len && len == 3) = true) (hc : CallOK l own rk (.invokestatic k) xa xb xu xs) (h : popN xa st [] fun as r => bif Nat.ble (catS r) (bif xb == 6 then 16 else 8) && Nat.ble (u + xu) B then xs as S fun o S' => match o with
            | Sum.inl (some v) => K nx L (v :: r) S' (u + xu)
            | Sum.inl none => K nx L r S' (u + xu)
            | Sum.inr e => match fH hn pc e with
              | some t => ∀ q : Nat, K (drp tb t) L (aR 99 q :: []) S' (u + xu)
              | none => Q (Sum.inr e) S'
           else False) (C : Cx p l s m meth c R cc own nL rk cb sb B ini g) (hK : KOK tb (Ga p l e R s m args below meth c Qm g α0 S0 nL cb sb B) K) (hsx : nx <:+ tb) (hnx : ∀ q ∈ nx.head?, q.1 = pc + len) : Go p l e R s m args below meth c Qm g α0 S0 nL cb sb B pc L st S u := by
  obtain ⟨hdg, rfl⟩ := chk_plain (own := own) (ini := ini) (xa := 0) (xb := 0) (xv := 0) (xl := []) hd
  obtain ⟨as, r, rfl, hn9, hA⟩ := popN_ok h
  obtain ⟨h1, h2⟩ := cond_ok hA
  rw [Bool.and_eq_true, Nat.ble_eq, Nat.ble_eq] at h1
  have h16 : catS r ≤ 16 := Nat.le_trans h1.1 (by cases (xb == 6) <;> decide)
  have h8s : xb ≠ 6 → catS r ≤ 8 := fun z => by
    have z2 : (xb == 6) = false := beq_eq_false_iff_ne.mpr z
    have h9 := h1.1
    rw [z2] at h9
    exact h9
  rw [List.append_nil] at h2
  have h30 := C.2.2.2.2.2.2.2.2.2.2.2.2.1
  have h31 := C.2.2.2.2.2.2.2.2.2.2.2.2.2.1
  have hfr := C.2.2.2.2.2.2.2.2.2.2.1
  have hlo := C.2.2.2.2.2.2.2.2.2.2.2.1
  have hWT := C.2.2.2.2.2.2.2.1
  by_cases h7 : xb = 7
  · subst h7
    have hc : Cond.methodLink own k Lib.Math.max.name ∈ lw_tbl ∧ xa = 2 ∧ xu = 0 ∧ xs = sMax := hc
    obtain ⟨hl7, rfl, rfl, rfl⟩ := hc
    rcases as with _ | ⟨a1, _ | ⟨a2, _ | ⟨a3, as⟩⟩⟩
    · cases hn9
    · cases hn9
    · rcases a1 with a | a1
      · rcases a2 with b | a2
        · intro hu α h9 H locs ls hR hE hL hst hS hLH
          have hr : ∀ a ∈ r, LvV S a := fun a ha => hst a (List.mem_append_right _ ha)
          exact va_mmax C.1 C.2.1 (by rw [C.2.2.1, hLH.1]) C.2.2.2.1 (hWT _ hl7 rfl _) (hWT _ mathI_ok.2.1 rfl _) (hWT _ mathI_ok.1 rfl _) (hWT _ mathI_ok.2.2.1 rfl _) (by omega) (by rw [cats_conc]; show catS r + 13 ≤ _; omega) (by omega) (by omega) hdg
            (W.eq (g2 := F0 m (pc + 3) ls ((aI (if a < b then b else a) :: r).map (conc α))) rfl (kok_next hK hsx hnx (show K nx L (aI (if a < b then b else a) :: r) S u from h2) hu α h9 H locs ls hR hE hL (lvV_cons trivial hr) hS hLH))
        · exact (show False from h2).elim
      · rcases a2 with b | a2 <;> exact (show False from h2).elim
    · cases hn9
  by_cases h8 : xb = 8
  · subst h8
    have hc : Cond.methodLink own k Lib.Math.min.name ∈ lw_tbl ∧ xa = 2 ∧ xu = 0 ∧ xs = sMin := hc
    obtain ⟨hl7, rfl, rfl, rfl⟩ := hc
    rcases as with _ | ⟨a1, _ | ⟨a2, _ | ⟨a3, as⟩⟩⟩
    · cases hn9
    · cases hn9
    · rcases a1 with a | a1
      · rcases a2 with b | a2
        · intro hu α h9 H locs ls hR hE hL hst hS hLH
          have hr : ∀ a ∈ r, LvV S a := fun a ha => hst a (List.mem_append_right _ ha)
          exact va_mmin C.1 C.2.1 (by rw [C.2.2.1, hLH.1]) C.2.2.2.1 (hWT _ hl7 rfl _) (hWT _ mathI_ok.2.2.2.1 rfl _) (hWT _ mathI_ok.1 rfl _) (hWT _ mathI_ok.2.2.2.2 rfl _) (by omega) (by rw [cats_conc]; show catS r + 13 ≤ _; omega) (by omega) (by omega) hdg
            (W.eq (g2 := F0 m (pc + 3) ls ((aI (if b < a then b else a) :: r).map (conc α))) rfl (kok_next hK hsx hnx (show K nx L (aI (if b < a then b else a) :: r) S u from h2) hu α h9 H locs ls hR hE hL (lvV_cons trivial hr) hS hLH))
        · exact (show False from h2).elim
      · rcases a2 with b | a2 <;> exact (show False from h2).elim
    · cases hn9
  by_cases h9 : xb = 9
  · subst h9
    have hc : ∃ (y : MethodName) (cy : ByteArray) (maxL rz : Nat) (ret : Option FieldType) (hh : List (Nat × Nat × Nat × Nat)), CTW l y cy maxL ret hh rz xu xs ∧ LkW own k y cy maxL ret hh xa ∧ Cond.static y ∈ lw_tbl ∧ rz < rk := hc
    obtain ⟨y, cy, maxL, rz, ret, hh, hct, hlk, hst9, hrk⟩ := hc
    intro hu α h9 H locs ls hR hE hL hst hS hLH
    have hr : ∀ a ∈ r, LvV S a := fun a ha => hst a (List.mem_append_right _ ha)
    have has : ∀ a ∈ as, LvV S a := fun a ha => hst a (List.mem_append_left _ (List.mem_reverse.mpr ha))
    rw [List.map_append, List.map_reverse]
    exact w_callSW C hct hlk hst9 hrk hn9 h2 hR hS has hLH.1 (by rw [cats_conc]; exact h8s (by decide)) ⟨by omega, by omega⟩ hdg (fun o α' h' S' H1 locs1 hP hE2 hlo hR1 hS1 => call_kk hK hsx hnx h1.2 hE hL hr hLH hP hE2 hlo hR1 hS1)
      (fun x α' h' S' H1 locs1 q9 ce hP hE2 hR1 hS1 hce hcv hcl => call_kx (nx := nx) (r := r) hf hK h1.2 hE hL hLH hP hE2 hR1 hS1 hce hcv hcl)
  by_cases h6 : xb = 6
  · subst h6
    have hc : ∃ (y : MethodName) (cy : ByteArray) (maxL rz : Nat) (ret : Option FieldType), CT l y cy maxL ret rz xu xs ∧ LkB own k y cy maxL ret xa ∧ Cond.static y ∈ lw_tbl ∧ rz < rk ∧ maxL ≤ 13 := hc
    obtain ⟨y, cy, maxL, rz, ret, hct, hlk, hst9, hrk, hm13⟩ := hc
    intro hu α h9 H locs ls hR hE hL hst hS hLH
    have hr : ∀ a ∈ r, LvV S a := fun a ha => hst a (List.mem_append_right _ ha)
    have has : ∀ a ∈ as, LvV S a := fun a ha => hst a (List.mem_append_left _ (List.mem_reverse.mpr ha))
    rw [List.map_append, List.map_reverse]
    exact w_callS16 C hct hlk hm13 hst9 hrk hn9 h2 hR hS has hLH.1 (by rw [cats_conc]; exact h16) ⟨by omega, by omega⟩ hdg (fun o α' h' S' H1 locs1 hP hE2 hlo hR1 hS1 => call_kk hK hsx hnx h1.2 hE hL hr hLH hP hE2 hlo hR1 hS1)
      (fun x α' h' S' H1 locs1 q9 ce hP hE2 hR1 hS1 hce hcv hcl => call_kx (nx := nx) (r := r) hf hK h1.2 hE hL hLH hP hE2 hR1 hS1 hce hcv hcl)
  have hc : ∃ (y : MethodName) (cy : ByteArray) (maxL rz : Nat) (ret : Option FieldType), CT l y cy maxL ret rz xu xs ∧ LkB own k y cy maxL ret xa ∧ Cond.static y ∈ lw_tbl ∧ rz < rk := by
    unfold CallOK at hc
    dsimp only at hc
    rw [if_neg h7, if_neg h8, if_neg h9, if_neg h6] at hc
    exact hc
  obtain ⟨y, cy, maxL, rz, ret, hct, hlk, hst9, hrk⟩ := hc
  intro hu α h9 H locs ls hR hE hL hst hS hLH
  have h30 := C.2.2.2.2.2.2.2.2.2.2.2.2.1
  have h31 := C.2.2.2.2.2.2.2.2.2.2.2.2.2.1
  have hr : ∀ a ∈ r, LvV S a := fun a ha => hst a (List.mem_append_right _ ha)
  have has : ∀ a ∈ as, LvV S a := fun a ha => hst a (List.mem_append_left _ (List.mem_reverse.mpr ha))
  rw [List.map_append, List.map_reverse]
  exact w_callS C hct hlk hst9 hrk hn9 h2 hR hS has hLH.1 (by rw [cats_conc]; exact h8s h6) ⟨by omega, by omega⟩ hdg (fun o α' h' S' H1 locs1 hP hE2 hlo hR1 hS1 => call_kk hK hsx hnx h1.2 hE hL hr hLH hP hE2 hlo hR1 hS1)
    (fun x α' h' S' H1 locs1 q9 ce hP hE2 hR1 hS1 hce hcv hcl => call_kx (nx := nx) (r := r) hf hK h1.2 hE hL hLH hP hE2 hR1 hS1 hce hcv hcl)
theorem s_invV {k : Nat} (hf : Fin p l e R s m args below meth c Qm g α0 S0 nL cb sb B cc own Q rb hn) (hd : (dcd cc pc (.invokevirtual k) len && len == 3) = true) (hc : CallOK l own rk (.invokevirtual k) xa xb xu xs) (h : popN xa st [] fun as r => bif Nat.ble (catS r) 8 && Nat.ble (u + xu) B then xs as S fun o S' => match o with
            | Sum.inl (some v) => K nx L (v :: r) S' (u + xu)
            | Sum.inl none => K nx L r S' (u + xu)
            | Sum.inr e => match fH hn pc e with
              | some t => ∀ q : Nat, K (drp tb t) L (aR 99 q :: []) S' (u + xu)
              | none => Q (Sum.inr e) S'
           else False) (C : Cx p l s m meth c R cc own nL rk cb sb B ini g) (hK : KOK tb (Ga p l e R s m args below meth c Qm g α0 S0 nL cb sb B) K) (hsx : nx <:+ tb) (hnx : ∀ q ∈ nx.head?, q.1 = pc + len) : Go p l e R s m args below meth c Qm g α0 S0 nL cb sb B pc L st S u := by
  obtain ⟨hdg, rfl⟩ := chk_plain (own := own) (ini := ini) (xa := 0) (xb := 0) (xv := 0) (xl := []) hd
  obtain ⟨as, r, rfl, hn9, hA⟩ := popN_ok h
  obtain ⟨h1, h2⟩ := cond_ok hA
  rw [Bool.and_eq_true, Nat.ble_eq, Nat.ble_eq] at h1
  rw [List.append_nil] at h2
  obtain ⟨y, cy, maxL, rz, ret, a9, hct, hlk, hin9, hse9, hrk, hx1, hrv⟩ := hc
  obtain ⟨k', i, as', rfl, rfl, hkk⟩ := hrv as S _ h2
  intro hu α h9 H locs ls hR hE hL hst hS hLH
  have h30 := C.2.2.2.2.2.2.2.2.2.2.2.2.1
  have h31 := C.2.2.2.2.2.2.2.2.2.2.2.2.2.1
  have hr : ∀ a ∈ r, LvV S a := fun a ha => hst a (List.mem_append_right _ ha)
  have has : ∀ a ∈ aR k' i :: as', LvV S a := fun a ha => hst a (List.mem_append_left _ (List.mem_reverse.mpr ha))
  have hi : i < S.2.2 k' := LvR_of (has _ List.mem_cons_self) (hkk.imp id fun q => by rw [q]; rfl)
  have e1 : (((aR k' i :: as').reverse ++ r).map (conc α)) = (as'.map (conc α)).reverse ++ .ref (α k' i) :: r.map (conc α) := by
    rw [List.map_append, List.reverse_cons, List.map_append, List.map_reverse, List.append_assoc]
    show _ ++ (conc α (aR k' i) :: r.map (conc α)) = _
    rw [conc_ob (ob_ne (hkk.imp id fun q => by rw [q]; rfl)).2.1]
  rw [e1]
  exact w_callV C hct hlk hin9 hse9 hrk (by rw [List.length_cons] at hn9; omega) hkk hi h2 hR hS (fun a ha => has a (List.mem_cons_of_mem _ ha)) hLH.1 (by rw [cats_conc]; exact h1.1) ⟨by omega, by omega⟩ hdg (fun o α' h' S' H1 locs1 hP hE2 hlo hR1 hS1 => call_kk hK hsx hnx h1.2 hE hL hr hLH hP hE2 hlo hR1 hS1)
    (fun x α' h' S' H1 locs1 q9 ce hP hE2 hR1 hS1 hce hcv hcl => call_kx (nx := nx) (r := r) hf hK h1.2 hE hL hLH hP hE2 hR1 hS1 hce hcv hcl)
theorem objI_ok : Cond.instanceMethod Lib.objectInit ∈ lw_tbl ∧ Cond.code Lib.objectInit ⟨#[0xb1]⟩ 1 none ∈ lw_tbl := by decide +kernel
theorem s_invI {k : Nat} (hf : Fin p l e R s m args below meth c Qm g α0 S0 nL cb sb B cc own Q rb hn) (hd : (dcd cc pc (.invokespecial k) len && len == 3) = true) (hc : CallOK l own rk (.invokespecial k) xa xb xu xs) (h : bif xb == 9 then r1 st fun _ _ r => bif Nat.ble (catS r) 8 then K nx L r S u else False else
          popN xa st [] fun as r => bif Nat.ble (catS r) 8 && Nat.ble (u + xu) B then xs as S fun o S' => match o with
            | Sum.inl none => K nx L r S' (u + xu)
            | _ => False
           else False) (C : Cx p l s m meth c R cc own nL rk cb sb B ini g) (hK : KOK tb (Ga p l e R s m args below meth c Qm g α0 S0 nL cb sb B) K) (hsx : nx <:+ tb) (hnx : ∀ q ∈ nx.head?, q.1 = pc + len) : Go p l e R s m args below meth c Qm g α0 S0 nL cb sb B pc L st S u := by
  obtain ⟨hdg, rfl⟩ := chk_plain (own := own) (ini := ini) (xa := 0) (xb := 0) (xv := 0) (xl := []) hd
  have h30 := C.2.2.2.2.2.2.2.2.2.2.2.2.1
  have h31 := C.2.2.2.2.2.2.2.2.2.2.2.2.2.1
  have hWT := C.2.2.2.2.2.2.2.1
  by_cases h9 : xb = 9
  · subst h9
    have h : r1 st fun _ _ r => bif Nat.ble (catS r) 8 then K nx L r S u else False := h
    have hc : Cond.methodLink own k Lib.objectInit ∈ lw_tbl := hc
    obtain ⟨a, b, r, rfl, hA⟩ := r1_ok h
    obtain ⟨h1, h2⟩ := cond_ok hA
    rw [Nat.ble_eq] at h1
    intro hu α h9 H locs ls hR hE hL hst hS hLH
    obtain ⟨q, hq⟩ := conc_ref (α := α) (k := a) (i := b)
    rw [List.map_cons, hq]
    have hfr := C.2.2.2.2.2.2.2.2.2.2.1
    have hlo := C.2.2.2.2.2.2.2.2.2.2.2.1
    exact W.objInit C.1 C.2.1 C.2.2.2.1 (hWT _ hc rfl _) (hWT _ objI_ok.1 rfl _) (hWT _ objI_ok.2 rfl _) rfl (by rw [C.2.2.1]; exact hLH.1) rfl hdg (by omega) (by rw [cats_conc]; show 2 * 0 + _ + 12 ≤ _; omega) (W.eq (g2 := F0 m (pc + 3) ls (r.map (conc α))) rfl (kok_next hK hsx hnx h2 hu α h9 H locs ls hR hE hL (lvV_tail hst) hS hLH))
  · have hb : (xb == 9) = false := by rw [beq_eq_false_iff_ne]; exact h9
    rw [hb] at h
    have h : popN xa st [] fun as r => bif Nat.ble (catS r) 8 && Nat.ble (u + xu) B then xs as S fun o S' => match o with
            | Sum.inl none => K nx L r S' (u + xu)
            | _ => False
           else False := h
    have hc : ∃ (y : MethodName) (cy : ByteArray) (maxL rz : Nat), CT l y cy maxL none rz xu xs ∧ LkB own k y cy maxL none (xa - 1) ∧ Cond.instanceMethod y ∈ lw_tbl ∧ y.name = "<init>" ∧ rz < rk ∧ 1 ≤ xa ∧ (∀ as S P, xs as S P → ∃ k i r, as = aR k i :: r ∧ (obK k = true ∨ k = 13)) := by
      unfold CallOK at hc
      dsimp only at hc
      rw [if_neg h9] at hc
      exact hc
    obtain ⟨as, r, rfl, hn9, hA⟩ := popN_ok h
    obtain ⟨h1, h2⟩ := cond_ok hA
    rw [Bool.and_eq_true, Nat.ble_eq, Nat.ble_eq] at h1
    rw [List.append_nil] at h2
    obtain ⟨y, cy, maxL, rz, hct, hlk, hin9, hy9, hrk, hx1, hrv⟩ := hc
    obtain ⟨k', i, as', rfl, hkk⟩ := hrv as S _ h2
    intro hu α h9 H locs ls hR hE hL hst hS hLH
    have hr : ∀ a ∈ r, LvV S a := fun a ha => hst a (List.mem_append_right _ ha)
    have has : ∀ a ∈ aR k' i :: as', LvV S a := fun a ha => hst a (List.mem_append_left _ (List.mem_reverse.mpr ha))
    have hi : i < S.2.2 k' := LvR_of (has _ List.mem_cons_self) (hkk.imp id fun q => by rw [q]; rfl)
    have e1 : (((aR k' i :: as').reverse ++ r).map (conc α)) = (as'.map (conc α)).reverse ++ .ref (α k' i) :: r.map (conc α) := by
      rw [List.map_append, List.reverse_cons, List.map_append, List.map_reverse, List.append_assoc]
      show _ ++ (conc α (aR k' i) :: r.map (conc α)) = _
      rw [conc_ob (ob_ne (hkk.imp id fun q => by rw [q]; rfl)).2.1]
    rw [e1]
    refine w_callI C hct hlk hin9 hy9 hrk (by rw [List.length_cons] at hn9; omega) hkk hi h2 hR hS (fun a ha => has a (List.mem_cons_of_mem _ ha)) hLH.1 (by rw [cats_conc]; exact h1.1) ⟨by omega, by omega⟩ hdg (fun o α' h' S' H1 locs1 hP hE2 hlo hR1 hS1 => ?_) (fun x α' h' S' H1 locs1 q9 ce hP hE2 hR1 hS1 hce hcv hcl => ?_)
    · have e1 : cb + u + xu = cb + (u + xu) := by omega
      have e2 : sb + 120 * u + 120 * xu = sb + 120 * (u + xu) := by omega
      rw [e1, e2]
      cases o with
      | none => exact go_new0 (kok_next hK hsx hnx hP) h1.2 hR1 hE hE2 hL hr hS1 hLH
      | some v => exact hP.elim
    · exact hP.elim
end STU
