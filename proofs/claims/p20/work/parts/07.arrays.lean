/-! THE MACHINE'S ROWS over the world: arrays and new objects -/
section RA
variable {p : Program} {l : Launch} {e : Env} {R : Room} {s : State} {m : MethodId} {args : Array Value} {below : List Frame} {meth : Method} {c : Code} {H : Heap} {locs : List Loc} {cells slots : Nat} {Q : State → Prop}
variable {cc : ByteArray} {pc : Nat} {ls : Array Slot} {rest : List Value} {g : GT} {α : Nat → Nat → Nat} {h : HT} {S : Sto} {H0 : Heap} {own : String} {idx : Nat}
theorem Rep.ar {k i : Nat} (hR : Rep g α h S H) (hk : arK k = true) (hi : i < S.2.2 k) : va_P g.1 vwCl [(α k i, ent g α h S k i)] H := by
  have h1 := hR.1 k i (Lv_of (Or.inr hk) hi)
  rw [adr_of (Or.inr hk)] at h1
  exact va_P1 h1
theorem w_iald (hx : p.tables.exec = Jvm.exec) (hb : c.code = cc) (hK : va_K g.1 vwCl (tysG g) s) (hR : Rep g α h S H) {i : Nat} {j : Int32} (hi : i < S.2.2 10) (hin : vp_in j (al 10 i)) (hdg : decode cc pc = .ok (.iaload, 1))
    (kk : W p l e R s m args below meth c H locs cells slots Q (F0 m (pc + 1) ls (.int (S.1 10 i j.toNatClampNeg) :: rest))) : W p l e R s m args below meth c H locs cells slots Q (F0 m pc ls (.int j :: .ref (α 10 i) :: rest)) :=
  va_iald hx hb hK (hR.ar rfl hi) 0 0 rfl rfl hin hdg kk
theorem w_bald (hx : p.tables.exec = Jvm.exec) (hb : c.code = cc) (hK : va_K g.1 vwCl (tysG g) s) (hR : Rep g α h S H) {i : Nat} {j : Int32} (hi : i < S.2.2 11) (hin : vp_in j (al 11 i)) (hdg : decode cc pc = .ok (.baload, 1))
    (kk : W p l e R s m args below meth c H locs cells slots Q (F0 m (pc + 1) ls (.int (S.1 11 i j.toNatClampNeg) :: rest))) : W p l e R s m args below meth c H locs cells slots Q (F0 m pc ls (.int j :: .ref (α 11 i) :: rest)) :=
  va_zald hx hb hK (hR.ar rfl hi) 0 1 rfl rfl hin hdg kk
theorem w_lald (hx : p.tables.exec = Jvm.exec) (hb : c.code = cc) (hK : va_K g.1 vwCl (tysG g) s) (hR : Rep g α h S H) {i : Nat} {j : Int32} (hi : i < S.2.2 12) (hin : vp_in j 25) (hdg : decode cc pc = .ok (.laload, 1))
    (kk : W p l e R s m args below meth c H locs cells slots Q (F0 m (pc + 1) ls (.long (S.2.1 i j.toNatClampNeg) :: rest))) : W p l e R s m args below meth c H locs cells slots Q (F0 m pc ls (.int j :: .ref (α 12 i) :: rest)) :=
  va_lald hx hb hK (hR.ar rfl hi) 0 2 rfl rfl hin hdg kk
theorem w_alen (hx : p.tables.exec = Jvm.exec) (hb : c.code = cc) (hK : va_K g.1 vwCl (tysG g) s) (hR : Rep g α h S H) {k i : Nat} (hk : k = 10 ∨ k = 11) (hi : i < S.2.2 k) (hdg : decode cc pc = .ok (.arraylength, 1))
    (kk : W p l e R s m args below meth c H locs cells slots Q (F0 m (pc + 1) ls (.int (Int32.ofNat (al k i)) :: rest))) : W p l e R s m args below meth c H locs cells slots Q (F0 m pc ls (.ref (α k i) :: rest)) := by
  rcases hk with rfl | rfl
  · exact va_alen hx hb hK (hR.ar rfl hi) 0 0 rfl (ty := .int) rfl rfl hdg kk
  · exact va_alen hx hb hK (hR.ar rfl hi) 0 1 rfl (ty := .boolean) rfl rfl hdg kk
theorem cl_same {S' : Sto} (hR : Rep g α h S H) (hs : ∀ k f i, obK k = true → S'.1 k f i = S.1 k f i) :
    ∀ k' i' f', obK k' = true → i' < S.2.2 k' → f' < nf k' → (ft k' f').1 ≠ 0 → ((ft k' f').1 ≠ 1 ∧ S'.1 k' f' i' = 0) ∨ LvR S (fR k' f' i').1 (fR k' f' i').2 := by
  intro k' i' f' h1 h2 h3 h4
  rw [hs k' f' i' h1]
  exact hR.2.2.2.1 k' i' f' h1 h2 h3 h4
theorem w_iast (hx : p.tables.exec = Jvm.exec) (hb : c.code = cc) (hK : va_K g.1 vwCl (tysG g) s) (hR : Rep g α h S H) (hS : va_S (AB g) H0 H locs) {i : Nat} {j x : Int32} (hi : i < S.2.2 10) (hin : vp_in j (al 10 i)) (hdg : decode cc pc = .ok (.iastore, 1))
    (kk : ∀ (H1 : Heap) (locs1 : List Loc), Rep g α h (wrI S 10 i j.toNatClampNeg x) H1 → va_S (AB g) H0 H1 locs1 → W p l e R s m args below meth c H1 locs1 cells slots Q (F0 m (pc + 1) ls rest)) : W p l e R s m args below meth c H locs cells slots Q (F0 m pc ls (.int x :: .int j :: .ref (α 10 i) :: rest)) := by
  have hl : Lv h S 10 i := Lv_of (Or.inr rfl) hi
  have ha : adr α h 10 i = α 10 i := adr_of (Or.inr rfl)
  have hAB : AB g (α 10 i) := by
    have := hR.2.2.1 10 i hl
    rw [ha] at this
    exact this
  refine W.iast hx hb (hR.ar (k := 10) rfl hi 0 _ rfl) ((hK.2 0 _ rfl).1 (al 10 i) (fun j => .int (S.1 10 i j))) (fun q => by cases q) (by show ¬ (j < 0 ∨ (arrV _ _ _).slots.size ≤ _); rw [arrV_size]; exact hin) rfl rfl hdg fun H1 e1 z oq => ?_
  refine kk H1 _ (hR.upd hl ?_ (by rw [ha]; exact oq) rfl (fun k' i' _ hne => ent_wrA (Or.inl rfl) hne) (cl_same hR fun k f i hk => wrI_ne fun q => by rw [q.1] at hk; exact absurd hk (by decide))) (hS.put z oq hAB)
  rw [ha, ent_10]
  show H1[α 10 i]? = some (arrV g.2.1.1 (al 10 i) fun q => .int ((wrI S 10 i j.toNatClampNeg x).1 10 i q))
  refine e1.trans ?_
  show some ((arrV g.2.1.1 (al 10 i) fun q => .int (S.1 10 i q)).setSlot _ _) = _
  rw [arrV_store]
  congr 2
  funext q
  rw [wrI_at]
  by_cases hq : q = j.toNatClampNeg
  · subst hq
    simp [updV]
  · simp [updV, hq]
theorem w_bast (hx : p.tables.exec = Jvm.exec) (hb : c.code = cc) (hK : va_K g.1 vwCl (tysG g) s) (hR : Rep g α h S H) (hS : va_S (AB g) H0 H locs) {i : Nat} {j x : Int32} (hi : i < S.2.2 11) (hin : vp_in j (al 11 i)) (hdg : decode cc pc = .ok (.bastore, 1))
    (kk : ∀ (H1 : Heap) (locs1 : List Loc), Rep g α h (wrI S 11 i j.toNatClampNeg (x &&& 1)) H1 → va_S (AB g) H0 H1 locs1 → W p l e R s m args below meth c H1 locs1 cells slots Q (F0 m (pc + 1) ls rest)) : W p l e R s m args below meth c H locs cells slots Q (F0 m pc ls (.int x :: .int j :: .ref (α 11 i) :: rest)) := by
  have hl : Lv h S 11 i := Lv_of (Or.inr rfl) hi
  have ha : adr α h 11 i = α 11 i := adr_of (Or.inr rfl)
  have hAB : AB g (α 11 i) := by
    have := hR.2.2.1 11 i hl
    rw [ha] at this
    exact this
  refine W.zast hx hb (hR.ar (k := 11) rfl hi 0 _ rfl) ((hK.2 1 _ rfl).1 (al 11 i) (fun j => .int (S.1 11 i j))) (fun q => by cases q) (by show ¬ (j < 0 ∨ (arrV _ _ _).slots.size ≤ _); rw [arrV_size]; exact hin) rfl rfl hdg fun H1 e1 z oq => ?_
  refine kk H1 _ (hR.upd hl ?_ (by rw [ha]; exact oq) rfl (fun k' i' _ hne => ent_wrA (Or.inr rfl) hne) (cl_same hR fun k f i hk => wrI_ne fun q => by rw [q.1] at hk; exact absurd hk (by decide))) (hS.put z oq hAB)
  rw [ha, ent_11]
  show H1[α 11 i]? = some (arrV g.2.1.2.1 (al 11 i) fun q => .int ((wrI S 11 i j.toNatClampNeg (x &&& 1)).1 11 i q))
  refine e1.trans ?_
  show some ((arrV g.2.1.2.1 (al 11 i) fun q => .int (S.1 11 i q)).setSlot _ _) = _
  rw [arrV_store]
  congr 2
  funext q
  rw [wrI_at]
  by_cases hq : q = j.toNatClampNeg
  · subst hq
    simp [updV, narrow]
  · simp [updV, hq]
theorem ent_wrJ {i j : Nat} {x : Int64} {k' i' : Nat} (hne : ¬ (k' = 12 ∧ i' = i)) : ent g α h (wrJ S i j x) k' i' = ent g α h S k' i' := by
  unfold ent
  by_cases h12 : k' = 12
  · subst h12
    have h0 : ¬ i' = i := fun q => hne ⟨rfl, q⟩
    have e : (wrJ S i j x).2.1 i' = S.2.1 i' := by
      funext q
      exact if_neg fun z => h0 z.1
    rw [e]
    rfl
  · rw [if_neg h12, if_neg h12]
    rfl
theorem w_last (hx : p.tables.exec = Jvm.exec) (hb : c.code = cc) (hK : va_K g.1 vwCl (tysG g) s) (hR : Rep g α h S H) (hS : va_S (AB g) H0 H locs) {i : Nat} {j : Int32} {x : Int64} (hi : i < S.2.2 12) (hin : vp_in j 25) (hdg : decode cc pc = .ok (.lastore, 1))
    (kk : ∀ (H1 : Heap) (locs1 : List Loc), Rep g α h (wrJ S i j.toNatClampNeg x) H1 → va_S (AB g) H0 H1 locs1 → W p l e R s m args below meth c H1 locs1 cells slots Q (F0 m (pc + 1) ls rest)) : W p l e R s m args below meth c H locs cells slots Q (F0 m pc ls (.long x :: .int j :: .ref (α 12 i) :: rest)) := by
  have hl : Lv h S 12 i := Lv_of (Or.inr rfl) hi
  have ha : adr α h 12 i = α 12 i := adr_of (Or.inr rfl)
  have hAB : AB g (α 12 i) := by
    have := hR.2.2.1 12 i hl
    rw [ha] at this
    exact this
  refine W.last hx hb (hR.ar (k := 12) rfl hi 0 _ rfl) ((hK.2 2 _ rfl).1 25 (fun q => .long (S.2.1 i q))) (fun q => by cases q) (fun hq => by
    have h9 : (arrV g.2.1.2.2.1 25 (fun q => Value.long (S.2.1 i q))).slots.size = 25 := arrV_size _ _ _
    rcases hq with hq | hq
    · exact hin (Or.inl hq)
    · exact hin (Or.inr (Nat.le_trans (Nat.le_of_eq h9.symm) hq))) rfl rfl hdg fun H1 e1 z oq => ?_
  refine kk H1 _ (hR.upd hl ?_ (by rw [ha]; exact oq) rfl (fun k' i' hl' hne => ent_wrJ hne) (cl_same hR fun k f i hk => rfl)) (hS.put z oq hAB)
  rw [ha, ent_12]
  show H1[α 12 i]? = some (arrV g.2.1.2.2.1 25 fun q => .long ((wrJ S i j.toNatClampNeg x).2.1 i q))
  refine e1.trans ?_
  show some ((arrV g.2.1.2.2.1 25 fun q => .long (S.2.1 i q)).setSlot _ _) = _
  rw [arrV_store]
  congr 2
  funext q
  show _ = Value.long (if i = i ∧ q = j.toNatClampNeg then x else S.2.1 i q)
  by_cases hq : q = j.toNatClampNeg
  · simp [updV, hq]
  · simp [updV, hq]
def kdn (k : Nat) : Bool := (List.range (nf k)).all fun f => decide ((ft k f).1 ≠ 1)
theorem kd_no1 {k f : Nat} (hk : obK k = true) (h01 : k ≠ 0 ∧ k ≠ 1) (hf : f < nf k) : (ft k f).1 ≠ 1 := by
  have h : kdn k = true := by
    rcases obK_or hk with rfl | rfl | rfl | rfl | rfl | rfl | rfl | rfl | rfl | rfl <;> first | exact absurd rfl h01.1 | exact absurd rfl h01.2 | decide +kernel
  simpa using List.all_eq_true.mp h f (List.mem_range.mpr hf)
theorem fv_col {α : Nat → Nat → Nat} {S S' : Sto} {k i f : Nat} (h : S'.1 k f i = S.1 k f i) : fv α S' k i f = fv α S k i f := by
  unfold fv
  rw [h]
theorem lv_old {h : HT} {S : Sto} {k i : Nat} (hl : Lv h S k i) (hk : k ≠ 15) : i < S.2.2 k := by
  rcases Lv_un hl with ⟨q, -⟩ | ⟨-, -, q⟩
  · exact absurd q hk
  · exact q
/-- a new object -/
theorem w_new (hx : p.tables.exec = Jvm.exec) (hb : c.code = cc) (hown : s.vm.findClass own = some m.cls) (hK : va_K g.1 vwCl (tysG g) s) (hWT : WT s) (hR : Rep g α h S H) (hS : va_S (AB g) H0 H locs) (hbs : g.2.2.2 ≤ H.size) {k : Nat} (hk : obK k = true) (h01 : k ≠ 0 ∧ k ≠ 1)
    (hcl : (Cond.classLink own idx (vC (ci k)).1).before args s = true) (hinst : (Cond.instantiable (vC (ci k)).1 (vC (ci k)).2.2).before args s = true) (hini : (Cond.initialized (vC (ci k)).1).before args s = true)
    (hcells : cells + 1 ≤ R.cells) (hslots : slots + (vC (ci k)).2.2 ≤ R.slots) (hdg : decode cc pc = .ok (.new idx, 3))
    (kk : ∀ (H1 : Heap), Rep g (al1 α k (S.2.2 k) H.size) h (mkO S k) H1 → va_S (AB g) H0 H1 locs → H.size ≤ H1.size → W p l e R s m args below meth c H1 locs (cells + 1) (slots + (vC (ci k)).2.2) Q (F0 m (pc + 3) ls (.ref H.size :: rest))) : W p l e R s m args below meth c H locs cells slots Q (F0 m pc ls rest) := by
  obtain ⟨hKF, hn⟩ := kd_KF hk
  have hts := kf_words (args := args) hWT hKF
  have hKn := hK.1 (ci k) _ hKF.1
  refine W.newcK hx hb hown hcl hinst hini rfl hdg hcells hslots hKn.2.1 rfl fun H1 kC hkC e1 z1 o1 => ?_
  have hag : AgR S α (al1 α k (S.2.2 k) H.size) := al1_ag (Or.inl hk)
  refine kk H1 (hR.grow (Or.inl hk) hbs rfl ?_ o1 (fun k' i' hl => ?_) ?_) ⟨Nat.le_trans hS.1 (by omega), fun x h1 h2 => (o1 x (Nat.lt_of_lt_of_le h1 hS.1)).trans (hS.2.1 x h1 h2), hS.2.2⟩ (by omega)
  · rw [ent_ob hk]
    refine ⟨_, hKF.1, (u_born (tyC (ci k)) hts (fun _ h => h) hKn hkC e1 hKF.2.1).to fun j hj => ?_⟩
    have hj' : j < nf k := by rw [hn]; exact hj
    rw [fs_V hj']
    have h3 := kd_ty hk hj'
    unfold fv
    rcases hft : ft k j with ⟨t, a, b⟩
    rw [hft] at h3
    have hz : (mkO S k).1 k j (S.2.2 k) = 0 := mkO_new
    dsimp only at h3
    rcases t with _ | _ | _ | t
    · rw [if_pos rfl] at h3
      rw [h3]
      show Value.int 0 = Value.int _
      rw [hz]
    · exfalso
      exact kd_no1 hk h01 hj' (by rw [hft])
    · rw [if_neg (by omega)] at h3
      rw [(rty_ok h3.1).1]
      show Value.null = if (mkO S k).1 k j (S.2.2 k) = 0 then Value.null else _
      rw [hz, if_pos rfl]
    · rw [if_neg (by omega)] at h3
      rw [(rty_ok h3.1).1]
      show Value.null = if (mkO S k).1 k j (S.2.2 k) = 0 then Value.null else _
      rw [hz, if_pos rfl]
  · have h20 : ∀ i, (mkO S k).2.2 (20 + i) = S.2.2 (20 + i) := fun i => bump_ne (by have := (ob_ne (Or.inl hk)).2.2.2; omega)
    unfold ent
    have e1 : obK k' = true → fs (al1 α k (S.2.2 k) H.size) (mkO S k) k' i' = fs (al1 α k (S.2.2 k) H.size) S k' i' := fun h1 => List.map_congr_left fun f' _ => fv_col (mkO_ne fun q => by
      have := lv_old hl (ob_ne (Or.inl h1)).1
      rw [q.1] at this
      omega)
    by_cases h1 : obK k' = true
    · rw [if_pos h1, if_pos h1, e1 h1]
    · have n1 : ∀ x f j, x = 10 ∨ x = 11 → (mkO S k).1 x f j = S.1 x f j := fun x f j hx9 => mkO_ne fun q => by
        rw [← q.1] at hk
        rcases hx9 with rfl | rfl <;> exact absurd hk (by decide)
      have n10 : (mkO S k).1 10 i' = S.1 10 i' := funext fun j => n1 10 i' j (Or.inl rfl)
      have n11 : (mkO S k).1 11 i' = S.1 11 i' := funext fun j => n1 11 i' j (Or.inr rfl)
      rw [if_neg h1, if_neg h1, n10, n11, h20]
      rfl
  · intro k' i f h1 h2 h3 h4
    by_cases he : k' = k ∧ i = S.2.2 k
    · obtain ⟨rfl, rfl⟩ := he
      exact Or.inl ⟨kd_no1 h1 h01 h3, mkO_new⟩
    · rw [mkO_ne he]
      refine hR.2.2.2.1 k' i f h1 ?_ h3 h4
      change i < bump S.2.2 k k' at h2
      by_cases e : k' = k
      · subst e
        rw [bump_k] at h2
        have : i ≠ S.2.2 k' := fun q => he ⟨rfl, q⟩
        omega
      · rwa [bump_ne e] at h2
/-- a new array of ints or of booleans -/
theorem w_newa (hx : p.tables.exec = Jvm.exec) (hb : c.code = cc) (hK : va_K g.1 vwCl (tysG g) s) (hR : Rep g α h S H) (hS : va_S (AB g) H0 H locs) (hbs : g.2.2.2 ≤ H.size) {k : Nat} {atype : ArrayType} (hk : (k = 10 ∧ atype = .int) ∨ (k = 11 ∧ atype = .boolean))
    (harr : (Cond.arrayClass (newarray.typeOf atype)).before args s = true) {n : Int32} (hn : ¬ n < 0) (hN : n.toNatClampNeg = al k (S.2.2 k)) (hal : al k (S.2.2 k) ≤ 3000) (hcells : cells + 1 ≤ R.cells) (hslots : slots + al k (S.2.2 k) ≤ R.slots) (hdg : decode cc pc = .ok (.newarray atype, 2))
    (kk : ∀ (H1 : Heap), Rep g (al1 α k (S.2.2 k) H.size) h (mkA S k) H1 → va_S (AB g) H0 H1 locs → H.size ≤ H1.size → W p l e R s m args below meth c H1 locs (cells + 1) (slots + al k (S.2.2 k)) Q (F0 m (pc + 2) ls (.ref H.size :: rest))) : W p l e R s m args below meth c H locs cells slots Q (F0 m pc ls (.int n :: rest)) := by
  have hk1 : k = 10 ∨ k = 11 := hk.elim (fun q => Or.inl q.1) (fun q => Or.inr q.1)
  have hk2 : arK k = true := by rcases hk1 with rfl | rfl <;> rfl
  have hob : ∀ {k'}, obK k' = true → k' ≠ k := fun h1 e => by
    rw [e] at h1
    rcases hk1 with rfl | rfl <;> exact absurd h1 (by decide)
  have hag : AgR S α (al1 α k (S.2.2 k) H.size) := al1_ag (Or.inr hk2)
  refine va_newaK hx hb harr rfl hdg rfl hn hN (by rcases hk with ⟨-, rfl⟩ | ⟨-, rfl⟩ <;> · show _ * _ ≤ _; simp only [newarray.typeOf, componentBytes]; omega) hcells hslots rfl fun H1 cA e1 z1 o1 hAr hNm => ?_
  refine kk H1 (hR.grow (hk1.elim (fun q => Or.inr (Or.inl q)) (fun q => Or.inr (Or.inr (Or.inl q)))) hbs rfl ?_ o1 (fun k' i' hl => ?_) ?_) ⟨Nat.le_trans hS.1 (by omega), fun x h1 h2 => (o1 x (Nat.lt_of_lt_of_le h1 hS.1)).trans (hS.2.1 x h1 h2), hS.2.2⟩ (by omega)
  · rcases hk with ⟨rfl, rfl⟩ | ⟨rfl, rfl⟩
    · rw [ent_10]
      have hcA : cA = g.2.1.1 := Option.some.inj (hNm.symm.trans ((hK.2 0 _ rfl).2 : s.vm.findClass _ = some _))
      rw [mkA_new, ← hcA]
      exact e1
    · rw [ent_11]
      have hcA : cA = g.2.1.2.1 := Option.some.inj (hNm.symm.trans ((hK.2 1 _ rfl).2 : s.vm.findClass _ = some _))
      rw [mkA_new, ← hcA]
      exact e1
  · have h20 : ∀ i, (mkA S k).2.2 (20 + i) = S.2.2 (20 + i) := fun i => bump_ne (by rcases hk1 with rfl | rfl <;> omega)
    unfold ent
    by_cases h1 : obK k' = true
    · rw [if_pos h1, if_pos h1]
      have e1 : fs (al1 α k (S.2.2 k) H.size) (mkA S k) k' i' = fs (al1 α k (S.2.2 k) H.size) S k' i' := List.map_congr_left fun f' _ => fv_col (congrFun (mkA_ne fun q => hob h1 q.1) i')
      rw [e1]
    · rw [if_neg h1, if_neg h1, h20]
      by_cases h10 : k' = 10
      · have hlt := lv_old hl (by omega)
        rw [if_pos h10, if_pos h10, mkA_ne (fun q => by rw [h10, q.1] at hlt; omega)]
      · rw [if_neg h10, if_neg h10]
        by_cases h11 : k' = 11
        · have hlt := lv_old hl (by omega)
          rw [if_pos h11, if_pos h11, mkA_ne (fun q => by rw [h11, q.1] at hlt; omega)]
        · rw [if_neg h11, if_neg h11]
          rfl
  · intro k' i f h1 h2 h3 h4
    rw [mkA_ne fun q => hob h1 q.1]
    refine hR.2.2.2.1 k' i f h1 ?_ h3 h4
    change i < bump S.2.2 k k' at h2
    rwa [bump_ne (hob h1)] at h2
/-- a new array of longs -/
theorem w_newJ (hx : p.tables.exec = Jvm.exec) (hb : c.code = cc) (hK : va_K g.1 vwCl (tysG g) s) (hR : Rep g α h S H) (hS : va_S (AB g) H0 H locs) (hbs : g.2.2.2 ≤ H.size)
    (harr : (Cond.arrayClass .long).before args s = true) (hcells : cells + 1 ≤ R.cells) (hslots : slots + 25 ≤ R.slots) (hdg : decode cc pc = .ok (.newarray .long, 2))
    (kk : ∀ (H1 : Heap), Rep g (al1 α 12 (S.2.2 12) H.size) h (mkJ S) H1 → va_S (AB g) H0 H1 locs → H.size ≤ H1.size → W p l e R s m args below meth c H1 locs (cells + 1) (slots + 25) Q (F0 m (pc + 2) ls (.ref H.size :: rest))) : W p l e R s m args below meth c H locs cells slots Q (F0 m pc ls (.int 25 :: rest)) := by
  have hag : AgR S α (al1 α 12 (S.2.2 12) H.size) := al1_ag (Or.inr rfl)
  refine va_newaK (atype := .long) (N := 25) hx hb harr rfl hdg rfl (by decide) (by decide) (by decide) hcells hslots rfl fun H1 cA e1 z1 o1 hAr hNm => ?_
  have hcA : cA = g.2.1.2.2.1 := Option.some.inj (hNm.symm.trans ((hK.2 2 _ rfl).2 : s.vm.findClass _ = some _))
  refine kk H1 (hR.grow (Or.inr (Or.inr (Or.inr rfl))) hbs rfl ?_ o1 (fun k' i' hl => ?_) ?_) ⟨Nat.le_trans hS.1 (by omega), fun x h1 h2 => (o1 x (Nat.lt_of_lt_of_le h1 hS.1)).trans (hS.2.1 x h1 h2), hS.2.2⟩ (by omega)
  · rw [ent_12]
    have e2 : (mkJ S).2.1 (S.2.2 12) = fun _ => 0 := if_pos rfl
    rw [e2, ← hcA]
    exact e1
  · have h20 : ∀ i, (mkJ S).2.2 (20 + i) = S.2.2 (20 + i) := fun i => bump_ne (by omega)
    unfold ent
    by_cases h12 : k' = 12
    · subst h12
      have hlt := lv_old hl (by decide)
      have e : (mkJ S).2.1 i' = S.2.1 i' := if_neg (by omega)
      rw [e]
      rfl
    · rw [if_neg h12, if_neg h12, h20]
      rfl
  · intro k' i f h1 h2 h3 h4
    refine hR.2.2.2.1 k' i f h1 ?_ h3 h4
    change i < bump S.2.2 12 k' at h2
    rwa [bump_ne (fun e => by rw [e] at h1; exact absurd h1 (by decide))] at h2
end RA
