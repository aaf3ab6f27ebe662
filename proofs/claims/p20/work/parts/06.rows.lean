/-! THE MACHINE'S ROWS over the world: reads and writes -/
section RW
variable {p : Program} {l : Launch} {e : Env} {R : Room} {s : State} {m : MethodId} {args : Array Value} {below : List Frame} {meth : Method} {c : Code} {H : Heap} {locs : List Loc} {cells slots : Nat} {Q : State → Prop}
variable {cc : ByteArray} {pc : Nat} {ls : Array Slot} {rest : List Value} {g : GT} {α : Nat → Nat → Nat} {h : HT} {S : Sto} {H0 : Heap} {own : String} {idx : Nat}
theorem kf_words {s : State} (hWT : WT s) {a : Nat} (hKF : KF a) : ∀ w ∈ u_ws (vC a).1 (vC a).2.1 (vC a).2.2, w.before args s = true := fun w hw => hWT w (hKF.2.2.2 w hw).1 (by rw [(hKF.2.2.2 w hw).2]; rfl) args
theorem w_get (hx : p.tables.exec = Jvm.exec) (hb : c.code = cc) (hown : s.vm.findClass own = some m.cls) (hK : va_K g.1 vwCl (tysG g) s) (hWT : WT s) (hR : Rep g α h S H) {k f i : Nat} (hk : obK k = true) (hi : i < S.2.2 k) (hf : f < nf k)
    (hlink : (Cond.fieldLink own idx (vC (ci k)).1 ((vC (ci k)).2.1 f).2.1 ((vC (ci k)).2.1 f).2.2.1).before args s = true) (hC : ((vC (ci k)).2.1 f).1 = (vC (ci k)).1) (hdg : decode cc pc = .ok (.getfield idx, 3))
    (kk : W p l e R s m args below meth c H locs cells slots Q (F0 m (pc + 3) ls (fv α S k i f :: rest))) : W p l e R s m args below meth c H locs cells slots Q (F0 m pc ls (.ref (α k i) :: rest)) := by
  obtain ⟨hKF, hn⟩ := kd_KF hk
  refine va_get (D := g.1) (ci := ci k) (C := (vC (ci k)).1) (T := (vC (ci k)).2.1) (N := (vC (ci k)).2.2) (Ts := u_ws (vC (ci k)).1 (vC (ci k)).2.1 (vC (ci k)).2.2) hx hb (kf_words hWT hKF) (fun _ h => h) hown hK (hR.ob hk hi) 0 rfl hKF.1 f (by rw [← hn]; exact hf) hlink (fun x hx' => by rw [hC] at hx'; exact hx') (fs_get hf) hdg kk
/-- the cell behind a written object -/
theorem ob_after {a : Nat} {cell : Cell} {k i f : Nat} {v : Int32} {H1 : Heap} {fsl : Nat → Nat} (hN : nf k = (vC (ci k)).2.2) (hf : f < nf k) (hap : ∀ x y, x < nf k → y < nf k → x ≠ y → fsl x ≠ fsl y)
    (e1 : H1[a]? = some (cell.setSlot (fsl f) (fv α (wrI S k f i v) k i f))) (q2 : cell.cls = g.1.1 (ci k)) (q3 : cell.vm = .none) (q4 : ∀ j, j < nf k → cell.slots[fsl j]? = some (fv α S k i j)) :
    t_OB a (g.1.1 (ci k)) (nf k) fsl H1 (vp_V (fs α (wrI S k f i v) k i)) := by
  refine ⟨_, e1, q2, q3, fun j hj => ?_⟩
  rw [fs_V hj]
  by_cases hjf : j = f
  · subst hjf
    have h1 := q4 j hj
    have h2 := (Array.getElem?_eq_some_iff.mp h1).1
    show (cell.slots.setIfInBounds _ _)[_]? = _
    simp [h2]
  · have h1 := hap f j hf hj (fun q => hjf q.symm)
    show (cell.slots.setIfInBounds _ _)[_]? = _
    rw [Array.getElem?_setIfInBounds_ne h1, q4 j hj, fv_wrI (fun q => hjf q.2.1)]
theorem cl_wrI {k f i : Nat} {v : Int32} {H : Heap} (hR : Rep g α h S H) (hlv : (ft k f).1 = 0 ∨ LvR S (fR k f i).1 (fR k f i).2) :
    ∀ k' i' f', obK k' = true → i' < S.2.2 k' → f' < nf k' → (ft k' f').1 ≠ 0 → ((ft k' f').1 ≠ 1 ∧ (wrI S k f i v).1 k' f' i' = 0) ∨ LvR S (fR k' f' i').1 (fR k' f' i').2 := by
  intro k' i' f' h1 h2 h3 h4
  by_cases he : k' = k ∧ f' = f ∧ i' = i
  · obtain ⟨rfl, rfl, rfl⟩ := he
    exact Or.inr (hlv.resolve_left h4)
  · rw [wrI_ne he]
    exact hR.2.2.2.1 k' i' f' h1 h2 h3 h4
theorem w_put (hx : p.tables.exec = Jvm.exec) (hb : c.code = cc) (hown : s.vm.findClass own = some m.cls) (hK : va_K g.1 vwCl (tysG g) s) (hWT : WT s) (hR : Rep g α h S H) (hS : va_S (AB g) H0 H locs) {k f i : Nat} (hk : obK k = true) (hi : i < S.2.2 k) (hf : f < nf k) {x : Int32}
    (hlink : (Cond.fieldLink own idx (vC (ci k)).1 ((vC (ci k)).2.1 f).2.1 ((vC (ci k)).2.1 f).2.2.1).before args s = true) (hC : ((vC (ci k)).2.1 f).1 = (vC (ci k)).1) (hfin : ((vC (ci k)).2.1 f).2.2.2 = false ∨ (meth.name = "<init>" ∧ (vC (ci k)).1 = own))
    (hfit : narrow (tyC (ci k) f) (fv α (wrI S k f i x) k i f) = fv α (wrI S k f i x) k i f ∧ fits (tyC (ci k) f) (fv α (wrI S k f i x) k i f) = true) (hlv : (ft k f).1 = 0 ∨ LvR S (fR k f i).1 (fR k f i).2)
    (hdg : decode cc pc = .ok (.putfield idx, 3)) (kk : ∀ (H1 : Heap) (locs1 : List Loc), Rep g α h (wrI S k f i x) H1 → va_S (AB g) H0 H1 locs1 → W p l e R s m args below meth c H1 locs1 cells slots Q (F0 m (pc + 3) ls rest)) :
    W p l e R s m args below meth c H locs cells slots Q (F0 m pc ls (fv α (wrI S k f i x) k i f :: .ref (α k i) :: rest)) := by
  obtain ⟨hKF, hn⟩ := kd_KF hk
  have hts := kf_words (args := args) hWT hKF
  have hf' : f < (vC (ci k)).2.2 := by rw [← hn]; exact hf
  have hc := hKF.1
  have hap := va_apart (D := g.1) (cl := vwCl) (tys := tysG g) (own := own) (ci := ci k) hts (fun _ h => h) (tyC (ci k)) hKF.2.1 hKF.2.2.1 hK hc
  obtain ⟨r, h1, cell, q1, q2, q3, q4⟩ := hR.ob hk hi 0 _ rfl
  have hr : r = ((vC (ci k)).1, (vC (ci k)).2.1, (vC (ci k)).2.2) := Option.some.inj (h1.symm.trans hc)
  subst hr
  obtain ⟨hSl, hfc, kC, hkC, hkind⟩ := hK.1 (ci k) _ hc
  obtain ⟨cf, kf, fi, fd, hfd, hsl⟩ := hSl f hf'
  have hlay := hts _ (u_in_lay hf')
  have hst := (u_facts hfc hkC (u_lays hts (fun _ h => h) hf') hfd).1
  have q4' : ∀ j, j < nf k → cell.slots[g.1.2 (ci k) j]? = some (fv α S k i j) := fun j hj => by rw [← fs_V hj]; exact q4 j (by rw [← hn]; exact hj)
  have hsame : s.fieldFound? (vC (ci k)).1 ((vC (ci k)).2.1 f).2.1 ((vC (ci k)).2.1 f).2.2.1 = some (cf, kf, fi, fd) := by
    dsimp only at hfd
    rw [hC] at hfd
    exact hfd
  have key : ∀ H' : Heap, H'[α k i]? = some (cell.setSlot fd.slot (fv α (wrI S k f i x) k i f)) → H'.size = H.size → (∀ q, q ≠ α k i → H'[q]? = H[q]?) → Rep g α h (wrI S k f i x) H' := by
    intro H' e1 e2 e3
    rw [hsl] at e1
    have hl : Lv h S k i := Lv_of (Or.inl hk) hi
    have ha : adr α h k i = α k i := adr_of (Or.inl hk)
    refine hR.upd (S' := wrI S k f i x) hl ?_ (by rw [ha]; exact e3) rfl (fun k' i' _ hne => ent_wrI hk hne) (cl_wrI hR hlv)
    rw [ha, ent_ob hk]
    refine ⟨_, hc, ?_⟩
    have h9 := ob_after (g := g) (a := α k i) (fsl := g.1.2 (ci k)) hn hf (fun a b ha hb => hap a b (by rw [← hn]; exact ha) (by rw [← hn]; exact hb)) e1 q2 q3 q4'
    rw [hn] at h9
    exact h9
  have hAB : AB g (α k i) := by
    have := hR.2.2.1 k i (Lv_of (Or.inl hk) hi)
    rw [adr_of (Or.inl hk)] at this
    exact this
  have hslot : fd.slot < cell.slots.size := by rw [hsl]; exact k2_hasslot (q4' f hf)
  by_cases hfl : ((vC (ci k)).2.1 f).2.2.2 = false
  · unfold u_lay at hlay
    rw [if_neg (by rw [hfl]; decide)] at hlay
    have h6 := u_store hfc hkC hkind hlay hfd (hKF.2.1 f hf') hfit.1 hfit.2
    refine W.putK hx hb (f := fd) ⟨hown, hlink, ⟨_, _, _, hsame⟩, hst⟩ (by rw [q2]; exact h6) q1 q3 hslot rfl rfl hdg fun H' e1 e2 e3 => ?_
    exact kk H' _ (key H' e1 e2 e3) (hS.put e2 e3 hAB)
  · obtain ⟨hin2, hdecl⟩ := hfin.resolve_left hfl
    unfold u_lay at hlay
    rw [if_pos (by simpa using hfl)] at hlay
    have hcf : m.cls = cf := by
      obtain ⟨_, _, c', _, _, _, -, -, hf9, -, -, -, hown2, -⟩ := Cond.laysFinal_spec hlay
      have e1 : c' = cf := by have := hfd.symm.trans hf9; simp at this; exact this.1.symm
      rw [hC, hdecl] at hown2
      rw [← e1]; exact Option.some.inj (hown.symm.trans hown2)
    have h6 := u_fits hfc hkC hkind (Or.inr hlay) hfd (hKF.2.1 f hf') hfit.1 hfit.2
    refine W.putFinK hx hb hown hlink hsame hst hcf hin2 (by rw [q2]; exact h6) q1 q3 hslot rfl rfl hdg fun H' e1 e2 e3 => ?_
    exact kk H' _ (key H' e1 e2 e3) (hS.put e2 e3 hAB)
end RW
