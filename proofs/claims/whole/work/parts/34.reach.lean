/-! WHERE A RIG CAN BE -/
/-- the places for each ten, step by step -/
def tabG (bay : Nat → Bool) (on ot tn : Nat → Nat) (op : Nat → Nat → Bool) (nr fr : Nat) : Nat → Nat → Nat → Bool
  | 0, g, p => decide (g = 0) && decide (p = fr)
  | n + 1, g, p => (tabG bay on ot tn op nr fr n g p || (decide (g = n + 1) && (tabG bay on ot tn op nr fr n n p && bay p))) || anyN (fun i => ((tabG bay on ot tn op nr fr n n (on i) && decide (p = ot i)) || (tabG bay on ot tn op nr fr n n (ot i) && decide (p = on i))) && (op i n && decide (g = n + tn i))) nr
def fstF (f : Nat → Bool) (ten : Int32) : Nat → Nat → Int32
  | 0, _ => -1
  | m + 1, k => if f k = true then ten + nI k else fstF f ten m (k + 1)
/-- only the class's own marks change -/
def onlyR (S S' : Sto) : Prop := S'.2 = S.2 ∧ ∀ k f i, ¬ (k = 10 ∧ f = 2) → S'.1 k f i = S.1 k f i
theorem onlyR.rf {S : Sto} : onlyR S S := ⟨rfl, fun _ _ _ _ => rfl⟩
theorem onlyR.tr {S S1 S2 : Sto} (h : onlyR S S1) (h2 : onlyR S1 S2) : onlyR S S2 := ⟨h2.1.trans h.1, fun k f i q => (h2.2 k f i q).trans (h.2 k f i q)⟩
theorem onlyR.wr {S : Sto} {i : Nat} {v : Int32} : onlyR S (wrI S 10 2 i v) := ⟨rfl, fun k f j q => wrI_ne fun z => q ⟨z.1, z.2.1⟩⟩
theorem onlyR.k {S S' : Sto} (h : onlyR S S') (k : Nat) (hk : k ≠ 10) : S'.1 k = S.1 k := by
  funext f i
  exact h.2 k f i fun q => hk q.1
theorem onlyR.a {S S' : Sto} (h : onlyR S S') (f : Nat) (hk : f ≠ 2) : S'.1 10 f = S.1 10 f := by
  funext i
  exact h.2 10 f i fun q => hk q.2
theorem onlyR.wf {S S' : Sto} (h : onlyR S S') (hW : WfH S) : WfH S' := by
  unfold WfH RoF RiF at hW ⊢
  rw [h.1, h.k 2 (by decide), h.k 3 (by decide), h.k 4 (by decide), h.k 5 (by decide), h.k 6 (by decide)]
  exact hW
theorem onlyR.op {S S' : Sto} (h : onlyR S S') (r d t : Int32) : openH S' r d t = openH S r d t := by
  unfold openH sizeH leaveH gwH gainH permH embH
  rw [h.1, h.k 2 (by decide), h.k 3 (by decide), h.k 4 (by decide), h.k 5 (by decide), h.k 6 (by decide), h.k 7 (by decide), h.k 8 (by decide), h.k 9 (by decide)]
theorem onlyR.la {S S' : Sto} (h : onlyR S S') (j i : Nat) : lastH S' j i = lastH S j i := by
  unfold lastH borneH heavH greatH lastN sumH
  rw [h.k 2 (by decide), h.k 4 (by decide), h.a 1 (by decide)]
def onN (S : Sto) (i : Nat) : Nat := (S.1 2 0 i).toNatClampNeg
def otN (S : Sto) (i : Nat) : Nat := (S.1 2 1 i).toNatClampNeg
def tnN (S : Sto) (i : Nat) : Nat := (S.1 2 6 i).toNatClampNeg
theorem ro_N {S : Sto} (hW : WfH S) {i : Nat} (hi : i < S.2.2 20) : S.1 2 0 i = nI (onN S i) ∧ S.1 2 1 i = nI (otN S i) ∧ S.1 2 6 i = nI (tnN S i) ∧ onN S i < 10 ∧ otN S i < 10 ∧ onN S i ≠ otN S i ∧ 1 ≤ tnN S i ∧ tnN S i ≤ 9 := by
  obtain ⟨p, q, a, t, s, h1, h2, -, h4, -, h6, h7, h8, -, h9, h10, -⟩ := hW.2.2.2.2.2.2.1 i hi
  have e1 : onN S i = p := by unfold onN; rw [h1]; exact nI_cl (by omega)
  have e2 : otN S i = q := by unfold otN; rw [h2]; exact nI_cl (by omega)
  have e3 : tnN S i = t := by unfold tnN; rw [h4]; exact nI_cl (by omega)
  rw [e1, e2, e3]
  exact ⟨h1, h2, h4, h6, h7, h8, h9, h10⟩
/-- the marks of one drive's road -/
def beyN (S : Sto) (i : Nat) (hr : Nat → Bool) (p : Nat) : Bool := (hr (onN S i) && decide (p = otN S i)) || (hr (otN S i) && decide (p = onN S i))
def stpN (S : Sto) (rig fit first : Int32) (hr : Nat → Bool) (gone g p n : Nat) : Bool := anyN (fun i => beyN S i hr p && ((bit fit i && openH S rig (nI i) (first + nI gone)) && decide (g = gone + tnN S i))) n
def s_X6_driveOn : SP := fun as S Q => o5 0 as fun rig fit here first gone => WfH S ∧ inN rig (S.2.2 22) ∧ ∃ gn : Nat, gone = nI gn ∧ gn < 288 ∧
  ∀ S', onlyR S S' → (∀ g p, g < 288 → p < 10 → bit (S'.1 10 2 g) p = (bit (S.1 10 2 g) p || stpN S rig fit first (bit here) gn g p (S.2.2 20))) → Q (Sum.inl none) S'
