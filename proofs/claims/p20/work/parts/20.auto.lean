/-! CONTRACTS of methods without loops: what the pure machine itself asks -/
def isCl : Instr → Bool
  | .invokestatic _ => true
  | .invokevirtual _ => true
  | .invokespecial _ => true
  | _ => false
theorem callsOK_f {l : Launch} {own : String} {rk : Nat} {tb : Tb} (h : CallsOK l own rk (tb.filter fun q => isCl q.2.1)) : CallsOK l own rk tb := by
  induction tb with
  | nil => trivial
  | cons q r ih =>
    rw [List.filter_cons] at h
    split at h
    · exact ⟨h.1, ih h.2⟩
    · rename_i hq
      refine ⟨?_, ih h⟩
      obtain ⟨pc, ins, x⟩ := q
      cases ins <;> first | trivial | exact absurd rfl hq
theorem wp_G {tb : Tb} {G G' : Gt} {Q : Out → Sto → Prop} {rb B : Nat} {hn : List (Nat × Nat × Nat × Nat)} {scr : Nat × (Nat → Int32)} : ∀ n, wp tb G Q rb B hn [] scr n = wp tb G' Q rb B hn [] scr n := by
  intro n
  induction n with
  | zero => rfl
  | succ n ih =>
    funext fi suf L st S u
    unfold wp
    cases suf with
    | nil => rfl
    | cons q r =>
      obtain ⟨pc, ins, len, ⟨⟨xa, xb, xv⟩, xl, xu, xs⟩⟩ := q
      show (bif !fi && List.elem pc [] then _ else _) = (bif !fi && List.elem pc [] then _ else _)
      rw [List.elem_nil, Bool.and_false, cond_false, cond_false, ih]
def aS (tb : Tb) (n maxL rb B : Nat) : SP := fun as S Q => bif as.length == n && as.all (fun a => catV a == 1) then wp tb (fun _ _ _ _ _ => False) Q rb B [] [] (0, fun _ => 0) 300 true (drp tb 0) (argL as maxL) [] S 0 else False
def aM (tb : Tb) (c n maxL rb B : Nat) : SP := fun as S Q => match as with
  | Sum.inr (Sum.inr (k, i)) :: r => bif obK k && ci k == c then aS tb n maxL rb B (Sum.inr (Sum.inr (k, i)) :: r) S Q else False
  | _ => False
theorem aS_vc {tb : Tb} {n maxL rb B : Nat} : ∀ (G : Gt) (Q : Out → Sto → Prop) (as : List AV) (S : Sto), aS tb n maxL rb B as S Q → Seg tb G Q rb B [] (0, fun _ => 0) → G 0 (argL as maxL) [] S 0 := by
  intro G Q as S h hs
  unfold aS at h
  cases hc : (as.length == n && as.all (fun a => catV a == 1)) <;> rw [hc] at h
  · exact h.elim
  · exact hs [] 300 0 _ _ _ _ (by rw [wp_G (G' := fun _ _ _ _ _ => False)]; exact h)
theorem aS_args {tb : Tb} {n maxL rb B : Nat} (hn : n ≤ maxL) : ∀ as S P, aS tb n maxL rb B as S P → as.length ≤ maxL ∧ ∀ a ∈ as, catV a = 1 := by
  intro as S P h
  unfold aS at h
  cases hc : (as.length == n && as.all (fun a => catV a == 1)) <;> rw [hc] at h
  · exact h.elim
  · simp only [Bool.and_eq_true, beq_iff_eq, List.all_eq_true] at hc
    exact ⟨by omega, hc.2⟩
theorem aM_in {tb : Tb} {c n maxL rb B : Nat} {as : List AV} {S : Sto} {P : Out → Sto → Prop} (h : aM tb c n maxL rb B as S P) : aS tb n maxL rb B as S P ∧ ∃ k i r, as = aR k i :: r ∧ ci k = c ∧ obK k = true := by
  unfold aM at h
  split at h
  · rename_i k i r
    cases hc : (obK k && ci k == c) <;> rw [hc] at h
    · exact h.elim
    · simp only [Bool.and_eq_true, beq_iff_eq] at hc
      exact ⟨h, k, i, r, rfl, hc.2, hc.1⟩
  · exact h.elim
theorem aM_vc {tb : Tb} {c n maxL rb B : Nat} : ∀ (G : Gt) (Q : Out → Sto → Prop) (as : List AV) (S : Sto), aM tb c n maxL rb B as S Q → Seg tb G Q rb B [] (0, fun _ => 0) → G 0 (argL as maxL) [] S 0 := fun G Q as S h hs => aS_vc G Q as S (aM_in h).1 hs
theorem aM_args {tb : Tb} {c n maxL rb B : Nat} (hn : n ≤ maxL) : ∀ as S P, aM tb c n maxL rb B as S P → as.length ≤ maxL ∧ ∀ a ∈ as, catV a = 1 := fun as S P h => aS_args hn as S P (aM_in h).1
theorem aM_rc {tb : Tb} {c n maxL rb B : Nat} : ∀ as S P, aM tb c n maxL rb B as S P → ∃ k i r, as = aR k i :: r ∧ ci k = c ∧ (obK k = true ∨ k = 13) := fun as S P h => by
  obtain ⟨k, i, r, h1, h2, h3⟩ := (aM_in h).2
  exact ⟨k, i, r, h1, h2, Or.inl h3⟩
theorem aM_ri {tb : Tb} {c n maxL rb B : Nat} : ∀ as S P, aM tb c n maxL rb B as S P → ∃ k i r, as = aR k i :: r ∧ (obK k = true ∨ k = 13) := fun as S P h => by
  obtain ⟨k, i, r, h1, h2, h3⟩ := (aM_in h).2
  exact ⟨k, i, r, h1, Or.inl h3⟩
