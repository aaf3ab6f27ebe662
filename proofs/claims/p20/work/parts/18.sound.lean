/-! SOUND: the whole -/
section SNW
variable {p : Program} {l : Launch} {e : Env} {R : Room} {s : State} {m : MethodId} {args : Array Value} {below : List Frame} {meth : Method} {c : Code} {Qm : State → Prop} {g : GT} {α0 : Nat → Nat → Nat} {S0 : Sto} {cc : ByteArray} {own : String} {nL rk cb sb B : Nat} {ini : Bool} {rb : Nat}
variable {tb : Tb} {Q : Out → Sto → Prop} {hn : List (Nat × Nat × Nat × Nat)} {scr : Nat × (Nat → Int32)}
set_option maxHeartbeats 4000000 in
theorem wpI_sound {pc len xa xb : Nat} {ins : Instr} {xv : Int32} {xl : List Nat} {xu : Nat} {xs : SP} {nx : Tb} {K : Tb → Lo → List AV → Sto → Nat → Prop} {L : Lo} {st : List AV} {S : Sto} {u : Nat}
    (C : Cx p l s m meth c R cc own nL rk cb sb B ini g) (hf : Fin p l e R s m args below meth c Qm g α0 S0 nL cb sb B cc own Q rb hn) (hsc : 0 < scr.1 → ScrOK s g α0 scr) (hK : KOK tb (Ga p l e R s m args below meth c Qm g α0 S0 nL cb sb B) K) (hsx : nx <:+ tb) (hnx : ∀ q ∈ nx.head?, q.1 = pc + len)
    (hchk : chkI cc own ini pc ins len xa xb xv xl = true) (hcall : CallOK l own rk ins xa xb xu xs) (h : wpI tb Q rb B hn scr pc ins xa xb xv xl xu xs nx K L st S u) : Go p l e R s m args below meth c Qm g α0 S0 nL cb sb B pc L st S u := by
  have pl : ∀ {n : Nat} {b : Bool}, (dcd cc pc ins len && len == n && b) = true → (dcd cc pc ins len && len == n) = true ∧ b = true := fun q => by rwa [Bool.and_eq_true] at q
  cases ins with
  | iload_n i => exact s_iload_n (pl hchk).1 h C hK hsx hnx
  | iload i => exact s_iload (pl hchk).1 h C hK hsx hnx
  | aload_n i => exact s_aload_n (pl hchk).1 h C hK hsx hnx
  | aload i => exact s_aload (pl hchk).1 h C hK hsx hnx
  | lload_n i => exact s_lload_n (pl hchk).1 h C hK hsx hnx
  | lload i => exact s_lload (pl hchk).1 h C hK hsx hnx
  | istore_n i => exact s_istore_n (pl hchk).1 h C hK hsx hnx
  | istore i => exact s_istore (pl hchk).1 h C hK hsx hnx
  | astore_n i => exact s_astore_n (pl hchk).1 h C hK hsx hnx
  | astore i => exact s_astore (pl hchk).1 h C hK hsx hnx
  | lstore_n i => exact s_lstore_n (pl hchk).1 h C hK hsx hnx
  | lstore i => exact s_lstore (pl hchk).1 h C hK hsx hnx
  | iconst k => exact s_iconst (pl hchk).1 (of_decide_eq_true (pl hchk).2) h C hK hsx hnx
  | bipush k => exact s_bipush (pl hchk).1 (of_decide_eq_true (pl hchk).2) h C hK hsx hnx
  | sipush k => exact s_sipush (pl hchk).1 (of_decide_eq_true (pl hchk).2) h C hK hsx hnx
  | lconst k => exact s_lconst (pl hchk).1 h C hK hsx hnx
  | iinc i n => exact s_iinc (pl hchk).1 (of_decide_eq_true (pl hchk).2) h C hK hsx hnx
  | ldc k =>
    have h2 := (pl hchk).2
    rcases xl with _ | ⟨w, _ | ⟨w', r⟩⟩
    · cases h2
    · exact s_ldc (pl hchk).1 h2 h C hK hsx hnx
    · cases h2
  | iadd => exact s_iadd (pl hchk).1 h C hK hsx hnx
  | isub => exact s_isub (pl hchk).1 h C hK hsx hnx
  | imul => exact s_imul (pl hchk).1 h C hK hsx hnx
  | iand => exact s_iand (pl hchk).1 h C hK hsx hnx
  | ior => exact s_ior (pl hchk).1 h C hK hsx hnx
  | ixor => exact s_ixor (pl hchk).1 h C hK hsx hnx
  | ineg => exact s_ineg (pl hchk).1 h C hK hsx hnx
  | lrem => exact s_lrem (pl hchk).1 h C hK hsx hnx
  | land => exact s_land (pl hchk).1 h C hK hsx hnx
  | lor => exact s_lor (pl hchk).1 h C hK hsx hnx
  | lshl => exact s_lshl (pl hchk).1 h C hK hsx hnx
  | lshr => exact s_lshr (pl hchk).1 h C hK hsx hnx
  | ishl => exact s_ishl (pl hchk).1 h C hK hsx hnx
  | ishr => exact s_ishr (pl hchk).1 h C hK hsx hnx
  | idiv => exact s_idiv (pl hchk).1 h C hK hsx hnx
  | irem => exact s_irem (pl hchk).1 h C hK hsx hnx
  | ladd => exact s_ladd (pl hchk).1 h C hK hsx hnx
  | lsub => exact s_lsub (pl hchk).1 h C hK hsx hnx
  | lmul => exact s_lmul (pl hchk).1 h C hK hsx hnx
  | ldiv => exact s_ldiv (pl hchk).1 h C hK hsx hnx
  | lcmp => exact s_lcmp (pl hchk).1 h C hK hsx hnx
  | i2l => exact s_i2l (pl hchk).1 h C hK hsx hnx
  | l2i => exact s_l2i (pl hchk).1 h C hK hsx hnx
  | dup => exact s_dup (pl hchk).1 h C hK hsx hnx
  | dup2 => exact s_dup2 (pl hchk).1 h C hK hsx hnx
  | pop => exact s_pop (pl hchk).1 h C hK hsx hnx
  | baload => exact s_baload (pl hchk).1 h C hK hsx hnx
  | laload => exact s_laload (pl hchk).1 h C hK hsx hnx
  | iastore => exact s_iastore (pl hchk).1 h C hK hsx hnx
  | bastore => exact s_bastore (pl hchk).1 h C hK hsx hnx
  | lastore => exact s_lastore (pl hchk).1 h C hK hsx hnx
  | goto off => exact s_goto (pl hchk).1 (of_decide_eq_true (pl hchk).2) h C hK hsx hnx
  | ifCond o off => exact s_if (pl hchk).1 (of_decide_eq_true (pl hchk).2) h C hK hsx hnx
  | if_icmp o off => exact s_icmp (pl hchk).1 (of_decide_eq_true (pl hchk).2) h C hK hsx hnx
  | tableswitch d lo hi offs =>
    have h2 : (dcd cc pc (.tableswitch d lo hi offs) len && decide ((pc : Int) + d = (xa : Int)) && decide (offs.toList.map (fun o => (pc : Int) + o) = xl.map (fun (t : Nat) => (t : Int))) && decide (hi + 1 = lo + (xl.length : Int))) = true := hchk
    simp only [Bool.and_eq_true, decide_eq_true_eq] at h2
    exact s_tsw h2.1.1.1 h2.1.1.2 h2.1.2 h2.2 h C hK hsx hnx
  | getfield k =>
    have h2 := (pl hchk).2
    rcases xl with _ | ⟨w, _ | ⟨w', r⟩⟩
    · cases h2
    · exact s_getfield (pl hchk).1 h2 h C hK hsx hnx
    · cases h2
  | putfield k =>
    have h2 := (pl hchk).2
    rcases xl with _ | ⟨w, _ | ⟨w', r⟩⟩
    · cases h2
    · exact s_putfield (pl hchk).1 h2 h C hK hsx hnx
    · cases h2
  | newarray t =>
    have h2 := (pl hchk).2
    rcases xl with _ | ⟨w, _ | ⟨w', r⟩⟩
    · cases h2
    · exact s_newarray (pl hchk).1 h2 h C hK hsx hnx
    · cases h2
  | checkcast k =>
    have h2 := (pl hchk).2
    rcases xl with _ | ⟨w, _ | ⟨w', r⟩⟩
    · cases h2
    · exact s_cast (pl hchk).1 h2 h C hK hsx hnx
    · cases h2
  | new k => exact s_new hf hchk h C hK hsx hnx
  | iaload => exact s_iaload (pl hchk).1 hsc h C hK hsx hnx
  | arraylength => exact s_alen (pl hchk).1 hsc h C hK hsx hnx
  | ireturn => exact s_ireturn hf (pl hchk).1 h C hK hsx hnx
  | areturn => exact s_areturn hf (pl hchk).1 h C hK hsx hnx
  | return_ => exact s_return hf (pl hchk).1 h C hK hsx hnx
  | invokestatic k => exact s_invS hf (pl hchk).1 hcall h C hK hsx hnx
  | invokevirtual k => exact s_invV hf (pl hchk).1 hcall h C hK hsx hnx
  | invokespecial k => exact s_invI hf (pl hchk).1 hcall h C hK hsx hnx
  | _ => exact (show False from h).elim
theorem callsOK_mem {l : Launch} {own : String} {rk : Nat} {tb : Tb} (h : CallsOK l own rk tb) {q : Nat × Instr × Nat × Xi} (hq : q ∈ tb) : CallOK l own rk q.2.1 q.2.2.2.1.1 q.2.2.2.1.2.1 q.2.2.2.2.2.1 q.2.2.2.2.2.2 := by
  induction tb with
  | nil => cases hq
  | cons a r ih =>
    rcases List.mem_cons.mp hq with rfl | hq
    · exact h.1
    · exact ih h.2 hq
theorem wp_sound (C : Cx p l s m meth c R cc own nL rk cb sb B ini g) (hf : Fin p l e R s m args below meth c Qm g α0 S0 nL cb sb B cc own Q rb hn) (hsc : 0 < scr.1 → ScrOK s g α0 scr) (hchk : chkTb cc own ini tb = true) (hcalls : CallsOK l own rk tb) (cuts : List Nat) :
    ∀ (n : Nat) (fi : Bool) (suf : Tb) (pc : Nat) (L : Lo) (st : List AV) (S : Sto) (u : Nat), suf <:+ tb → (∀ q ∈ suf.head?, q.1 = pc) → wp tb (Ga p l e R s m args below meth c Qm g α0 S0 nL cb sb B) Q rb B hn cuts scr n fi suf L st S u → Go p l e R s m args below meth c Qm g α0 S0 nL cb sb B pc L st S u := by
  rw [chkTb, Bool.and_eq_true] at hchk
  intro n
  induction n with
  | zero => intro fi suf pc L st S u _ _ h; exact h.elim
  | succ n ih =>
    intro fi suf pc L st S u hs hh h
    cases suf with
    | nil => exact h.elim
    | cons q nx =>
      obtain ⟨pc', ins, len, ⟨⟨xa, xb, xv⟩, xl, xu, xs⟩⟩ := q
      have hpc : pc' = pc := hh _ rfl
      subst hpc
      have hm : (pc', ins, len, ((xa, xb, xv), xl, xu, xs)) ∈ tb := hs.subset List.mem_cons_self
      have h1 : bif !fi && cuts.elem pc' then Ga p l e R s m args below meth c Qm g α0 S0 nL cb sb B pc' L st S u else wpI tb Q rb B hn scr pc' ins xa xb xv xl xu xs nx (wp tb (Ga p l e R s m args below meth c Qm g α0 S0 nL cb sb B) Q rb B hn cuts scr n false) L st S u := h
      cases hc : (!fi && cuts.elem pc') with
      | true =>
        rw [hc] at h1
        exact h1
      | false =>
        rw [hc] at h1
        have hsx : nx <:+ tb := (List.suffix_cons _ _).trans hs
        have k1 := List.all_eq_true.mp hchk.2 _ hm
        have k2 := callsOK_mem hcalls hm
        have k3 := chn_hd hchk.1 hs
        dsimp only at k1 k2 k3
        have k4 : KOK tb (Ga p l e R s m args below meth c Qm g α0 S0 nL cb sb B) (wp tb (Ga p l e R s m args below meth c Qm g α0 S0 nL cb sb B) Q rb B hn cuts scr n false) := fun nx2 pc2 L2 st2 S2 u2 hs2 hh2 hk2 => ih false nx2 pc2 L2 st2 S2 u2 hs2 hh2 hk2
        exact wpI_sound C hf hsc k4 hsx k3 k1 k2 h1
theorem seg_sound (C : Cx p l s m meth c R cc own nL rk cb sb B ini g) (hf : Fin p l e R s m args below meth c Qm g α0 S0 nL cb sb B cc own Q rb hn) (hsc : 0 < scr.1 → ScrOK s g α0 scr) (hchk : chkTb cc own ini tb = true) (hcalls : CallsOK l own rk tb) :
    Seg tb (Ga p l e R s m args below meth c Qm g α0 S0 nL cb sb B) Q rb B hn scr := fun cuts n pc L st S u h => wp_sound C hf hsc hchk hcalls cuts n true (drp tb pc) pc L st S u drp_suf drp_hd h
end SNW
