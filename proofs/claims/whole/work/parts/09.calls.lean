section RX3
theorem enumL_args : ∀ (av : List Value) (g : GG) (ρ : Nat → Nat) (i k : Nat), enumL i ((entL av ++ List.replicate k none).map (Option.map (vm g ρ))) = lv_args i (av.map (vm g ρ))
  | [], g, ρ, i, k => by
    have h : ∀ (k i : Nat), enumL i ((List.replicate k (none : Option Value)).map (Option.map (vm g ρ))) = [] := by
      intro k
      induction k with
      | zero => intro i; rfl
      | succ k ih => intro i; rw [List.replicate_succ, List.map_cons]; exact ih (i + 1)
    simpa [entL, lv_args] using h k i
  | v :: vs, g, ρ, i, k => by
    have hc := vm_cat g ρ v
    by_cases h2 : v.category = 2
    · rw [entL, if_pos h2, List.map_cons, lv_args, hc, if_pos h2]
      show (i, vm g ρ v) :: enumL (i + 1 + 1) ((entL vs ++ List.replicate k none).map (Option.map (vm g ρ))) = _
      rw [enumL_args vs g ρ (i + 1 + 1) k]
    · rw [entL, if_neg h2, List.map_cons, lv_args, hc, if_neg h2]
      show (i, vm g ρ v) :: enumL (i + 1) ((entL vs ++ List.replicate k none).map (Option.map (vm g ρ))) = _
      rw [enumL_args vs g ρ (i + 1) k]
theorem entL_len : ∀ (av : List Value) (g : GG) (ρ : Nat → Nat), (lg_sl (av.map (vm g ρ))).length = (entL av).length
  | [], g, ρ => rfl
  | v :: vs, g, ρ => by
    have ih := entL_len vs g ρ
    have hc := vm_cat g ρ v
    unfold lg_sl at ih ⊢
    rw [List.map_cons, List.flatMap_cons, List.length_append, ih, hc]
    by_cases h2 : v.category = 2
    · rw [entL, if_pos h2, if_pos h2]; simp; omega
    · rw [entL, if_neg h2, if_neg h2]; simp; omega
variable {g : GG} {d mc ms : Nat} {M : MI} {n0 : Nat} {Q : Option Value → List CS → SS → LL → Prop} {cu su pc : Nat} {ls ls' : List (Option Value)} {st rest : List Value} {sh : List CS} {S : SS} {L : LL}
theorem ct_of {av : List Value} (n : Nat) (hy : plainName M.1.cls = true) (hls : entL av ++ List.replicate n none = ls) (hlen : ls.length = M.2.2.1) (k : Rx g d mc ms M sh.length Q 0 0 0 ls [] sh S L) : Ct g d mc ms M av sh S L Q := by
  intro ρ sz
  refine Met.ofW (cc := M.2.1) (maxL := M.2.2.1) (ret := M.2.2.2) hy rfl ?_
  intro p e s m args below meth c s₁ B hml hv
  obtain ⟨rfl, hsz, hle, hP, hK, hD, hT⟩ := hv
  have hts := atoms_spec (ws := wsM M) B.pre
  have hlen2 : (lg_sl (av.map (vm g ρ))).length ≤ M.2.2.1 := by
    rw [entL_len, ← hlen, ← hls, List.length_append]; omega
  subst hsz
  rw [lg_entry_eq]
  have hl := lv_entry (av.map (vm g ρ)) (n := M.2.2.1) hlen2
  refine k p e s m _ below meth c ρ (va_A (wsOf g ρ sh S L) s.heap.size) ρ s.heap [] _ ⟨B.exec, B.bytes, B.returns, hml, findClass_of_methodNamed B.named, fun w hw => hts w (List.mem_cons_of_mem _ hw), B.notSynchronized, (name_of_methodNamed B.named B.method).1⟩ ⟨⟨Nat.le_refl _, hle, fun _ _ => rfl⟩, fun q h => Or.inr h, va_S.rf, hK, hP, hD.self, hT⟩ ⟨hlen, ?_⟩
  rw [← hls, enumL_args]
  exact hl
/-- a call's own facts: entry idx of own's constants, on an object of class C, runs M' -/
def CLv (own : String) (idx : Nat) (C : String) (M' : MI) (n : Nat) : Prop :=
  ∀ {p : Program} {l : Launch} {e : Env} {R : Room} {s : State} {m : MethodId} {args : Array Value} {below : List Frame} {meth : Method} {c : Code} {H : Heap} {locs : List Loc} {cells slots mc ms nL : Nat} {cc : ByteArray} {rm : Room} {Pc : Array Value → State → Prop} {Qc : Array Value → State → Outcome → State → Prop} {free : Addr → Prop} {b : Addr} {As rest : List Value} {f : JFrame},
    NWs s → CallFix p m c cc nL s args TB own → Met l M'.1 (wsM M') rm Pc Qc mc ms free → rm.cells = mc → rm.slots = ms → (rm.frames + 1 ≤ R.frames ∧ 8 + (M'.2.2.1 + 11) + rm.locals ≤ R.locals) → PreV s H C b Pc As → f.method = m → As.length = n → f.locals.size = nL → f.stack = As.reverse ++ .ref b :: rest →
    2 * f.monitorRoom + (rest.map fun v => v.category).sum ≤ 8 → decode cc f.pc = .ok (.invokevirtual idx, 3) → (cells + mc ≤ R.cells ∧ slots + ms ≤ R.slots) → va_Run p l e R s m args below meth c H locs cells slots mc ms f rest (Qc (Value.ref b :: As).toArray) free
def CLs (own : String) (idx : Nat) (M' : MI) (n : Nat) : Prop :=
  ∀ {p : Program} {l : Launch} {e : Env} {R : Room} {s : State} {m : MethodId} {args : Array Value} {below : List Frame} {meth : Method} {c : Code} {H : Heap} {locs : List Loc} {cells slots mc ms nL : Nat} {cc : ByteArray} {rm : Room} {Pc : Array Value → State → Prop} {Qc : Array Value → State → Outcome → State → Prop} {free : Addr → Prop} {As rest : List Value} {f : JFrame},
    CallFix p m c cc nL s args TB own → Met l M'.1 (wsM M') rm Pc Qc mc ms free → rm.cells = mc → rm.slots = ms → (rm.frames + 1 ≤ R.frames ∧ 8 + (M'.2.2.1 + 11) + rm.locals ≤ R.locals) → PreS s H Pc As → f.method = m → As.length = n → f.locals.size = nL → f.stack = As.reverse ++ rest →
    2 * f.monitorRoom + (rest.map fun v => v.category).sum ≤ 8 → decode cc f.pc = .ok (.invokestatic idx, 3) → (cells + mc ≤ R.cells ∧ slots + ms ≤ R.slots) → va_Run p l e R s m args below meth c H locs cells slots mc ms f rest (Qc As.toArray) free
/-- super.m(..) -/
def CLu (own : String) (idx : Nat) (M' : MI) (n : Nat) : Prop :=
  ∀ {p : Program} {l : Launch} {e : Env} {R : Room} {s : State} {m : MethodId} {args : Array Value} {below : List Frame} {meth : Method} {c : Code} {H : Heap} {locs : List Loc} {cells slots mc ms nL : Nat} {cc : ByteArray} {rm : Room} {Pc : Array Value → State → Prop} {Qc : Array Value → State → Outcome → State → Prop} {free : Addr → Prop} {C : String} {cC : ClassId} {b : Addr} {As rest : List Value} {f : JFrame},
    ClassAt s C cC → CallFix p m c cc nL s args TB own → Met l M'.1 (wsM M') rm Pc Qc mc ms free → rm.cells = mc → rm.slots = ms → (rm.frames + 1 ≤ R.frames ∧ 8 + (M'.2.2.1 + 11) + rm.locals ≤ R.locals) → PreV s H C b Pc As → f.method = m → As.length = n → f.locals.size = nL → f.stack = As.reverse ++ .ref b :: rest →
    2 * f.monitorRoom + (rest.map fun v => v.category).sum ≤ 8 → decode cc f.pc = .ok (.invokespecial idx, 3) → (cells + mc ≤ R.cells ∧ slots + ms ≤ R.slots) → va_Run p l e R s m args below meth c H locs cells slots mc ms f rest (Qc (Value.ref b :: As).toArray) free
/-- a constructor -/
def CLi (own : String) (idx : Nat) (M' : MI) (n : Nat) : Prop :=
  ∀ {p : Program} {l : Launch} {e : Env} {R : Room} {s : State} {m : MethodId} {args : Array Value} {below : List Frame} {meth : Method} {c : Code} {H : Heap} {locs : List Loc} {cells slots mc ms nL : Nat} {cc : ByteArray} {rm : Room} {Pc : Array Value → State → Prop} {Qc : Array Value → State → Outcome → State → Prop} {free : Addr → Prop} {b : Addr} {As rest : List Value} {f : JFrame},
    NWs s → CallFix p m c cc nL s args TB own → Met l M'.1 (wsM M') rm Pc Qc mc ms free → rm.cells = mc → rm.slots = ms → (rm.frames + 1 ≤ R.frames ∧ 8 + (M'.2.2.1 + 11) + rm.locals ≤ R.locals) → PreS s H Pc (.ref b :: As) → f.method = m → As.length = n → f.locals.size = nL → f.stack = As.reverse ++ .ref b :: rest →
    2 * f.monitorRoom + (rest.map fun v => v.category).sum ≤ 8 → decode cc f.pc = .ok (.invokespecial idx, 3) → (cells + mc ≤ R.cells ∧ slots + ms ≤ R.slots) → va_Run p l e R s m args below meth c H locs cells slots mc ms f rest (Qc (Value.ref b :: As).toArray) free
theorem TB_m {M' : MI} {w : Cond} {l : List Cond} (h : w ∈ l ++ wsM M') (hl : ∀ w ∈ l, w ∈ TB) (hc : Cond.code M'.1 M'.2.1 M'.2.2.1 M'.2.2.2 ∈ TB) : w ∈ TB := by
  rcases List.mem_append.mp h with h | h
  · exact hl w h
  · rcases List.mem_cons.mp h with rfl | h
    · exact hc
    · exact h
theorem clv_of {own C : String} {idx n : Nat} {M' : MI} (hC : M'.1.cls = C) (h1 : Cond.methodLink own idx M'.1 ∈ TB) (h2 : Cond.instanceMethod M'.1 ∈ TB) (h3 : Cond.selects C M'.1 M'.1 ∈ TB) (h4 : Cond.initialized C ∈ TB) (h5 : Cond.code M'.1 M'.2.1 M'.2.2.1 M'.2.2.2 ∈ TB)
    (hd : M'.1.cls ≠ "java/lang/invoke/MethodHandle" ∧ M'.1.cls ≠ "java/lang/invoke/VarHandle" ∧ (parseMethodDescriptor M'.1.desc).map (fun d => d.parameters.length) = some n) : CLv own idx C M' n := by
  intro p l e R s m args below meth c H locs cells slots mc ms nL cc rm Pc Qc free b As rest f _ F hM hrc hrs hR hp hg hn hsz hst hW hdg hf
  exact va_runV F hM (cwV n F.2.2.2.2 (TB_good fun w hw => TB_m (l := [.methodLink own idx M'.1, .instanceMethod M'.1, .selects C M'.1 M'.1, .initialized C]) hw (by simp only [List.forall_mem_cons]; exact ⟨h1, h2, h3, h4, fun _ h => absurd h List.not_mem_nil⟩) h5) rfl hrc hrs ⟨hC, hd⟩ hR) hp hg hn hsz hst hW hdg hf
theorem clvO_of {own C owner : String} {idx n : Nat} {y : MethodName} {M' : MI} {b0 : ByteArray} {m0 : Nat} {r0 : Option FieldType} (h1 : Cond.methodLink own idx y ∈ TB) (h2 : Cond.sameMethod y.cls owner y.name y.desc ∈ TB) (h2b : Cond.instanceMethod ⟨owner, y.name, y.desc⟩ ∈ TB) (h3 : Cond.selects C y M'.1 ∈ TB) (h3b : Cond.instanceMethod M'.1 ∈ TB) (h4 : Cond.initialized M'.1.cls ∈ TB) (h5 : Cond.code M'.1 M'.2.1 M'.2.2.1 M'.2.2.2 ∈ TB) (h0 : Cond.code ⟨owner, y.name, y.desc⟩ b0 m0 r0 ∈ TB)
    (hd : owner ≠ "java/lang/invoke/MethodHandle" ∧ owner ≠ "java/lang/invoke/VarHandle" ∧ (parseMethodDescriptor y.desc).map (fun d => d.parameters.length) = some n) : CLv own idx C M' n := by
  intro p l e R s m args below meth c H locs cells slots mc ms nL cc rm Pc Qc free b As rest f _ F hM hrc hrs hR hp hg hn hsz hst hW hdg hf
  exact va_runU F hM (va_cwO n F.2.2.2.2 (TB_good fun w hw => TB_m (l := [.methodLink own idx y, .sameMethod y.cls owner y.name y.desc, .instanceMethod ⟨owner, y.name, y.desc⟩, .selects C y M'.1, .instanceMethod M'.1, .initialized M'.1.cls]) hw (by simp only [List.forall_mem_cons]; exact ⟨h1, h2, h2b, h3, h3b, h4, fun _ h => absurd h List.not_mem_nil⟩) h5) rfl hrc hrs h0 hd hR) hp hg hn hsz hst hW hdg hf
theorem cls_of {own : String} {idx n : Nat} {M' : MI} (h1 : Cond.methodLink own idx M'.1 ∈ TB) (h2 : Cond.static M'.1 ∈ TB) (h4 : Cond.initialized M'.1.cls ∈ TB) (h5 : Cond.code M'.1 M'.2.1 M'.2.2.1 M'.2.2.2 ∈ TB)
    (hd : M'.1.cls ≠ "java/lang/invoke/MethodHandle" ∧ M'.1.cls ≠ "java/lang/invoke/VarHandle" ∧ (parseMethodDescriptor M'.1.desc).map (fun d => d.parameters.length) = some n) : CLs own idx M' n := by
  intro p l e R s m args below meth c H locs cells slots mc ms nL cc rm Pc Qc free As rest f F hM hrc hrs hR hp hg hn hsz hst hW hdg hf
  have hG : GoodIn TB (wsM M') := TB_good fun w hw => (List.mem_cons.mp hw).elim (fun e => e ▸ h5) id
  exact va_runS F hM ⟨callB_of n F.2.2.2.2 hG rfl hrc hrs (F.2.2.2.2 _ h4) (F.2.2.2.2 _ h1) hd hR, F.2.2.2.2 _ h2⟩ hp hg hn hsz hst hW hdg hf
theorem clu_of {own : String} {idx n : Nat} {M' : MI} (h1 : Cond.methodLink own idx M'.1 ∈ TB) (h2 : Cond.sameMethod M'.1.cls M'.1.cls M'.1.name M'.1.desc ∈ TB) (h3 : Cond.superclass own M'.1.cls ∈ TB) (h3b : Cond.instanceMethod M'.1 ∈ TB) (h4 : Cond.initialized M'.1.cls ∈ TB) (h5 : Cond.code M'.1 M'.2.1 M'.2.2.1 M'.2.2.2 ∈ TB)
    (hd : M'.1.name ≠ "<init>" ∧ (parseMethodDescriptor M'.1.desc).map (fun d => d.parameters.length) = some n) : CLu own idx M' n := by
  intro p l e R s m args below meth c H locs cells slots mc ms nL cc rm Pc Qc free C cC b As rest f hat F hM hrc hrs hR hp hg hn hsz hst hW hdg hf
  exact va_runSU hat F hM (va_cwSU n F.2.2.2.2 (TB_good fun w hw => TB_m (l := [.methodLink own idx M'.1, .sameMethod M'.1.cls M'.1.cls M'.1.name M'.1.desc, .superclass own M'.1.cls, .instanceMethod M'.1, .initialized M'.1.cls]) hw (by simp only [List.forall_mem_cons]; exact ⟨h1, h2, h3, h3b, h4, fun _ h => absurd h List.not_mem_nil⟩) h5) rfl hrc hrs hd hR) hp hg hn hsz hst hW hdg hf
theorem cluI_of {own owner : String} {idx n : Nat} {y : MethodName} {M' : MI} (h1 : Cond.methodLink own idx y ∈ TB) (h2 : Cond.sameMethod y.cls owner y.name y.desc ∈ TB) (h3 : Cond.superclass own y.cls ∈ TB) (h3' : Cond.superclass y.cls owner ∈ TB) (h3b : Cond.instanceMethod M'.1 ∈ TB) (h4 : Cond.initialized M'.1.cls ∈ TB) (h5 : Cond.code M'.1 M'.2.1 M'.2.2.1 M'.2.2.2 ∈ TB) (hM' : M'.1 = ⟨owner, y.name, y.desc⟩)
    (hd : M'.1.name ≠ "<init>" ∧ (parseMethodDescriptor M'.1.desc).map (fun d => d.parameters.length) = some n) : CLu own idx M' n := by
  intro p l e R s m args below meth c H locs cells slots mc ms nL cc rm Pc Qc free C cC b As rest f hat F hM hrc hrs hR hp hg hn hsz hst hW hdg hf
  have hG : GoodIn TB (wsM M') := TB_good fun w hw => (List.mem_cons.mp hw).elim (fun e => e ▸ h5) id
  have hK : Back l R p e below s args M'.1 3 8 (PreOf R mc ms Pc) (PostOf Qc mc ms free) := back_of (bytes := M'.2.1) (maxL := M'.2.2.1) (ret := M'.2.2.2) hM hp.1 hrc hrs hR.1 hR.2 (pay_in F.2.2.2.2 hG) List.mem_cons_self (fun a' U hW => word_at hW (Or.inl (by first | rfl | simp [Cond.onTables, Cond.keeps, Cond.steady])) (F.2.2.2.2 _ h4))
  obtain ⟨hx, hb, hml, ho, hts⟩ := F
  obtain ⟨-, ⟨cellB, hcB, hoB, hclB⟩, hPc⟩ := hp
  obtain ⟨hfc, kB, hkB, -⟩ := hat
  cases hfc.symm.trans hclB
  have hlen : ∀ sig, parseMethodDescriptor M'.1.desc = some sig → As.length = sig.parameters.length := fun sig h => by
    have h2 := hd.2
    rw [h] at h2
    exact hn.trans (Option.some.inj h2).symm
  intro T hT X
  obtain ⟨mk, methM, hnamed, hmethM, hstM, habM⟩ := Cond.instanceMethod_spec (hts _ h3b)
  obtain ⟨methM', cM, hmethM', -, -, -, -, -, -, hsigM⟩ := Cond.code_spec hnamed (hts _ h5)
  cases hmethM.symm.trans hmethM'
  obtain ⟨ps, dk, kp, hps, hdk, hkp, hsuper, -, -, hnid⟩ := Cond.superclass_spec ho (hts _ h3)
  obtain ⟨po, dk2, kp2, hpo, hdk2, hkp2, hsuper2, -, -, -⟩ := Cond.superclass_spec hps (hts _ h3')
  have hnm : s.methodNamed? ⟨owner, y.name, y.desc⟩ = some mk := by rw [← hM']; exact hnamed
  have hpm : po = mk.cls := Option.some.inj (hpo.symm.trans (findClass_of_methodNamed hnm))
  have hsz1 : 0 < s.vm.classes.size := Nat.lt_of_le_of_lt (Nat.zero_le _) (Array.getElem?_eq_some_iff.mp hdk2).1
  have hsub : s.vm.isSubclass ps mk.cls = true := by
    obtain ⟨n1, hn1⟩ : ∃ n1, s.vm.classes.size = n1 + 1 := ⟨s.vm.classes.size - 1, by omega⟩
    unfold Vm.isSubclass
    rw [hn1]
    simp only [Vm.isSubclassAux, hdk2, hsuper2, hpm, beq_self_eq_true, Bool.true_or, Bool.or_true]
  have hno : y.name ≠ "<init>" := by have := hd.1; rw [hM'] at this; exact this
  obtain ⟨vm₁, X₁, hstep₁⟩ := X.invokespecialUp hx ho (hts _ h1) (hts _ h2) hnm hmethM hstM habM hno hdk hnid hps hsuper hsub (a := b) (cell := cellB) (by rw [hT]; exact hcB)
    (fun z h => by rw [h] at hoB; cases hoB) hkB (g := f) hg (argsL := As) (rest := rest) (hlen _ hsigM) hst (by rw [hb]; exact hdg)
  obtain ⟨v, ⟨U', l2, c2, s2⟩, X', ⟨g', mk', t, L, e1, e2, hq, g1, hL, g2, g3⟩, hsteps⟩ := hK m meth c ⟨T.setVm vm₁, locs, cells, slots⟩ { f with stack := rest } (.invokespecial idx) mk (Value.ref b :: As).toArray X₁ hg (hsz.trans hml.symm) (by rw [hb]; exact hdg) hW (X₁.named hnamed) ⟨hf.1, hf.2, hPc (T.setVm vm₁) hT X₁.warmed⟩
  dsimp only [Pt.U, Pt.locs, Pt.cells, Pt.slots] at X' e1 e2 g1 g2 g3 hsteps
  subst g1; subst g2; subst g3
  exact ⟨v, (T.setVm vm₁).calling g' mk' (Value.ref b :: As).toArray, t, U', L, hT, X', hL, e1, e2, hq, fun target h => hstep₁ _ (by rw [doInvoke_state]; exact hsteps.trans h)⟩
theorem cli_of {own : String} {idx n : Nat} {M' : MI} (hr : M'.2.2.2 = none) (h1 : Cond.methodLink own idx M'.1 ∈ TB) (h3b : Cond.instanceMethod M'.1 ∈ TB) (h4 : Cond.initialized M'.1.cls ∈ TB) (h5 : Cond.code M'.1 M'.2.1 M'.2.2.1 M'.2.2.2 ∈ TB) (hy1 : M'.1.name = "<init>")
    (hd : M'.1.cls ≠ "java/lang/invoke/MethodHandle" ∧ M'.1.cls ≠ "java/lang/invoke/VarHandle" ∧ (parseMethodDescriptor M'.1.desc).map (fun d => d.parameters.length) = some n) : CLi own idx M' n := by
  intro p l e R s m args below meth c H locs cells slots mc ms nL cc rm Pc Qc free b As rest f _ F hM hrc hrs hR hp hg hn hsz hst hW hdg hf
  have hG : GoodIn TB (wsM M') := TB_good fun w hw => (List.mem_cons.mp hw).elim (fun e => e ▸ h5) id
  exact va_runI F hM (cwI n F.2.2.2.2 hG (by rw [wsM, hr]) hrc hrs (F.2.2.2.2 _ h4) (F.2.2.2.2 _ h1) (F.2.2.2.2 _ h3b) hy1 hd hR) hp hg hn hsz hst hW hdg hf
theorem cliN_of {own host : String} {idx n : Nat} {M' : MI} (hr : M'.2.2.2 = none) (h1 : (own, idx, M'.1, host) ∈ nestTab) (h3b : Cond.instanceMethod M'.1 ∈ TB) (h4 : Cond.initialized M'.1.cls ∈ TB) (h5 : Cond.code M'.1 M'.2.1 M'.2.2.1 M'.2.2.2 ∈ TB) (hy1 : M'.1.name = "<init>")
    (hd : M'.1.cls ≠ "java/lang/invoke/MethodHandle" ∧ M'.1.cls ≠ "java/lang/invoke/VarHandle" ∧ (parseMethodDescriptor M'.1.desc).map (fun d => d.parameters.length) = some n) : CLi own idx M' n := by
  intro p l e R s m args below meth c H locs cells slots mc ms nL cc rm Pc Qc free b As rest f hN F hM hrc hrs hR hp hg hn hsz hst hW hdg hf
  have hG : GoodIn TB (wsM M') := TB_good fun w hw => (List.mem_cons.mp hw).elim (fun e => e ▸ h5) id
  exact va_runIN F hM ⟨va_cnB n F.2.2.2.2 hG (by rw [wsM, hr]) hrc hrs (hN.1 _ h1) (F.2.2.2.2 _ h4) hd hR, hy1, F.2.2.2.2 _ h3b⟩ hp hg hn hsz hst hW hdg hf
/-- what a callee starts with -/
theorem ct_pre {av : List Value} {n0 : Nat} {ρ0 ρ : Nat → Nat} {A : Nat → Prop} {H : Heap} {locs : List Loc} {s : State} (X : Wd g n0 ρ0 ρ sh S L A H locs s) :
    FrameBlind (va_Pc (av.map (vm g ρ)) (fun U => U.heap.size = H.size ∧ sh.length ≤ 100000 ∧ va_P g.2.1 vwCl (wsOf g ρ sh S L) U.heap ∧ va_K g.2.1 vwCl (tysOf g) U ∧ va_D (fun _ => True) (wsOf g ρ sh S L) ∧ Stat g (va_A (wsOf g ρ sh S L) H.size) U U.heap)) ∧
    ∀ U : State, U.heap = H → s.WarmedH U.vm → va_Pc (av.map (vm g ρ)) (fun U => U.heap.size = H.size ∧ sh.length ≤ 100000 ∧ va_P g.2.1 vwCl (wsOf g ρ sh S L) U.heap ∧ va_K g.2.1 vwCl (tysOf g) U ∧ va_D (fun _ => True) (wsOf g ρ sh S L) ∧ Stat g (va_A (wsOf g ρ sh S L) H.size) U U.heap) (av.map (vm g ρ)).toArray U := by
  obtain ⟨⟨h1, h2, h3⟩, hA, hS, hK, hP, hD, hT⟩ := X
  refine ⟨fun a U gf mk q => ?_, fun U hU hW => ⟨rfl, by rw [hU], h2, by rw [hU]; exact hP, va_K.moved hW.alike hK, hD.weaken (fun _ _ _ _ => trivial), ?_⟩⟩
  · obtain ⟨q0, q1, q2, qP, qK, qD, qT⟩ := q
    exact ⟨q0, q1, q2, qP, va_K.moved (u := U) (U := U.calling gf mk a) (Vm.Alike.refl U.vm) qK, qD, Stat.same (u := U) (U := U.calling gf mk a) rfl qT⟩
  · rw [hU]
    refine Stat.warm hW (Stat.narrow (hT.kept hS.2.1) fun q hq => ?_)
    rcases hq with ⟨k, e, hk⟩ | hq
    · exact hD.2 k _ hk
    · exact hA q (Nat.le_trans hS.1 hq)
/-- behind a call -/
theorem ct_post {p : Program} {e : Env} {s : State} {m : MethodId} {args : Array Value} {below : List Frame} {meth : Method} {c : Code} {ρ0 : Nat → Nat} {A : Nat → Prop} {ρ : Nat → Nat} {H : Heap} {locs : List Loc} {als : Array Slot} {a : Array Value} {stk : List Value} {free : Addr → Prop} {W' : State → Prop} {Qj : Option Value → List CS → SS → LL → Prop} {mc' ms' : Nat}
    (X : Wd g n0 ρ0 ρ sh S L A H locs s) (hfree : ∀ q, free q → va_A (wsOf g ρ sh S L) H.size q)
    (hr : va_Run p g.1 e (rmD d mc ms) s m args below meth c H locs cu su mc' ms' (F0 m pc als stk) (rest.map (vm g ρ)) (Qx g ρ sh.length (va_A (wsOf g ρ sh S L) H.size) Qj a) free)
    (kk : ∀ (r : Option Value) (sh' : List CS) (S' : SS) (L' : LL) (ρ' : Nat → Nat) (H' : Heap) (locs' : List Loc), Qj r sh' S' L' → (sh.length ≤ sh'.length ∧ ∀ k, k < sh.length ∨ sh'.length ≤ k → ρ' k = ρ k) → Wd g n0 ρ0 ρ' sh' S' L' A H' locs' s → W p g.1 e (rmD d mc ms) s m args below meth c H' locs' (cu + mc') (su + ms') W' (F0 m (pc + 3) als ((r.map (vm g ρ')).toList ++ rest.map (vm g ρ)))) :
    W p g.1 e (rmD d mc ms) s m args below meth c H locs cu su W' (F0 m pc als stk) := by
  have hA1 : ∀ q, va_A (wsOf g ρ sh S L) H.size q → A q := fun q hq => by
    rcases hq with ⟨k, e, hk⟩ | hq
    · exact X.2.2.2.2.2.1.2 k _ hk
    · exact X.2.1 q (Nat.le_trans X.2.2.1.1 hq)
  intro T hT XS
  obtain ⟨v, st₀, t, T', L1, h0, X', hL, e1, e2, ⟨⟨r, sh', S', L', ρ', ho, ⟨n1, n2, n3⟩, hq, hP', hD'⟩, hz, hk⟩, stp⟩ := hr T hT XS
  cases ho
  rw [h0] at hz hk
  have hS := X.2.2.1
  have W1 := kk r sh' S' L' ρ' T'.heap (locs ++ L1) hq ⟨n1, n3⟩ ⟨⟨Nat.le_trans X.1.1 n1, n2, fun k hk' => by
      rcases hk' with hk' | hk'
      · rw [n3 k (Or.inl (Nat.lt_of_lt_of_le hk' X.1.1)), X.1.2.2 k (Or.inl hk')]
      · rw [n3 k (Or.inr hk'), X.1.2.2 k (Or.inr (Nat.le_trans n1 hk'))]⟩, X.2.1,
    ⟨Nat.le_trans hS.1 (by rw [e1]; exact hz), fun q h1 h2 => by rw [e1, hk q (Nat.lt_of_lt_of_le h1 hS.1) (fun z => h2 (hA1 q z))]; exact hS.2.1 q h1 h2, fun q hq => by
      rcases List.mem_append.mp hq with h | h
      · exact hS.2.2 q h
      · exact hA1 _ (hfree _ (hL q h))⟩, X.2.2.2.1, by rw [e1]; exact hP', hD'.weaken (fun _ q _ h => hA1 q.1 h), X.2.2.2.2.2.2⟩
  obtain ⟨t2, a1, b1⟩ := W1 T' rfl X'
  exact ⟨t2, stp t2 a1, b1⟩
theorem vm_sum {g : GG} {ρ : Nat → Nat} {l : List Value} : ((l.map (vm g ρ)).map fun v => v.category).sum = (l.map fun v => v.category).sum := by rw [List.map_map]; exact congrArg List.sum (List.map_congr_left fun v _ => vm_cat g ρ v)
/-- an object that a call may go to -/
def Rcv (sh : List CS) (r : Nat) (C : String) : Prop := (∃ (ci : Nat) (fs : List (Nat × Nat × Nat)) (T : u_T) (N : Nat), sh[r]? = some (0, ci, fs) ∧ vwCl[ci]? = some (C, T, N)) ∨ (100000 ≤ r ∧ r < 100007 ∧ C = "java/lang/String")
theorem rcvo {sh : List CS} {r ci N : Nat} {fs : List (Nat × Nat × Nat)} {C : String} {T : u_T} (h : sh[r]? = some (0, ci, fs)) (hc : vwCl[ci]? = some (C, T, N)) : Rcv sh r C := Or.inl ⟨ci, fs, T, N, h, hc⟩
theorem Rcv.cell {n0 : Nat} {ρ0 ρ : Nat → Nat} {A : Nat → Prop} {H : Heap} {locs : List Loc} {s : State} {r : Nat} {C : String} (h : Rcv sh r C) (X : Wd g n0 ρ0 ρ sh S L A H locs s) : ∃ cellB : Cell, H[ad g ρ r]? = some cellB ∧ cellB.vm.isStatics = false ∧ s.vm.findClass C = some cellB.cls := by
  rcases h with ⟨ci, fs, T, N, h1, h2⟩ | ⟨h1, h2, rfl⟩
  · exact va_recv X.2.2.2.1 X.2.2.2.2.1 h2 (X.get h1)
  · have e : ad g ρ r = g.2.2.2 (100000 + (r - 100000)) := by
      rw [show ad g ρ r = g.2.2.2 r from if_neg (by omega)]
      exact congrArg g.2.2.2 (by omega)
    rw [e]
    have hE := X.2.2.2.2.2.2.2.1
    generalize hi : r - 100000 = i
    have hi7 : i < 7 := by omega
    obtain ⟨cell, g1, g2, g3⟩ := vk_recv (i := i) hE hi7 X.2.2.1
    exact ⟨cell, g1, g2, g3⟩
theorem rx_callV0 {idx n r d' : Nat} {Cn : String} {M' : MI} {As : List Value} {Qj : Option Value → SS → LL → Prop} (cl : CLv M.1.cls idx Cn M' n) (dd : decode M.2.1 pc = .ok (.invokevirtual idx, 3)) (hv : Rcv sh r Cn) (hd : d' + 1 ≤ d) (hl : M'.2.2.1 ≤ 81) (hn : As.length = n) (hst : st = As.reverse ++ .ref r :: rest) (hr : (rest.map fun v => v.category).sum ≤ 8) (hcu : cu ≤ mc ∧ su ≤ ms)
    (hC : Ct g d' 0 0 M' (.ref r :: As) sh S L (fun r sh' S' L' => sh' = sh ∧ Qj r S' L')) (k : ∀ r S' L', Qj r S' L' → Rx g d mc ms M n0 Q cu su (pc + 3) ls (r.toList ++ rest) sh S' L') : Rx g d mc ms M n0 Q cu su pc ls st sh S L := fun p e s m args below meth c ρ0 A ρ H locs als C X Y => by
  subst hst
  have hpre := ct_pre (av := .ref r :: As) X
  refine ct_post (Qj := fun r sh' S' L' => sh' = sh ∧ Qj r S' L') (mc' := 0) (ms' := 0) (rest := rest) X (fun q hq => hq) (cl (As := As.map (vm g ρ)) (rest := rest.map (vm g ρ)) (b := ad g ρ r) X.2.2.2.2.2.2.2.2.2.2.2.2 ⟨C.1, C.2.1, C.2.2.2.1, C.2.2.2.2.1, C.2.2.2.2.2.1⟩ (hC ρ H.size) rfl rfl ⟨hd, by show 8 + (M'.2.2.1 + 11) + 100 * d' ≤ 100 * d; omega⟩ ⟨hpre.1, hv.cell X, hpre.2⟩ rfl (by rw [List.length_map]; exact hn) Y.2.1 (by show List.map (vm g ρ) _ = _; rw [List.map_append, List.map_reverse]; rfl) (by rw [vm_sum]; show 2 * 0 + _ ≤ 8; omega) dd hcu) (fun r1 sh' S' L' ρ' H' locs' hq hρ X' => ?_)
  obtain ⟨rfl, hq⟩ := hq
  have e : ρ' = ρ := funext fun k => hρ.2 k (by omega)
  subst e
  have h := k r1 S' L' hq p e s m args below meth c ρ0 A ρ' H' locs' als C X' Y
  have e2 : (r1.toList ++ rest).map (vm g ρ') = (r1.map (vm g ρ')).toList ++ rest.map (vm g ρ') := by cases r1 <;> rfl
  rw [e2] at h
  exact h
theorem rx_callS0 {idx n d' : Nat} {M' : MI} {As : List Value} {Qj : Option Value → SS → LL → Prop} (cl : CLs M.1.cls idx M' n) (dd : decode M.2.1 pc = .ok (.invokestatic idx, 3)) (hd : d' + 1 ≤ d) (hl : M'.2.2.1 ≤ 81) (hn : As.length = n) (hst : st = As.reverse ++ rest) (hr : (rest.map fun v => v.category).sum ≤ 8) (hcu : cu ≤ mc ∧ su ≤ ms)
    (hC : Ct g d' 0 0 M' As sh S L (fun r sh' S' L' => sh' = sh ∧ Qj r S' L')) (k : ∀ r S' L', Qj r S' L' → Rx g d mc ms M n0 Q cu su (pc + 3) ls (r.toList ++ rest) sh S' L') : Rx g d mc ms M n0 Q cu su pc ls st sh S L := fun p e s m args below meth c ρ0 A ρ H locs als C X Y => by
  subst hst
  have hpre := ct_pre (av := As) X
  refine ct_post (Qj := fun r sh' S' L' => sh' = sh ∧ Qj r S' L') (mc' := 0) (ms' := 0) (rest := rest) X (fun q hq => hq) (cl (As := As.map (vm g ρ)) (rest := rest.map (vm g ρ)) ⟨C.1, C.2.1, C.2.2.2.1, C.2.2.2.2.1, C.2.2.2.2.2.1⟩ (hC ρ H.size) rfl rfl ⟨hd, by show 8 + (M'.2.2.1 + 11) + 100 * d' ≤ 100 * d; omega⟩ ⟨hpre.1, hpre.2⟩ rfl (by rw [List.length_map]; exact hn) Y.2.1 (by show List.map (vm g ρ) _ = _; rw [List.map_append, List.map_reverse]) (by rw [vm_sum]; show 2 * 0 + _ ≤ 8; omega) dd hcu) (fun r1 sh' S' L' ρ' H' locs' hq hρ X' => ?_)
  obtain ⟨rfl, hq⟩ := hq
  have e : ρ' = ρ := funext fun k => hρ.2 k (by omega)
  subst e
  have h := k r1 S' L' hq p e s m args below meth c ρ0 A ρ' H' locs' als C X' Y
  have e2 : (r1.toList ++ rest).map (vm g ρ') = (r1.map (vm g ρ')).toList ++ rest.map (vm g ρ') := by cases r1 <;> rfl
  rw [e2] at h
  exact h
theorem rx_callU0 {idx n r d' ci N : Nat} {Cn : String} {T : u_T} {fs : List (Nat × Nat × Nat)} {M' : MI} {As : List Value} {Qj : Option Value → SS → LL → Prop} (cl : CLu M.1.cls idx M' n) (dd : decode M.2.1 pc = .ok (.invokespecial idx, 3)) (hv : sh[r]? = some (0, ci, fs)) (hv2 : vwCl[ci]? = some (Cn, T, N)) (hd : d' + 1 ≤ d) (hl : M'.2.2.1 ≤ 81) (hn : As.length = n) (hst : st = As.reverse ++ .ref r :: rest) (hr : (rest.map fun v => v.category).sum ≤ 8) (hcu : cu ≤ mc ∧ su ≤ ms)
    (hC : Ct g d' 0 0 M' (.ref r :: As) sh S L (fun r sh' S' L' => sh' = sh ∧ Qj r S' L')) (k : ∀ r S' L', Qj r S' L' → Rx g d mc ms M n0 Q cu su (pc + 3) ls (r.toList ++ rest) sh S' L') : Rx g d mc ms M n0 Q cu su pc ls st sh S L := fun p e s m args below meth c ρ0 A ρ H locs als C X Y => by
  subst hst
  have hpre := ct_pre (av := .ref r :: As) X
  refine ct_post (Qj := fun r sh' S' L' => sh' = sh ∧ Qj r S' L') (mc' := 0) (ms' := 0) (rest := rest) X (fun q hq => hq) (cl (As := As.map (vm g ρ)) (rest := rest.map (vm g ρ)) (b := ad g ρ r) (X.2.2.2.1.1 ci _ hv2).2 ⟨C.1, C.2.1, C.2.2.2.1, C.2.2.2.2.1, C.2.2.2.2.2.1⟩ (hC ρ H.size) rfl rfl ⟨hd, by show 8 + (M'.2.2.1 + 11) + 100 * d' ≤ 100 * d; omega⟩ ⟨hpre.1, (rcvo hv hv2).cell X, hpre.2⟩ rfl (by rw [List.length_map]; exact hn) Y.2.1 (by show List.map (vm g ρ) _ = _; rw [List.map_append, List.map_reverse]; rfl) (by rw [vm_sum]; show 2 * 0 + _ ≤ 8; omega) dd hcu) (fun r1 sh' S' L' ρ' H' locs' hq hρ X' => ?_)
  obtain ⟨rfl, hq⟩ := hq
  have e : ρ' = ρ := funext fun k => hρ.2 k (by omega)
  subst e
  have h := k r1 S' L' hq p e s m args below meth c ρ0 A ρ' H' locs' als C X' Y
  have e2 : (r1.toList ++ rest).map (vm g ρ') = (r1.map (vm g ρ')).toList ++ rest.map (vm g ρ') := by cases r1 <;> rfl
  rw [e2] at h
  exact h

-- contracts by the kind of the answer
def Ci (g : GG) (d : Nat) (M : MI) (av : List Value) (sh : List CS) (S : SS) (L : LL) (P : Int32 → SS → LL → Prop) : Prop := Ct g d 0 0 M av sh S L (fun r sh' S' L' => sh' = sh ∧ ∃ x, r = some (.int x) ∧ P x S' L')
def Cl (g : GG) (d : Nat) (M : MI) (av : List Value) (sh : List CS) (S : SS) (L : LL) (P : Int64 → SS → LL → Prop) : Prop := Ct g d 0 0 M av sh S L (fun r sh' S' L' => sh' = sh ∧ ∃ x, r = some (.long x) ∧ P x S' L')
def Cr (g : GG) (d : Nat) (M : MI) (av : List Value) (sh : List CS) (S : SS) (L : LL) (P : Nat → SS → LL → Prop) : Prop := Ct g d 0 0 M av sh S L (fun r sh' S' L' => sh' = sh ∧ ∃ x, r = some (.ref x) ∧ P x S' L')
def Cv (g : GG) (d : Nat) (M : MI) (av : List Value) (sh : List CS) (S : SS) (L : LL) (P : SS → LL → Prop) : Prop := Ct g d 0 0 M av sh S L (fun r sh' S' L' => sh' = sh ∧ r = none ∧ P S' L')
theorem rx_cVi_0 {idx r d' : Nat} {Cn : String} {M' : MI} {P : Int32 → SS → LL → Prop} (cl : CLv M.1.cls idx Cn M' 0) (dd : decode M.2.1 pc = .ok (.invokevirtual idx, 3)) (hv : Rcv sh r Cn) (hz : (Nat.ble (d' + 1) d && (Nat.ble M'.2.2.1 81 && (Nat.ble (rest.map fun v => v.category).sum 8 && (Nat.ble cu mc && Nat.ble su ms)))) = true) (hC : Ci g d' M' [.ref r] sh S L P) (k : ∀ x S' L', P x S' L' → Rx g d mc ms M n0 Q cu su (pc + 3) ls (.int x :: rest) sh S' L') : Rx g d mc ms M n0 Q cu su pc ls (.ref r :: rest) sh S L := by
  simp only [Bool.and_eq_true, Nat.ble_eq] at hz
  exact rx_callV0 (As := []) (rest := rest) (Qj := fun r S' L' => ∃ x, r = some (.int x) ∧ P x S' L') cl dd hv hz.1 hz.2.1 rfl rfl hz.2.2.1 hz.2.2.2 hC (fun r1 S' L' h => by obtain ⟨x, rfl, h⟩ := h; exact k x S' L' h)
theorem rx_cVl_0 {idx r d' : Nat} {Cn : String} {M' : MI} {P : Int64 → SS → LL → Prop} (cl : CLv M.1.cls idx Cn M' 0) (dd : decode M.2.1 pc = .ok (.invokevirtual idx, 3)) (hv : Rcv sh r Cn) (hz : (Nat.ble (d' + 1) d && (Nat.ble M'.2.2.1 81 && (Nat.ble (rest.map fun v => v.category).sum 8 && (Nat.ble cu mc && Nat.ble su ms)))) = true) (hC : Cl g d' M' [.ref r] sh S L P) (k : ∀ x S' L', P x S' L' → Rx g d mc ms M n0 Q cu su (pc + 3) ls (.long x :: rest) sh S' L') : Rx g d mc ms M n0 Q cu su pc ls (.ref r :: rest) sh S L := by
  simp only [Bool.and_eq_true, Nat.ble_eq] at hz
  exact rx_callV0 (As := []) (rest := rest) (Qj := fun r S' L' => ∃ x, r = some (.long x) ∧ P x S' L') cl dd hv hz.1 hz.2.1 rfl rfl hz.2.2.1 hz.2.2.2 hC (fun r1 S' L' h => by obtain ⟨x, rfl, h⟩ := h; exact k x S' L' h)
theorem rx_cVr_0 {idx r d' : Nat} {Cn : String} {M' : MI} {P : Nat → SS → LL → Prop} (cl : CLv M.1.cls idx Cn M' 0) (dd : decode M.2.1 pc = .ok (.invokevirtual idx, 3)) (hv : Rcv sh r Cn) (hz : (Nat.ble (d' + 1) d && (Nat.ble M'.2.2.1 81 && (Nat.ble (rest.map fun v => v.category).sum 8 && (Nat.ble cu mc && Nat.ble su ms)))) = true) (hC : Cr g d' M' [.ref r] sh S L P) (k : ∀ x S' L', P x S' L' → Rx g d mc ms M n0 Q cu su (pc + 3) ls (.ref x :: rest) sh S' L') : Rx g d mc ms M n0 Q cu su pc ls (.ref r :: rest) sh S L := by
  simp only [Bool.and_eq_true, Nat.ble_eq] at hz
  exact rx_callV0 (As := []) (rest := rest) (Qj := fun r S' L' => ∃ x, r = some (.ref x) ∧ P x S' L') cl dd hv hz.1 hz.2.1 rfl rfl hz.2.2.1 hz.2.2.2 hC (fun r1 S' L' h => by obtain ⟨x, rfl, h⟩ := h; exact k x S' L' h)
theorem rx_cVv_0 {idx r d' : Nat} {Cn : String} {M' : MI} {P : SS → LL → Prop} (cl : CLv M.1.cls idx Cn M' 0) (dd : decode M.2.1 pc = .ok (.invokevirtual idx, 3)) (hv : Rcv sh r Cn) (hz : (Nat.ble (d' + 1) d && (Nat.ble M'.2.2.1 81 && (Nat.ble (rest.map fun v => v.category).sum 8 && (Nat.ble cu mc && Nat.ble su ms)))) = true) (hC : Cv g d' M' [.ref r] sh S L P) (k : ∀ S' L', P S' L' → Rx g d mc ms M n0 Q cu su (pc + 3) ls rest sh S' L') : Rx g d mc ms M n0 Q cu su pc ls (.ref r :: rest) sh S L := by
  simp only [Bool.and_eq_true, Nat.ble_eq] at hz
  exact rx_callV0 (As := []) (rest := rest) (Qj := fun r S' L' => r = none ∧ P S' L') cl dd hv hz.1 hz.2.1 rfl rfl hz.2.2.1 hz.2.2.2 hC (fun r1 S' L' h => by obtain ⟨rfl, h⟩ := h; exact k S' L' h)
theorem rx_cVi_1 {idx r d' : Nat} {Cn : String} {M' : MI} {a1 : Value} {P : Int32 → SS → LL → Prop} (cl : CLv M.1.cls idx Cn M' 1) (dd : decode M.2.1 pc = .ok (.invokevirtual idx, 3)) (hv : Rcv sh r Cn) (hz : (Nat.ble (d' + 1) d && (Nat.ble M'.2.2.1 81 && (Nat.ble (rest.map fun v => v.category).sum 8 && (Nat.ble cu mc && Nat.ble su ms)))) = true) (hC : Ci g d' M' [.ref r, a1] sh S L P) (k : ∀ x S' L', P x S' L' → Rx g d mc ms M n0 Q cu su (pc + 3) ls (.int x :: rest) sh S' L') : Rx g d mc ms M n0 Q cu su pc ls (a1 :: .ref r :: rest) sh S L := by
  simp only [Bool.and_eq_true, Nat.ble_eq] at hz
  exact rx_callV0 (As := [a1]) (rest := rest) (Qj := fun r S' L' => ∃ x, r = some (.int x) ∧ P x S' L') cl dd hv hz.1 hz.2.1 rfl rfl hz.2.2.1 hz.2.2.2 hC (fun r1 S' L' h => by obtain ⟨x, rfl, h⟩ := h; exact k x S' L' h)
theorem rx_cVl_1 {idx r d' : Nat} {Cn : String} {M' : MI} {a1 : Value} {P : Int64 → SS → LL → Prop} (cl : CLv M.1.cls idx Cn M' 1) (dd : decode M.2.1 pc = .ok (.invokevirtual idx, 3)) (hv : Rcv sh r Cn) (hz : (Nat.ble (d' + 1) d && (Nat.ble M'.2.2.1 81 && (Nat.ble (rest.map fun v => v.category).sum 8 && (Nat.ble cu mc && Nat.ble su ms)))) = true) (hC : Cl g d' M' [.ref r, a1] sh S L P) (k : ∀ x S' L', P x S' L' → Rx g d mc ms M n0 Q cu su (pc + 3) ls (.long x :: rest) sh S' L') : Rx g d mc ms M n0 Q cu su pc ls (a1 :: .ref r :: rest) sh S L := by
  simp only [Bool.and_eq_true, Nat.ble_eq] at hz
  exact rx_callV0 (As := [a1]) (rest := rest) (Qj := fun r S' L' => ∃ x, r = some (.long x) ∧ P x S' L') cl dd hv hz.1 hz.2.1 rfl rfl hz.2.2.1 hz.2.2.2 hC (fun r1 S' L' h => by obtain ⟨x, rfl, h⟩ := h; exact k x S' L' h)
theorem rx_cVr_1 {idx r d' : Nat} {Cn : String} {M' : MI} {a1 : Value} {P : Nat → SS → LL → Prop} (cl : CLv M.1.cls idx Cn M' 1) (dd : decode M.2.1 pc = .ok (.invokevirtual idx, 3)) (hv : Rcv sh r Cn) (hz : (Nat.ble (d' + 1) d && (Nat.ble M'.2.2.1 81 && (Nat.ble (rest.map fun v => v.category).sum 8 && (Nat.ble cu mc && Nat.ble su ms)))) = true) (hC : Cr g d' M' [.ref r, a1] sh S L P) (k : ∀ x S' L', P x S' L' → Rx g d mc ms M n0 Q cu su (pc + 3) ls (.ref x :: rest) sh S' L') : Rx g d mc ms M n0 Q cu su pc ls (a1 :: .ref r :: rest) sh S L := by
  simp only [Bool.and_eq_true, Nat.ble_eq] at hz
  exact rx_callV0 (As := [a1]) (rest := rest) (Qj := fun r S' L' => ∃ x, r = some (.ref x) ∧ P x S' L') cl dd hv hz.1 hz.2.1 rfl rfl hz.2.2.1 hz.2.2.2 hC (fun r1 S' L' h => by obtain ⟨x, rfl, h⟩ := h; exact k x S' L' h)
theorem rx_cVv_1 {idx r d' : Nat} {Cn : String} {M' : MI} {a1 : Value} {P : SS → LL → Prop} (cl : CLv M.1.cls idx Cn M' 1) (dd : decode M.2.1 pc = .ok (.invokevirtual idx, 3)) (hv : Rcv sh r Cn) (hz : (Nat.ble (d' + 1) d && (Nat.ble M'.2.2.1 81 && (Nat.ble (rest.map fun v => v.category).sum 8 && (Nat.ble cu mc && Nat.ble su ms)))) = true) (hC : Cv g d' M' [.ref r, a1] sh S L P) (k : ∀ S' L', P S' L' → Rx g d mc ms M n0 Q cu su (pc + 3) ls rest sh S' L') : Rx g d mc ms M n0 Q cu su pc ls (a1 :: .ref r :: rest) sh S L := by
  simp only [Bool.and_eq_true, Nat.ble_eq] at hz
  exact rx_callV0 (As := [a1]) (rest := rest) (Qj := fun r S' L' => r = none ∧ P S' L') cl dd hv hz.1 hz.2.1 rfl rfl hz.2.2.1 hz.2.2.2 hC (fun r1 S' L' h => by obtain ⟨rfl, h⟩ := h; exact k S' L' h)
theorem rx_cVi_2 {idx r d' : Nat} {Cn : String} {M' : MI} {a1 a2 : Value} {P : Int32 → SS → LL → Prop} (cl : CLv M.1.cls idx Cn M' 2) (dd : decode M.2.1 pc = .ok (.invokevirtual idx, 3)) (hv : Rcv sh r Cn) (hz : (Nat.ble (d' + 1) d && (Nat.ble M'.2.2.1 81 && (Nat.ble (rest.map fun v => v.category).sum 8 && (Nat.ble cu mc && Nat.ble su ms)))) = true) (hC : Ci g d' M' [.ref r, a1, a2] sh S L P) (k : ∀ x S' L', P x S' L' → Rx g d mc ms M n0 Q cu su (pc + 3) ls (.int x :: rest) sh S' L') : Rx g d mc ms M n0 Q cu su pc ls (a2 :: a1 :: .ref r :: rest) sh S L := by
  simp only [Bool.and_eq_true, Nat.ble_eq] at hz
  exact rx_callV0 (As := [a1, a2]) (rest := rest) (Qj := fun r S' L' => ∃ x, r = some (.int x) ∧ P x S' L') cl dd hv hz.1 hz.2.1 rfl rfl hz.2.2.1 hz.2.2.2 hC (fun r1 S' L' h => by obtain ⟨x, rfl, h⟩ := h; exact k x S' L' h)
theorem rx_cVl_2 {idx r d' : Nat} {Cn : String} {M' : MI} {a1 a2 : Value} {P : Int64 → SS → LL → Prop} (cl : CLv M.1.cls idx Cn M' 2) (dd : decode M.2.1 pc = .ok (.invokevirtual idx, 3)) (hv : Rcv sh r Cn) (hz : (Nat.ble (d' + 1) d && (Nat.ble M'.2.2.1 81 && (Nat.ble (rest.map fun v => v.category).sum 8 && (Nat.ble cu mc && Nat.ble su ms)))) = true) (hC : Cl g d' M' [.ref r, a1, a2] sh S L P) (k : ∀ x S' L', P x S' L' → Rx g d mc ms M n0 Q cu su (pc + 3) ls (.long x :: rest) sh S' L') : Rx g d mc ms M n0 Q cu su pc ls (a2 :: a1 :: .ref r :: rest) sh S L := by
  simp only [Bool.and_eq_true, Nat.ble_eq] at hz
  exact rx_callV0 (As := [a1, a2]) (rest := rest) (Qj := fun r S' L' => ∃ x, r = some (.long x) ∧ P x S' L') cl dd hv hz.1 hz.2.1 rfl rfl hz.2.2.1 hz.2.2.2 hC (fun r1 S' L' h => by obtain ⟨x, rfl, h⟩ := h; exact k x S' L' h)
theorem rx_cVr_2 {idx r d' : Nat} {Cn : String} {M' : MI} {a1 a2 : Value} {P : Nat → SS → LL → Prop} (cl : CLv M.1.cls idx Cn M' 2) (dd : decode M.2.1 pc = .ok (.invokevirtual idx, 3)) (hv : Rcv sh r Cn) (hz : (Nat.ble (d' + 1) d && (Nat.ble M'.2.2.1 81 && (Nat.ble (rest.map fun v => v.category).sum 8 && (Nat.ble cu mc && Nat.ble su ms)))) = true) (hC : Cr g d' M' [.ref r, a1, a2] sh S L P) (k : ∀ x S' L', P x S' L' → Rx g d mc ms M n0 Q cu su (pc + 3) ls (.ref x :: rest) sh S' L') : Rx g d mc ms M n0 Q cu su pc ls (a2 :: a1 :: .ref r :: rest) sh S L := by
  simp only [Bool.and_eq_true, Nat.ble_eq] at hz
  exact rx_callV0 (As := [a1, a2]) (rest := rest) (Qj := fun r S' L' => ∃ x, r = some (.ref x) ∧ P x S' L') cl dd hv hz.1 hz.2.1 rfl rfl hz.2.2.1 hz.2.2.2 hC (fun r1 S' L' h => by obtain ⟨x, rfl, h⟩ := h; exact k x S' L' h)
theorem rx_cVv_2 {idx r d' : Nat} {Cn : String} {M' : MI} {a1 a2 : Value} {P : SS → LL → Prop} (cl : CLv M.1.cls idx Cn M' 2) (dd : decode M.2.1 pc = .ok (.invokevirtual idx, 3)) (hv : Rcv sh r Cn) (hz : (Nat.ble (d' + 1) d && (Nat.ble M'.2.2.1 81 && (Nat.ble (rest.map fun v => v.category).sum 8 && (Nat.ble cu mc && Nat.ble su ms)))) = true) (hC : Cv g d' M' [.ref r, a1, a2] sh S L P) (k : ∀ S' L', P S' L' → Rx g d mc ms M n0 Q cu su (pc + 3) ls rest sh S' L') : Rx g d mc ms M n0 Q cu su pc ls (a2 :: a1 :: .ref r :: rest) sh S L := by
  simp only [Bool.and_eq_true, Nat.ble_eq] at hz
  exact rx_callV0 (As := [a1, a2]) (rest := rest) (Qj := fun r S' L' => r = none ∧ P S' L') cl dd hv hz.1 hz.2.1 rfl rfl hz.2.2.1 hz.2.2.2 hC (fun r1 S' L' h => by obtain ⟨rfl, h⟩ := h; exact k S' L' h)
theorem rx_cVi_3 {idx r d' : Nat} {Cn : String} {M' : MI} {a1 a2 a3 : Value} {P : Int32 → SS → LL → Prop} (cl : CLv M.1.cls idx Cn M' 3) (dd : decode M.2.1 pc = .ok (.invokevirtual idx, 3)) (hv : Rcv sh r Cn) (hz : (Nat.ble (d' + 1) d && (Nat.ble M'.2.2.1 81 && (Nat.ble (rest.map fun v => v.category).sum 8 && (Nat.ble cu mc && Nat.ble su ms)))) = true) (hC : Ci g d' M' [.ref r, a1, a2, a3] sh S L P) (k : ∀ x S' L', P x S' L' → Rx g d mc ms M n0 Q cu su (pc + 3) ls (.int x :: rest) sh S' L') : Rx g d mc ms M n0 Q cu su pc ls (a3 :: a2 :: a1 :: .ref r :: rest) sh S L := by
  simp only [Bool.and_eq_true, Nat.ble_eq] at hz
  exact rx_callV0 (As := [a1, a2, a3]) (rest := rest) (Qj := fun r S' L' => ∃ x, r = some (.int x) ∧ P x S' L') cl dd hv hz.1 hz.2.1 rfl rfl hz.2.2.1 hz.2.2.2 hC (fun r1 S' L' h => by obtain ⟨x, rfl, h⟩ := h; exact k x S' L' h)
theorem rx_cVl_3 {idx r d' : Nat} {Cn : String} {M' : MI} {a1 a2 a3 : Value} {P : Int64 → SS → LL → Prop} (cl : CLv M.1.cls idx Cn M' 3) (dd : decode M.2.1 pc = .ok (.invokevirtual idx, 3)) (hv : Rcv sh r Cn) (hz : (Nat.ble (d' + 1) d && (Nat.ble M'.2.2.1 81 && (Nat.ble (rest.map fun v => v.category).sum 8 && (Nat.ble cu mc && Nat.ble su ms)))) = true) (hC : Cl g d' M' [.ref r, a1, a2, a3] sh S L P) (k : ∀ x S' L', P x S' L' → Rx g d mc ms M n0 Q cu su (pc + 3) ls (.long x :: rest) sh S' L') : Rx g d mc ms M n0 Q cu su pc ls (a3 :: a2 :: a1 :: .ref r :: rest) sh S L := by
  simp only [Bool.and_eq_true, Nat.ble_eq] at hz
  exact rx_callV0 (As := [a1, a2, a3]) (rest := rest) (Qj := fun r S' L' => ∃ x, r = some (.long x) ∧ P x S' L') cl dd hv hz.1 hz.2.1 rfl rfl hz.2.2.1 hz.2.2.2 hC (fun r1 S' L' h => by obtain ⟨x, rfl, h⟩ := h; exact k x S' L' h)
theorem rx_cVr_3 {idx r d' : Nat} {Cn : String} {M' : MI} {a1 a2 a3 : Value} {P : Nat → SS → LL → Prop} (cl : CLv M.1.cls idx Cn M' 3) (dd : decode M.2.1 pc = .ok (.invokevirtual idx, 3)) (hv : Rcv sh r Cn) (hz : (Nat.ble (d' + 1) d && (Nat.ble M'.2.2.1 81 && (Nat.ble (rest.map fun v => v.category).sum 8 && (Nat.ble cu mc && Nat.ble su ms)))) = true) (hC : Cr g d' M' [.ref r, a1, a2, a3] sh S L P) (k : ∀ x S' L', P x S' L' → Rx g d mc ms M n0 Q cu su (pc + 3) ls (.ref x :: rest) sh S' L') : Rx g d mc ms M n0 Q cu su pc ls (a3 :: a2 :: a1 :: .ref r :: rest) sh S L := by
  simp only [Bool.and_eq_true, Nat.ble_eq] at hz
  exact rx_callV0 (As := [a1, a2, a3]) (rest := rest) (Qj := fun r S' L' => ∃ x, r = some (.ref x) ∧ P x S' L') cl dd hv hz.1 hz.2.1 rfl rfl hz.2.2.1 hz.2.2.2 hC (fun r1 S' L' h => by obtain ⟨x, rfl, h⟩ := h; exact k x S' L' h)
theorem rx_cVv_3 {idx r d' : Nat} {Cn : String} {M' : MI} {a1 a2 a3 : Value} {P : SS → LL → Prop} (cl : CLv M.1.cls idx Cn M' 3) (dd : decode M.2.1 pc = .ok (.invokevirtual idx, 3)) (hv : Rcv sh r Cn) (hz : (Nat.ble (d' + 1) d && (Nat.ble M'.2.2.1 81 && (Nat.ble (rest.map fun v => v.category).sum 8 && (Nat.ble cu mc && Nat.ble su ms)))) = true) (hC : Cv g d' M' [.ref r, a1, a2, a3] sh S L P) (k : ∀ S' L', P S' L' → Rx g d mc ms M n0 Q cu su (pc + 3) ls rest sh S' L') : Rx g d mc ms M n0 Q cu su pc ls (a3 :: a2 :: a1 :: .ref r :: rest) sh S L := by
  simp only [Bool.and_eq_true, Nat.ble_eq] at hz
  exact rx_callV0 (As := [a1, a2, a3]) (rest := rest) (Qj := fun r S' L' => r = none ∧ P S' L') cl dd hv hz.1 hz.2.1 rfl rfl hz.2.2.1 hz.2.2.2 hC (fun r1 S' L' h => by obtain ⟨rfl, h⟩ := h; exact k S' L' h)
theorem rx_cVi_4 {idx r d' : Nat} {Cn : String} {M' : MI} {a1 a2 a3 a4 : Value} {P : Int32 → SS → LL → Prop} (cl : CLv M.1.cls idx Cn M' 4) (dd : decode M.2.1 pc = .ok (.invokevirtual idx, 3)) (hv : Rcv sh r Cn) (hz : (Nat.ble (d' + 1) d && (Nat.ble M'.2.2.1 81 && (Nat.ble (rest.map fun v => v.category).sum 8 && (Nat.ble cu mc && Nat.ble su ms)))) = true) (hC : Ci g d' M' [.ref r, a1, a2, a3, a4] sh S L P) (k : ∀ x S' L', P x S' L' → Rx g d mc ms M n0 Q cu su (pc + 3) ls (.int x :: rest) sh S' L') : Rx g d mc ms M n0 Q cu su pc ls (a4 :: a3 :: a2 :: a1 :: .ref r :: rest) sh S L := by
  simp only [Bool.and_eq_true, Nat.ble_eq] at hz
  exact rx_callV0 (As := [a1, a2, a3, a4]) (rest := rest) (Qj := fun r S' L' => ∃ x, r = some (.int x) ∧ P x S' L') cl dd hv hz.1 hz.2.1 rfl rfl hz.2.2.1 hz.2.2.2 hC (fun r1 S' L' h => by obtain ⟨x, rfl, h⟩ := h; exact k x S' L' h)
theorem rx_cVl_4 {idx r d' : Nat} {Cn : String} {M' : MI} {a1 a2 a3 a4 : Value} {P : Int64 → SS → LL → Prop} (cl : CLv M.1.cls idx Cn M' 4) (dd : decode M.2.1 pc = .ok (.invokevirtual idx, 3)) (hv : Rcv sh r Cn) (hz : (Nat.ble (d' + 1) d && (Nat.ble M'.2.2.1 81 && (Nat.ble (rest.map fun v => v.category).sum 8 && (Nat.ble cu mc && Nat.ble su ms)))) = true) (hC : Cl g d' M' [.ref r, a1, a2, a3, a4] sh S L P) (k : ∀ x S' L', P x S' L' → Rx g d mc ms M n0 Q cu su (pc + 3) ls (.long x :: rest) sh S' L') : Rx g d mc ms M n0 Q cu su pc ls (a4 :: a3 :: a2 :: a1 :: .ref r :: rest) sh S L := by
  simp only [Bool.and_eq_true, Nat.ble_eq] at hz
  exact rx_callV0 (As := [a1, a2, a3, a4]) (rest := rest) (Qj := fun r S' L' => ∃ x, r = some (.long x) ∧ P x S' L') cl dd hv hz.1 hz.2.1 rfl rfl hz.2.2.1 hz.2.2.2 hC (fun r1 S' L' h => by obtain ⟨x, rfl, h⟩ := h; exact k x S' L' h)
theorem rx_cVr_4 {idx r d' : Nat} {Cn : String} {M' : MI} {a1 a2 a3 a4 : Value} {P : Nat → SS → LL → Prop} (cl : CLv M.1.cls idx Cn M' 4) (dd : decode M.2.1 pc = .ok (.invokevirtual idx, 3)) (hv : Rcv sh r Cn) (hz : (Nat.ble (d' + 1) d && (Nat.ble M'.2.2.1 81 && (Nat.ble (rest.map fun v => v.category).sum 8 && (Nat.ble cu mc && Nat.ble su ms)))) = true) (hC : Cr g d' M' [.ref r, a1, a2, a3, a4] sh S L P) (k : ∀ x S' L', P x S' L' → Rx g d mc ms M n0 Q cu su (pc + 3) ls (.ref x :: rest) sh S' L') : Rx g d mc ms M n0 Q cu su pc ls (a4 :: a3 :: a2 :: a1 :: .ref r :: rest) sh S L := by
  simp only [Bool.and_eq_true, Nat.ble_eq] at hz
  exact rx_callV0 (As := [a1, a2, a3, a4]) (rest := rest) (Qj := fun r S' L' => ∃ x, r = some (.ref x) ∧ P x S' L') cl dd hv hz.1 hz.2.1 rfl rfl hz.2.2.1 hz.2.2.2 hC (fun r1 S' L' h => by obtain ⟨x, rfl, h⟩ := h; exact k x S' L' h)
theorem rx_cVv_4 {idx r d' : Nat} {Cn : String} {M' : MI} {a1 a2 a3 a4 : Value} {P : SS → LL → Prop} (cl : CLv M.1.cls idx Cn M' 4) (dd : decode M.2.1 pc = .ok (.invokevirtual idx, 3)) (hv : Rcv sh r Cn) (hz : (Nat.ble (d' + 1) d && (Nat.ble M'.2.2.1 81 && (Nat.ble (rest.map fun v => v.category).sum 8 && (Nat.ble cu mc && Nat.ble su ms)))) = true) (hC : Cv g d' M' [.ref r, a1, a2, a3, a4] sh S L P) (k : ∀ S' L', P S' L' → Rx g d mc ms M n0 Q cu su (pc + 3) ls rest sh S' L') : Rx g d mc ms M n0 Q cu su pc ls (a4 :: a3 :: a2 :: a1 :: .ref r :: rest) sh S L := by
  simp only [Bool.and_eq_true, Nat.ble_eq] at hz
  exact rx_callV0 (As := [a1, a2, a3, a4]) (rest := rest) (Qj := fun r S' L' => r = none ∧ P S' L') cl dd hv hz.1 hz.2.1 rfl rfl hz.2.2.1 hz.2.2.2 hC (fun r1 S' L' h => by obtain ⟨rfl, h⟩ := h; exact k S' L' h)
theorem rx_cVi_5 {idx r d' : Nat} {Cn : String} {M' : MI} {a1 a2 a3 a4 a5 : Value} {P : Int32 → SS → LL → Prop} (cl : CLv M.1.cls idx Cn M' 5) (dd : decode M.2.1 pc = .ok (.invokevirtual idx, 3)) (hv : Rcv sh r Cn) (hz : (Nat.ble (d' + 1) d && (Nat.ble M'.2.2.1 81 && (Nat.ble (rest.map fun v => v.category).sum 8 && (Nat.ble cu mc && Nat.ble su ms)))) = true) (hC : Ci g d' M' [.ref r, a1, a2, a3, a4, a5] sh S L P) (k : ∀ x S' L', P x S' L' → Rx g d mc ms M n0 Q cu su (pc + 3) ls (.int x :: rest) sh S' L') : Rx g d mc ms M n0 Q cu su pc ls (a5 :: a4 :: a3 :: a2 :: a1 :: .ref r :: rest) sh S L := by
  simp only [Bool.and_eq_true, Nat.ble_eq] at hz
  exact rx_callV0 (As := [a1, a2, a3, a4, a5]) (rest := rest) (Qj := fun r S' L' => ∃ x, r = some (.int x) ∧ P x S' L') cl dd hv hz.1 hz.2.1 rfl rfl hz.2.2.1 hz.2.2.2 hC (fun r1 S' L' h => by obtain ⟨x, rfl, h⟩ := h; exact k x S' L' h)
theorem rx_cVl_5 {idx r d' : Nat} {Cn : String} {M' : MI} {a1 a2 a3 a4 a5 : Value} {P : Int64 → SS → LL → Prop} (cl : CLv M.1.cls idx Cn M' 5) (dd : decode M.2.1 pc = .ok (.invokevirtual idx, 3)) (hv : Rcv sh r Cn) (hz : (Nat.ble (d' + 1) d && (Nat.ble M'.2.2.1 81 && (Nat.ble (rest.map fun v => v.category).sum 8 && (Nat.ble cu mc && Nat.ble su ms)))) = true) (hC : Cl g d' M' [.ref r, a1, a2, a3, a4, a5] sh S L P) (k : ∀ x S' L', P x S' L' → Rx g d mc ms M n0 Q cu su (pc + 3) ls (.long x :: rest) sh S' L') : Rx g d mc ms M n0 Q cu su pc ls (a5 :: a4 :: a3 :: a2 :: a1 :: .ref r :: rest) sh S L := by
  simp only [Bool.and_eq_true, Nat.ble_eq] at hz
  exact rx_callV0 (As := [a1, a2, a3, a4, a5]) (rest := rest) (Qj := fun r S' L' => ∃ x, r = some (.long x) ∧ P x S' L') cl dd hv hz.1 hz.2.1 rfl rfl hz.2.2.1 hz.2.2.2 hC (fun r1 S' L' h => by obtain ⟨x, rfl, h⟩ := h; exact k x S' L' h)
theorem rx_cVr_5 {idx r d' : Nat} {Cn : String} {M' : MI} {a1 a2 a3 a4 a5 : Value} {P : Nat → SS → LL → Prop} (cl : CLv M.1.cls idx Cn M' 5) (dd : decode M.2.1 pc = .ok (.invokevirtual idx, 3)) (hv : Rcv sh r Cn) (hz : (Nat.ble (d' + 1) d && (Nat.ble M'.2.2.1 81 && (Nat.ble (rest.map fun v => v.category).sum 8 && (Nat.ble cu mc && Nat.ble su ms)))) = true) (hC : Cr g d' M' [.ref r, a1, a2, a3, a4, a5] sh S L P) (k : ∀ x S' L', P x S' L' → Rx g d mc ms M n0 Q cu su (pc + 3) ls (.ref x :: rest) sh S' L') : Rx g d mc ms M n0 Q cu su pc ls (a5 :: a4 :: a3 :: a2 :: a1 :: .ref r :: rest) sh S L := by
  simp only [Bool.and_eq_true, Nat.ble_eq] at hz
  exact rx_callV0 (As := [a1, a2, a3, a4, a5]) (rest := rest) (Qj := fun r S' L' => ∃ x, r = some (.ref x) ∧ P x S' L') cl dd hv hz.1 hz.2.1 rfl rfl hz.2.2.1 hz.2.2.2 hC (fun r1 S' L' h => by obtain ⟨x, rfl, h⟩ := h; exact k x S' L' h)
theorem rx_cVv_5 {idx r d' : Nat} {Cn : String} {M' : MI} {a1 a2 a3 a4 a5 : Value} {P : SS → LL → Prop} (cl : CLv M.1.cls idx Cn M' 5) (dd : decode M.2.1 pc = .ok (.invokevirtual idx, 3)) (hv : Rcv sh r Cn) (hz : (Nat.ble (d' + 1) d && (Nat.ble M'.2.2.1 81 && (Nat.ble (rest.map fun v => v.category).sum 8 && (Nat.ble cu mc && Nat.ble su ms)))) = true) (hC : Cv g d' M' [.ref r, a1, a2, a3, a4, a5] sh S L P) (k : ∀ S' L', P S' L' → Rx g d mc ms M n0 Q cu su (pc + 3) ls rest sh S' L') : Rx g d mc ms M n0 Q cu su pc ls (a5 :: a4 :: a3 :: a2 :: a1 :: .ref r :: rest) sh S L := by
  simp only [Bool.and_eq_true, Nat.ble_eq] at hz
  exact rx_callV0 (As := [a1, a2, a3, a4, a5]) (rest := rest) (Qj := fun r S' L' => r = none ∧ P S' L') cl dd hv hz.1 hz.2.1 rfl rfl hz.2.2.1 hz.2.2.2 hC (fun r1 S' L' h => by obtain ⟨rfl, h⟩ := h; exact k S' L' h)
theorem rx_cSi_0 {idx d' : Nat} {M' : MI} {P : Int32 → SS → LL → Prop} (cl : CLs M.1.cls idx M' 0) (dd : decode M.2.1 pc = .ok (.invokestatic idx, 3)) (hz : (Nat.ble (d' + 1) d && (Nat.ble M'.2.2.1 81 && (Nat.ble (rest.map fun v => v.category).sum 8 && (Nat.ble cu mc && Nat.ble su ms)))) = true) (hC : Ci g d' M' [] sh S L P) (k : ∀ x S' L', P x S' L' → Rx g d mc ms M n0 Q cu su (pc + 3) ls (.int x :: rest) sh S' L') : Rx g d mc ms M n0 Q cu su pc ls (rest) sh S L := by
  simp only [Bool.and_eq_true, Nat.ble_eq] at hz
  exact rx_callS0 (As := []) (rest := rest) (Qj := fun r S' L' => ∃ x, r = some (.int x) ∧ P x S' L') cl dd hz.1 hz.2.1 rfl rfl hz.2.2.1 hz.2.2.2 hC (fun r1 S' L' h => by obtain ⟨x, rfl, h⟩ := h; exact k x S' L' h)
theorem rx_cSl_0 {idx d' : Nat} {M' : MI} {P : Int64 → SS → LL → Prop} (cl : CLs M.1.cls idx M' 0) (dd : decode M.2.1 pc = .ok (.invokestatic idx, 3)) (hz : (Nat.ble (d' + 1) d && (Nat.ble M'.2.2.1 81 && (Nat.ble (rest.map fun v => v.category).sum 8 && (Nat.ble cu mc && Nat.ble su ms)))) = true) (hC : Cl g d' M' [] sh S L P) (k : ∀ x S' L', P x S' L' → Rx g d mc ms M n0 Q cu su (pc + 3) ls (.long x :: rest) sh S' L') : Rx g d mc ms M n0 Q cu su pc ls (rest) sh S L := by
  simp only [Bool.and_eq_true, Nat.ble_eq] at hz
  exact rx_callS0 (As := []) (rest := rest) (Qj := fun r S' L' => ∃ x, r = some (.long x) ∧ P x S' L') cl dd hz.1 hz.2.1 rfl rfl hz.2.2.1 hz.2.2.2 hC (fun r1 S' L' h => by obtain ⟨x, rfl, h⟩ := h; exact k x S' L' h)
theorem rx_cSr_0 {idx d' : Nat} {M' : MI} {P : Nat → SS → LL → Prop} (cl : CLs M.1.cls idx M' 0) (dd : decode M.2.1 pc = .ok (.invokestatic idx, 3)) (hz : (Nat.ble (d' + 1) d && (Nat.ble M'.2.2.1 81 && (Nat.ble (rest.map fun v => v.category).sum 8 && (Nat.ble cu mc && Nat.ble su ms)))) = true) (hC : Cr g d' M' [] sh S L P) (k : ∀ x S' L', P x S' L' → Rx g d mc ms M n0 Q cu su (pc + 3) ls (.ref x :: rest) sh S' L') : Rx g d mc ms M n0 Q cu su pc ls (rest) sh S L := by
  simp only [Bool.and_eq_true, Nat.ble_eq] at hz
  exact rx_callS0 (As := []) (rest := rest) (Qj := fun r S' L' => ∃ x, r = some (.ref x) ∧ P x S' L') cl dd hz.1 hz.2.1 rfl rfl hz.2.2.1 hz.2.2.2 hC (fun r1 S' L' h => by obtain ⟨x, rfl, h⟩ := h; exact k x S' L' h)
theorem rx_cSv_0 {idx d' : Nat} {M' : MI} {P : SS → LL → Prop} (cl : CLs M.1.cls idx M' 0) (dd : decode M.2.1 pc = .ok (.invokestatic idx, 3)) (hz : (Nat.ble (d' + 1) d && (Nat.ble M'.2.2.1 81 && (Nat.ble (rest.map fun v => v.category).sum 8 && (Nat.ble cu mc && Nat.ble su ms)))) = true) (hC : Cv g d' M' [] sh S L P) (k : ∀ S' L', P S' L' → Rx g d mc ms M n0 Q cu su (pc + 3) ls rest sh S' L') : Rx g d mc ms M n0 Q cu su pc ls (rest) sh S L := by
  simp only [Bool.and_eq_true, Nat.ble_eq] at hz
  exact rx_callS0 (As := []) (rest := rest) (Qj := fun r S' L' => r = none ∧ P S' L') cl dd hz.1 hz.2.1 rfl rfl hz.2.2.1 hz.2.2.2 hC (fun r1 S' L' h => by obtain ⟨rfl, h⟩ := h; exact k S' L' h)
theorem rx_cSi_1 {idx d' : Nat} {M' : MI} {a1 : Value} {P : Int32 → SS → LL → Prop} (cl : CLs M.1.cls idx M' 1) (dd : decode M.2.1 pc = .ok (.invokestatic idx, 3)) (hz : (Nat.ble (d' + 1) d && (Nat.ble M'.2.2.1 81 && (Nat.ble (rest.map fun v => v.category).sum 8 && (Nat.ble cu mc && Nat.ble su ms)))) = true) (hC : Ci g d' M' [a1] sh S L P) (k : ∀ x S' L', P x S' L' → Rx g d mc ms M n0 Q cu su (pc + 3) ls (.int x :: rest) sh S' L') : Rx g d mc ms M n0 Q cu su pc ls (a1 :: rest) sh S L := by
  simp only [Bool.and_eq_true, Nat.ble_eq] at hz
  exact rx_callS0 (As := [a1]) (rest := rest) (Qj := fun r S' L' => ∃ x, r = some (.int x) ∧ P x S' L') cl dd hz.1 hz.2.1 rfl rfl hz.2.2.1 hz.2.2.2 hC (fun r1 S' L' h => by obtain ⟨x, rfl, h⟩ := h; exact k x S' L' h)
theorem rx_cSl_1 {idx d' : Nat} {M' : MI} {a1 : Value} {P : Int64 → SS → LL → Prop} (cl : CLs M.1.cls idx M' 1) (dd : decode M.2.1 pc = .ok (.invokestatic idx, 3)) (hz : (Nat.ble (d' + 1) d && (Nat.ble M'.2.2.1 81 && (Nat.ble (rest.map fun v => v.category).sum 8 && (Nat.ble cu mc && Nat.ble su ms)))) = true) (hC : Cl g d' M' [a1] sh S L P) (k : ∀ x S' L', P x S' L' → Rx g d mc ms M n0 Q cu su (pc + 3) ls (.long x :: rest) sh S' L') : Rx g d mc ms M n0 Q cu su pc ls (a1 :: rest) sh S L := by
  simp only [Bool.and_eq_true, Nat.ble_eq] at hz
  exact rx_callS0 (As := [a1]) (rest := rest) (Qj := fun r S' L' => ∃ x, r = some (.long x) ∧ P x S' L') cl dd hz.1 hz.2.1 rfl rfl hz.2.2.1 hz.2.2.2 hC (fun r1 S' L' h => by obtain ⟨x, rfl, h⟩ := h; exact k x S' L' h)
theorem rx_cSr_1 {idx d' : Nat} {M' : MI} {a1 : Value} {P : Nat → SS → LL → Prop} (cl : CLs M.1.cls idx M' 1) (dd : decode M.2.1 pc = .ok (.invokestatic idx, 3)) (hz : (Nat.ble (d' + 1) d && (Nat.ble M'.2.2.1 81 && (Nat.ble (rest.map fun v => v.category).sum 8 && (Nat.ble cu mc && Nat.ble su ms)))) = true) (hC : Cr g d' M' [a1] sh S L P) (k : ∀ x S' L', P x S' L' → Rx g d mc ms M n0 Q cu su (pc + 3) ls (.ref x :: rest) sh S' L') : Rx g d mc ms M n0 Q cu su pc ls (a1 :: rest) sh S L := by
  simp only [Bool.and_eq_true, Nat.ble_eq] at hz
  exact rx_callS0 (As := [a1]) (rest := rest) (Qj := fun r S' L' => ∃ x, r = some (.ref x) ∧ P x S' L') cl dd hz.1 hz.2.1 rfl rfl hz.2.2.1 hz.2.2.2 hC (fun r1 S' L' h => by obtain ⟨x, rfl, h⟩ := h; exact k x S' L' h)
theorem rx_cSv_1 {idx d' : Nat} {M' : MI} {a1 : Value} {P : SS → LL → Prop} (cl : CLs M.1.cls idx M' 1) (dd : decode M.2.1 pc = .ok (.invokestatic idx, 3)) (hz : (Nat.ble (d' + 1) d && (Nat.ble M'.2.2.1 81 && (Nat.ble (rest.map fun v => v.category).sum 8 && (Nat.ble cu mc && Nat.ble su ms)))) = true) (hC : Cv g d' M' [a1] sh S L P) (k : ∀ S' L', P S' L' → Rx g d mc ms M n0 Q cu su (pc + 3) ls rest sh S' L') : Rx g d mc ms M n0 Q cu su pc ls (a1 :: rest) sh S L := by
  simp only [Bool.and_eq_true, Nat.ble_eq] at hz
  exact rx_callS0 (As := [a1]) (rest := rest) (Qj := fun r S' L' => r = none ∧ P S' L') cl dd hz.1 hz.2.1 rfl rfl hz.2.2.1 hz.2.2.2 hC (fun r1 S' L' h => by obtain ⟨rfl, h⟩ := h; exact k S' L' h)
theorem rx_cSi_2 {idx d' : Nat} {M' : MI} {a1 a2 : Value} {P : Int32 → SS → LL → Prop} (cl : CLs M.1.cls idx M' 2) (dd : decode M.2.1 pc = .ok (.invokestatic idx, 3)) (hz : (Nat.ble (d' + 1) d && (Nat.ble M'.2.2.1 81 && (Nat.ble (rest.map fun v => v.category).sum 8 && (Nat.ble cu mc && Nat.ble su ms)))) = true) (hC : Ci g d' M' [a1, a2] sh S L P) (k : ∀ x S' L', P x S' L' → Rx g d mc ms M n0 Q cu su (pc + 3) ls (.int x :: rest) sh S' L') : Rx g d mc ms M n0 Q cu su pc ls (a2 :: a1 :: rest) sh S L := by
  simp only [Bool.and_eq_true, Nat.ble_eq] at hz
  exact rx_callS0 (As := [a1, a2]) (rest := rest) (Qj := fun r S' L' => ∃ x, r = some (.int x) ∧ P x S' L') cl dd hz.1 hz.2.1 rfl rfl hz.2.2.1 hz.2.2.2 hC (fun r1 S' L' h => by obtain ⟨x, rfl, h⟩ := h; exact k x S' L' h)
theorem rx_cSl_2 {idx d' : Nat} {M' : MI} {a1 a2 : Value} {P : Int64 → SS → LL → Prop} (cl : CLs M.1.cls idx M' 2) (dd : decode M.2.1 pc = .ok (.invokestatic idx, 3)) (hz : (Nat.ble (d' + 1) d && (Nat.ble M'.2.2.1 81 && (Nat.ble (rest.map fun v => v.category).sum 8 && (Nat.ble cu mc && Nat.ble su ms)))) = true) (hC : Cl g d' M' [a1, a2] sh S L P) (k : ∀ x S' L', P x S' L' → Rx g d mc ms M n0 Q cu su (pc + 3) ls (.long x :: rest) sh S' L') : Rx g d mc ms M n0 Q cu su pc ls (a2 :: a1 :: rest) sh S L := by
  simp only [Bool.and_eq_true, Nat.ble_eq] at hz
  exact rx_callS0 (As := [a1, a2]) (rest := rest) (Qj := fun r S' L' => ∃ x, r = some (.long x) ∧ P x S' L') cl dd hz.1 hz.2.1 rfl rfl hz.2.2.1 hz.2.2.2 hC (fun r1 S' L' h => by obtain ⟨x, rfl, h⟩ := h; exact k x S' L' h)
theorem rx_cSr_2 {idx d' : Nat} {M' : MI} {a1 a2 : Value} {P : Nat → SS → LL → Prop} (cl : CLs M.1.cls idx M' 2) (dd : decode M.2.1 pc = .ok (.invokestatic idx, 3)) (hz : (Nat.ble (d' + 1) d && (Nat.ble M'.2.2.1 81 && (Nat.ble (rest.map fun v => v.category).sum 8 && (Nat.ble cu mc && Nat.ble su ms)))) = true) (hC : Cr g d' M' [a1, a2] sh S L P) (k : ∀ x S' L', P x S' L' → Rx g d mc ms M n0 Q cu su (pc + 3) ls (.ref x :: rest) sh S' L') : Rx g d mc ms M n0 Q cu su pc ls (a2 :: a1 :: rest) sh S L := by
  simp only [Bool.and_eq_true, Nat.ble_eq] at hz
  exact rx_callS0 (As := [a1, a2]) (rest := rest) (Qj := fun r S' L' => ∃ x, r = some (.ref x) ∧ P x S' L') cl dd hz.1 hz.2.1 rfl rfl hz.2.2.1 hz.2.2.2 hC (fun r1 S' L' h => by obtain ⟨x, rfl, h⟩ := h; exact k x S' L' h)
theorem rx_cSv_2 {idx d' : Nat} {M' : MI} {a1 a2 : Value} {P : SS → LL → Prop} (cl : CLs M.1.cls idx M' 2) (dd : decode M.2.1 pc = .ok (.invokestatic idx, 3)) (hz : (Nat.ble (d' + 1) d && (Nat.ble M'.2.2.1 81 && (Nat.ble (rest.map fun v => v.category).sum 8 && (Nat.ble cu mc && Nat.ble su ms)))) = true) (hC : Cv g d' M' [a1, a2] sh S L P) (k : ∀ S' L', P S' L' → Rx g d mc ms M n0 Q cu su (pc + 3) ls rest sh S' L') : Rx g d mc ms M n0 Q cu su pc ls (a2 :: a1 :: rest) sh S L := by
  simp only [Bool.and_eq_true, Nat.ble_eq] at hz
  exact rx_callS0 (As := [a1, a2]) (rest := rest) (Qj := fun r S' L' => r = none ∧ P S' L') cl dd hz.1 hz.2.1 rfl rfl hz.2.2.1 hz.2.2.2 hC (fun r1 S' L' h => by obtain ⟨rfl, h⟩ := h; exact k S' L' h)
theorem rx_cSi_3 {idx d' : Nat} {M' : MI} {a1 a2 a3 : Value} {P : Int32 → SS → LL → Prop} (cl : CLs M.1.cls idx M' 3) (dd : decode M.2.1 pc = .ok (.invokestatic idx, 3)) (hz : (Nat.ble (d' + 1) d && (Nat.ble M'.2.2.1 81 && (Nat.ble (rest.map fun v => v.category).sum 8 && (Nat.ble cu mc && Nat.ble su ms)))) = true) (hC : Ci g d' M' [a1, a2, a3] sh S L P) (k : ∀ x S' L', P x S' L' → Rx g d mc ms M n0 Q cu su (pc + 3) ls (.int x :: rest) sh S' L') : Rx g d mc ms M n0 Q cu su pc ls (a3 :: a2 :: a1 :: rest) sh S L := by
  simp only [Bool.and_eq_true, Nat.ble_eq] at hz
  exact rx_callS0 (As := [a1, a2, a3]) (rest := rest) (Qj := fun r S' L' => ∃ x, r = some (.int x) ∧ P x S' L') cl dd hz.1 hz.2.1 rfl rfl hz.2.2.1 hz.2.2.2 hC (fun r1 S' L' h => by obtain ⟨x, rfl, h⟩ := h; exact k x S' L' h)
theorem rx_cSl_3 {idx d' : Nat} {M' : MI} {a1 a2 a3 : Value} {P : Int64 → SS → LL → Prop} (cl : CLs M.1.cls idx M' 3) (dd : decode M.2.1 pc = .ok (.invokestatic idx, 3)) (hz : (Nat.ble (d' + 1) d && (Nat.ble M'.2.2.1 81 && (Nat.ble (rest.map fun v => v.category).sum 8 && (Nat.ble cu mc && Nat.ble su ms)))) = true) (hC : Cl g d' M' [a1, a2, a3] sh S L P) (k : ∀ x S' L', P x S' L' → Rx g d mc ms M n0 Q cu su (pc + 3) ls (.long x :: rest) sh S' L') : Rx g d mc ms M n0 Q cu su pc ls (a3 :: a2 :: a1 :: rest) sh S L := by
  simp only [Bool.and_eq_true, Nat.ble_eq] at hz
  exact rx_callS0 (As := [a1, a2, a3]) (rest := rest) (Qj := fun r S' L' => ∃ x, r = some (.long x) ∧ P x S' L') cl dd hz.1 hz.2.1 rfl rfl hz.2.2.1 hz.2.2.2 hC (fun r1 S' L' h => by obtain ⟨x, rfl, h⟩ := h; exact k x S' L' h)
theorem rx_cSr_3 {idx d' : Nat} {M' : MI} {a1 a2 a3 : Value} {P : Nat → SS → LL → Prop} (cl : CLs M.1.cls idx M' 3) (dd : decode M.2.1 pc = .ok (.invokestatic idx, 3)) (hz : (Nat.ble (d' + 1) d && (Nat.ble M'.2.2.1 81 && (Nat.ble (rest.map fun v => v.category).sum 8 && (Nat.ble cu mc && Nat.ble su ms)))) = true) (hC : Cr g d' M' [a1, a2, a3] sh S L P) (k : ∀ x S' L', P x S' L' → Rx g d mc ms M n0 Q cu su (pc + 3) ls (.ref x :: rest) sh S' L') : Rx g d mc ms M n0 Q cu su pc ls (a3 :: a2 :: a1 :: rest) sh S L := by
  simp only [Bool.and_eq_true, Nat.ble_eq] at hz
  exact rx_callS0 (As := [a1, a2, a3]) (rest := rest) (Qj := fun r S' L' => ∃ x, r = some (.ref x) ∧ P x S' L') cl dd hz.1 hz.2.1 rfl rfl hz.2.2.1 hz.2.2.2 hC (fun r1 S' L' h => by obtain ⟨x, rfl, h⟩ := h; exact k x S' L' h)
theorem rx_cSv_3 {idx d' : Nat} {M' : MI} {a1 a2 a3 : Value} {P : SS → LL → Prop} (cl : CLs M.1.cls idx M' 3) (dd : decode M.2.1 pc = .ok (.invokestatic idx, 3)) (hz : (Nat.ble (d' + 1) d && (Nat.ble M'.2.2.1 81 && (Nat.ble (rest.map fun v => v.category).sum 8 && (Nat.ble cu mc && Nat.ble su ms)))) = true) (hC : Cv g d' M' [a1, a2, a3] sh S L P) (k : ∀ S' L', P S' L' → Rx g d mc ms M n0 Q cu su (pc + 3) ls rest sh S' L') : Rx g d mc ms M n0 Q cu su pc ls (a3 :: a2 :: a1 :: rest) sh S L := by
  simp only [Bool.and_eq_true, Nat.ble_eq] at hz
  exact rx_callS0 (As := [a1, a2, a3]) (rest := rest) (Qj := fun r S' L' => r = none ∧ P S' L') cl dd hz.1 hz.2.1 rfl rfl hz.2.2.1 hz.2.2.2 hC (fun r1 S' L' h => by obtain ⟨rfl, h⟩ := h; exact k S' L' h)
theorem rx_cSi_4 {idx d' : Nat} {M' : MI} {a1 a2 a3 a4 : Value} {P : Int32 → SS → LL → Prop} (cl : CLs M.1.cls idx M' 4) (dd : decode M.2.1 pc = .ok (.invokestatic idx, 3)) (hz : (Nat.ble (d' + 1) d && (Nat.ble M'.2.2.1 81 && (Nat.ble (rest.map fun v => v.category).sum 8 && (Nat.ble cu mc && Nat.ble su ms)))) = true) (hC : Ci g d' M' [a1, a2, a3, a4] sh S L P) (k : ∀ x S' L', P x S' L' → Rx g d mc ms M n0 Q cu su (pc + 3) ls (.int x :: rest) sh S' L') : Rx g d mc ms M n0 Q cu su pc ls (a4 :: a3 :: a2 :: a1 :: rest) sh S L := by
  simp only [Bool.and_eq_true, Nat.ble_eq] at hz
  exact rx_callS0 (As := [a1, a2, a3, a4]) (rest := rest) (Qj := fun r S' L' => ∃ x, r = some (.int x) ∧ P x S' L') cl dd hz.1 hz.2.1 rfl rfl hz.2.2.1 hz.2.2.2 hC (fun r1 S' L' h => by obtain ⟨x, rfl, h⟩ := h; exact k x S' L' h)
theorem rx_cSl_4 {idx d' : Nat} {M' : MI} {a1 a2 a3 a4 : Value} {P : Int64 → SS → LL → Prop} (cl : CLs M.1.cls idx M' 4) (dd : decode M.2.1 pc = .ok (.invokestatic idx, 3)) (hz : (Nat.ble (d' + 1) d && (Nat.ble M'.2.2.1 81 && (Nat.ble (rest.map fun v => v.category).sum 8 && (Nat.ble cu mc && Nat.ble su ms)))) = true) (hC : Cl g d' M' [a1, a2, a3, a4] sh S L P) (k : ∀ x S' L', P x S' L' → Rx g d mc ms M n0 Q cu su (pc + 3) ls (.long x :: rest) sh S' L') : Rx g d mc ms M n0 Q cu su pc ls (a4 :: a3 :: a2 :: a1 :: rest) sh S L := by
  simp only [Bool.and_eq_true, Nat.ble_eq] at hz
  exact rx_callS0 (As := [a1, a2, a3, a4]) (rest := rest) (Qj := fun r S' L' => ∃ x, r = some (.long x) ∧ P x S' L') cl dd hz.1 hz.2.1 rfl rfl hz.2.2.1 hz.2.2.2 hC (fun r1 S' L' h => by obtain ⟨x, rfl, h⟩ := h; exact k x S' L' h)
theorem rx_cSr_4 {idx d' : Nat} {M' : MI} {a1 a2 a3 a4 : Value} {P : Nat → SS → LL → Prop} (cl : CLs M.1.cls idx M' 4) (dd : decode M.2.1 pc = .ok (.invokestatic idx, 3)) (hz : (Nat.ble (d' + 1) d && (Nat.ble M'.2.2.1 81 && (Nat.ble (rest.map fun v => v.category).sum 8 && (Nat.ble cu mc && Nat.ble su ms)))) = true) (hC : Cr g d' M' [a1, a2, a3, a4] sh S L P) (k : ∀ x S' L', P x S' L' → Rx g d mc ms M n0 Q cu su (pc + 3) ls (.ref x :: rest) sh S' L') : Rx g d mc ms M n0 Q cu su pc ls (a4 :: a3 :: a2 :: a1 :: rest) sh S L := by
  simp only [Bool.and_eq_true, Nat.ble_eq] at hz
  exact rx_callS0 (As := [a1, a2, a3, a4]) (rest := rest) (Qj := fun r S' L' => ∃ x, r = some (.ref x) ∧ P x S' L') cl dd hz.1 hz.2.1 rfl rfl hz.2.2.1 hz.2.2.2 hC (fun r1 S' L' h => by obtain ⟨x, rfl, h⟩ := h; exact k x S' L' h)
theorem rx_cSv_4 {idx d' : Nat} {M' : MI} {a1 a2 a3 a4 : Value} {P : SS → LL → Prop} (cl : CLs M.1.cls idx M' 4) (dd : decode M.2.1 pc = .ok (.invokestatic idx, 3)) (hz : (Nat.ble (d' + 1) d && (Nat.ble M'.2.2.1 81 && (Nat.ble (rest.map fun v => v.category).sum 8 && (Nat.ble cu mc && Nat.ble su ms)))) = true) (hC : Cv g d' M' [a1, a2, a3, a4] sh S L P) (k : ∀ S' L', P S' L' → Rx g d mc ms M n0 Q cu su (pc + 3) ls rest sh S' L') : Rx g d mc ms M n0 Q cu su pc ls (a4 :: a3 :: a2 :: a1 :: rest) sh S L := by
  simp only [Bool.and_eq_true, Nat.ble_eq] at hz
  exact rx_callS0 (As := [a1, a2, a3, a4]) (rest := rest) (Qj := fun r S' L' => r = none ∧ P S' L') cl dd hz.1 hz.2.1 rfl rfl hz.2.2.1 hz.2.2.2 hC (fun r1 S' L' h => by obtain ⟨rfl, h⟩ := h; exact k S' L' h)
theorem rx_cSi_5 {idx d' : Nat} {M' : MI} {a1 a2 a3 a4 a5 : Value} {P : Int32 → SS → LL → Prop} (cl : CLs M.1.cls idx M' 5) (dd : decode M.2.1 pc = .ok (.invokestatic idx, 3)) (hz : (Nat.ble (d' + 1) d && (Nat.ble M'.2.2.1 81 && (Nat.ble (rest.map fun v => v.category).sum 8 && (Nat.ble cu mc && Nat.ble su ms)))) = true) (hC : Ci g d' M' [a1, a2, a3, a4, a5] sh S L P) (k : ∀ x S' L', P x S' L' → Rx g d mc ms M n0 Q cu su (pc + 3) ls (.int x :: rest) sh S' L') : Rx g d mc ms M n0 Q cu su pc ls (a5 :: a4 :: a3 :: a2 :: a1 :: rest) sh S L := by
  simp only [Bool.and_eq_true, Nat.ble_eq] at hz
  exact rx_callS0 (As := [a1, a2, a3, a4, a5]) (rest := rest) (Qj := fun r S' L' => ∃ x, r = some (.int x) ∧ P x S' L') cl dd hz.1 hz.2.1 rfl rfl hz.2.2.1 hz.2.2.2 hC (fun r1 S' L' h => by obtain ⟨x, rfl, h⟩ := h; exact k x S' L' h)
theorem rx_cSl_5 {idx d' : Nat} {M' : MI} {a1 a2 a3 a4 a5 : Value} {P : Int64 → SS → LL → Prop} (cl : CLs M.1.cls idx M' 5) (dd : decode M.2.1 pc = .ok (.invokestatic idx, 3)) (hz : (Nat.ble (d' + 1) d && (Nat.ble M'.2.2.1 81 && (Nat.ble (rest.map fun v => v.category).sum 8 && (Nat.ble cu mc && Nat.ble su ms)))) = true) (hC : Cl g d' M' [a1, a2, a3, a4, a5] sh S L P) (k : ∀ x S' L', P x S' L' → Rx g d mc ms M n0 Q cu su (pc + 3) ls (.long x :: rest) sh S' L') : Rx g d mc ms M n0 Q cu su pc ls (a5 :: a4 :: a3 :: a2 :: a1 :: rest) sh S L := by
  simp only [Bool.and_eq_true, Nat.ble_eq] at hz
  exact rx_callS0 (As := [a1, a2, a3, a4, a5]) (rest := rest) (Qj := fun r S' L' => ∃ x, r = some (.long x) ∧ P x S' L') cl dd hz.1 hz.2.1 rfl rfl hz.2.2.1 hz.2.2.2 hC (fun r1 S' L' h => by obtain ⟨x, rfl, h⟩ := h; exact k x S' L' h)
theorem rx_cSr_5 {idx d' : Nat} {M' : MI} {a1 a2 a3 a4 a5 : Value} {P : Nat → SS → LL → Prop} (cl : CLs M.1.cls idx M' 5) (dd : decode M.2.1 pc = .ok (.invokestatic idx, 3)) (hz : (Nat.ble (d' + 1) d && (Nat.ble M'.2.2.1 81 && (Nat.ble (rest.map fun v => v.category).sum 8 && (Nat.ble cu mc && Nat.ble su ms)))) = true) (hC : Cr g d' M' [a1, a2, a3, a4, a5] sh S L P) (k : ∀ x S' L', P x S' L' → Rx g d mc ms M n0 Q cu su (pc + 3) ls (.ref x :: rest) sh S' L') : Rx g d mc ms M n0 Q cu su pc ls (a5 :: a4 :: a3 :: a2 :: a1 :: rest) sh S L := by
  simp only [Bool.and_eq_true, Nat.ble_eq] at hz
  exact rx_callS0 (As := [a1, a2, a3, a4, a5]) (rest := rest) (Qj := fun r S' L' => ∃ x, r = some (.ref x) ∧ P x S' L') cl dd hz.1 hz.2.1 rfl rfl hz.2.2.1 hz.2.2.2 hC (fun r1 S' L' h => by obtain ⟨x, rfl, h⟩ := h; exact k x S' L' h)
theorem rx_cSv_5 {idx d' : Nat} {M' : MI} {a1 a2 a3 a4 a5 : Value} {P : SS → LL → Prop} (cl : CLs M.1.cls idx M' 5) (dd : decode M.2.1 pc = .ok (.invokestatic idx, 3)) (hz : (Nat.ble (d' + 1) d && (Nat.ble M'.2.2.1 81 && (Nat.ble (rest.map fun v => v.category).sum 8 && (Nat.ble cu mc && Nat.ble su ms)))) = true) (hC : Cv g d' M' [a1, a2, a3, a4, a5] sh S L P) (k : ∀ S' L', P S' L' → Rx g d mc ms M n0 Q cu su (pc + 3) ls rest sh S' L') : Rx g d mc ms M n0 Q cu su pc ls (a5 :: a4 :: a3 :: a2 :: a1 :: rest) sh S L := by
  simp only [Bool.and_eq_true, Nat.ble_eq] at hz
  exact rx_callS0 (As := [a1, a2, a3, a4, a5]) (rest := rest) (Qj := fun r S' L' => r = none ∧ P S' L') cl dd hz.1 hz.2.1 rfl rfl hz.2.2.1 hz.2.2.2 hC (fun r1 S' L' h => by obtain ⟨rfl, h⟩ := h; exact k S' L' h)
theorem rx_cUi_0 {idx r d' ci N : Nat} {Cn : String} {T : u_T} {fs : List (Nat × Nat × Nat)} {M' : MI} {P : Int32 → SS → LL → Prop} (cl : CLu M.1.cls idx M' 0) (dd : decode M.2.1 pc = .ok (.invokespecial idx, 3)) (hv : sh[r]? = some (0, ci, fs)) (hv2 : vwCl[ci]? = some (Cn, T, N)) (hz : (Nat.ble (d' + 1) d && (Nat.ble M'.2.2.1 81 && (Nat.ble (rest.map fun v => v.category).sum 8 && (Nat.ble cu mc && Nat.ble su ms)))) = true) (hC : Ci g d' M' [.ref r] sh S L P) (k : ∀ x S' L', P x S' L' → Rx g d mc ms M n0 Q cu su (pc + 3) ls (.int x :: rest) sh S' L') : Rx g d mc ms M n0 Q cu su pc ls (.ref r :: rest) sh S L := by
  simp only [Bool.and_eq_true, Nat.ble_eq] at hz
  exact rx_callU0 (As := []) (rest := rest) (Qj := fun r S' L' => ∃ x, r = some (.int x) ∧ P x S' L') cl dd hv hv2 hz.1 hz.2.1 rfl rfl hz.2.2.1 hz.2.2.2 hC (fun r1 S' L' h => by obtain ⟨x, rfl, h⟩ := h; exact k x S' L' h)
theorem rx_cUi_1 {idx r d' ci N : Nat} {Cn : String} {T : u_T} {fs : List (Nat × Nat × Nat)} {M' : MI} {a1 : Value} {P : Int32 → SS → LL → Prop} (cl : CLu M.1.cls idx M' 1) (dd : decode M.2.1 pc = .ok (.invokespecial idx, 3)) (hv : sh[r]? = some (0, ci, fs)) (hv2 : vwCl[ci]? = some (Cn, T, N)) (hz : (Nat.ble (d' + 1) d && (Nat.ble M'.2.2.1 81 && (Nat.ble (rest.map fun v => v.category).sum 8 && (Nat.ble cu mc && Nat.ble su ms)))) = true) (hC : Ci g d' M' [.ref r, a1] sh S L P) (k : ∀ x S' L', P x S' L' → Rx g d mc ms M n0 Q cu su (pc + 3) ls (.int x :: rest) sh S' L') : Rx g d mc ms M n0 Q cu su pc ls (a1 :: .ref r :: rest) sh S L := by
  simp only [Bool.and_eq_true, Nat.ble_eq] at hz
  exact rx_callU0 (As := [a1]) (rest := rest) (Qj := fun r S' L' => ∃ x, r = some (.int x) ∧ P x S' L') cl dd hv hv2 hz.1 hz.2.1 rfl rfl hz.2.2.1 hz.2.2.2 hC (fun r1 S' L' h => by obtain ⟨x, rfl, h⟩ := h; exact k x S' L' h)
theorem rx_cUi_2 {idx r d' ci N : Nat} {Cn : String} {T : u_T} {fs : List (Nat × Nat × Nat)} {M' : MI} {a1 a2 : Value} {P : Int32 → SS → LL → Prop} (cl : CLu M.1.cls idx M' 2) (dd : decode M.2.1 pc = .ok (.invokespecial idx, 3)) (hv : sh[r]? = some (0, ci, fs)) (hv2 : vwCl[ci]? = some (Cn, T, N)) (hz : (Nat.ble (d' + 1) d && (Nat.ble M'.2.2.1 81 && (Nat.ble (rest.map fun v => v.category).sum 8 && (Nat.ble cu mc && Nat.ble su ms)))) = true) (hC : Ci g d' M' [.ref r, a1, a2] sh S L P) (k : ∀ x S' L', P x S' L' → Rx g d mc ms M n0 Q cu su (pc + 3) ls (.int x :: rest) sh S' L') : Rx g d mc ms M n0 Q cu su pc ls (a2 :: a1 :: .ref r :: rest) sh S L := by
  simp only [Bool.and_eq_true, Nat.ble_eq] at hz
  exact rx_callU0 (As := [a1, a2]) (rest := rest) (Qj := fun r S' L' => ∃ x, r = some (.int x) ∧ P x S' L') cl dd hv hv2 hz.1 hz.2.1 rfl rfl hz.2.2.1 hz.2.2.2 hC (fun r1 S' L' h => by obtain ⟨x, rfl, h⟩ := h; exact k x S' L' h)
theorem rx_cUi_3 {idx r d' ci N : Nat} {Cn : String} {T : u_T} {fs : List (Nat × Nat × Nat)} {M' : MI} {a1 a2 a3 : Value} {P : Int32 → SS → LL → Prop} (cl : CLu M.1.cls idx M' 3) (dd : decode M.2.1 pc = .ok (.invokespecial idx, 3)) (hv : sh[r]? = some (0, ci, fs)) (hv2 : vwCl[ci]? = some (Cn, T, N)) (hz : (Nat.ble (d' + 1) d && (Nat.ble M'.2.2.1 81 && (Nat.ble (rest.map fun v => v.category).sum 8 && (Nat.ble cu mc && Nat.ble su ms)))) = true) (hC : Ci g d' M' [.ref r, a1, a2, a3] sh S L P) (k : ∀ x S' L', P x S' L' → Rx g d mc ms M n0 Q cu su (pc + 3) ls (.int x :: rest) sh S' L') : Rx g d mc ms M n0 Q cu su pc ls (a3 :: a2 :: a1 :: .ref r :: rest) sh S L := by
  simp only [Bool.and_eq_true, Nat.ble_eq] at hz
  exact rx_callU0 (As := [a1, a2, a3]) (rest := rest) (Qj := fun r S' L' => ∃ x, r = some (.int x) ∧ P x S' L') cl dd hv hv2 hz.1 hz.2.1 rfl rfl hz.2.2.1 hz.2.2.2 hC (fun r1 S' L' h => by obtain ⟨x, rfl, h⟩ := h; exact k x S' L' h)
theorem rx_cUi_4 {idx r d' ci N : Nat} {Cn : String} {T : u_T} {fs : List (Nat × Nat × Nat)} {M' : MI} {a1 a2 a3 a4 : Value} {P : Int32 → SS → LL → Prop} (cl : CLu M.1.cls idx M' 4) (dd : decode M.2.1 pc = .ok (.invokespecial idx, 3)) (hv : sh[r]? = some (0, ci, fs)) (hv2 : vwCl[ci]? = some (Cn, T, N)) (hz : (Nat.ble (d' + 1) d && (Nat.ble M'.2.2.1 81 && (Nat.ble (rest.map fun v => v.category).sum 8 && (Nat.ble cu mc && Nat.ble su ms)))) = true) (hC : Ci g d' M' [.ref r, a1, a2, a3, a4] sh S L P) (k : ∀ x S' L', P x S' L' → Rx g d mc ms M n0 Q cu su (pc + 3) ls (.int x :: rest) sh S' L') : Rx g d mc ms M n0 Q cu su pc ls (a4 :: a3 :: a2 :: a1 :: .ref r :: rest) sh S L := by
  simp only [Bool.and_eq_true, Nat.ble_eq] at hz
  exact rx_callU0 (As := [a1, a2, a3, a4]) (rest := rest) (Qj := fun r S' L' => ∃ x, r = some (.int x) ∧ P x S' L') cl dd hv hv2 hz.1 hz.2.1 rfl rfl hz.2.2.1 hz.2.2.2 hC (fun r1 S' L' h => by obtain ⟨x, rfl, h⟩ := h; exact k x S' L' h)
theorem rx_cUi_5 {idx r d' ci N : Nat} {Cn : String} {T : u_T} {fs : List (Nat × Nat × Nat)} {M' : MI} {a1 a2 a3 a4 a5 : Value} {P : Int32 → SS → LL → Prop} (cl : CLu M.1.cls idx M' 5) (dd : decode M.2.1 pc = .ok (.invokespecial idx, 3)) (hv : sh[r]? = some (0, ci, fs)) (hv2 : vwCl[ci]? = some (Cn, T, N)) (hz : (Nat.ble (d' + 1) d && (Nat.ble M'.2.2.1 81 && (Nat.ble (rest.map fun v => v.category).sum 8 && (Nat.ble cu mc && Nat.ble su ms)))) = true) (hC : Ci g d' M' [.ref r, a1, a2, a3, a4, a5] sh S L P) (k : ∀ x S' L', P x S' L' → Rx g d mc ms M n0 Q cu su (pc + 3) ls (.int x :: rest) sh S' L') : Rx g d mc ms M n0 Q cu su pc ls (a5 :: a4 :: a3 :: a2 :: a1 :: .ref r :: rest) sh S L := by
  simp only [Bool.and_eq_true, Nat.ble_eq] at hz
  exact rx_callU0 (As := [a1, a2, a3, a4, a5]) (rest := rest) (Qj := fun r S' L' => ∃ x, r = some (.int x) ∧ P x S' L') cl dd hv hv2 hz.1 hz.2.1 rfl rfl hz.2.2.1 hz.2.2.2 hC (fun r1 S' L' h => by obtain ⟨x, rfl, h⟩ := h; exact k x S' L' h)
end RX3
