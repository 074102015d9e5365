section RX3
theorem enumL_args : ∀ (av : List Value) (g : GG) (ρ : Nat → Nat) (i k : Nat), enumL i ((entL av ++ List.replicate k none).map (Option.map (vm g ρ))) = lv_args i (av.map (vm g ρ))
  | [], g, ρ, i, k => by
    have h : ∀ (k i : Nat), enumL i ((List.replicate k (none : Option Value)).map (Option.map (vm g ρ))) = [] := by
      intro k
      induction k with
      | zero => intro i; rfl
      | succ k ih => intro i; rw [List.replicate_succ, List.map_cons]; exact ih (i + 1)
    simpa [entL, lv_args] using h k i
  | v :: vs, g, ρ, i, k => by
    have hc := vm_cat g ρ v
    by_cases h2 : v.category = 2
    · rw [entL, if_pos h2, List.map_cons, lv_args, hc, if_pos h2]
      show (i, vm g ρ v) :: enumL (i + 1 + 1) ((entL vs ++ List.replicate k none).map (Option.map (vm g ρ))) = _
      rw [enumL_args vs g ρ (i + 1 + 1) k]
    · rw [entL, if_neg h2, List.map_cons, lv_args, hc, if_neg h2]
      show (i, vm g ρ v) :: enumL (i + 1) ((entL vs ++ List.replicate k none).map (Option.map (vm g ρ))) = _
      rw [enumL_args vs g ρ (i + 1) k]
theorem entL_len : ∀ (av : List Value) (g : GG) (ρ : Nat → Nat), (lg_sl (av.map (vm g ρ))).length = (entL av).length
  | [], g, ρ => rfl
  | v :: vs, g, ρ => by
    have ih := entL_len vs g ρ
    have hc := vm_cat g ρ v
    unfold lg_sl at ih ⊢
    rw [List.map_cons, List.flatMap_cons, List.length_append, ih, hc]
    by_cases h2 : v.category = 2
    · rw [entL, if_pos h2, if_pos h2]; simp; omega
    · rw [entL, if_neg h2, if_neg h2]; simp; omega
variable {g : GG} {d mc ms : Nat} {M : MI} {n0 : Nat} {Q : Option Value → List CS → SS → LL → Prop} {cu su pc : Nat} {ls ls' : List (Option Value)} {st rest : List Value} {sh : List CS} {S : SS} {L : LL}
theorem ct_of {av : List Value} (n : Nat) (hy : plainName M.1.cls = true) (hls : entL av ++ List.replicate n none = ls) (hlen : ls.length = M.2.2.1) (k : Rx g d mc ms M sh.length Q 0 0 0 ls [] sh S L) : Ct g d mc ms M av sh S L Q := by
  intro ρ sz
  refine Met.ofW (cc := M.2.1) (maxL := M.2.2.1) (ret := M.2.2.2) hy rfl ?_
  intro p e s m args below meth c s₁ B hml hv
  obtain ⟨rfl, hsz, hle, hP, hK, hD, hT⟩ := hv
  have hts := atoms_spec (ws := wsM M) B.pre
  have hlen2 : (lg_sl (av.map (vm g ρ))).length ≤ M.2.2.1 := by
    rw [entL_len, ← hlen, ← hls, List.length_append]; omega
  subst hsz
  rw [lg_entry_eq]
  have hl := lv_entry (av.map (vm g ρ)) (n := M.2.2.1) hlen2
  refine k p e s m _ below meth c ρ (va_A (wsOf g ρ sh S L) s.heap.size) ρ s.heap [] _ ⟨B.exec, B.bytes, B.returns, hml, findClass_of_methodNamed B.named, fun w hw => hts w (List.mem_cons_of_mem _ hw), B.notSynchronized, (name_of_methodNamed B.named B.method).1⟩ ⟨⟨Nat.le_refl _, hle, fun _ _ => rfl⟩, fun q h => Or.inr h, va_S.rf, hK, hP, hD.self, hT⟩ ⟨hlen, ?_⟩
  rw [← hls, enumL_args]
  exact hl
/-- a call's own facts: entry idx of own's constants, on an object of class C, runs M' -/
def CLv (own : String) (idx : Nat) (C : String) (M' : MI) (n : Nat) : Prop :=
  ∀ {p : Program} {l : Launch} {e : Env} {R : Room} {s : State} {m : MethodId} {args : Array Value} {below : List Frame} {meth : Method} {c : Code} {H : Heap} {locs : List Loc} {cells slots mc ms nL : Nat} {cc : ByteArray} {rm : Room} {Pc : Array Value → State → Prop} {Qc : Array Value → State → Outcome → State → Prop} {free : Addr → Prop} {b : Addr} {As rest : List Value} {f : JFrame},
    NWs s → CallFix p m c cc nL s args TB own → Met l M'.1 (wsM M') rm Pc Qc mc ms free → rm.cells = mc → rm.slots = ms → (rm.frames + 1 ≤ R.frames ∧ 8 + (M'.2.2.1 + 11) + rm.locals ≤ R.locals) → PreV s H C b Pc As → f.method = m → As.length = n → f.locals.size = nL → f.stack = As.reverse ++ .ref b :: rest →
    2 * f.monitorRoom + (rest.map fun v => v.category).sum ≤ 8 → decode cc f.pc = .ok (.invokevirtual idx, 3) → (cells + mc ≤ R.cells ∧ slots + ms ≤ R.slots) → va_Run p l e R s m args below meth c H locs cells slots mc ms f rest (Qc (Value.ref b :: As).toArray) free
def CLs (own : String) (idx : Nat) (M' : MI) (n : Nat) : Prop :=
  ∀ {p : Program} {l : Launch} {e : Env} {R : Room} {s : State} {m : MethodId} {args : Array Value} {below : List Frame} {meth : Method} {c : Code} {H : Heap} {locs : List Loc} {cells slots mc ms nL : Nat} {cc : ByteArray} {rm : Room} {Pc : Array Value → State → Prop} {Qc : Array Value → State → Outcome → State → Prop} {free : Addr → Prop} {As rest : List Value} {f : JFrame},
    CallFix p m c cc nL s args TB own → Met l M'.1 (wsM M') rm Pc Qc mc ms free → rm.cells = mc → rm.slots = ms → (rm.frames + 1 ≤ R.frames ∧ 8 + (M'.2.2.1 + 11) + rm.locals ≤ R.locals) → PreS s H Pc As → f.method = m → As.length = n → f.locals.size = nL → f.stack = As.reverse ++ rest →
    2 * f.monitorRoom + (rest.map fun v => v.category).sum ≤ 8 → decode cc f.pc = .ok (.invokestatic idx, 3) → (cells + mc ≤ R.cells ∧ slots + ms ≤ R.slots) → va_Run p l e R s m args below meth c H locs cells slots mc ms f rest (Qc As.toArray) free
/-- super.m(..) -/
def CLu (own : String) (idx : Nat) (M' : MI) (n : Nat) : Prop :=
  ∀ {p : Program} {l : Launch} {e : Env} {R : Room} {s : State} {m : MethodId} {args : Array Value} {below : List Frame} {meth : Method} {c : Code} {H : Heap} {locs : List Loc} {cells slots mc ms nL : Nat} {cc : ByteArray} {rm : Room} {Pc : Array Value → State → Prop} {Qc : Array Value → State → Outcome → State → Prop} {free : Addr → Prop} {C : String} {cC : ClassId} {b : Addr} {As rest : List Value} {f : JFrame},
    ClassAt s C cC → CallFix p m c cc nL s args TB own → Met l M'.1 (wsM M') rm Pc Qc mc ms free → rm.cells = mc → rm.slots = ms → (rm.frames + 1 ≤ R.frames ∧ 8 + (M'.2.2.1 + 11) + rm.locals ≤ R.locals) → PreV s H C b Pc As → f.method = m → As.length = n → f.locals.size = nL → f.stack = As.reverse ++ .ref b :: rest →
    2 * f.monitorRoom + (rest.map fun v => v.category).sum ≤ 8 → decode cc f.pc = .ok (.invokespecial idx, 3) → (cells + mc ≤ R.cells ∧ slots + ms ≤ R.slots) → va_Run p l e R s m args below meth c H locs cells slots mc ms f rest (Qc (Value.ref b :: As).toArray) free
/-- a constructor -/
def CLi (own : String) (idx : Nat) (M' : MI) (n : Nat) : Prop :=
  ∀ {p : Program} {l : Launch} {e : Env} {R : Room} {s : State} {m : MethodId} {args : Array Value} {below : List Frame} {meth : Method} {c : Code} {H : Heap} {locs : List Loc} {cells slots mc ms nL : Nat} {cc : ByteArray} {rm : Room} {Pc : Array Value → State → Prop} {Qc : Array Value → State → Outcome → State → Prop} {free : Addr → Prop} {b : Addr} {As rest : List Value} {f : JFrame},
    NWs s → CallFix p m c cc nL s args TB own → Met l M'.1 (wsM M') rm Pc Qc mc ms free → rm.cells = mc → rm.slots = ms → (rm.frames + 1 ≤ R.frames ∧ 8 + (M'.2.2.1 + 11) + rm.locals ≤ R.locals) → PreS s H Pc (.ref b :: As) → f.method = m → As.length = n → f.locals.size = nL → f.stack = As.reverse ++ .ref b :: rest →
    2 * f.monitorRoom + (rest.map fun v => v.category).sum ≤ 8 → decode cc f.pc = .ok (.invokespecial idx, 3) → (cells + mc ≤ R.cells ∧ slots + ms ≤ R.slots) → va_Run p l e R s m args below meth c H locs cells slots mc ms f rest (Qc (Value.ref b :: As).toArray) free
theorem TB_m {M' : MI} {w : Cond} {l : List Cond} (h : w ∈ l ++ wsM M') (hl : ∀ w ∈ l, w ∈ TB) (hc : Cond.code M'.1 M'.2.1 M'.2.2.1 M'.2.2.2 ∈ TB) : w ∈ TB := by
  rcases List.mem_append.mp h with h | h
  · exact hl w h
  · rcases List.mem_cons.mp h with rfl | h
    · exact hc
    · exact h
theorem clv_of {own C : String} {idx n : Nat} {M' : MI} (hC : M'.1.cls = C) (h1 : Cond.methodLink own idx M'.1 ∈ TB) (h2 : Cond.instanceMethod M'.1 ∈ TB) (h3 : Cond.selects C M'.1 M'.1 ∈ TB) (h4 : Cond.initialized C ∈ TB) (h5 : Cond.code M'.1 M'.2.1 M'.2.2.1 M'.2.2.2 ∈ TB)
    (hd : M'.1.cls ≠ "java/lang/invoke/MethodHandle" ∧ M'.1.cls ≠ "java/lang/invoke/VarHandle" ∧ (parseMethodDescriptor M'.1.desc).map (fun d => d.parameters.length) = some n) : CLv own idx C M' n := by
  intro p l e R s m args below meth c H locs cells slots mc ms nL cc rm Pc Qc free b As rest f _ F hM hrc hrs hR hp hg hn hsz hst hW hdg hf
  exact va_runV F hM (cwV n F.2.2.2.2 (TB_good fun w hw => TB_m (l := [.methodLink own idx M'.1, .instanceMethod M'.1, .selects C M'.1 M'.1, .initialized C]) hw (by simp only [List.forall_mem_cons]; exact ⟨h1, h2, h3, h4, fun _ h => absurd h List.not_mem_nil⟩) h5) rfl hrc hrs ⟨hC, hd⟩ hR) hp hg hn hsz hst hW hdg hf
theorem clvO_of {own C owner : String} {idx n : Nat} {y : MethodName} {M' : MI} {b0 : ByteArray} {m0 : Nat} {r0 : Option FieldType} (h1 : Cond.methodLink own idx y ∈ TB) (h2 : Cond.sameMethod y.cls owner y.name y.desc ∈ TB) (h2b : Cond.instanceMethod ⟨owner, y.name, y.desc⟩ ∈ TB) (h3 : Cond.selects C y M'.1 ∈ TB) (h3b : Cond.instanceMethod M'.1 ∈ TB) (h4 : Cond.initialized M'.1.cls ∈ TB) (h5 : Cond.code M'.1 M'.2.1 M'.2.2.1 M'.2.2.2 ∈ TB) (h0 : Cond.code ⟨owner, y.name, y.desc⟩ b0 m0 r0 ∈ TB)
    (hd : owner ≠ "java/lang/invoke/MethodHandle" ∧ owner ≠ "java/lang/invoke/VarHandle" ∧ (parseMethodDescriptor y.desc).map (fun d => d.parameters.length) = some n) : CLv own idx C M' n := by
  intro p l e R s m args below meth c H locs cells slots mc ms nL cc rm Pc Qc free b As rest f _ F hM hrc hrs hR hp hg hn hsz hst hW hdg hf
  exact va_runU F hM (va_cwO n F.2.2.2.2 (TB_good fun w hw => TB_m (l := [.methodLink own idx y, .sameMethod y.cls owner y.name y.desc, .instanceMethod ⟨owner, y.name, y.desc⟩, .selects C y M'.1, .instanceMethod M'.1, .initialized M'.1.cls]) hw (by simp only [List.forall_mem_cons]; exact ⟨h1, h2, h2b, h3, h3b, h4, fun _ h => absurd h List.not_mem_nil⟩) h5) rfl hrc hrs h0 hd hR) hp hg hn hsz hst hW hdg hf
theorem cls_of {own : String} {idx n : Nat} {M' : MI} (h1 : Cond.methodLink own idx M'.1 ∈ TB) (h2 : Cond.static M'.1 ∈ TB) (h4 : Cond.initialized M'.1.cls ∈ TB) (h5 : Cond.code M'.1 M'.2.1 M'.2.2.1 M'.2.2.2 ∈ TB)
    (hd : M'.1.cls ≠ "java/lang/invoke/MethodHandle" ∧ M'.1.cls ≠ "java/lang/invoke/VarHandle" ∧ (parseMethodDescriptor M'.1.desc).map (fun d => d.parameters.length) = some n) : CLs own idx M' n := by
  intro p l e R s m args below meth c H locs cells slots mc ms nL cc rm Pc Qc free As rest f F hM hrc hrs hR hp hg hn hsz hst hW hdg hf
  have hG : GoodIn TB (wsM M') := TB_good fun w hw => (List.mem_cons.mp hw).elim (fun e => e ▸ h5) id
  exact va_runS F hM ⟨callB_of n F.2.2.2.2 hG rfl hrc hrs (F.2.2.2.2 _ h4) (F.2.2.2.2 _ h1) hd hR, F.2.2.2.2 _ h2⟩ hp hg hn hsz hst hW hdg hf
theorem clu_of {own : String} {idx n : Nat} {M' : MI} (h1 : Cond.methodLink own idx M'.1 ∈ TB) (h2 : Cond.sameMethod M'.1.cls M'.1.cls M'.1.name M'.1.desc ∈ TB) (h3 : Cond.superclass own M'.1.cls ∈ TB) (h3b : Cond.instanceMethod M'.1 ∈ TB) (h4 : Cond.initialized M'.1.cls ∈ TB) (h5 : Cond.code M'.1 M'.2.1 M'.2.2.1 M'.2.2.2 ∈ TB)
    (hd : M'.1.name ≠ "<init>" ∧ (parseMethodDescriptor M'.1.desc).map (fun d => d.parameters.length) = some n) : CLu own idx M' n := by
  intro p l e R s m args below meth c H locs cells slots mc ms nL cc rm Pc Qc free C cC b As rest f hat F hM hrc hrs hR hp hg hn hsz hst hW hdg hf
  exact va_runSU hat F hM (va_cwSU n F.2.2.2.2 (TB_good fun w hw => TB_m (l := [.methodLink own idx M'.1, .sameMethod M'.1.cls M'.1.cls M'.1.name M'.1.desc, .superclass own M'.1.cls, .instanceMethod M'.1, .initialized M'.1.cls]) hw (by simp only [List.forall_mem_cons]; exact ⟨h1, h2, h3, h3b, h4, fun _ h => absurd h List.not_mem_nil⟩) h5) rfl hrc hrs hd hR) hp hg hn hsz hst hW hdg hf
theorem cli_of {own : String} {idx n : Nat} {M' : MI} (hr : M'.2.2.2 = none) (h1 : Cond.methodLink own idx M'.1 ∈ TB) (h3b : Cond.instanceMethod M'.1 ∈ TB) (h4 : Cond.initialized M'.1.cls ∈ TB) (h5 : Cond.code M'.1 M'.2.1 M'.2.2.1 M'.2.2.2 ∈ TB) (hy1 : M'.1.name = "<init>")
    (hd : M'.1.cls ≠ "java/lang/invoke/MethodHandle" ∧ M'.1.cls ≠ "java/lang/invoke/VarHandle" ∧ (parseMethodDescriptor M'.1.desc).map (fun d => d.parameters.length) = some n) : CLi own idx M' n := by
  intro p l e R s m args below meth c H locs cells slots mc ms nL cc rm Pc Qc free b As rest f _ F hM hrc hrs hR hp hg hn hsz hst hW hdg hf
  have hG : GoodIn TB (wsM M') := TB_good fun w hw => (List.mem_cons.mp hw).elim (fun e => e ▸ h5) id
  exact va_runI F hM (cwI n F.2.2.2.2 hG (by rw [wsM, hr]) hrc hrs (F.2.2.2.2 _ h4) (F.2.2.2.2 _ h1) (F.2.2.2.2 _ h3b) hy1 hd hR) hp hg hn hsz hst hW hdg hf
theorem cliN_of {own host : String} {idx n : Nat} {M' : MI} (hr : M'.2.2.2 = none) (h1 : (own, idx, M'.1, host) ∈ nestTab) (h3b : Cond.instanceMethod M'.1 ∈ TB) (h4 : Cond.initialized M'.1.cls ∈ TB) (h5 : Cond.code M'.1 M'.2.1 M'.2.2.1 M'.2.2.2 ∈ TB) (hy1 : M'.1.name = "<init>")
    (hd : M'.1.cls ≠ "java/lang/invoke/MethodHandle" ∧ M'.1.cls ≠ "java/lang/invoke/VarHandle" ∧ (parseMethodDescriptor M'.1.desc).map (fun d => d.parameters.length) = some n) : CLi own idx M' n := by
  intro p l e R s m args below meth c H locs cells slots mc ms nL cc rm Pc Qc free b As rest f hN F hM hrc hrs hR hp hg hn hsz hst hW hdg hf
  have hG : GoodIn TB (wsM M') := TB_good fun w hw => (List.mem_cons.mp hw).elim (fun e => e ▸ h5) id
  exact va_runIN F hM ⟨va_cnB n F.2.2.2.2 hG (by rw [wsM, hr]) hrc hrs (hN.1 _ h1) (F.2.2.2.2 _ h4) hd hR, hy1, F.2.2.2.2 _ h3b⟩ hp hg hn hsz hst hW hdg hf
/-- what a callee starts with -/
theorem ct_pre {av : List Value} {n0 : Nat} {ρ0 ρ : Nat → Nat} {A : Nat → Prop} {H : Heap} {locs : List Loc} {s : State} (X : Wd g n0 ρ0 ρ sh S L A H locs s) :
    FrameBlind (va_Pc (av.map (vm g ρ)) (fun U => U.heap.size = H.size ∧ sh.length ≤ 100000 ∧ va_P g.2.1 vwCl (wsOf g ρ sh S L) U.heap ∧ va_K g.2.1 vwCl (tysOf g) U ∧ va_D (fun _ => True) (wsOf g ρ sh S L) ∧ Stat g (va_A (wsOf g ρ sh S L) H.size) U U.heap)) ∧
    ∀ U : State, U.heap = H → s.WarmedH U.vm → va_Pc (av.map (vm g ρ)) (fun U => U.heap.size = H.size ∧ sh.length ≤ 100000 ∧ va_P g.2.1 vwCl (wsOf g ρ sh S L) U.heap ∧ va_K g.2.1 vwCl (tysOf g) U ∧ va_D (fun _ => True) (wsOf g ρ sh S L) ∧ Stat g (va_A (wsOf g ρ sh S L) H.size) U U.heap) (av.map (vm g ρ)).toArray U := by
  obtain ⟨⟨h1, h2, h3⟩, hA, hS, hK, hP, hD, hT⟩ := X
  refine ⟨fun a U gf mk q => ?_, fun U hU hW => ⟨rfl, by rw [hU], h2, by rw [hU]; exact hP, va_K.moved hW.alike hK, hD.weaken (fun _ _ _ _ => trivial), ?_⟩⟩
  · obtain ⟨q0, q1, q2, qP, qK, qD, qT⟩ := q
    exact ⟨q0, q1, q2, qP, va_K.moved (u := U) (U := U.calling gf mk a) (Vm.Alike.refl U.vm) qK, qD, Stat.same (u := U) (U := U.calling gf mk a) rfl qT⟩
  · rw [hU]
    refine Stat.warm hW (Stat.narrow (hT.kept hS.2.1) fun q hq => ?_)
    rcases hq with ⟨k, e, hk⟩ | hq
    · exact hD.2 k _ hk
    · exact hA q (Nat.le_trans hS.1 hq)
/-- behind a call -/
theorem ct_post {p : Program} {e : Env} {s : State} {m : MethodId} {args : Array Value} {below : List Frame} {meth : Method} {c : Code} {ρ0 : Nat → Nat} {A : Nat → Prop} {ρ : Nat → Nat} {H : Heap} {locs : List Loc} {als : Array Slot} {a : Array Value} {stk : List Value} {free : Addr → Prop} {W' : State → Prop} {Qj : Option Value → List CS → SS → LL → Prop} {mc' ms' : Nat}
    (X : Wd g n0 ρ0 ρ sh S L A H locs s) (hfree : ∀ q, free q → va_A (wsOf g ρ sh S L) H.size q)
    (hr : va_Run p g.1 e (rmD d mc ms) s m args below meth c H locs cu su mc' ms' (F0 m pc als stk) (rest.map (vm g ρ)) (Qx g ρ sh.length (va_A (wsOf g ρ sh S L) H.size) Qj a) free)
    (kk : ∀ (r : Option Value) (sh' : List CS) (S' : SS) (L' : LL) (ρ' : Nat → Nat) (H' : Heap) (locs' : List Loc), Qj r sh' S' L' → (sh.length ≤ sh'.length ∧ ∀ k, k < sh.length ∨ sh'.length ≤ k → ρ' k = ρ k) → Wd g n0 ρ0 ρ' sh' S' L' A H' locs' s → W p g.1 e (rmD d mc ms) s m args below meth c H' locs' (cu + mc') (su + ms') W' (F0 m (pc + 3) als ((r.map (vm g ρ')).toList ++ rest.map (vm g ρ)))) :
    W p g.1 e (rmD d mc ms) s m args below meth c H locs cu su W' (F0 m pc als stk) := by
  have hA1 : ∀ q, va_A (wsOf g ρ sh S L) H.size q → A q := fun q hq => by
    rcases hq with ⟨k, e, hk⟩ | hq
    · exact X.2.2.2.2.2.1.2 k _ hk
    · exact X.2.1 q (Nat.le_trans X.2.2.1.1 hq)
  intro T hT XS
  obtain ⟨v, st₀, t, T', L1, h0, X', hL, e1, e2, ⟨⟨r, sh', S', L', ρ', ho, ⟨n1, n2, n3⟩, hq, hP', hD'⟩, hz, hk⟩, stp⟩ := hr T hT XS
  cases ho
  rw [h0] at hz hk
  have hS := X.2.2.1
  have W1 := kk r sh' S' L' ρ' T'.heap (locs ++ L1) hq ⟨n1, n3⟩ ⟨⟨Nat.le_trans X.1.1 n1, n2, fun k hk' => by
      rcases hk' with hk' | hk'
      · rw [n3 k (Or.inl (Nat.lt_of_lt_of_le hk' X.1.1)), X.1.2.2 k (Or.inl hk')]
      · rw [n3 k (Or.inr hk'), X.1.2.2 k (Or.inr (Nat.le_trans n1 hk'))]⟩, X.2.1,
    ⟨Nat.le_trans hS.1 (by rw [e1]; exact hz), fun q h1 h2 => by rw [e1, hk q (Nat.lt_of_lt_of_le h1 hS.1) (fun z => h2 (hA1 q z))]; exact hS.2.1 q h1 h2, fun q hq => by
      rcases List.mem_append.mp hq with h | h
      · exact hS.2.2 q h
      · exact hA1 _ (hfree _ (hL q h))⟩, X.2.2.2.1, by rw [e1]; exact hP', hD'.weaken (fun _ q _ h => hA1 q.1 h), X.2.2.2.2.2.2⟩
  obtain ⟨t2, a1, b1⟩ := W1 T' rfl X'
  exact ⟨t2, stp t2 a1, b1⟩
theorem vm_sum {g : GG} {ρ : Nat → Nat} {l : List Value} : ((l.map (vm g ρ)).map fun v => v.category).sum = (l.map fun v => v.category).sum := by rw [List.map_map]; exact congrArg List.sum (List.map_congr_left fun v _ => vm_cat g ρ v)
/-- an object that a call may go to -/
def Rcv (sh : List CS) (r : Nat) (C : String) : Prop := (∃ (ci : Nat) (fs : List (Nat × Nat × Nat)) (T : u_T) (N : Nat), sh[r]? = some (0, ci, fs) ∧ vwCl[ci]? = some (C, T, N)) ∨ (100000 ≤ r ∧ r < 100007 ∧ C = "java/lang/String")
theorem rcvo {sh : List CS} {r ci N : Nat} {fs : List (Nat × Nat × Nat)} {C : String} {T : u_T} (h : sh[r]? = some (0, ci, fs)) (hc : vwCl[ci]? = some (C, T, N)) : Rcv sh r C := Or.inl ⟨ci, fs, T, N, h, hc⟩
theorem Rcv.cell {n0 : Nat} {ρ0 ρ : Nat → Nat} {A : Nat → Prop} {H : Heap} {locs : List Loc} {s : State} {r : Nat} {C : String} (h : Rcv sh r C) (X : Wd g n0 ρ0 ρ sh S L A H locs s) : ∃ cellB : Cell, H[ad g ρ r]? = some cellB ∧ cellB.vm.isStatics = false ∧ s.vm.findClass C = some cellB.cls := by
  rcases h with ⟨ci, fs, T, N, h1, h2⟩ | ⟨h1, h2, rfl⟩
  · exact va_recv X.2.2.2.1 X.2.2.2.2.1 h2 (X.get h1)
  · have e : ad g ρ r = g.2.2.2 (100000 + (r - 100000)) := by
      rw [show ad g ρ r = g.2.2.2 r from if_neg (by omega)]
      exact congrArg g.2.2.2 (by omega)
    rw [e]
    have hE := X.2.2.2.2.2.2.2.1
    generalize hi : r - 100000 = i
    have hi7 : i < 7 := by omega
    obtain ⟨cell, g1, g2, g3⟩ := vk_recv (i := i) hE hi7 X.2.2.1
    exact ⟨cell, g1, g2, g3⟩
theorem rx_callV0 {idx n r d' nn : Nat} {Cn : String} {M' : MI} {As : List Value} {Qj : Option Value → SS → LL → Prop} (cl : CLv M.1.cls idx Cn M' n) (dd : decode M.2.1 pc = .ok (.invokevirtual idx, 3)) (hv : Rcv sh r Cn) (hd : d' + 1 ≤ d) (hl : M'.2.2.1 ≤ 81) (hn : As.length = n) (hst : st = As.reverse ++ .ref r :: rest) (hr : (rest.map fun v => v.category).sum ≤ 8) (hcu : cu ≤ mc ∧ su ≤ ms)
    (hC : Ct g d' 0 0 M' (.ref r :: As) sh S L (fun r sh' S' L' => sh' = sh ∧ Qj r S' L')) (k : ∀ r S' L', Qj r S' L' → Rx g d mc ms M n0 Q cu su (pc + 3) ls (r.toList ++ rest) sh S' L') : Rx g d mc ms M n0 Q cu su pc ls st sh S L := fun p e s m args below meth c ρ0 A ρ H locs als C X Y => by
  subst hst
  have hpre := ct_pre (av := .ref r :: As) X
  refine ct_post (Qj := fun r sh' S' L' => sh' = sh ∧ Qj r S' L') (mc' := 0) (ms' := 0) (rest := rest) X (fun q hq => hq) (cl (As := As.map (vm g ρ)) (rest := rest.map (vm g ρ)) (b := ad g ρ r) X.2.2.2.2.2.2.2.2.2.2.2.2 ⟨C.1, C.2.1, C.2.2.2.1, C.2.2.2.2.1, C.2.2.2.2.2.1⟩ (hC ρ H.size) rfl rfl ⟨hd, by show 8 + (M'.2.2.1 + 11) + 100 * d' ≤ 100 * d; omega⟩ ⟨hpre.1, hv.cell X, hpre.2⟩ rfl (by rw [List.length_map]; exact hn) Y.2.1 (by show List.map (vm g ρ) _ = _; rw [List.map_append, List.map_reverse]; rfl) (by rw [vm_sum]; show 2 * 0 + _ ≤ 8; omega) dd hcu) (fun r1 sh' S' L' ρ' H' locs' hq hρ X' => ?_)
  obtain ⟨rfl, hq⟩ := hq
  have e : ρ' = ρ := funext fun k => hρ.2 k (by omega)
  subst e
  have h := k r1 S' L' hq p e s m args below meth c ρ0 A ρ' H' locs' als C X' Y
  have e2 : (r1.toList ++ rest).map (vm g ρ') = (r1.map (vm g ρ')).toList ++ rest.map (vm g ρ') := by cases r1 <;> rfl
  rw [e2] at h
  exact h
theorem rx_callS0 {idx n d' : Nat} {M' : MI} {As : List Value} {Qj : Option Value → SS → LL → Prop} (cl : CLs M.1.cls idx M' n) (dd : decode M.2.1 pc = .ok (.invokestatic idx, 3)) (hd : d' + 1 ≤ d) (hl : M'.2.2.1 ≤ 81) (hn : As.length = n) (hst : st = As.reverse ++ rest) (hr : (rest.map fun v => v.category).sum ≤ 8) (hcu : cu ≤ mc ∧ su ≤ ms)
    (hC : Ct g d' 0 0 M' As sh S L (fun r sh' S' L' => sh' = sh ∧ Qj r S' L')) (k : ∀ r S' L', Qj r S' L' → Rx g d mc ms M n0 Q cu su (pc + 3) ls (r.toList ++ rest) sh S' L') : Rx g d mc ms M n0 Q cu su pc ls st sh S L := fun p e s m args below meth c ρ0 A ρ H locs als C X Y => by
  subst hst
  have hpre := ct_pre (av := As) X
  refine ct_post (Qj := fun r sh' S' L' => sh' = sh ∧ Qj r S' L') (mc' := 0) (ms' := 0) (rest := rest) X (fun q hq => hq) (cl (As := As.map (vm g ρ)) (rest := rest.map (vm g ρ)) ⟨C.1, C.2.1, C.2.2.2.1, C.2.2.2.2.1, C.2.2.2.2.2.1⟩ (hC ρ H.size) rfl rfl ⟨hd, by show 8 + (M'.2.2.1 + 11) + 100 * d' ≤ 100 * d; omega⟩ ⟨hpre.1, hpre.2⟩ rfl (by rw [List.length_map]; exact hn) Y.2.1 (by show List.map (vm g ρ) _ = _; rw [List.map_append, List.map_reverse]) (by rw [vm_sum]; show 2 * 0 + _ ≤ 8; omega) dd hcu) (fun r1 sh' S' L' ρ' H' locs' hq hρ X' => ?_)
  obtain ⟨rfl, hq⟩ := hq
  have e : ρ' = ρ := funext fun k => hρ.2 k (by omega)
  subst e
  have h := k r1 S' L' hq p e s m args below meth c ρ0 A ρ' H' locs' als C X' Y
  have e2 : (r1.toList ++ rest).map (vm g ρ') = (r1.map (vm g ρ')).toList ++ rest.map (vm g ρ') := by cases r1 <;> rfl
  rw [e2] at h
  exact h
theorem rx_callU0 {idx n r d' ci N : Nat} {Cn : String} {T : u_T} {fs : List (Nat × Nat × Nat)} {M' : MI} {As : List Value} {Qj : Option Value → SS → LL → Prop} (cl : CLu M.1.cls idx M' n) (dd : decode M.2.1 pc = .ok (.invokespecial idx, 3)) (hv : sh[r]? = some (0, ci, fs)) (hv2 : vwCl[ci]? = some (Cn, T, N)) (hd : d' + 1 ≤ d) (hl : M'.2.2.1 ≤ 81) (hn : As.length = n) (hst : st = As.reverse ++ .ref r :: rest) (hr : (rest.map fun v => v.category).sum ≤ 8) (hcu : cu ≤ mc ∧ su ≤ ms)
    (hC : Ct g d' 0 0 M' (.ref r :: As) sh S L (fun r sh' S' L' => sh' = sh ∧ Qj r S' L')) (k : ∀ r S' L', Qj r S' L' → Rx g d mc ms M n0 Q cu su (pc + 3) ls (r.toList ++ rest) sh S' L') : Rx g d mc ms M n0 Q cu su pc ls st sh S L := fun p e s m args below meth c ρ0 A ρ H locs als C X Y => by
  subst hst
  have hpre := ct_pre (av := .ref r :: As) X
  refine ct_post (Qj := fun r sh' S' L' => sh' = sh ∧ Qj r S' L') (mc' := 0) (ms' := 0) (rest := rest) X (fun q hq => hq) (cl (As := As.map (vm g ρ)) (rest := rest.map (vm g ρ)) (b := ad g ρ r) (X.2.2.2.1.1 ci _ hv2).2 ⟨C.1, C.2.1, C.2.2.2.1, C.2.2.2.2.1, C.2.2.2.2.2.1⟩ (hC ρ H.size) rfl rfl ⟨hd, by show 8 + (M'.2.2.1 + 11) + 100 * d' ≤ 100 * d; omega⟩ ⟨hpre.1, (rcvo hv hv2).cell X, hpre.2⟩ rfl (by rw [List.length_map]; exact hn) Y.2.1 (by show List.map (vm g ρ) _ = _; rw [List.map_append, List.map_reverse]; rfl) (by rw [vm_sum]; show 2 * 0 + _ ≤ 8; omega) dd hcu) (fun r1 sh' S' L' ρ' H' locs' hq hρ X' => ?_)
  obtain ⟨rfl, hq⟩ := hq
  have e : ρ' = ρ := funext fun k => hρ.2 k (by omega)
  subst e
  have h := k r1 S' L' hq p e s m args below meth c ρ0 A ρ' H' locs' als C X' Y
  have e2 : (r1.toList ++ rest).map (vm g ρ') = (r1.map (vm g ρ')).toList ++ rest.map (vm g ρ') := by cases r1 <;> rfl
  rw [e2] at h
  exact h
end RX3
