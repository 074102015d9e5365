-- THE LAW: its rules
def R_law : String := "WhileSheLooksLaw"
def lw_P (b : Addr) (xs : List Int32) (args : Array Value) (s : State) : Prop := args = #[.ref b] ∧ s.IntsAt b xs ∧ xs.length ≤ 3072 ∧ (Jvm.Cond.and given_1 narrow_1).before args s = true
def lw_Q (_ : Array Value) (s : State) (o : Outcome) (t : State) : Prop := o = .returned (some (.int 1)) ∧ Framed s o t [] 600000 7302250
def lw_Z (below : List Frame) (a : Array Value) (s : State) : State → Prop := fun t => ∃ o, t.status = .running ∧ Ended t below o ∧ lw_Q a s o t
/-- the law's own end, with 1 on the stack, nothing written that was there before, its room as the claim has it -/
theorem lw_ret {p : Program} {l : Launch} {e : Env} {s : State} {m : MethodId} {below : List Frame} {meth : Method} {c : Code} {b : Nat} (hx : p.tables.exec = Jvm.exec) (hb : c.code = code) (hr : meth.sig.returnType = ret) (hlocks : meth.locks = false) {pc : Nat} {H : Heap} {ls : Array Slot} (hdg : decode code pc = .ok (.ireturn, 1)) : W p l e room_1 s m #[Value.ref b] below meth c H [] 600000 7302250 (lw_Z below #[Value.ref b] s) (F0 m pc ls [.int 1]) := by
  intro T hT X
  obtain ⟨fs, hret, hrun, hended, hW, hframe⟩ := X.leave (v := some (.int 1)) (hlocks := hlocks) (fun h => by rw [hr] at h; cases h)
  have hmeth' : T.vm.method? m = some meth := X.method'
  refine ⟨T.setFrames fs, ?_, .returned (some (.int 1)), hrun, hended, rfl, ⟨_, rfl⟩, hW, hframe⟩
  jvm_step X.here [X.here.top, hx, hb, hdg, hmeth', hr, ret, narrow_b1]
  (try refine ⟨rfl, ?_⟩); (try refine ⟨rfl, ?_⟩)
  first | (intro acts; rw [hret _ acts rfl rfl rfl]) | rw [hret _ _ rfl rfl rfl]
  exact Steps.refl _
/-- what holds at the law's entry: the machine, the code, the tables' words (any of lw_tbl by 'hts w (by decide +kernel)'), the script of L ints xs at the cell b, what the Statement gives of the start (any of its parts by flat_of_before) -/
def lw_At (p : Program) (s : State) (m : MethodId) (meth : Method) (c : Code) (b L : Nat) (xs : Nat → Int32) : Prop :=
  p.tables.exec = Jvm.exec ∧ c.code = code ∧ meth.sig.returnType = ret ∧ c.maxLocals = 4 ∧ s.vm.findClass R_law = some m.cls ∧ (∀ w ∈ lw_tbl, w.before #[Value.ref b] s = true) ∧ va_X b L xs s s.heap ∧ b < s.heap.size ∧ meth.locks = false ∧ (Jvm.Cond.and given_1 narrow_1).before #[Value.ref b] s = true
theorem wsOf_addr {g : GG} {ρ : Nat → Nat} {sh : List CS} {S : SS} {L : LL} {k : Nat} {q : Nat × va_E} (h : (wsOf g ρ sh S L)[k]? = some q) : k < sh.length ∧ q.1 = ρ k := by
  have hl := (List.getElem?_eq_some_iff.mp h).1
  rw [wsOf_len] at hl
  refine ⟨hl, ?_⟩
  rw [wsOf_get (List.getElem?_eq_getElem hl)] at h
  cases h
  rfl
theorem Wd.kept {g : GG} {n0 : Nat} {ρ0 ρ : Nat → Nat} {sh : List CS} {S : SS} {L : LL} {A : Nat → Prop} {H H' : Heap} {locs locs' : List Loc} {s : State} (Y : Wd g n0 ρ0 ρ sh S L A H locs s) (hS : va_S A s.heap H' locs') (hk : ∀ k, k < sh.length → H'[ρ k]? = H[ρ k]?) : Wd g n0 ρ0 ρ sh S L A H' locs' s :=
  ⟨Y.1, Y.2.1, hS, Y.2.2.2.1, Y.2.2.2.2.1.kept (fun k q hq => by obtain ⟨h1, h2⟩ := wsOf_addr hq; rw [h2]; exact hk k h1), Y.2.2.2.2.2.1, Y.2.2.2.2.2.2⟩
theorem Wd.self {g : GG} {n0 : Nat} {ρ0 ρ : Nat → Nat} {sh : List CS} {S : SS} {L : LL} {A : Nat → Prop} {H : Heap} {locs : List Loc} {s : State} (Y : Wd g n0 ρ0 ρ sh S L A H locs s) : Wd g sh.length ρ ρ sh S L A H locs s := ⟨⟨Nat.le_refl _, Y.1.2.1, fun _ _ => rfl⟩, Y.2⟩
theorem Wd.addr_lt {g : GG} {n0 : Nat} {ρ0 ρ : Nat → Nat} {sh : List CS} {S : SS} {L : LL} {A : Nat → Prop} {H : Heap} {locs : List Loc} {s : State} (Y : Wd g n0 ρ0 ρ sh S L A H locs s) {k : Nat} (hk : k < sh.length) : ρ k < H.size :=
  (Y.2.2.2.2.1 k _ (wsOf_get (List.getElem?_eq_getElem hk))).lt
/-- behind a call: what it left, and that it left all else as it was -/
theorem ct_post2 {g : GG} {sh : List CS} {S : SS} {L : LL} {p : Program} {e : Env} {R : Room} {s : State} {m : MethodId} {args : Array Value} {below : List Frame} {meth : Method} {c : Code} {n0 cu su pc : Nat} {ρ0 : Nat → Nat} {A : Nat → Prop} {ρ : Nat → Nat} {H : Heap} {locs : List Loc} {als : Array Slot} {a : Array Value} {stk restR : List Value} {free : Addr → Prop} {W' : State → Prop} {Qj : Option Value → List CS → SS → LL → Prop} {mc' ms' : Nat}
    (X : Wd g n0 ρ0 ρ sh S L A H locs s) (hfree : ∀ q, free q → va_A (wsOf g ρ sh S L) H.size q)
    (hr : va_Run p g.1 e R s m args below meth c H locs cu su mc' ms' (F0 m pc als stk) restR (Qx g ρ sh.length (va_A (wsOf g ρ sh S L) H.size) Qj a) free)
    (kk : ∀ (r : Option Value) (sh' : List CS) (S' : SS) (L' : LL) (ρ' : Nat → Nat) (H' : Heap) (locs' : List Loc), Qj r sh' S' L' → (sh.length ≤ sh'.length ∧ ∀ k, k < sh.length ∨ sh'.length ≤ k → ρ' k = ρ k) → (H.size ≤ H'.size ∧ ∀ q : Nat, q < H.size → ¬ va_A (wsOf g ρ sh S L) H.size q → H'[q]? = H[q]?) → va_D (va_A (wsOf g ρ sh S L) H.size) (wsOf g ρ' sh' S' L') → Wd g n0 ρ0 ρ' sh' S' L' A H' locs' s → W p g.1 e R s m args below meth c H' locs' (cu + mc') (su + ms') W' (F0 m (pc + 3) als ((r.map (vm g ρ')).toList ++ restR))) :
    W p g.1 e R s m args below meth c H locs cu su W' (F0 m pc als stk) := by
  have hA1 : ∀ q, va_A (wsOf g ρ sh S L) H.size q → A q := fun q hq => by
    rcases hq with ⟨k, e, hk⟩ | hq
    · exact X.2.2.2.2.2.1.2 k _ hk
    · exact X.2.1 q (Nat.le_trans X.2.2.1.1 hq)
  intro T hT XS
  obtain ⟨v, st₀, t, T', L1, h0, X', hL, e1, e2, ⟨⟨r, sh', S', L', ρ', ho, ⟨n1, n2, n3⟩, hq, hP', hD'⟩, hz, hk⟩, stp⟩ := hr T hT XS
  cases ho
  rw [h0] at hz hk
  have hS := X.2.2.1
  have W1 := kk r sh' S' L' ρ' T'.heap (locs ++ L1) hq ⟨n1, n3⟩ ⟨by rw [e1]; exact hz, fun q h1 h2 => by rw [e1]; exact hk q h1 h2⟩ hD' ⟨⟨Nat.le_trans X.1.1 n1, n2, fun k hk' => by
      rcases hk' with hk' | hk'
      · rw [n3 k (Or.inl (Nat.lt_of_lt_of_le hk' X.1.1)), X.1.2.2 k (Or.inl hk')]
      · rw [n3 k (Or.inr hk'), X.1.2.2 k (Or.inr (Nat.le_trans n1 hk'))]⟩, X.2.1,
    ⟨Nat.le_trans hS.1 (by rw [e1]; exact hz), fun q h1 h2 => by rw [e1, hk q (Nat.lt_of_lt_of_le h1 hS.1) (fun z => h2 (hA1 q z))]; exact hS.2.1 q h1 h2, fun q hq => by
      rcases List.mem_append.mp hq with h | h
      · exact hS.2.2 q h
      · exact hA1 _ (hfree _ (hL q h))⟩, X.2.2.2.1, by rw [e1]; exact hP', hD'.weaken (fun _ q _ h => hA1 q.1 h), X.2.2.2.2.2.2⟩
  obtain ⟨t2, a1, b1⟩ := W1 T' rfl X'
  exact ⟨t2, stp t2 a1, b1⟩
/-- a call into one of two worlds that lie apart -/
theorem lw_call {g : GG} {R : Room} {shX shY : List CS} {ρX ρY : Nat → Nat} {SX SY : SS} {LX LY : LL} {p : Program} {e : Env} {s : State} {m : MethodId} {args : Array Value} {below : List Frame} {meth : Method} {c : Code} {A : Nat → Prop} {H : Heap} {locs : List Loc} {als : Array Slot} {W' : State → Prop} {own Cn : String} {cc : ByteArray} {nL idx n d' cells slots pc : Nat} {M' : MI} {As rest : List Value} {Qj : Option Value → SS → LL → Prop}
    (hF : CallFix p m c cc nL s args TB own) (cl : CLv own idx Cn M' n) (dd : decode cc pc = .ok (.invokevirtual idx, 3)) (hv : Rcv shX 0 Cn) (hR : d' + 1 ≤ R.frames ∧ 8 + (M'.2.2.1 + 11) + 100 * d' ≤ R.locals) (hn : As.length = n) (hAs : As.map (vm g ρX) = As) (hals : als.size = nL) (hr : (rest.map fun v => v.category).sum ≤ 8) (hcu : cells ≤ R.cells ∧ slots ≤ R.slots)
    (hC : Ct g d' 0 0 M' (.ref 0 :: As) shX SX LX (fun r sh' S' L' => sh' = shX ∧ Qj r S' L')) (X : Wd g shX.length ρX ρX shX SX LX A H locs s) (Y : Wd g shY.length ρY ρY shY SY LY A H locs s) (hap : ∀ i j, i < shX.length → j < shY.length → ρX i ≠ ρY j)
    (kk : ∀ (r : Option Value) (SX' : SS) (LX' : LL) (H' : Heap) (locs' : List Loc), Qj r SX' LX' → Wd g shX.length ρX ρX shX SX' LX' A H' locs' s → Wd g shY.length ρY ρY shY SY LY A H' locs' s → W p g.1 e R s m args below meth c H' locs' cells slots W' (F0 m (pc + 3) als ((r.map (vm g ρX)).toList ++ rest))) :
    W p g.1 e R s m args below meth c H locs cells slots W' (F0 m pc als (As.reverse ++ .ref (ρX 0) :: rest)) := by
  have hpre := ct_pre (av := .ref 0 :: As) X
  refine ct_post2 (Qj := fun r sh' S' L' => sh' = shX ∧ Qj r S' L') (mc' := 0) (ms' := 0) X (fun q hq => hq) (cl (As := As.map (vm g ρX)) (rest := rest) (b := ad g ρX 0) X.2.2.2.2.2.2.2.2.2.2.2.2 hF (hC ρX H.size) rfl rfl hR ⟨hpre.1, hv.cell X, hpre.2⟩ rfl (by rw [List.length_map]; exact hn) hals (by show As.reverse ++ .ref (ρX 0) :: rest = _; rw [hAs]; rfl) (by show 2 * 0 + _ ≤ 8; omega) dd hcu) (fun r1 sh' S' L' ρ' H' locs' hq hρ hk hD' X' => ?_)
  obtain ⟨rfl, hq⟩ := hq
  have e : ρ' = ρX := funext fun k => hρ.2 k (by omega)
  subst e
  refine kk r1 S' L' H' locs' hq X' (Y.kept X'.2.2.1 (fun k hk1 => hk.2 _ (Y.addr_lt hk1) ?_))
  rintro (⟨k2, e2, h2⟩ | h2)
  · obtain ⟨h3, h4⟩ := wsOf_addr h2
    exact hap k2 k h3 hk1 h4.symm
  · have := Y.addr_lt hk1
    omega
/-- a constructor called, in a world of its own -/
theorem lw_init {g : GG} {R : Room} {sh sh2 : List CS} {ρ ρ0 : Nat → Nat} {S S2 : SS} {L L2 : LL} {n0 : Nat} {p : Program} {e : Env} {s : State} {m : MethodId} {args : Array Value} {below : List Frame} {meth : Method} {c : Code} {A : Nat → Prop} {H : Heap} {locs : List Loc} {als : Array Slot} {W' : State → Prop} {own : String} {cc : ByteArray} {nL idx d' mc' ms' cells slots pc : Nat} {M' : MI} {rest : List Value}
    (hF : CallFix p m c cc nL s args TB own) (cl : CLi own idx M' 0) (dd : decode cc pc = .ok (.invokespecial idx, 3)) (hR : d' + 1 ≤ R.frames ∧ 8 + (M'.2.2.1 + 11) + 100 * d' ≤ R.locals) (hals : als.size = nL) (hr : (rest.map fun v => v.category).sum ≤ 8) (hcu : cells + mc' ≤ R.cells ∧ slots + ms' ≤ R.slots)
    (hC : Ct g d' mc' ms' M' [.ref 0] sh S L (fun o sh' S' L' => o = none ∧ sh' = sh2 ∧ S' = S2 ∧ L' = L2)) (X : Wd g n0 ρ0 ρ sh S L A H locs s)
    (kk : ∀ (ρ' : Nat → Nat) (H' : Heap) (locs' : List Loc), (∀ k, k < sh.length → ρ' k = ρ k) → (H.size ≤ H'.size ∧ ∀ q : Nat, q < H.size → ¬ va_A (wsOf g ρ sh S L) H.size q → H'[q]? = H[q]?) → va_D (va_A (wsOf g ρ sh S L) H.size) (wsOf g ρ' sh2 S2 L2) → Wd g n0 ρ0 ρ' sh2 S2 L2 A H' locs' s → W p g.1 e R s m args below meth c H' locs' (cells + mc') (slots + ms') W' (F0 m (pc + 3) als rest)) :
    W p g.1 e R s m args below meth c H locs cells slots W' (F0 m pc als (.ref (ρ 0) :: rest)) := by
  have hpre := ct_pre (av := [.ref 0]) X
  refine ct_post2 (Qj := fun o sh' S' L' => o = none ∧ sh' = sh2 ∧ S' = S2 ∧ L' = L2) (mc' := mc') (ms' := ms') (restR := rest) X (fun q hq => hq) (cl (As := []) (rest := rest) (b := ad g ρ 0) X.2.2.2.2.2.2.2.2.2.2.2.2 hF (hC ρ H.size) rfl rfl hR ⟨hpre.1, hpre.2⟩ rfl rfl hals rfl (by show 2 * 0 + _ ≤ 8; omega) dd hcu) (fun r1 sh' S' L' ρ' H' locs' hq hρ hk hD' X' => ?_)
  obtain ⟨rfl, rfl, rfl, rfl⟩ := hq
  exact kk ρ' H' locs' (fun k h => hρ.2 k (Or.inl h)) hk hD' X'
-- the law's two worlds
def LWd (g : GG) (s : State) (ρ1 ρ2 : Nat → Nat) (S1 : SS) (L1 : LL) (S2 : SS) (L2 : LL) (H : Heap) (locs : List Loc) : Prop := Wd g SHC.length ρ1 ρ1 SHC S1 L1 (fun q : Nat => s.heap.size ≤ q) H locs s ∧ Wd g SHM.length ρ2 ρ2 SHM S2 L2 (fun q : Nat => s.heap.size ≤ q) H locs s ∧ ∀ i j, i < SHC.length → j < SHM.length → ρ1 i ≠ ρ2 j
section LAW
variable {g : GG} {p : Program} {e : Env} {s : State} {m : MethodId} {below : List Frame} {meth : Method} {c : Code} {b L : Nat} {xs : Nat → Int32} {ρ1 ρ2 : Nat → Nat} {S1 S2 : SS} {L1 L2 : LL} {H : Heap} {locs : List Loc} {als : Array Slot} {cells slots pc : Nat}
theorem lw_F (C0 : lw_At p s m meth c b L xs) : CallFix p m c code 4 s #[Value.ref b] TB RL := ⟨C0.1, C0.2.1, C0.2.2.2.1, C0.2.2.2.2.1, TB_tbl C0.2.2.2.2.2.1⟩
theorem lw_cCi (C0 : lw_At p s m meth c b L xs) {idx n d' : Nat} {M' : MI} {As rest : List Value} {P : Int32 → SS → LL → Prop} (cl : CLv RL idx RX11 M' n) (dd : decode code pc = .ok (.invokevirtual idx, 3)) (hz : (Nat.ble d' 100 && (Nat.ble M'.2.2.1 81 && Nat.ble (rest.map fun v => v.category).sum 8)) = true) (hn : As.length = n) (hAs : ∀ ρ, As.map (vm g ρ) = As) (hals : als.size = 4) (hcu : cells ≤ 600000 ∧ slots ≤ 7302250)
    (hC : Ci g d' M' (.ref 0 :: As) SHC S1 L1 P) (X : LWd g s ρ1 ρ2 S1 L1 S2 L2 H locs)
    (kk : ∀ (x : Int32) (S1' : SS) (L1' : LL) (H' : Heap) (locs' : List Loc), P x S1' L1' → LWd g s ρ1 ρ2 S1' L1' S2 L2 H' locs' → W p g.1 e room_1 s m #[Value.ref b] below meth c H' locs' cells slots (lw_Z below #[Value.ref b] s) (F0 m (pc + 3) als (.int x :: rest))) :
    W p g.1 e room_1 s m #[Value.ref b] below meth c H locs cells slots (lw_Z below #[Value.ref b] s) (F0 m pc als (As.reverse ++ .ref (ρ1 0) :: rest)) := by
  simp only [Bool.and_eq_true, Nat.ble_eq] at hz
  refine lw_call (Qj := fun r S' L' => ∃ x, r = some (.int x) ∧ P x S' L') (lw_F C0) cl dd (rcvo (sC_0) rfl) ⟨by show d' + 1 ≤ 2048; omega, by show 8 + (M'.2.2.1 + 11) + 100 * d' ≤ 84000; omega⟩ hn (hAs ρ1) hals hz.2.2 hcu hC X.1 X.2.1 X.2.2 (fun r S' L' H' locs' hq X1 Y1 => ?_)
  obtain ⟨x, rfl, hq⟩ := hq
  exact kk x S' L' H' locs' hq ⟨X1, Y1, X.2.2⟩
theorem lw_cCl (C0 : lw_At p s m meth c b L xs) {idx n d' : Nat} {M' : MI} {As rest : List Value} {P : Int64 → SS → LL → Prop} (cl : CLv RL idx RX11 M' n) (dd : decode code pc = .ok (.invokevirtual idx, 3)) (hz : (Nat.ble d' 100 && (Nat.ble M'.2.2.1 81 && Nat.ble (rest.map fun v => v.category).sum 8)) = true) (hn : As.length = n) (hAs : ∀ ρ, As.map (vm g ρ) = As) (hals : als.size = 4) (hcu : cells ≤ 600000 ∧ slots ≤ 7302250)
    (hC : Cl g d' M' (.ref 0 :: As) SHC S1 L1 P) (X : LWd g s ρ1 ρ2 S1 L1 S2 L2 H locs)
    (kk : ∀ (x : Int64) (S1' : SS) (L1' : LL) (H' : Heap) (locs' : List Loc), P x S1' L1' → LWd g s ρ1 ρ2 S1' L1' S2 L2 H' locs' → W p g.1 e room_1 s m #[Value.ref b] below meth c H' locs' cells slots (lw_Z below #[Value.ref b] s) (F0 m (pc + 3) als (.long x :: rest))) :
    W p g.1 e room_1 s m #[Value.ref b] below meth c H locs cells slots (lw_Z below #[Value.ref b] s) (F0 m pc als (As.reverse ++ .ref (ρ1 0) :: rest)) := by
  simp only [Bool.and_eq_true, Nat.ble_eq] at hz
  refine lw_call (Qj := fun r S' L' => ∃ x, r = some (.long x) ∧ P x S' L') (lw_F C0) cl dd (rcvo (sC_0) rfl) ⟨by show d' + 1 ≤ 2048; omega, by show 8 + (M'.2.2.1 + 11) + 100 * d' ≤ 84000; omega⟩ hn (hAs ρ1) hals hz.2.2 hcu hC X.1 X.2.1 X.2.2 (fun r S' L' H' locs' hq X1 Y1 => ?_)
  obtain ⟨x, rfl, hq⟩ := hq
  exact kk x S' L' H' locs' hq ⟨X1, Y1, X.2.2⟩
theorem lw_cMi (C0 : lw_At p s m meth c b L xs) {idx n d' : Nat} {M' : MI} {As rest : List Value} {P : Int32 → SS → LL → Prop} (cl : CLv RL idx RX12 M' n) (dd : decode code pc = .ok (.invokevirtual idx, 3)) (hz : (Nat.ble d' 100 && (Nat.ble M'.2.2.1 81 && Nat.ble (rest.map fun v => v.category).sum 8)) = true) (hn : As.length = n) (hAs : ∀ ρ, As.map (vm g ρ) = As) (hals : als.size = 4) (hcu : cells ≤ 600000 ∧ slots ≤ 7302250)
    (hC : Ci g d' M' (.ref 0 :: As) SHM S2 L2 P) (X : LWd g s ρ1 ρ2 S1 L1 S2 L2 H locs)
    (kk : ∀ (x : Int32) (S2' : SS) (L2' : LL) (H' : Heap) (locs' : List Loc), P x S2' L2' → LWd g s ρ1 ρ2 S1 L1 S2' L2' H' locs' → W p g.1 e room_1 s m #[Value.ref b] below meth c H' locs' cells slots (lw_Z below #[Value.ref b] s) (F0 m (pc + 3) als (.int x :: rest))) :
    W p g.1 e room_1 s m #[Value.ref b] below meth c H locs cells slots (lw_Z below #[Value.ref b] s) (F0 m pc als (As.reverse ++ .ref (ρ2 0) :: rest)) := by
  simp only [Bool.and_eq_true, Nat.ble_eq] at hz
  refine lw_call (Qj := fun r S' L' => ∃ x, r = some (.int x) ∧ P x S' L') (lw_F C0) cl dd (rcvo (sM_0) rfl) ⟨by show d' + 1 ≤ 2048; omega, by show 8 + (M'.2.2.1 + 11) + 100 * d' ≤ 84000; omega⟩ hn (hAs ρ2) hals hz.2.2 hcu hC X.2.1 X.1 (fun i j hi hj e => X.2.2 j i hj hi e.symm) (fun r S' L' H' locs' hq X1 Y1 => ?_)
  obtain ⟨x, rfl, hq⟩ := hq
  exact kk x S' L' H' locs' hq ⟨Y1, X1, X.2.2⟩
theorem lw_cMl (C0 : lw_At p s m meth c b L xs) {idx n d' : Nat} {M' : MI} {As rest : List Value} {P : Int64 → SS → LL → Prop} (cl : CLv RL idx RX12 M' n) (dd : decode code pc = .ok (.invokevirtual idx, 3)) (hz : (Nat.ble d' 100 && (Nat.ble M'.2.2.1 81 && Nat.ble (rest.map fun v => v.category).sum 8)) = true) (hn : As.length = n) (hAs : ∀ ρ, As.map (vm g ρ) = As) (hals : als.size = 4) (hcu : cells ≤ 600000 ∧ slots ≤ 7302250)
    (hC : Cl g d' M' (.ref 0 :: As) SHM S2 L2 P) (X : LWd g s ρ1 ρ2 S1 L1 S2 L2 H locs)
    (kk : ∀ (x : Int64) (S2' : SS) (L2' : LL) (H' : Heap) (locs' : List Loc), P x S2' L2' → LWd g s ρ1 ρ2 S1 L1 S2' L2' H' locs' → W p g.1 e room_1 s m #[Value.ref b] below meth c H' locs' cells slots (lw_Z below #[Value.ref b] s) (F0 m (pc + 3) als (.long x :: rest))) :
    W p g.1 e room_1 s m #[Value.ref b] below meth c H locs cells slots (lw_Z below #[Value.ref b] s) (F0 m pc als (As.reverse ++ .ref (ρ2 0) :: rest)) := by
  simp only [Bool.and_eq_true, Nat.ble_eq] at hz
  refine lw_call (Qj := fun r S' L' => ∃ x, r = some (.long x) ∧ P x S' L') (lw_F C0) cl dd (rcvo (sM_0) rfl) ⟨by show d' + 1 ≤ 2048; omega, by show 8 + (M'.2.2.1 + 11) + 100 * d' ≤ 84000; omega⟩ hn (hAs ρ2) hals hz.2.2 hcu hC X.2.1 X.1 (fun i j hi hj e => X.2.2 j i hj hi e.symm) (fun r S' L' H' locs' hq X1 Y1 => ?_)
  obtain ⟨x, rfl, hq⟩ := hq
  exact kk x S' L' H' locs' hq ⟨Y1, X1, X.2.2⟩
/-- item i + k of the script -/
theorem lw_arg (C0 : lw_At p s m meth c b L xs) (hLs : L ≤ 3072) (X : LWd g s ρ1 ρ2 S1 L1 S2 L2 H locs) {n : Nat} {q1 q2 : Nat} {st : List Value} (hl : lv_has als 4 [(0, .ref b), (1, .ref q1), (2, .ref q2), (3, .int (nI n))]) (k : Nat) (hk : n + k < L) {kc : Int32} {ki : Int} (hkc : kc = nI k) (d0 : decode code pc = .ok (.aload_n 0, 1)) (d1 : decode code (pc + 1) = .ok (.iload_n 3, 1)) (d2 : decode code (pc + 1 + 1) = .ok (.iconst ki, 1)) (hki : Int32.ofInt ki = kc) (d3 : decode code (pc + 1 + 1 + 1) = .ok (.iadd, 1)) (d4 : decode code (pc + 1 + 1 + 1 + 1) = .ok (.iaload, 1))
    (kk : W p g.1 e room_1 s m #[Value.ref b] below meth c H locs cells slots (lw_Z below #[Value.ref b] s) (F0 m (pc + 1 + 1 + 1 + 1 + 1) als (.int (xs (n + k)) :: st))) :
    W p g.1 e room_1 s m #[Value.ref b] below meth c H locs cells slots (lw_Z below #[Value.ref b] s) (F0 m pc als st) := by
  obtain ⟨hx, hb, hr, hml, hown, hts, hX, hbl, hlocks, hgv⟩ := id C0
  refine lv_aload_n hx hb d0 rfl (lv_at hl 0 rfl) ?_
  refine lv_iload_n hx hb d1 rfl (lv_at hl 3 rfl) ?_
  refine lv_iconst (v := kc) hx hb d2 hki ?_
  refine lv_iadd hx hb d3 ?_
  rw [hkc, nI_add]
  refine va_sld hx hb hX hbl (Nat.not_le.mpr hbl) X.1.2.2.1 (vp_in_nI hk (by omega)) d4 ?_
  rw [nI_clamp (by omega)]
  exact kk
end LAW
theorem w_24 : (Jvm.Cond.methodLink "WhileSheLooksLaw" (9 : Nat) ({ cls := "WhileSheLooks", name := "<init>", desc := "()V" } : Jvm.MethodName)) ∈ TB := TB_of 24 (by decide +kernel) (by decide +kernel)
theorem w_25 : (Jvm.Cond.instanceMethod ({ cls := "WhileSheLooks", name := "<init>", desc := "()V" } : Jvm.MethodName)) ∈ TB := TB_of 25 (by decide +kernel) (by decide +kernel)
theorem w_26 : (Jvm.Cond.code ({ cls := "WhileSheLooks", name := "<init>", desc := "()V" } : Jvm.MethodName) prog_1_method_1_code (2 : Nat) (Option.none : Option Jvm.ClassFile.FieldType)) ∈ TB := TB_of 26 (by decide +kernel) (by decide +kernel)
theorem w_334 : (Jvm.Cond.selects "WhileSheLooks" ({ cls := "WhileSheLooks", name := "child", desc := "(II)I" } : Jvm.MethodName) ({ cls := "WhileSheLooks", name := "child", desc := "(II)I" } : Jvm.MethodName)) ∈ TB := TB_of 334 (by decide +kernel) (by decide +kernel)
theorem w_332 : (Jvm.Cond.methodLink "WhileSheLooksLaw" (13 : Nat) ({ cls := "WhileSheLooks", name := "child", desc := "(II)I" } : Jvm.MethodName)) ∈ TB := TB_of 332 (by decide +kernel) (by decide +kernel)
theorem w_333 : (Jvm.Cond.instanceMethod ({ cls := "WhileSheLooks", name := "child", desc := "(II)I" } : Jvm.MethodName)) ∈ TB := TB_of 333 (by decide +kernel) (by decide +kernel)
theorem w_335 : (Jvm.Cond.code ({ cls := "WhileSheLooks", name := "child", desc := "(II)I" } : Jvm.MethodName) prog_1_method_2_code (3 : Nat) (Option.some Jvm.ClassFile.FieldType.int)) ∈ TB := TB_of 335 (by decide +kernel) (by decide +kernel)
theorem w_345 : (Jvm.Cond.selects "WhileSheLooks" ({ cls := "WhileSheLooks", name := "of", desc := "(II)I" } : Jvm.MethodName) ({ cls := "WhileSheLooks", name := "of", desc := "(II)I" } : Jvm.MethodName)) ∈ TB := TB_of 345 (by decide +kernel) (by decide +kernel)
theorem w_343 : (Jvm.Cond.methodLink "WhileSheLooksLaw" (18 : Nat) ({ cls := "WhileSheLooks", name := "of", desc := "(II)I" } : Jvm.MethodName)) ∈ TB := TB_of 343 (by decide +kernel) (by decide +kernel)
theorem w_344 : (Jvm.Cond.instanceMethod ({ cls := "WhileSheLooks", name := "of", desc := "(II)I" } : Jvm.MethodName)) ∈ TB := TB_of 344 (by decide +kernel) (by decide +kernel)
theorem w_346 : (Jvm.Cond.code ({ cls := "WhileSheLooks", name := "of", desc := "(II)I" } : Jvm.MethodName) prog_1_method_3_code (3 : Nat) (Option.some Jvm.ClassFile.FieldType.int)) ∈ TB := TB_of 346 (by decide +kernel) (by decide +kernel)
theorem w_435 : (Jvm.Cond.selects "WhileSheLooks" ({ cls := "WhileSheLooks", name := "set", desc := "(III)I" } : Jvm.MethodName) ({ cls := "WhileSheLooks", name := "set", desc := "(III)I" } : Jvm.MethodName)) ∈ TB := TB_of 435 (by decide +kernel) (by decide +kernel)
theorem w_433 : (Jvm.Cond.methodLink "WhileSheLooksLaw" (22 : Nat) ({ cls := "WhileSheLooks", name := "set", desc := "(III)I" } : Jvm.MethodName)) ∈ TB := TB_of 433 (by decide +kernel) (by decide +kernel)
theorem w_434 : (Jvm.Cond.instanceMethod ({ cls := "WhileSheLooks", name := "set", desc := "(III)I" } : Jvm.MethodName)) ∈ TB := TB_of 434 (by decide +kernel) (by decide +kernel)
theorem w_436 : (Jvm.Cond.code ({ cls := "WhileSheLooks", name := "set", desc := "(III)I" } : Jvm.MethodName) prog_1_method_4_code (5 : Nat) (Option.some Jvm.ClassFile.FieldType.int)) ∈ TB := TB_of 436 (by decide +kernel) (by decide +kernel)
theorem w_443 : (Jvm.Cond.selects "WhileSheLooks" ({ cls := "WhileSheLooks", name := "row", desc := "(III)I" } : Jvm.MethodName) ({ cls := "WhileSheLooks", name := "row", desc := "(III)I" } : Jvm.MethodName)) ∈ TB := TB_of 443 (by decide +kernel) (by decide +kernel)
theorem w_441 : (Jvm.Cond.methodLink "WhileSheLooksLaw" (27 : Nat) ({ cls := "WhileSheLooks", name := "row", desc := "(III)I" } : Jvm.MethodName)) ∈ TB := TB_of 441 (by decide +kernel) (by decide +kernel)
theorem w_442 : (Jvm.Cond.instanceMethod ({ cls := "WhileSheLooks", name := "row", desc := "(III)I" } : Jvm.MethodName)) ∈ TB := TB_of 442 (by decide +kernel) (by decide +kernel)
theorem w_444 : (Jvm.Cond.code ({ cls := "WhileSheLooks", name := "row", desc := "(III)I" } : Jvm.MethodName) prog_1_method_5_code (5 : Nat) (Option.some Jvm.ClassFile.FieldType.int)) ∈ TB := TB_of 444 (by decide +kernel) (by decide +kernel)
theorem w_447 : (Jvm.Cond.selects "WhileSheLooks" ({ cls := "WhileSheLooks", name := "counts", desc := "(II)I" } : Jvm.MethodName) ({ cls := "WhileSheLooks", name := "counts", desc := "(II)I" } : Jvm.MethodName)) ∈ TB := TB_of 447 (by decide +kernel) (by decide +kernel)
theorem w_445 : (Jvm.Cond.methodLink "WhileSheLooksLaw" (31 : Nat) ({ cls := "WhileSheLooks", name := "counts", desc := "(II)I" } : Jvm.MethodName)) ∈ TB := TB_of 445 (by decide +kernel) (by decide +kernel)
theorem w_446 : (Jvm.Cond.instanceMethod ({ cls := "WhileSheLooks", name := "counts", desc := "(II)I" } : Jvm.MethodName)) ∈ TB := TB_of 446 (by decide +kernel) (by decide +kernel)
theorem w_448 : (Jvm.Cond.code ({ cls := "WhileSheLooks", name := "counts", desc := "(II)I" } : Jvm.MethodName) prog_1_method_6_code (4 : Nat) (Option.some Jvm.ClassFile.FieldType.int)) ∈ TB := TB_of 448 (by decide +kernel) (by decide +kernel)
theorem w_451 : (Jvm.Cond.selects "WhileSheLooks" ({ cls := "WhileSheLooks", name := "feed", desc := "(I)I" } : Jvm.MethodName) ({ cls := "WhileSheLooks", name := "feed", desc := "(I)I" } : Jvm.MethodName)) ∈ TB := TB_of 451 (by decide +kernel) (by decide +kernel)
theorem w_449 : (Jvm.Cond.methodLink "WhileSheLooksLaw" (35 : Nat) ({ cls := "WhileSheLooks", name := "feed", desc := "(I)I" } : Jvm.MethodName)) ∈ TB := TB_of 449 (by decide +kernel) (by decide +kernel)
theorem w_450 : (Jvm.Cond.instanceMethod ({ cls := "WhileSheLooks", name := "feed", desc := "(I)I" } : Jvm.MethodName)) ∈ TB := TB_of 450 (by decide +kernel) (by decide +kernel)
theorem w_452 : (Jvm.Cond.code ({ cls := "WhileSheLooks", name := "feed", desc := "(I)I" } : Jvm.MethodName) prog_1_method_7_code (2 : Nat) (Option.some Jvm.ClassFile.FieldType.int)) ∈ TB := TB_of 452 (by decide +kernel) (by decide +kernel)
theorem w_455 : (Jvm.Cond.selects "WhileSheLooks" ({ cls := "WhileSheLooks", name := "yard", desc := "()I" } : Jvm.MethodName) ({ cls := "WhileSheLooks", name := "yard", desc := "()I" } : Jvm.MethodName)) ∈ TB := TB_of 455 (by decide +kernel) (by decide +kernel)
theorem w_453 : (Jvm.Cond.methodLink "WhileSheLooksLaw" (40 : Nat) ({ cls := "WhileSheLooks", name := "yard", desc := "()I" } : Jvm.MethodName)) ∈ TB := TB_of 453 (by decide +kernel) (by decide +kernel)
theorem w_454 : (Jvm.Cond.instanceMethod ({ cls := "WhileSheLooks", name := "yard", desc := "()I" } : Jvm.MethodName)) ∈ TB := TB_of 454 (by decide +kernel) (by decide +kernel)
theorem w_456 : (Jvm.Cond.code ({ cls := "WhileSheLooks", name := "yard", desc := "()I" } : Jvm.MethodName) prog_1_method_8_code (3 : Nat) (Option.some Jvm.ClassFile.FieldType.int)) ∈ TB := TB_of 456 (by decide +kernel) (by decide +kernel)
theorem w_623 : (Jvm.Cond.selects "WhileSheLooks" ({ cls := "WhileSheLooks", name := "told", desc := "(I)I" } : Jvm.MethodName) ({ cls := "WhileSheLooks", name := "told", desc := "(I)I" } : Jvm.MethodName)) ∈ TB := TB_of 623 (by decide +kernel) (by decide +kernel)
theorem w_621 : (Jvm.Cond.methodLink "WhileSheLooksLaw" (45 : Nat) ({ cls := "WhileSheLooks", name := "told", desc := "(I)I" } : Jvm.MethodName)) ∈ TB := TB_of 621 (by decide +kernel) (by decide +kernel)
theorem w_622 : (Jvm.Cond.instanceMethod ({ cls := "WhileSheLooks", name := "told", desc := "(I)I" } : Jvm.MethodName)) ∈ TB := TB_of 622 (by decide +kernel) (by decide +kernel)
theorem w_624 : (Jvm.Cond.code ({ cls := "WhileSheLooks", name := "told", desc := "(I)I" } : Jvm.MethodName) prog_1_method_9_code (2 : Nat) (Option.some Jvm.ClassFile.FieldType.int)) ∈ TB := TB_of 624 (by decide +kernel) (by decide +kernel)
theorem w_627 : (Jvm.Cond.selects "WhileSheLooks" ({ cls := "WhileSheLooks", name := "turn", desc := "()I" } : Jvm.MethodName) ({ cls := "WhileSheLooks", name := "turn", desc := "()I" } : Jvm.MethodName)) ∈ TB := TB_of 627 (by decide +kernel) (by decide +kernel)
theorem w_625 : (Jvm.Cond.methodLink "WhileSheLooksLaw" (49 : Nat) ({ cls := "WhileSheLooks", name := "turn", desc := "()I" } : Jvm.MethodName)) ∈ TB := TB_of 625 (by decide +kernel) (by decide +kernel)
theorem w_626 : (Jvm.Cond.instanceMethod ({ cls := "WhileSheLooks", name := "turn", desc := "()I" } : Jvm.MethodName)) ∈ TB := TB_of 626 (by decide +kernel) (by decide +kernel)
theorem w_628 : (Jvm.Cond.code ({ cls := "WhileSheLooks", name := "turn", desc := "()I" } : Jvm.MethodName) prog_1_method_10_code (1 : Nat) (Option.some Jvm.ClassFile.FieldType.int)) ∈ TB := TB_of 628 (by decide +kernel) (by decide +kernel)
theorem w_654 : (Jvm.Cond.selects "WhileSheLooks" ({ cls := "WhileSheLooks", name := "on", desc := "(II)I" } : Jvm.MethodName) ({ cls := "WhileSheLooks", name := "on", desc := "(II)I" } : Jvm.MethodName)) ∈ TB := TB_of 654 (by decide +kernel) (by decide +kernel)
theorem w_652 : (Jvm.Cond.methodLink "WhileSheLooksLaw" (53 : Nat) ({ cls := "WhileSheLooks", name := "on", desc := "(II)I" } : Jvm.MethodName)) ∈ TB := TB_of 652 (by decide +kernel) (by decide +kernel)
theorem w_653 : (Jvm.Cond.instanceMethod ({ cls := "WhileSheLooks", name := "on", desc := "(II)I" } : Jvm.MethodName)) ∈ TB := TB_of 653 (by decide +kernel) (by decide +kernel)
theorem w_655 : (Jvm.Cond.code ({ cls := "WhileSheLooks", name := "on", desc := "(II)I" } : Jvm.MethodName) prog_1_method_11_code (5 : Nat) (Option.some Jvm.ClassFile.FieldType.int)) ∈ TB := TB_of 655 (by decide +kernel) (by decide +kernel)
theorem w_671 : (Jvm.Cond.selects "WhileSheLooks" ({ cls := "WhileSheLooks", name := "touches", desc := "(I)I" } : Jvm.MethodName) ({ cls := "WhileSheLooks", name := "touches", desc := "(I)I" } : Jvm.MethodName)) ∈ TB := TB_of 671 (by decide +kernel) (by decide +kernel)
theorem w_669 : (Jvm.Cond.methodLink "WhileSheLooksLaw" (57 : Nat) ({ cls := "WhileSheLooks", name := "touches", desc := "(I)I" } : Jvm.MethodName)) ∈ TB := TB_of 669 (by decide +kernel) (by decide +kernel)
theorem w_670 : (Jvm.Cond.instanceMethod ({ cls := "WhileSheLooks", name := "touches", desc := "(I)I" } : Jvm.MethodName)) ∈ TB := TB_of 670 (by decide +kernel) (by decide +kernel)
theorem w_672 : (Jvm.Cond.code ({ cls := "WhileSheLooks", name := "touches", desc := "(I)I" } : Jvm.MethodName) prog_1_method_12_code (2 : Nat) (Option.some Jvm.ClassFile.FieldType.int)) ∈ TB := TB_of 672 (by decide +kernel) (by decide +kernel)
theorem w_679 : (Jvm.Cond.selects "WhileSheLooks" ({ cls := "WhileSheLooks", name := "first", desc := "()I" } : Jvm.MethodName) ({ cls := "WhileSheLooks", name := "first", desc := "()I" } : Jvm.MethodName)) ∈ TB := TB_of 679 (by decide +kernel) (by decide +kernel)
theorem w_677 : (Jvm.Cond.methodLink "WhileSheLooksLaw" (61 : Nat) ({ cls := "WhileSheLooks", name := "first", desc := "()I" } : Jvm.MethodName)) ∈ TB := TB_of 677 (by decide +kernel) (by decide +kernel)
theorem w_678 : (Jvm.Cond.instanceMethod ({ cls := "WhileSheLooks", name := "first", desc := "()I" } : Jvm.MethodName)) ∈ TB := TB_of 678 (by decide +kernel) (by decide +kernel)
theorem w_680 : (Jvm.Cond.code ({ cls := "WhileSheLooks", name := "first", desc := "()I" } : Jvm.MethodName) prog_1_method_13_code (3 : Nat) (Option.some Jvm.ClassFile.FieldType.int)) ∈ TB := TB_of 680 (by decide +kernel) (by decide +kernel)
theorem w_687 : (Jvm.Cond.selects "WhileSheLooks" ({ cls := "WhileSheLooks", name := "risks", desc := "()I" } : Jvm.MethodName) ({ cls := "WhileSheLooks", name := "risks", desc := "()I" } : Jvm.MethodName)) ∈ TB := TB_of 687 (by decide +kernel) (by decide +kernel)
theorem w_685 : (Jvm.Cond.methodLink "WhileSheLooksLaw" (65 : Nat) ({ cls := "WhileSheLooks", name := "risks", desc := "()I" } : Jvm.MethodName)) ∈ TB := TB_of 685 (by decide +kernel) (by decide +kernel)
theorem w_686 : (Jvm.Cond.instanceMethod ({ cls := "WhileSheLooks", name := "risks", desc := "()I" } : Jvm.MethodName)) ∈ TB := TB_of 686 (by decide +kernel) (by decide +kernel)
theorem w_688 : (Jvm.Cond.code ({ cls := "WhileSheLooks", name := "risks", desc := "()I" } : Jvm.MethodName) prog_1_method_14_code (3 : Nat) (Option.some Jvm.ClassFile.FieldType.int)) ∈ TB := TB_of 688 (by decide +kernel) (by decide +kernel)
theorem w_691 : (Jvm.Cond.selects "WhileSheLooks" ({ cls := "WhileSheLooks", name := "stands", desc := "(I)I" } : Jvm.MethodName) ({ cls := "WhileSheLooks", name := "stands", desc := "(I)I" } : Jvm.MethodName)) ∈ TB := TB_of 691 (by decide +kernel) (by decide +kernel)
theorem w_689 : (Jvm.Cond.methodLink "WhileSheLooksLaw" (69 : Nat) ({ cls := "WhileSheLooks", name := "stands", desc := "(I)I" } : Jvm.MethodName)) ∈ TB := TB_of 689 (by decide +kernel) (by decide +kernel)
theorem w_690 : (Jvm.Cond.instanceMethod ({ cls := "WhileSheLooks", name := "stands", desc := "(I)I" } : Jvm.MethodName)) ∈ TB := TB_of 690 (by decide +kernel) (by decide +kernel)
theorem w_692 : (Jvm.Cond.code ({ cls := "WhileSheLooks", name := "stands", desc := "(I)I" } : Jvm.MethodName) prog_1_method_15_code (6 : Nat) (Option.some Jvm.ClassFile.FieldType.int)) ∈ TB := TB_of 692 (by decide +kernel) (by decide +kernel)
theorem w_695 : (Jvm.Cond.selects "WhileSheLooks" ({ cls := "WhileSheLooks", name := "slow", desc := "(II)I" } : Jvm.MethodName) ({ cls := "WhileSheLooks", name := "slow", desc := "(II)I" } : Jvm.MethodName)) ∈ TB := TB_of 695 (by decide +kernel) (by decide +kernel)
theorem w_693 : (Jvm.Cond.methodLink "WhileSheLooksLaw" (73 : Nat) ({ cls := "WhileSheLooks", name := "slow", desc := "(II)I" } : Jvm.MethodName)) ∈ TB := TB_of 693 (by decide +kernel) (by decide +kernel)
theorem w_694 : (Jvm.Cond.instanceMethod ({ cls := "WhileSheLooks", name := "slow", desc := "(II)I" } : Jvm.MethodName)) ∈ TB := TB_of 694 (by decide +kernel) (by decide +kernel)
theorem w_696 : (Jvm.Cond.code ({ cls := "WhileSheLooks", name := "slow", desc := "(II)I" } : Jvm.MethodName) prog_1_method_16_code (7 : Nat) (Option.some Jvm.ClassFile.FieldType.int)) ∈ TB := TB_of 696 (by decide +kernel) (by decide +kernel)
theorem w_699 : (Jvm.Cond.selects "WhileSheLooks" ({ cls := "WhileSheLooks", name := "order", desc := "(II)I" } : Jvm.MethodName) ({ cls := "WhileSheLooks", name := "order", desc := "(II)I" } : Jvm.MethodName)) ∈ TB := TB_of 699 (by decide +kernel) (by decide +kernel)
theorem w_697 : (Jvm.Cond.methodLink "WhileSheLooksLaw" (77 : Nat) ({ cls := "WhileSheLooks", name := "order", desc := "(II)I" } : Jvm.MethodName)) ∈ TB := TB_of 697 (by decide +kernel) (by decide +kernel)
theorem w_698 : (Jvm.Cond.instanceMethod ({ cls := "WhileSheLooks", name := "order", desc := "(II)I" } : Jvm.MethodName)) ∈ TB := TB_of 698 (by decide +kernel) (by decide +kernel)
theorem w_700 : (Jvm.Cond.code ({ cls := "WhileSheLooks", name := "order", desc := "(II)I" } : Jvm.MethodName) prog_1_method_17_code (7 : Nat) (Option.some Jvm.ClassFile.FieldType.int)) ∈ TB := TB_of 700 (by decide +kernel) (by decide +kernel)
theorem w_709 : (Jvm.Cond.selects "WhileSheLooks" ({ cls := "WhileSheLooks", name := "look", desc := "(I)I" } : Jvm.MethodName) ({ cls := "WhileSheLooks", name := "look", desc := "(I)I" } : Jvm.MethodName)) ∈ TB := TB_of 709 (by decide +kernel) (by decide +kernel)
theorem w_707 : (Jvm.Cond.methodLink "WhileSheLooksLaw" (81 : Nat) ({ cls := "WhileSheLooks", name := "look", desc := "(I)I" } : Jvm.MethodName)) ∈ TB := TB_of 707 (by decide +kernel) (by decide +kernel)
theorem w_708 : (Jvm.Cond.instanceMethod ({ cls := "WhileSheLooks", name := "look", desc := "(I)I" } : Jvm.MethodName)) ∈ TB := TB_of 708 (by decide +kernel) (by decide +kernel)
theorem w_710 : (Jvm.Cond.code ({ cls := "WhileSheLooks", name := "look", desc := "(I)I" } : Jvm.MethodName) prog_1_method_18_code (4 : Nat) (Option.some Jvm.ClassFile.FieldType.int)) ∈ TB := TB_of 710 (by decide +kernel) (by decide +kernel)
theorem w_714 : (Jvm.Cond.selects "WhileSheLooks" ({ cls := "WhileSheLooks", name := "needs", desc := "(II)I" } : Jvm.MethodName) ({ cls := "WhileSheLooks", name := "needs", desc := "(II)I" } : Jvm.MethodName)) ∈ TB := TB_of 714 (by decide +kernel) (by decide +kernel)
theorem w_712 : (Jvm.Cond.methodLink "WhileSheLooksLaw" (85 : Nat) ({ cls := "WhileSheLooks", name := "needs", desc := "(II)I" } : Jvm.MethodName)) ∈ TB := TB_of 712 (by decide +kernel) (by decide +kernel)
theorem w_713 : (Jvm.Cond.instanceMethod ({ cls := "WhileSheLooks", name := "needs", desc := "(II)I" } : Jvm.MethodName)) ∈ TB := TB_of 713 (by decide +kernel) (by decide +kernel)
theorem w_715 : (Jvm.Cond.code ({ cls := "WhileSheLooks", name := "needs", desc := "(II)I" } : Jvm.MethodName) prog_1_method_19_code (4 : Nat) (Option.some Jvm.ClassFile.FieldType.int)) ∈ TB := TB_of 715 (by decide +kernel) (by decide +kernel)
theorem w_718 : (Jvm.Cond.selects "WhileSheLooks" ({ cls := "WhileSheLooks", name := "held", desc := "(II)I" } : Jvm.MethodName) ({ cls := "WhileSheLooks", name := "held", desc := "(II)I" } : Jvm.MethodName)) ∈ TB := TB_of 718 (by decide +kernel) (by decide +kernel)
theorem w_716 : (Jvm.Cond.methodLink "WhileSheLooksLaw" (89 : Nat) ({ cls := "WhileSheLooks", name := "held", desc := "(II)I" } : Jvm.MethodName)) ∈ TB := TB_of 716 (by decide +kernel) (by decide +kernel)
theorem w_717 : (Jvm.Cond.instanceMethod ({ cls := "WhileSheLooks", name := "held", desc := "(II)I" } : Jvm.MethodName)) ∈ TB := TB_of 717 (by decide +kernel) (by decide +kernel)
theorem w_719 : (Jvm.Cond.code ({ cls := "WhileSheLooks", name := "held", desc := "(II)I" } : Jvm.MethodName) prog_1_method_20_code (7 : Nat) (Option.some Jvm.ClassFile.FieldType.int)) ∈ TB := TB_of 719 (by decide +kernel) (by decide +kernel)
theorem w_722 : (Jvm.Cond.selects "WhileSheLooks" ({ cls := "WhileSheLooks", name := "shield", desc := "(III)I" } : Jvm.MethodName) ({ cls := "WhileSheLooks", name := "shield", desc := "(III)I" } : Jvm.MethodName)) ∈ TB := TB_of 722 (by decide +kernel) (by decide +kernel)
theorem w_720 : (Jvm.Cond.methodLink "WhileSheLooksLaw" (93 : Nat) ({ cls := "WhileSheLooks", name := "shield", desc := "(III)I" } : Jvm.MethodName)) ∈ TB := TB_of 720 (by decide +kernel) (by decide +kernel)
theorem w_721 : (Jvm.Cond.instanceMethod ({ cls := "WhileSheLooks", name := "shield", desc := "(III)I" } : Jvm.MethodName)) ∈ TB := TB_of 721 (by decide +kernel) (by decide +kernel)
theorem w_723 : (Jvm.Cond.code ({ cls := "WhileSheLooks", name := "shield", desc := "(III)I" } : Jvm.MethodName) prog_1_method_21_code (5 : Nat) (Option.some Jvm.ClassFile.FieldType.int)) ∈ TB := TB_of 723 (by decide +kernel) (by decide +kernel)
theorem w_726 : (Jvm.Cond.selects "WhileSheLooks" ({ cls := "WhileSheLooks", name := "see", desc := "(III)I" } : Jvm.MethodName) ({ cls := "WhileSheLooks", name := "see", desc := "(III)I" } : Jvm.MethodName)) ∈ TB := TB_of 726 (by decide +kernel) (by decide +kernel)
theorem w_724 : (Jvm.Cond.methodLink "WhileSheLooksLaw" (97 : Nat) ({ cls := "WhileSheLooks", name := "see", desc := "(III)I" } : Jvm.MethodName)) ∈ TB := TB_of 724 (by decide +kernel) (by decide +kernel)
theorem w_725 : (Jvm.Cond.instanceMethod ({ cls := "WhileSheLooks", name := "see", desc := "(III)I" } : Jvm.MethodName)) ∈ TB := TB_of 725 (by decide +kernel) (by decide +kernel)
theorem w_727 : (Jvm.Cond.code ({ cls := "WhileSheLooks", name := "see", desc := "(III)I" } : Jvm.MethodName) prog_1_method_22_code (4 : Nat) (Option.some Jvm.ClassFile.FieldType.int)) ∈ TB := TB_of 727 (by decide +kernel) (by decide +kernel)
theorem w_734 : (Jvm.Cond.selects "WhileSheLooks" ({ cls := "WhileSheLooks", name := "since", desc := "()I" } : Jvm.MethodName) ({ cls := "WhileSheLooks", name := "since", desc := "()I" } : Jvm.MethodName)) ∈ TB := TB_of 734 (by decide +kernel) (by decide +kernel)
theorem w_732 : (Jvm.Cond.methodLink "WhileSheLooksLaw" (101 : Nat) ({ cls := "WhileSheLooks", name := "since", desc := "()I" } : Jvm.MethodName)) ∈ TB := TB_of 732 (by decide +kernel) (by decide +kernel)
theorem w_733 : (Jvm.Cond.instanceMethod ({ cls := "WhileSheLooks", name := "since", desc := "()I" } : Jvm.MethodName)) ∈ TB := TB_of 733 (by decide +kernel) (by decide +kernel)
theorem w_735 : (Jvm.Cond.code ({ cls := "WhileSheLooks", name := "since", desc := "()I" } : Jvm.MethodName) prog_1_method_23_code (3 : Nat) (Option.some Jvm.ClassFile.FieldType.int)) ∈ TB := TB_of 735 (by decide +kernel) (by decide +kernel)
theorem w_742 : (Jvm.Cond.selects "WhileSheLooks" ({ cls := "WhileSheLooks", name := "who", desc := "(II)I" } : Jvm.MethodName) ({ cls := "WhileSheLooks", name := "who", desc := "(II)I" } : Jvm.MethodName)) ∈ TB := TB_of 742 (by decide +kernel) (by decide +kernel)
theorem w_740 : (Jvm.Cond.methodLink "WhileSheLooksLaw" (105 : Nat) ({ cls := "WhileSheLooks", name := "who", desc := "(II)I" } : Jvm.MethodName)) ∈ TB := TB_of 740 (by decide +kernel) (by decide +kernel)
theorem w_741 : (Jvm.Cond.instanceMethod ({ cls := "WhileSheLooks", name := "who", desc := "(II)I" } : Jvm.MethodName)) ∈ TB := TB_of 741 (by decide +kernel) (by decide +kernel)
theorem w_743 : (Jvm.Cond.code ({ cls := "WhileSheLooks", name := "who", desc := "(II)I" } : Jvm.MethodName) prog_1_method_24_code (5 : Nat) (Option.some Jvm.ClassFile.FieldType.int)) ∈ TB := TB_of 743 (by decide +kernel) (by decide +kernel)
theorem w_746 : (Jvm.Cond.selects "WhileSheLooks" ({ cls := "WhileSheLooks", name := "odds", desc := "(II)J" } : Jvm.MethodName) ({ cls := "WhileSheLooks", name := "odds", desc := "(II)J" } : Jvm.MethodName)) ∈ TB := TB_of 746 (by decide +kernel) (by decide +kernel)
theorem w_744 : (Jvm.Cond.methodLink "WhileSheLooksLaw" (109 : Nat) ({ cls := "WhileSheLooks", name := "odds", desc := "(II)J" } : Jvm.MethodName)) ∈ TB := TB_of 744 (by decide +kernel) (by decide +kernel)
theorem w_745 : (Jvm.Cond.instanceMethod ({ cls := "WhileSheLooks", name := "odds", desc := "(II)J" } : Jvm.MethodName)) ∈ TB := TB_of 745 (by decide +kernel) (by decide +kernel)
theorem w_747 : (Jvm.Cond.code ({ cls := "WhileSheLooks", name := "odds", desc := "(II)J" } : Jvm.MethodName) prog_1_method_25_code (5 : Nat) (Option.some Jvm.ClassFile.FieldType.long)) ∈ TB := TB_of 747 (by decide +kernel) (by decide +kernel)
theorem w_754 : (Jvm.Cond.selects "WhileSheLooks" ({ cls := "WhileSheLooks", name := "mean", desc := "(II)J" } : Jvm.MethodName) ({ cls := "WhileSheLooks", name := "mean", desc := "(II)J" } : Jvm.MethodName)) ∈ TB := TB_of 754 (by decide +kernel) (by decide +kernel)
theorem w_752 : (Jvm.Cond.methodLink "WhileSheLooksLaw" (114 : Nat) ({ cls := "WhileSheLooks", name := "mean", desc := "(II)J" } : Jvm.MethodName)) ∈ TB := TB_of 752 (by decide +kernel) (by decide +kernel)
theorem w_753 : (Jvm.Cond.instanceMethod ({ cls := "WhileSheLooks", name := "mean", desc := "(II)J" } : Jvm.MethodName)) ∈ TB := TB_of 753 (by decide +kernel) (by decide +kernel)
theorem w_755 : (Jvm.Cond.code ({ cls := "WhileSheLooks", name := "mean", desc := "(II)J" } : Jvm.MethodName) prog_1_method_26_code (5 : Nat) (Option.some Jvm.ClassFile.FieldType.long)) ∈ TB := TB_of 755 (by decide +kernel) (by decide +kernel)
theorem w_758 : (Jvm.Cond.selects "WhileSheLooks" ({ cls := "WhileSheLooks", name := "book", desc := "(II)I" } : Jvm.MethodName) ({ cls := "WhileSheLooks", name := "book", desc := "(II)I" } : Jvm.MethodName)) ∈ TB := TB_of 758 (by decide +kernel) (by decide +kernel)
theorem w_756 : (Jvm.Cond.methodLink "WhileSheLooksLaw" (118 : Nat) ({ cls := "WhileSheLooks", name := "book", desc := "(II)I" } : Jvm.MethodName)) ∈ TB := TB_of 756 (by decide +kernel) (by decide +kernel)
theorem w_757 : (Jvm.Cond.instanceMethod ({ cls := "WhileSheLooks", name := "book", desc := "(II)I" } : Jvm.MethodName)) ∈ TB := TB_of 757 (by decide +kernel) (by decide +kernel)
theorem w_759 : (Jvm.Cond.code ({ cls := "WhileSheLooks", name := "book", desc := "(II)I" } : Jvm.MethodName) prog_1_method_27_code (3 : Nat) (Option.some Jvm.ClassFile.FieldType.int)) ∈ TB := TB_of 759 (by decide +kernel) (by decide +kernel)
theorem w_766 : (Jvm.Cond.selects "WhileSheLooks" ({ cls := "WhileSheLooks", name := "looked", desc := "()I" } : Jvm.MethodName) ({ cls := "WhileSheLooks", name := "looked", desc := "()I" } : Jvm.MethodName)) ∈ TB := TB_of 766 (by decide +kernel) (by decide +kernel)
theorem w_764 : (Jvm.Cond.methodLink "WhileSheLooksLaw" (122 : Nat) ({ cls := "WhileSheLooks", name := "looked", desc := "()I" } : Jvm.MethodName)) ∈ TB := TB_of 764 (by decide +kernel) (by decide +kernel)
theorem w_765 : (Jvm.Cond.instanceMethod ({ cls := "WhileSheLooks", name := "looked", desc := "()I" } : Jvm.MethodName)) ∈ TB := TB_of 765 (by decide +kernel) (by decide +kernel)
theorem w_767 : (Jvm.Cond.code ({ cls := "WhileSheLooks", name := "looked", desc := "()I" } : Jvm.MethodName) prog_1_method_28_code (3 : Nat) (Option.some Jvm.ClassFile.FieldType.int)) ∈ TB := TB_of 767 (by decide +kernel) (by decide +kernel)
theorem w_770 : (Jvm.Cond.selects "WhileSheLooks" ({ cls := "WhileSheLooks", name := "judge", desc := "(II)I" } : Jvm.MethodName) ({ cls := "WhileSheLooks", name := "judge", desc := "(II)I" } : Jvm.MethodName)) ∈ TB := TB_of 770 (by decide +kernel) (by decide +kernel)
theorem w_768 : (Jvm.Cond.methodLink "WhileSheLooksLaw" (126 : Nat) ({ cls := "WhileSheLooks", name := "judge", desc := "(II)I" } : Jvm.MethodName)) ∈ TB := TB_of 768 (by decide +kernel) (by decide +kernel)
theorem w_769 : (Jvm.Cond.instanceMethod ({ cls := "WhileSheLooks", name := "judge", desc := "(II)I" } : Jvm.MethodName)) ∈ TB := TB_of 769 (by decide +kernel) (by decide +kernel)
theorem w_771 : (Jvm.Cond.code ({ cls := "WhileSheLooks", name := "judge", desc := "(II)I" } : Jvm.MethodName) prog_1_method_29_code (4 : Nat) (Option.some Jvm.ClassFile.FieldType.int)) ∈ TB := TB_of 771 (by decide +kernel) (by decide +kernel)
theorem w_777 : (Jvm.Cond.selects "WhileSheLooks" ({ cls := "WhileSheLooks", name := "image", desc := "()I" } : Jvm.MethodName) ({ cls := "WhileSheLooks", name := "image", desc := "()I" } : Jvm.MethodName)) ∈ TB := TB_of 777 (by decide +kernel) (by decide +kernel)
theorem w_775 : (Jvm.Cond.methodLink "WhileSheLooksLaw" (130 : Nat) ({ cls := "WhileSheLooks", name := "image", desc := "()I" } : Jvm.MethodName)) ∈ TB := TB_of 775 (by decide +kernel) (by decide +kernel)
theorem w_776 : (Jvm.Cond.instanceMethod ({ cls := "WhileSheLooks", name := "image", desc := "()I" } : Jvm.MethodName)) ∈ TB := TB_of 776 (by decide +kernel) (by decide +kernel)
theorem w_778 : (Jvm.Cond.code ({ cls := "WhileSheLooks", name := "image", desc := "()I" } : Jvm.MethodName) prog_1_method_30_code (1 : Nat) (Option.some Jvm.ClassFile.FieldType.int)) ∈ TB := TB_of 778 (by decide +kernel) (by decide +kernel)
theorem w_781 : (Jvm.Cond.selects "WhileSheLooks" ({ cls := "WhileSheLooks", name := "undo", desc := "()I" } : Jvm.MethodName) ({ cls := "WhileSheLooks", name := "undo", desc := "()I" } : Jvm.MethodName)) ∈ TB := TB_of 781 (by decide +kernel) (by decide +kernel)
theorem w_779 : (Jvm.Cond.methodLink "WhileSheLooksLaw" (134 : Nat) ({ cls := "WhileSheLooks", name := "undo", desc := "()I" } : Jvm.MethodName)) ∈ TB := TB_of 779 (by decide +kernel) (by decide +kernel)
theorem w_780 : (Jvm.Cond.instanceMethod ({ cls := "WhileSheLooks", name := "undo", desc := "()I" } : Jvm.MethodName)) ∈ TB := TB_of 780 (by decide +kernel) (by decide +kernel)
theorem w_782 : (Jvm.Cond.code ({ cls := "WhileSheLooks", name := "undo", desc := "()I" } : Jvm.MethodName) prog_1_method_31_code (1 : Nat) (Option.some Jvm.ClassFile.FieldType.int)) ∈ TB := TB_of 782 (by decide +kernel) (by decide +kernel)
theorem w_785 : (Jvm.Cond.selects "WhileSheLooks" ({ cls := "WhileSheLooks", name := "act", desc := "(III)I" } : Jvm.MethodName) ({ cls := "WhileSheLooks", name := "act", desc := "(III)I" } : Jvm.MethodName)) ∈ TB := TB_of 785 (by decide +kernel) (by decide +kernel)
theorem w_783 : (Jvm.Cond.methodLink "WhileSheLooksLaw" (138 : Nat) ({ cls := "WhileSheLooks", name := "act", desc := "(III)I" } : Jvm.MethodName)) ∈ TB := TB_of 783 (by decide +kernel) (by decide +kernel)
theorem w_784 : (Jvm.Cond.instanceMethod ({ cls := "WhileSheLooks", name := "act", desc := "(III)I" } : Jvm.MethodName)) ∈ TB := TB_of 784 (by decide +kernel) (by decide +kernel)
theorem w_786 : (Jvm.Cond.code ({ cls := "WhileSheLooks", name := "act", desc := "(III)I" } : Jvm.MethodName) prog_1_method_32_code (5 : Nat) (Option.some Jvm.ClassFile.FieldType.int)) ∈ TB := TB_of 786 (by decide +kernel) (by decide +kernel)
theorem w_868 : (Jvm.Cond.selects "WhileSheLooks" ({ cls := "WhileSheLooks", name := "trace", desc := "(I)I" } : Jvm.MethodName) ({ cls := "WhileSheLooks", name := "trace", desc := "(I)I" } : Jvm.MethodName)) ∈ TB := TB_of 868 (by decide +kernel) (by decide +kernel)
theorem w_866 : (Jvm.Cond.methodLink "WhileSheLooksLaw" (142 : Nat) ({ cls := "WhileSheLooks", name := "trace", desc := "(I)I" } : Jvm.MethodName)) ∈ TB := TB_of 866 (by decide +kernel) (by decide +kernel)
theorem w_867 : (Jvm.Cond.instanceMethod ({ cls := "WhileSheLooks", name := "trace", desc := "(I)I" } : Jvm.MethodName)) ∈ TB := TB_of 867 (by decide +kernel) (by decide +kernel)
theorem w_869 : (Jvm.Cond.code ({ cls := "WhileSheLooks", name := "trace", desc := "(I)I" } : Jvm.MethodName) prog_1_method_33_code (2 : Nat) (Option.some Jvm.ClassFile.FieldType.int)) ∈ TB := TB_of 869 (by decide +kernel) (by decide +kernel)
theorem w_872 : (Jvm.Cond.selects "WhileSheLooks" ({ cls := "WhileSheLooks", name := "taken", desc := "(II)I" } : Jvm.MethodName) ({ cls := "WhileSheLooks", name := "taken", desc := "(II)I" } : Jvm.MethodName)) ∈ TB := TB_of 872 (by decide +kernel) (by decide +kernel)
theorem w_870 : (Jvm.Cond.methodLink "WhileSheLooksLaw" (146 : Nat) ({ cls := "WhileSheLooks", name := "taken", desc := "(II)I" } : Jvm.MethodName)) ∈ TB := TB_of 870 (by decide +kernel) (by decide +kernel)
theorem w_871 : (Jvm.Cond.instanceMethod ({ cls := "WhileSheLooks", name := "taken", desc := "(II)I" } : Jvm.MethodName)) ∈ TB := TB_of 871 (by decide +kernel) (by decide +kernel)
theorem w_873 : (Jvm.Cond.code ({ cls := "WhileSheLooks", name := "taken", desc := "(II)I" } : Jvm.MethodName) prog_1_method_34_code (5 : Nat) (Option.some Jvm.ClassFile.FieldType.int)) ∈ TB := TB_of 873 (by decide +kernel) (by decide +kernel)
theorem w_878 : (Jvm.Cond.selects "WhileSheLooks" ({ cls := "WhileSheLooks", name := "count", desc := "(I)I" } : Jvm.MethodName) ({ cls := "WhileSheLooks", name := "count", desc := "(I)I" } : Jvm.MethodName)) ∈ TB := TB_of 878 (by decide +kernel) (by decide +kernel)
theorem w_876 : (Jvm.Cond.methodLink "WhileSheLooksLaw" (150 : Nat) ({ cls := "WhileSheLooks", name := "count", desc := "(I)I" } : Jvm.MethodName)) ∈ TB := TB_of 876 (by decide +kernel) (by decide +kernel)
theorem w_877 : (Jvm.Cond.instanceMethod ({ cls := "WhileSheLooks", name := "count", desc := "(I)I" } : Jvm.MethodName)) ∈ TB := TB_of 877 (by decide +kernel) (by decide +kernel)
theorem w_879 : (Jvm.Cond.code ({ cls := "WhileSheLooks", name := "count", desc := "(I)I" } : Jvm.MethodName) prog_1_method_35_code (2 : Nat) (Option.some Jvm.ClassFile.FieldType.int)) ∈ TB := TB_of 879 (by decide +kernel) (by decide +kernel)
theorem w_882 : (Jvm.Cond.selects "WhileSheLooks" ({ cls := "WhileSheLooks", name := "tape", desc := "(III)I" } : Jvm.MethodName) ({ cls := "WhileSheLooks", name := "tape", desc := "(III)I" } : Jvm.MethodName)) ∈ TB := TB_of 882 (by decide +kernel) (by decide +kernel)
theorem w_880 : (Jvm.Cond.methodLink "WhileSheLooksLaw" (154 : Nat) ({ cls := "WhileSheLooks", name := "tape", desc := "(III)I" } : Jvm.MethodName)) ∈ TB := TB_of 880 (by decide +kernel) (by decide +kernel)
theorem w_881 : (Jvm.Cond.instanceMethod ({ cls := "WhileSheLooks", name := "tape", desc := "(III)I" } : Jvm.MethodName)) ∈ TB := TB_of 881 (by decide +kernel) (by decide +kernel)
theorem w_883 : (Jvm.Cond.code ({ cls := "WhileSheLooks", name := "tape", desc := "(III)I" } : Jvm.MethodName) prog_1_method_36_code (5 : Nat) (Option.some Jvm.ClassFile.FieldType.int)) ∈ TB := TB_of 883 (by decide +kernel) (by decide +kernel)
theorem w_886 : (Jvm.Cond.selects "WhileSheLooks" ({ cls := "WhileSheLooks", name := "item", desc := "(IIJ)I" } : Jvm.MethodName) ({ cls := "WhileSheLooks", name := "item", desc := "(IIJ)I" } : Jvm.MethodName)) ∈ TB := TB_of 886 (by decide +kernel) (by decide +kernel)
theorem w_884 : (Jvm.Cond.methodLink "WhileSheLooksLaw" (160 : Nat) ({ cls := "WhileSheLooks", name := "item", desc := "(IIJ)I" } : Jvm.MethodName)) ∈ TB := TB_of 884 (by decide +kernel) (by decide +kernel)
theorem w_885 : (Jvm.Cond.instanceMethod ({ cls := "WhileSheLooks", name := "item", desc := "(IIJ)I" } : Jvm.MethodName)) ∈ TB := TB_of 885 (by decide +kernel) (by decide +kernel)
theorem w_887 : (Jvm.Cond.code ({ cls := "WhileSheLooks", name := "item", desc := "(IIJ)I" } : Jvm.MethodName) prog_1_method_37_code (5 : Nat) (Option.some Jvm.ClassFile.FieldType.int)) ∈ TB := TB_of 887 (by decide +kernel) (by decide +kernel)
theorem w_893 : (Jvm.Cond.selects "WhileSheLooks" ({ cls := "WhileSheLooks", name := "read", desc := "(II)J" } : Jvm.MethodName) ({ cls := "WhileSheLooks", name := "read", desc := "(II)J" } : Jvm.MethodName)) ∈ TB := TB_of 893 (by decide +kernel) (by decide +kernel)
theorem w_891 : (Jvm.Cond.methodLink "WhileSheLooksLaw" (165 : Nat) ({ cls := "WhileSheLooks", name := "read", desc := "(II)J" } : Jvm.MethodName)) ∈ TB := TB_of 891 (by decide +kernel) (by decide +kernel)
theorem w_892 : (Jvm.Cond.instanceMethod ({ cls := "WhileSheLooks", name := "read", desc := "(II)J" } : Jvm.MethodName)) ∈ TB := TB_of 892 (by decide +kernel) (by decide +kernel)
theorem w_894 : (Jvm.Cond.code ({ cls := "WhileSheLooks", name := "read", desc := "(II)J" } : Jvm.MethodName) prog_1_method_38_code (3 : Nat) (Option.some Jvm.ClassFile.FieldType.long)) ∈ TB := TB_of 894 (by decide +kernel) (by decide +kernel)
theorem w_897 : (Jvm.Cond.selects "WhileSheLooks" ({ cls := "WhileSheLooks", name := "shift", desc := "(IIIII)I" } : Jvm.MethodName) ({ cls := "WhileSheLooks", name := "shift", desc := "(IIIII)I" } : Jvm.MethodName)) ∈ TB := TB_of 897 (by decide +kernel) (by decide +kernel)
theorem w_895 : (Jvm.Cond.methodLink "WhileSheLooksLaw" (169 : Nat) ({ cls := "WhileSheLooks", name := "shift", desc := "(IIIII)I" } : Jvm.MethodName)) ∈ TB := TB_of 895 (by decide +kernel) (by decide +kernel)
theorem w_896 : (Jvm.Cond.instanceMethod ({ cls := "WhileSheLooks", name := "shift", desc := "(IIIII)I" } : Jvm.MethodName)) ∈ TB := TB_of 896 (by decide +kernel) (by decide +kernel)
theorem w_898 : (Jvm.Cond.code ({ cls := "WhileSheLooks", name := "shift", desc := "(IIIII)I" } : Jvm.MethodName) prog_1_method_39_code (6 : Nat) (Option.some Jvm.ClassFile.FieldType.int)) ∈ TB := TB_of 898 (by decide +kernel) (by decide +kernel)
theorem w_902 : (Jvm.Cond.methodLink "WhileSheLooksLaw" (12 : Nat) ({ cls := "WhileSheLooksModel", name := "<init>", desc := "()V" } : Jvm.MethodName)) ∈ TB := TB_of 902 (by decide +kernel) (by decide +kernel)
theorem w_903 : (Jvm.Cond.instanceMethod ({ cls := "WhileSheLooksModel", name := "<init>", desc := "()V" } : Jvm.MethodName)) ∈ TB := TB_of 903 (by decide +kernel) (by decide +kernel)
theorem w_904 : (Jvm.Cond.code ({ cls := "WhileSheLooksModel", name := "<init>", desc := "()V" } : Jvm.MethodName) prog_14_method_1_code (1 : Nat) (Option.none : Option Jvm.ClassFile.FieldType)) ∈ TB := TB_of 904 (by decide +kernel) (by decide +kernel)
theorem w_1132 : (Jvm.Cond.selects "WhileSheLooksModel" ({ cls := "WhileSheLooksModel", name := "child", desc := "(II)I" } : Jvm.MethodName) ({ cls := "WhileSheLooksModel", name := "child", desc := "(II)I" } : Jvm.MethodName)) ∈ TB := TB_of 1132 (by decide +kernel) (by decide +kernel)
theorem w_1130 : (Jvm.Cond.methodLink "WhileSheLooksLaw" (17 : Nat) ({ cls := "WhileSheLooksModel", name := "child", desc := "(II)I" } : Jvm.MethodName)) ∈ TB := TB_of 1130 (by decide +kernel) (by decide +kernel)
theorem w_1131 : (Jvm.Cond.instanceMethod ({ cls := "WhileSheLooksModel", name := "child", desc := "(II)I" } : Jvm.MethodName)) ∈ TB := TB_of 1131 (by decide +kernel) (by decide +kernel)
theorem w_1133 : (Jvm.Cond.code ({ cls := "WhileSheLooksModel", name := "child", desc := "(II)I" } : Jvm.MethodName) prog_14_method_6_code (4 : Nat) (Option.some Jvm.ClassFile.FieldType.int)) ∈ TB := TB_of 1133 (by decide +kernel) (by decide +kernel)
theorem w_1140 : (Jvm.Cond.selects "WhileSheLooksModel" ({ cls := "WhileSheLooksModel", name := "set", desc := "(III)I" } : Jvm.MethodName) ({ cls := "WhileSheLooksModel", name := "set", desc := "(III)I" } : Jvm.MethodName)) ∈ TB := TB_of 1140 (by decide +kernel) (by decide +kernel)
theorem w_1138 : (Jvm.Cond.methodLink "WhileSheLooksLaw" (26 : Nat) ({ cls := "WhileSheLooksModel", name := "set", desc := "(III)I" } : Jvm.MethodName)) ∈ TB := TB_of 1138 (by decide +kernel) (by decide +kernel)
theorem w_1139 : (Jvm.Cond.instanceMethod ({ cls := "WhileSheLooksModel", name := "set", desc := "(III)I" } : Jvm.MethodName)) ∈ TB := TB_of 1139 (by decide +kernel) (by decide +kernel)
theorem w_1141 : (Jvm.Cond.code ({ cls := "WhileSheLooksModel", name := "set", desc := "(III)I" } : Jvm.MethodName) prog_14_method_7_code (5 : Nat) (Option.some Jvm.ClassFile.FieldType.int)) ∈ TB := TB_of 1141 (by decide +kernel) (by decide +kernel)
theorem w_1164 : (Jvm.Cond.selects "WhileSheLooksModel" ({ cls := "WhileSheLooksModel", name := "row", desc := "(III)I" } : Jvm.MethodName) ({ cls := "WhileSheLooksModel", name := "row", desc := "(III)I" } : Jvm.MethodName)) ∈ TB := TB_of 1164 (by decide +kernel) (by decide +kernel)
theorem w_1162 : (Jvm.Cond.methodLink "WhileSheLooksLaw" (30 : Nat) ({ cls := "WhileSheLooksModel", name := "row", desc := "(III)I" } : Jvm.MethodName)) ∈ TB := TB_of 1162 (by decide +kernel) (by decide +kernel)
theorem w_1163 : (Jvm.Cond.instanceMethod ({ cls := "WhileSheLooksModel", name := "row", desc := "(III)I" } : Jvm.MethodName)) ∈ TB := TB_of 1163 (by decide +kernel) (by decide +kernel)
theorem w_1165 : (Jvm.Cond.code ({ cls := "WhileSheLooksModel", name := "row", desc := "(III)I" } : Jvm.MethodName) prog_14_method_8_code (5 : Nat) (Option.some Jvm.ClassFile.FieldType.int)) ∈ TB := TB_of 1165 (by decide +kernel) (by decide +kernel)
theorem w_1168 : (Jvm.Cond.selects "WhileSheLooksModel" ({ cls := "WhileSheLooksModel", name := "counts", desc := "(II)I" } : Jvm.MethodName) ({ cls := "WhileSheLooksModel", name := "counts", desc := "(II)I" } : Jvm.MethodName)) ∈ TB := TB_of 1168 (by decide +kernel) (by decide +kernel)
theorem w_1166 : (Jvm.Cond.methodLink "WhileSheLooksLaw" (34 : Nat) ({ cls := "WhileSheLooksModel", name := "counts", desc := "(II)I" } : Jvm.MethodName)) ∈ TB := TB_of 1166 (by decide +kernel) (by decide +kernel)
theorem w_1167 : (Jvm.Cond.instanceMethod ({ cls := "WhileSheLooksModel", name := "counts", desc := "(II)I" } : Jvm.MethodName)) ∈ TB := TB_of 1167 (by decide +kernel) (by decide +kernel)
theorem w_1169 : (Jvm.Cond.code ({ cls := "WhileSheLooksModel", name := "counts", desc := "(II)I" } : Jvm.MethodName) prog_14_method_9_code (4 : Nat) (Option.some Jvm.ClassFile.FieldType.int)) ∈ TB := TB_of 1169 (by decide +kernel) (by decide +kernel)
theorem w_1172 : (Jvm.Cond.selects "WhileSheLooksModel" ({ cls := "WhileSheLooksModel", name := "feed", desc := "(I)I" } : Jvm.MethodName) ({ cls := "WhileSheLooksModel", name := "feed", desc := "(I)I" } : Jvm.MethodName)) ∈ TB := TB_of 1172 (by decide +kernel) (by decide +kernel)
theorem w_1170 : (Jvm.Cond.methodLink "WhileSheLooksLaw" (39 : Nat) ({ cls := "WhileSheLooksModel", name := "feed", desc := "(I)I" } : Jvm.MethodName)) ∈ TB := TB_of 1170 (by decide +kernel) (by decide +kernel)
theorem w_1171 : (Jvm.Cond.instanceMethod ({ cls := "WhileSheLooksModel", name := "feed", desc := "(I)I" } : Jvm.MethodName)) ∈ TB := TB_of 1171 (by decide +kernel) (by decide +kernel)
theorem w_1173 : (Jvm.Cond.code ({ cls := "WhileSheLooksModel", name := "feed", desc := "(I)I" } : Jvm.MethodName) prog_14_method_10_code (2 : Nat) (Option.some Jvm.ClassFile.FieldType.int)) ∈ TB := TB_of 1173 (by decide +kernel) (by decide +kernel)
theorem w_1176 : (Jvm.Cond.selects "WhileSheLooksModel" ({ cls := "WhileSheLooksModel", name := "yard", desc := "()I" } : Jvm.MethodName) ({ cls := "WhileSheLooksModel", name := "yard", desc := "()I" } : Jvm.MethodName)) ∈ TB := TB_of 1176 (by decide +kernel) (by decide +kernel)
theorem w_1174 : (Jvm.Cond.methodLink "WhileSheLooksLaw" (44 : Nat) ({ cls := "WhileSheLooksModel", name := "yard", desc := "()I" } : Jvm.MethodName)) ∈ TB := TB_of 1174 (by decide +kernel) (by decide +kernel)
theorem w_1175 : (Jvm.Cond.instanceMethod ({ cls := "WhileSheLooksModel", name := "yard", desc := "()I" } : Jvm.MethodName)) ∈ TB := TB_of 1175 (by decide +kernel) (by decide +kernel)
theorem w_1177 : (Jvm.Cond.code ({ cls := "WhileSheLooksModel", name := "yard", desc := "()I" } : Jvm.MethodName) prog_14_method_26_code (2 : Nat) (Option.some Jvm.ClassFile.FieldType.int)) ∈ TB := TB_of 1177 (by decide +kernel) (by decide +kernel)
theorem w_1240 : (Jvm.Cond.selects "WhileSheLooksModel" ({ cls := "WhileSheLooksModel", name := "of", desc := "(II)I" } : Jvm.MethodName) ({ cls := "WhileSheLooksModel", name := "of", desc := "(II)I" } : Jvm.MethodName)) ∈ TB := TB_of 1240 (by decide +kernel) (by decide +kernel)
theorem w_1238 : (Jvm.Cond.methodLink "WhileSheLooksLaw" (21 : Nat) ({ cls := "WhileSheLooksModel", name := "of", desc := "(II)I" } : Jvm.MethodName)) ∈ TB := TB_of 1238 (by decide +kernel) (by decide +kernel)
theorem w_1239 : (Jvm.Cond.instanceMethod ({ cls := "WhileSheLooksModel", name := "of", desc := "(II)I" } : Jvm.MethodName)) ∈ TB := TB_of 1239 (by decide +kernel) (by decide +kernel)
theorem w_1241 : (Jvm.Cond.code ({ cls := "WhileSheLooksModel", name := "of", desc := "(II)I" } : Jvm.MethodName) prog_14_method_41_code (3 : Nat) (Option.some Jvm.ClassFile.FieldType.int)) ∈ TB := TB_of 1241 (by decide +kernel) (by decide +kernel)
theorem w_1280 : (Jvm.Cond.selects "WhileSheLooksModel" ({ cls := "WhileSheLooksModel", name := "told", desc := "(I)I" } : Jvm.MethodName) ({ cls := "WhileSheLooksModel", name := "told", desc := "(I)I" } : Jvm.MethodName)) ∈ TB := TB_of 1280 (by decide +kernel) (by decide +kernel)
theorem w_1278 : (Jvm.Cond.methodLink "WhileSheLooksLaw" (48 : Nat) ({ cls := "WhileSheLooksModel", name := "told", desc := "(I)I" } : Jvm.MethodName)) ∈ TB := TB_of 1278 (by decide +kernel) (by decide +kernel)
theorem w_1279 : (Jvm.Cond.instanceMethod ({ cls := "WhileSheLooksModel", name := "told", desc := "(I)I" } : Jvm.MethodName)) ∈ TB := TB_of 1279 (by decide +kernel) (by decide +kernel)
theorem w_1281 : (Jvm.Cond.code ({ cls := "WhileSheLooksModel", name := "told", desc := "(I)I" } : Jvm.MethodName) prog_14_method_42_code (2 : Nat) (Option.some Jvm.ClassFile.FieldType.int)) ∈ TB := TB_of 1281 (by decide +kernel) (by decide +kernel)
theorem w_1292 : (Jvm.Cond.selects "WhileSheLooksModel" ({ cls := "WhileSheLooksModel", name := "turn", desc := "()I" } : Jvm.MethodName) ({ cls := "WhileSheLooksModel", name := "turn", desc := "()I" } : Jvm.MethodName)) ∈ TB := TB_of 1292 (by decide +kernel) (by decide +kernel)
theorem w_1290 : (Jvm.Cond.methodLink "WhileSheLooksLaw" (52 : Nat) ({ cls := "WhileSheLooksModel", name := "turn", desc := "()I" } : Jvm.MethodName)) ∈ TB := TB_of 1290 (by decide +kernel) (by decide +kernel)
theorem w_1291 : (Jvm.Cond.instanceMethod ({ cls := "WhileSheLooksModel", name := "turn", desc := "()I" } : Jvm.MethodName)) ∈ TB := TB_of 1291 (by decide +kernel) (by decide +kernel)
theorem w_1293 : (Jvm.Cond.code ({ cls := "WhileSheLooksModel", name := "turn", desc := "()I" } : Jvm.MethodName) prog_14_method_45_code (1 : Nat) (Option.some Jvm.ClassFile.FieldType.int)) ∈ TB := TB_of 1293 (by decide +kernel) (by decide +kernel)
theorem w_1304 : (Jvm.Cond.selects "WhileSheLooksModel" ({ cls := "WhileSheLooksModel", name := "on", desc := "(II)I" } : Jvm.MethodName) ({ cls := "WhileSheLooksModel", name := "on", desc := "(II)I" } : Jvm.MethodName)) ∈ TB := TB_of 1304 (by decide +kernel) (by decide +kernel)
theorem w_1302 : (Jvm.Cond.methodLink "WhileSheLooksLaw" (56 : Nat) ({ cls := "WhileSheLooksModel", name := "on", desc := "(II)I" } : Jvm.MethodName)) ∈ TB := TB_of 1302 (by decide +kernel) (by decide +kernel)
theorem w_1303 : (Jvm.Cond.instanceMethod ({ cls := "WhileSheLooksModel", name := "on", desc := "(II)I" } : Jvm.MethodName)) ∈ TB := TB_of 1303 (by decide +kernel) (by decide +kernel)
theorem w_1305 : (Jvm.Cond.code ({ cls := "WhileSheLooksModel", name := "on", desc := "(II)I" } : Jvm.MethodName) prog_14_method_49_code (3 : Nat) (Option.some Jvm.ClassFile.FieldType.int)) ∈ TB := TB_of 1305 (by decide +kernel) (by decide +kernel)
theorem w_1325 : (Jvm.Cond.selects "WhileSheLooksModel" ({ cls := "WhileSheLooksModel", name := "touches", desc := "(I)I" } : Jvm.MethodName) ({ cls := "WhileSheLooksModel", name := "touches", desc := "(I)I" } : Jvm.MethodName)) ∈ TB := TB_of 1325 (by decide +kernel) (by decide +kernel)
theorem w_1323 : (Jvm.Cond.methodLink "WhileSheLooksLaw" (60 : Nat) ({ cls := "WhileSheLooksModel", name := "touches", desc := "(I)I" } : Jvm.MethodName)) ∈ TB := TB_of 1323 (by decide +kernel) (by decide +kernel)
theorem w_1324 : (Jvm.Cond.instanceMethod ({ cls := "WhileSheLooksModel", name := "touches", desc := "(I)I" } : Jvm.MethodName)) ∈ TB := TB_of 1324 (by decide +kernel) (by decide +kernel)
theorem w_1326 : (Jvm.Cond.code ({ cls := "WhileSheLooksModel", name := "touches", desc := "(I)I" } : Jvm.MethodName) prog_14_method_51_code (2 : Nat) (Option.some Jvm.ClassFile.FieldType.int)) ∈ TB := TB_of 1326 (by decide +kernel) (by decide +kernel)
theorem w_1333 : (Jvm.Cond.selects "WhileSheLooksModel" ({ cls := "WhileSheLooksModel", name := "first", desc := "()I" } : Jvm.MethodName) ({ cls := "WhileSheLooksModel", name := "first", desc := "()I" } : Jvm.MethodName)) ∈ TB := TB_of 1333 (by decide +kernel) (by decide +kernel)
theorem w_1331 : (Jvm.Cond.methodLink "WhileSheLooksLaw" (64 : Nat) ({ cls := "WhileSheLooksModel", name := "first", desc := "()I" } : Jvm.MethodName)) ∈ TB := TB_of 1331 (by decide +kernel) (by decide +kernel)
theorem w_1332 : (Jvm.Cond.instanceMethod ({ cls := "WhileSheLooksModel", name := "first", desc := "()I" } : Jvm.MethodName)) ∈ TB := TB_of 1332 (by decide +kernel) (by decide +kernel)
theorem w_1334 : (Jvm.Cond.code ({ cls := "WhileSheLooksModel", name := "first", desc := "()I" } : Jvm.MethodName) prog_14_method_52_code (5 : Nat) (Option.some Jvm.ClassFile.FieldType.int)) ∈ TB := TB_of 1334 (by decide +kernel) (by decide +kernel)
theorem w_1337 : (Jvm.Cond.selects "WhileSheLooksModel" ({ cls := "WhileSheLooksModel", name := "risks", desc := "()I" } : Jvm.MethodName) ({ cls := "WhileSheLooksModel", name := "risks", desc := "()I" } : Jvm.MethodName)) ∈ TB := TB_of 1337 (by decide +kernel) (by decide +kernel)
theorem w_1335 : (Jvm.Cond.methodLink "WhileSheLooksLaw" (68 : Nat) ({ cls := "WhileSheLooksModel", name := "risks", desc := "()I" } : Jvm.MethodName)) ∈ TB := TB_of 1335 (by decide +kernel) (by decide +kernel)
theorem w_1336 : (Jvm.Cond.instanceMethod ({ cls := "WhileSheLooksModel", name := "risks", desc := "()I" } : Jvm.MethodName)) ∈ TB := TB_of 1336 (by decide +kernel) (by decide +kernel)
theorem w_1338 : (Jvm.Cond.code ({ cls := "WhileSheLooksModel", name := "risks", desc := "()I" } : Jvm.MethodName) prog_14_method_53_code (3 : Nat) (Option.some Jvm.ClassFile.FieldType.int)) ∈ TB := TB_of 1338 (by decide +kernel) (by decide +kernel)
theorem w_1341 : (Jvm.Cond.selects "WhileSheLooksModel" ({ cls := "WhileSheLooksModel", name := "stands", desc := "(I)I" } : Jvm.MethodName) ({ cls := "WhileSheLooksModel", name := "stands", desc := "(I)I" } : Jvm.MethodName)) ∈ TB := TB_of 1341 (by decide +kernel) (by decide +kernel)
theorem w_1339 : (Jvm.Cond.methodLink "WhileSheLooksLaw" (72 : Nat) ({ cls := "WhileSheLooksModel", name := "stands", desc := "(I)I" } : Jvm.MethodName)) ∈ TB := TB_of 1339 (by decide +kernel) (by decide +kernel)
theorem w_1340 : (Jvm.Cond.instanceMethod ({ cls := "WhileSheLooksModel", name := "stands", desc := "(I)I" } : Jvm.MethodName)) ∈ TB := TB_of 1340 (by decide +kernel) (by decide +kernel)
theorem w_1342 : (Jvm.Cond.code ({ cls := "WhileSheLooksModel", name := "stands", desc := "(I)I" } : Jvm.MethodName) prog_14_method_54_code (7 : Nat) (Option.some Jvm.ClassFile.FieldType.int)) ∈ TB := TB_of 1342 (by decide +kernel) (by decide +kernel)
theorem w_1345 : (Jvm.Cond.selects "WhileSheLooksModel" ({ cls := "WhileSheLooksModel", name := "slow", desc := "(II)I" } : Jvm.MethodName) ({ cls := "WhileSheLooksModel", name := "slow", desc := "(II)I" } : Jvm.MethodName)) ∈ TB := TB_of 1345 (by decide +kernel) (by decide +kernel)
theorem w_1343 : (Jvm.Cond.methodLink "WhileSheLooksLaw" (76 : Nat) ({ cls := "WhileSheLooksModel", name := "slow", desc := "(II)I" } : Jvm.MethodName)) ∈ TB := TB_of 1343 (by decide +kernel) (by decide +kernel)
theorem w_1344 : (Jvm.Cond.instanceMethod ({ cls := "WhileSheLooksModel", name := "slow", desc := "(II)I" } : Jvm.MethodName)) ∈ TB := TB_of 1344 (by decide +kernel) (by decide +kernel)
theorem w_1346 : (Jvm.Cond.code ({ cls := "WhileSheLooksModel", name := "slow", desc := "(II)I" } : Jvm.MethodName) prog_14_method_58_code (7 : Nat) (Option.some Jvm.ClassFile.FieldType.int)) ∈ TB := TB_of 1346 (by decide +kernel) (by decide +kernel)
theorem w_1361 : (Jvm.Cond.selects "WhileSheLooksModel" ({ cls := "WhileSheLooksModel", name := "order", desc := "(II)I" } : Jvm.MethodName) ({ cls := "WhileSheLooksModel", name := "order", desc := "(II)I" } : Jvm.MethodName)) ∈ TB := TB_of 1361 (by decide +kernel) (by decide +kernel)
theorem w_1359 : (Jvm.Cond.methodLink "WhileSheLooksLaw" (80 : Nat) ({ cls := "WhileSheLooksModel", name := "order", desc := "(II)I" } : Jvm.MethodName)) ∈ TB := TB_of 1359 (by decide +kernel) (by decide +kernel)
theorem w_1360 : (Jvm.Cond.instanceMethod ({ cls := "WhileSheLooksModel", name := "order", desc := "(II)I" } : Jvm.MethodName)) ∈ TB := TB_of 1360 (by decide +kernel) (by decide +kernel)
theorem w_1362 : (Jvm.Cond.code ({ cls := "WhileSheLooksModel", name := "order", desc := "(II)I" } : Jvm.MethodName) prog_14_method_59_code (11 : Nat) (Option.some Jvm.ClassFile.FieldType.int)) ∈ TB := TB_of 1362 (by decide +kernel) (by decide +kernel)
theorem w_1365 : (Jvm.Cond.selects "WhileSheLooksModel" ({ cls := "WhileSheLooksModel", name := "look", desc := "(I)I" } : Jvm.MethodName) ({ cls := "WhileSheLooksModel", name := "look", desc := "(I)I" } : Jvm.MethodName)) ∈ TB := TB_of 1365 (by decide +kernel) (by decide +kernel)
theorem w_1363 : (Jvm.Cond.methodLink "WhileSheLooksLaw" (84 : Nat) ({ cls := "WhileSheLooksModel", name := "look", desc := "(I)I" } : Jvm.MethodName)) ∈ TB := TB_of 1363 (by decide +kernel) (by decide +kernel)
theorem w_1364 : (Jvm.Cond.instanceMethod ({ cls := "WhileSheLooksModel", name := "look", desc := "(I)I" } : Jvm.MethodName)) ∈ TB := TB_of 1364 (by decide +kernel) (by decide +kernel)
theorem w_1366 : (Jvm.Cond.code ({ cls := "WhileSheLooksModel", name := "look", desc := "(I)I" } : Jvm.MethodName) prog_14_method_60_code (4 : Nat) (Option.some Jvm.ClassFile.FieldType.int)) ∈ TB := TB_of 1366 (by decide +kernel) (by decide +kernel)
theorem w_1369 : (Jvm.Cond.selects "WhileSheLooksModel" ({ cls := "WhileSheLooksModel", name := "needs", desc := "(II)I" } : Jvm.MethodName) ({ cls := "WhileSheLooksModel", name := "needs", desc := "(II)I" } : Jvm.MethodName)) ∈ TB := TB_of 1369 (by decide +kernel) (by decide +kernel)
theorem w_1367 : (Jvm.Cond.methodLink "WhileSheLooksLaw" (88 : Nat) ({ cls := "WhileSheLooksModel", name := "needs", desc := "(II)I" } : Jvm.MethodName)) ∈ TB := TB_of 1367 (by decide +kernel) (by decide +kernel)
theorem w_1368 : (Jvm.Cond.instanceMethod ({ cls := "WhileSheLooksModel", name := "needs", desc := "(II)I" } : Jvm.MethodName)) ∈ TB := TB_of 1368 (by decide +kernel) (by decide +kernel)
theorem w_1370 : (Jvm.Cond.code ({ cls := "WhileSheLooksModel", name := "needs", desc := "(II)I" } : Jvm.MethodName) prog_14_method_61_code (7 : Nat) (Option.some Jvm.ClassFile.FieldType.int)) ∈ TB := TB_of 1370 (by decide +kernel) (by decide +kernel)
theorem w_1373 : (Jvm.Cond.selects "WhileSheLooksModel" ({ cls := "WhileSheLooksModel", name := "held", desc := "(II)I" } : Jvm.MethodName) ({ cls := "WhileSheLooksModel", name := "held", desc := "(II)I" } : Jvm.MethodName)) ∈ TB := TB_of 1373 (by decide +kernel) (by decide +kernel)
theorem w_1371 : (Jvm.Cond.methodLink "WhileSheLooksLaw" (92 : Nat) ({ cls := "WhileSheLooksModel", name := "held", desc := "(II)I" } : Jvm.MethodName)) ∈ TB := TB_of 1371 (by decide +kernel) (by decide +kernel)
theorem w_1372 : (Jvm.Cond.instanceMethod ({ cls := "WhileSheLooksModel", name := "held", desc := "(II)I" } : Jvm.MethodName)) ∈ TB := TB_of 1372 (by decide +kernel) (by decide +kernel)
theorem w_1374 : (Jvm.Cond.code ({ cls := "WhileSheLooksModel", name := "held", desc := "(II)I" } : Jvm.MethodName) prog_14_method_63_code (7 : Nat) (Option.some Jvm.ClassFile.FieldType.int)) ∈ TB := TB_of 1374 (by decide +kernel) (by decide +kernel)
theorem w_1381 : (Jvm.Cond.selects "WhileSheLooksModel" ({ cls := "WhileSheLooksModel", name := "shield", desc := "(III)I" } : Jvm.MethodName) ({ cls := "WhileSheLooksModel", name := "shield", desc := "(III)I" } : Jvm.MethodName)) ∈ TB := TB_of 1381 (by decide +kernel) (by decide +kernel)
theorem w_1379 : (Jvm.Cond.methodLink "WhileSheLooksLaw" (96 : Nat) ({ cls := "WhileSheLooksModel", name := "shield", desc := "(III)I" } : Jvm.MethodName)) ∈ TB := TB_of 1379 (by decide +kernel) (by decide +kernel)
theorem w_1380 : (Jvm.Cond.instanceMethod ({ cls := "WhileSheLooksModel", name := "shield", desc := "(III)I" } : Jvm.MethodName)) ∈ TB := TB_of 1380 (by decide +kernel) (by decide +kernel)
theorem w_1382 : (Jvm.Cond.code ({ cls := "WhileSheLooksModel", name := "shield", desc := "(III)I" } : Jvm.MethodName) prog_14_method_64_code (6 : Nat) (Option.some Jvm.ClassFile.FieldType.int)) ∈ TB := TB_of 1382 (by decide +kernel) (by decide +kernel)
theorem w_1385 : (Jvm.Cond.selects "WhileSheLooksModel" ({ cls := "WhileSheLooksModel", name := "see", desc := "(III)I" } : Jvm.MethodName) ({ cls := "WhileSheLooksModel", name := "see", desc := "(III)I" } : Jvm.MethodName)) ∈ TB := TB_of 1385 (by decide +kernel) (by decide +kernel)
theorem w_1383 : (Jvm.Cond.methodLink "WhileSheLooksLaw" (100 : Nat) ({ cls := "WhileSheLooksModel", name := "see", desc := "(III)I" } : Jvm.MethodName)) ∈ TB := TB_of 1383 (by decide +kernel) (by decide +kernel)
theorem w_1384 : (Jvm.Cond.instanceMethod ({ cls := "WhileSheLooksModel", name := "see", desc := "(III)I" } : Jvm.MethodName)) ∈ TB := TB_of 1384 (by decide +kernel) (by decide +kernel)
theorem w_1386 : (Jvm.Cond.code ({ cls := "WhileSheLooksModel", name := "see", desc := "(III)I" } : Jvm.MethodName) prog_14_method_65_code (4 : Nat) (Option.some Jvm.ClassFile.FieldType.int)) ∈ TB := TB_of 1386 (by decide +kernel) (by decide +kernel)
theorem w_1389 : (Jvm.Cond.selects "WhileSheLooksModel" ({ cls := "WhileSheLooksModel", name := "since", desc := "()I" } : Jvm.MethodName) ({ cls := "WhileSheLooksModel", name := "since", desc := "()I" } : Jvm.MethodName)) ∈ TB := TB_of 1389 (by decide +kernel) (by decide +kernel)
theorem w_1387 : (Jvm.Cond.methodLink "WhileSheLooksLaw" (104 : Nat) ({ cls := "WhileSheLooksModel", name := "since", desc := "()I" } : Jvm.MethodName)) ∈ TB := TB_of 1387 (by decide +kernel) (by decide +kernel)
theorem w_1388 : (Jvm.Cond.instanceMethod ({ cls := "WhileSheLooksModel", name := "since", desc := "()I" } : Jvm.MethodName)) ∈ TB := TB_of 1388 (by decide +kernel) (by decide +kernel)
theorem w_1390 : (Jvm.Cond.code ({ cls := "WhileSheLooksModel", name := "since", desc := "()I" } : Jvm.MethodName) prog_14_method_67_code (4 : Nat) (Option.some Jvm.ClassFile.FieldType.int)) ∈ TB := TB_of 1390 (by decide +kernel) (by decide +kernel)
theorem w_1397 : (Jvm.Cond.selects "WhileSheLooksModel" ({ cls := "WhileSheLooksModel", name := "who", desc := "(II)I" } : Jvm.MethodName) ({ cls := "WhileSheLooksModel", name := "who", desc := "(II)I" } : Jvm.MethodName)) ∈ TB := TB_of 1397 (by decide +kernel) (by decide +kernel)
theorem w_1395 : (Jvm.Cond.methodLink "WhileSheLooksLaw" (108 : Nat) ({ cls := "WhileSheLooksModel", name := "who", desc := "(II)I" } : Jvm.MethodName)) ∈ TB := TB_of 1395 (by decide +kernel) (by decide +kernel)
theorem w_1396 : (Jvm.Cond.instanceMethod ({ cls := "WhileSheLooksModel", name := "who", desc := "(II)I" } : Jvm.MethodName)) ∈ TB := TB_of 1396 (by decide +kernel) (by decide +kernel)
theorem w_1398 : (Jvm.Cond.code ({ cls := "WhileSheLooksModel", name := "who", desc := "(II)I" } : Jvm.MethodName) prog_14_method_68_code (5 : Nat) (Option.some Jvm.ClassFile.FieldType.int)) ∈ TB := TB_of 1398 (by decide +kernel) (by decide +kernel)
theorem w_1401 : (Jvm.Cond.selects "WhileSheLooksModel" ({ cls := "WhileSheLooksModel", name := "odds", desc := "(II)J" } : Jvm.MethodName) ({ cls := "WhileSheLooksModel", name := "odds", desc := "(II)J" } : Jvm.MethodName)) ∈ TB := TB_of 1401 (by decide +kernel) (by decide +kernel)
theorem w_1399 : (Jvm.Cond.methodLink "WhileSheLooksLaw" (113 : Nat) ({ cls := "WhileSheLooksModel", name := "odds", desc := "(II)J" } : Jvm.MethodName)) ∈ TB := TB_of 1399 (by decide +kernel) (by decide +kernel)
theorem w_1400 : (Jvm.Cond.instanceMethod ({ cls := "WhileSheLooksModel", name := "odds", desc := "(II)J" } : Jvm.MethodName)) ∈ TB := TB_of 1400 (by decide +kernel) (by decide +kernel)
theorem w_1402 : (Jvm.Cond.code ({ cls := "WhileSheLooksModel", name := "odds", desc := "(II)J" } : Jvm.MethodName) prog_14_method_71_code (6 : Nat) (Option.some Jvm.ClassFile.FieldType.long)) ∈ TB := TB_of 1402 (by decide +kernel) (by decide +kernel)
theorem w_1414 : (Jvm.Cond.selects "WhileSheLooksModel" ({ cls := "WhileSheLooksModel", name := "mean", desc := "(II)J" } : Jvm.MethodName) ({ cls := "WhileSheLooksModel", name := "mean", desc := "(II)J" } : Jvm.MethodName)) ∈ TB := TB_of 1414 (by decide +kernel) (by decide +kernel)
theorem w_1412 : (Jvm.Cond.methodLink "WhileSheLooksLaw" (117 : Nat) ({ cls := "WhileSheLooksModel", name := "mean", desc := "(II)J" } : Jvm.MethodName)) ∈ TB := TB_of 1412 (by decide +kernel) (by decide +kernel)
theorem w_1413 : (Jvm.Cond.instanceMethod ({ cls := "WhileSheLooksModel", name := "mean", desc := "(II)J" } : Jvm.MethodName)) ∈ TB := TB_of 1413 (by decide +kernel) (by decide +kernel)
theorem w_1415 : (Jvm.Cond.code ({ cls := "WhileSheLooksModel", name := "mean", desc := "(II)J" } : Jvm.MethodName) prog_14_method_72_code (5 : Nat) (Option.some Jvm.ClassFile.FieldType.long)) ∈ TB := TB_of 1415 (by decide +kernel) (by decide +kernel)
theorem w_1418 : (Jvm.Cond.selects "WhileSheLooksModel" ({ cls := "WhileSheLooksModel", name := "book", desc := "(II)I" } : Jvm.MethodName) ({ cls := "WhileSheLooksModel", name := "book", desc := "(II)I" } : Jvm.MethodName)) ∈ TB := TB_of 1418 (by decide +kernel) (by decide +kernel)
theorem w_1416 : (Jvm.Cond.methodLink "WhileSheLooksLaw" (121 : Nat) ({ cls := "WhileSheLooksModel", name := "book", desc := "(II)I" } : Jvm.MethodName)) ∈ TB := TB_of 1416 (by decide +kernel) (by decide +kernel)
theorem w_1417 : (Jvm.Cond.instanceMethod ({ cls := "WhileSheLooksModel", name := "book", desc := "(II)I" } : Jvm.MethodName)) ∈ TB := TB_of 1417 (by decide +kernel) (by decide +kernel)
theorem w_1419 : (Jvm.Cond.code ({ cls := "WhileSheLooksModel", name := "book", desc := "(II)I" } : Jvm.MethodName) prog_14_method_73_code (3 : Nat) (Option.some Jvm.ClassFile.FieldType.int)) ∈ TB := TB_of 1419 (by decide +kernel) (by decide +kernel)
theorem w_1422 : (Jvm.Cond.selects "WhileSheLooksModel" ({ cls := "WhileSheLooksModel", name := "looked", desc := "()I" } : Jvm.MethodName) ({ cls := "WhileSheLooksModel", name := "looked", desc := "()I" } : Jvm.MethodName)) ∈ TB := TB_of 1422 (by decide +kernel) (by decide +kernel)
theorem w_1420 : (Jvm.Cond.methodLink "WhileSheLooksLaw" (125 : Nat) ({ cls := "WhileSheLooksModel", name := "looked", desc := "()I" } : Jvm.MethodName)) ∈ TB := TB_of 1420 (by decide +kernel) (by decide +kernel)
theorem w_1421 : (Jvm.Cond.instanceMethod ({ cls := "WhileSheLooksModel", name := "looked", desc := "()I" } : Jvm.MethodName)) ∈ TB := TB_of 1421 (by decide +kernel) (by decide +kernel)
theorem w_1423 : (Jvm.Cond.code ({ cls := "WhileSheLooksModel", name := "looked", desc := "()I" } : Jvm.MethodName) prog_14_method_74_code (2 : Nat) (Option.some Jvm.ClassFile.FieldType.int)) ∈ TB := TB_of 1423 (by decide +kernel) (by decide +kernel)
theorem w_1426 : (Jvm.Cond.selects "WhileSheLooksModel" ({ cls := "WhileSheLooksModel", name := "judge", desc := "(II)I" } : Jvm.MethodName) ({ cls := "WhileSheLooksModel", name := "judge", desc := "(II)I" } : Jvm.MethodName)) ∈ TB := TB_of 1426 (by decide +kernel) (by decide +kernel)
theorem w_1424 : (Jvm.Cond.methodLink "WhileSheLooksLaw" (129 : Nat) ({ cls := "WhileSheLooksModel", name := "judge", desc := "(II)I" } : Jvm.MethodName)) ∈ TB := TB_of 1424 (by decide +kernel) (by decide +kernel)
theorem w_1425 : (Jvm.Cond.instanceMethod ({ cls := "WhileSheLooksModel", name := "judge", desc := "(II)I" } : Jvm.MethodName)) ∈ TB := TB_of 1425 (by decide +kernel) (by decide +kernel)
theorem w_1427 : (Jvm.Cond.code ({ cls := "WhileSheLooksModel", name := "judge", desc := "(II)I" } : Jvm.MethodName) prog_14_method_75_code (4 : Nat) (Option.some Jvm.ClassFile.FieldType.int)) ∈ TB := TB_of 1427 (by decide +kernel) (by decide +kernel)
theorem w_1434 : (Jvm.Cond.selects "WhileSheLooksModel" ({ cls := "WhileSheLooksModel", name := "image", desc := "()I" } : Jvm.MethodName) ({ cls := "WhileSheLooksModel", name := "image", desc := "()I" } : Jvm.MethodName)) ∈ TB := TB_of 1434 (by decide +kernel) (by decide +kernel)
theorem w_1432 : (Jvm.Cond.methodLink "WhileSheLooksLaw" (133 : Nat) ({ cls := "WhileSheLooksModel", name := "image", desc := "()I" } : Jvm.MethodName)) ∈ TB := TB_of 1432 (by decide +kernel) (by decide +kernel)
theorem w_1433 : (Jvm.Cond.instanceMethod ({ cls := "WhileSheLooksModel", name := "image", desc := "()I" } : Jvm.MethodName)) ∈ TB := TB_of 1433 (by decide +kernel) (by decide +kernel)
theorem w_1435 : (Jvm.Cond.code ({ cls := "WhileSheLooksModel", name := "image", desc := "()I" } : Jvm.MethodName) prog_14_method_76_code (2 : Nat) (Option.some Jvm.ClassFile.FieldType.int)) ∈ TB := TB_of 1435 (by decide +kernel) (by decide +kernel)
theorem w_1438 : (Jvm.Cond.selects "WhileSheLooksModel" ({ cls := "WhileSheLooksModel", name := "undo", desc := "()I" } : Jvm.MethodName) ({ cls := "WhileSheLooksModel", name := "undo", desc := "()I" } : Jvm.MethodName)) ∈ TB := TB_of 1438 (by decide +kernel) (by decide +kernel)
theorem w_1436 : (Jvm.Cond.methodLink "WhileSheLooksLaw" (137 : Nat) ({ cls := "WhileSheLooksModel", name := "undo", desc := "()I" } : Jvm.MethodName)) ∈ TB := TB_of 1436 (by decide +kernel) (by decide +kernel)
theorem w_1437 : (Jvm.Cond.instanceMethod ({ cls := "WhileSheLooksModel", name := "undo", desc := "()I" } : Jvm.MethodName)) ∈ TB := TB_of 1437 (by decide +kernel) (by decide +kernel)
theorem w_1439 : (Jvm.Cond.code ({ cls := "WhileSheLooksModel", name := "undo", desc := "()I" } : Jvm.MethodName) prog_14_method_77_code (2 : Nat) (Option.some Jvm.ClassFile.FieldType.int)) ∈ TB := TB_of 1439 (by decide +kernel) (by decide +kernel)
theorem w_1442 : (Jvm.Cond.selects "WhileSheLooksModel" ({ cls := "WhileSheLooksModel", name := "act", desc := "(III)I" } : Jvm.MethodName) ({ cls := "WhileSheLooksModel", name := "act", desc := "(III)I" } : Jvm.MethodName)) ∈ TB := TB_of 1442 (by decide +kernel) (by decide +kernel)
theorem w_1440 : (Jvm.Cond.methodLink "WhileSheLooksLaw" (141 : Nat) ({ cls := "WhileSheLooksModel", name := "act", desc := "(III)I" } : Jvm.MethodName)) ∈ TB := TB_of 1440 (by decide +kernel) (by decide +kernel)
theorem w_1441 : (Jvm.Cond.instanceMethod ({ cls := "WhileSheLooksModel", name := "act", desc := "(III)I" } : Jvm.MethodName)) ∈ TB := TB_of 1441 (by decide +kernel) (by decide +kernel)
theorem w_1443 : (Jvm.Cond.code ({ cls := "WhileSheLooksModel", name := "act", desc := "(III)I" } : Jvm.MethodName) prog_14_method_86_code (4 : Nat) (Option.some Jvm.ClassFile.FieldType.int)) ∈ TB := TB_of 1443 (by decide +kernel) (by decide +kernel)
theorem w_1478 : (Jvm.Cond.selects "WhileSheLooksModel" ({ cls := "WhileSheLooksModel", name := "trace", desc := "(I)I" } : Jvm.MethodName) ({ cls := "WhileSheLooksModel", name := "trace", desc := "(I)I" } : Jvm.MethodName)) ∈ TB := TB_of 1478 (by decide +kernel) (by decide +kernel)
theorem w_1476 : (Jvm.Cond.methodLink "WhileSheLooksLaw" (145 : Nat) ({ cls := "WhileSheLooksModel", name := "trace", desc := "(I)I" } : Jvm.MethodName)) ∈ TB := TB_of 1476 (by decide +kernel) (by decide +kernel)
theorem w_1477 : (Jvm.Cond.instanceMethod ({ cls := "WhileSheLooksModel", name := "trace", desc := "(I)I" } : Jvm.MethodName)) ∈ TB := TB_of 1477 (by decide +kernel) (by decide +kernel)
theorem w_1479 : (Jvm.Cond.code ({ cls := "WhileSheLooksModel", name := "trace", desc := "(I)I" } : Jvm.MethodName) prog_14_method_87_code (2 : Nat) (Option.some Jvm.ClassFile.FieldType.int)) ∈ TB := TB_of 1479 (by decide +kernel) (by decide +kernel)
theorem w_1482 : (Jvm.Cond.selects "WhileSheLooksModel" ({ cls := "WhileSheLooksModel", name := "taken", desc := "(II)I" } : Jvm.MethodName) ({ cls := "WhileSheLooksModel", name := "taken", desc := "(II)I" } : Jvm.MethodName)) ∈ TB := TB_of 1482 (by decide +kernel) (by decide +kernel)
theorem w_1480 : (Jvm.Cond.methodLink "WhileSheLooksLaw" (149 : Nat) ({ cls := "WhileSheLooksModel", name := "taken", desc := "(II)I" } : Jvm.MethodName)) ∈ TB := TB_of 1480 (by decide +kernel) (by decide +kernel)
theorem w_1481 : (Jvm.Cond.instanceMethod ({ cls := "WhileSheLooksModel", name := "taken", desc := "(II)I" } : Jvm.MethodName)) ∈ TB := TB_of 1481 (by decide +kernel) (by decide +kernel)
theorem w_1483 : (Jvm.Cond.code ({ cls := "WhileSheLooksModel", name := "taken", desc := "(II)I" } : Jvm.MethodName) prog_14_method_88_code (4 : Nat) (Option.some Jvm.ClassFile.FieldType.int)) ∈ TB := TB_of 1483 (by decide +kernel) (by decide +kernel)
theorem w_1486 : (Jvm.Cond.selects "WhileSheLooksModel" ({ cls := "WhileSheLooksModel", name := "count", desc := "(I)I" } : Jvm.MethodName) ({ cls := "WhileSheLooksModel", name := "count", desc := "(I)I" } : Jvm.MethodName)) ∈ TB := TB_of 1486 (by decide +kernel) (by decide +kernel)
theorem w_1484 : (Jvm.Cond.methodLink "WhileSheLooksLaw" (153 : Nat) ({ cls := "WhileSheLooksModel", name := "count", desc := "(I)I" } : Jvm.MethodName)) ∈ TB := TB_of 1484 (by decide +kernel) (by decide +kernel)
theorem w_1485 : (Jvm.Cond.instanceMethod ({ cls := "WhileSheLooksModel", name := "count", desc := "(I)I" } : Jvm.MethodName)) ∈ TB := TB_of 1485 (by decide +kernel) (by decide +kernel)
theorem w_1487 : (Jvm.Cond.code ({ cls := "WhileSheLooksModel", name := "count", desc := "(I)I" } : Jvm.MethodName) prog_14_method_89_code (2 : Nat) (Option.some Jvm.ClassFile.FieldType.int)) ∈ TB := TB_of 1487 (by decide +kernel) (by decide +kernel)
theorem w_1490 : (Jvm.Cond.selects "WhileSheLooksModel" ({ cls := "WhileSheLooksModel", name := "tape", desc := "(III)I" } : Jvm.MethodName) ({ cls := "WhileSheLooksModel", name := "tape", desc := "(III)I" } : Jvm.MethodName)) ∈ TB := TB_of 1490 (by decide +kernel) (by decide +kernel)
theorem w_1488 : (Jvm.Cond.methodLink "WhileSheLooksLaw" (157 : Nat) ({ cls := "WhileSheLooksModel", name := "tape", desc := "(III)I" } : Jvm.MethodName)) ∈ TB := TB_of 1488 (by decide +kernel) (by decide +kernel)
theorem w_1489 : (Jvm.Cond.instanceMethod ({ cls := "WhileSheLooksModel", name := "tape", desc := "(III)I" } : Jvm.MethodName)) ∈ TB := TB_of 1489 (by decide +kernel) (by decide +kernel)
theorem w_1491 : (Jvm.Cond.code ({ cls := "WhileSheLooksModel", name := "tape", desc := "(III)I" } : Jvm.MethodName) prog_14_method_91_code (5 : Nat) (Option.some Jvm.ClassFile.FieldType.int)) ∈ TB := TB_of 1491 (by decide +kernel) (by decide +kernel)
theorem w_1494 : (Jvm.Cond.selects "WhileSheLooksModel" ({ cls := "WhileSheLooksModel", name := "item", desc := "(IIJ)I" } : Jvm.MethodName) ({ cls := "WhileSheLooksModel", name := "item", desc := "(IIJ)I" } : Jvm.MethodName)) ∈ TB := TB_of 1494 (by decide +kernel) (by decide +kernel)
theorem w_1492 : (Jvm.Cond.methodLink "WhileSheLooksLaw" (164 : Nat) ({ cls := "WhileSheLooksModel", name := "item", desc := "(IIJ)I" } : Jvm.MethodName)) ∈ TB := TB_of 1492 (by decide +kernel) (by decide +kernel)
theorem w_1493 : (Jvm.Cond.instanceMethod ({ cls := "WhileSheLooksModel", name := "item", desc := "(IIJ)I" } : Jvm.MethodName)) ∈ TB := TB_of 1493 (by decide +kernel) (by decide +kernel)
theorem w_1495 : (Jvm.Cond.code ({ cls := "WhileSheLooksModel", name := "item", desc := "(IIJ)I" } : Jvm.MethodName) prog_14_method_93_code (5 : Nat) (Option.some Jvm.ClassFile.FieldType.int)) ∈ TB := TB_of 1495 (by decide +kernel) (by decide +kernel)
theorem w_1502 : (Jvm.Cond.selects "WhileSheLooksModel" ({ cls := "WhileSheLooksModel", name := "read", desc := "(II)J" } : Jvm.MethodName) ({ cls := "WhileSheLooksModel", name := "read", desc := "(II)J" } : Jvm.MethodName)) ∈ TB := TB_of 1502 (by decide +kernel) (by decide +kernel)
theorem w_1500 : (Jvm.Cond.methodLink "WhileSheLooksLaw" (168 : Nat) ({ cls := "WhileSheLooksModel", name := "read", desc := "(II)J" } : Jvm.MethodName)) ∈ TB := TB_of 1500 (by decide +kernel) (by decide +kernel)
theorem w_1501 : (Jvm.Cond.instanceMethod ({ cls := "WhileSheLooksModel", name := "read", desc := "(II)J" } : Jvm.MethodName)) ∈ TB := TB_of 1501 (by decide +kernel) (by decide +kernel)
theorem w_1503 : (Jvm.Cond.code ({ cls := "WhileSheLooksModel", name := "read", desc := "(II)J" } : Jvm.MethodName) prog_14_method_94_code (3 : Nat) (Option.some Jvm.ClassFile.FieldType.long)) ∈ TB := TB_of 1503 (by decide +kernel) (by decide +kernel)
theorem w_1506 : (Jvm.Cond.selects "WhileSheLooksModel" ({ cls := "WhileSheLooksModel", name := "shift", desc := "(IIIII)I" } : Jvm.MethodName) ({ cls := "WhileSheLooksModel", name := "shift", desc := "(IIIII)I" } : Jvm.MethodName)) ∈ TB := TB_of 1506 (by decide +kernel) (by decide +kernel)
theorem w_1504 : (Jvm.Cond.methodLink "WhileSheLooksLaw" (173 : Nat) ({ cls := "WhileSheLooksModel", name := "shift", desc := "(IIIII)I" } : Jvm.MethodName)) ∈ TB := TB_of 1504 (by decide +kernel) (by decide +kernel)
theorem w_1505 : (Jvm.Cond.instanceMethod ({ cls := "WhileSheLooksModel", name := "shift", desc := "(IIIII)I" } : Jvm.MethodName)) ∈ TB := TB_of 1505 (by decide +kernel) (by decide +kernel)
theorem w_1507 : (Jvm.Cond.code ({ cls := "WhileSheLooksModel", name := "shift", desc := "(IIIII)I" } : Jvm.MethodName) prog_14_method_95_code (7 : Nat) (Option.some Jvm.ClassFile.FieldType.int)) ∈ TB := TB_of 1507 (by decide +kernel) (by decide +kernel)
theorem clL_9 : CLi RL 9 mX11_init 0 := cli_of rfl w_24 w_25 w_1 w_26 rfl ⟨by decide +kernel, by decide +kernel, by decide +kernel⟩
theorem clL_13 : CLv RL 13 RX11 mX11_child 2 := clv_of rfl w_332 w_333 w_334 w_1 w_335 ⟨by decide +kernel, by decide +kernel, by decide +kernel⟩
theorem clL_18 : CLv RL 18 RX11 mX11_of 2 := clv_of rfl w_343 w_344 w_345 w_1 w_346 ⟨by decide +kernel, by decide +kernel, by decide +kernel⟩
theorem clL_22 : CLv RL 22 RX11 mX11_set 3 := clv_of rfl w_433 w_434 w_435 w_1 w_436 ⟨by decide +kernel, by decide +kernel, by decide +kernel⟩
theorem clL_27 : CLv RL 27 RX11 mX11_row 3 := clv_of rfl w_441 w_442 w_443 w_1 w_444 ⟨by decide +kernel, by decide +kernel, by decide +kernel⟩
theorem clL_31 : CLv RL 31 RX11 mX11_counts 2 := clv_of rfl w_445 w_446 w_447 w_1 w_448 ⟨by decide +kernel, by decide +kernel, by decide +kernel⟩
theorem clL_35 : CLv RL 35 RX11 mX11_feed 1 := clv_of rfl w_449 w_450 w_451 w_1 w_452 ⟨by decide +kernel, by decide +kernel, by decide +kernel⟩
theorem clL_40 : CLv RL 40 RX11 mX11_yard 0 := clv_of rfl w_453 w_454 w_455 w_1 w_456 ⟨by decide +kernel, by decide +kernel, by decide +kernel⟩
theorem clL_45 : CLv RL 45 RX11 mX11_told 1 := clv_of rfl w_621 w_622 w_623 w_1 w_624 ⟨by decide +kernel, by decide +kernel, by decide +kernel⟩
theorem clL_49 : CLv RL 49 RX11 mX11_turn 0 := clv_of rfl w_625 w_626 w_627 w_1 w_628 ⟨by decide +kernel, by decide +kernel, by decide +kernel⟩
theorem clL_53 : CLv RL 53 RX11 mX11_on 2 := clv_of rfl w_652 w_653 w_654 w_1 w_655 ⟨by decide +kernel, by decide +kernel, by decide +kernel⟩
theorem clL_57 : CLv RL 57 RX11 mX11_touches 1 := clv_of rfl w_669 w_670 w_671 w_1 w_672 ⟨by decide +kernel, by decide +kernel, by decide +kernel⟩
theorem clL_61 : CLv RL 61 RX11 mX11_first 0 := clv_of rfl w_677 w_678 w_679 w_1 w_680 ⟨by decide +kernel, by decide +kernel, by decide +kernel⟩
theorem clL_65 : CLv RL 65 RX11 mX11_risks 0 := clv_of rfl w_685 w_686 w_687 w_1 w_688 ⟨by decide +kernel, by decide +kernel, by decide +kernel⟩
theorem clL_69 : CLv RL 69 RX11 mX11_stands 1 := clv_of rfl w_689 w_690 w_691 w_1 w_692 ⟨by decide +kernel, by decide +kernel, by decide +kernel⟩
theorem clL_73 : CLv RL 73 RX11 mX11_slow 2 := clv_of rfl w_693 w_694 w_695 w_1 w_696 ⟨by decide +kernel, by decide +kernel, by decide +kernel⟩
theorem clL_77 : CLv RL 77 RX11 mX11_order 2 := clv_of rfl w_697 w_698 w_699 w_1 w_700 ⟨by decide +kernel, by decide +kernel, by decide +kernel⟩
theorem clL_81 : CLv RL 81 RX11 mX11_look 1 := clv_of rfl w_707 w_708 w_709 w_1 w_710 ⟨by decide +kernel, by decide +kernel, by decide +kernel⟩
theorem clL_85 : CLv RL 85 RX11 mX11_needs 2 := clv_of rfl w_712 w_713 w_714 w_1 w_715 ⟨by decide +kernel, by decide +kernel, by decide +kernel⟩
theorem clL_89 : CLv RL 89 RX11 mX11_held 2 := clv_of rfl w_716 w_717 w_718 w_1 w_719 ⟨by decide +kernel, by decide +kernel, by decide +kernel⟩
theorem clL_93 : CLv RL 93 RX11 mX11_shield 3 := clv_of rfl w_720 w_721 w_722 w_1 w_723 ⟨by decide +kernel, by decide +kernel, by decide +kernel⟩
theorem clL_97 : CLv RL 97 RX11 mX11_see 3 := clv_of rfl w_724 w_725 w_726 w_1 w_727 ⟨by decide +kernel, by decide +kernel, by decide +kernel⟩
theorem clL_101 : CLv RL 101 RX11 mX11_since 0 := clv_of rfl w_732 w_733 w_734 w_1 w_735 ⟨by decide +kernel, by decide +kernel, by decide +kernel⟩
theorem clL_105 : CLv RL 105 RX11 mX11_who 2 := clv_of rfl w_740 w_741 w_742 w_1 w_743 ⟨by decide +kernel, by decide +kernel, by decide +kernel⟩
theorem clL_109 : CLv RL 109 RX11 mX11_odds 2 := clv_of rfl w_744 w_745 w_746 w_1 w_747 ⟨by decide +kernel, by decide +kernel, by decide +kernel⟩
theorem clL_114 : CLv RL 114 RX11 mX11_mean 2 := clv_of rfl w_752 w_753 w_754 w_1 w_755 ⟨by decide +kernel, by decide +kernel, by decide +kernel⟩
theorem clL_118 : CLv RL 118 RX11 mX11_book 2 := clv_of rfl w_756 w_757 w_758 w_1 w_759 ⟨by decide +kernel, by decide +kernel, by decide +kernel⟩
theorem clL_122 : CLv RL 122 RX11 mX11_looked 0 := clv_of rfl w_764 w_765 w_766 w_1 w_767 ⟨by decide +kernel, by decide +kernel, by decide +kernel⟩
theorem clL_126 : CLv RL 126 RX11 mX11_judge 2 := clv_of rfl w_768 w_769 w_770 w_1 w_771 ⟨by decide +kernel, by decide +kernel, by decide +kernel⟩
theorem clL_130 : CLv RL 130 RX11 mX11_image 0 := clv_of rfl w_775 w_776 w_777 w_1 w_778 ⟨by decide +kernel, by decide +kernel, by decide +kernel⟩
theorem clL_134 : CLv RL 134 RX11 mX11_undo 0 := clv_of rfl w_779 w_780 w_781 w_1 w_782 ⟨by decide +kernel, by decide +kernel, by decide +kernel⟩
theorem clL_138 : CLv RL 138 RX11 mX11_act 3 := clv_of rfl w_783 w_784 w_785 w_1 w_786 ⟨by decide +kernel, by decide +kernel, by decide +kernel⟩
theorem clL_142 : CLv RL 142 RX11 mX11_trace 1 := clv_of rfl w_866 w_867 w_868 w_1 w_869 ⟨by decide +kernel, by decide +kernel, by decide +kernel⟩
theorem clL_146 : CLv RL 146 RX11 mX11_taken 2 := clv_of rfl w_870 w_871 w_872 w_1 w_873 ⟨by decide +kernel, by decide +kernel, by decide +kernel⟩
theorem clL_150 : CLv RL 150 RX11 mX11_count 1 := clv_of rfl w_876 w_877 w_878 w_1 w_879 ⟨by decide +kernel, by decide +kernel, by decide +kernel⟩
theorem clL_154 : CLv RL 154 RX11 mX11_tape 3 := clv_of rfl w_880 w_881 w_882 w_1 w_883 ⟨by decide +kernel, by decide +kernel, by decide +kernel⟩
theorem clL_160 : CLv RL 160 RX11 mX11_item 3 := clv_of rfl w_884 w_885 w_886 w_1 w_887 ⟨by decide +kernel, by decide +kernel, by decide +kernel⟩
theorem clL_165 : CLv RL 165 RX11 mX11_read 2 := clv_of rfl w_891 w_892 w_893 w_1 w_894 ⟨by decide +kernel, by decide +kernel, by decide +kernel⟩
theorem clL_169 : CLv RL 169 RX11 mX11_shift 5 := clv_of rfl w_895 w_896 w_897 w_1 w_898 ⟨by decide +kernel, by decide +kernel, by decide +kernel⟩
theorem clL_12 : CLi RL 12 mX12_init 0 := cli_of rfl w_902 w_903 w_14 w_904 rfl ⟨by decide +kernel, by decide +kernel, by decide +kernel⟩
theorem clL_17 : CLv RL 17 RX12 mX12_child 2 := clv_of rfl w_1130 w_1131 w_1132 w_14 w_1133 ⟨by decide +kernel, by decide +kernel, by decide +kernel⟩
theorem clL_26 : CLv RL 26 RX12 mX12_set 3 := clv_of rfl w_1138 w_1139 w_1140 w_14 w_1141 ⟨by decide +kernel, by decide +kernel, by decide +kernel⟩
theorem clL_30 : CLv RL 30 RX12 mX12_row 3 := clv_of rfl w_1162 w_1163 w_1164 w_14 w_1165 ⟨by decide +kernel, by decide +kernel, by decide +kernel⟩
theorem clL_34 : CLv RL 34 RX12 mX12_counts 2 := clv_of rfl w_1166 w_1167 w_1168 w_14 w_1169 ⟨by decide +kernel, by decide +kernel, by decide +kernel⟩
theorem clL_39 : CLv RL 39 RX12 mX12_feed 1 := clv_of rfl w_1170 w_1171 w_1172 w_14 w_1173 ⟨by decide +kernel, by decide +kernel, by decide +kernel⟩
theorem clL_44 : CLv RL 44 RX12 mX12_yard 0 := clv_of rfl w_1174 w_1175 w_1176 w_14 w_1177 ⟨by decide +kernel, by decide +kernel, by decide +kernel⟩
theorem clL_21 : CLv RL 21 RX12 mX12_of 2 := clv_of rfl w_1238 w_1239 w_1240 w_14 w_1241 ⟨by decide +kernel, by decide +kernel, by decide +kernel⟩
theorem clL_48 : CLv RL 48 RX12 mX12_told 1 := clv_of rfl w_1278 w_1279 w_1280 w_14 w_1281 ⟨by decide +kernel, by decide +kernel, by decide +kernel⟩
theorem clL_52 : CLv RL 52 RX12 mX12_turn 0 := clv_of rfl w_1290 w_1291 w_1292 w_14 w_1293 ⟨by decide +kernel, by decide +kernel, by decide +kernel⟩
theorem clL_56 : CLv RL 56 RX12 mX12_on 2 := clv_of rfl w_1302 w_1303 w_1304 w_14 w_1305 ⟨by decide +kernel, by decide +kernel, by decide +kernel⟩
theorem clL_60 : CLv RL 60 RX12 mX12_touches 1 := clv_of rfl w_1323 w_1324 w_1325 w_14 w_1326 ⟨by decide +kernel, by decide +kernel, by decide +kernel⟩
theorem clL_64 : CLv RL 64 RX12 mX12_first 0 := clv_of rfl w_1331 w_1332 w_1333 w_14 w_1334 ⟨by decide +kernel, by decide +kernel, by decide +kernel⟩
theorem clL_68 : CLv RL 68 RX12 mX12_risks 0 := clv_of rfl w_1335 w_1336 w_1337 w_14 w_1338 ⟨by decide +kernel, by decide +kernel, by decide +kernel⟩
theorem clL_72 : CLv RL 72 RX12 mX12_stands 1 := clv_of rfl w_1339 w_1340 w_1341 w_14 w_1342 ⟨by decide +kernel, by decide +kernel, by decide +kernel⟩
theorem clL_76 : CLv RL 76 RX12 mX12_slow 2 := clv_of rfl w_1343 w_1344 w_1345 w_14 w_1346 ⟨by decide +kernel, by decide +kernel, by decide +kernel⟩
theorem clL_80 : CLv RL 80 RX12 mX12_order 2 := clv_of rfl w_1359 w_1360 w_1361 w_14 w_1362 ⟨by decide +kernel, by decide +kernel, by decide +kernel⟩
theorem clL_84 : CLv RL 84 RX12 mX12_look 1 := clv_of rfl w_1363 w_1364 w_1365 w_14 w_1366 ⟨by decide +kernel, by decide +kernel, by decide +kernel⟩
theorem clL_88 : CLv RL 88 RX12 mX12_needs 2 := clv_of rfl w_1367 w_1368 w_1369 w_14 w_1370 ⟨by decide +kernel, by decide +kernel, by decide +kernel⟩
theorem clL_92 : CLv RL 92 RX12 mX12_held 2 := clv_of rfl w_1371 w_1372 w_1373 w_14 w_1374 ⟨by decide +kernel, by decide +kernel, by decide +kernel⟩
theorem clL_96 : CLv RL 96 RX12 mX12_shield 3 := clv_of rfl w_1379 w_1380 w_1381 w_14 w_1382 ⟨by decide +kernel, by decide +kernel, by decide +kernel⟩
theorem clL_100 : CLv RL 100 RX12 mX12_see 3 := clv_of rfl w_1383 w_1384 w_1385 w_14 w_1386 ⟨by decide +kernel, by decide +kernel, by decide +kernel⟩
theorem clL_104 : CLv RL 104 RX12 mX12_since 0 := clv_of rfl w_1387 w_1388 w_1389 w_14 w_1390 ⟨by decide +kernel, by decide +kernel, by decide +kernel⟩
theorem clL_108 : CLv RL 108 RX12 mX12_who 2 := clv_of rfl w_1395 w_1396 w_1397 w_14 w_1398 ⟨by decide +kernel, by decide +kernel, by decide +kernel⟩
theorem clL_113 : CLv RL 113 RX12 mX12_odds 2 := clv_of rfl w_1399 w_1400 w_1401 w_14 w_1402 ⟨by decide +kernel, by decide +kernel, by decide +kernel⟩
theorem clL_117 : CLv RL 117 RX12 mX12_mean 2 := clv_of rfl w_1412 w_1413 w_1414 w_14 w_1415 ⟨by decide +kernel, by decide +kernel, by decide +kernel⟩
theorem clL_121 : CLv RL 121 RX12 mX12_book 2 := clv_of rfl w_1416 w_1417 w_1418 w_14 w_1419 ⟨by decide +kernel, by decide +kernel, by decide +kernel⟩
theorem clL_125 : CLv RL 125 RX12 mX12_looked 0 := clv_of rfl w_1420 w_1421 w_1422 w_14 w_1423 ⟨by decide +kernel, by decide +kernel, by decide +kernel⟩
theorem clL_129 : CLv RL 129 RX12 mX12_judge 2 := clv_of rfl w_1424 w_1425 w_1426 w_14 w_1427 ⟨by decide +kernel, by decide +kernel, by decide +kernel⟩
theorem clL_133 : CLv RL 133 RX12 mX12_image 0 := clv_of rfl w_1432 w_1433 w_1434 w_14 w_1435 ⟨by decide +kernel, by decide +kernel, by decide +kernel⟩
theorem clL_137 : CLv RL 137 RX12 mX12_undo 0 := clv_of rfl w_1436 w_1437 w_1438 w_14 w_1439 ⟨by decide +kernel, by decide +kernel, by decide +kernel⟩
theorem clL_141 : CLv RL 141 RX12 mX12_act 3 := clv_of rfl w_1440 w_1441 w_1442 w_14 w_1443 ⟨by decide +kernel, by decide +kernel, by decide +kernel⟩
theorem clL_145 : CLv RL 145 RX12 mX12_trace 1 := clv_of rfl w_1476 w_1477 w_1478 w_14 w_1479 ⟨by decide +kernel, by decide +kernel, by decide +kernel⟩
theorem clL_149 : CLv RL 149 RX12 mX12_taken 2 := clv_of rfl w_1480 w_1481 w_1482 w_14 w_1483 ⟨by decide +kernel, by decide +kernel, by decide +kernel⟩
theorem clL_153 : CLv RL 153 RX12 mX12_count 1 := clv_of rfl w_1484 w_1485 w_1486 w_14 w_1487 ⟨by decide +kernel, by decide +kernel, by decide +kernel⟩
theorem clL_157 : CLv RL 157 RX12 mX12_tape 3 := clv_of rfl w_1488 w_1489 w_1490 w_14 w_1491 ⟨by decide +kernel, by decide +kernel, by decide +kernel⟩
theorem clL_164 : CLv RL 164 RX12 mX12_item 3 := clv_of rfl w_1492 w_1493 w_1494 w_14 w_1495 ⟨by decide +kernel, by decide +kernel, by decide +kernel⟩
theorem clL_168 : CLv RL 168 RX12 mX12_read 2 := clv_of rfl w_1500 w_1501 w_1502 w_14 w_1503 ⟨by decide +kernel, by decide +kernel, by decide +kernel⟩
theorem clL_173 : CLv RL 173 RX12 mX12_shift 5 := clv_of rfl w_1504 w_1505 w_1506 w_14 w_1507 ⟨by decide +kernel, by decide +kernel, by decide +kernel⟩
