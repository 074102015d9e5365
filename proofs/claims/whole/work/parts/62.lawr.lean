-- THE LAW: its rules
def R_law : String := "WhileSheLooksLaw"
def lw_P (b : Addr) (xs : List Int32) (args : Array Value) (s : State) : Prop := args = #[.ref b] ∧ s.IntsAt b xs ∧ xs.length ≤ 3072 ∧ (Jvm.Cond.and given_1 narrow_1).before args s = true
def lw_Q (_ : Array Value) (s : State) (o : Outcome) (t : State) : Prop := o = .returned (some (.int 1)) ∧ Framed s o t [] 600000 7302250
def lw_Z (below : List Frame) (a : Array Value) (s : State) : State → Prop := fun t => ∃ o, t.status = .running ∧ Ended t below o ∧ lw_Q a s o t
/-- the law's own end, with 1 on the stack, nothing written that was there before, its room as the claim has it -/
theorem lw_ret {p : Program} {l : Launch} {e : Env} {s : State} {m : MethodId} {below : List Frame} {meth : Method} {c : Code} {b : Nat} (hx : p.tables.exec = Jvm.exec) (hb : c.code = code) (hr : meth.sig.returnType = ret) (hlocks : meth.locks = false) {pc : Nat} {H : Heap} {ls : Array Slot} (hdg : decode code pc = .ok (.ireturn, 1)) : W p l e room_1 s m #[Value.ref b] below meth c H [] 600000 7302250 (lw_Z below #[Value.ref b] s) (F0 m pc ls [.int 1]) := by
  intro T hT X
  obtain ⟨fs, hret, hrun, hended, hW, hframe⟩ := X.leave (v := some (.int 1)) (hlocks := hlocks) (fun h => by rw [hr] at h; cases h)
  have hmeth' : T.vm.method? m = some meth := X.method'
  refine ⟨T.setFrames fs, ?_, .returned (some (.int 1)), hrun, hended, rfl, ⟨_, rfl⟩, hW, hframe⟩
  jvm_step X.here [X.here.top, hx, hb, hdg, hmeth', hr, ret, narrow_b1]
  (try refine ⟨rfl, ?_⟩); (try refine ⟨rfl, ?_⟩)
  first | (intro acts; rw [hret _ acts rfl rfl rfl]) | rw [hret _ _ rfl rfl rfl]
  exact Steps.refl _
/-- what holds at the law's entry: the machine, the code, the tables' words (any of lw_tbl by 'hts w (by decide +kernel)'), the script of L ints xs at the cell b, what the Statement gives of the start (any of its parts by flat_of_before) -/
def lw_At (p : Program) (s : State) (m : MethodId) (meth : Method) (c : Code) (b L : Nat) (xs : Nat → Int32) : Prop :=
  p.tables.exec = Jvm.exec ∧ c.code = code ∧ meth.sig.returnType = ret ∧ c.maxLocals = 4 ∧ s.vm.findClass R_law = some m.cls ∧ (∀ w ∈ lw_tbl, w.before #[Value.ref b] s = true) ∧ va_X b L xs s s.heap ∧ b < s.heap.size ∧ meth.locks = false ∧ (Jvm.Cond.and given_1 narrow_1).before #[Value.ref b] s = true
theorem wsOf_addr {g : GG} {ρ : Nat → Nat} {sh : List CS} {S : SS} {L : LL} {k : Nat} {q : Nat × va_E} (h : (wsOf g ρ sh S L)[k]? = some q) : k < sh.length ∧ q.1 = ρ k := by
  have hl := (List.getElem?_eq_some_iff.mp h).1
  rw [wsOf_len] at hl
  refine ⟨hl, ?_⟩
  rw [wsOf_get (List.getElem?_eq_getElem hl)] at h
  cases h
  rfl
theorem Wd.kept {g : GG} {n0 : Nat} {ρ0 ρ : Nat → Nat} {sh : List CS} {S : SS} {L : LL} {A : Nat → Prop} {H H' : Heap} {locs locs' : List Loc} {s : State} (Y : Wd g n0 ρ0 ρ sh S L A H locs s) (hS : va_S A s.heap H' locs') (hk : ∀ k, k < sh.length → H'[ρ k]? = H[ρ k]?) : Wd g n0 ρ0 ρ sh S L A H' locs' s :=
  ⟨Y.1, Y.2.1, hS, Y.2.2.2.1, Y.2.2.2.2.1.kept (fun k q hq => by obtain ⟨h1, h2⟩ := wsOf_addr hq; rw [h2]; exact hk k h1), Y.2.2.2.2.2.1, Y.2.2.2.2.2.2⟩
theorem Wd.self {g : GG} {n0 : Nat} {ρ0 ρ : Nat → Nat} {sh : List CS} {S : SS} {L : LL} {A : Nat → Prop} {H : Heap} {locs : List Loc} {s : State} (Y : Wd g n0 ρ0 ρ sh S L A H locs s) : Wd g sh.length ρ ρ sh S L A H locs s := ⟨⟨Nat.le_refl _, Y.1.2.1, fun _ _ => rfl⟩, Y.2⟩
theorem Wd.addr_lt {g : GG} {n0 : Nat} {ρ0 ρ : Nat → Nat} {sh : List CS} {S : SS} {L : LL} {A : Nat → Prop} {H : Heap} {locs : List Loc} {s : State} (Y : Wd g n0 ρ0 ρ sh S L A H locs s) {k : Nat} (hk : k < sh.length) : ρ k < H.size :=
  (Y.2.2.2.2.1 k _ (wsOf_get (List.getElem?_eq_getElem hk))).lt
/-- behind a call: what it left, and that it left all else as it was -/
theorem ct_post2 {g : GG} {sh : List CS} {S : SS} {L : LL} {p : Program} {e : Env} {R : Room} {s : State} {m : MethodId} {args : Array Value} {below : List Frame} {meth : Method} {c : Code} {n0 cu su pc : Nat} {ρ0 : Nat → Nat} {A : Nat → Prop} {ρ : Nat → Nat} {H : Heap} {locs : List Loc} {als : Array Slot} {a : Array Value} {stk restR : List Value} {free : Addr → Prop} {W' : State → Prop} {Qj : Option Value → List CS → SS → LL → Prop} {mc' ms' : Nat}
    (X : Wd g n0 ρ0 ρ sh S L A H locs s) (hfree : ∀ q, free q → va_A (wsOf g ρ sh S L) H.size q)
    (hr : va_Run p g.1 e R s m args below meth c H locs cu su mc' ms' (F0 m pc als stk) restR (Qx g ρ sh.length (va_A (wsOf g ρ sh S L) H.size) Qj a) free)
    (kk : ∀ (r : Option Value) (sh' : List CS) (S' : SS) (L' : LL) (ρ' : Nat → Nat) (H' : Heap) (locs' : List Loc), Qj r sh' S' L' → (sh.length ≤ sh'.length ∧ ∀ k, k < sh.length ∨ sh'.length ≤ k → ρ' k = ρ k) → (H.size ≤ H'.size ∧ ∀ q : Nat, q < H.size → ¬ va_A (wsOf g ρ sh S L) H.size q → H'[q]? = H[q]?) → va_D (va_A (wsOf g ρ sh S L) H.size) (wsOf g ρ' sh' S' L') → Wd g n0 ρ0 ρ' sh' S' L' A H' locs' s → W p g.1 e R s m args below meth c H' locs' (cu + mc') (su + ms') W' (F0 m (pc + 3) als ((r.map (vm g ρ')).toList ++ restR))) :
    W p g.1 e R s m args below meth c H locs cu su W' (F0 m pc als stk) := by
  have hA1 : ∀ q, va_A (wsOf g ρ sh S L) H.size q → A q := fun q hq => by
    rcases hq with ⟨k, e, hk⟩ | hq
    · exact X.2.2.2.2.2.1.2 k _ hk
    · exact X.2.1 q (Nat.le_trans X.2.2.1.1 hq)
  intro T hT XS
  obtain ⟨v, st₀, t, T', L1, h0, X', hL, e1, e2, ⟨⟨r, sh', S', L', ρ', ho, ⟨n1, n2, n3⟩, hq, hP', hD'⟩, hz, hk⟩, stp⟩ := hr T hT XS
  cases ho
  rw [h0] at hz hk
  have hS := X.2.2.1
  have W1 := kk r sh' S' L' ρ' T'.heap (locs ++ L1) hq ⟨n1, n3⟩ ⟨by rw [e1]; exact hz, fun q h1 h2 => by rw [e1]; exact hk q h1 h2⟩ hD' ⟨⟨Nat.le_trans X.1.1 n1, n2, fun k hk' => by
      rcases hk' with hk' | hk'
      · rw [n3 k (Or.inl (Nat.lt_of_lt_of_le hk' X.1.1)), X.1.2.2 k (Or.inl hk')]
      · rw [n3 k (Or.inr hk'), X.1.2.2 k (Or.inr (Nat.le_trans n1 hk'))]⟩, X.2.1,
    ⟨Nat.le_trans hS.1 (by rw [e1]; exact hz), fun q h1 h2 => by rw [e1, hk q (Nat.lt_of_lt_of_le h1 hS.1) (fun z => h2 (hA1 q z))]; exact hS.2.1 q h1 h2, fun q hq => by
      rcases List.mem_append.mp hq with h | h
      · exact hS.2.2 q h
      · exact hA1 _ (hfree _ (hL q h))⟩, X.2.2.2.1, by rw [e1]; exact hP', hD'.weaken (fun _ q _ h => hA1 q.1 h), X.2.2.2.2.2.2⟩
  obtain ⟨t2, a1, b1⟩ := W1 T' rfl X'
  exact ⟨t2, stp t2 a1, b1⟩
/-- a call into one of two worlds that lie apart -/
theorem lw_call {g : GG} {R : Room} {shX shY : List CS} {ρX ρY : Nat → Nat} {SX SY : SS} {LX LY : LL} {p : Program} {e : Env} {s : State} {m : MethodId} {args : Array Value} {below : List Frame} {meth : Method} {c : Code} {A : Nat → Prop} {H : Heap} {locs : List Loc} {als : Array Slot} {W' : State → Prop} {own Cn : String} {cc : ByteArray} {nL idx n d' cells slots pc : Nat} {M' : MI} {As rest : List Value} {Qj : Option Value → SS → LL → Prop}
    (hF : CallFix p m c cc nL s args TB own) (cl : CLv own idx Cn M' n) (dd : decode cc pc = .ok (.invokevirtual idx, 3)) (hv : Rcv shX 0 Cn) (hR : d' + 1 ≤ R.frames ∧ 8 + (M'.2.2.1 + 11) + 100 * d' ≤ R.locals) (hn : As.length = n) (hAs : As.map (vm g ρX) = As) (hals : als.size = nL) (hr : (rest.map fun v => v.category).sum ≤ 8) (hcu : cells ≤ R.cells ∧ slots ≤ R.slots)
    (hC : Ct g d' 0 0 M' (.ref 0 :: As) shX SX LX (fun r sh' S' L' => sh' = shX ∧ Qj r S' L')) (X : Wd g shX.length ρX ρX shX SX LX A H locs s) (Y : Wd g shY.length ρY ρY shY SY LY A H locs s) (hap : ∀ i j, i < shX.length → j < shY.length → ρX i ≠ ρY j)
    (kk : ∀ (r : Option Value) (SX' : SS) (LX' : LL) (H' : Heap) (locs' : List Loc), Qj r SX' LX' → Wd g shX.length ρX ρX shX SX' LX' A H' locs' s → Wd g shY.length ρY ρY shY SY LY A H' locs' s → W p g.1 e R s m args below meth c H' locs' cells slots W' (F0 m (pc + 3) als ((r.map (vm g ρX)).toList ++ rest))) :
    W p g.1 e R s m args below meth c H locs cells slots W' (F0 m pc als (As.reverse ++ .ref (ρX 0) :: rest)) := by
  have hpre := ct_pre (av := .ref 0 :: As) X
  refine ct_post2 (Qj := fun r sh' S' L' => sh' = shX ∧ Qj r S' L') (mc' := 0) (ms' := 0) X (fun q hq => hq) (cl (As := As.map (vm g ρX)) (rest := rest) (b := ad g ρX 0) X.2.2.2.2.2.2.2.2.2.2.2.2 hF (hC ρX H.size) rfl rfl hR ⟨hpre.1, hv.cell X, hpre.2⟩ rfl (by rw [List.length_map]; exact hn) hals (by show As.reverse ++ .ref (ρX 0) :: rest = _; rw [hAs]; rfl) (by show 2 * 0 + _ ≤ 8; omega) dd hcu) (fun r1 sh' S' L' ρ' H' locs' hq hρ hk hD' X' => ?_)
  obtain ⟨rfl, hq⟩ := hq
  have e : ρ' = ρX := funext fun k => hρ.2 k (by omega)
  subst e
  refine kk r1 S' L' H' locs' hq X' (Y.kept X'.2.2.1 (fun k hk1 => hk.2 _ (Y.addr_lt hk1) ?_))
  rintro (⟨k2, e2, h2⟩ | h2)
  · obtain ⟨h3, h4⟩ := wsOf_addr h2
    exact hap k2 k h3 hk1 h4.symm
  · have := Y.addr_lt hk1
    omega
/-- a constructor called, in a world of its own -/
theorem lw_init {g : GG} {R : Room} {sh sh2 : List CS} {ρ ρ0 : Nat → Nat} {S S2 : SS} {L L2 : LL} {n0 : Nat} {p : Program} {e : Env} {s : State} {m : MethodId} {args : Array Value} {below : List Frame} {meth : Method} {c : Code} {A : Nat → Prop} {H : Heap} {locs : List Loc} {als : Array Slot} {W' : State → Prop} {own : String} {cc : ByteArray} {nL idx d' mc' ms' cells slots pc : Nat} {M' : MI} {rest : List Value}
    (hF : CallFix p m c cc nL s args TB own) (cl : CLi own idx M' 0) (dd : decode cc pc = .ok (.invokespecial idx, 3)) (hR : d' + 1 ≤ R.frames ∧ 8 + (M'.2.2.1 + 11) + 100 * d' ≤ R.locals) (hals : als.size = nL) (hr : (rest.map fun v => v.category).sum ≤ 8) (hcu : cells + mc' ≤ R.cells ∧ slots + ms' ≤ R.slots)
    (hC : Ct g d' mc' ms' M' [.ref 0] sh S L (fun o sh' S' L' => o = none ∧ sh' = sh2 ∧ S' = S2 ∧ L' = L2)) (X : Wd g n0 ρ0 ρ sh S L A H locs s)
    (kk : ∀ (ρ' : Nat → Nat) (H' : Heap) (locs' : List Loc), (∀ k, k < sh.length → ρ' k = ρ k) → (H.size ≤ H'.size ∧ ∀ q : Nat, q < H.size → ¬ va_A (wsOf g ρ sh S L) H.size q → H'[q]? = H[q]?) → va_D (va_A (wsOf g ρ sh S L) H.size) (wsOf g ρ' sh2 S2 L2) → Wd g n0 ρ0 ρ' sh2 S2 L2 A H' locs' s → W p g.1 e R s m args below meth c H' locs' (cells + mc') (slots + ms') W' (F0 m (pc + 3) als rest)) :
    W p g.1 e R s m args below meth c H locs cells slots W' (F0 m pc als (.ref (ρ 0) :: rest)) := by
  have hpre := ct_pre (av := [.ref 0]) X
  refine ct_post2 (Qj := fun o sh' S' L' => o = none ∧ sh' = sh2 ∧ S' = S2 ∧ L' = L2) (mc' := mc') (ms' := ms') (restR := rest) X (fun q hq => hq) (cl (As := []) (rest := rest) (b := ad g ρ 0) X.2.2.2.2.2.2.2.2.2.2.2.2 hF (hC ρ H.size) rfl rfl hR ⟨hpre.1, hpre.2⟩ rfl rfl hals rfl (by show 2 * 0 + _ ≤ 8; omega) dd hcu) (fun r1 sh' S' L' ρ' H' locs' hq hρ hk hD' X' => ?_)
  obtain ⟨rfl, rfl, rfl, rfl⟩ := hq
  exact kk ρ' H' locs' (fun k h => hρ.2 k (Or.inl h)) hk hD' X'
-- the law's two worlds
def LWd (g : GG) (s : State) (ρ1 ρ2 : Nat → Nat) (S1 : SS) (L1 : LL) (S2 : SS) (L2 : LL) (H : Heap) (locs : List Loc) : Prop := Wd g SHC.length ρ1 ρ1 SHC S1 L1 (fun q : Nat => s.heap.size ≤ q) H locs s ∧ Wd g SHM.length ρ2 ρ2 SHM S2 L2 (fun q : Nat => s.heap.size ≤ q) H locs s ∧ ∀ i j, i < SHC.length → j < SHM.length → ρ1 i ≠ ρ2 j
section LAW
variable {g : GG} {p : Program} {e : Env} {s : State} {m : MethodId} {below : List Frame} {meth : Method} {c : Code} {b L : Nat} {xs : Nat → Int32} {ρ1 ρ2 : Nat → Nat} {S1 S2 : SS} {L1 L2 : LL} {H : Heap} {locs : List Loc} {als : Array Slot} {cells slots pc : Nat}
theorem lw_F (C0 : lw_At p s m meth c b L xs) : CallFix p m c code 4 s #[Value.ref b] TB RL := ⟨C0.1, C0.2.1, C0.2.2.2.1, C0.2.2.2.2.1, TB_tbl C0.2.2.2.2.2.1⟩
theorem lw_cCi (C0 : lw_At p s m meth c b L xs) {idx n d' : Nat} {M' : MI} {As rest : List Value} {P : Int32 → SS → LL → Prop} (cl : CLv RL idx RX11 M' n) (dd : decode code pc = .ok (.invokevirtual idx, 3)) (hz : (Nat.ble d' 100 && (Nat.ble M'.2.2.1 81 && Nat.ble (rest.map fun v => v.category).sum 8)) = true) (hn : As.length = n) (hAs : ∀ ρ, As.map (vm g ρ) = As) (hals : als.size = 4) (hcu : cells ≤ 600000 ∧ slots ≤ 7302250)
    (hC : Ci g d' M' (.ref 0 :: As) SHC S1 L1 P) (X : LWd g s ρ1 ρ2 S1 L1 S2 L2 H locs)
    (kk : ∀ (x : Int32) (S1' : SS) (L1' : LL) (H' : Heap) (locs' : List Loc), P x S1' L1' → LWd g s ρ1 ρ2 S1' L1' S2 L2 H' locs' → W p g.1 e room_1 s m #[Value.ref b] below meth c H' locs' cells slots (lw_Z below #[Value.ref b] s) (F0 m (pc + 3) als (.int x :: rest))) :
    W p g.1 e room_1 s m #[Value.ref b] below meth c H locs cells slots (lw_Z below #[Value.ref b] s) (F0 m pc als (As.reverse ++ .ref (ρ1 0) :: rest)) := by
  simp only [Bool.and_eq_true, Nat.ble_eq] at hz
  refine lw_call (Qj := fun r S' L' => ∃ x, r = some (.int x) ∧ P x S' L') (lw_F C0) cl dd (rcvo (sC_0) rfl) ⟨by show d' + 1 ≤ 2048; omega, by show 8 + (M'.2.2.1 + 11) + 100 * d' ≤ 84000; omega⟩ hn (hAs ρ1) hals hz.2.2 hcu hC X.1 X.2.1 X.2.2 (fun r S' L' H' locs' hq X1 Y1 => ?_)
  obtain ⟨x, rfl, hq⟩ := hq
  exact kk x S' L' H' locs' hq ⟨X1, Y1, X.2.2⟩
theorem lw_cCl (C0 : lw_At p s m meth c b L xs) {idx n d' : Nat} {M' : MI} {As rest : List Value} {P : Int64 → SS → LL → Prop} (cl : CLv RL idx RX11 M' n) (dd : decode code pc = .ok (.invokevirtual idx, 3)) (hz : (Nat.ble d' 100 && (Nat.ble M'.2.2.1 81 && Nat.ble (rest.map fun v => v.category).sum 8)) = true) (hn : As.length = n) (hAs : ∀ ρ, As.map (vm g ρ) = As) (hals : als.size = 4) (hcu : cells ≤ 600000 ∧ slots ≤ 7302250)
    (hC : Cl g d' M' (.ref 0 :: As) SHC S1 L1 P) (X : LWd g s ρ1 ρ2 S1 L1 S2 L2 H locs)
    (kk : ∀ (x : Int64) (S1' : SS) (L1' : LL) (H' : Heap) (locs' : List Loc), P x S1' L1' → LWd g s ρ1 ρ2 S1' L1' S2 L2 H' locs' → W p g.1 e room_1 s m #[Value.ref b] below meth c H' locs' cells slots (lw_Z below #[Value.ref b] s) (F0 m (pc + 3) als (.long x :: rest))) :
    W p g.1 e room_1 s m #[Value.ref b] below meth c H locs cells slots (lw_Z below #[Value.ref b] s) (F0 m pc als (As.reverse ++ .ref (ρ1 0) :: rest)) := by
  simp only [Bool.and_eq_true, Nat.ble_eq] at hz
  refine lw_call (Qj := fun r S' L' => ∃ x, r = some (.long x) ∧ P x S' L') (lw_F C0) cl dd (rcvo (sC_0) rfl) ⟨by show d' + 1 ≤ 2048; omega, by show 8 + (M'.2.2.1 + 11) + 100 * d' ≤ 84000; omega⟩ hn (hAs ρ1) hals hz.2.2 hcu hC X.1 X.2.1 X.2.2 (fun r S' L' H' locs' hq X1 Y1 => ?_)
  obtain ⟨x, rfl, hq⟩ := hq
  exact kk x S' L' H' locs' hq ⟨X1, Y1, X.2.2⟩
theorem lw_cMi (C0 : lw_At p s m meth c b L xs) {idx n d' : Nat} {M' : MI} {As rest : List Value} {P : Int32 → SS → LL → Prop} (cl : CLv RL idx RX12 M' n) (dd : decode code pc = .ok (.invokevirtual idx, 3)) (hz : (Nat.ble d' 100 && (Nat.ble M'.2.2.1 81 && Nat.ble (rest.map fun v => v.category).sum 8)) = true) (hn : As.length = n) (hAs : ∀ ρ, As.map (vm g ρ) = As) (hals : als.size = 4) (hcu : cells ≤ 600000 ∧ slots ≤ 7302250)
    (hC : Ci g d' M' (.ref 0 :: As) SHM S2 L2 P) (X : LWd g s ρ1 ρ2 S1 L1 S2 L2 H locs)
    (kk : ∀ (x : Int32) (S2' : SS) (L2' : LL) (H' : Heap) (locs' : List Loc), P x S2' L2' → LWd g s ρ1 ρ2 S1 L1 S2' L2' H' locs' → W p g.1 e room_1 s m #[Value.ref b] below meth c H' locs' cells slots (lw_Z below #[Value.ref b] s) (F0 m (pc + 3) als (.int x :: rest))) :
    W p g.1 e room_1 s m #[Value.ref b] below meth c H locs cells slots (lw_Z below #[Value.ref b] s) (F0 m pc als (As.reverse ++ .ref (ρ2 0) :: rest)) := by
  simp only [Bool.and_eq_true, Nat.ble_eq] at hz
  refine lw_call (Qj := fun r S' L' => ∃ x, r = some (.int x) ∧ P x S' L') (lw_F C0) cl dd (rcvo (sM_0) rfl) ⟨by show d' + 1 ≤ 2048; omega, by show 8 + (M'.2.2.1 + 11) + 100 * d' ≤ 84000; omega⟩ hn (hAs ρ2) hals hz.2.2 hcu hC X.2.1 X.1 (fun i j hi hj e => X.2.2 j i hj hi e.symm) (fun r S' L' H' locs' hq X1 Y1 => ?_)
  obtain ⟨x, rfl, hq⟩ := hq
  exact kk x S' L' H' locs' hq ⟨Y1, X1, X.2.2⟩
theorem lw_cMl (C0 : lw_At p s m meth c b L xs) {idx n d' : Nat} {M' : MI} {As rest : List Value} {P : Int64 → SS → LL → Prop} (cl : CLv RL idx RX12 M' n) (dd : decode code pc = .ok (.invokevirtual idx, 3)) (hz : (Nat.ble d' 100 && (Nat.ble M'.2.2.1 81 && Nat.ble (rest.map fun v => v.category).sum 8)) = true) (hn : As.length = n) (hAs : ∀ ρ, As.map (vm g ρ) = As) (hals : als.size = 4) (hcu : cells ≤ 600000 ∧ slots ≤ 7302250)
    (hC : Cl g d' M' (.ref 0 :: As) SHM S2 L2 P) (X : LWd g s ρ1 ρ2 S1 L1 S2 L2 H locs)
    (kk : ∀ (x : Int64) (S2' : SS) (L2' : LL) (H' : Heap) (locs' : List Loc), P x S2' L2' → LWd g s ρ1 ρ2 S1 L1 S2' L2' H' locs' → W p g.1 e room_1 s m #[Value.ref b] below meth c H' locs' cells slots (lw_Z below #[Value.ref b] s) (F0 m (pc + 3) als (.long x :: rest))) :
    W p g.1 e room_1 s m #[Value.ref b] below meth c H locs cells slots (lw_Z below #[Value.ref b] s) (F0 m pc als (As.reverse ++ .ref (ρ2 0) :: rest)) := by
  simp only [Bool.and_eq_true, Nat.ble_eq] at hz
  refine lw_call (Qj := fun r S' L' => ∃ x, r = some (.long x) ∧ P x S' L') (lw_F C0) cl dd (rcvo (sM_0) rfl) ⟨by show d' + 1 ≤ 2048; omega, by show 8 + (M'.2.2.1 + 11) + 100 * d' ≤ 84000; omega⟩ hn (hAs ρ2) hals hz.2.2 hcu hC X.2.1 X.1 (fun i j hi hj e => X.2.2 j i hj hi e.symm) (fun r S' L' H' locs' hq X1 Y1 => ?_)
  obtain ⟨x, rfl, hq⟩ := hq
  exact kk x S' L' H' locs' hq ⟨Y1, X1, X.2.2⟩
/-- item i + k of the script -/
theorem lw_arg (C0 : lw_At p s m meth c b L xs) (hLs : L ≤ 3072) (X : LWd g s ρ1 ρ2 S1 L1 S2 L2 H locs) {n : Nat} {q1 q2 : Nat} {st : List Value} (hl : lv_has als 4 [(0, .ref b), (1, .ref q1), (2, .ref q2), (3, .int (nI n))]) (k : Nat) (hk : n + k < L) {kc : Int32} {ki : Int} (hkc : kc = nI k) (d0 : decode code pc = .ok (.aload_n 0, 1)) (d1 : decode code (pc + 1) = .ok (.iload_n 3, 1)) (d2 : decode code (pc + 1 + 1) = .ok (.iconst ki, 1)) (hki : Int32.ofInt ki = kc) (d3 : decode code (pc + 1 + 1 + 1) = .ok (.iadd, 1)) (d4 : decode code (pc + 1 + 1 + 1 + 1) = .ok (.iaload, 1))
    (kk : W p g.1 e room_1 s m #[Value.ref b] below meth c H locs cells slots (lw_Z below #[Value.ref b] s) (F0 m (pc + 1 + 1 + 1 + 1 + 1) als (.int (xs (n + k)) :: st))) :
    W p g.1 e room_1 s m #[Value.ref b] below meth c H locs cells slots (lw_Z below #[Value.ref b] s) (F0 m pc als st) := by
  obtain ⟨hx, hb, hr, hml, hown, hts, hX, hbl, hlocks, hgv⟩ := id C0
  refine lv_aload_n hx hb d0 rfl (lv_at hl 0 rfl) ?_
  refine lv_iload_n hx hb d1 rfl (lv_at hl 3 rfl) ?_
  refine lv_iconst (v := kc) hx hb d2 hki ?_
  refine lv_iadd hx hb d3 ?_
  rw [hkc, nI_add]
  refine va_sld hx hb hX hbl (Nat.not_le.mpr hbl) X.1.2.2.1 (vp_in_nI hk (by omega)) d4 ?_
  rw [nI_clamp (by omega)]
  exact kk
end LAW
