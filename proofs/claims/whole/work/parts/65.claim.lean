-- THE LAW from its entry, and the claim out of it
theorem fresh_f {g : GG} {ρ : Nat → Nat} {fs : List (Nat × Nat × Nat)} {x : Nat → Int32} (hx : x = fun _ => 0) (hf : fs.all (fun f => Nat.ble f.1 1) = true) : fs.mapIdx (fun i f => vm g ρ (afv f (x i))) = fs.map (fun f => afv f 0) := by
  subst hx
  refine List.ext_getElem? fun i => ?_
  simp only [List.getElem?_mapIdx, List.getElem?_map]
  cases hj : fs[i]? with
  | none => rfl
  | some f =>
    have h1 : f.1 ≤ 1 := Nat.le_of_ble_eq_true (List.all_eq_true.mp hf f (List.mem_of_getElem? hj))
    obtain ⟨t, a, b⟩ := f
    have h1 : t ≤ 1 := h1
    rcases (show t = 0 ∨ t = 1 by omega) with e | e <;> subst e <;> rfl
def nuA : List (Nat × Nat × Nat) := [(1, 0, 0), (1, 0, 0), (0, 0, 0), (1, 0, 0), (0, 0, 0), (1, 0, 0), (1, 0, 0), (1, 0, 0), (0, 0, 0), (1, 0, 0), (1, 0, 0), (1, 0, 0), (1, 0, 0), (1, 0, 0)]
def nuB : List (Nat × Nat × Nat) := [(0, 0, 0), (0, 0, 0), (0, 0, 0), (1, 0, 0), (1, 0, 0), (1, 0, 0), (1, 0, 0), (1, 0, 0), (1, 0, 0), (1, 0, 0), (0, 0, 0), (0, 0, 0), (0, 0, 0), (0, 0, 0), (0, 0, 0), (1, 0, 0), (1, 0, 0), (1, 0, 0), (1, 0, 0), (1, 0, 0), (1, 0, 0), (1, 0, 0), (1, 0, 0), (0, 0, 0), (0, 0, 0), (0, 0, 0), (1, 0, 0), (0, 0, 0), (1, 0, 0), (0, 0, 0), (0, 0, 0), (1, 0, 0), (1, 0, 0), (0, 0, 0), (0, 0, 0), (1, 0, 0), (1, 0, 0), (1, 0, 0), (0, 0, 0), (0, 0, 0), (1, 0, 0), (1, 0, 0), (0, 0, 0), (1, 0, 0), (1, 0, 0), (1, 0, 0), (0, 0, 0), (1, 0, 0), (1, 0, 0), (0, 0, 0), (0, 0, 0), (0, 0, 0), (0, 0, 0), (0, 0, 0), (0, 0, 0), (0, 0, 0), (1, 0, 0), (1, 0, 0), (1, 0, 0), (1, 0, 0), (1, 0, 0), (1, 0, 0), (1, 0, 0), (1, 0, 0), (1, 0, 0), (1, 0, 0), (1, 0, 0), (1, 0, 0), (0, 0, 0), (1, 0, 0), (1, 0, 0), (1, 0, 0), (1, 0, 0), (1, 0, 0)]
def fsA : List Value := nuA.map (fun f => afv f 0)
def fsB : List Value := nuB.map (fun f => afv f 0)
theorem wsA0 (g : GG) (q : Nat) : wsOf g (fun _ => q) (shA 0) sA0 ZL = [(q, .inr (11, fsA))] := by
  rw [show shA 0 = [(0, 11, nuA)] from by decide +kernel]
  show [(q, Sum.inr (11, nuA.mapIdx (fun i f => vm g (fun _ => q) (afv f (sA0 0 i)))))] = _
  rw [fresh_f (x := sA0 0) rfl (by decide +kernel)]
  rfl
theorem wsB0 (g : GG) (q : Nat) : wsOf g (fun _ => q) (shB 0) sB0 ZL = [(q, .inr (12, fsB))] := by
  rw [show shB 0 = [(0, 12, nuB)] from by decide +kernel]
  show [(q, Sum.inr (12, nuB.mapIdx (fun i f => vm g (fun _ => q) (afv f (sB0 0 i)))))] = _
  rw [fresh_f (x := sB0 0) rfl (by decide +kernel)]
  rfl
theorem one_D {A : Nat → Prop} {x : Nat × va_E} (h : A x.1) : va_D A [x] := by
  have key : ∀ (k : Nat) (q : Nat × va_E), ([x] : va_W)[k]? = some q → k = 0 ∧ q = x := fun k q hk => by
    cases k with
    | zero => exact ⟨rfl, by simpa using hk.symm⟩
    | succ k => simp at hk
  exact ⟨fun i j p q hi hj _ => by rw [(key i p hi).1, (key j q hj).1], fun k q hk => by rw [(key k q hk).2]; exact h⟩
set_option maxRecDepth 100000 in
set_option maxHeartbeats 4000000 in
/-- from the entry, for every script of at most 3072 ints, the law comes to its end with true -/
theorem whole_start {p : Program} {e : Env} {s : State} {m : MethodId} {below : List Frame} {meth : Method} {c : Code} (l : Launch) (hflags : l.flags = flags0) {b L : Nat} {xs : Nat → Int32} (hL : L ≤ 3072) (C0 : lw_At p s m meth c b L xs) : W p l e room_1 s m #[Value.ref b] below meth c s.heap [] 0 0 (lw_Z below #[Value.ref b] s) (entryFrame m ([Value.ref b] : List Value).toArray 4) := by
  obtain ⟨hx, hb, hr, hml, hown, hts, hX, hbl, hlocks, hgv⟩ := id C0
  obtain ⟨g, rfl, hK, hT⟩ := law_g l hts hgv
  have ht := TB_tbl hts
  have hA : ∀ q : Nat, s.heap.size ≤ q → (fun q : Nat => s.heap.size ≤ q) q := fun _ h => h
  have hS0 : va_S (fun q : Nat => s.heap.size ≤ q) s.heap s.heap [] := va_S.rf
  have hP0 : va_P g.2.1 vwCl [] s.heap := fun k q h => by simp at h
  have hD0 : va_D (fun q : Nat => s.heap.size ≤ q) [] := ⟨fun i j p q h => by simp at h, fun k q h => by simp at h⟩
  have hl := lv_entry ([.ref b]) (n := 4) (Nat.le_of_ble_eq_true rfl)
  rw [lg_entry_eq]
  generalize (lg_sl ([.ref b]) ++ List.replicate (4 - (lg_sl ([.ref b])).length) Slot.unset).toArray = ls at hl ⊢
  have hl : lv_has ls 4 [(0, .ref b)] := hl
  refine va_new (D := g.2.1) (cl := vwCl) (tys := tysOf g) (ws := []) (ci := 11) (fs := fsA) (C := RX11) (T := TX11) (N := 14) hx hb ht inT_X11 tyX11 tyX11_ok hown (ht _ w_22) (ht _ w_23) (ht _ w_1) hK hP0 hD0 hS0 hA rfl (by intro j hj; rcases (show j = 0 ∨ j = 1 ∨ j = 2 ∨ j = 3 ∨ j = 4 ∨ j = 5 ∨ j = 6 ∨ j = 7 ∨ j = 8 ∨ j = 9 ∨ j = 10 ∨ j = 11 ∨ j = 12 ∨ j = 13 by omega) with rfl | rfl | rfl | rfl | rfl | rfl | rfl | rfl | rfl | rfl | rfl | rfl | rfl | rfl <;> rfl) (Nat.le_of_ble_eq_true rfl) (Nat.le_of_ble_eq_true rfl) dL_law_0 (fun q1 H hP hD hS => ?_)
  have X1 : Wd g 1 (fun _ => q1) (fun _ => q1) (shA 0) sA0 ZL (fun q : Nat => s.heap.size ≤ q) H [] s := ⟨⟨by decide +kernel, by decide +kernel, fun _ _ => rfl⟩, hA, hS, hK, by rw [wsA0]; exact hP, by rw [wsA0]; exact hD, hT⟩
  refine lv_dup hx hb dL_law_3 rfl ?_
  refine lw_init (rest := [.ref q1]) (ρ := fun _ => q1) (lw_F C0) clL_9 dL_law_4 ⟨Nat.le_of_ble_eq_true rfl, Nat.le_of_ble_eq_true rfl⟩ hl.1 (Nat.le_of_ble_eq_true rfl) ⟨Nat.le_of_ble_eq_true rfl, Nat.le_of_ble_eq_true rfl⟩ (c_newC g) X1 (fun ρ1 H1 locs1 hρ1 hk1 hD1 X1' => ?_)
  have hq1 : ρ1 0 = q1 := hρ1 0 (by decide +kernel)
  rw [shA_end] at X1'
  have X1s := X1'.self
  refine lv_astore_n (lv' := [(1, .ref q1), (0, .ref b)]) hx hb dL_law_7 rfl hl (by decide) rfl (fun ls hl => ?_)
  refine va_new (D := g.2.1) (cl := vwCl) (tys := tysOf g) (ws := wsOf g ρ1 SHC sA39 ZL) (ci := 12) (fs := fsB) (C := RX12) (T := TX12) (N := 74) hx hb ht inT_X12 tyX12 tyX12_ok hown (ht _ w_896) (ht _ w_897) (ht _ w_14) hK X1s.2.2.2.2.1 X1s.2.2.2.2.2.1 X1s.2.2.1 hA rfl (by intro j hj; rcases (show j = 0 ∨ j = 1 ∨ j = 2 ∨ j = 3 ∨ j = 4 ∨ j = 5 ∨ j = 6 ∨ j = 7 ∨ j = 8 ∨ j = 9 ∨ j = 10 ∨ j = 11 ∨ j = 12 ∨ j = 13 ∨ j = 14 ∨ j = 15 ∨ j = 16 ∨ j = 17 ∨ j = 18 ∨ j = 19 ∨ j = 20 ∨ j = 21 ∨ j = 22 ∨ j = 23 ∨ j = 24 ∨ j = 25 ∨ j = 26 ∨ j = 27 ∨ j = 28 ∨ j = 29 ∨ j = 30 ∨ j = 31 ∨ j = 32 ∨ j = 33 ∨ j = 34 ∨ j = 35 ∨ j = 36 ∨ j = 37 ∨ j = 38 ∨ j = 39 ∨ j = 40 ∨ j = 41 ∨ j = 42 ∨ j = 43 ∨ j = 44 ∨ j = 45 ∨ j = 46 ∨ j = 47 ∨ j = 48 ∨ j = 49 ∨ j = 50 ∨ j = 51 ∨ j = 52 ∨ j = 53 ∨ j = 54 ∨ j = 55 ∨ j = 56 ∨ j = 57 ∨ j = 58 ∨ j = 59 ∨ j = 60 ∨ j = 61 ∨ j = 62 ∨ j = 63 ∨ j = 64 ∨ j = 65 ∨ j = 66 ∨ j = 67 ∨ j = 68 ∨ j = 69 ∨ j = 70 ∨ j = 71 ∨ j = 72 ∨ j = 73 by omega) with rfl | rfl | rfl | rfl | rfl | rfl | rfl | rfl | rfl | rfl | rfl | rfl | rfl | rfl | rfl | rfl | rfl | rfl | rfl | rfl | rfl | rfl | rfl | rfl | rfl | rfl | rfl | rfl | rfl | rfl | rfl | rfl | rfl | rfl | rfl | rfl | rfl | rfl | rfl | rfl | rfl | rfl | rfl | rfl | rfl | rfl | rfl | rfl | rfl | rfl | rfl | rfl | rfl | rfl | rfl | rfl | rfl | rfl | rfl | rfl | rfl | rfl | rfl | rfl | rfl | rfl | rfl | rfl | rfl | rfl | rfl | rfl | rfl | rfl <;> rfl) (Nat.le_of_ble_eq_true rfl) (Nat.le_of_ble_eq_true rfl) dL_law_8 (fun q2 H2 hP2 hD2 hS2 => ?_)
  have X1b : Wd g SHC.length ρ1 ρ1 SHC sA39 ZL (fun q : Nat => s.heap.size ≤ q) H2 locs1 s := ⟨X1s.1, hA, hS2, hK, fun k q hq => hP2 k q (by rw [List.getElem?_append_left (List.getElem?_eq_some_iff.mp hq).1]; exact hq), X1s.2.2.2.2.2.1, hT⟩
  have hlast : (wsOf g ρ1 SHC sA39 ZL ++ [(q2, .inr (12, fsB))])[SHC.length]? = some (q2, .inr (12, fsB)) := by
    rw [List.getElem?_append_right (by rw [wsOf_len]; exact Nat.le_refl _), wsOf_len, Nat.sub_self]
    rfl
  have X2 : Wd g 1 (fun _ => q2) (fun _ => q2) (shB 0) sB0 ZL (fun q : Nat => s.heap.size ≤ q) H2 locs1 s := ⟨⟨by decide +kernel, by decide +kernel, fun _ _ => rfl⟩, hA, hS2, hK, by
    rw [wsB0]
    intro k q hq
    cases k with
    | zero =>
      have e : q = (q2, .inr (12, fsB)) := by simpa using hq.symm
      rw [e]
      exact hP2 _ _ hlast
    | succ k => simp at hq, by rw [wsB0]; exact one_D (hD2.2 _ _ hlast), hT⟩
  have hap0 : ∀ i, i < SHC.length → ρ1 i ≠ q2 := fun i hi e => by
    have h1 : (wsOf g ρ1 SHC sA39 ZL ++ [(q2, .inr (12, fsB))])[i]? = some (ρ1 i, cellE g ρ1 SHC[i] i sA39 ZL) := by
      rw [List.getElem?_append_left (by rw [wsOf_len]; exact hi)]
      exact wsOf_get (List.getElem?_eq_getElem hi)
    have := hD2.1 _ _ _ _ h1 hlast e
    omega
  refine lv_dup hx hb dL_law_11 rfl ?_
  refine lw_init (rest := [.ref q2]) (ρ := fun _ => q2) (lw_F C0) clL_12 dL_law_12 ⟨Nat.le_of_ble_eq_true rfl, Nat.le_of_ble_eq_true rfl⟩ hl.1 (Nat.le_of_ble_eq_true rfl) ⟨Nat.le_of_ble_eq_true rfl, Nat.le_of_ble_eq_true rfl⟩ (c_newM g) X2 (fun ρ2 H3 locs3 hρ2 hk3 hD3 X2' => ?_)
  have hq2 : ρ2 0 = q2 := hρ2 0 (by decide +kernel)
  rw [shB_end] at X2' hD3
  have Y1 : Wd g SHC.length ρ1 ρ1 SHC sA39 ZL (fun q : Nat => s.heap.size ≤ q) H3 locs3 s := X1b.kept X2'.2.2.1 (fun k hk => hk3.2 _ (X1b.addr_lt hk) (by
    rintro (⟨k2, e2, h2⟩ | h2)
    · obtain ⟨h3, h4⟩ := wsOf_addr h2
      exact hap0 k hk h4
    · have := X1b.addr_lt hk
      omega))
  have hap : ∀ i j, i < SHC.length → j < SHM.length → ρ1 i ≠ ρ2 j := fun i j hi hj e => by
    have h : va_A (wsOf g (fun _ => q2) (shB 0) sB0 ZL) H2.size (ρ2 j) := hD3.2 j _ (wsOf_get (List.getElem?_eq_getElem hj))
    rcases h with ⟨k2, e2, h2⟩ | h2
    · obtain ⟨h3, h4⟩ := wsOf_addr h2
      exact hap0 i hi (e.trans h4)
    · have := X1b.addr_lt hi
      omega
  refine lv_astore_n (lv' := [(2, .ref q2), (1, .ref q1), (0, .ref b)]) hx hb dL_law_15 rfl hl (by decide) rfl (fun ls hl => ?_)
  refine lv_iconst (v := 0) hx hb dL_law_16 (by decide) ?_
  refine lv_istore_n (lv' := [(3, .int 0), (2, .ref q2), (1, .ref q1), (0, .ref b)]) hx hb dL_law_17 rfl hl (by decide) rfl (fun ls hl => ?_)
  exact law_loop C0 hL ⟨Nat.le_of_ble_eq_true rfl, Nat.le_of_ble_eq_true rfl⟩ (L + 1) 0 sig0 sA39 ZL sB38 ZL H3 locs3 ls (by omega) (by omega) ⟨Y1, X2'.self, hap⟩ crel0 mrel0 (by rw [hq1, hq2]; exact lv_sub hl [3, 2, 1, 0] rfl)
set_option maxHeartbeats 4000000 in
theorem lw_walk (l : Launch) (hflags : l.flags = flags0) (b : Addr) (xs : List Int32) : MetFree l x (headSpec (Jvm.Cond.code x code maxLocals ret :: tables_1) room_1) (lw_P b xs) (fun _ _ _ _ _ => True) lw_Q := by
  refine MetFree.of_bodyS (code := code) (maxLocals := maxLocals) (ret := ret) (by decide) ?_ ?_
  · intro args s m h hn
    obtain ⟨meth, c, h1, h2, h3, h4, h5, h6, -, -⟩ := Cond.code_spec hn (atoms_spec (ws := Jvm.Cond.code x code maxLocals ret :: tables_1) h _ List.mem_cons_self)
    exact ⟨meth, c, h1, h2, h3, h4, h5, h6⟩
  · intro p e s m args below meth c s₁ B hml0 hP _
    obtain ⟨rfl, hx, hbd, hgv⟩ := hP
    obtain ⟨scr, harrAt, hlist, hof, hsmall⟩ := hx
    obtain ⟨hcb, hkn, -, -⟩ := State.arrayAt?_spec harrAt
    have hown : s.vm.findClass R_law = some m.cls := findClass_of_methodNamed B.named
    have hts0 : ∀ c ∈ (Jvm.Cond.code x code maxLocals ret :: tables_1), c.before #[Value.ref b] s = true := atoms_spec (ws := Jvm.Cond.code x code maxLocals ret :: tables_1) B.pre
    have hts : ∀ w ∈ lw_tbl, w.before #[Value.ref b] s = true := k2_hts_sels lw_privs (fun w hw => hts0 w (List.mem_cons_of_mem _ hw)) lw_privs_ok
    have hml : c.maxLocals = 4 := B.maxLocals_eq (hts0 _ List.mem_cons_self)
    have X₀ : Stand p l e room_1 s m #[Value.ref b] below meth c s₁ [] 0 0 := Stand.of_body B
    have hh0 : s₁.heap = s.heap := by rw [B.state]; rfl
    have hsz : scr.slots.size = xs.length := by rw [← Array.length_toList, hlist, List.length_map]
    have hval : ∀ j : Nat, j < xs.length → scr.slots[j]? = some (.int (xs.getD j 0)) := fun j hj => by
      rw [← Array.getElem?_toList, hlist]
      simp [hj]
    have hbl : b < s.heap.size := (Array.getElem?_eq_some_iff.mp hcb).1
    have hX : va_X b xs.length (fun j => xs.getD j 0) s s.heap := ⟨scr, hcb, hof, hkn, hsz, hval⟩
    have K : W p l e room_1 s m #[Value.ref b] below meth c s₁.heap [] 0 0 (lw_Z below #[Value.ref b] s) (entryFrame m ([Value.ref b] : List Value).toArray 4) := by
      rw [hh0]
      exact whole_start l hflags hbd ⟨B.exec, B.bytes, B.returns, hml, hown, hts, hX, hbl, B.notSynchronized, hgv⟩
    obtain ⟨t, a1, o, b1, b2, b3⟩ := K s₁ rfl X₀
    exact ⟨t, o, a1, b1, b2, b3⟩
theorem lw_pre_spec {args : Array Value} {s : State} (h : (Jvm.Cond.and given_1 narrow_1).before args s = true) (hr : rest_1_c.before args s = true) : ∃ (b : Addr) (xs : List Int32), lw_P b xs args s := by
  have hs := flat_of_before _ h
  have hq := flat_of_before _ hr
  have hc : (Cond.count 1).before args s = true := hs _ (by decide +kernel)
  have harr : (Cond.arrayOf (.arg 0) .int).before args s = true := hs _ (by decide +kernel)
  have hle : (Cond.le (.length (.arg 0)) (.int 3072)).before args s = true := hs _ (by decide +kernel)
  have hlen : (Cond.isInt (.length (.arg 0))).before args s = true := hq _ (by decide +kernel)
  have hall : (Cond.all (.arg 0) (.isInt (.elem (.arg 0) (.index 0)))).before args s = true := hq _ (by decide +kernel)
  obtain ⟨b, xs, hb, hx⟩ := State.ints_of_pre rfl harr hlen hall
  have hsm : xs.length < 2 ^ 31 := hx.choose_spec.2.2.2
  have hev : (Term.length (.arg 0)).eval args s none [] s = some (.int xs.length.toInt32) := hx.length_eval hb
  have hv := Cond.le_ints hev (show (Term.int 3072).eval args s none [] s = some (.int 3072) from rfl)
  have hd : xs.length.toInt32 ≤ 3072 := by
    simpa [Cond.before, Cond.holds, hv] using hle
  have hN : xs.length ≤ 3072 := (Int32.ofNat_le_ofNat hsm (by decide)).mp (show Int32.ofNat xs.length ≤ Int32.ofNat 3072 from hd)
  exact ⟨b, xs, Cond.one_arg hc (show args[0]? = some (.ref b) from hb), hx, hN, h⟩
theorem lw_comes (l : Launch) (hflags : l.flags = flags0) : Comes l x (Jvm.Cond.code x code maxLocals ret :: tables_1) room_1 (fun tb e args s => Calls_1 tb e args s ∧ rest_1 tb e args s ∧ Pre_1 tb e args s)
    (fun _ _ args s o t => lw_Q args s o t) := by
  intro p e ha hc hk s m args below hf hfit hheap happ hpre
  obtain ⟨b, xs, hP⟩ := lw_pre_spec hpre.2.2 hpre.2.1
  obtain ⟨k, o, h1, h2, h3, hQ⟩ := lw_walk l hflags b xs p e ha hc hk s m args below hf ((Spec.applies_iff_loose hf).mp happ).1 hP trivial
  exact ⟨k, o, h1, h2, h3, hQ⟩
theorem lw_frame {s t : State} {o : Outcome} {args : Array Value} (h : Framed s o t [] 600000 7302250) :
    Framed s o t (fieldLocs frame_1_writes args s ++ arrayLocs frame_1_arrays args s ++ staticLocs frame_1_statics s) 600000 7302250 := h
theorem lw_limb (L : Cond) (hL : ∀ (args : Array Value) (s t : State), L.after args s (.returned (some (.int 1))) t = true) :
    ArmFor flags0 classFile x code maxLocals ret World_1 tables_1 room_1 Calls_1 rest_1 Pre_1
      (fun tb e a s o t => postC L tb e a s o t ∧ Framed s o t (fieldLocs frame_1_writes a s ++ arrayLocs frame_1_arrays a s ++ staticLocs frame_1_statics s) 600000 7302250) := by
  intro l hflags _ _ p e ha hc hk s m args below hf hfit hheap happ hpre
  obtain ⟨k, o, h1, h2, h3, rfl, hF⟩ := lw_comes l hflags p e ha hc hk s m args below hf hfit hheap happ hpre
  exact ⟨k, _, h1, h2, h3, hL args s _, lw_frame hF⟩
theorem i_vc : Claimed_1_1 ∧ Claimed_1_2 := ⟨lw_limb limb_1_1 (fun args s t => by simp [limb_1_1, Cond.after, Cond.holds, Cond.value]), lw_limb limb_1_2 (fun args s t => Cond.after_iff.mpr (by
  first | (rw [show limb_1_2 = Cond.eq .result (.int 1) from rfl, Cond.eq_ints (x := 1) (y := 1) rfl rfl]; simp; done) | (simp [limb_1_2, Cond.value, Term.eval]; done)))⟩
