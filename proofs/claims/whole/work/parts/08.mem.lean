section RX2
variable {g : GG} {d mc ms : Nat} {M : MI} {n0 : Nat} {Q : Option Value → List CS → SS → LL → Prop} {cu su pc : Nat} {ls ls' : List (Option Value)} {st rest : List Value} {sh : List CS} {S : SS} {L : LL}
theorem ad_lt {g : GG} {ρ : Nat → Nat} {r : Nat} (h : r < 100000) : ad g ρ r = ρ r := if_pos h
theorem Wd.lt {n0 : Nat} {ρ0 ρ : Nat → Nat} {A : Nat → Prop} {H : Heap} {locs : List Loc} {s : State} (X : Wd g n0 ρ0 ρ sh S L A H locs s) {r : Nat} {c : CS} (hs : sh[r]? = some c) : r < 100000 := by
  have h1 := (List.getElem?_eq_some_iff.mp hs).1
  have h2 := X.1.2.1
  omega
theorem Wd.get {n0 : Nat} {ρ0 ρ : Nat → Nat} {A : Nat → Prop} {H : Heap} {locs : List Loc} {s : State} (X : Wd g n0 ρ0 ρ sh S L A H locs s) {r : Nat} {c : CS} (hs : sh[r]? = some c) : (wsOf g ρ sh S L)[r]? = some (ad g ρ r, cellE g ρ c r S L) := by
  rw [ad_lt (X.lt hs)]; exact wsOf_get hs
/-- a changed world -/
theorem Wd.set {n0 : Nat} {ρ0 ρ : Nat → Nat} {A : Nat → Prop} {H H1 : Heap} {locs locs1 : List Loc} {s : State} {S' : SS} {L' : LL} (X : Wd g n0 ρ0 ρ sh S L A H locs s) {r : Nat} {c : CS} {e : va_E} (hs : sh[r]? = some c) (he : e = cellE g ρ c r S' L') (ho : ∀ j, j ≠ r → S' j = S j ∧ L' j = L j)
    (hP : va_P g.2.1 vwCl ((wsOf g ρ sh S L).set r (ad g ρ r, e)) H1) (hD : va_D A ((wsOf g ρ sh S L).set r (ad g ρ r, e))) (hS : va_S A s.heap H1 locs1) : Wd g n0 ρ0 ρ sh S' L' A H1 locs1 s := by
  rw [ad_lt (X.lt hs), wsOf_set hs he ho] at hP hD
  exact ⟨X.1, X.2.1, hS, X.2.2.2.1, hP, hD, X.2.2.2.2.2.2⟩
/-- entry idx of own's constants is field kf of class ci -/
def FLk (own : String) (idx ci kf : Nat) (fin : Bool) (ty : FieldType) : Prop := ∃ (Cn : String) (T : u_T) (N : Nat) (ty0 : Nat → FieldType), vwCl[ci]? = some (Cn, T, N) ∧ (∀ w ∈ u_ws Cn T N, w ∈ TB) ∧ kf < N ∧ Cond.fieldLink own idx (T kf).1 (T kf).2.1 (T kf).2.2.1 ∈ TB ∧
  (∀ k, k < N → parseFieldDescriptor (T k).2.2.1 = some (ty0 k)) ∧ (∀ a, a < N → ∀ b, b < N → a ≠ b → (T a).2.1 ≠ (T b).2.1) ∧ (T kf).2.2.2 = fin ∧ parseFieldDescriptor (T kf).2.2.1 = some ty ∧ True
theorem rx_get {idx ci kf r a b t : Nat} {fin : Bool} {ty : FieldType} {fs : List (Nat × Nat × Nat)} (dd : decode M.2.1 pc = .ok (.getfield idx, 3)) (fl : FLk M.1.cls idx ci kf fin ty) (hs : sh[r]? = some (0, ci, fs)) (hf : fs[kf]? = some (t, a, b))
    (k : Rx g d mc ms M n0 Q cu su (pc + 3) ls (afv (t, a, b) (S r kf) :: rest) sh S L) : Rx g d mc ms M n0 Q cu su pc ls (.ref r :: rest) sh S L := fun p e s m args below meth c ρ0 A ρ H locs als C X Y => by
  obtain ⟨Cn, T, N, ty0, h1, h2, h3, h4, h5, h6, h7, h8, h9⟩ := fl
  exact va_get (D := g.2.1) (ci := ci) (C := Cn) (T := T) (N := N) (a := ad g ρ r) C.1 C.2.1 C.2.2.2.2.2.1 h2 C.2.2.2.2.1 X.2.2.2.1 X.2.2.2.2.1 r (X.get hs) h1 kf h3 (C.2.2.2.2.2.1 _ h4) (fun _ h => h) (v := vm g ρ (afv (t, a, b) (S r kf))) (by simp [List.getElem?_mapIdx, hf]) dd (k p e s m args below meth c ρ0 A ρ H locs als C X Y)
theorem rx_getI {idx ci kf r a b : Nat} {fin : Bool} {ty : FieldType} {fs : List (Nat × Nat × Nat)} (dd : decode M.2.1 pc = .ok (.getfield idx, 3)) (fl : FLk M.1.cls idx ci kf fin ty) (hs : sh[r]? = some (0, ci, fs)) (hf : fs[kf]? = some (0, a, b))
    (k : Rx g d mc ms M n0 Q cu su (pc + 3) ls (.int (S r kf) :: rest) sh S L) : Rx g d mc ms M n0 Q cu su pc ls (.ref r :: rest) sh S L := rx_get dd fl hs hf k
theorem rx_getR {idx ci kf r a b : Nat} {fin : Bool} {ty : FieldType} {fs : List (Nat × Nat × Nat)} (dd : decode M.2.1 pc = .ok (.getfield idx, 3)) (fl : FLk M.1.cls idx ci kf fin ty) (hs : sh[r]? = some (0, ci, fs)) (hf : fs[kf]? = some (2, a, b))
    (k : Rx g d mc ms M n0 Q cu su (pc + 3) ls (.ref a :: rest) sh S L) : Rx g d mc ms M n0 Q cu su pc ls (.ref r :: rest) sh S L := rx_get dd fl hs hf k
theorem rx_getD {idx ci kf r a b : Nat} {fin : Bool} {ty : FieldType} {fs : List (Nat × Nat × Nat)} (dd : decode M.2.1 pc = .ok (.getfield idx, 3)) (fl : FLk M.1.cls idx ci kf fin ty) (hs : sh[r]? = some (0, ci, fs)) (hf : fs[kf]? = some (3, a, b))
    (k : Rx g d mc ms M n0 Q cu su (pc + 3) ls (.ref (a + b * (S r kf).toNatClampNeg) :: rest) sh S L) : Rx g d mc ms M n0 Q cu su pc ls (.ref r :: rest) sh S L := rx_get dd fl hs hf k
theorem rx_put0 {idx ci kf r : Nat} {ty : FieldType} {fs : List (Nat × Nat × Nat)} {f : Nat × Nat × Nat} {v : Value} {S' : SS} (dd : decode M.2.1 pc = .ok (.putfield idx, 3)) (fl : FLk M.1.cls idx ci kf false ty) (hs : sh[r]? = some (0, ci, fs)) (hf : fs[kf]? = some f)
    (hn : ∀ ρ, narrow ty (vm g ρ v) = vm g ρ v) (hfit : ∀ ρ, fits ty (vm g ρ v) = true) (hv : afv f (S' r kf) = v) (ho : ∀ j i, ¬ (j = r ∧ i = kf) → S' j i = S j i)
    (k : Rx g d mc ms M n0 Q cu su (pc + 3) ls rest sh S' L) : Rx g d mc ms M n0 Q cu su pc ls (v :: .ref r :: rest) sh S L := fun p e s m args below meth c ρ0 A ρ H locs als C X Y => by
  obtain ⟨Cn, T, N, ty0, h1, h2, h3, h4, h5, h6, h7, h8, h9⟩ := fl
  refine va_put (D := g.2.1) (ci := ci) (C := Cn) (T := T) (N := N) (a := ad g ρ r) C.1 C.2.1 C.2.2.2.2.2.1 h2 ty0 h5 h6 C.2.2.2.2.1 X.2.2.2.1 X.2.2.2.2.1 X.2.2.2.2.2.1 X.2.2.1 r (X.get hs) h1 kf h3 (C.2.2.2.2.2.1 _ h4) (fun _ h => h) h7 h8 (hn ρ) (hfit ρ) (by have := (List.getElem?_eq_some_iff.mp hf).1; simpa using this) dd (fun H1 locs1 hP hD hS => ?_)
  refine k p e s m args below meth c ρ0 A ρ H1 locs1 als C (X.set (S' := S') (L' := L) hs ?_ (fun j hj => ⟨funext fun i => ho j i (fun q => hj q.1), rfl⟩) hP hD hS) Y
  show Sum.inr (ci, (fs.mapIdx (fun i f => vm g ρ (afv f (S r i)))).set kf (vm g ρ v)) = Sum.inr (ci, fs.mapIdx (fun i f => vm g ρ (afv f (S' r i))))
  refine congrArg (fun z => Sum.inr (ci, z)) (List.ext_getElem? fun i => ?_)
  by_cases hi : i = kf
  · subst hi
    have hl := (List.getElem?_eq_some_iff.mp hf).1
    rw [List.getElem?_set_self (by simpa using hl)]
    simp [List.getElem?_mapIdx, hf, hv]
  · rw [List.getElem?_set_ne (fun q => hi q.symm)]
    simp only [List.getElem?_mapIdx]
    rw [ho r i (fun q => hi q.2)]
theorem upS_at (S : SS) (a k : Nat) (x : Int32) : upS S a k x a k = x := by simp [upS]
theorem upS_ne (S : SS) (a k : Nat) (x : Int32) {j i : Nat} (h : ¬ (j = a ∧ i = k)) : upS S a k x j i = S j i := by
  unfold upS
  by_cases h1 : j = a
  · rw [if_pos h1, if_neg (fun q => h ⟨h1, q⟩)]
  · rw [if_neg h1]
theorem rx_putI {idx ci kf r a b : Nat} {fs : List (Nat × Nat × Nat)} {x : Int32} (dd : decode M.2.1 pc = .ok (.putfield idx, 3)) (fl : FLk M.1.cls idx ci kf false .int) (hs : sh[r]? = some (0, ci, fs)) (hf : fs[kf]? = some (0, a, b))
    (k : Rx g d mc ms M n0 Q cu su (pc + 3) ls rest sh (upS S r kf x) L) : Rx g d mc ms M n0 Q cu su pc ls (.int x :: .ref r :: rest) sh S L :=
  rx_put0 dd fl hs hf (fun _ => rfl) (fun _ => rfl) (by show Value.int _ = _; rw [upS_at]) (fun j i h => upS_ne S r kf x h) k
theorem rx_putZ {idx ci kf r a b : Nat} {fs : List (Nat × Nat × Nat)} {x : Int32} (dd : decode M.2.1 pc = .ok (.putfield idx, 3)) (fl : FLk M.1.cls idx ci kf false .boolean) (hs : sh[r]? = some (0, ci, fs)) (hf : fs[kf]? = some (0, a, b)) (hn : narrow .boolean (.int x) = .int x) (hfit : fits .boolean (.int x) = true)
    (k : Rx g d mc ms M n0 Q cu su (pc + 3) ls rest sh (upS S r kf x) L) : Rx g d mc ms M n0 Q cu su pc ls (.int x :: .ref r :: rest) sh S L :=
  rx_put0 dd fl hs hf (fun _ => hn) (fun _ => hfit) (by show Value.int _ = _; rw [upS_at]) (fun j i h => upS_ne S r kf x h) k
theorem rx_putD {idx ci kf r a b y : Nat} {C1 : String} {fs : List (Nat × Nat × Nat)} (dd : decode M.2.1 pc = .ok (.putfield idx, 3)) (fl : FLk M.1.cls idx ci kf false (.object C1)) (hs : sh[r]? = some (0, ci, fs)) (hf : fs[kf]? = some (3, a, b)) (hy : y < 2 ^ 31)
    (k : Rx g d mc ms M n0 Q cu su (pc + 3) ls rest sh (upS S r kf (nI y)) L) : Rx g d mc ms M n0 Q cu su pc ls (.ref (a + b * y) :: .ref r :: rest) sh S L :=
  rx_put0 dd fl hs hf (fun _ => rfl) (fun _ => rfl) (by show Value.ref (a + b * (upS S r kf (nI y) r kf).toNatClampNeg) = _; rw [upS_at, nI_clamp hy]) (fun j i h => upS_ne S r kf _ h) k
-- arrays
theorem rx_iaload {a n : Nat} {fs : List (Nat × Nat × Nat)} {i : Int32} (dd : decode M.2.1 pc = .ok (.iaload, 1)) (hs : sh[a]? = some (1, n, fs)) (hin : vp_in i n)
    (k : Rx g d mc ms M n0 Q cu su (pc + 1) ls (.int (S a i.toNatClampNeg) :: rest) sh S L) : Rx g d mc ms M n0 Q cu su pc ls (.int i :: .ref a :: rest) sh S L := fun p e s m args below meth c ρ0 A ρ H locs als C X Y =>
  va_iald (D := g.2.1) C.1 C.2.1 X.2.2.2.1 X.2.2.2.2.1 a 0 (X.get hs) rfl hin dd (k p e s m args below meth c ρ0 A ρ H locs als C X Y)
theorem rx_baload {a n : Nat} {fs : List (Nat × Nat × Nat)} {i : Int32} (dd : decode M.2.1 pc = .ok (.baload, 1)) (hs : sh[a]? = some (3, n, fs)) (hin : vp_in i n)
    (k : Rx g d mc ms M n0 Q cu su (pc + 1) ls (.int (S a i.toNatClampNeg) :: rest) sh S L) : Rx g d mc ms M n0 Q cu su pc ls (.int i :: .ref a :: rest) sh S L := fun p e s m args below meth c ρ0 A ρ H locs als C X Y =>
  va_bald (D := g.2.1) C.1 C.2.1 X.2.2.2.1 X.2.2.2.2.1 a 2 (X.get hs) rfl hin dd (k p e s m args below meth c ρ0 A ρ H locs als C X Y)
theorem rx_zaload {a n : Nat} {fs : List (Nat × Nat × Nat)} {i : Int32} (dd : decode M.2.1 pc = .ok (.baload, 1)) (hs : sh[a]? = some (4, n, fs)) (hin : vp_in i n)
    (k : Rx g d mc ms M n0 Q cu su (pc + 1) ls (.int (S a i.toNatClampNeg) :: rest) sh S L) : Rx g d mc ms M n0 Q cu su pc ls (.int i :: .ref a :: rest) sh S L := fun p e s m args below meth c ρ0 A ρ H locs als C X Y =>
  va_zald (D := g.2.1) C.1 C.2.1 X.2.2.2.1 X.2.2.2.2.1 a 3 (X.get hs) rfl hin dd (k p e s m args below meth c ρ0 A ρ H locs als C X Y)
theorem rx_laload {a n : Nat} {fs : List (Nat × Nat × Nat)} {i : Int32} (dd : decode M.2.1 pc = .ok (.laload, 1)) (hs : sh[a]? = some (2, n, fs)) (hin : vp_in i n)
    (k : Rx g d mc ms M n0 Q cu su (pc + 1) ls (.long (L a i.toNatClampNeg) :: rest) sh S L) : Rx g d mc ms M n0 Q cu su pc ls (.int i :: .ref a :: rest) sh S L := fun p e s m args below meth c ρ0 A ρ H locs als C X Y =>
  va_lald (D := g.2.1) C.1 C.2.1 X.2.2.2.1 X.2.2.2.2.1 a 1 (X.get hs) rfl hin dd (k p e s m args below meth c ρ0 A ρ H locs als C X Y)
theorem rx_iastore {a n : Nat} {fs : List (Nat × Nat × Nat)} {i x : Int32} (dd : decode M.2.1 pc = .ok (.iastore, 1)) (hs : sh[a]? = some (1, n, fs)) (hin : vp_in i n)
    (k : Rx g d mc ms M n0 Q cu su (pc + 1) ls rest sh (upS S a i.toNatClampNeg x) L) : Rx g d mc ms M n0 Q cu su pc ls (.int x :: .int i :: .ref a :: rest) sh S L := fun p e s m args below meth c ρ0 A ρ H locs als C X Y =>
  va_iast (D := g.2.1) C.1 C.2.1 X.2.2.2.1 X.2.2.2.2.1 X.2.2.2.2.2.1 X.2.2.1 a 0 (X.get hs) rfl hin dd (fun H1 locs1 hP hD hS => k p e s m args below meth c ρ0 A ρ H1 locs1 als C (X.set hs (by show Sum.inl _ = Sum.inl (_, _, Sum.inl (upS S a i.toNatClampNeg x a)); rw [upS_row]) (fun j hj => ⟨upS_off S a _ x hj, rfl⟩) hP hD hS) Y)
theorem rx_bastore {a n : Nat} {fs : List (Nat × Nat × Nat)} {i x : Int32} (dd : decode M.2.1 pc = .ok (.bastore, 1)) (hs : sh[a]? = some (3, n, fs)) (hin : vp_in i n)
    (k : Rx g d mc ms M n0 Q cu su (pc + 1) ls rest sh (upS S a i.toNatClampNeg (vp_nar .byte x)) L) : Rx g d mc ms M n0 Q cu su pc ls (.int x :: .int i :: .ref a :: rest) sh S L := fun p e s m args below meth c ρ0 A ρ H locs als C X Y =>
  va_bast (D := g.2.1) C.1 C.2.1 X.2.2.2.1 X.2.2.2.2.1 X.2.2.2.2.2.1 X.2.2.1 a 2 (X.get hs) rfl hin dd (fun H1 locs1 hP hD hS => k p e s m args below meth c ρ0 A ρ H1 locs1 als C (X.set hs (by show Sum.inl _ = Sum.inl (_, _, Sum.inl (upS S a i.toNatClampNeg (vp_nar .byte x) a)); rw [upS_row]) (fun j hj => ⟨upS_off S a _ _ hj, rfl⟩) hP hD hS) Y)
theorem rx_zastore {a n : Nat} {fs : List (Nat × Nat × Nat)} {i x : Int32} (dd : decode M.2.1 pc = .ok (.bastore, 1)) (hs : sh[a]? = some (4, n, fs)) (hin : vp_in i n)
    (k : Rx g d mc ms M n0 Q cu su (pc + 1) ls rest sh (upS S a i.toNatClampNeg (vp_nar .boolean x)) L) : Rx g d mc ms M n0 Q cu su pc ls (.int x :: .int i :: .ref a :: rest) sh S L := fun p e s m args below meth c ρ0 A ρ H locs als C X Y =>
  va_zast (D := g.2.1) C.1 C.2.1 X.2.2.2.1 X.2.2.2.2.1 X.2.2.2.2.2.1 X.2.2.1 a 3 (X.get hs) rfl hin dd (fun H1 locs1 hP hD hS => k p e s m args below meth c ρ0 A ρ H1 locs1 als C (X.set hs (by show Sum.inl _ = Sum.inl (_, _, Sum.inl (upS S a i.toNatClampNeg (vp_nar .boolean x) a)); rw [upS_row]) (fun j hj => ⟨upS_off S a _ _ hj, rfl⟩) hP hD hS) Y)
theorem rx_lastore {a n : Nat} {fs : List (Nat × Nat × Nat)} {i : Int32} {x : Int64} (dd : decode M.2.1 pc = .ok (.lastore, 1)) (hs : sh[a]? = some (2, n, fs)) (hin : vp_in i n)
    (k : Rx g d mc ms M n0 Q cu su (pc + 1) ls rest sh S (upL L a i.toNatClampNeg x)) : Rx g d mc ms M n0 Q cu su pc ls (.long x :: .int i :: .ref a :: rest) sh S L := fun p e s m args below meth c ρ0 A ρ H locs als C X Y =>
  va_last (D := g.2.1) C.1 C.2.1 X.2.2.2.1 X.2.2.2.2.1 X.2.2.2.2.2.1 X.2.2.1 a 1 (X.get hs) rfl hin dd (fun H1 locs1 hP hD hS => k p e s m args below meth c ρ0 A ρ H1 locs1 als C (X.set hs (by show Sum.inl _ = Sum.inl (_, _, Sum.inr (Sum.inl (upL L a i.toNatClampNeg x a))); rw [upL_row]) (fun j hj => ⟨rfl, upL_off L a _ x hj⟩) hP hD hS) Y)
theorem rx_alen {a n t : Nat} {fs : List (Nat × Nat × Nat)} (dd : decode M.2.1 pc = .ok (.arraylength, 1)) (hs : sh[a]? = some (t + 1, n, fs)) (ht : t < 7)
    (k : Rx g d mc ms M n0 Q cu su (pc + 1) ls (.int (nI n) :: rest) sh S L) : Rx g d mc ms M n0 Q cu su pc ls (.ref a :: rest) sh S L := fun p e s m args below meth c ρ0 A ρ H locs als C X Y => by
  have h := X.get hs
  have hz : ∃ (x : vp_A) (ty : FieldType), cellE g ρ (t + 1, n, fs) a S L = .inl (g.2.2.1 (t + 1), x) ∧ x.1 = n ∧ (tysOf g)[t]? = some (g.2.2.1 (t + 1), ty) := by
    match t, ht with
    | 0, _ => exact ⟨_, _, rfl, rfl, rfl⟩
    | 1, _ => exact ⟨_, _, rfl, rfl, rfl⟩
    | 2, _ => exact ⟨_, _, rfl, rfl, rfl⟩
    | 3, _ => exact ⟨_, _, rfl, rfl, rfl⟩
    | 4, _ => exact ⟨_, _, rfl, rfl, rfl⟩
    | 5, _ => exact ⟨_, _, rfl, rfl, rfl⟩
    | 6, _ => exact ⟨_, _, rfl, rfl, rfl⟩
  obtain ⟨x, ty, h1, h2, h3⟩ := hz
  rw [h1] at h
  exact va_alen (D := g.2.1) C.1 C.2.1 X.2.2.2.1 X.2.2.2.2.1 a t h h3 (by rw [h2]; rfl) dd (k p e s m args below meth c ρ0 A ρ H locs als C X Y)
theorem rx_aaload5 {a n q z : Nat} {fs : List (Nat × Nat × Nat)} {i : Int32} (dd : decode M.2.1 pc = .ok (.aaload, 1)) (hs : sh[a]? = some (5, n, fs)) (hin : vp_in i n) (he : fs[i.toNatClampNeg]? = some (2, q, z))
    (k : Rx g d mc ms M n0 Q cu su (pc + 1) ls (.ref q :: rest) sh S L) : Rx g d mc ms M n0 Q cu su pc ls (.int i :: .ref a :: rest) sh S L := fun p e s m args below meth c ρ0 A ρ H locs als C X Y => by
  refine va_aldq (D := g.2.1) C.1 C.2.1 X.2.2.2.1 X.2.2.2.2.1 a 4 (X.get hs) rfl hin dd ?_
  dsimp only
  rw [he]
  exact k p e s m args below meth c ρ0 A ρ H locs als C X Y
theorem rx_aaload6 {a n q z : Nat} {fs : List (Nat × Nat × Nat)} {i : Int32} (dd : decode M.2.1 pc = .ok (.aaload, 1)) (hs : sh[a]? = some (6, n, fs)) (hin : vp_in i n) (he : fs[i.toNatClampNeg]? = some (2, q, z))
    (k : Rx g d mc ms M n0 Q cu su (pc + 1) ls (.ref q :: rest) sh S L) : Rx g d mc ms M n0 Q cu su pc ls (.int i :: .ref a :: rest) sh S L := fun p e s m args below meth c ρ0 A ρ H locs als C X Y => by
  refine va_aldq (D := g.2.1) C.1 C.2.1 X.2.2.2.1 X.2.2.2.2.1 a 5 (X.get hs) rfl hin dd ?_
  dsimp only
  rw [he]
  exact k p e s m args below meth c ρ0 A ρ H locs als C X Y
theorem rx_aaload7 {a n q z : Nat} {fs : List (Nat × Nat × Nat)} {i : Int32} (dd : decode M.2.1 pc = .ok (.aaload, 1)) (hs : sh[a]? = some (7, n, fs)) (hin : vp_in i n) (he : fs[i.toNatClampNeg]? = some (2, q, z))
    (k : Rx g d mc ms M n0 Q cu su (pc + 1) ls (.ref q :: rest) sh S L) : Rx g d mc ms M n0 Q cu su pc ls (.int i :: .ref a :: rest) sh S L := fun p e s m args below meth c ρ0 A ρ H locs als C X Y => by
  have hlt : i.toNatClampNeg < n := Nat.not_le.mp fun q => hin (Or.inr q)
  have hc := X.2.2.2.2.1 a _ (X.get hs)
  have hv : va_rf ((fs[i.toNatClampNeg]?).bind (rfv g ρ)) = .ref (ad g ρ q) := by rw [he]; rfl
  refine W.aald (v := va_rf ((fs[i.toNatClampNeg]?).bind (rfv g ρ))) (ty := .array .long) C.1 C.2.1 hc ((X.2.2.2.1.2 6 _ rfl).1 n (fun j => va_rf ((fs[j]?).bind (rfv g ρ)))) rfl (fun q => by cases q) (by show ¬ (i < 0 ∨ (arrV _ _ _).slots.size ≤ _); rw [arrV_size]; exact hin) (by show (arrV _ _ _).slots[_]? = _; rw [arrV_read _ _ hlt]) rfl rfl dd ?_
  rw [hv]
  exact k p e s m args below meth c ρ0 A ρ H locs als C X Y
/-- one row of the contents anew -/
def rwS (S : SS) (a : Nat) (f : Nat → Int32) : SS := fun j => if j = a then f else S j
def rwL (S : LL) (a : Nat) (f : Nat → Int64) : LL := fun j => if j = a then f else S j
theorem rx_copyi {a0 a n0' n1 idx : Nat} {f0 f1 : List (Nat × Nat × Nat)} {sp dp n : Int32} (dd : decode M.2.1 pc = .ok (.invokestatic idx, 3)) (hl : Cond.methodLink M.1.cls idx arraycopyName ∈ TB) (hnat : Cond.native arraycopyName ∈ TB) (hst : Cond.static arraycopyName ∈ TB) (hin : Cond.initialized "java/lang/System" ∈ TB)
    (hs0 : sh[a0]? = some (1, n0', f0)) (hs1 : sh[a]? = some (1, n1, f1)) (h1 : ¬ sp < 0) (h2 : ¬ dp < 0) (h3 : ¬ n < 0) (h4 : sp.toNatClampNeg + n.toNatClampNeg ≤ n0') (h5 : dp.toNatClampNeg + n.toNatClampNeg ≤ n1) (hd : 1 ≤ d) (hr : (rest.map fun v => v.category).sum ≤ 8)
    (k : Rx g d mc ms M n0 Q cu su (pc + 3) ls rest sh (rwS S a (va_cpy (S a0) (S a) sp.toNatClampNeg dp.toNatClampNeg n.toNatClampNeg)) L) : Rx g d mc ms M n0 Q cu su pc ls (.int n :: .int dp :: .ref a :: .int sp :: .ref a0 :: rest) sh S L := fun p e s m args below meth c ρ0 A ρ H locs als C X Y => by
  have hc : ((rest.map (vm g ρ)).map fun v => v.category).sum = (rest.map fun v => v.category).sum := by rw [List.map_map]; exact congrArg List.sum (List.map_congr_left fun v _ => vm_cat g ρ v)
  refine va_copyi (D := g.2.1) (a0 := ad g ρ a0) (a := ad g ρ a) C.1 C.2.1 (C.2.2.2.1.trans Y.2.1.symm) C.2.2.2.2.1 (C.2.2.2.2.2.1 _ hl) (C.2.2.2.2.2.1 _ hnat) (C.2.2.2.2.2.1 _ hst) (C.2.2.2.2.2.1 _ hin) X.2.2.2.1 X.2.2.2.2.1 X.2.2.2.2.2.1 X.2.2.1 a0 a 0 0 (X.get hs0) (X.get hs1) rfl rfl rfl h1 h2 h3 h4 h5 (fun _ _ => rfl) hd ?_ dd (fun H1 locs1 hP hD hS => ?_)
  · rw [hc]
    refine Nat.le_trans (Nat.add_le_add_right hr _) ?_
    show _ ≤ 100 * d
    have : 8 + (nativeFrameWords "java/lang/System" "arraycopy" 5 + 11) ≤ 100 := by decide +kernel
    omega
  · exact k p e s m args below meth c ρ0 A ρ H1 locs1 als C (X.set hs1 (by show Sum.inl _ = Sum.inl (_, _, Sum.inl (rwS S a _ a)); simp [rwS]) (fun j hj => ⟨by simp [rwS, hj], rfl⟩) hP hD hS) Y
theorem rx_copyl {a0 a n0' n1 idx : Nat} {f0 f1 : List (Nat × Nat × Nat)} {sp dp n : Int32} (dd : decode M.2.1 pc = .ok (.invokestatic idx, 3)) (hl : Cond.methodLink M.1.cls idx arraycopyName ∈ TB) (hnat : Cond.native arraycopyName ∈ TB) (hst : Cond.static arraycopyName ∈ TB) (hin : Cond.initialized "java/lang/System" ∈ TB)
    (hs0 : sh[a0]? = some (2, n0', f0)) (hs1 : sh[a]? = some (2, n1, f1)) (h1 : ¬ sp < 0) (h2 : ¬ dp < 0) (h3 : ¬ n < 0) (h4 : sp.toNatClampNeg + n.toNatClampNeg ≤ n0') (h5 : dp.toNatClampNeg + n.toNatClampNeg ≤ n1) (hd : 1 ≤ d) (hr : (rest.map fun v => v.category).sum ≤ 8)
    (k : Rx g d mc ms M n0 Q cu su (pc + 3) ls rest sh S (rwL L a (va_cpy (L a0) (L a) sp.toNatClampNeg dp.toNatClampNeg n.toNatClampNeg))) : Rx g d mc ms M n0 Q cu su pc ls (.int n :: .int dp :: .ref a :: .int sp :: .ref a0 :: rest) sh S L := fun p e s m args below meth c ρ0 A ρ H locs als C X Y => by
  have hc : ((rest.map (vm g ρ)).map fun v => v.category).sum = (rest.map fun v => v.category).sum := by rw [List.map_map]; exact congrArg List.sum (List.map_congr_left fun v _ => vm_cat g ρ v)
  refine va_copyl (D := g.2.1) (a0 := ad g ρ a0) (a := ad g ρ a) C.1 C.2.1 (C.2.2.2.1.trans Y.2.1.symm) C.2.2.2.2.1 (C.2.2.2.2.2.1 _ hl) (C.2.2.2.2.2.1 _ hnat) (C.2.2.2.2.2.1 _ hst) (C.2.2.2.2.2.1 _ hin) X.2.2.2.1 X.2.2.2.2.1 X.2.2.2.2.2.1 X.2.2.1 a0 a 1 1 (X.get hs0) (X.get hs1) rfl rfl rfl h1 h2 h3 h4 h5 (fun _ _ => rfl) hd ?_ dd (fun H1 locs1 hP hD hS => ?_)
  · rw [hc]
    refine Nat.le_trans (Nat.add_le_add_right hr _) ?_
    show _ ≤ 100 * d
    have : 8 + (nativeFrameWords "java/lang/System" "arraycopy" 5 + 11) ≤ 100 := by decide +kernel
    omega
  · exact k p e s m args below meth c ρ0 A ρ H1 locs1 als C (X.set hs1 (by show Sum.inl _ = Sum.inl (_, _, Sum.inr (Sum.inl (rwL L a _ a))); simp [rwL]) (fun j hj => ⟨rfl, by simp [rwL, hj]⟩) hP hD hS) Y
-- Math.max, min
theorem rx_max {idx : Nat} {x y : Int32} (dd : decode M.2.1 pc = .ok (.invokestatic idx, 3)) (hl : Cond.methodLink M.1.cls idx Lib.Math.max.name ∈ TB) (hst : Cond.static Lib.Math.max.name ∈ TB) (hin : Cond.initialized "java/lang/Math" ∈ TB) (hco : Cond.code Lib.Math.max.name Lib.Math.max.code 2 (some .int) ∈ TB) (hd : 1 ≤ d) (hcu : cu ≤ mc ∧ su ≤ ms) (hr : (rest.map fun v => v.category).sum ≤ 8)
    (k : Rx g d mc ms M n0 Q cu su (pc + 3) ls (.int (if x < y then y else x) :: rest) sh S L) : Rx g d mc ms M n0 Q cu su pc ls (.int y :: .int x :: rest) sh S L := fun p e s m args below meth c ρ0 A ρ H locs als C X Y => by
  have hc : ((rest.map (vm g ρ)).map fun v => v.category).sum = (rest.map fun v => v.category).sum := by rw [List.map_map]; exact congrArg List.sum (List.map_congr_left fun v _ => vm_cat g ρ v)
  exact va_mmax C.1 C.2.1 (C.2.2.2.1.trans Y.2.1.symm) C.2.2.2.2.1 (C.2.2.2.2.2.1 _ hl) (C.2.2.2.2.2.1 _ hst) (C.2.2.2.2.2.1 _ hin) (C.2.2.2.2.2.1 _ hco) hd (by rw [hc]; show _ ≤ 100 * d; omega) hcu.1 hcu.2 dd (k p e s m args below meth c ρ0 A ρ H locs als C X Y)
theorem rx_min {idx : Nat} {x y : Int32} (dd : decode M.2.1 pc = .ok (.invokestatic idx, 3)) (hl : Cond.methodLink M.1.cls idx Lib.Math.min.name ∈ TB) (hst : Cond.static Lib.Math.min.name ∈ TB) (hin : Cond.initialized "java/lang/Math" ∈ TB) (hco : Cond.code Lib.Math.min.name Lib.Math.min.code 2 (some .int) ∈ TB) (hd : 1 ≤ d) (hcu : cu ≤ mc ∧ su ≤ ms) (hr : (rest.map fun v => v.category).sum ≤ 8)
    (k : Rx g d mc ms M n0 Q cu su (pc + 3) ls (.int (if y < x then y else x) :: rest) sh S L) : Rx g d mc ms M n0 Q cu su pc ls (.int y :: .int x :: rest) sh S L := fun p e s m args below meth c ρ0 A ρ H locs als C X Y => by
  have hc : ((rest.map (vm g ρ)).map fun v => v.category).sum = (rest.map fun v => v.category).sum := by rw [List.map_map]; exact congrArg List.sum (List.map_congr_left fun v _ => vm_cat g ρ v)
  exact va_mmin C.1 C.2.1 (C.2.2.2.1.trans Y.2.1.symm) C.2.2.2.2.1 (C.2.2.2.2.2.1 _ hl) (C.2.2.2.2.2.1 _ hst) (C.2.2.2.2.2.1 _ hin) (C.2.2.2.2.2.1 _ hco) hd (by rw [hc]; show _ ≤ 100 * d; omega) hcu.1 hcu.2 dd (k p e s m args below meth c ρ0 A ρ H locs als C X Y)
-- the static array
theorem rx_getKA {idx : Nat} (dd : decode M.2.1 pc = .ok (.getstatic idx, 3)) (hl : Cond.fieldLink M.1.cls idx "WhileSheLooks" "KIND_ABOVE" "[I" ∈ TB)
    (k : Rx g d mc ms M n0 Q cu su (pc + 3) ls (.ref 100200 :: st) sh S L) : Rx g d mc ms M n0 Q cu su pc ls st sh S L := fun p e s m args below meth c ρ0 A ρ H locs als C X Y =>
  va_gets C.1 C.2.1 X.2.2.2.2.2.2.2.2.2.1 X.2.2.1 C.2.2.2.2.1 (C.2.2.2.2.2.1 _ hl) (fun _ h => h) dd (k p e s m args below meth c ρ0 A ρ H locs als C X Y)
theorem rx_ldKA {i : Int32} (dd : decode M.2.1 pc = .ok (.iaload, 1)) (hin : vp_in i 7)
    (k : Rx g d mc ms M n0 Q cu su (pc + 1) ls (.int (kaTab.getD i.toNatClampNeg 0) :: rest) sh S L) : Rx g d mc ms M n0 Q cu su pc ls (.int i :: .ref 100200 :: rest) sh S L := fun p e s m args below meth c ρ0 A ρ H locs als C X Y =>
  va_ti C.1 C.2.1 X.2.2.2.2.2.2.2.2.1 X.2.2.1 hin rfl dd (k p e s m args below meth c ρ0 A ρ H locs als C X Y)
-- ends
theorem rx_iret {v : Int32} (dd : decode M.2.1 pc = .ok (.ireturn, 1)) (hr : M.2.2.2 = some .int) (hm : cu ≤ mc ∧ su ≤ ms) (q : Q (some (.int v)) sh S L) : Rx g d mc ms M n0 Q cu su pc ls [.int v] sh S L := fun p e s m args below meth c ρ0 A ρ H locs als C X Y => by
  refine W.widen hm.1 hm.2 ?_
  exact W.iret (v := v) C.1 C.2.1 (C.2.2.1.trans hr) (fun t ht hW => ⟨⟨some (.int v), sh, S, L, ρ, rfl, X.1, q, by rw [ht]; exact X.2.2.2.2.1, X.2.2.2.2.2.1⟩, X.2.2.1.F ht⟩) X.2.2.1.2.2 dd C.2.2.2.2.2.2.1
theorem rx_zret {v : Int32} {ty : FieldType} (dd : decode M.2.1 pc = .ok (.ireturn, 1)) (hr : M.2.2.2 = some ty) (hn : narrow ty (.int v) = .int v) (hm : cu ≤ mc ∧ su ≤ ms) (q : Q (some (.int v)) sh S L) : Rx g d mc ms M n0 Q cu su pc ls [.int v] sh S L := fun p e s m args below meth c ρ0 A ρ H locs als C X Y => by
  refine W.widen hm.1 hm.2 ?_
  exact W.zret (v := v) C.1 C.2.1 (C.2.2.1.trans hr) hn (fun t ht hW => ⟨⟨some (.int v), sh, S, L, ρ, rfl, X.1, q, by rw [ht]; exact X.2.2.2.2.1, X.2.2.2.2.2.1⟩, X.2.2.1.F ht⟩) X.2.2.1.2.2 dd C.2.2.2.2.2.2.1
theorem rx_lret {v : Int64} (dd : decode M.2.1 pc = .ok (.lreturn, 1)) (hr : M.2.2.2 = some .long) (hm : cu ≤ mc ∧ su ≤ ms) (q : Q (some (.long v)) sh S L) : Rx g d mc ms M n0 Q cu su pc ls [.long v] sh S L := fun p e s m args below meth c ρ0 A ρ H locs als C X Y => by
  refine W.widen hm.1 hm.2 ?_
  exact W.lret (v := v) C.1 C.2.1 (C.2.2.1.trans hr) (fun t ht hW => ⟨⟨some (.long v), sh, S, L, ρ, rfl, X.1, q, by rw [ht]; exact X.2.2.2.2.1, X.2.2.2.2.2.1⟩, X.2.2.1.F ht⟩) X.2.2.1.2.2 dd C.2.2.2.2.2.2.1
theorem rx_aret {v : Nat} {ty : FieldType} (dd : decode M.2.1 pc = .ok (.areturn, 1)) (hr : M.2.2.2 = some ty) (hty : (∃ n, ty = .object n) ∨ ∃ t, ty = .array t) (hm : cu ≤ mc ∧ su ≤ ms) (q : Q (some (.ref v)) sh S L) : Rx g d mc ms M n0 Q cu su pc ls [.ref v] sh S L := fun p e s m args below meth c ρ0 A ρ H locs als C X Y => by
  refine W.widen hm.1 hm.2 ?_
  exact W.aret (v := .ref (ad g ρ v)) C.1 C.2.1 (C.2.2.1.trans hr) hty (Or.inr ⟨_, rfl⟩) (fun t ht hW => ⟨⟨some (.ref v), sh, S, L, ρ, rfl, X.1, q, by rw [ht]; exact X.2.2.2.2.1, X.2.2.2.2.2.1⟩, X.2.2.1.F ht⟩) X.2.2.1.2.2 dd C.2.2.2.2.2.2.1
theorem rx_vret (dd : decode M.2.1 pc = .ok (.return_, 1)) (hr : M.2.2.2 = none) (hm : cu ≤ mc ∧ su ≤ ms) (q : Q none sh S L) : Rx g d mc ms M n0 Q cu su pc ls [] sh S L := fun p e s m args below meth c ρ0 A ρ H locs als C X Y => by
  refine W.widen hm.1 hm.2 ?_
  exact W.vret C.1 C.2.1 (C.2.2.1.trans hr) (fun t ht hW => ⟨⟨none, sh, S, L, ρ, rfl, X.1, q, by rw [ht]; exact X.2.2.2.2.1, X.2.2.2.2.2.1⟩, X.2.2.1.F ht⟩) X.2.2.1.2.2 dd C.2.2.2.2.2.2.1
end RX2
