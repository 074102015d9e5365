-- THE ABSTRACT MACHINE OF THIS PROOF: a method's run over a fixed net of cells (a shape), their contents as functions; all of the kit's machine stands behind Rx.
def TB : List Cond := lw_tbl.filter goodWord
theorem TB_good {ws : List Cond} (h : ∀ w ∈ ws, w ∈ TB) : GoodIn TB ws := fun w hw => ⟨h w hw, good_of_word (List.mem_filter.mp (h w hw)).2⟩
theorem TB_of {w : Cond} (i : Nat) (h : (tables_1[i]? == some w) = true) (hg : goodWord w = true) : w ∈ TB := by
  have h1 : tables_1[i]? = some w := eq_of_beq h
  exact List.mem_filter.mpr ⟨List.mem_append_right _ (List.mem_of_getElem? h1), hg⟩
theorem TB_sel {w : Cond} (i : Nat) (h : ((k2_sels lw_privs)[i]? == some w) = true) (hg : goodWord w = true) : w ∈ TB := by
  have h1 : (k2_sels lw_privs)[i]? = some w := eq_of_beq h
  exact List.mem_filter.mpr ⟨List.mem_append_left _ (List.mem_of_getElem? h1), hg⟩
theorem TB_tbl {s : State} {args : Array Value} (h : ∀ w ∈ lw_tbl, w.before args s = true) : ∀ w ∈ TB, w.before args s = true := fun w hw => h w (List.mem_filter.mp hw).1
/-- launch, class numbers, array classes by tag, addresses of cells that are there before (texts, a static array) -/
abbrev GG : Type := Launch × va_G × (Nat → ClassId) × (Nat → Nat)
/-- a cell's shape: tag, class or length, fields (kind, a, b) -/
abbrev CS : Type := Nat × Nat × List (Nat × Nat × Nat)
abbrev SS : Type := Nat → Nat → Int32
abbrev LL : Type := Nat → Nat → Int64
/-- a method: name, code, locals, type of its answer -/
abbrev MI : Type := MethodName × ByteArray × Nat × Option FieldType
def ad (g : GG) (ρ : Nat → Nat) (n : Nat) : Nat := if n < 100000 then ρ n else g.2.2.2 n
def vm (g : GG) (ρ : Nat → Nat) (v : Value) : Value := match v with
  | .ref n => .ref (ad g ρ n)
  | .int x => .int x
  | .long x => .long x
  | .float x => .float x
  | .double x => .double x
  | .null => .null
  | .retAddr x => .retAddr x
theorem vm_cat (g : GG) (ρ : Nat → Nat) (v : Value) : (vm g ρ v).category = v.category := by cases v <;> rfl
/-- a field's value: 0 a number; 1 null; 2 a fixed cell; else one of a row of cells, by number -/
def afv (f : Nat × Nat × Nat) (x : Int32) : Value := match f.1 with
  | 0 => .int x
  | 1 => .null
  | 2 => .ref f.2.1
  | _ => .ref (f.2.1 + f.2.2 * x.toNatClampNeg)
def rfv (g : GG) (ρ : Nat → Nat) (f : Nat × Nat × Nat) : Option Nat := match f.1 with
  | 2 => some (ad g ρ f.2.1)
  | _ => none
def cellE (g : GG) (ρ : Nat → Nat) (c : CS) (k : Nat) (S : SS) (L : LL) : va_E := match c.1 with
  | 0 => .inr (c.2.1, c.2.2.mapIdx (fun i f => vm g ρ (afv f (S k i))))
  | 1 => .inl (g.2.2.1 1, c.2.1, .inl (S k))
  | 2 => .inl (g.2.2.1 2, c.2.1, .inr (.inl (L k)))
  | 3 => .inl (g.2.2.1 3, c.2.1, .inl (S k))
  | 4 => .inl (g.2.2.1 4, c.2.1, .inl (S k))
  | t => .inl (g.2.2.1 t, c.2.1, .inr (.inr (.inr (.inr (fun j => (c.2.2[j]?).bind (rfv g ρ))))))
def wsOf (g : GG) (ρ : Nat → Nat) (sh : List CS) (S : SS) (L : LL) : va_W := sh.mapIdx (fun k c => (ρ k, cellE g ρ c k S L))
theorem wsOf_len (g : GG) (ρ : Nat → Nat) (sh : List CS) (S : SS) (L : LL) : (wsOf g ρ sh S L).length = sh.length := by simp [wsOf]
theorem wsOf_get {g : GG} {ρ : Nat → Nat} {sh : List CS} {S : SS} {L : LL} {k : Nat} {c : CS} (h : sh[k]? = some c) : (wsOf g ρ sh S L)[k]? = some (ρ k, cellE g ρ c k S L) := by
  simp [wsOf, List.getElem?_mapIdx, h]
def upS (S : SS) (a k : Nat) (x : Int32) : SS := fun j i => if j = a then (if i = k then x else S j i) else S j i
def upL (S : LL) (a k : Nat) (x : Int64) : LL := fun j i => if j = a then (if i = k then x else S j i) else S j i
theorem upS_row (S : SS) (a k : Nat) (x : Int32) : upS S a k x a = upd (S a) k x := by funext i; simp [upS, upd]
theorem upL_row (S : LL) (a k : Nat) (x : Int64) : upL S a k x a = vp_updL (S a) k x := by funext i; simp [upL, vp_updL]
theorem upS_off (S : SS) (a k : Nat) (x : Int32) {j : Nat} (h : j ≠ a) : upS S a k x j = S j := by funext i; simp [upS, h]
theorem upL_off (S : LL) (a k : Nat) (x : Int64) {j : Nat} (h : j ≠ a) : upL S a k x j = S j := by funext i; simp [upL, h]
theorem wsOf_set {g : GG} {ρ : Nat → Nat} {sh : List CS} {S S' : SS} {L L' : LL} {a : Nat} {c : CS} {e : va_E} (h : sh[a]? = some c) (he : e = cellE g ρ c a S' L') (ho : ∀ j, j ≠ a → S' j = S j ∧ L' j = L j) :
    (wsOf g ρ sh S L).set a (ρ a, e) = wsOf g ρ sh S' L' := by
  apply List.ext_getElem?
  intro k
  by_cases hk : k = a
  · subst hk
    have hl : k < (wsOf g ρ sh S L).length := by rw [wsOf_len]; exact (List.getElem?_eq_some_iff.mp h).1
    rw [List.getElem?_set_self hl, wsOf_get h, he]
  · rw [List.getElem?_set_ne (fun q => hk q.symm)]
    obtain ⟨h1, h2⟩ := ho k hk
    cases hs : sh[k]? with
    | none => simp [wsOf, List.getElem?_mapIdx, hs]
    | some c' =>
      rw [wsOf_get hs, wsOf_get hs]
      simp only [cellE, h1, h2]
/-- the array classes, by tag (place = tag - 1) -/
def tysOf (g : GG) : List (ClassId × FieldType) := [(g.2.2.1 1, .int), (g.2.2.1 2, .long), (g.2.2.1 3, .byte), (g.2.2.1 4, .boolean), (g.2.2.1 5, .object "WhileSheLooks$Child"), (g.2.2.1 6, .object "WhileSheLooks$Yard"), (g.2.2.1 7, .array .long)]
def rmD (d mc ms : Nat) : Room := { frames := d, cells := mc, slots := ms, locals := 100 * d }
def wsM (M : MI) : List Cond := Cond.code M.1 M.2.1 M.2.2.1 M.2.2.2 :: TB
-- what was there before: texts, a static array, words that no list of words passes on
def strTab : List (String × Nat × String × Nat) := [("WhileSheLooks$Turns", 23, "ckebat", 0), ("WhileSheLooks$Yard", 76, "wobble", 1), ("WhileSheLooks$Yard", 78, "still", 2), ("WhileSheLooks$Yard", 80, "far", 3), ("WhileSheLooks$Yard", 81, "sharp", 4), ("WhileSheLooks$Yard", 82, "sees", 5), ("WhileSheLooks$Yard", 123, "ckebat", 0), ("WhileSheLooks$Yard", 128, "<=>", 6)]
def strByt : List (List Int32) := [[99, 107, 101, 98, 97, 116], [119, 111, 98, 98, 108, 101], [115, 116, 105, 108, 108], [102, 97, 114], [115, 104, 97, 114, 112], [115, 101, 101, 115], [60, 61, 62]]
def strLen : List Nat := [6, 6, 5, 3, 5, 4, 3]
def kaTab : List Int32 := [-1, 0, 0, 0, 1, 2, 3]
def nestTab : List (String × Nat × MethodName × String) := [("WhileSheLooks", 11, ⟨"WhileSheLooks$Child", "<init>", "()V"⟩, "WhileSheLooks"), ("WhileSheLooks", 14, ⟨"WhileSheLooks$Quick", "<init>", "()V"⟩, "WhileSheLooks"), ("WhileSheLooks$Quick", 1, ⟨"WhileSheLooks$Child", "<init>", "()V"⟩, "WhileSheLooks"), ("WhileSheLooks", 17, ⟨"WhileSheLooks$Steady", "<init>", "()V"⟩, "WhileSheLooks"), ("WhileSheLooks$Steady", 1, ⟨"WhileSheLooks$Child", "<init>", "()V"⟩, "WhileSheLooks"), ("WhileSheLooks", 20, ⟨"WhileSheLooks$Small", "<init>", "()V"⟩, "WhileSheLooks"), ("WhileSheLooks$Small", 1, ⟨"WhileSheLooks$Child", "<init>", "()V"⟩, "WhileSheLooks"), ("WhileSheLooks", 23, ⟨"WhileSheLooks$Reckless", "<init>", "()V"⟩, "WhileSheLooks"), ("WhileSheLooks$Reckless", 1, ⟨"WhileSheLooks$Quick", "<init>", "()V"⟩, "WhileSheLooks"), ("WhileSheLooks", 26, ⟨"WhileSheLooks$Careful", "<init>", "()V"⟩, "WhileSheLooks"), ("WhileSheLooks$Careful", 1, ⟨"WhileSheLooks$Steady", "<init>", "()V"⟩, "WhileSheLooks"), ("WhileSheLooks", 29, ⟨"WhileSheLooks$Told", "<init>", "()V"⟩, "WhileSheLooks"), ("WhileSheLooks$Told", 1, ⟨"WhileSheLooks$Small", "<init>", "()V"⟩, "WhileSheLooks"), ("WhileSheLooks", 75, ⟨"WhileSheLooks$Acts", "<init>", "()V"⟩, "WhileSheLooks")]
def castTab : List String := ["WhileSheLooks$Quick", "WhileSheLooks$Steady", "WhileSheLooks$Small", "WhileSheLooks$Reckless", "WhileSheLooks$Careful", "WhileSheLooks$Told"]
def declTab : List MethodName := [⟨"WhileSheLooks$Child", "paceOf", "(II)I"⟩, ⟨"WhileSheLooks$Child", "wobblesOf", "(IIIII)I"⟩, ⟨"WhileSheLooks$Child", "running", "(LWhileSheLooks$Acts;I)I"⟩, ⟨"WhileSheLooks$Child", "standing", "(LWhileSheLooks$Acts;I)I"⟩, ⟨"WhileSheLooks$Child", "telling", "(LWhileSheLooks$Acts;I)I"⟩]
/-- an array of rows of longs may be made -/
def aoL (U : State) : Prop := (Cond.arrayOver (.array .long)).before #[] U = true
theorem aoL.spec {U : State} (h : aoL U) : ∃ comp c k, U.vm.findClass (FieldType.array .long).toString = some comp ∧ (U.vm.classes.findIdx? fun (x : Class) => match x.kind with | .array component _ => component == comp | _ => false) = some c ∧ U.vm.classes[c]? = some k ∧ k.kind = .array comp (.array .long) ∧ U.vm.findClass ("[" ++ (FieldType.array .long).toString) = some c := by
  unfold aoL Cond.before at h
  simp only [Cond.holds, Cond.value, beq_iff_eq] at h
  cases hc : U.vm.findClass (FieldType.array .long).toString with
  | none => simp [hc] at h
  | some comp =>
    simp only [hc, Option.bind_some, Option.bind_eq_some_iff, Option.map_eq_some_iff] at h
    obtain ⟨c, hi, k, hk, hb⟩ := h
    obtain ⟨hlt, hp, -⟩ := Array.findIdx?_eq_some_iff_getElem.mp hi
    have hkk : U.vm.classes[c] = k := (Array.getElem?_eq_some_iff.mp hk).2
    rw [hkk] at hp
    cases hkind : k.kind with
    | array component ty =>
      rw [hkind] at hb hp
      simp at hb hp
      exact ⟨comp, c, k, rfl, hi, hk, by rw [hkind, hp, hb.1], hb.2⟩
    | _ => rw [hkind] at hb; simp at hb
theorem aoL.moved {u U : State} (hvm : u.vm.Alike U.vm) (h : aoL u) : aoL U := by
  obtain ⟨comp, c, k, h1, h2, h3, h4, h5⟩ := aoL.spec h
  obtain ⟨k', hk', he⟩ := hvm.2.2 _ _ h3
  have hi : (U.vm.classes.findIdx? fun (x : Class) => match x.kind with | .array component _ => component == comp | _ => false) = some c := by
    refine (va_idx_bare U.vm comp).symm.trans ?_
    first | rw [hvm.bare_eq] | rw [← hvm.bare_eq]
    exact (va_idx_bare u.vm comp).trans h2
  have hkind : k'.kind = .array comp (.array .long) := by rw [he]; exact h4
  have f1 : U.vm.findClass (FieldType.array .long).toString = some comp := by rw [hvm.findClass]; exact h1
  have f2 : U.vm.findClass ("[" ++ (FieldType.array .long).toString) = some c := by rw [hvm.findClass]; exact h5
  unfold aoL Cond.before Cond.holds
  simp only [Cond.value]
  rw [f1, Option.bind_some]
  refine (congrArg (fun o : Option Nat => (o.bind (fun c => (U.vm.classes[c]?).map fun (k : Class) => match k.kind with | .array _ ty => decide (ty = FieldType.array .long) && decide (U.vm.findClass ("[" ++ (FieldType.array .long).toString) = some c) | _ => false) == some true)) hi).trans ?_
  simp [hk', hkind, f2]
/-- a static of which only this is known: null, or a reference -/
def ZqG (g : GG) (A : Nat → Prop) (U : State) (H : Heap) : Prop := va_Z "jdk/internal/util/Preconditions" "SIOOBE_FORMATTER" "Ljava/util/function/BiFunction;" .null A U H ∨ va_Z "jdk/internal/util/Preconditions" "SIOOBE_FORMATTER" "Ljava/util/function/BiFunction;" (.ref (g.2.2.2 100201)) A U H
theorem ZqG.moved {g : GG} {A : Nat → Prop} {u U : State} {H : Heap} (hm : u.vm.Alike U.vm) (h : ZqG g A u H) : ZqG g A U H := h.elim (fun q => Or.inl (va_Z.moved hm q)) (fun q => Or.inr (va_Z.moved hm q))
theorem ZqG.kept {g : GG} {A : Nat → Prop} {U : State} {H H1 : Heap} (h : ZqG g A U H) (hq : ∀ a : Nat, a < H.size → ¬ A a → H1[a]? = H[a]?) : ZqG g A U H1 := h.elim (fun q => Or.inl (q.kept hq)) (fun q => Or.inr (q.kept hq))
theorem ZqG.narrow {g : GG} {A B : Nat → Prop} {U : State} {H : Heap} (h : ZqG g A U H) (hAB : ∀ q, B q → A q) : ZqG g B U H := h.elim (fun q => Or.inl (q.narrow hAB)) (fun q => Or.inr (q.narrow hAB))
def NWs (U : State) : Prop := (∀ w ∈ nestTab, va_Nw (.methodLinkNest w.1 w.2.1 w.2.2.1 w.2.2.2) U) ∧ (∀ C ∈ castTab, va_Nw (.castable C "WhileSheLooks$Child") U) ∧ (∀ y ∈ declTab, va_Nw (.declares y) U) ∧ va_AO "WhileSheLooks$Child" U ∧ va_AO "WhileSheLooks$Yard" U ∧ aoL U
def Stat (g : GG) (A : Nat → Prop) (U : State) (H : Heap) : Prop :=
  (∀ q ∈ strTab, vk_R q.1 q.2.1 q.2.2.1 (g.2.2.2 (100000 + q.2.2.2)) U) ∧ vk_S 7 strLen strByt (fun i => g.2.2.2 (100000 + i)) (fun i => g.2.2.2 (100100 + i)) A U H ∧
  va_T .int (g.2.2.2 100200) 7 (fun j => .int (kaTab.getD j 0)) A U H ∧ va_Z "WhileSheLooks" "KIND_ABOVE" "[I" (.ref (g.2.2.2 100200)) A U H ∧ va_Z "java/lang/String" "COMPACT_STRINGS" "Z" (.int 1) A U H ∧
  ZqG g A U H ∧ NWs U
theorem Stat.warm {g : GG} {A : Nat → Prop} {s U : State} {H : Heap} (hW : s.WarmedH U.vm) (h : Stat g A s H) : Stat g A U H := by
  obtain ⟨h1, h2, h3, h4, h5, h6, h7, h8, h9, h10, h11, h12⟩ := h
  have hm : s.vm.Alike U.vm := hW.alike
  exact ⟨fun q hq => vk_R.warm hW (h1 q hq), vk_S.moved hm h2, va_T.moved hm h3, va_Z.moved hm h4, va_Z.moved hm h5, ZqG.moved hm h6, fun w hw => va_Nw.warmM hW (h7 w hw), fun C hC => va_Nw.warmC hW (h8 C hC), fun y hy => va_Nw.warmD hW (h9 y hy), va_AO.moved hm h10, va_AO.moved hm h11, aoL.moved hm h12⟩
theorem Stat.same {g : GG} {A : Nat → Prop} {u U : State} {H : Heap} (hv : U.vm = u.vm) (h : Stat g A u H) : Stat g A U H := by
  obtain ⟨h1, h2, h3, h4, h5, h6, h7, h8, h9, h10, h11, h12⟩ := h
  have hm : u.vm.Alike U.vm := by rw [hv]; exact Vm.Alike.refl _
  exact ⟨fun q hq => vk_R.same hv (h1 q hq), vk_S.moved hm h2, va_T.moved hm h3, va_Z.moved hm h4, va_Z.moved hm h5, ZqG.moved hm h6, fun w hw => va_Nw.same rfl hv.symm (h7 w hw), fun C hC => va_Nw.same rfl hv.symm (h8 C hC), fun y hy => va_Nw.same rfl hv.symm (h9 y hy), va_AO.moved hm h10, va_AO.moved hm h11, aoL.moved hm h12⟩
theorem Stat.kept {g : GG} {A : Nat → Prop} {U : State} {H H1 : Heap} (h : Stat g A U H) (hq : ∀ a : Nat, a < H.size → ¬ A a → H1[a]? = H[a]?) : Stat g A U H1 := by
  obtain ⟨h1, h2, h3, h4, h5, h6, h7⟩ := h
  exact ⟨h1, h2.kept hq, h3.kept hq, h4.kept hq, h5.kept hq, h6.kept hq, h7⟩
theorem Stat.narrow {g : GG} {A B : Nat → Prop} {U : State} {H : Heap} (h : Stat g A U H) (hAB : ∀ q, B q → A q) : Stat g B U H := by
  obtain ⟨h1, h2, h3, h4, h5, h6, h7⟩ := h
  exact ⟨h1, h2.narrow hAB, h3.narrow hAB, h4.narrow hAB, h5.narrow hAB, h6.narrow hAB, h7⟩
-- locals: a value known, or not, at each place
def enumL : Nat → List (Option Value) → List (Nat × Value)
  | _, [] => []
  | i, none :: l => enumL (i + 1) l
  | i, some v :: l => (i, v) :: enumL (i + 1) l
theorem mem_enumL : ∀ (l : List (Option Value)) (i j : Nat) (v : Value), (j, v) ∈ enumL i l ↔ ∃ t, j = i + t ∧ l[t]? = some (some v)
  | [], i, j, v => by simp [enumL]
  | none :: l, i, j, v => by
    rw [enumL, mem_enumL l (i + 1) j v]
    constructor
    · rintro ⟨t, h1, h2⟩
      exact ⟨t + 1, by omega, by simpa using h2⟩
    · rintro ⟨t, h1, h2⟩
      cases t with
      | zero => simp at h2
      | succ t => exact ⟨t, by omega, by simpa using h2⟩
  | some w :: l, i, j, v => by
    rw [enumL, List.mem_cons, mem_enumL l (i + 1) j v]
    constructor
    · rintro (h | ⟨t, h1, h2⟩)
      · cases h
        exact ⟨0, rfl, rfl⟩
      · exact ⟨t + 1, by omega, by simpa using h2⟩
    · rintro ⟨t, h1, h2⟩
      cases t with
      | zero =>
        simp at h2
        subst h2
        exact Or.inl (by rw [h1]; rfl)
      | succ t => exact Or.inr ⟨t, by omega, by simpa using h2⟩
def LSr (g : GG) (ρ : Nat → Nat) (nL : Nat) (als : Array Slot) (ls : List (Option Value)) : Prop := ls.length = nL ∧ lv_has als nL (enumL 0 (ls.map (Option.map (vm g ρ))))
theorem LSr.at {g : GG} {ρ : Nat → Nat} {nL : Nat} {als : Array Slot} {ls : List (Option Value)} (h : LSr g ρ nL als ls) {i : Nat} {v : Value} (hi : ls[i]? = some (some v)) : als[i]? = some (.val (vm g ρ v)) :=
  h.2.2.2 (i, vm g ρ v) ((mem_enumL _ 0 i _).mpr ⟨i, by omega, by simp [hi]⟩)
def nc2 (a : Option Value) : Bool := match a with
  | none => true
  | some v => v.category == 1
theorem LSr.put {g : GG} {ρ : Nat → Nat} {nL : Nat} {als als' : Array Slot} {ls ls' : List (Option Value)} {i : Nat} {v : Value} (h : LSr g ρ nL als ls)
    (h' : lv_has als' nL ((i, vm g ρ v) :: (enumL 0 (ls.map (Option.map (vm g ρ)))).filter (fun q => !(q.1 == i) && !(q.1 + 1 == i && q.2.category == 2))))
    (hl : ls'.length = ls.length) (hs : ∀ (j : Nat) (w : Value), ls'[j]? = some (some w) → (j = i ∧ w = v) ∨ (j ≠ i ∧ ls[j]? = some (some w) ∧ (j + 1 = i → w.category = 1))) : LSr g ρ nL als' ls' := by
  refine ⟨hl.trans h.1, h'.1, h'.2.1, fun q hq => ?_⟩
  obtain ⟨j, w⟩ := q
  obtain ⟨t, ht, hw⟩ := (mem_enumL _ 0 j w).mp hq
  have e : j = t := by omega
  subst e
  rw [List.getElem?_map] at hw
  cases hz : ls'[j]? with
  | none => rw [hz] at hw; simp at hw
  | some z =>
    cases z with
    | none => rw [hz] at hw; simp at hw
    | some w0 =>
      rw [hz] at hw
      simp at hw
      subst hw
      rcases hs j w0 hz with ⟨rfl, rfl⟩ | ⟨h1, h2, h3⟩
      · exact h'.2.2 _ List.mem_cons_self
      · refine h'.2.2 _ (List.mem_cons_of_mem _ (List.mem_filter.mpr ⟨(mem_enumL _ 0 j _).mpr ⟨j, by omega, by simp [h2]⟩, ?_⟩))
        simp only [vm_cat]
        by_cases hj : j + 1 = i
        · simp [h1, h3 hj]
        · simp [h1, hj]
theorem LSr.weak {g : GG} {ρ : Nat → Nat} {nL : Nat} {als : Array Slot} {ls ls' : List (Option Value)} (h : LSr g ρ nL als ls) (hl : ls'.length = ls.length) (hs : ∀ (j : Nat) (w : Value), ls'[j]? = some (some w) → ls[j]? = some (some w)) : LSr g ρ nL als ls' := by
  refine ⟨hl.trans h.1, h.2.1, h.2.2.1, fun q hq => ?_⟩
  obtain ⟨j, w⟩ := q
  obtain ⟨t, ht, hw⟩ := (mem_enumL _ 0 j w).mp hq
  have e : j = t := by omega
  subst e
  rw [List.getElem?_map] at hw
  cases hz : ls'[j]? with
  | none => rw [hz] at hw; simp at hw
  | some z =>
    cases z with
    | none => rw [hz] at hw; simp at hw
    | some w0 =>
      rw [hz] at hw
      simp at hw
      subst hw
      exact h.at (hs j w0 hz)
def Ctx (M : MI) (p : Program) (s : State) (m : MethodId) (args : Array Value) (meth : Method) (c : Code) : Prop :=
  p.tables.exec = Jvm.exec ∧ c.code = M.2.1 ∧ meth.sig.returnType = M.2.2.2 ∧ c.maxLocals = M.2.2.1 ∧ s.vm.findClass M.1.cls = some m.cls ∧ (∀ w ∈ TB, w.before args s = true) ∧ meth.locks = false ∧ meth.name = M.1.name
def Wd (g : GG) (n0 : Nat) (ρ0 ρ : Nat → Nat) (sh : List CS) (S : SS) (L : LL) (A : Nat → Prop) (H : Heap) (locs : List Loc) (s : State) : Prop :=
  (n0 ≤ sh.length ∧ sh.length ≤ 100000 ∧ ∀ k, k < n0 ∨ sh.length ≤ k → ρ k = ρ0 k) ∧ (∀ q, s.heap.size ≤ q → A q) ∧ va_S A s.heap H locs ∧ va_K g.2.1 vwCl (tysOf g) s ∧ va_P g.2.1 vwCl (wsOf g ρ sh S L) H ∧ va_D A (wsOf g ρ sh S L) ∧ Stat g A s s.heap
/-- what a method leaves -/
def Qx (g : GG) (ρ0 : Nat → Nat) (n0 : Nat) (A : Nat → Prop) (Q : Option Value → List CS → SS → LL → Prop) : Array Value → State → Outcome → State → Prop := fun _ st o t =>
  (∃ (r : Option Value) (sh' : List CS) (S' : SS) (L' : LL) (ρ' : Nat → Nat), o = .returned (r.map (vm g ρ')) ∧ (n0 ≤ sh'.length ∧ sh'.length ≤ 100000 ∧ ∀ k, k < n0 ∨ sh'.length ≤ k → ρ' k = ρ0 k) ∧ Q r sh' S' L' ∧ va_P g.2.1 vwCl (wsOf g ρ' sh' S' L') t.heap ∧ va_D A (wsOf g ρ' sh' S' L')) ∧ va_F A st t
/-- THE RUN: from pc, with locals ls, stack st, cells sh with contents S, L, the method comes to its end with Q -/
def Rx (g : GG) (d mc ms : Nat) (M : MI) (n0 : Nat) (Q : Option Value → List CS → SS → LL → Prop) (cu su pc : Nat) (ls : List (Option Value)) (st : List Value) (sh : List CS) (S : SS) (L : LL) : Prop :=
  ∀ (p : Program) (e : Env) (s : State) (m : MethodId) (args : Array Value) (below : List Frame) (meth : Method) (c : Code) (ρ0 : Nat → Nat) (A : Nat → Prop) (ρ : Nat → Nat) (H : Heap) (locs : List Loc) (als : Array Slot),
    Ctx M p s m args meth c → Wd g n0 ρ0 ρ sh S L A H locs s → LSr g ρ M.2.2.1 als ls →
    W p g.1 e (rmD d mc ms) s m args below meth c H locs cu su (MQ below (Qx g ρ0 n0 A Q) args s mc ms A) (F0 m pc als (st.map (vm g ρ)))
/-- THE CONTRACT -/
def Ct (g : GG) (d mc ms : Nat) (M : MI) (av : List Value) (sh : List CS) (S : SS) (L : LL) (Q : Option Value → List CS → SS → LL → Prop) : Prop :=
  ∀ (ρ : Nat → Nat) (sz : Nat), Met g.1 M.1 (wsM M) (rmD d mc ms)
    (va_Pc (av.map (vm g ρ)) (fun U => U.heap.size = sz ∧ sh.length ≤ 100000 ∧ va_P g.2.1 vwCl (wsOf g ρ sh S L) U.heap ∧ va_K g.2.1 vwCl (tysOf g) U ∧ va_D (fun _ => True) (wsOf g ρ sh S L) ∧ Stat g (va_A (wsOf g ρ sh S L) sz) U U.heap))
    (Qx g ρ sh.length (va_A (wsOf g ρ sh S L) sz) Q) mc ms (va_A (wsOf g ρ sh S L) sz)
def entL : List Value → List (Option Value)
  | [] => []
  | v :: vs => if v.category = 2 then some v :: none :: entL vs else some v :: entL vs
