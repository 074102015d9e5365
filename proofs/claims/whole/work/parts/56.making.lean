-- MAKING
def va_AOA (ty : FieldType) (U : State) : Prop := (Cond.arrayOver (.array ty)).before #[] U = true
theorem va_AOA.use {ty : FieldType} {A : Array Value} {U : State} (h : va_AOA ty U) : (Cond.arrayOver (.array ty)).before A U = true := h
/-! ===== BEGIN new T[n][m]: the outer array a place, the inner ones among the pooled ===== -/
/-- f, but v at every address of l -/
def vr_up {α : Type} (f : Nat → α) (l : List Nat) (v : α) : Nat → α := fun a => if a ∈ l then v else f a
theorem vr_up_in {α : Type} {f : Nat → α} {l : List Nat} {v : α} {a : Nat} (h : a ∈ l) : vr_up f l v a = v := if_pos h
theorem vr_up_ne {α : Type} {f : Nat → α} {l : List Nat} {v : α} {a : Nat} (h : a ∉ l) : vr_up f l v a = f a := if_neg h
theorem vr_rows {L l : List Nat} {f : Nat → va_E} {e : va_E} (h : ∀ a, a ∈ l → a ∉ L) : va_pl L f ++ l.map (fun a => (a, e)) = va_pl (L ++ l) (vr_up f l e) := by
  unfold va_pl
  rw [List.map_append]
  congr 1
  · apply List.map_congr_left
    intro a ha
    rw [vr_up_ne (fun q => h a q ha)]
  · apply List.map_congr_left
    intro a ha
    rw [vr_up_in ha]
theorem vr_lay {X rows : va_W} {x : Nat × va_E} {pl : va_W} {D : va_G} {cl : List vw_C} {H : Heap} (hP : va_P D cl (((X ++ pl) ++ [x]) ++ rows) H) : va_P D cl ((X ++ [x]) ++ (pl ++ rows)) H := by
  rw [List.append_assoc (X ++ pl)] at hP
  have h := va_P.swap hP
  rw [← List.append_assoc X] at h
  have h2 := va_P.swap h
  rw [List.append_assoc (X ++ [x])] at h2
  exact h2
theorem vr_layD {X rows : va_W} {x : Nat × va_E} {pl : va_W} {A : Nat → Prop} (hD : va_D A (((X ++ pl) ++ [x]) ++ rows)) : va_D A ((X ++ [x]) ++ (pl ++ rows)) := by
  rw [List.append_assoc (X ++ pl)] at hD
  have h := va_D.swap hD
  rw [← List.append_assoc X] at h
  have h2 := va_D.swap h
  rw [List.append_assoc (X ++ [x])] at h2
  exact h2
theorem vr_outer (c : ClassId) (N h0 : Nat) : ∀ i : Nat, Jvm.Free.Multi.outerC c N h0 i = arrV c N (fun j => va_rf (if j < i then some (h0 + 1 + j) else none))
  | 0 => by
    show ({ cls := c, slots := Array.replicate N .null, vm := .none } : Cell) = _
    rw [arrV_new]
    refine congrArg (arrV c N) (funext fun j => ?_)
    simp [va_rf]
  | i + 1 => by
    show (Jvm.Free.Multi.outerC c N h0 i).setSlot i (.ref (h0 + 1 + i)) = _
    rw [vr_outer c N h0 i, arrV_store]
    refine congrArg (arrV c N) (funext fun j => ?_)
    by_cases e : j = i
    · subst e
      simp [updV, va_rf]
    · by_cases h : j < i
      · simp [updV, e, h, Nat.lt_succ_of_lt h]
      · simp [updV, e, h, show ¬ j < i + 1 by omega]
section VGM
variable {p : Program} {l : Launch} {e : Env} {R : Room} {s : State} {m : MethodId} {args : Array Value} {below : List Frame} {meth : Method} {c : Code} {H : Heap} {locs : List Loc} {cells slots : Nat} {Q : State → Prop}
variable {cc : ByteArray} {pc : Nat} {ls : Array Slot} {rest : List Value} {D : va_G} {cl : List vw_C} {A : Nat → Prop} {a : Nat} {tys : List (ClassId × FieldType)} {ws : va_W} {H0 : Heap}
theorem va_mna {X : va_W} {L : List Nat} {f : Nat → va_E} {cc : ByteArray} (hexec : p.tables.exec = Jvm.exec) (hb : c.code = cc) {own : String} {index : Nat} {ty : FieldType} {cy : ClassId} (hown : s.vm.findClass own = some m.cls) (hclink : (Cond.classLink own index ("[" ++ (FieldType.array ty).toString)).before args s = true) (hover : va_AOA ty s) (harr : (Cond.arrayClass ty).before args s = true) (hcy : s.vm.findClass (FieldType.array ty).toString = some cy)
    (hK : va_K D cl tys s) (hP : va_P D cl (X ++ va_pl L f) H) (hD : va_D A (X ++ va_pl L f)) (hS : va_S A H0 H locs) (hA : ∀ q, H0.size ≤ q → A q) {n k : Int32} {N' K' : Nat} {z : vp_A} (hn : ¬ n < 0) (hk : ¬ k < 0) (hN : n.toNatClampNeg = N') (hM : k.toNatClampNeg = K')
    (hb1 : N' * 4 ≤ 536870912) (hb2 : K' * componentBytes ty ≤ 536870912) (hb3 : K' ≤ 536870912) (hdf : fits ty (defaultValue ty) = true) (hdd : (defaultValue ty).isDefault = true) (hcells : cells + (1 + N') ≤ R.cells) (hslots : slots + (N' + N' * K') ≤ R.slots) (hz : ∀ c : ClassId, Jvm.Free.Multi.innerC c K' (defaultValue ty) = vp_cell c z) (hdg : decode cc pc = .ok (.multianewarray index 2, 4))
    (kk : ∀ (q : Nat) (r : Nat → Nat) (cA : ClassId) (H1 : Heap), (∀ i j : Nat, i < N' → j < N' → r i = r j → i = j) → (∀ i : Nat, i < N' → r i ∉ L) → va_K D cl (tys ++ [(cA, .array ty)]) s →
      va_P D cl ((X ++ [(q, .inl (cA, N', .inr (.inr (.inr (.inr (fun i => if i < N' then some (r i) else none))))))]) ++ va_pl (L ++ (List.range N').map r) (vr_up f ((List.range N').map r) (.inl (cy, z)))) H1 → va_D A ((X ++ [(q, .inl (cA, N', .inr (.inr (.inr (.inr (fun i => if i < N' then some (r i) else none))))))]) ++ va_pl (L ++ (List.range N').map r) (vr_up f ((List.range N').map r) (.inl (cy, z)))) → va_S A H0 H1 locs →
      W p l e R s m args below meth c H1 locs (cells + 1 + N') (slots + N' + N' * K') Q (F0 m (pc + 4) ls (.ref q :: rest))) : W p l e R s m args below meth c H locs cells slots Q (F0 m pc ls (.int k :: .int n :: rest)) := by
  subst hN
  subst hM
  intro T hT Xs
  obtain ⟨vm₁, cA, comp, -, fA, fC, hO, -, X', step⟩ := Xs.multianewarray2F hexec hown hclink (va_AOA.use hover) harr (g := F0 m pc ls (.int k :: .int n :: rest)) rfl (by rw [hb]; exact hdg) rfl hn hk hb1 hb2 hb3 hdf hdd hcells hslots
  have ec : some cy = some comp := hcy.symm.trans fC
  cases ec
  generalize hF : Jvm.Free.Multi.fill (T.setVm vm₁) cA cy n.toNatClampNeg k.toNatClampNeg (defaultValue ty) n.toNatClampNeg = F at X' step
  have hTh : (T.setVm vm₁).heap = H := hT
  obtain ⟨f1, f2, -, -⟩ := Jvm.Free.Multi.fill_facts (T.setVm vm₁) cA cy n.toNatClampNeg k.toNatClampNeg (defaultValue ty) n.toNatClampNeg
  rw [hF, hTh] at f1 f2
  have hold : ∀ x : Nat, x < H.size → F.heap[x]? = H[x]? := fun x hx => by
    have := Jvm.Free.Multi.fill_old (T.setVm vm₁) cA cy n.toNatClampNeg k.toNatClampNeg (defaultValue ty) (a := x) (by rw [hTh]; exact hx) n.toNatClampNeg
    rw [hF, hTh] at this
    exact this
  have hrow : ∀ j : Nat, j < n.toNatClampNeg → F.heap[H.size + 1 + j]? = some (vp_cell cy z) := fun j hj => by
    have := Jvm.Free.Multi.fill_inner (T.setVm vm₁) cA cy n.toNatClampNeg k.toNatClampNeg (defaultValue ty) n.toNatClampNeg j hj
    rw [hF, hTh, hz] at this
    exact this
  have hout : Jvm.Free.Multi.outerC cA n.toNatClampNeg H.size n.toNatClampNeg = vp_cell cA (n.toNatClampNeg, .inr (.inr (.inr (.inr (fun i => if i < n.toNatClampNeg then some (H.size + 1 + i) else none))))) := by
    rw [vp_cell_q]
    exact vr_outer cA n.toNatClampNeg H.size n.toNatClampNeg
  rw [hout] at f2
  have hlt : ∀ a, a ∈ L → a < H.size := fun a ha => by
    obtain ⟨k9, hk9⟩ := va_pl_get (X := X) (f := f) ha
    exact (hP k9 _ hk9).lt
  have hnl : ∀ i : Nat, i < n.toNatClampNeg → H.size + 1 + i ∉ L := fun i _ h => by
    have := hlt _ h
    omega
  have hnm : ∀ a, a ∈ (List.range n.toNatClampNeg).map (fun i => H.size + 1 + i) → a ∉ L := fun a ha h => by
    obtain ⟨i, -, rfl⟩ := List.mem_map.mp ha
    have := hlt _ h
    omega
  have hP0 : va_P D cl (X ++ va_pl L f) F.heap := hP.kept (fun k9 x hx => hold x.1 ((hP k9 x hx).lt))
  have hP1 : va_P D cl ((X ++ va_pl L f) ++ [(H.size, .inl (cA, n.toNatClampNeg, .inr (.inr (.inr (.inr (fun i => if i < n.toNatClampNeg then some (H.size + 1 + i) else none))))))]) F.heap := hP0.app (fun k9 x hx => by
    have h0 : k9 < 1 := (List.getElem?_eq_some_iff.mp hx).1
    rw [show k9 = 0 by omega] at hx
    cases hx
    exact f2)
  have hP2 : va_P D cl (((X ++ va_pl L f) ++ [(H.size, .inl (cA, n.toNatClampNeg, .inr (.inr (.inr (.inr (fun i => if i < n.toNatClampNeg then some (H.size + 1 + i) else none))))))]) ++ ((List.range n.toNatClampNeg).map (fun i => H.size + 1 + i)).map (fun a => (a, .inl (cy, z)))) F.heap := hP1.app (fun k9 x hx => by
    obtain ⟨a, ha, rfl⟩ := List.mem_map.mp (List.mem_of_getElem? hx)
    obtain ⟨i, hi, rfl⟩ := List.mem_map.mp ha
    exact hrow i (List.mem_range.mp hi))
  have hD2 : va_D A (((X ++ va_pl L f) ++ [(H.size, .inl (cA, n.toNatClampNeg, .inr (.inr (.inr (.inr (fun i => if i < n.toNatClampNeg then some (H.size + 1 + i) else none))))))]) ++ ((List.range n.toNatClampNeg).map (fun i => H.size + 1 + i)).map (fun a => (a, .inl (cy, z)))) := by
    have hD1 := hD.push (e := .inl (cA, n.toNatClampNeg, .inr (.inr (.inr (.inr (fun i => if i < n.toNatClampNeg then some (H.size + 1 + i) else none)))))) hP rfl (hA _ hS.1)
    generalize hW1 : (X ++ va_pl L f) ++ [(H.size, .inl (cA, n.toNatClampNeg, .inr (.inr (.inr (.inr (fun i => if i < n.toNatClampNeg then some (H.size + 1 + i) else none))))))] = W1 at hD1 hP1 ⊢
    have hle : ∀ (k9 : Nat) (x : Nat × va_E), W1[k9]? = some x → x.1 ≤ H.size := fun k9 x hx => by
      rw [← hW1] at hx
      by_cases hl : k9 < (X ++ va_pl L f).length
      · rw [List.getElem?_append_left hl] at hx
        exact Nat.le_of_lt ((hP k9 x hx).lt)
      · rw [List.getElem?_append_right (by omega)] at hx
        have h0 : k9 - (X ++ va_pl L f).length < 1 := (List.getElem?_eq_some_iff.mp hx).1
        rw [show k9 - (X ++ va_pl L f).length = 0 by omega] at hx
        cases hx
        exact Nat.le_refl _
    have hr : ∀ (k9 : Nat) (x : Nat × va_E), (((List.range n.toNatClampNeg).map (fun i => H.size + 1 + i)).map (fun a => ((a, .inl (cy, z)) : Nat × va_E)))[k9]? = some x → x.1 = H.size + 1 + k9 := fun k9 x hx => by
      rw [List.getElem?_map, List.getElem?_map] at hx
      by_cases h9 : k9 < n.toNatClampNeg
      · rw [List.getElem?_range h9] at hx
        cases hx
        rfl
      · have hn0 : (List.range n.toNatClampNeg)[k9]? = none := List.getElem?_eq_none (by rw [List.length_range]; omega)
        rw [hn0] at hx
        cases hx
    refine ⟨fun i j x y hi hj hxy => ?_, fun k9 x hx => ?_⟩
    · by_cases h1 : i < W1.length <;> by_cases h2 : j < W1.length
      · rw [List.getElem?_append_left h1] at hi
        rw [List.getElem?_append_left h2] at hj
        exact hD1.1 i j x y hi hj hxy
      · rw [List.getElem?_append_left h1] at hi
        rw [List.getElem?_append_right (by omega)] at hj
        have := hle _ _ hi
        have := hr _ _ hj
        omega
      · rw [List.getElem?_append_right (by omega)] at hi
        rw [List.getElem?_append_left h2] at hj
        have := hle _ _ hj
        have := hr _ _ hi
        omega
      · rw [List.getElem?_append_right (by omega)] at hi hj
        have := hr _ _ hi
        have := hr _ _ hj
        omega
    · by_cases h1 : k9 < W1.length
      · rw [List.getElem?_append_left h1] at hx
        exact hD1.2 k9 x hx
      · rw [List.getElem?_append_right (by omega)] at hx
        have := hr _ _ hx
        exact hA _ (by have := hS.1; omega)
  have hAr : ArrOfT s cA (.array ty) := fun N9 z9 => by
    obtain ⟨-, k9, hk9, cm9, hkk9⟩ := (hO 0 0 0).1
    exact ⟨(fun q hq => by cases hq), k9, hk9, cm9, hkk9⟩
  have hK2 : va_K D cl (tys ++ [(cA, .array ty)]) s := ⟨hK.1, fun k9 x hx => by
    by_cases hl : k9 < tys.length
    · rw [List.getElem?_append_left hl] at hx
      exact hK.2 k9 x hx
    · rw [List.getElem?_append_right (by omega)] at hx
      have h0 : k9 - tys.length < 1 := (List.getElem?_eq_some_iff.mp hx).1
      rw [show k9 - tys.length = 0 by omega] at hx
      cases hx
      exact ⟨hAr, fA⟩⟩
  obtain ⟨t, a1, b1⟩ := kk H.size (fun i => H.size + 1 + i) cA F.heap (fun i j _ _ h => by have h9 : H.size + 1 + i = H.size + 1 + j := h; omega) hnl hK2 (by rw [← vr_rows hnm]; exact vr_lay hP2) (by rw [← vr_rows hnm]; exact vr_layD hD2) ⟨by rw [f1]; have := hS.1; omega, fun x h1 h2 => (hold x (Nat.lt_of_lt_of_le h1 hS.1)).trans (hS.2.1 x h1 h2), hS.2.2⟩ F rfl X'
  refine ⟨t, step t ?_, b1⟩
  have e : T.heap.size = H.size := by rw [hT]
  rw [e]
  exact a1
end VGM
def okB (n : Nat) : Value → Bool
  | .ref r => Nat.blt r n || Nat.ble 100000 r
  | _ => true
def okO (n : Nat) : Option Value → Bool
  | none => true
  | some v => okB n v
def okF (n : Nat) (x : Nat → Int32) : Nat → List (Nat × Nat × Nat) → Bool
  | _, [] => true
  | i, f :: r => okB n (afv f (x i)) && okF n x (i + 1) r
def okC (n : Nat) (c : CS) (x : Nat → Int32) : Bool := match c.1 with
  | 0 => okF n x 0 c.2.2
  | _ => okF n (fun _ => 0) 0 c.2.2
def okS (n : Nat) (S : SS) : Nat → List CS → Bool
  | _, [] => true
  | k, c :: r => okC n c (S k) && okS n S (k + 1) r
/-- everything that stands here refers to what is there -/
def mkOK (sh : List CS) (S : SS) (ls : List (Option Value)) (rest : List Value) : Bool := Nat.ble (sh.length + 1) 100000 && (okS sh.length S 0 sh && (ls.all (okO sh.length) && rest.all (okB sh.length)))
theorem ad_ext {g : GG} {ρ ρ' : Nat → Nat} {n r : Nat} (h : ∀ k, k < n → ρ' k = ρ k) (hr : (Nat.blt r n || Nat.ble 100000 r) = true) : ad g ρ' r = ad g ρ r := by
  unfold ad
  by_cases h1 : r < 100000
  · rw [if_pos h1, if_pos h1]
    rcases Bool.or_eq_true_iff.mp hr with q | q
    · exact h r (Nat.blt_eq.mp q)
    · exact absurd (Nat.le_of_ble_eq_true q) (by omega)
  · rw [if_neg h1, if_neg h1]
theorem vm_ext {g : GG} {ρ ρ' : Nat → Nat} {n : Nat} (h : ∀ k, k < n → ρ' k = ρ k) {v : Value} (hv : okB n v = true) : vm g ρ' v = vm g ρ v := by
  cases v with
  | ref r => exact congrArg Value.ref (ad_ext h hv)
  | _ => rfl
theorem okF_get {n : Nat} {x : Nat → Int32} : ∀ (l : List (Nat × Nat × Nat)) (i j : Nat) (f : Nat × Nat × Nat), okF n x i l = true → l[j]? = some f → okB n (afv f (x (i + j))) = true
  | [], _, _, _, _, hj => by simp at hj
  | a :: r, i, 0, f, h, hj => by
    have e : a = f := by simpa using hj
    rw [← e]
    exact (Bool.and_eq_true_iff.mp h).1
  | a :: r, i, j + 1, f, h, hj => by
    have := okF_get r (i + 1) j f (Bool.and_eq_true_iff.mp h).2 (by simpa using hj)
    rw [show i + (j + 1) = i + 1 + j by omega]
    exact this
theorem cellE_ext {g : GG} {ρ ρ' : Nat → Nat} {n : Nat} (h : ∀ k, k < n → ρ' k = ρ k) {c : CS} {k : Nat} {S : SS} {L : LL} (hc : okC n c (S k) = true) : cellE g ρ' c k S L = cellE g ρ c k S L := by
  obtain ⟨t, N, fs⟩ := c
  have hq : okF n (fun _ => 0) 0 fs = true → (fun j : Nat => (fs[j]?).bind (rfv g ρ')) = (fun j : Nat => (fs[j]?).bind (rfv g ρ)) := fun hf => by
    funext j
    cases hj : fs[j]? with
    | none => rfl
    | some f =>
      have := okF_get fs 0 j f hf hj
      obtain ⟨t1, a, b⟩ := f
      show rfv g ρ' (t1, a, b) = rfv g ρ (t1, a, b)
      unfold rfv
      by_cases e : t1 = 2
      · subst e
        exact congrArg some (ad_ext h this)
      · match t1, e with
        | 0, _ => rfl
        | 1, _ => rfl
        | 2, e => exact absurd rfl e
        | t + 3, _ => rfl
  match t, hc with
  | 0, hc =>
    show Sum.inr (N, fs.mapIdx (fun i f => vm g ρ' (afv f (S k i)))) = Sum.inr (N, fs.mapIdx (fun i f => vm g ρ (afv f (S k i))))
    refine congrArg (fun z => Sum.inr (N, z)) (List.ext_getElem? fun i => ?_)
    simp only [List.getElem?_mapIdx]
    cases hi : fs[i]? with
    | none => rfl
    | some f =>
      have := okF_get fs 0 i f hc hi
      rw [Nat.zero_add] at this
      exact congrArg some (vm_ext h this)
  | 1, _ => rfl
  | 2, _ => rfl
  | 3, _ => rfl
  | 4, _ => rfl
  | t + 5, hc =>
    show Sum.inl (_, N, _) = Sum.inl (_, N, _)
    rw [hq hc]
theorem okS_get {n : Nat} {S : SS} : ∀ (l : List CS) (k j : Nat) (c : CS), okS n S k l = true → l[j]? = some c → okC n c (S (k + j)) = true
  | [], _, _, _, _, hj => by simp at hj
  | a :: r, k, 0, c, h, hj => by
    have e : a = c := by simpa using hj
    rw [← e]
    exact (Bool.and_eq_true_iff.mp h).1
  | a :: r, k, j + 1, c, h, hj => by
    have := okS_get r (k + 1) j c (Bool.and_eq_true_iff.mp h).2 (by simpa using hj)
    rw [show k + (j + 1) = k + 1 + j by omega]
    exact this
theorem wsOf_ext {g : GG} {ρ ρ' : Nat → Nat} {sh : List CS} {S : SS} {L : LL} (h : ∀ k, k < sh.length → ρ' k = ρ k) (hok : okS sh.length S 0 sh = true) : wsOf g ρ' sh S L = wsOf g ρ sh S L := by
  apply List.ext_getElem?
  intro k
  cases hs : sh[k]? with
  | none => simp [wsOf, List.getElem?_mapIdx, hs]
  | some c =>
    have hk := (List.getElem?_eq_some_iff.mp hs).1
    have := okS_get sh 0 k c hok hs
    rw [Nat.zero_add] at this
    rw [wsOf_get hs, wsOf_get hs, h k hk, cellE_ext h this]
theorem wsOf_app {g : GG} {ρ : Nat → Nat} {sh : List CS} {c : CS} {S : SS} {L : LL} : wsOf g ρ (sh ++ [c]) S L = wsOf g ρ sh S L ++ [(ρ sh.length, cellE g ρ c sh.length S L)] := by
  unfold wsOf
  rw [List.mapIdx_append]
  congr 1
  show [(ρ (0 + sh.length), cellE g ρ c (0 + sh.length) S L)] = _
  rw [Nat.zero_add]
theorem LSr.ext {g : GG} {ρ ρ' : Nat → Nat} {n nL : Nat} {als : Array Slot} {ls : List (Option Value)} (h : LSr g ρ nL als ls) (hρ : ∀ k, k < n → ρ' k = ρ k) (hok : ls.all (okO n) = true) : LSr g ρ' nL als ls := by
  have e : ls.map (Option.map (vm g ρ')) = ls.map (Option.map (vm g ρ)) := List.map_congr_left fun a ha => by
    have := List.all_eq_true.mp hok a ha
    cases a with
    | none => rfl
    | some v => exact congrArg some (vm_ext hρ this)
  refine ⟨h.1, ?_⟩
  rw [e]
  exact h.2
theorem map_ext {g : GG} {ρ ρ' : Nat → Nat} {n : Nat} {l : List Value} (hρ : ∀ k, k < n → ρ' k = ρ k) (hok : l.all (okB n) = true) : l.map (vm g ρ') = l.map (vm g ρ) :=
  List.map_congr_left fun v hv => vm_ext hρ (List.all_eq_true.mp hok v hv)
theorem upS_id {S : SS} {a k : Nat} {x : Int32} (h : S a k = x) : upS S a k x = S := by
  funext j i
  unfold upS
  by_cases h1 : j = a
  · rw [if_pos h1]
    by_cases h2 : i = k
    · rw [if_pos h2, h1, h2, h]
    · rw [if_neg h2]
  · rw [if_neg h1]
section MK
variable {g : GG} {d mc ms : Nat} {M : MI} {n0 : Nat} {Q : Option Value → List CS → SS → LL → Prop} {cu su pc : Nat} {ls : List (Option Value)} {st rest : List Value} {sh sh' : List CS} {S : SS} {L : LL}
theorem rx_st {S' : SS} (h : S = S') (k : Rx g d mc ms M n0 Q cu su pc ls st sh S' L) : Rx g d mc ms M n0 Q cu su pc ls st sh S L := by rw [h]; exact k
/-- a cell more -/
theorem Rx.made {c1 : CS} {e1 : va_E} {q : Nat} (k : Rx g d mc ms M n0 Q cu su pc ls (.ref sh.length :: rest) (sh ++ [c1]) S L) {p : Program} {e : Env} {s : State} {m : MethodId} {args : Array Value} {below : List Frame} {meth : Method} {c : Code} {ρ0 ρ : Nat → Nat} {A : Nat → Prop} {H H1 : Heap} {locs : List Loc} {als : Array Slot}
    (C : Ctx M p s m args meth c) (X : Wd g n0 ρ0 ρ sh S L A H locs s) (Y : LSr g ρ M.2.2.1 als ls) (hok : mkOK sh S ls rest = true) (he : ∀ ρ', cellE g ρ' c1 sh.length S L = e1) (hP : va_P g.2.1 vwCl (wsOf g ρ sh S L ++ [(q, e1)]) H1) (hD : va_D A (wsOf g ρ sh S L ++ [(q, e1)])) (hS : va_S A s.heap H1 locs) :
    W p g.1 e (rmD d mc ms) s m args below meth c H1 locs cu su (MQ below (Qx g ρ0 n0 A Q) args s mc ms A) (F0 m pc als (.ref q :: rest.map (vm g ρ))) := by
  unfold mkOK at hok
  simp only [Bool.and_eq_true] at hok
  obtain ⟨o1, o2, o3, o4⟩ := hok
  have hl := Nat.le_of_ble_eq_true o1
  have hρ : ∀ k, k < sh.length → (fun k => if k = sh.length then q else ρ k) k = ρ k := fun k hk => if_neg (by omega)
  have hq : (fun k => if k = sh.length then q else ρ k) sh.length = q := if_pos rfl
  have hw : wsOf g (fun k => if k = sh.length then q else ρ k) (sh ++ [c1]) S L = wsOf g ρ sh S L ++ [(q, e1)] := by
    rw [wsOf_app, wsOf_ext hρ o2, he]
    congr 3
  have h := k p e s m args below meth c ρ0 A (fun k => if k = sh.length then q else ρ k) H1 locs als C ⟨⟨by rw [List.length_append]; exact Nat.le_trans X.1.1 (Nat.le_add_right _ _), by rw [List.length_append]; exact hl, fun k hk => by
      rw [List.length_append] at hk
      have hk : k < n0 ∨ sh.length + 1 ≤ k := hk
      have := X.1.1
      show (if k = sh.length then q else ρ k) = ρ0 k
      rw [if_neg (by omega)]
      exact X.1.2.2 k (by omega)⟩, X.2.1, hS, X.2.2.2.1, by rw [hw]; exact hP, by rw [hw]; exact hD, X.2.2.2.2.2.2⟩ (Y.ext hρ o3)
  have e2 : (Value.ref sh.length :: rest).map (vm g (fun k => if k = sh.length then q else ρ k)) = .ref q :: rest.map (vm g ρ) := by
    rw [List.map_cons, map_ext hρ o4]
    congr 1
    show Value.ref (ad g _ sh.length) = _
    rw [ad_lt (by omega)]
    exact congrArg Value.ref hq
  rw [e2] at h
  exact h
theorem arr_cls {n1 : Nat} {ρ0 ρ : Nat → Nat} {A : Nat → Prop} {H : Heap} {locs : List Loc} {s : State} (X : Wd g n1 ρ0 ρ sh S L A H locs s) {cA : ClassId} {ty : FieldType} (hK : va_K g.2.1 vwCl (tysOf g ++ [(cA, ty)]) s) {t : Nat} {cB : ClassId} (ht : (tysOf g)[t]? = some (cB, ty)) : cA = cB := by
  have h1 := (hK.2 7 (cA, ty) rfl).2
  have h2 := (X.2.2.2.1.2 t (cB, ty) ht).2
  cases ty with
  | object C =>
    obtain ⟨_, _, _, _, _, f1⟩ := h1
    obtain ⟨_, _, _, _, _, f2⟩ := h2
    exact Option.some.inj (f1.symm.trans f2)
  | _ => exact Option.some.inj ((show _ = some cA from h1).symm.trans (show _ = some cB from h2))
theorem rx_newaI {n : Int32} {N' : Nat} (r : Nat) (sh' : List CS) (hr : sh.length = r) (hsh : sh ++ [(1, N', [])] = sh') (dd : decode M.2.1 pc = .ok (.newarray .int, 2)) (hn : ¬ n < 0) (hN : n.toNatClampNeg = N') (hb : Nat.ble (N' * 4) 536870912 = true) (hz : S r = fun _ => 0) (hok : mkOK sh S ls rest = true) (hc : Nat.ble (cu + 1) mc = true) (hs : Nat.ble (su + N') ms = true)
    (k : Rx g d mc ms M n0 Q (cu + 1) (su + N') (pc + 2) ls (.ref r :: rest) sh' S L) : Rx g d mc ms M n0 Q cu su pc ls (.int n :: rest) sh S L := fun p e s m args below meth c ρ0 A ρ H locs als C X Y => by
  subst hr hsh
  refine va_newa (D := g.2.1) (atype := .int) (a0 := (N', .inl (fun _ => 0))) C.1 C.2.1 (C.2.2.2.2.2.1 _ w_134) rfl X.2.2.2.1 X.2.2.2.2.1 X.2.2.2.2.2.1 X.2.2.1 X.2.1 (fun _ => rfl) hn hN (Nat.le_of_ble_eq_true hb) (Nat.le_of_ble_eq_true hc) (Nat.le_of_ble_eq_true hs) dd (fun q cA H1 hK hP hD hS => ?_)
  cases arr_cls (t := 0) X hK rfl
  exact k.made (e1 := .inl (g.2.2.1 1, N', .inl (fun _ => 0))) C X Y hok (fun ρ' => by show Sum.inl (_, N', Sum.inl (S sh.length)) = _; rw [hz]) hP hD hS
theorem rx_newaB {n : Int32} {N' : Nat} (r : Nat) (sh' : List CS) (hr : sh.length = r) (hsh : sh ++ [(3, N', [])] = sh') (dd : decode M.2.1 pc = .ok (.newarray .byte, 2)) (hn : ¬ n < 0) (hN : n.toNatClampNeg = N') (hb : Nat.ble (N' * 1) 536870912 = true) (hz : S r = fun _ => 0) (hok : mkOK sh S ls rest = true) (hc : Nat.ble (cu + 1) mc = true) (hs : Nat.ble (su + N') ms = true)
    (k : Rx g d mc ms M n0 Q (cu + 1) (su + N') (pc + 2) ls (.ref r :: rest) sh' S L) : Rx g d mc ms M n0 Q cu su pc ls (.int n :: rest) sh S L := fun p e s m args below meth c ρ0 A ρ H locs als C X Y => by
  subst hr hsh
  refine va_newa (D := g.2.1) (atype := .byte) (a0 := (N', .inl (fun _ => 0))) C.1 C.2.1 (C.2.2.2.2.2.1 _ w_133) rfl X.2.2.2.1 X.2.2.2.2.1 X.2.2.2.2.2.1 X.2.2.1 X.2.1 (fun _ => rfl) hn hN (Nat.le_of_ble_eq_true hb) (Nat.le_of_ble_eq_true hc) (Nat.le_of_ble_eq_true hs) dd (fun q cA H1 hK hP hD hS => ?_)
  cases arr_cls (t := 2) X hK rfl
  exact k.made (e1 := .inl (g.2.2.1 3, N', .inl (fun _ => 0))) C X Y hok (fun ρ' => by show Sum.inl (_, N', Sum.inl (S sh.length)) = _; rw [hz]) hP hD hS
theorem rx_newaZ {n : Int32} {N' : Nat} (r : Nat) (sh' : List CS) (hr : sh.length = r) (hsh : sh ++ [(4, N', [])] = sh') (dd : decode M.2.1 pc = .ok (.newarray .boolean, 2)) (hn : ¬ n < 0) (hN : n.toNatClampNeg = N') (hb : Nat.ble (N' * 1) 536870912 = true) (hz : S r = fun _ => 0) (hok : mkOK sh S ls rest = true) (hc : Nat.ble (cu + 1) mc = true) (hs : Nat.ble (su + N') ms = true)
    (k : Rx g d mc ms M n0 Q (cu + 1) (su + N') (pc + 2) ls (.ref r :: rest) sh' S L) : Rx g d mc ms M n0 Q cu su pc ls (.int n :: rest) sh S L := fun p e s m args below meth c ρ0 A ρ H locs als C X Y => by
  subst hr hsh
  refine va_newa (D := g.2.1) (atype := .boolean) (a0 := (N', .inl (fun _ => 0))) C.1 C.2.1 (C.2.2.2.2.2.1 _ w_1125) rfl X.2.2.2.1 X.2.2.2.2.1 X.2.2.2.2.2.1 X.2.2.1 X.2.1 (fun _ => rfl) hn hN (Nat.le_of_ble_eq_true hb) (Nat.le_of_ble_eq_true hc) (Nat.le_of_ble_eq_true hs) dd (fun q cA H1 hK hP hD hS => ?_)
  cases arr_cls (t := 3) X hK rfl
  exact k.made (e1 := .inl (g.2.2.1 4, N', .inl (fun _ => 0))) C X Y hok (fun ρ' => by show Sum.inl (_, N', Sum.inl (S sh.length)) = _; rw [hz]) hP hD hS
theorem rx_newaL {n : Int32} {N' : Nat} (r : Nat) (sh' : List CS) (hr : sh.length = r) (hsh : sh ++ [(2, N', [])] = sh') (dd : decode M.2.1 pc = .ok (.newarray .long, 2)) (hn : ¬ n < 0) (hN : n.toNatClampNeg = N') (hb : Nat.ble (N' * 8) 536870912 = true) (hz : L r = fun _ => 0) (hok : mkOK sh S ls rest = true) (hc : Nat.ble (cu + 1) mc = true) (hs : Nat.ble (su + N') ms = true)
    (k : Rx g d mc ms M n0 Q (cu + 1) (su + N') (pc + 2) ls (.ref r :: rest) sh' S L) : Rx g d mc ms M n0 Q cu su pc ls (.int n :: rest) sh S L := fun p e s m args below meth c ρ0 A ρ H locs als C X Y => by
  subst hr hsh
  refine va_newa (D := g.2.1) (atype := .long) (a0 := (N', .inr (.inl (fun _ => 0)))) C.1 C.2.1 (C.2.2.2.2.2.1 _ w_331) rfl X.2.2.2.1 X.2.2.2.2.1 X.2.2.2.2.2.1 X.2.2.1 X.2.1 (fun _ => rfl) hn hN (Nat.le_of_ble_eq_true hb) (Nat.le_of_ble_eq_true hc) (Nat.le_of_ble_eq_true hs) dd (fun q cA H1 hK hP hD hS => ?_)
  cases arr_cls (t := 1) X hK rfl
  exact k.made (e1 := .inl (g.2.2.1 2, N', .inr (.inl (fun _ => 0)))) C X Y hok (fun ρ' => by show Sum.inl (_, N', Sum.inr (Sum.inl (L sh.length))) = _; rw [hz]) hP hD hS
theorem rfv_none {g : GG} {fs : List (Nat × Nat × Nat)} (hf : fs.all (fun f => f.1 == 1) = true) (ρ : Nat → Nat) : (fun j : Nat => (fs[j]?).bind (rfv g ρ)) = fun _ => none := by
  funext j
  cases hj : fs[j]? with
  | none => rfl
  | some f =>
    have h1 : f.1 = 1 := by simpa using List.all_eq_true.mp hf f (List.mem_of_getElem? hj)
    obtain ⟨t, a, b⟩ := f
    have h1 : t = 1 := h1
    subst h1
    rfl
theorem rx_newqC {n : Int32} {N' idx : Nat} {fs : List (Nat × Nat × Nat)} (r : Nat) (sh' : List CS) (hr : sh.length = r) (hsh : sh ++ [(5, N', fs)] = sh') (dd : decode M.2.1 pc = .ok (.anewarray idx, 3)) (hl : Cond.classLink M.1.cls idx "WhileSheLooks$Child" ∈ TB) (hn : ¬ n < 0) (hN : n.toNatClampNeg = N') (hb : Nat.ble (N' * 4) 536870912 = true) (hf : fs.all (fun f => f.1 == 1) = true) (hok : mkOK sh S ls rest = true) (hc : Nat.ble (cu + 1) mc = true) (hs : Nat.ble (su + N') ms = true)
    (k : Rx g d mc ms M n0 Q (cu + 1) (su + N') (pc + 3) ls (.ref r :: rest) sh' S L) : Rx g d mc ms M n0 Q cu su pc ls (.int n :: rest) sh S L := fun p e s m args below meth c ρ0 A ρ H locs als C X Y => by
  subst hr hsh
  refine va_newq (D := g.2.1) C.1 C.2.1 C.2.2.2.2.1 (C.2.2.2.2.2.1 _ hl) X.2.2.2.2.2.2.2.2.2.2.2.2.2.2.2.1 X.2.2.2.1 X.2.2.2.2.1 X.2.2.2.2.2.1 X.2.2.1 X.2.1 hn hN (Nat.le_of_ble_eq_true hb) (Nat.le_of_ble_eq_true hc) (Nat.le_of_ble_eq_true hs) dd (fun q cA H1 hK hP hD hS => ?_)
  cases arr_cls (t := 4) X hK rfl
  exact k.made C X Y hok (fun ρ' => by show Sum.inl (_, N', Sum.inr (Sum.inr (Sum.inr (Sum.inr _)))) = _; rw [rfv_none hf]) hP hD hS
theorem rx_newqY {n : Int32} {N' idx : Nat} {fs : List (Nat × Nat × Nat)} (r : Nat) (sh' : List CS) (hr : sh.length = r) (hsh : sh ++ [(6, N', fs)] = sh') (dd : decode M.2.1 pc = .ok (.anewarray idx, 3)) (hl : Cond.classLink M.1.cls idx "WhileSheLooks$Yard" ∈ TB) (hn : ¬ n < 0) (hN : n.toNatClampNeg = N') (hb : Nat.ble (N' * 4) 536870912 = true) (hf : fs.all (fun f => f.1 == 1) = true) (hok : mkOK sh S ls rest = true) (hc : Nat.ble (cu + 1) mc = true) (hs : Nat.ble (su + N') ms = true)
    (k : Rx g d mc ms M n0 Q (cu + 1) (su + N') (pc + 3) ls (.ref r :: rest) sh' S L) : Rx g d mc ms M n0 Q cu su pc ls (.int n :: rest) sh S L := fun p e s m args below meth c ρ0 A ρ H locs als C X Y => by
  subst hr hsh
  refine va_newq (D := g.2.1) C.1 C.2.1 C.2.2.2.2.1 (C.2.2.2.2.2.1 _ hl) X.2.2.2.2.2.2.2.2.2.2.2.2.2.2.2.2.1 X.2.2.2.1 X.2.2.2.2.1 X.2.2.2.2.2.1 X.2.2.1 X.2.1 hn hN (Nat.le_of_ble_eq_true hb) (Nat.le_of_ble_eq_true hc) (Nat.le_of_ble_eq_true hs) dd (fun q cA H1 hK hP hD hS => ?_)
  cases arr_cls (t := 5) X hK rfl
  exact k.made C X Y hok (fun ρ' => by show Sum.inl (_, N', Sum.inr (Sum.inr (Sum.inr (Sum.inr _)))) = _; rw [rfv_none hf]) hP hD hS
/-- a new object of class ci -/
theorem rx_newO {idx ci N : Nat} {Cn : String} {T : u_T} {ty : Nat → FieldType} {fs : List (Nat × Nat × Nat)} (r : Nat) (sh' : List CS) (hr : sh.length = r) (hsh : sh ++ [(0, ci, fs)] = sh') (dd : decode M.2.1 pc = .ok (.new idx, 3)) (hci : vwCl[ci]? = some (Cn, T, N)) (hin : ∀ w ∈ u_ws Cn T N, w ∈ TB) (hty : ∀ k, k < N → parseFieldDescriptor (T k).2.2.1 = some (ty k)) (hl : Cond.classLink M.1.cls idx Cn ∈ TB) (hi : Cond.instantiable Cn N ∈ TB) (hini : Cond.initialized Cn ∈ TB) (hz : S r = fun _ => 0)
    (hfs : ∀ j, j < N → defaultValue (ty j) = vp_V (fs.map (fun f => afv f 0)) j) (hf : fs.all (fun f => Nat.ble f.1 1) = true) (hok : mkOK sh S ls rest = true) (hc : Nat.ble (cu + 1) mc = true) (hs : Nat.ble (su + N) ms = true)
    (k : Rx g d mc ms M n0 Q (cu + 1) (su + N) (pc + 3) ls (.ref r :: rest) sh' S L) : Rx g d mc ms M n0 Q cu su pc ls rest sh S L := fun p e s m args below meth c ρ0 A ρ H locs als C X Y => by
  subst hr hsh
  refine va_new (D := g.2.1) (ci := ci) (fs := fs.map (fun f => afv f 0)) (C := Cn) (T := T) (N := N) C.1 C.2.1 C.2.2.2.2.2.1 hin ty hty C.2.2.2.2.1 (C.2.2.2.2.2.1 _ hl) (C.2.2.2.2.2.1 _ hi) (C.2.2.2.2.2.1 _ hini) X.2.2.2.1 X.2.2.2.2.1 X.2.2.2.2.2.1 X.2.2.1 X.2.1 hci hfs (Nat.le_of_ble_eq_true hc) (Nat.le_of_ble_eq_true hs) dd (fun q H1 hP hD hS => ?_)
  refine k.made C X Y hok (fun ρ' => ?_) hP hD hS
  show Sum.inr (ci, fs.mapIdx (fun i f => vm g ρ' (afv f (S sh.length i)))) = Sum.inr (ci, fs.map (fun f => afv f 0))
  refine congrArg (fun z => Sum.inr (ci, z)) (List.ext_getElem? fun i => ?_)
  simp only [List.getElem?_mapIdx, List.getElem?_map, hz]
  cases hj : fs[i]? with
  | none => rfl
  | some f =>
    have h1 : f.1 ≤ 1 := Nat.le_of_ble_eq_true (List.all_eq_true.mp hf f (List.mem_of_getElem? hj))
    obtain ⟨t, a, b⟩ := f
    have h1 : t ≤ 1 := h1
    rcases (show t = 0 ∨ t = 1 by omega) with e | e <;> subst e <;> rfl
-- a cell's shape anew
theorem wsOf_setC {g : GG} {ρ : Nat → Nat} {sh : List CS} {S : SS} {L : LL} {a : Nat} {c c' : CS} {e : va_E} (h : sh[a]? = some c) (he : e = cellE g ρ c' a S L) : (wsOf g ρ sh S L).set a (ρ a, e) = wsOf g ρ (sh.set a c') S L := by
  have hl := (List.getElem?_eq_some_iff.mp h).1
  apply List.ext_getElem?
  intro k
  by_cases hk : k = a
  · subst hk
    rw [List.getElem?_set_self (by rw [wsOf_len]; exact hl), wsOf_get (List.getElem?_set_self hl), he]
  · rw [List.getElem?_set_ne (fun q => hk q.symm)]
    cases hs : sh[k]? with
    | none =>
      have hs2 : (sh.set a c')[k]? = none := by rw [List.getElem?_set_ne (fun q => hk q.symm)]; exact hs
      simp [wsOf, List.getElem?_mapIdx, hs, hs2]
      exact List.getElem?_eq_none_iff.mp hs
    | some x =>
      rw [wsOf_get hs, wsOf_get (show (sh.set a c')[k]? = some x by rw [List.getElem?_set_ne (fun q => hk q.symm)]; exact hs)]
theorem Wd.setC {n0 : Nat} {ρ0 ρ : Nat → Nat} {A : Nat → Prop} {H H1 : Heap} {locs locs1 : List Loc} {s : State} (X : Wd g n0 ρ0 ρ sh S L A H locs s) {r : Nat} {c c' : CS} {e : va_E} (hs : sh[r]? = some c) (he : e = cellE g ρ c' r S L)
    (hP : va_P g.2.1 vwCl ((wsOf g ρ sh S L).set r (ad g ρ r, e)) H1) (hD : va_D A ((wsOf g ρ sh S L).set r (ad g ρ r, e))) (hS : va_S A s.heap H1 locs1) : Wd g n0 ρ0 ρ (sh.set r c') S L A H1 locs1 s := by
  rw [ad_lt (X.lt hs), wsOf_setC hs he] at hP hD
  refine ⟨?_, X.2.1, hS, X.2.2.2.1, hP, hD, X.2.2.2.2.2.2⟩
  rw [List.length_set]
  exact X.1
theorem set_fld {g : GG} {ρ : Nat → Nat} {fs : List (Nat × Nat × Nat)} {kf ci : Nat} {f f' : Nat × Nat × Nat} {x : Nat → Int32} {v : Value} (hf : fs[kf]? = some f) (hv : afv f' (x kf) = v) : Sum.inr (ci, (fs.mapIdx (fun i f => vm g ρ (afv f (x i)))).set kf (vm g ρ v)) = (Sum.inr (ci, (fs.set kf f').mapIdx (fun i f => vm g ρ (afv f (x i)))) : va_E) := by
  have hl := (List.getElem?_eq_some_iff.mp hf).1
  refine congrArg (fun z => Sum.inr (ci, z)) (List.ext_getElem? fun i => ?_)
  by_cases hi : i = kf
  · subst hi
    rw [List.getElem?_set_self (by simpa using hl), List.getElem?_mapIdx, List.getElem?_set_self hl]
    exact congrArg some (congrArg (vm g ρ) hv.symm)
  · rw [List.getElem?_set_ne (fun q => hi q.symm), List.getElem?_mapIdx, List.getElem?_mapIdx, List.getElem?_set_ne (fun q => hi q.symm)]
/-- a reference put into a field: not final -/
theorem rx_putR {idx ci kf r a : Nat} {ty : FieldType} {fs : List (Nat × Nat × Nat)} {f : Nat × Nat × Nat} (f' : Nat × Nat × Nat) (sh' : List CS) (dd : decode M.2.1 pc = .ok (.putfield idx, 3)) (fl : FLk M.1.cls idx ci kf false ty) (hs : sh[r]? = some (0, ci, fs)) (hf : fs[kf]? = some f) (hn : ∀ q, narrow ty (.ref q) = .ref q) (hfit : ∀ q, fits ty (.ref q) = true) (hv : afv f' (S r kf) = .ref a) (hsh : sh.set r (0, ci, fs.set kf f') = sh')
    (k : Rx g d mc ms M n0 Q cu su (pc + 3) ls rest sh' S L) : Rx g d mc ms M n0 Q cu su pc ls (.ref a :: .ref r :: rest) sh S L := fun p e s m args below meth c ρ0 A ρ H locs als C X Y => by
  subst hsh
  obtain ⟨Cn, T, N, ty0, h1, h2, h3, h4, h5, h6, h7, h8, h9⟩ := fl
  refine va_put (D := g.2.1) (ci := ci) (C := Cn) (T := T) (N := N) (a := ad g ρ r) C.1 C.2.1 C.2.2.2.2.2.1 h2 ty0 h5 h6 C.2.2.2.2.1 X.2.2.2.1 X.2.2.2.2.1 X.2.2.2.2.2.1 X.2.2.1 r (X.get hs) h1 kf h3 (C.2.2.2.2.2.1 _ h4) (fun _ h => h) h7 h8 (hn _) (hfit _) (by have := (List.getElem?_eq_some_iff.mp hf).1; simpa using this) dd (fun H1 locs1 hP hD hS => ?_)
  exact k p e s m args below meth c ρ0 A ρ H1 locs1 als C (X.setC (c' := (0, ci, fs.set kf f')) hs (set_fld hf hv) hP hD hS) Y
/-- a reference put into a final field, where the object is made -/
theorem rx_putRF {idx ci kf r a : Nat} {ty : FieldType} {fs : List (Nat × Nat × Nat)} {f : Nat × Nat × Nat} (f' : Nat × Nat × Nat) (sh' : List CS) (dd : decode M.2.1 pc = .ok (.putfield idx, 3)) (fl : FLk M.1.cls idx ci kf true ty) (hs : sh[r]? = some (0, ci, fs)) (hf : fs[kf]? = some f) (hin : M.1.name = "<init>") (hdc : ∀ (C : String) (T : u_T) (N : Nat), vwCl[ci]? = some (C, T, N) → (T kf).1 = M.1.cls) (hn : ∀ q, narrow ty (.ref q) = .ref q) (hfit : ∀ q, fits ty (.ref q) = true) (hv : afv f' (S r kf) = .ref a) (hsh : sh.set r (0, ci, fs.set kf f') = sh')
    (k : Rx g d mc ms M n0 Q cu su (pc + 3) ls rest sh' S L) : Rx g d mc ms M n0 Q cu su pc ls (.ref a :: .ref r :: rest) sh S L := fun p e s m args below meth c ρ0 A ρ H locs als C X Y => by
  subst hsh
  obtain ⟨Cn, T, N, ty0, h1, h2, h3, h4, h5, h6, h7, h8, h9⟩ := fl
  refine va_putF (D := g.2.1) (ci := ci) (C := Cn) (T := T) (N := N) (a := ad g ρ r) C.1 C.2.1 C.2.2.2.2.2.1 h2 ty0 h5 h6 C.2.2.2.2.1 X.2.2.2.1 X.2.2.2.2.1 X.2.2.2.2.2.1 X.2.2.1 r (X.get hs) h1 kf h3 (C.2.2.2.2.2.1 _ h4) (fun _ h => h) h7 (C.2.2.2.2.2.2.2.trans hin) (hdc _ _ _ h1) h8 (hn _) (hfit _) (by have := (List.getElem?_eq_some_iff.mp hf).1; simpa using this) dd (fun H1 locs1 hP hD hS => ?_)
  exact k p e s m args below meth c ρ0 A ρ H1 locs1 als C (X.setC (c' := (0, ci, fs.set kf f')) hs (set_fld hf hv) hP hD hS) Y
theorem set_arr {g : GG} {ρ : Nat → Nat} {fs : List (Nat × Nat × Nat)} {i q z : Nat} (hi : i < fs.length) : va_up (fun j : Nat => (fs[j]?).bind (rfv g ρ)) i (some (ad g ρ q)) = fun j : Nat => ((fs.set i (2, q, z))[j]?).bind (rfv g ρ) := by
  funext j
  by_cases h : j = i
  · subst h
    rw [List.getElem?_set_self hi]
    simp [va_up]
    rfl
  · rw [List.getElem?_set_ne (fun e => h e.symm)]
    simp [va_up, h]
/-- one put into a row of kinds: of the kind that the row is of -/
theorem rx_aast5 {a n q z ci : Nat} {fs vs : List (Nat × Nat × Nat)} {T : u_T} {N : Nat} {i : Int32} (sh' : List CS) (dd : decode M.2.1 pc = .ok (.aastore, 1)) (hs : sh[a]? = some (5, n, fs)) (hq : sh[q]? = some (0, ci, vs)) (hci : vwCl[ci]? = some ("WhileSheLooks$Child", T, N)) (hin : vp_in i n) (hl : Nat.blt i.toNatClampNeg fs.length = true) (hsh : sh.set a (5, n, fs.set i.toNatClampNeg (2, q, z)) = sh')
    (k : Rx g d mc ms M n0 Q cu su (pc + 1) ls rest sh' S L) : Rx g d mc ms M n0 Q cu su pc ls (.ref q :: .int i :: .ref a :: rest) sh S L := fun p e s m args below meth c ρ0 A ρ H locs als C X Y => by
  subst hsh
  refine va_astq (D := g.2.1) (r := ("WhileSheLooks$Child", T, N)) C.1 C.2.1 X.2.2.2.1 X.2.2.2.2.1 X.2.2.2.2.2.1 X.2.2.1 a 4 q ci (X.get hs) rfl (X.get hq) hci hin dd (fun H1 locs1 hP hD hS => ?_)
  exact k p e s m args below meth c ρ0 A ρ H1 locs1 als C (X.setC (c' := (5, n, fs.set i.toNatClampNeg (2, q, z))) hs (by show Sum.inl (_, n, Sum.inr (Sum.inr (Sum.inr (Sum.inr (va_up (fun j : Nat => (fs[j]?).bind (rfv g ρ)) _ _))))) = Sum.inl (_, n, Sum.inr (Sum.inr (Sum.inr (Sum.inr (fun j : Nat => ((fs.set i.toNatClampNeg (2, q, z))[j]?).bind (rfv g ρ)))))); rw [set_arr (z := z) (Nat.blt_eq.mp hl)]) hP hD hS) Y
theorem rx_aast5O {a n q z ci : Nat} {fs vs : List (Nat × Nat × Nat)} {Cn : String} {T : u_T} {N : Nat} {i : Int32} (sh' : List CS) (dd : decode M.2.1 pc = .ok (.aastore, 1)) (hs : sh[a]? = some (5, n, fs)) (hq : sh[q]? = some (0, ci, vs)) (hci : vwCl[ci]? = some (Cn, T, N)) (hca : Cn ∈ castTab) (hin : vp_in i n) (hl : Nat.blt i.toNatClampNeg fs.length = true) (hsh : sh.set a (5, n, fs.set i.toNatClampNeg (2, q, z)) = sh')
    (k : Rx g d mc ms M n0 Q cu su (pc + 1) ls rest sh' S L) : Rx g d mc ms M n0 Q cu su pc ls (.ref q :: .int i :: .ref a :: rest) sh S L := fun p e s m args below meth c ρ0 A ρ H locs als C X Y => by
  subst hsh
  refine va_astqO (D := g.2.1) (r := (Cn, T, N)) (E := "WhileSheLooks$Child") C.1 C.2.1 X.2.2.2.1 X.2.2.2.2.1 X.2.2.2.2.2.1 X.2.2.1 a 4 q ci (X.get hs) rfl (X.2.2.2.2.2.2.2.2.2.2.2.2.2.1 Cn hca) (X.get hq) hci hin dd (fun H1 locs1 hP hD hS => ?_)
  exact k p e s m args below meth c ρ0 A ρ H1 locs1 als C (X.setC (c' := (5, n, fs.set i.toNatClampNeg (2, q, z))) hs (by show Sum.inl (_, n, Sum.inr (Sum.inr (Sum.inr (Sum.inr (va_up (fun j : Nat => (fs[j]?).bind (rfv g ρ)) _ _))))) = Sum.inl (_, n, Sum.inr (Sum.inr (Sum.inr (Sum.inr (fun j : Nat => ((fs.set i.toNatClampNeg (2, q, z))[j]?).bind (rfv g ρ)))))); rw [set_arr (z := z) (Nat.blt_eq.mp hl)]) hP hD hS) Y
theorem rx_aast6 {a n q z ci : Nat} {fs vs : List (Nat × Nat × Nat)} {T : u_T} {N : Nat} {i : Int32} (sh' : List CS) (dd : decode M.2.1 pc = .ok (.aastore, 1)) (hs : sh[a]? = some (6, n, fs)) (hq : sh[q]? = some (0, ci, vs)) (hci : vwCl[ci]? = some ("WhileSheLooks$Yard", T, N)) (hin : vp_in i n) (hl : Nat.blt i.toNatClampNeg fs.length = true) (hsh : sh.set a (6, n, fs.set i.toNatClampNeg (2, q, z)) = sh')
    (k : Rx g d mc ms M n0 Q cu su (pc + 1) ls rest sh' S L) : Rx g d mc ms M n0 Q cu su pc ls (.ref q :: .int i :: .ref a :: rest) sh S L := fun p e s m args below meth c ρ0 A ρ H locs als C X Y => by
  subst hsh
  refine va_astq (D := g.2.1) (r := ("WhileSheLooks$Yard", T, N)) C.1 C.2.1 X.2.2.2.1 X.2.2.2.2.1 X.2.2.2.2.2.1 X.2.2.1 a 5 q ci (X.get hs) rfl (X.get hq) hci hin dd (fun H1 locs1 hP hD hS => ?_)
  exact k p e s m args below meth c ρ0 A ρ H1 locs1 als C (X.setC (c' := (6, n, fs.set i.toNatClampNeg (2, q, z))) hs (by show Sum.inl (_, n, Sum.inr (Sum.inr (Sum.inr (Sum.inr (va_up (fun j : Nat => (fs[j]?).bind (rfv g ρ)) _ _))))) = Sum.inl (_, n, Sum.inr (Sum.inr (Sum.inr (Sum.inr (fun j : Nat => ((fs.set i.toNatClampNeg (2, q, z))[j]?).bind (rfv g ρ)))))); rw [set_arr (z := z) (Nat.blt_eq.mp hl)]) hP hD hS) Y
/-- the constructor of Object -/
theorem rx_objI {idx r : Nat} (dd : decode M.2.1 pc = .ok (.invokespecial idx, 3)) (hl : Cond.methodLink M.1.cls idx Lib.objectInit ∈ TB) (hd : 1 ≤ d) (hr : Nat.ble (rest.map fun v => v.category).sum 8 = true) (k : Rx g d mc ms M n0 Q cu su (pc + 3) ls rest sh S L) : Rx g d mc ms M n0 Q cu su pc ls (.ref r :: rest) sh S L := fun p e s m args below meth c ρ0 A ρ H locs als C X Y => by
  refine W.objInit C.1 C.2.1 C.2.2.2.2.1 (C.2.2.2.2.2.1 _ hl) (C.2.2.2.2.2.1 _ w_28) (C.2.2.2.2.2.1 _ w_29) rfl (Y.2.1.trans C.2.2.2.1.symm) rfl dd hd ?_ (k p e s m args below meth c ρ0 A ρ H locs als C X Y)
  have h8 := Nat.le_of_ble_eq_true hr
  have e8 := vm_sum (g := g) (ρ := ρ) (l := rest)
  show 2 * 0 + ((rest.map (vm g ρ)).map fun v => v.category).sum + 12 ≤ 100 * d
  rw [e8]
  omega
/-- the constructor of a class of one's own -/
theorem rx_callI {idx n r d' mc' ms' : Nat} {M' : MI} {As : List Value} {sh2 : List CS} {S2 : SS} {L2 : LL} (cl : CLi M.1.cls idx M' n) (dd : decode M.2.1 pc = .ok (.invokespecial idx, 3)) (hz : (Nat.ble (d' + 1) d && (Nat.ble M'.2.2.1 81 && (Nat.ble (rest.map fun v => v.category).sum 8 && (Nat.ble (cu + mc') mc && Nat.ble (su + ms') ms)))) = true) (hn : As.length = n) (hst : st = As.reverse ++ .ref r :: rest) (hok : (ls.all (okO sh.length) && rest.all (okB sh.length)) = true)
    (hC : Ct g d' mc' ms' M' (.ref r :: As) sh S L (fun o sh' S' L' => o = none ∧ sh' = sh2 ∧ S' = S2 ∧ L' = L2)) (k : Rx g d mc ms M n0 Q (cu + mc') (su + ms') (pc + 3) ls rest sh2 S2 L2) : Rx g d mc ms M n0 Q cu su pc ls st sh S L := fun p e s m args below meth c ρ0 A ρ H locs als C X Y => by
  simp only [Bool.and_eq_true, Nat.ble_eq] at hz hok
  obtain ⟨hd, hl, hr, hc1, hc2⟩ := hz
  subst hst
  have hpre := ct_pre (av := .ref r :: As) X
  refine ct_post (Qj := fun o sh' S' L' => o = none ∧ sh' = sh2 ∧ S' = S2 ∧ L' = L2) (mc' := mc') (ms' := ms') (rest := rest) X (fun q hq => hq) (cl (As := As.map (vm g ρ)) (rest := rest.map (vm g ρ)) (b := ad g ρ r) X.2.2.2.2.2.2.2.2.2.2.2.2 ⟨C.1, C.2.1, C.2.2.2.1, C.2.2.2.2.1, C.2.2.2.2.2.1⟩ (hC ρ H.size) rfl rfl ⟨hd, by show 8 + (M'.2.2.1 + 11) + 100 * d' ≤ 100 * d; omega⟩ ⟨hpre.1, hpre.2⟩ rfl (by rw [List.length_map]; exact hn) Y.2.1 (by show List.map (vm g ρ) _ = _; rw [List.map_append, List.map_reverse]; rfl) (by rw [vm_sum]; show 2 * 0 + _ ≤ 8; omega) dd ⟨hc1, hc2⟩) (fun r1 sh' S' L' ρ' H' locs' hq hρ X' => ?_)
  obtain ⟨rfl, rfl, rfl, rfl⟩ := hq
  have hρ1 : ∀ k, k < sh.length → ρ' k = ρ k := fun k hk => hρ.2 k (Or.inl hk)
  have h := k p e s m args below meth c ρ0 A ρ' H' locs' als C X' (Y.ext hρ1 hok.1)
  rw [map_ext hρ1 hok.2] at h
  exact h
/-- rows of longs, six by sixty -/
theorem rx_mnaT {idx r : Nat} {n m1 : Int32} (sh' : List CS) (hr : sh.length = r) (hsh : sh ++ [(7, 6, [(2, r + 1, 0), (2, r + 2, 0), (2, r + 3, 0), (2, r + 4, 0), (2, r + 5, 0), (2, r + 6, 0)]), (2, 60, []), (2, 60, []), (2, 60, []), (2, 60, []), (2, 60, []), (2, 60, [])] = sh') (dd : decode M.2.1 pc = .ok (.multianewarray idx 2, 4)) (hl : Cond.classLink M.1.cls idx "[[J" ∈ TB) (hn : n = 6) (hm : m1 = 60) (hz : ∀ j, j < 6 → L (r + 1 + j) = fun _ => 0) (hok : mkOK sh S ls rest = true) (hle : Nat.ble (sh.length + 7) 100000 = true) (hc : Nat.ble (cu + 7) mc = true) (hs : Nat.ble (su + 366) ms = true)
    (k : Rx g d mc ms M n0 Q (cu + 1 + 6) (su + 6 + 6 * 60) (pc + 4) ls (.ref r :: rest) sh' S L) : Rx g d mc ms M n0 Q cu su pc ls (.int m1 :: .int n :: rest) sh S L := fun p e s m args below meth c ρ0 A ρ H locs als C X Y => by
  subst hr hsh hn hm
  unfold mkOK at hok
  simp only [Bool.and_eq_true] at hok
  obtain ⟨o1, o2, o3, o4⟩ := hok
  have hle := Nat.le_of_ble_eq_true hle
  have hK6 := (X.2.2.2.1.2 1 (g.2.2.1 2, .long) rfl).2
  refine va_mna (D := g.2.1) (X := wsOf g ρ sh S L) (L := []) (f := fun _ => .inr (0, [])) (ty := .long) (cy := g.2.2.1 2) (N' := 6) (K' := 60) (z := (60, .inr (.inl (fun _ => 0)))) C.1 C.2.1 C.2.2.2.2.1 (C.2.2.2.2.2.1 _ hl) X.2.2.2.2.2.2.2.2.2.2.2.2.2.2.2.2.2 (C.2.2.2.2.2.1 _ w_331) hK6 X.2.2.2.1 (by show va_P _ _ (wsOf g ρ sh S L ++ []) H; rw [List.append_nil]; exact X.2.2.2.2.1) (by show va_D A (wsOf g ρ sh S L ++ []); rw [List.append_nil]; exact X.2.2.2.2.2.1) X.2.2.1 X.2.1 (by decide) (by decide) rfl rfl (by decide) (by decide) (by decide) rfl rfl (Nat.le_of_ble_eq_true (by rw [show cu + (1 + 6) = cu + 7 from rfl]; exact hc)) (Nat.le_of_ble_eq_true (by rw [show su + (6 + 6 * 60) = su + 366 from rfl]; exact hs)) (fun _ => rfl) dd (fun q rr cA H1 hinj hnl hK hP hD hS => ?_)
  cases arr_cls (t := 6) X hK rfl
  obtain ⟨ρ', hρ'⟩ : ∃ ρ' : Nat → Nat, ρ' = fun k => if k = sh.length then q else if sh.length < k ∧ k < sh.length + 7 then rr (k - sh.length - 1) else ρ k := ⟨_, rfl⟩
  have hρ : ∀ k, k < sh.length → ρ' k = ρ k := fun k hk => by rw [hρ']; show (if _ then _ else _) = _; rw [if_neg (by omega), if_neg (by omega)]
  have h0 : ρ' sh.length = q := by rw [hρ']; exact if_pos rfl
  have hj : ∀ j, j < 6 → ρ' (sh.length + 1 + j) = rr j := fun j hj => by
    rw [hρ']; show (if _ then _ else _) = _
    rw [if_neg (by omega), if_pos (by omega)]
    congr 1
    omega
  have hadj : ∀ j, j < 6 → ad g ρ' (sh.length + 1 + j) = rr j := fun j h6 => by rw [ad_lt (by omega)]; exact hj j h6
  have hw : wsOf g ρ' (sh ++ [(7, 6, [(2, sh.length + 1, 0), (2, sh.length + 2, 0), (2, sh.length + 3, 0), (2, sh.length + 4, 0), (2, sh.length + 5, 0), (2, sh.length + 6, 0)]), (2, 60, []), (2, 60, []), (2, 60, []), (2, 60, []), (2, 60, []), (2, 60, [])]) S L = (wsOf g ρ sh S L ++ [(q, .inl (g.2.2.1 7, 6, .inr (.inr (.inr (.inr (fun i => if i < 6 then some (rr i) else none))))))]) ++ va_pl ([] ++ (List.range 6).map rr) (vr_up (fun _ => .inr (0, [])) ((List.range 6).map rr) (.inl (g.2.2.1 2, 60, .inr (.inl (fun _ => 0))))) := by
    have e1 : wsOf g ρ' (sh ++ [(7, 6, [(2, sh.length + 1, 0), (2, sh.length + 2, 0), (2, sh.length + 3, 0), (2, sh.length + 4, 0), (2, sh.length + 5, 0), (2, sh.length + 6, 0)]), (2, 60, []), (2, 60, []), (2, 60, []), (2, 60, []), (2, 60, []), (2, 60, [])]) S L = wsOf g ρ' sh S L ++ [(ρ' sh.length, cellE g ρ' (7, 6, [(2, sh.length + 1, 0), (2, sh.length + 2, 0), (2, sh.length + 3, 0), (2, sh.length + 4, 0), (2, sh.length + 5, 0), (2, sh.length + 6, 0)]) sh.length S L), (ρ' (sh.length + 1 + 0), .inl (g.2.2.1 2, 60, .inr (.inl (L (sh.length + 1 + 0))))), (ρ' (sh.length + 1 + 1), .inl (g.2.2.1 2, 60, .inr (.inl (L (sh.length + 1 + 1))))), (ρ' (sh.length + 1 + 2), .inl (g.2.2.1 2, 60, .inr (.inl (L (sh.length + 1 + 2))))), (ρ' (sh.length + 1 + 3), .inl (g.2.2.1 2, 60, .inr (.inl (L (sh.length + 1 + 3))))), (ρ' (sh.length + 1 + 4), .inl (g.2.2.1 2, 60, .inr (.inl (L (sh.length + 1 + 4))))), (ρ' (sh.length + 1 + 5), .inl (g.2.2.1 2, 60, .inr (.inl (L (sh.length + 1 + 5)))))] := by
      rw [show (sh ++ [(7, 6, [(2, sh.length + 1, 0), (2, sh.length + 2, 0), (2, sh.length + 3, 0), (2, sh.length + 4, 0), (2, sh.length + 5, 0), (2, sh.length + 6, 0)]), (2, 60, []), (2, 60, []), (2, 60, []), (2, 60, []), (2, 60, []), (2, 60, [])] : List CS) = sh ++ [(7, 6, [(2, sh.length + 1, 0), (2, sh.length + 2, 0), (2, sh.length + 3, 0), (2, sh.length + 4, 0), (2, sh.length + 5, 0), (2, sh.length + 6, 0)])] ++ [(2, 60, [])] ++ [(2, 60, [])] ++ [(2, 60, [])] ++ [(2, 60, [])] ++ [(2, 60, [])] ++ [(2, 60, [])] by simp]
      rw [wsOf_app, wsOf_app, wsOf_app, wsOf_app, wsOf_app, wsOf_app, wsOf_app]
      simp only [List.append_assoc, List.length_append, List.length_cons, List.length_nil, List.cons_append, List.nil_append]
      rfl
    rw [e1, wsOf_ext hρ o2, h0, hj 0 (by decide), hj 1 (by decide), hj 2 (by decide), hj 3 (by decide), hj 4 (by decide), hj 5 (by decide), hz 0 (by decide), hz 1 (by decide), hz 2 (by decide), hz 3 (by decide), hz 4 (by decide), hz 5 (by decide), List.append_assoc]
    congr 1
    have e2 : cellE g ρ' (7, 6, [(2, sh.length + 1, 0), (2, sh.length + 2, 0), (2, sh.length + 3, 0), (2, sh.length + 4, 0), (2, sh.length + 5, 0), (2, sh.length + 6, 0)]) sh.length S L = .inl (g.2.2.1 7, 6, .inr (.inr (.inr (.inr (fun i => if i < 6 then some (rr i) else none))))) := by
      refine congrArg (fun z => Sum.inl (g.2.2.1 7, 6, Sum.inr (Sum.inr (Sum.inr (Sum.inr z))))) (funext fun j => ?_)
      by_cases h6 : j < 6
      · rw [if_pos h6]
        rcases (show j = 0 ∨ j = 1 ∨ j = 2 ∨ j = 3 ∨ j = 4 ∨ j = 5 by omega) with e | e | e | e | e | e <;> subst e
        · exact congrArg some (hadj 0 (by decide))
        · exact congrArg some (hadj 1 (by decide))
        · exact congrArg some (hadj 2 (by decide))
        · exact congrArg some (hadj 3 (by decide))
        · exact congrArg some (hadj 4 (by decide))
        · exact congrArg some (hadj 5 (by decide))
      · rw [if_neg h6, List.getElem?_eq_none (by show 6 ≤ j; omega)]
        rfl
    rw [e2]
    have e3 : va_pl ([] ++ (List.range 6).map rr) (vr_up (fun _ => .inr (0, [])) ((List.range 6).map rr) (.inl (g.2.2.1 2, 60, .inr (.inl (fun _ => 0))))) = ((List.range 6).map rr).map (fun a => ((a, .inl (g.2.2.1 2, 60, .inr (.inl (fun _ => 0)))) : Nat × va_E)) := by
      rw [List.nil_append]
      exact List.map_congr_left fun a ha => by rw [vr_up_in ha]
    rw [e3]
    rfl
  have hlen : (sh ++ [(7, 6, [(2, sh.length + 1, 0), (2, sh.length + 2, 0), (2, sh.length + 3, 0), (2, sh.length + 4, 0), (2, sh.length + 5, 0), (2, sh.length + 6, 0)]), (2, 60, []), (2, 60, []), (2, 60, []), (2, 60, []), (2, 60, []), (2, 60, [])] : List CS).length = sh.length + 7 := by rw [List.length_append]; rfl
  have h := k p e s m args below meth c ρ0 A ρ' H1 locs als C ⟨⟨by rw [hlen]; exact Nat.le_trans X.1.1 (Nat.le_add_right _ _), by rw [hlen]; exact hle, fun k hk => by
      rw [hlen] at hk
      have := X.1.1
      rw [hρ']
      show (if _ then _ else _) = _
      rw [if_neg (by omega), if_neg (by omega)]
      exact X.1.2.2 k (by omega)⟩, X.2.1, hS, X.2.2.2.1, by rw [hw]; exact hP, by rw [hw]; exact hD, X.2.2.2.2.2.2⟩ (Y.ext hρ o3)
  have e4 : (Value.ref sh.length :: rest).map (vm g ρ') = .ref q :: rest.map (vm g ρ) := by
    rw [List.map_cons, map_ext hρ o4]
    congr 1
    show Value.ref (ad g _ sh.length) = _
    rw [ad_lt (by omega), h0]
  rw [e4] at h
  exact h
end MK
