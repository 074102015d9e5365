-- WHAT THE LAW STARTS WITH
theorem LT_of {w : Cond} (i : Nat) (h : (tables_1[i]? == some w) = true) : w ∈ lw_tbl := List.mem_append_right _ (List.mem_of_getElem? (eq_of_beq h))
theorem va_eqt2 {args : Array Value} {s : State} {t u : Term} {a : Nat} (h : (Cond.eq t u).before args s = true) (ht : t.eval args s none [] s = some (.ref a)) : u.eval args s none [] s = some (.ref a) := by
  cases hv : u.eval args s none [] s with
  | none => simp [Cond.before, Cond.holds, Cond.value, hv, ht] at h
  | some w =>
    simp only [Cond.before, Cond.holds, Cond.value, hv, ht] at h
    cases w <;> simp_all
theorem arr_prim {s : State} {args : Array Value} {ty : FieldType} (h : (Cond.arrayClass ty).before args s = true) : ∃ cA : ClassId, ArrOfT s cA ty ∧ s.vm.findClass ("[" ++ ty.toString) = some cA := by
  obtain ⟨c, k, comp, h1, h2, h3⟩ := Cond.arrayClass_spec h
  exact ⟨c, fun n z => ⟨(fun k h => by cases h), k, h2, comp, h3⟩, h1⟩
theorem arr_obj {s : State} {args : Array Value} {C : String} (h : (Cond.arrayOver (.object C)).before args s = true) : ∃ cA : ClassId, ArrOfT s cA (.object C) ∧ va_RA s cA (.object C) := by
  obtain ⟨comp, c, k, h1, h2, h3, h4, h5⟩ := Cond.arrayOver_spec h
  exact ⟨c, fun n z => ⟨(fun k h => by cases h), k, h3, comp, h4⟩, k, comp, h3, h4, h1, h5⟩
set_option maxRecDepth 100000 in
set_option maxHeartbeats 4000000 in
theorem law_g {s : State} {args : Array Value} (l : Launch) (hts : ∀ w ∈ lw_tbl, w.before args s = true) (hgv : (Jvm.Cond.and given_1 narrow_1).before args s = true) : ∃ g : GG, g.1 = l ∧ va_K g.2.1 vwCl (tysOf g) s ∧ Stat g (fun q : Nat => s.heap.size ≤ q) s s.heap := by
  have ht : ∀ w ∈ TB, w.before args s = true := TB_tbl hts
  have hs := flat_of_before _ hgv
  have hA : ∀ a : Nat, a < s.heap.size → ¬ (fun q : Nat => s.heap.size ≤ q) a := fun a h => Nat.not_le.mpr h
  have hk : ∀ c : Nat, ∃ z : ClassId × (Nat → Nat), ∀ q : vw_C, vwCl[c]? = some q → u_Kn s q.1 q.2.1 q.2.2 z.1 z.2 := fun c => match c with
    | 0 => by
      obtain ⟨a, b, h⟩ := u_known (n := 4) ht inT_X0 (ht _ w_262)
      exact ⟨(a, b), fun q hq => by cases hq; exact h⟩
    | 1 => by
      obtain ⟨a, b, h⟩ := u_known (n := 0) ht inT_X1 (ht _ w_67)
      exact ⟨(a, b), fun q hq => by cases hq; exact h⟩
    | 2 => by
      obtain ⟨a, b, h⟩ := u_known (n := 0) ht inT_X2 (ht _ w_32)
      exact ⟨(a, b), fun q hq => by cases hq; exact h⟩
    | 3 => by
      obtain ⟨a, b, h⟩ := u_known (n := 0) ht inT_X3 (ht _ w_39)
      exact ⟨(a, b), fun q hq => by cases hq; exact h⟩
    | 4 => by
      obtain ⟨a, b, h⟩ := u_known (n := 0) ht inT_X4 (ht _ w_60)
      exact ⟨(a, b), fun q hq => by cases hq; exact h⟩
    | 5 => by
      obtain ⟨a, b, h⟩ := u_known (n := 18) ht inT_X5 (ht _ w_136)
      exact ⟨(a, b), fun q hq => by cases hq; exact h⟩
    | 6 => by
      obtain ⟨a, b, h⟩ := u_known (n := 0) ht inT_X6 (ht _ w_53)
      exact ⟨(a, b), fun q hq => by cases hq; exact h⟩
    | 7 => by
      obtain ⟨a, b, h⟩ := u_known (n := 0) ht inT_X7 (ht _ w_46)
      exact ⟨(a, b), fun q hq => by cases hq; exact h⟩
    | 8 => by
      obtain ⟨a, b, h⟩ := u_known (n := 0) ht inT_X8 (ht _ w_74)
      exact ⟨(a, b), fun q hq => by cases hq; exact h⟩
    | 9 => by
      obtain ⟨a, b, h⟩ := u_known (n := 5) ht inT_X9 (ht _ w_226)
      exact ⟨(a, b), fun q hq => by cases hq; exact h⟩
    | 10 => by
      obtain ⟨a, b, h⟩ := u_known (n := 13) ht inT_X10 (ht _ w_82)
      exact ⟨(a, b), fun q hq => by cases hq; exact h⟩
    | 11 => by
      obtain ⟨a, b, h⟩ := u_known (n := 14) ht inT_X11 (ht _ w_23)
      exact ⟨(a, b), fun q hq => by cases hq; exact h⟩
    | 12 => by
      obtain ⟨a, b, h⟩ := u_known (n := 74) ht inT_X12 (ht _ w_897)
      exact ⟨(a, b), fun q hq => by cases hq; exact h⟩
    | n + 13 => ⟨(0, fun _ => 0), fun q hq => by simp at hq⟩
  obtain ⟨f, hf⟩ := Classical.axiomOfChoice hk

  obtain ⟨c1, p1, q1⟩ := arr_prim (ht _ w_134)
  obtain ⟨c2, p2, q2⟩ := arr_prim (ht _ w_331)
  obtain ⟨c3, p3, q3⟩ := arr_prim (ht _ w_133)
  obtain ⟨c4, p4, q4⟩ := arr_prim (ht _ w_1125)
  obtain ⟨c5, p5, q5⟩ := arr_obj (C := "WhileSheLooks$Child") (hts _ (LT_of 31 (by decide +kernel)))
  obtain ⟨c6, p6, q6⟩ := arr_obj (C := "WhileSheLooks$Yard") (hts _ (LT_of 81 (by decide +kernel)))
  have hao : aoL s := (show (Cond.arrayOver (.array .long)).before args s = true from (hts _ (LT_of 287 (by decide +kernel))))
  obtain ⟨cm, c7, k7, m1, m2, m3, m4, m5⟩ := aoL.spec hao
  have p7 : ArrOfT s c7 (.array .long) := fun n z => ⟨(fun k h => by cases h), k7, m3, cm, m4⟩
  obtain ⟨ta, hta, hTA⟩ := va_Tof (tm := .static "WhileSheLooks" "KIND_ABOVE" "[I") (ty := .int) (N := 7) (f := fun j => .int (kaTab.getD j 0)) (A := fun q : Nat => s.heap.size ≤ q) (by decide) (hs _ (by decide +kernel)) (va_eqt (hs _ (by decide +kernel))) (fun j hj => by rcases y7 hj with rfl | rfl | rfl | rfl | rfl | rfl | rfl <;> exact va_eqt (hs _ (by decide +kernel))) hA
  have hZA := va_Zref (A := fun q : Nat => s.heap.size ≤ q) (hts _ (LT_of 871 (by decide +kernel))) (ht _ w_1) hta hA
  have hZC := va_Zof (A := fun q : Nat => s.heap.size ≤ q) (hts _ (LT_of 241 (by decide +kernel))) (ht _ w_12) (va_eqi (C := "java/lang/String") (n := "COMPACT_STRINGS") (d := "Z") (z := 1) (hs _ (by decide +kernel))) hA
  have hZS := va_Zqof (A := fun q : Nat => s.heap.size ≤ q) (hts _ (LT_of 501 (by decide +kernel))) (ht _ w_17) (hs (.isRef (.static "jdk/internal/util/Preconditions" "SIOOBE_FORMATTER" "Ljava/util/function/BiFunction;")) (by decide +kernel)) hA
  obtain ⟨tq, hZS⟩ : ∃ tq : Nat, va_Z "jdk/internal/util/Preconditions" "SIOOBE_FORMATTER" "Ljava/util/function/BiFunction;" .null (fun q : Nat => s.heap.size ≤ q) s s.heap ∨ va_Z "jdk/internal/util/Preconditions" "SIOOBE_FORMATTER" "Ljava/util/function/BiFunction;" (.ref tq) (fun q : Nat => s.heap.size ≤ q) s s.heap := by
    rcases hZS with h | ⟨t, h⟩
    · exact ⟨0, Or.inl h⟩
    · exact ⟨t, Or.inr h⟩
  obtain ⟨adK, adV, hSt, hev⟩ := vk_Sof (N := 7) (tm := fun i => .string ((["WhileSheLooks$Turns", "WhileSheLooks$Yard", "WhileSheLooks$Yard", "WhileSheLooks$Yard", "WhileSheLooks$Yard", "WhileSheLooks$Yard", "WhileSheLooks$Yard"] : List String).getD i "") (([23, 76, 78, 80, 81, 82, 128] : List Nat).getD i 0)) (len := strLen) (byt := strByt) (A := fun q : Nat => s.heap.size ≤ q)
    (fun i hi => by have := (strLen_le i hi).1; omega)
    (fun i hi => by rcases y7 hi with rfl | rfl | rfl | rfl | rfl | rfl | rfl <;> exact hs _ (by decide +kernel))
    (fun i hi => by rcases y7 hi with rfl | rfl | rfl | rfl | rfl | rfl | rfl <;> exact hs _ (by decide +kernel))
    (fun i hi => by rcases y7 hi with rfl | rfl | rfl | rfl | rfl | rfl | rfl <;> exact hs _ (by decide +kernel))
    (fun i hi => by rcases y7 hi with rfl | rfl | rfl | rfl | rfl | rfl | rfl <;> exact hs _ (by decide +kernel))
    (fun i hi j hj => by
    rcases y7 hi with rfl | rfl | rfl | rfl | rfl | rfl | rfl
    · have hj : j < 6 := hj
      rcases (show j = 0 ∨ j = 1 ∨ j = 2 ∨ j = 3 ∨ j = 4 ∨ j = 5 by omega) with rfl | rfl | rfl | rfl | rfl | rfl <;> exact hs _ (by decide +kernel)
    · have hj : j < 6 := hj
      rcases (show j = 0 ∨ j = 1 ∨ j = 2 ∨ j = 3 ∨ j = 4 ∨ j = 5 by omega) with rfl | rfl | rfl | rfl | rfl | rfl <;> exact hs _ (by decide +kernel)
    · have hj : j < 5 := hj
      rcases (show j = 0 ∨ j = 1 ∨ j = 2 ∨ j = 3 ∨ j = 4 by omega) with rfl | rfl | rfl | rfl | rfl <;> exact hs _ (by decide +kernel)
    · have hj : j < 3 := hj
      rcases (show j = 0 ∨ j = 1 ∨ j = 2 by omega) with rfl | rfl | rfl <;> exact hs _ (by decide +kernel)
    · have hj : j < 5 := hj
      rcases (show j = 0 ∨ j = 1 ∨ j = 2 ∨ j = 3 ∨ j = 4 by omega) with rfl | rfl | rfl | rfl | rfl <;> exact hs _ (by decide +kernel)
    · have hj : j < 4 := hj
      rcases (show j = 0 ∨ j = 1 ∨ j = 2 ∨ j = 3 by omega) with rfl | rfl | rfl | rfl <;> exact hs _ (by decide +kernel)
    · have hj : j < 3 := hj
      rcases (show j = 0 ∨ j = 1 ∨ j = 2 by omega) with rfl | rfl | rfl <;> exact hs _ (by decide +kernel))
    (fun i j hi hj hij => by rcases y7 hi with rfl | rfl | rfl | rfl | rfl | rfl | rfl <;> rcases y7 hj with rfl | rfl | rfl | rfl | rfl | rfl | rfl <;> first | exact absurd rfl hij | exact Or.inl (hs _ (by decide +kernel)) | exact Or.inr (hs _ (by decide +kernel))) hA
  have h126 : (Term.string "WhileSheLooks$Yard" 123).eval args s none [] s = some (.ref (adK 0)) := by
    have h1 := va_eqt2 (t := .string "WhileSheLooks$Turns" 23) (u := .string "WhileSheLooks$Yard" 123) (hs _ (by decide +kernel)) (hev 0 (by decide))
    exact h1
  let g : GG := (l, (fun c => (f c).1, fun c => (f c).2), fun t => match t with
    | 1 => c1
    | 2 => c2
    | 3 => c3
    | 4 => c4
    | 5 => c5
    | 6 => c6
    | 7 => c7
    | _ => 0, fun n => if n = 100200 then ta else if n = 100201 then tq else if 100100 ≤ n then adV (n - 100100) else adK (n - 100000))
  have gK : ∀ i, i < 7 → g.2.2.2 (100000 + i) = adK i := fun i hi => by
    show (if _ then _ else _) = _
    rw [if_neg (by omega), if_neg (by omega), if_neg (by omega), Nat.add_sub_cancel_left]
  have gV : ∀ i, i < 7 → g.2.2.2 (100100 + i) = adV i := fun i hi => by
    show (if _ then _ else _) = _
    rw [if_neg (by omega), if_neg (by omega), if_pos (by omega), Nat.add_sub_cancel_left]
  refine ⟨g, rfl, ⟨fun c q hq => hf c q hq, fun k q hq => ?_⟩, ?_, ?_, hTA, hZA, hZC, ?_, ?_, ?_, ?_, ?_, ?_, hao⟩
  · match k, hq with
    | 0, hq => cases hq; exact ⟨p1, q1⟩
    | 1, hq => cases hq; exact ⟨p2, q2⟩
    | 2, hq => cases hq; exact ⟨p3, q3⟩
    | 3, hq => cases hq; exact ⟨p4, q4⟩
    | 4, hq => cases hq; exact ⟨p5, q5⟩
    | 5, hq => cases hq; exact ⟨p6, q6⟩
    | 6, hq => cases hq; exact ⟨p7, m5⟩
    | n + 7, hq => simp [tysOf] at hq
  · exact List.forall_mem_cons.mpr ⟨(vk_R.of (hts _ (LT_of 231 (by decide +kernel))) (by rw [gK 0 (by decide)]; exact hev 0 (by decide))), List.forall_mem_cons.mpr ⟨(vk_R.of (hts _ (LT_of 472 (by decide +kernel))) (by rw [gK 1 (by decide)]; exact hev 1 (by decide))), List.forall_mem_cons.mpr ⟨(vk_R.of (hts _ (LT_of 473 (by decide +kernel))) (by rw [gK 2 (by decide)]; exact hev 2 (by decide))), List.forall_mem_cons.mpr ⟨(vk_R.of (hts _ (LT_of 474 (by decide +kernel))) (by rw [gK 3 (by decide)]; exact hev 3 (by decide))), List.forall_mem_cons.mpr ⟨(vk_R.of (hts _ (LT_of 475 (by decide +kernel))) (by rw [gK 4 (by decide)]; exact hev 4 (by decide))), List.forall_mem_cons.mpr ⟨(vk_R.of (hts _ (LT_of 476 (by decide +kernel))) (by rw [gK 5 (by decide)]; exact hev 5 (by decide))), List.forall_mem_cons.mpr ⟨(vk_R.of (hts _ (LT_of 548 (by decide +kernel))) (by rw [gK 0 (by decide)]; exact h126)), List.forall_mem_cons.mpr ⟨(vk_R.of (hts _ (LT_of 608 (by decide +kernel))) (by rw [gK 6 (by decide)]; exact hev 6 (by decide))), fun _ h => absurd h List.not_mem_nil⟩⟩⟩⟩⟩⟩⟩⟩
  · refine ⟨fun i hi => ?_, fun i j hi hj e => ?_⟩
    · have h := hSt.1 i hi
      rw [← gK i hi, ← gV i hi] at h
      exact h
    · have e : g.2.2.2 (100000 + i) = g.2.2.2 (100000 + j) := e
      rw [gK i hi, gK j hj] at e
      exact hSt.2 i j hi hj e
  · exact hZS
  · exact List.forall_mem_cons.mpr ⟨va_Nw.of rfl (hts _ (LT_of 33 (by decide +kernel))), List.forall_mem_cons.mpr ⟨va_Nw.of rfl (hts _ (LT_of 40 (by decide +kernel))), List.forall_mem_cons.mpr ⟨va_Nw.of rfl (hts _ (LT_of 43 (by decide +kernel))), List.forall_mem_cons.mpr ⟨va_Nw.of rfl (hts _ (LT_of 47 (by decide +kernel))), List.forall_mem_cons.mpr ⟨va_Nw.of rfl (hts _ (LT_of 50 (by decide +kernel))), List.forall_mem_cons.mpr ⟨va_Nw.of rfl (hts _ (LT_of 54 (by decide +kernel))), List.forall_mem_cons.mpr ⟨va_Nw.of rfl (hts _ (LT_of 57 (by decide +kernel))), List.forall_mem_cons.mpr ⟨va_Nw.of rfl (hts _ (LT_of 61 (by decide +kernel))), List.forall_mem_cons.mpr ⟨va_Nw.of rfl (hts _ (LT_of 64 (by decide +kernel))), List.forall_mem_cons.mpr ⟨va_Nw.of rfl (hts _ (LT_of 68 (by decide +kernel))), List.forall_mem_cons.mpr ⟨va_Nw.of rfl (hts _ (LT_of 71 (by decide +kernel))), List.forall_mem_cons.mpr ⟨va_Nw.of rfl (hts _ (LT_of 75 (by decide +kernel))), List.forall_mem_cons.mpr ⟨va_Nw.of rfl (hts _ (LT_of 78 (by decide +kernel))), List.forall_mem_cons.mpr ⟨va_Nw.of rfl (hts _ (LT_of 263 (by decide +kernel))), fun _ h => absurd h List.not_mem_nil⟩⟩⟩⟩⟩⟩⟩⟩⟩⟩⟩⟩⟩⟩
  · exact List.forall_mem_cons.mpr ⟨va_Nw.of rfl (hts _ (LT_of 1509 (by decide +kernel))), List.forall_mem_cons.mpr ⟨va_Nw.of rfl (hts _ (LT_of 1510 (by decide +kernel))), List.forall_mem_cons.mpr ⟨va_Nw.of rfl (hts _ (LT_of 1511 (by decide +kernel))), List.forall_mem_cons.mpr ⟨va_Nw.of rfl (hts _ (LT_of 1512 (by decide +kernel))), List.forall_mem_cons.mpr ⟨va_Nw.of rfl (hts _ (LT_of 1513 (by decide +kernel))), List.forall_mem_cons.mpr ⟨va_Nw.of rfl (hts _ (LT_of 1514 (by decide +kernel))), fun _ h => absurd h List.not_mem_nil⟩⟩⟩⟩⟩⟩
  · exact List.forall_mem_cons.mpr ⟨va_Nw.of rfl (hts _ (LT_of 368 (by decide +kernel))), List.forall_mem_cons.mpr ⟨va_Nw.of rfl (hts _ (LT_of 417 (by decide +kernel))), List.forall_mem_cons.mpr ⟨va_Nw.of rfl (hts _ (LT_of 802 (by decide +kernel))), List.forall_mem_cons.mpr ⟨va_Nw.of rfl (hts _ (LT_of 834 (by decide +kernel))), List.forall_mem_cons.mpr ⟨va_Nw.of rfl (hts _ (LT_of 847 (by decide +kernel))), fun _ h => absurd h List.not_mem_nil⟩⟩⟩⟩⟩
  · exact va_AO.of (hts _ (LT_of 31 (by decide +kernel)))
  · exact va_AO.of (hts _ (LT_of 81 (by decide +kernel)))
