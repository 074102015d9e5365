-- THE TEXT READ, purely: the machine that holds what waits (of the reference); what the class's readers say of it
def chr (T : List Nat) (p : Nat) : Int32 := match T[p]? with
  | some q => nI q
  | none => -1
abbrev digI (c : Int32) : Prop := 48 ≤ c ∧ c ≤ 57
def dgN (T : List Nat) (p : Nat) : Nat := T.getD p 0 - 48
def numP (T : List Nat) (p : Nat) : Option (Nat × Nat) := if digI (chr T p) then (if digI (chr T (p + 1)) then some (dgN T p * 10 + dgN T (p + 1), p + 2) else some (dgN T p, p + 1)) else none
def letN (c : Int32) : Nat := if 99 = c then 0 else if 107 = c then 1 else if 101 = c then 2 else if 98 = c then 3 else if 97 = c then 4 else if 116 = c then 5 else 6
def sgnN (c : Int32) : Nat := if 60 = c then 0 else if 61 = c then 1 else if 62 = c then 2 else 3
def tstQ (T : List Nat) (p : Nat) : Option TK × Nat := if letN (chr T p) = 6 then (none, p) else if sgnN (chr T (p + 1)) = 3 then (none, p + 1) else match numP T (p + 2) with
  | none => (none, p + 2)
  | some q => (some (letN (chr T p), sgnN (chr T (p + 1)), q.1), q.2)
def tkOf (b : Int32) : TK := if b = 38 then (7, 0, 0) else (8, 0, 0)
def setl (s : Int32) : List Int32 → List TK × List Int32
  | [] => ([], [])
  | a :: r => if a = 38 ∨ (a = 124 ∧ ¬ s = 38) then (tkOf a :: (setl s r).1, (setl s r).2) else ([], a :: r)
def whl : List Int32 → Nat → List TK × List Int32 × Nat
  | [], k => ([], [], k)
  | a :: r, k => if a = 33 then ((6, 0, 0) :: (whl r (k - 1)).1, (whl r (k - 1)).2.1, (whl r (k - 1)).2.2) else ([], a :: r, k)
def mRun (T : List Nat) : Nat → Nat → List Int32 → Nat → Bool → List TK → Bool × Nat × List TK
  | 0, p, _, _, _, _ => (false, p, [])
  | f + 1, p, w, k, true, cs => if chr T p = 33 ∨ chr T p = 40 then (if k = 4 then (false, p, []) else mRun T f (p + 1) (chr T p :: w) (k + 1) true cs) else match tstQ T p with
    | (none, q) => (false, q, [])
    | (some t, q) => mRun T f q (whl w k).2.1 (whl w k).2.2 false (cs ++ t :: (whl w k).1)
  | f + 1, p, w, k, false, cs => if chr T p = 38 ∨ chr T p = 124 then mRun T f (p + 1) (chr T p :: (setl (chr T p) w).2) k true (cs ++ (setl (chr T p) w).1) else match (setl 124 w).2 with
    | [] => (true, p, cs ++ (setl 124 w).1)
    | _ :: r => if chr T p = 41 then mRun T f (p + 1) (whl r (k - 1)).2.1 (whl r (k - 1)).2.2 false (cs ++ (setl 124 w).1 ++ (whl r (k - 1)).1) else (false, p, [])
def MR (T : List Nat) (p : Nat) (w : List Int32) (k : Nat) (b : Bool) (cs : List TK) (R : Bool × Nat × List TK) : Prop := ∀ f, T.length < p + f → mRun T f p w k b cs = R
theorem chr_ge {T : List Nat} {p : Nat} (h : T.length ≤ p) : chr T p = -1 := by unfold chr; rw [List.getElem?_eq_none h]
theorem chr_lt {T : List Nat} {p : Nat} (h : p < T.length) : ∃ q, T[p]? = some q ∧ chr T p = nI q := by
  refine ⟨T[p], List.getElem?_eq_getElem h, ?_⟩
  unfold chr
  rw [List.getElem?_eq_getElem h]
theorem chr_in {T : List Nat} {p : Nat} {c : Int32} (h : chr T p = c) (hc : ¬ c = -1) : p < T.length := by
  rcases Nat.lt_or_ge p T.length with q | q
  · exact q
  · exact absurd (h.symm.trans (chr_ge q)) hc
theorem MR.opn {T : List Nat} {p k : Nat} {w : List Int32} {cs : List TK} {R : Bool × Nat × List TK} (hb : chr T p = 33 ∨ chr T p = 40) (hk : ¬ k = 4) (hp : p < T.length) (h : MR T (p + 1) (chr T p :: w) (k + 1) true cs R) : MR T p w k true cs R := by
  intro f hf
  cases f with
  | zero => omega
  | succ f => exact ((if_pos hb).trans (if_neg hk)).trans (h f (by omega))
theorem MR.full {T : List Nat} {p : Nat} {w : List Int32} {cs : List TK} (hb : chr T p = 33 ∨ chr T p = 40) : MR T p w 4 true cs (false, p, []) := by
  intro f hf
  cases f with
  | zero => rfl
  | succ f => exact (if_pos hb).trans (if_pos rfl)
theorem MR.test {T : List Nat} {p k q : Nat} {w : List Int32} {cs : List TK} {t : TK} {R : Bool × Nat × List TK} (hb : ¬ (chr T p = 33 ∨ chr T p = 40)) (ht : tstQ T p = (some t, q)) (hq : p < q) (hp : p ≤ T.length) (h : MR T q (whl w k).2.1 (whl w k).2.2 false (cs ++ t :: (whl w k).1) R) : MR T p w k true cs R := by
  intro f hf
  cases f with
  | zero => omega
  | succ f =>
    refine (if_neg hb).trans ?_
    rw [ht]
    exact h f (by omega)
theorem MR.testF {T : List Nat} {p k q : Nat} {w : List Int32} {cs : List TK} (hb : ¬ (chr T p = 33 ∨ chr T p = 40)) (ht : tstQ T p = (none, q)) (hp : p ≤ T.length) : MR T p w k true cs (false, q, []) := by
  intro f hf
  cases f with
  | zero => omega
  | succ f =>
    refine (if_neg hb).trans ?_
    rw [ht]
theorem MR.op {T : List Nat} {p k : Nat} {w : List Int32} {cs : List TK} {R : Bool × Nat × List TK} (hb : chr T p = 38 ∨ chr T p = 124) (hp : p < T.length) (h : MR T (p + 1) (chr T p :: (setl (chr T p) w).2) k true (cs ++ (setl (chr T p) w).1) R) : MR T p w k false cs R := by
  intro f hf
  cases f with
  | zero => omega
  | succ f => exact (if_pos hb).trans (h f (by omega))
theorem MR.fin {T : List Nat} {p k : Nat} {cs : List TK} (hb : ¬ (chr T p = 38 ∨ chr T p = 124)) (hp : p ≤ T.length) : MR T p [] k false cs (true, p, cs) := by
  intro f hf
  cases f with
  | zero => omega
  | succ f =>
    refine (if_neg hb).trans ?_
    show (true, p, cs ++ []) = _
    rw [List.append_nil]
theorem MR.close {T : List Nat} {p k : Nat} {w : List Int32} {cs : List TK} {R : Bool × Nat × List TK} (h41 : chr T p = 41) (hp : p < T.length) (h : MR T (p + 1) (whl w k).2.1 (whl w k).2.2 false (cs ++ (whl w k).1) R) : MR T p (40 :: w) (k + 1) false cs R := by
  intro f hf
  cases f with
  | zero => omega
  | succ f =>
    refine (if_neg (by rw [h41]; decide)).trans ?_
    show (if chr T p = 41 then mRun T f (p + 1) (whl w (k + 1 - 1)).2.1 (whl w (k + 1 - 1)).2.2 false (cs ++ [] ++ (whl w (k + 1 - 1)).1) else (false, p, [])) = R
    rw [if_pos h41, Nat.add_sub_cancel, List.append_nil]
    exact h f (by omega)
theorem MR.noclose {T : List Nat} {p k : Nat} {w : List Int32} {cs : List TK} (hb : ¬ (chr T p = 38 ∨ chr T p = 124)) (h41 : ¬ chr T p = 41) : MR T p (40 :: w) k false cs (false, p, []) := by
  intro f hf
  cases f with
  | zero => rfl
  | succ f =>
    refine (if_neg hb).trans ?_
    show (if chr T p = 41 then _ else (false, p, [])) = _
    rw [if_neg h41]
theorem app1 {cs X : List TK} {t : TK} : cs ++ [t] ++ X = cs ++ t :: X := by rw [List.append_assoc]; rfl
theorem MR.s38 {T : List Nat} {p k : Nat} {w : List Int32} {cs : List TK} {R : Bool × Nat × List TK} (h : MR T p w k false (cs ++ [(7, 0, 0)]) R) : MR T p (38 :: w) k false cs R := by
  intro f hf
  have h1 := h f hf
  cases f with
  | zero => exact h1
  | succ f =>
    have e : ∀ s, setl s (38 :: w) = ((7, 0, 0) :: (setl s w).1, (setl s w).2) := fun s => if_pos (Or.inl rfl)
    unfold mRun at h1 ⊢
    rw [e, e]
    simp only [app1] at h1
    exact h1
theorem MR.s124 {T : List Nat} {p k : Nat} {w : List Int32} {cs : List TK} {R : Bool × Nat × List TK} (h38 : ¬ chr T p = 38) (h : MR T p w k false (cs ++ [(8, 0, 0)]) R) : MR T p (124 :: w) k false cs R := by
  intro f hf
  have h1 := h f hf
  cases f with
  | zero => exact h1
  | succ f =>
    have e : ∀ s, ¬ s = 38 → setl s (124 :: w) = ((8, 0, 0) :: (setl s w).1, (setl s w).2) := fun s hs => if_pos (Or.inr ⟨rfl, hs⟩)
    unfold mRun at h1 ⊢
    rw [e _ h38, e 124 (by decide)]
    simp only [app1] at h1
    exact h1
def WF (n : Nat) (cs : List TK) : Prop := ∀ l h, h + n ≤ 20 → wfT l (h + 1) → wfT (cs ++ l) h
theorem WF.mono {m n : Nat} {cs : List TK} (h : WF m cs) (hmn : m ≤ n) : WF n cs := fun l x hx hl => h l x (by omega) hl
theorem WF.tst {t : TK} (h1 : t.1 < 6) (h2 : t.2.1 < 3) (h3 : t.2.2 < 100) : WF 1 [t] := fun l h hh hl => Or.inl ⟨h1, h2, h3, by omega, hl⟩
theorem WF.not {n : Nat} {cs : List TK} (h : WF n cs) : WF n (cs ++ [(6, 0, 0)]) := fun l x hx hl => by
  rw [app1]
  exact h _ x hx (Or.inr (Or.inl ⟨rfl, by omega, hl⟩))
theorem WF.two {n : Nat} {c1 c2 : List TK} {t : TK} (ht : t.1 = 7 ∨ t.1 = 8) (h1 : WF (n + 1) c1) (h2 : WF n c2) : WF (n + 1) (c1 ++ c2 ++ [t]) := fun l x hx hl => by
  rw [app1, List.append_assoc]
  exact h1 _ x hx (h2 _ (x + 1) (by omega) (Or.inr (Or.inr ⟨ht, by omega, by rw [Nat.add_sub_cancel]; exact hl⟩)))
theorem WF.all {cs : List TK} (h : WF 11 cs) : wfT cs 0 := by
  have := h [] 0 (by omega) rfl
  rw [List.append_nil] at this
  exact this
def Sz (T : List Nat) (p p' : Nat) (cs : List TK) : Prop := p < p' ∧ p' ≤ T.length ∧ cs.length + p ≤ p'
def PartOK (T : List Nat) (p k p' : Nat) (c : List TK) : Prop := Sz T p p' c ∧ WF (9 - 2 * k) c ∧ ∀ w cs R, MR T p' (whl w k).2.1 (whl w k).2.2 false (cs ++ c ++ (whl w k).1) R → MR T p w k true cs R
def PartNo (T : List Nat) (p k q : Nat) : Prop := ∀ w cs, MR T p w k true cs (false, q, [])
def topB (w : List Int32) : Prop := w = [] ∨ ∃ r, w = 40 :: r ∨ w = 124 :: r
def topE (w : List Int32) : Prop := w = [] ∨ ∃ r, w = 40 :: r
theorem topE.b {w : List Int32} (h : topE w) : topB w := h.elim Or.inl (fun ⟨r, e⟩ => Or.inr ⟨r, Or.inl e⟩)
theorem topB.whl {w : List Int32} (h : topB w) (k : Nat) : whl w k = ([], w, k) := by
  rcases h with rfl | ⟨r, rfl | rfl⟩
  · rfl
  · exact if_neg (by decide)
  · exact if_neg (by decide)
theorem topB.set {w : List Int32} (h : topB w) : setl 38 w = ([], w) := by
  rcases h with rfl | ⟨r, rfl | rfl⟩
  · rfl
  · exact if_neg (by decide)
  · exact if_neg (by decide)
theorem topE.set {w : List Int32} (h : topE w) (s : Int32) : setl s w = ([], w) := by
  rcases h with rfl | ⟨r, rfl⟩
  · rfl
  · exact if_neg (fun q => q.elim (fun x => absurd x (by decide)) (fun x => absurd x.1 (by decide)))
def BothP (T : List Nat) (p k p' : Nat) (c : List TK) : Prop := Sz T p p' c ∧ WF (9 - 2 * k + 1) c ∧ ∀ w cs R, topB w → MR T p' w k false (cs ++ c) R → MR T p w k true cs R
def BothOK (T : List Nat) (p k p' : Nat) (c : List TK) : Prop := BothP T p k p' c ∧ ¬ chr T p' = 38
def BothNo (T : List Nat) (p k q : Nat) : Prop := ∀ w cs, topB w → MR T p w k true cs (false, q, [])
def EithP (T : List Nat) (p k p' : Nat) (c : List TK) : Prop := Sz T p p' c ∧ WF (9 - 2 * k + 2) c ∧ (∀ w cs R, topE w → MR T p' w k false (cs ++ c) R → MR T p w k true cs R) ∧ ¬ chr T p' = 38
def EithOK (T : List Nat) (p k p' : Nat) (c : List TK) : Prop := EithP T p k p' c ∧ ¬ chr T p' = 124
def EithNo (T : List Nat) (p k q : Nat) : Prop := ∀ w cs, topE w → MR T p w k true cs (false, q, [])
theorem BothP.of {T : List Nat} {p k p' : Nat} {c : List TK} (h : PartOK T p k p' c) : BothP T p k p' c := ⟨h.1, h.2.1.mono (by omega), fun w cs R hw hm => h.2.2 w cs R (by rw [hw.whl]; show MR T p' w k false (cs ++ c ++ []) R; rw [List.append_nil]; exact hm)⟩
theorem BothNo.of {T : List Nat} {p k q : Nat} (h : PartNo T p k q) : BothNo T p k q := fun w cs _ => h w cs
theorem Sz.join {T : List Nat} {p p1 p2 : Nat} {c1 c2 : List TK} {t : TK} (h1 : Sz T p p1 c1) (h2 : Sz T (p1 + 1) p2 c2) : Sz T p p2 (c1 ++ c2 ++ [t]) := by
  obtain ⟨a1, a2, a3⟩ := h1
  obtain ⟨b1, b2, b3⟩ := h2
  refine ⟨by omega, b2, ?_⟩
  rw [List.length_append, List.length_append, List.length_singleton]
  omega
theorem BothP.more {T : List Nat} {p k p1 p2 : Nat} {c1 c2 : List TK} (h : BothP T p k p1 c1) (hb : chr T p1 = 38) (h2 : PartOK T (p1 + 1) k p2 c2) : BothP T p k p2 (c1 ++ c2 ++ [(7, 0, 0)]) := by
  refine ⟨h.1.join h2.1, WF.two (Or.inl rfl) h.2.1 h2.2.1, fun w cs R hw hm => h.2.2 w cs R hw ?_⟩
  refine MR.op (Or.inl hb) (chr_in hb (by decide)) ?_
  rw [hb, hw.set, List.append_nil]
  refine h2.2.2 _ _ _ ?_
  rw [show whl (38 :: w) k = ([], 38 :: w, k) from if_neg (by decide), List.append_nil]
  refine MR.s38 ?_
  rw [List.append_assoc cs c1 c2, List.append_assoc]
  exact hm
theorem BothP.no {T : List Nat} {p k p1 q : Nat} {c1 : List TK} (h : BothP T p k p1 c1) (hb : chr T p1 = 38) (h2 : PartNo T (p1 + 1) k q) : BothNo T p k q := by
  intro w cs hw
  refine h.2.2 w cs _ hw (MR.op (Or.inl hb) (chr_in hb (by decide)) ?_)
  exact h2 _ _
theorem EithP.of {T : List Nat} {p k p' : Nat} {c : List TK} (h : BothOK T p k p' c) : EithP T p k p' c := ⟨h.1.1, h.1.2.1.mono (by omega), fun w cs R hw hm => h.1.2.2 w cs R hw.b hm, h.2⟩
theorem EithNo.of {T : List Nat} {p k q : Nat} (h : BothNo T p k q) : EithNo T p k q := fun w cs hw => h w cs hw.b
theorem EithP.more {T : List Nat} {p k p1 p2 : Nat} {c1 c2 : List TK} (h : EithP T p k p1 c1) (hb : chr T p1 = 124) (h2 : BothOK T (p1 + 1) k p2 c2) : EithP T p k p2 (c1 ++ c2 ++ [(8, 0, 0)]) := by
  refine ⟨h.1.join h2.1.1, WF.two (Or.inr rfl) h.2.1 h2.1.2.1, fun w cs R hw hm => h.2.2.1 w cs R hw ?_, h2.2⟩
  refine MR.op (Or.inr hb) (chr_in hb (by decide)) ?_
  rw [hb, hw.set, List.append_nil]
  refine h2.1.2.2 _ _ _ (Or.inr ⟨w, Or.inr rfl⟩) (MR.s124 h2.2 ?_)
  rw [List.append_assoc cs c1 c2, List.append_assoc]
  exact hm
theorem EithP.no {T : List Nat} {p k p1 q : Nat} {c1 : List TK} (h : EithP T p k p1 c1) (hb : chr T p1 = 124) (h2 : BothNo T (p1 + 1) k q) : EithNo T p k q := by
  intro w cs hw
  refine h.2.2.1 w cs _ hw (MR.op (Or.inr hb) (chr_in hb (by decide)) ?_)
  rw [hb, hw.set]
  exact h2 _ _ (Or.inr ⟨w, Or.inr rfl⟩)
theorem PartOK.tst {T : List Nat} {p k q : Nat} {t : TK} (hk : k ≤ 4) (hb : ¬ (chr T p = 33 ∨ chr T p = 40)) (ht : tstQ T p = (some t, q)) (hz : Sz T p q [t]) (hw : t.1 < 6 ∧ t.2.1 < 3 ∧ t.2.2 < 100) : PartOK T p k q [t] :=
  ⟨hz, (WF.tst hw.1 hw.2.1 hw.2.2).mono (by omega), fun w cs R hm => MR.test hb ht hz.1 (by have := hz.1; have := hz.2.1; omega) (by rw [app1] at hm; exact hm)⟩
theorem PartOK.not {T : List Nat} {p k q : Nat} {c : List TK} (hk : k < 4) (hb : chr T p = 33) (h : PartOK T (p + 1) (k + 1) q c) : PartOK T p k q (c ++ [(6, 0, 0)]) := by
  obtain ⟨⟨a1, a2, a3⟩, h2, h3⟩ := h
  refine ⟨⟨by omega, a2, ?_⟩, (h2.mono (by omega)).not, fun w cs R hm => ?_⟩
  · rw [List.length_append, List.length_singleton]; omega
  · refine MR.opn (Or.inl hb) (by omega) (chr_in hb (by decide)) (h3 _ _ _ ?_)
    rw [hb, show whl (33 :: w) (k + 1) = ((6, 0, 0) :: (whl w (k + 1 - 1)).1, (whl w (k + 1 - 1)).2.1, (whl w (k + 1 - 1)).2.2) from if_pos rfl, Nat.add_sub_cancel]
    rw [← List.append_assoc cs c, app1] at hm
    exact hm
theorem PartNo.not {T : List Nat} {p k q : Nat} (hk : k < 4) (hb : chr T p = 33) (h : PartNo T (p + 1) (k + 1) q) : PartNo T p k q := fun w cs => MR.opn (Or.inl hb) (by omega) (chr_in hb (by decide)) (h _ _)
theorem PartOK.par {T : List Nat} {p k q : Nat} {c : List TK} (hk : k < 4) (hb : chr T p = 40) (h : EithOK T (p + 1) (k + 1) q c) (h41 : chr T q = 41) : PartOK T p k (q + 1) c := by
  obtain ⟨⟨⟨a1, a2, a3⟩, h2, h3, h4⟩, h5⟩ := h
  have hq := chr_in h41 (by decide)
  refine ⟨⟨by omega, hq, by omega⟩, h2.mono (by omega), fun w cs R hm => ?_⟩
  refine MR.opn (Or.inr hb) (by omega) (chr_in hb (by decide)) ?_
  rw [hb]
  exact h3 _ _ _ (Or.inr ⟨w, rfl⟩) (MR.close h41 hq hm)
theorem PartNo.par {T : List Nat} {p k q : Nat} (hk : k < 4) (hb : chr T p = 40) (h : EithNo T (p + 1) (k + 1) q) : PartNo T p k q := fun w cs => MR.opn (Or.inr hb) (by omega) (chr_in hb (by decide)) (by rw [hb]; exact h _ _ (Or.inr ⟨w, rfl⟩))
theorem PartNo.opn {T : List Nat} {p k q : Nat} {c : List TK} (hk : k < 4) (hb : chr T p = 40) (h : EithOK T (p + 1) (k + 1) q c) (h41 : ¬ chr T q = 41) : PartNo T p k q := fun w cs => MR.opn (Or.inr hb) (by omega) (chr_in hb (by decide)) (by rw [hb]; exact h.1.2.2.1 _ _ _ (Or.inr ⟨w, rfl⟩) (MR.noclose (fun x => x.elim h.1.2.2.2 h.2) h41))
theorem PartNo.full {T : List Nat} {p : Nat} (hb : chr T p = 33 ∨ chr T p = 40) : PartNo T p 4 p := fun w cs => MR.full hb
theorem PartNo.tst {T : List Nat} {p k q : Nat} (hb : ¬ (chr T p = 33 ∨ chr T p = 40)) (ht : tstQ T p = (none, q)) (hp : p ≤ T.length) : PartNo T p k q := fun w cs => MR.testF hb ht hp
/-- E at p: whether it is one, where it ends or fails, its codes -/
def eP (T : List Nat) (p : Nat) : Bool × Nat × List TK := mRun T (T.length + 1 - p) p [] 0 true []
theorem eP_ok {T : List Nat} {p q : Nat} {c : List TK} (hp : p ≤ T.length) (h : EithOK T p 0 q c) : eP T p = (true, q, c) := h.1.2.2.1 [] [] _ (Or.inl rfl) (by rw [List.nil_append]; exact MR.fin (fun x => x.elim h.1.2.2.2 h.2) h.1.1.2.1) _ (by omega)
theorem eP_no {T : List Nat} {p q : Nat} (hp : p ≤ T.length) (h : EithNo T p 0 q) : eP T p = (false, q, []) := h [] [] (Or.inl rfl) _ (by omega)
