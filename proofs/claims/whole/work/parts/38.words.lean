-- WORDS, CLAUSES
def wB (w : Nat) : List Int32 := strByt.getD (w + 1) []
def cpre (T : List Nat) : Nat → List Int32 → Nat
  | _, [] => 0
  | p, a :: r => if chr T p = a then 1 + cpre T (p + 1) r else 0
def wdM (T : List Nat) (p : Nat) : Nat := if chr T p = 119 then 0 else if chr T p = 102 then 2 else if chr T (p + 1) = 116 then 1 else if chr T (p + 1) = 104 then 3 else 4
def wdQ (T : List Nat) (p : Nat) : Option Nat × Nat := if cpre T p (wB (wdM T p)) = (wB (wdM T p)).length then (some (wdM T p), (wB (wdM T p)).length) else (none, cpre T p (wB (wdM T p)))
def rwC (c l : Nat → Nat) : Nat → Nat → Nat → Option Nat × Nat
  | 0, _, z => (none, z)
  | r + 1, w, z => if c w = l w then (some w, l w) else rwC c l r (w + 1) (max z (c w))
theorem rw_pick {c l : Nat → Nat} {w0 : Nat} (hw : w0 < 5) (h : ∀ w, w < 5 → w ≠ w0 → ¬ c w = l w ∧ c w ≤ c w0) : rwC c l 5 0 0 = if c w0 = l w0 then (some w0, l w0) else (none, c w0) := by
  have e : rwC c l 5 0 0 = if c 0 = l 0 then (some 0, l 0) else if c 1 = l 1 then (some 1, l 1) else if c 2 = l 2 then (some 2, l 2) else if c 3 = l 3 then (some 3, l 3) else if c 4 = l 4 then (some 4, l 4) else (none, max (max (max (max (max 0 (c 0)) (c 1)) (c 2)) (c 3)) (c 4)) := rfl
  rw [e]
  rcases (show w0 = 0 ∨ w0 = 1 ∨ w0 = 2 ∨ w0 = 3 ∨ w0 = 4 by omega) with rfl | rfl | rfl | rfl | rfl
  · by_cases e0 : c 0 = l 0
    · rw [if_pos e0, if_pos e0]
    · rw [if_neg e0, if_neg (h 1 (by omega) (by omega)).1, if_neg (h 2 (by omega) (by omega)).1, if_neg (h 3 (by omega) (by omega)).1, if_neg (h 4 (by omega) (by omega)).1, if_neg e0]
      congr 1
      have := h 1 (by omega) (by omega); have := h 2 (by omega) (by omega); have := h 3 (by omega) (by omega); have := h 4 (by omega) (by omega)
      omega
  · by_cases e0 : c 1 = l 1
    · rw [if_neg (h 0 (by omega) (by omega)).1, if_pos e0, if_pos e0]
    · rw [if_neg (h 0 (by omega) (by omega)).1, if_neg e0, if_neg (h 2 (by omega) (by omega)).1, if_neg (h 3 (by omega) (by omega)).1, if_neg (h 4 (by omega) (by omega)).1, if_neg e0]
      congr 1
      have := h 0 (by omega) (by omega); have := h 2 (by omega) (by omega); have := h 3 (by omega) (by omega); have := h 4 (by omega) (by omega)
      omega
  · by_cases e0 : c 2 = l 2
    · rw [if_neg (h 0 (by omega) (by omega)).1, if_neg (h 1 (by omega) (by omega)).1, if_pos e0, if_pos e0]
    · rw [if_neg (h 0 (by omega) (by omega)).1, if_neg (h 1 (by omega) (by omega)).1, if_neg e0, if_neg (h 3 (by omega) (by omega)).1, if_neg (h 4 (by omega) (by omega)).1, if_neg e0]
      congr 1
      have := h 0 (by omega) (by omega); have := h 1 (by omega) (by omega); have := h 3 (by omega) (by omega); have := h 4 (by omega) (by omega)
      omega
  · by_cases e0 : c 3 = l 3
    · rw [if_neg (h 0 (by omega) (by omega)).1, if_neg (h 1 (by omega) (by omega)).1, if_neg (h 2 (by omega) (by omega)).1, if_pos e0, if_pos e0]
    · rw [if_neg (h 0 (by omega) (by omega)).1, if_neg (h 1 (by omega) (by omega)).1, if_neg (h 2 (by omega) (by omega)).1, if_neg e0, if_neg (h 4 (by omega) (by omega)).1, if_neg e0]
      congr 1
      have := h 0 (by omega) (by omega); have := h 1 (by omega) (by omega); have := h 2 (by omega) (by omega); have := h 4 (by omega) (by omega)
      omega
  · by_cases e0 : c 4 = l 4
    · rw [if_neg (h 0 (by omega) (by omega)).1, if_neg (h 1 (by omega) (by omega)).1, if_neg (h 2 (by omega) (by omega)).1, if_neg (h 3 (by omega) (by omega)).1, if_pos e0, if_pos e0]
    · rw [if_neg (h 0 (by omega) (by omega)).1, if_neg (h 1 (by omega) (by omega)).1, if_neg (h 2 (by omega) (by omega)).1, if_neg (h 3 (by omega) (by omega)).1, if_neg e0, if_neg e0]
      congr 1
      have := h 0 (by omega) (by omega); have := h 1 (by omega) (by omega); have := h 2 (by omega) (by omega); have := h 3 (by omega) (by omega)
      omega
theorem wdM_lt (T : List Nat) (p : Nat) : wdM T p < 5 := by
  unfold wdM
  split
  · omega
  split
  · omega
  split
  · omega
  split
  · omega
  omega
theorem rw_wd (T : List Nat) (p : Nat) : rwC (fun w => cpre T p (wB w)) (fun w => (wB w).length) 5 0 0 = wdQ T p := by
  refine rw_pick (wdM_lt T p) fun w hw hne => ?_
  have c0 : cpre T p (wB 0) = if chr T p = 119 then 1 + cpre T (p + 1) [111, 98, 98, 108, 101] else 0 := rfl
  have c1 : cpre T p (wB 1) = if chr T p = 115 then 1 + (if chr T (p + 1) = 116 then 1 + cpre T (p + 1 + 1) [105, 108, 108] else 0) else 0 := rfl
  have c2 : cpre T p (wB 2) = if chr T p = 102 then 1 + cpre T (p + 1) [97, 114] else 0 := rfl
  have c3 : cpre T p (wB 3) = if chr T p = 115 then 1 + (if chr T (p + 1) = 104 then 1 + cpre T (p + 1 + 1) [97, 114, 112] else 0) else 0 := rfl
  have c4 : cpre T p (wB 4) = if chr T p = 115 then 1 + (if chr T (p + 1) = 101 then 1 + cpre T (p + 1 + 1) [101, 115] else 0) else 0 := rfl
  have l0 : (wB 0).length = 6 := rfl
  have l1 : (wB 1).length = 5 := rfl
  have l2 : (wB 2).length = 3 := rfl
  have l3 : (wB 3).length = 5 := rfl
  have l4 : (wB 4).length = 4 := rfl
  by_cases h1 : chr T p = 119
  · have e : wdM T p = 0 := if_pos h1
    rw [e] at hne ⊢
    rw [h1] at c0 c1 c2 c3 c4
    rw [if_neg (by decide)] at c1 c2 c3 c4
    rcases (show w = 1 ∨ w = 2 ∨ w = 3 ∨ w = 4 by omega) with rfl | rfl | rfl | rfl <;> omega
  · by_cases h2 : chr T p = 102
    · have e : wdM T p = 2 := (if_neg h1).trans (if_pos h2)
      rw [e] at hne ⊢
      rw [h2] at c0 c1 c2 c3 c4
      rw [if_neg (by decide)] at c0 c1 c3 c4
      rcases (show w = 0 ∨ w = 1 ∨ w = 3 ∨ w = 4 by omega) with rfl | rfl | rfl | rfl <;> omega
    · rw [if_neg h1] at c0
      rw [if_neg h2] at c2
      by_cases h3 : chr T p = 115
      · rw [if_pos h3] at c1 c3 c4
        by_cases h4 : chr T (p + 1) = 116
        · have e : wdM T p = 1 := (if_neg h1).trans ((if_neg h2).trans (if_pos h4))
          rw [e] at hne ⊢
          rw [h4] at c1 c3 c4
          rw [if_pos rfl] at c1
          rw [if_neg (by decide)] at c3 c4
          rcases (show w = 0 ∨ w = 2 ∨ w = 3 ∨ w = 4 by omega) with rfl | rfl | rfl | rfl <;> omega
        · by_cases h5 : chr T (p + 1) = 104
          · have e : wdM T p = 3 := (if_neg h1).trans ((if_neg h2).trans ((if_neg h4).trans (if_pos h5)))
            rw [e] at hne ⊢
            rw [h5] at c1 c3 c4
            rw [if_pos rfl] at c3
            rw [if_neg (by decide)] at c1 c4
            rcases (show w = 0 ∨ w = 1 ∨ w = 2 ∨ w = 4 by omega) with rfl | rfl | rfl | rfl <;> omega
          · have e : wdM T p = 4 := (if_neg h1).trans ((if_neg h2).trans ((if_neg h4).trans (if_neg h5)))
            rw [e] at hne ⊢
            rw [if_neg h4] at c1
            rw [if_neg h5] at c3
            rcases (show w = 0 ∨ w = 1 ∨ w = 2 ∨ w = 3 by omega) with rfl | rfl | rfl | rfl <;> omega
      · rw [if_neg h3] at c1 c3 c4
        rcases (show w = 0 ∨ w = 1 ∨ w = 2 ∨ w = 3 ∨ w = 4 by omega) with rfl | rfl | rfl | rfl | rfl <;> omega
theorem cpre_le {T : List Nat} : ∀ (l : List Int32) (p : Nat), (∀ a ∈ l, ¬ a = -1) → p ≤ T.length → p + cpre T p l ≤ T.length
  | [], p, _, h => h
  | a :: r, p, hl, h => by
    unfold cpre
    by_cases e : chr T p = a
    · rw [if_pos e]
      have h1 := cpre_le r (p + 1) (fun b hb => hl b (List.mem_cons_of_mem _ hb)) (chr_in e (hl a List.mem_cons_self))
      omega
    · rw [if_neg e]; exact h
theorem cpre_len {T : List Nat} : ∀ (l : List Int32) (p : Nat), cpre T p l ≤ l.length
  | [], p => Nat.le_refl _
  | a :: r, p => by
    unfold cpre
    by_cases e : chr T p = a
    · rw [if_pos e, List.length_cons]
      have := cpre_len (T := T) r (p + 1)
      omega
    · rw [if_neg e]; exact Nat.zero_le _
theorem wB_ok : ∀ w, w < 5 → (∀ a ∈ wB w, ¬ a = -1) ∧ (wB w).length = strLen.getD (w + 1) 0 ∧ 3 ≤ (wB w).length ∧ (wB w).length ≤ 6 := by
  intro w hw
  rcases (show w = 0 ∨ w = 1 ∨ w = 2 ∨ w = 3 ∨ w = 4 by omega) with rfl | rfl | rfl | rfl | rfl <;> decide +kernel
theorem nI_max {a b : Nat} (ha : a < 2 ^ 31) (hb : b < 2 ^ 31) : (if nI a < nI b then nI b else nI a) = nI (max a b) := by
  by_cases h : a < b
  · rw [if_pos (nI_lt h hb), Nat.max_eq_right (by omega)]
  · rw [if_neg (nI_nlt (by omega) ha), Nat.max_eq_left (by omega)]
def lastP (w : Nat) : List CLS → Nat → Nat
  | [], z => z
  | c :: l, z => lastP w l (if c.1 = w then c.2.1 else z)
theorem lastP_app (w : Nat) (c : CLS) : ∀ (l : List CLS) (z : Nat), lastP w (l ++ [c]) z = if c.1 = w then c.2.1 else lastP w l z
  | [], z => rfl
  | d :: l, z => lastP_app w c l _
def farN (cls : List CLS) : Nat := if lastP 2 cls 40 < 1 then 1 else lastP 2 cls 40
def clQ (T : List Nat) (p : Nat) : Option CLS × Nat := match wdQ T p with
  | (none, d) => (none, p + d)
  | (some w, d) => if chr T (p + d) = 32 then (match numP T (p + d + 1) with
    | none => (none, p + d + 1)
    | some (n, q) => if w < 2 then (if chr T q = 32 then (match eP T (q + 1) with
        | (false, z, _) => (none, z)
        | (true, z, c) => (some (w, n, c), z)) else (none, q)) else (some (w, n, []), q)) else (none, p + d)
def yrL (T : List Nat) : Nat → Nat → List CLS → Option (List CLS) × Nat
  | 0, p, _ => (none, p)
  | r + 1, p, cls => match clQ T p with
    | (none, q) => (none, q)
    | (some c, q) => if q = T.length then (some (cls ++ [c]), q) else if r = 0 ∨ ¬ chr T q = 59 then (none, q) else yrL T r (q + 1) (cls ++ [c])
def yrQ (T : List Nat) : Option (List CLS) × Nat := yrL T 10 0 []
def YF (y : Nat) (S S' : SS) : Prop := ∀ j, ¬ (11 + 6 * y ≤ j ∧ j ≤ 11 + 6 * y + 5) → S' j = S j
theorem YF.trans {y : Nat} {S S1 S2 : SS} (h : YF y S S1) (h2 : YF y S1 S2) : YF y S S2 := fun j a => (h2 j a).trans (h j a)
theorem PrF.yf {y : Nat} {S S' : SS} (h : PrF y S S') : YF y S S' := fun j a => h.1 j (by omega) (by omega)
def CcR (y : Nat) (S : SS) (cs : List TK) (i : Nat) (c : CLS) : Prop := i < 10 ∧ S (11 + 6 * y + 1) i = nI c.1 ∧ c.1 < 5 ∧ S (11 + 6 * y + 2) i = nI c.2.1 ∧ c.2.1 < 100 ∧ (c.1 < 2 → ∃ fr, S (11 + 6 * y + 3) i = nI fr ∧ S (11 + 6 * y + 4) i = nI (fr + c.2.2.length) ∧ fr + c.2.2.length ≤ cs.length ∧ (∀ j t, c.2.2[j]? = some t → cs[fr + j]? = some t) ∧ wfT c.2.2 0)
def GsR (y : Nat) (S : SS) (cls : List CLS) (cs : List TK) : Prop := S (11 + 6 * y) 7 = nI cls.length ∧ cls.length ≤ 10 ∧ (∀ i c, cls[i]? = some c → CcR y S cs i c) ∧ S (11 + 6 * y) 10 = nI (farN cls) ∧ S (11 + 6 * y) 11 = nI (lastP 3 cls 3) ∧ S (11 + 6 * y) 12 = nI (lastP 4 cls 9)
theorem CcR.mono {y : Nat} {S S' : SS} {cs : List TK} {i : Nat} {c : CLS} (h : CcR y S cs i c) (more : List TK) (ho : ∀ j, 11 + 6 * y + 1 ≤ j → j ≤ 11 + 6 * y + 4 → S' j i = S j i) : CcR y S' (cs ++ more) i c := by
  obtain ⟨a1, a2, a3, a4, a5, a6⟩ := h
  refine ⟨a1, by rw [ho _ (by omega) (by omega)]; exact a2, a3, by rw [ho _ (by omega) (by omega)]; exact a4, a5, fun hw => ?_⟩
  obtain ⟨fr, b1, b2, b3, b4, b5⟩ := a6 hw
  refine ⟨fr, by rw [ho _ (by omega) (by omega)]; exact b1, by rw [ho _ (by omega) (by omega)]; exact b2, by rw [List.length_append]; omega, fun j t ht => ?_, b5⟩
  have hj := (List.getElem?_eq_some_iff.mp ht).1
  rw [List.getElem?_append_left (by omega)]
  exact b4 j t ht
theorem GsR.pf {y : Nat} {S S' : SS} {cls : List CLS} {cs : List TK} (h : GsR y S cls cs) (more : List TK) (hF : PrF y S S') : GsR y S' cls (cs ++ more) := by
  obtain ⟨a1, a2, a3, a4, a5, a6⟩ := h
  exact ⟨by rw [hF.2 7 (by decide) (by decide)]; exact a1, a2, fun i c hc => (a3 i c hc).mono more (fun j b1 b2 => by rw [hF.1 j (by omega) (by omega)]), by rw [hF.2 10 (by decide) (by decide)]; exact a4, by rw [hF.2 11 (by decide) (by decide)]; exact a5, by rw [hF.2 12 (by decide) (by decide)]; exact a6⟩
theorem GsR.pf0 {y : Nat} {S S' : SS} {cls : List CLS} {cs : List TK} (h : GsR y S cls cs) (hF : PrF y S S') : GsR y S' cls cs := by
  have := h.pf [] hF
  rw [List.append_nil] at this
  exact this
def adS (S : SS) (y k : Nat) (w n fr z : Int32) : SS := upS (upS (upS (upS (upS S (11 + 6 * y + 1) k w) (11 + 6 * y + 2) k n) (11 + 6 * y + 3) k fr) (11 + 6 * y + 4) k z) (11 + 6 * y) 7 (nI (k + 1))
theorem GsR.add {y : Nat} {S S' : SS} {cls : List CLS} {cs toks : List TK} {w n fr : Nat} (h : GsR y S cls cs) (hl : cls.length < 10) (hw : w < 5) (hn : n < 100) (hfr : fr + toks.length = cs.length) (ht : w < 2 → (∀ j t, toks[j]? = some t → cs[fr + j]? = some t) ∧ wfT toks 0)
    (h1 : ∀ j, 11 + 6 * y + 1 ≤ j → j ≤ 11 + 6 * y + 4 → S' j = adS S y cls.length (nI w) (nI n) (nI fr) (nI cs.length) j) (h7 : S' (11 + 6 * y) 7 = nI (cls.length + 1))
    (h10 : S' (11 + 6 * y) 10 = if w = 2 then nI (if n < 1 then 1 else n) else S (11 + 6 * y) 10) (h11 : S' (11 + 6 * y) 11 = if w = 3 then nI n else S (11 + 6 * y) 11) (h12 : S' (11 + 6 * y) 12 = if w = 4 then nI n else S (11 + 6 * y) 12) : GsR y S' (cls ++ [(w, n, toks)]) cs := by
  obtain ⟨a1, a2, a3, a4, a5, a6⟩ := h
  have f1 : S' (11 + 6 * y + 1) = upd (S (11 + 6 * y + 1)) cls.length (nI w) := by rw [h1 _ (by omega) (by omega)]; unfold adS; simp (disch := omega) only [upS_off, upS_row]
  have f2 : S' (11 + 6 * y + 2) = upd (S (11 + 6 * y + 2)) cls.length (nI n) := by rw [h1 _ (by omega) (by omega)]; unfold adS; simp (disch := omega) only [upS_off, upS_row]
  have f3 : S' (11 + 6 * y + 3) = upd (S (11 + 6 * y + 3)) cls.length (nI fr) := by rw [h1 _ (by omega) (by omega)]; unfold adS; simp (disch := omega) only [upS_off, upS_row]
  have f4 : S' (11 + 6 * y + 4) = upd (S (11 + 6 * y + 4)) cls.length (nI cs.length) := by rw [h1 _ (by omega) (by omega)]; unfold adS; simp (disch := omega) only [upS_off, upS_row]
  refine ⟨by rw [h7, List.length_append]; rfl, by rw [List.length_append]; exact hl, fun i c hc => ?_, ?_, ?_, ?_⟩
  · rcases get_push hc with ⟨g1, g2⟩ | ⟨g1, g2⟩
    · have := (a3 i c g2).mono [] (S' := S') (fun j b1 b2 => by
        rcases (show j = 11 + 6 * y + 1 ∨ j = 11 + 6 * y + 2 ∨ j = 11 + 6 * y + 3 ∨ j = 11 + 6 * y + 4 by omega) with rfl | rfl | rfl | rfl
        · rw [f1, pk_un (by omega)]
        · rw [f2, pk_un (by omega)]
        · rw [f3, pk_un (by omega)]
        · rw [f4, pk_un (by omega)])
      rw [List.append_nil] at this
      exact this
    · subst g1; subst g2
      refine ⟨hl, by rw [f1, pk_us], hw, by rw [f2, pk_us], hn, fun q => ?_⟩
      exact ⟨fr, by rw [f3, pk_us], by rw [f4, pk_us]; show _ = nI (fr + toks.length); rw [hfr], by show fr + toks.length ≤ _; omega, (ht q).1, (ht q).2⟩
  · rw [h10]
    unfold farN
    rw [lastP_app]
    by_cases e : w = 2
    · rw [if_pos e, if_pos e]
    · rw [if_neg e, if_neg e]; exact a4
  · rw [h11, lastP_app]
    by_cases e : w = 3
    · rw [if_pos e, if_pos e]
    · rw [if_neg e, if_neg e]; exact a5
  · rw [h12, lastP_app]
    by_cases e : w = 4
    · rw [if_pos e, if_pos e]
    · rw [if_neg e, if_neg e]; exact a6
theorem GsR.yd {y p : Nat} {T : List Nat} {S : SS} {cls : List CLS} {cs : List TK} (h : GsR y S cls cs) (hP : PrR y T S p cs) : YdR y S (nI (farN cls), nI (lastP 3 cls 3), nI (lastP 4 cls 9), cls) := by
  obtain ⟨a1, a2, a3, a4, a5, a6⟩ := h
  obtain ⟨k1, k2, k3, k4, k5, k6, k7, k8, k9⟩ := hP
  refine ⟨a1, a2, fun i c hc => ?_, a4, a5, a6⟩
  obtain ⟨b1, b2, b3, b4, b5, b6⟩ := a3 i c hc
  refine ⟨b1, b2, b3, b4, b5, fun hw => ?_⟩
  obtain ⟨fr, c1, c2, c3, c4, c5⟩ := b6 hw
  exact ⟨fr, c1, c2, by omega, fun j t ht => k7 _ _ (c4 j t ht), c5⟩

set_option maxRecDepth 20000 in
set_option maxHeartbeats 1000000 in
theorem c_wordOf (g : GG) {sh : List CS} (w : Nat) (S : SS) (L : LL) (hw : w < 5) : Cr g 0 mX10_wordOf [.int (nI w)] sh S L (fun r S' L' => r = 100000 + (w + 1) ∧ S' = S ∧ L' = L) := by
  refine ct_of (ls := [some (.int (nI w))]) 0 (by decide +kernel) rfl rfl ?_
  refine rx_iload_n dX10_wordOf_0 rfl ?_
  rcases (show w = 0 ∨ w = 1 ∨ w = 2 ∨ w = 3 ∨ w = 4 by omega) with rfl | rfl | rfl | rfl | rfl
  · refine rx_tableIn 32 dX10_wordOf_1 (by decide) (by decide) (by rfl) (by decide) ?_
    refine rx_ldcS (i := 1) (tx := "wobble") dX10_wordOf_32 (by decide +kernel) ?_
    exact rx_aret dX10_wordOf_34 rfl (Or.inl ⟨_, rfl⟩) ⟨Nat.le_refl _, Nat.le_refl _⟩ ⟨rfl, _, rfl, ⟨rfl, rfl, rfl⟩⟩
  · refine rx_tableIn 35 dX10_wordOf_1 (by decide) (by decide) (by rfl) (by decide) ?_
    refine rx_ldcS (i := 2) (tx := "still") dX10_wordOf_35 (by decide +kernel) ?_
    exact rx_aret dX10_wordOf_37 rfl (Or.inl ⟨_, rfl⟩) ⟨Nat.le_refl _, Nat.le_refl _⟩ ⟨rfl, _, rfl, ⟨rfl, rfl, rfl⟩⟩
  · refine rx_tableIn 38 dX10_wordOf_1 (by decide) (by decide) (by rfl) (by decide) ?_
    refine rx_ldcS (i := 3) (tx := "far") dX10_wordOf_38 (by decide +kernel) ?_
    exact rx_aret dX10_wordOf_40 rfl (Or.inl ⟨_, rfl⟩) ⟨Nat.le_refl _, Nat.le_refl _⟩ ⟨rfl, _, rfl, ⟨rfl, rfl, rfl⟩⟩
  · refine rx_tableIn 41 dX10_wordOf_1 (by decide) (by decide) (by rfl) (by decide) ?_
    refine rx_ldcS (i := 4) (tx := "sharp") dX10_wordOf_41 (by decide +kernel) ?_
    exact rx_aret dX10_wordOf_43 rfl (Or.inl ⟨_, rfl⟩) ⟨Nat.le_refl _, Nat.le_refl _⟩ ⟨rfl, _, rfl, ⟨rfl, rfl, rfl⟩⟩
  · refine rx_tableOut 44 dX10_wordOf_1 (Or.inr (by decide)) (by decide) ?_
    refine rx_ldcS (i := 5) (tx := "sees") dX10_wordOf_44 (by decide +kernel) ?_
    exact rx_aret dX10_wordOf_46 rfl (Or.inl ⟨_, rfl⟩) ⟨Nat.le_refl _, Nat.le_refl _⟩ ⟨rfl, _, rfl, ⟨rfl, rfl, rfl⟩⟩
set_option maxRecDepth 20000 in
set_option maxHeartbeats 400000 in
theorem c_sameAs (g : GG) {y : Nat} (hy : y < 7) (T : List Nat) (p : Nat) (cs : List TK) (w : Nat) (S : SS) (L : LL) (hP : PrR y T S p cs) (hw : w < 5) : Ci g 4 mX10_sameAs [.ref (11 + 6 * y), .ref (100000 + (w + 1))] SHC S L (fun r S' L' => r = nI (cpre T p (wB w)) ∧ S' = S ∧ L' = L) := by
  obtain ⟨k1, k2, k3, k4, k5, k6, k7, k8, k9⟩ := id hP
  refine ct_of (ls := [some (.ref (11 + 6 * y)), some (.ref (100000 + (w + 1))), none]) 1 (by decide +kernel) rfl rfl ?_
  refine rx_iconst (0) dX10_sameAs_0 (by decide) ?_
  refine rx_istore_2 rfl dX10_sameAs_1 ?_
  obtain ⟨v1, v2, v3, v4⟩ := wB_ok w hw
  have loop : ∀ (r i : Nat), i + r = (wB w).length → i + cpre T (p + i) ((wB w).drop i) = cpre T p (wB w) → Rx g 4 0 0 mX10_sameAs SHC.length (fun r sh' S' L' => sh' = SHC ∧ ∃ x, r = some (.int x) ∧ (x = nI (cpre T p (wB w)) ∧ S' = S ∧ L' = L)) 0 0 2 [some (.ref (11 + 6 * y)), some (.ref (100000 + (w + 1))), some (.int (nI i))] [] SHC S L := by
    intro r
    induction r with
    | zero =>
      intro i he hev
      refine rx_iload_n dX10_sameAs_2 rfl ?_
      refine rx_aload_n dX10_sameAs_3 rfl ?_
      refine rx_cVi_0 clX10_91 dX10_sameAs_4 (Or.inr ⟨Nat.le_add_right _ _, by omega, rfl⟩) rfl (c_strLen g (i := w + 1) (by omega) S L) ?_
      refine pur3 ?_
      refine rx_icmp_ge 36 dX10_sameAs_7 (by decide) (fun h7 => ?_) (fun h7 => absurd (nI_le (by omega) (by omega)) h7)
      refine rx_aload_n dX10_sameAs_36 rfl ?_
      refine rx_cVi_0 clX10_91 dX10_sameAs_37 (Or.inr ⟨Nat.le_add_right _ _, by omega, rfl⟩) rfl (c_strLen g (i := w + 1) (by omega) S L) ?_
      refine pur3 ?_
      exact rx_iret dX10_sameAs_40 rfl ⟨Nat.le_refl _, Nat.le_refl _⟩ ⟨rfl, _, rfl, ⟨by rw [← hev, List.drop_of_length_le (by omega)]; show _ = nI (i + 0); congr 1; omega, rfl, rfl⟩⟩
    | succ r ih =>
      intro i he hev
      have hdr : (wB w).drop i = (strByt.getD (w + 1) []).getD i 0 :: (wB w).drop (i + 1) := by
        have hl : i < (wB w).length := by omega
        rw [List.drop_eq_getElem_cons hl]
        show _ = (wB w).getD i 0 :: _
        rw [List.getD_eq_getElem?_getD (l := wB w) (i := i), List.getElem?_eq_getElem hl]
        rfl
      refine rx_iload_n dX10_sameAs_2 rfl ?_
      refine rx_aload_n dX10_sameAs_3 rfl ?_
      refine rx_cVi_0 clX10_91 dX10_sameAs_4 (Or.inr ⟨Nat.le_add_right _ _, by omega, rfl⟩) rfl (c_strLen g (i := w + 1) (by omega) S L) ?_
      refine pur3 ?_
      refine rx_icmp_ge 36 dX10_sameAs_7 (by decide) (fun h7 => absurd h7 (nI_ge (by omega) (by omega))) (fun h7 => ?_)
      refine rx_aload_n dX10_sameAs_10 rfl ?_
      refine rx_aload_n dX10_sameAs_11 rfl ?_
      refine rx_getI dX10_sameAs_12 flX10_44 (syO hy) rfl ?_
      rw [k4]
      refine rx_iload_n dX10_sameAs_15 rfl ?_
      refine rx_iadd dX10_sameAs_16 ?_
      rw [nI_add]
      refine rx_cVi_1 clX10_102 dX10_sameAs_17 (rcvo (syO hy) rfl) rfl (c_signAt g hy T (p + i) S L (by omega) k1 k2 k3) ?_
      refine pur3 ?_
      refine rx_aload_n dX10_sameAs_20 rfl ?_
      refine rx_iload_n dX10_sameAs_21 rfl ?_
      refine rx_cVi_1 clX10_106 dX10_sameAs_22 (Or.inr ⟨Nat.le_add_right _ _, by omega, rfl⟩) rfl (c_charAt g (i := w + 1) (by omega) i S L (by omega)) ?_
      refine pur3 ?_
      refine rx_icmp_eq 30 dX10_sameAs_25 (by decide) (fun h25 => ?_) (fun h25 => ?_)
      · refine rx_iinc_2 (1) rfl dX10_sameAs_30 (by decide) ?_
        refine rx_goto 2 dX10_sameAs_33 (by decide) ?_
        rw [nI_1]
        exact ih (i + 1) (by omega) (by rw [← hev, hdr]; show _ = i + if _ then _ else _; rw [if_pos h25, show p + i + 1 = p + (i + 1) from by omega]; omega)
      · refine rx_iload_n dX10_sameAs_28 rfl ?_
        exact rx_iret dX10_sameAs_29 rfl ⟨Nat.le_refl _, Nat.le_refl _⟩ ⟨rfl, _, rfl, ⟨by rw [← hev, hdr]; show _ = nI (i + if _ then _ else _); rw [if_neg h25, Nat.add_zero], rfl, rfl⟩⟩
  exact loop (wB w).length 0 (by omega) (by rw [Nat.zero_add]; rfl)
set_option maxRecDepth 20000 in
set_option maxHeartbeats 400000 in
theorem c_readWord (g : GG) {y : Nat} (hy : y < 7) (T : List Nat) (p : Nat) (cs : List TK) (S : SS) (L : LL) (hP : PrR y T S p cs) : Ci g 5 mX10_readWord [.ref (11 + 6 * y)] SHC S L (fun x S' L' => ((0 ≤ x → ∃ w, w < 5 ∧ x = nI w ∧ wdQ T p = (some w, (wB w).length) ∧ PrR y T S' (p + (wB w).length) cs) ∧ (¬ 0 ≤ x → ∃ q, wdQ T p = (none, q) ∧ S' (11 + 6 * y) 2 = nI (p + q)) ∧ PrF y S S') ∧ L' = L) := by
  obtain ⟨k1, k2, k3, k4, k5, k6, k7, k8, k9⟩ := id hP
  refine ct_of (ls := [some (.ref (11 + 6 * y)), none, none, none, none]) 4 (by decide +kernel) rfl rfl ?_
  refine rx_iconst (0) dX10_readWord_0 (by decide) ?_
  refine rx_istore_1 rfl dX10_readWord_1 ?_
  refine rx_iconst (0) dX10_readWord_2 (by decide) ?_
  refine rx_istore_2 rfl dX10_readWord_3 ?_
  have loop : ∀ (r w z : Nat), w + r = 5 → rwC (fun w => cpre T p (wB w)) (fun w => (wB w).length) r w z = rwC (fun w => cpre T p (wB w)) (fun w => (wB w).length) 5 0 0 → z ≤ 6 → Rx g 5 0 0 mX10_readWord SHC.length (fun r sh' S' L' => sh' = SHC ∧ ∃ x, r = some (.int x) ∧ (((0 ≤ x → ∃ w, w < 5 ∧ x = nI w ∧ wdQ T p = (some w, (wB w).length) ∧ PrR y T S' (p + (wB w).length) cs) ∧ (¬ 0 ≤ x → ∃ q, wdQ T p = (none, q) ∧ S' (11 + 6 * y) 2 = nI (p + q)) ∧ PrF y S S') ∧ L' = L)) 0 0 4 [some (.ref (11 + 6 * y)), some (.int (nI z)), some (.int (nI w)), none, none] [] SHC S L := by
    intro r
    induction r with
    | zero =>
      intro w z he hev hz
      refine rx_iload_n dX10_readWord_4 rfl ?_
      refine rx_iconst (5) dX10_readWord_5 (by decide) ?_
      refine rx_icmp_ge 56 dX10_readWord_6 (by decide) (fun h6 => ?_) (fun h6 => absurd (nI_le (a := 5) (b := w) (by omega) (by omega)) h6)
      refine rx_aload_n dX10_readWord_56 rfl ?_
      refine rx_dup dX10_readWord_57 rfl ?_
      refine rx_getI dX10_readWord_58 flX10_44 (syO hy) rfl ?_
      rw [k4]
      refine rx_iload_n dX10_readWord_61 rfl ?_
      refine rx_iadd dX10_readWord_62 ?_
      rw [nI_add]
      refine rx_putI dX10_readWord_63 flX10_44 (syO hy) rfl ?_
      refine rx_iconst (-1) dX10_readWord_66 (by decide) ?_
      exact rx_iret dX10_readWord_67 rfl ⟨Nat.le_refl _, Nat.le_refl _⟩ ⟨rfl, _, rfl, ⟨⟨fun q => absurd q (by decide), fun _ => ⟨z, by rw [← rw_wd, ← hev]; rfl, upS_at _ _ _ _⟩, PrF.put⟩, rfl⟩⟩
    | succ r ih =>
      intro w z he hev hz
      refine rx_iload_n dX10_readWord_4 rfl ?_
      refine rx_iconst (5) dX10_readWord_5 (by decide) ?_
      refine rx_icmp_ge 56 dX10_readWord_6 (by decide) (fun h6 => absurd h6 (nI_ge (a := w) (b := 5) (by omega) (by omega))) (fun h6 => ?_)
      refine rx_iload_n dX10_readWord_9 rfl ?_
      refine rx_cSr_1 clX10_83 dX10_readWord_10 rfl (c_wordOf g w S L (by omega)) ?_
      refine pur3 ?_
      refine rx_astore_3 rfl dX10_readWord_13 ?_
      refine rx_aload_n dX10_readWord_14 rfl ?_
      refine rx_aload_n dX10_readWord_15 rfl ?_
      refine rx_cVi_1 clX10_87 dX10_readWord_16 (rcvo (syO hy) rfl) rfl (c_sameAs g hy T p cs w S L hP (by omega)) ?_
      refine pur3 ?_
      refine rx_istore_4 rfl dX10_readWord_19 ?_
      refine rx_iload dX10_readWord_21 rfl ?_
      refine rx_aload_n dX10_readWord_23 rfl ?_
      refine rx_cVi_0 clX10_91 dX10_readWord_24 (Or.inr ⟨Nat.le_add_right _ _, by omega, rfl⟩) rfl (c_strLen g (i := w + 1) (by omega) S L) ?_
      refine pur3 ?_
      obtain ⟨v1, v2, v3, v4⟩ := wB_ok w (by omega)
      have hcl := cpre_len (T := T) (wB w) p
      have hct := cpre_le (T := T) (wB w) p v1 k5
      rw [← v2]
      refine rx_icmp_ne 43 dX10_readWord_27 (by decide) (fun h27 => ?_) (fun h27 => ?_)
      · have hnf : ¬ cpre T p (wB w) = (wB w).length := fun q => h27 (by rw [q])
        refine rx_iload_n dX10_readWord_43 rfl ?_
        refine rx_iload dX10_readWord_44 rfl ?_
        refine rx_max dX10_readWord_46 w_524 w_409 w_15 w_410 (by decide) ⟨Nat.le_refl _, Nat.le_refl _⟩ (Nat.le_of_ble_eq_true rfl) ?_
        rw [nI_max (by omega) (by omega)]
        refine rx_istore_1 rfl dX10_readWord_49 ?_
        refine rx_iinc_2 (1) rfl dX10_readWord_50 (by decide) ?_
        refine rx_goto 4 dX10_readWord_53 (by decide) ?_
        refine rx_wk [some (.ref (11 + 6 * y)), some (.int _), some (.int _), none, none] ⟨Or.inr rfl, Or.inr rfl, Or.inr rfl, Or.inl rfl, Or.inl rfl, trivial⟩ ?_
        rw [nI_1]
        exact ih (w + 1) (max z (cpre T p (wB w))) (by omega) (by rw [← hev]; exact (if_neg hnf).symm) (by omega)
      · have hfull : cpre T p (wB w) = (wB w).length := (nI_eq (by omega) (by omega)).mp h27
        refine rx_aload_n dX10_readWord_30 rfl ?_
        refine rx_dup dX10_readWord_31 rfl ?_
        refine rx_getI dX10_readWord_32 flX10_44 (syO hy) rfl ?_
        rw [k4]
        refine rx_iload dX10_readWord_35 rfl ?_
        refine rx_iadd dX10_readWord_37 ?_
        rw [nI_add, hfull]
        refine rx_putI dX10_readWord_38 flX10_44 (syO hy) rfl ?_
        refine rx_iload_n dX10_readWord_41 rfl ?_
        exact rx_iret dX10_readWord_42 rfl ⟨Nat.le_refl _, Nat.le_refl _⟩ ⟨rfl, _, rfl, ⟨⟨fun _ => ⟨w, by omega, rfl, by rw [← rw_wd, ← hev]; exact if_pos hfull, hP.put (by omega) (by omega) hy⟩, fun q => absurd (nI_pos' (by omega)) q, PrF.put⟩, rfl⟩⟩
  exact loop 5 0 0 (by omega) rfl (by omega)
