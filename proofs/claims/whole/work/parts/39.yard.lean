-- CLAUSES, THE YARD
theorem PrR.off {y p : Nat} {T : List Nat} {S S' : SS} {cs : List TK} (h : PrR y T S p cs) (hY : ∀ k, k = 1 ∨ k = 2 ∨ k = 9 → S' (11 + 6 * y) k = S (11 + 6 * y) k) (h5 : S' (11 + 6 * y + 5) = S (11 + 6 * y + 5)) (h9 : S' 9 = S 9) : PrR y T S' p cs := by
  obtain ⟨k1, k2, k3, k4, k5, k6, k7, k8, k9⟩ := h
  exact ⟨by rw [hY 1 (Or.inl rfl)]; exact k1, fun i q hq => by rw [h9]; exact k2 i q hq, k3, by rw [hY 2 (Or.inr (Or.inl rfl))]; exact k4, k5, by rw [hY 9 (Or.inr (Or.inr rfl))]; exact k6, fun j t ht => by rw [h5]; exact k7 j t ht, k8, k9⟩
theorem adS_Y {S : SS} {y k : Nat} {w n fr z : Int32} {q : Nat} (hq : q ≠ 7) : adS S y k w n fr z (11 + 6 * y) q = S (11 + 6 * y) q := by unfold adS; rw [upS_row, pk_un hq]; simp (disch := omega) only [upS_off]
theorem adS_7 {S : SS} {y k : Nat} {w n fr z : Int32} : adS S y k w n fr z (11 + 6 * y) 7 = nI (k + 1) := by unfold adS; rw [upS_at]
theorem adS_off {S : SS} {y k : Nat} {w n fr z : Int32} {j : Nat} (h : ¬ (11 + 6 * y ≤ j ∧ j ≤ 11 + 6 * y + 4)) : adS S y k w n fr z j = S j := by unfold adS; simp (disch := omega) only [upS_off]
theorem numP_le {T : List Nat} {p n q : Nat} (h : numP T p = some (n, q)) : q ≤ T.length ∧ p < q := by
  have hd : ∀ p, digI (chr T p) → p < T.length := fun p hp => Nat.lt_of_not_le fun w => by rw [chr_ge w] at hp; exact absurd hp (by decide)
  unfold numP at h
  by_cases h1 : digI (chr T p)
  · rw [if_pos h1] at h
    by_cases h2 : digI (chr T (p + 1))
    · rw [if_pos h2] at h
      cases h
      exact ⟨hd _ h2, by omega⟩
    · rw [if_neg h2] at h
      cases h
      exact ⟨hd _ h1, by omega⟩
  · rw [if_neg h1] at h; cases h
theorem tstQ_le {T : List Nat} {p : Nat} (hp : p ≤ T.length) : (tstQ T p).2 ≤ T.length + 2 ∧ ∀ t q, tstQ T p = (some t, q) → q ≤ T.length := by
  unfold tstQ
  by_cases h1 : letN (chr T p) = 6
  · rw [if_pos h1]; exact ⟨by show p ≤ _; omega, fun t q e => by cases e⟩
  · rw [if_neg h1]
    by_cases h2 : sgnN (chr T (p + 1)) = 3
    · rw [if_pos h2]; exact ⟨by show p + 1 ≤ _; omega, fun t q e => by cases e⟩
    · rw [if_neg h2]
      cases h3 : numP T (p + 2) with
      | none => exact ⟨by show p + 2 ≤ _; omega, fun t q e => by cases e⟩
      | some z =>
        have := numP_le (n := z.1) (q := z.2) h3
        exact ⟨by show z.2 ≤ _; omega, fun t q e => by cases e; exact this.1⟩
theorem mRun_q {T : List Nat} : ∀ (f p : Nat) (w : List Int32) (k : Nat) (b : Bool) (cs : List TK), p ≤ T.length → (mRun T f p w k b cs).2.1 ≤ T.length + 2
  | 0, p, w, k, b, cs, hp => by show p ≤ _; omega
  | f + 1, p, w, k, true, cs, hp => by
    unfold mRun
    by_cases h1 : chr T p = 33 ∨ chr T p = 40
    · rw [if_pos h1]
      by_cases h2 : k = 4
      · rw [if_pos h2]; show p ≤ _; omega
      · rw [if_neg h2]
        exact mRun_q f _ _ _ _ _ (h1.elim (fun q => chr_in q (by decide)) (fun q => chr_in q (by decide)))
    · rw [if_neg h1]
      obtain ⟨g1, g2⟩ := tstQ_le hp
      cases h2 : tstQ T p with
      | mk a q =>
        rw [h2] at g1 g2
        cases a with
        | none => exact g1
        | some t => exact mRun_q f _ _ _ _ _ (g2 t q rfl)
  | f + 1, p, w, k, false, cs, hp => by
    unfold mRun
    by_cases h1 : chr T p = 38 ∨ chr T p = 124
    · rw [if_pos h1]
      exact mRun_q f _ _ _ _ _ (h1.elim (fun q => chr_in q (by decide)) (fun q => chr_in q (by decide)))
    · rw [if_neg h1]
      cases h2 : (setl 124 w).2 with
      | nil => show p ≤ _; omega
      | cons a r =>
        show (if chr T p = 41 then _ else _ : Bool × Nat × List TK).2.1 ≤ _
        by_cases h3 : chr T p = 41
        · rw [if_pos h3]
          exact mRun_q f _ _ _ _ _ (chr_in h3 (by decide))
        · rw [if_neg h3]; show p ≤ _; omega
theorem wdQ_le {T : List Nat} {p : Nat} (hp : p ≤ T.length) : p + (wdQ T p).2 ≤ T.length := by
  have hc := cpre_le (T := T) (wB (wdM T p)) p (wB_ok _ (wdM_lt T p)).1 hp
  unfold wdQ
  by_cases h : cpre T p (wB (wdM T p)) = (wB (wdM T p)).length
  · rw [if_pos h]; show p + _ ≤ _; omega
  · rw [if_neg h]; exact hc
theorem clQ_q {T : List Nat} {p : Nat} (hp : p ≤ T.length) : (clQ T p).2 ≤ T.length + 3 := by
  have h0 := wdQ_le (T := T) hp
  unfold clQ
  cases h1 : wdQ T p with
  | mk a d =>
    rw [h1] at h0
    have h0 : p + d ≤ T.length := h0
    cases a with
    | none => show p + d ≤ _; omega
    | some w =>
      show (if chr T (p + d) = 32 then _ else _ : Option CLS × Nat).2 ≤ _
      by_cases h2 : chr T (p + d) = 32
      · rw [if_pos h2]
        cases h3 : numP T (p + d + 1) with
        | none => show p + d + 1 ≤ _; omega
        | some z =>
          have h4 := numP_le (n := z.1) (q := z.2) h3
          show (if w < 2 then _ else _ : Option CLS × Nat).2 ≤ _
          by_cases h5 : w < 2
          · rw [if_pos h5]
            by_cases h6 : chr T z.2 = 32
            · rw [if_pos h6]
              have h7 := mRun_q (T := T) (T.length + 1 - (z.2 + 1)) (z.2 + 1) [] 0 true [] (chr_in h6 (by decide))
              have e7 : mRun T (T.length + 1 - (z.2 + 1)) (z.2 + 1) [] 0 true [] = eP T (z.2 + 1) := rfl
              rw [e7] at h7
              cases h8 : eP T (z.2 + 1) with
              | mk b v =>
                rw [h8] at h7
                have h7 : v.1 ≤ T.length + 2 := h7
                cases b with
                | false => show v.1 ≤ _; omega
                | true => show v.1 ≤ _; omega
            · rw [if_neg h6]; show z.2 ≤ _; omega
          · rw [if_neg h5]; show z.2 ≤ _; omega
      · rw [if_neg h2]; show p + d ≤ _; omega
theorem YdR.off2 {y : Nat} {S S' : SS} {yd : YD} (h : YdR y S yd) (ho : ∀ j, 11 + 6 * y ≤ j → j ≤ 11 + 6 * y + 5 → S' j = S j) : YdR y S' yd := by
  obtain ⟨h1, h2, h3, h4, h5, h6⟩ := h
  refine ⟨by rw [ho _ (by omega) (by omega)]; exact h1, h2, fun i c hc => ?_, by rw [ho _ (by omega) (by omega)]; exact h4, by rw [ho _ (by omega) (by omega)]; exact h5, by rw [ho _ (by omega) (by omega)]; exact h6⟩
  have := h3 i c hc
  unfold ClR at this ⊢
  rw [ho (11 + 6 * y + 1) (by omega) (by omega), ho (11 + 6 * y + 2) (by omega) (by omega), ho (11 + 6 * y + 3) (by omega) (by omega), ho (11 + 6 * y + 4) (by omega) (by omega), ho (11 + 6 * y + 5) (by omega) (by omega)]
  exact this
/-- a scene where only a yard that it doesn't hold has changed, and perhaps which yard it holds -/
theorem ScN.yard {b y : Nat} {S S' : SS} {s s' : SCN} {yd yd' : Nat → YD} (h : ScN b S s yd) (hb : 53 ≤ b) (ho : ∀ j, b < j → j ≤ b + 12 → S' j = S j) (hk : ∀ k, k ≠ 10 → S' b k = S b k) (hy : y < 7) (h10 : S' b 10 = nI y) (hY : YdR y S' (yd' y)) (e : s' = (s.1, s.2.1, s.2.2.1, s.2.2.2.1, s.2.2.2.2.1, s.2.2.2.2.2.1, sD s, y, sSn s, sBk s)) : ScN b S' s' yd' := by
  obtain ⟨⟨a1, a2, a3, a4, a5, a6, a7, a8, a9, a10, a11, a12⟩, b2, ⟨b3, b4⟩, ⟨b5, b6⟩⟩ := h
  subst e
  refine ⟨⟨by rw [hk 6 (by decide)]; exact a1, fun c hc => ?_, fun c hc => ?_, fun c hc => ?_, fun c hc => ?_, fun c hc => ?_, ⟨y, hy, h10, hY⟩, fun c hc => ?_, by rw [hk 7 (by decide)]; exact a9, by rw [hk 9 (by decide)]; exact a10, a11, fun c hc => ?_⟩, h10, ⟨by rw [hk 14 (by decide)]; exact b3, fun i q hq => ?_⟩, ⟨by rw [hk 17 (by decide)]; exact b5, fun i q hq => ?_⟩⟩
  · rw [ho _ (by omega) (by omega)]; exact a2 c hc
  · rw [ho _ (by omega) (by omega)]; exact a3 c hc
  · rw [ho _ (by omega) (by omega)]; exact a4 c hc
  · rw [ho _ (by omega) (by omega)]; exact a5 c hc
  · rw [ho _ (by omega) (by omega)]; exact a6 c hc
  · rw [ho _ (by omega) (by omega)]; exact a8 c hc
  · rw [ho _ (by omega) (by omega)]; exact a12 c hc
  · rw [ho (b + 8) (by omega) (by omega), ho (b + 9) (by omega) (by omega), ho (b + 10) (by omega) (by omega)]; exact b4 i q hq
  · rw [ho (b + 11) (by omega) (by omega), ho (b + 12) (by omega) (by omega)]; exact b6 i q hq
theorem ScN.y {b : Nat} {S : SS} {s : SCN} {yd : Nat → YD} (h : ScN b S s yd) (hs : sY s < 7) : YdR (sY s) S (yd (sY s)) := by
  obtain ⟨y, hy, e, hY⟩ := h.1.2.2.2.2.2.2.1
  have : y = sY s := (nI_eq (by omega) (by omega)).mp (e.symm.trans h.2.1)
  rw [this] at hY
  exact hY
def yQd (cls : List CLS) : YD := (nI (farN cls), nI (lastP 3 cls 3), nI (lastP 4 cls 9), cls)
def wTx (σ : SIG) (T : List Nat) : SIG := (σ.1, σ.2.1, σ.2.2.1, σ.2.2.2.1, σ.2.2.2.2.1, T, σ.2.2.2.2.2.2)
def wYd (σ : SIG) (yd : YD) : SIG := (((gN σ).1, (gN σ).2.1, (gN σ).2.2.1, (gN σ).2.2.2.1, (gN σ).2.2.2.2.1, (gN σ).2.2.2.2.2.1, gD σ, gC σ + 1, sSn (gN σ), sBk (gN σ)), gH σ, gI σ, gC σ + 1, fun q => if q = gC σ + 1 then yd else gY σ q, [], σ.2.2.2.2.2.2)
def aYard (σ : SIG) : Int32 := if gC σ < 6 then (match yrQ (gT σ) with
  | (none, q) => -10 - nI q
  | (some _, _) => nI (gC σ)) else -4
def nYard (σ : SIG) : SIG := if gC σ < 6 then (match yrQ (gT σ) with
  | (none, _) => wTx σ []
  | (some cls, _) => wYd σ (yQd cls)) else σ
theorem lastP_le {w : Nat} : ∀ (l : List CLS) (z : Nat), (∀ c ∈ l, c.2.1 < 100) → z ≤ 99 → lastP w l z ≤ 99
  | [], z, _, hz => hz
  | c :: l, z, h, hz => by
    refine lastP_le l _ (fun d hd => h d (List.mem_cons_of_mem _ hd)) ?_
    have := h c List.mem_cons_self
    by_cases e : c.1 = w
    · rw [if_pos e]; omega
    · rw [if_neg e]; exact hz
theorem CRel.yardNo {S S' : SS} {L : LL} {σ : SIG} (h : CRel S L σ) (h6 : gC σ < 6) (hF : YF (gC σ + 1) S S') : CRel (upS S' 0 2 0) L (wTx σ []) := by
  obtain ⟨⟨k0, k1, k2, k3, k4, k5, k6, k7, k8, k9⟩, h1, h2, h3, h4, h5, hz6, h7, h8, h9, h10⟩ := h
  have ho : ∀ j, j ≠ 0 → ¬ (11 + 6 * (gC σ + 1) ≤ j ∧ j ≤ 11 + 6 * (gC σ + 1) + 5) → upS S' 0 2 0 j = S j := fun j a b => by rw [upS_off _ _ _ _ a]; exact hF j b
  have o0 : ∀ k, k ≠ 2 → upS S' 0 2 0 0 k = S 0 k := fun k a => by rw [upS_row, pk_un a, hF 0 (by omega)]
  have hY : ∀ y, y ≤ gC σ → YdR y (upS S' 0 2 0) (gY σ y) := fun y hy => (h5 y hy).off2 (fun j a b => ho j (by omega) (by omega))
  exact ⟨⟨k0, k1, k2, k3, k4, k5, Nat.zero_le _, fun q hq => absurd hq List.not_mem_nil, k8, k9⟩, h1.yard (by decide) (fun j a b => ho j (by omega) (by omega)) (fun k _ => by rw [ho 53 (by omega) (by omega)]) (show sY (gN σ) < 7 by omega) (by rw [ho 53 (by omega) (by omega)]; exact h1.2.1) (hY _ k3) rfl, fun e => (h2 e).yard (by decide) (fun j a b => ho j (by omega) (by omega)) (fun k _ => by rw [ho 79 (by omega) (by omega)]) (show sY (gI σ) < 7 by have := k4 e; omega) (by rw [ho 79 (by omega) (by omega)]; exact (h2 e).2.1) (hY _ (k4 e)) rfl, by rw [o0 8 (by decide)]; exact h3, by rw [o0 4 (by decide)]; exact h4, hY, upS_at _ _ _ _, fun i q hq => absurd hq (by show ¬ ([] : List Nat)[i]? = some q; simp), by rw [ho 97 (by omega) (by omega)]; exact h8, fun i g1 g2 => by rw [ho 98 (by omega) (by omega)]; exact h9 i g1 g2, fun t ht => by rw [ho 106 (by omega) (by omega), ho 107 (by omega) (by omega)]; exact h10 t ht⟩
theorem CRel.yardOK {S S' : SS} {L : LL} {σ : SIG} {cls : List CLS} (h : CRel S L σ) (h6 : gC σ < 6) (hF : YF (gC σ + 1) S S') (hY1 : YdR (gC σ + 1) S' (yQd cls)) : CRel (upS (upS (upS S' 0 2 0) 53 10 (nI (gC σ + 1))) 0 4 (nI (gC σ + 1))) L (wYd σ (yQd cls)) := by
  obtain ⟨⟨k0, k1, k2, k3, k4, k5, k6, k7, k8, k9⟩, h1, h2, h3, h4, h5, hz6, h7, h8, h9, h10⟩ := h
  generalize hS : upS (upS (upS S' 0 2 0) 53 10 (nI (gC σ + 1))) 0 4 (nI (gC σ + 1)) = S2
  have ho : ∀ j, j ≠ 0 → j ≠ 53 → ¬ (11 + 6 * (gC σ + 1) ≤ j ∧ j ≤ 11 + 6 * (gC σ + 1) + 5) → S2 j = S j := fun j a b c => by rw [← hS, upS_off _ _ _ _ a, upS_off _ _ _ _ b, upS_off _ _ _ _ a]; exact hF j c
  have o53 : ∀ k, k ≠ 10 → S2 53 k = S 53 k := fun k a => by rw [← hS, upS_off _ _ _ _ (by decide), upS_row, pk_un a, upS_off _ _ _ _ (by decide), hF 53 (by omega)]
  have o0 : ∀ k, k ≠ 2 → k ≠ 4 → S2 0 k = S 0 k := fun k a b => by rw [← hS, upS_row, pk_un b, upS_off _ _ _ _ (by decide), upS_row, pk_un a, hF 0 (by omega)]
  have hY2 : YdR (gC σ + 1) S2 (yQd cls) := hY1.off2 (fun j a b => by rw [← hS, upS_off _ _ _ _ (by omega), upS_off _ _ _ _ (by omega), upS_off _ _ _ _ (by omega)])
  have hY : ∀ y, y ≤ gC σ → YdR y S2 (gY σ y) := fun y hy => (h5 y hy).off2 (fun j a b => ho j (by omega) (by omega) (by omega))
  have hnew : (if gC σ + 1 = gC σ + 1 then yQd cls else gY σ (gC σ + 1)) = yQd cls := if_pos rfl
  have hold : ∀ q, q ≤ gC σ → (if q = gC σ + 1 then yQd cls else gY σ q) = gY σ q := fun q hq => if_neg (by omega)
  have hb : ∀ c ∈ cls, c.2.1 < 100 := fun c hc => by
    obtain ⟨i, hi⟩ := List.getElem?_of_mem hc
    exact (hY1.2.2.1 i c hi).2.2.2.2.1
  have l2 := lastP_le (w := 2) cls 40 hb (by omega)
  have l3 := lastP_le (w := 3) cls 3 hb (by omega)
  have l4 := lastP_le (w := 4) cls 9 hb (by omega)
  have lf : 1 ≤ farN cls ∧ farN cls ≤ 99 := by
    unfold farN
    by_cases e : lastP 2 cls 40 < 1
    · rw [if_pos e]; omega
    · rw [if_neg e]; omega
  have hI : ∀ e : gH σ = true, enOf (gI σ) (gY (wYd σ (yQd cls))) = enOf (gI σ) (gY σ) := fun e => by
    show (_, _, _, _, _, _, if sY (gI σ) = gC σ + 1 then yQd cls else gY σ (sY (gI σ))) = _
    rw [hold _ (k4 e)]
    rfl
  obtain ⟨⟨n1, n2, n3, n4, n5, n6, n7, n8, n9⟩, m2, m3, m4, m5, m6, m7⟩ := k0
  refine ⟨⟨⟨⟨n1, n2, n3, n4, n5, n6, ?_⟩, m2, m3, m4, m5, m6, m7⟩, fun e => ?_, by show gC σ + 1 ≤ 6; omega, Nat.le_refl _, fun e => Nat.le_succ_of_le (k4 e), ?_, Nat.zero_le _, fun q hq => absurd hq List.not_mem_nil, k8, k9⟩, ?_, fun e => ?_, by rw [o0 8 (by decide) (by decide)]; exact h3, ?_, fun y hy => ?_, ?_, fun i q hq => absurd hq (by show ¬ ([] : List Nat)[i]? = some q; simp), by rw [ho 97 (by omega) (by omega) (by omega)]; exact h8, fun i g1 g2 => by rw [ho 98 (by omega) (by omega) (by omega)]; exact h9 i g1 g2, fun t ht => by rw [ho 106 (by omega) (by omega) (by omega), ho 107 (by omega) (by omega) (by omega)]; exact h10 t ht⟩
  · show (∃ k, 1 ≤ k ∧ k ≤ 99 ∧ (if gC σ + 1 = gC σ + 1 then yQd cls else gY σ (gC σ + 1)).1 = nI k) ∧ (∃ k, k ≤ 99 ∧ (if gC σ + 1 = gC σ + 1 then yQd cls else gY σ (gC σ + 1)).2.1 = nI k) ∧ (∃ k, k ≤ 99 ∧ (if gC σ + 1 = gC σ + 1 then yQd cls else gY σ (gC σ + 1)).2.2.1 = nI k)
    rw [hnew]
    exact ⟨⟨_, lf.1, lf.2, rfl⟩, ⟨_, l3, rfl⟩, ⟨_, l4, rfl⟩⟩
  · obtain ⟨z1, z2⟩ := k1 e
    exact ⟨by rw [show gI (wYd σ (yQd cls)) = gI σ from rfl, hI e]; exact z1, z2⟩
  · exact (hold 0 (by omega)).trans k5
  · refine h1.yard (by decide) (fun j a b => ho j (by omega) (by omega) (by omega)) o53 (show gC σ + 1 < 7 by omega) (by rw [← hS, upS_off _ _ _ _ (by decide), upS_at]) ?_ rfl
    show YdR (gC σ + 1) S2 (if gC σ + 1 = gC σ + 1 then yQd cls else gY σ (gC σ + 1))
    rw [hnew]; exact hY2
  · refine (h2 e).yard (by decide) (fun j a b => ho j (by omega) (by omega) (by omega)) (fun k _ => by rw [ho 79 (by omega) (by omega) (by omega)]) (show sY (gI σ) < 7 by have := k4 e; omega) (by rw [ho 79 (by omega) (by omega) (by omega)]; exact (h2 e).2.1) ?_ rfl
    show YdR (sY (gI σ)) S2 (if sY (gI σ) = gC σ + 1 then yQd cls else gY σ (sY (gI σ)))
    rw [hold _ (k4 e)]; exact hY _ (k4 e)
  · rw [← hS, upS_at]; rfl
  · show YdR y S2 (if y = gC σ + 1 then yQd cls else gY σ y)
    by_cases e : y = gC σ + 1
    · rw [e, hnew]; exact hY2
    · have hy2 : y ≤ gC σ := by have : y ≤ gC σ + 1 := hy; omega
      rw [hold y hy2]; exact hY y hy2
  · rw [← hS, upS_row, pk_un (by decide), upS_off _ _ _ _ (by decide), upS_at]; rfl
theorem yEl {y : Nat} (h : y < 7) : ([(2, 11, 0), (2, 17, 0), (2, 23, 0), (2, 29, 0), (2, 35, 0), (2, 41, 0), (2, 47, 0)] : List (Nat × Nat × Nat))[y]? = some (2, 11 + 6 * y, 0) := by rcases y7 h with rfl | rfl | rfl | rfl | rfl | rfl | rfl <;> rfl

set_option maxRecDepth 20000 in
set_option maxHeartbeats 1000000 in
theorem c_addClause (g : GG) {y : Nat} (hy : y < 7) (T : List Nat) (p : Nat) (cs : List TK) (cls : List CLS) (w n fr : Nat) (toks : List TK) (S : SS) (L : LL) (hP : PrR y T S p cs) (hG : GsR y S cls cs) (hl : cls.length < 10) (hw : w < 5) (hn : n < 100) (hfr : fr + toks.length = cs.length) (ht : w < 2 → (∀ j t, toks[j]? = some t → cs[fr + j]? = some t) ∧ wfT toks 0) : Cv g 0 mX10_addClause [.ref (11 + 6 * y), .int (nI w), .int (nI n), .int (nI fr)] SHC S L (fun S' L' => (PrR y T S' p cs ∧ GsR y S' (cls ++ [(w, n, toks)]) cs ∧ YF y S S') ∧ L' = L) := by
  obtain ⟨k1, k2, k3, k4, k5, k6, k7, k8, k9⟩ := id hP
  have a1 := hG.1
  have hkc : (nI cls.length).toNatClampNeg = cls.length := nI_clamp (by omega)
  have hvk : vp_in (nI cls.length) 10 := vp_in_nI hl (by omega)
  refine ct_of (ls := [some (.ref (11 + 6 * y)), some (.int (nI w)), some (.int (nI n)), some (.int (nI fr))]) 0 (by decide +kernel) rfl rfl ?_
  refine rx_aload_n dX10_addClause_0 rfl ?_
  refine rx_getR dX10_addClause_1 flX10_11 (syO hy) rfl ?_
  refine rx_aload_n dX10_addClause_4 rfl ?_
  refine rx_getI dX10_addClause_5 flX10_47 (syO hy) rfl ?_
  rw [a1]
  refine rx_iload_n dX10_addClause_8 rfl ?_
  refine rx_iastore dX10_addClause_9 (syA1 hy) hvk ?_
  rw [hkc]
  refine rx_aload_n dX10_addClause_10 rfl ?_
  refine rx_getR dX10_addClause_11 flX10_15 (syO hy) rfl ?_
  refine rx_aload_n dX10_addClause_14 rfl ?_
  refine rx_getI dX10_addClause_15 flX10_47 (syO hy) rfl ?_
  simp (disch := omega) only [upS_off, a1]
  refine rx_iload_n dX10_addClause_18 rfl ?_
  refine rx_iastore dX10_addClause_19 (syA2 hy) hvk ?_
  rw [hkc]
  refine rx_aload_n dX10_addClause_20 rfl ?_
  refine rx_getR dX10_addClause_21 flX10_18 (syO hy) rfl ?_
  refine rx_aload_n dX10_addClause_24 rfl ?_
  refine rx_getI dX10_addClause_25 flX10_47 (syO hy) rfl ?_
  simp (disch := omega) only [upS_off, a1]
  refine rx_iload_n dX10_addClause_28 rfl ?_
  refine rx_iastore dX10_addClause_29 (syA3 hy) hvk ?_
  rw [hkc]
  refine rx_aload_n dX10_addClause_30 rfl ?_
  refine rx_getR dX10_addClause_31 flX10_21 (syO hy) rfl ?_
  refine rx_aload_n dX10_addClause_34 rfl ?_
  refine rx_getI dX10_addClause_35 flX10_47 (syO hy) rfl ?_
  simp (disch := omega) only [upS_off, a1]
  refine rx_aload_n dX10_addClause_38 rfl ?_
  refine rx_getI dX10_addClause_39 flX10_50 (syO hy) rfl ?_
  simp (disch := omega) only [upS_off, k6]
  refine rx_iastore dX10_addClause_42 (syA4 hy) hvk ?_
  rw [hkc]
  refine rx_aload_n dX10_addClause_43 rfl ?_
  refine rx_dup dX10_addClause_44 rfl ?_
  refine rx_getI dX10_addClause_45 flX10_47 (syO hy) rfl ?_
  simp (disch := omega) only [upS_off, a1]
  refine rx_iconst (1) dX10_addClause_48 (by decide) ?_
  refine rx_iadd dX10_addClause_49 ?_
  rw [nI_1]
  refine rx_putI dX10_addClause_50 flX10_47 (syO hy) rfl ?_
  show Rx _ _ _ _ _ _ _ _ _ _ _ _ _ (adS S y cls.length (nI w) (nI n) (nI fr) (nI cs.length)) L
  refine rx_iload_n dX10_addClause_53 rfl ?_
  rcases (show w = 0 ∨ w = 1 ∨ w = 2 ∨ w = 3 ∨ w = 4 by omega) with rfl | rfl | rfl | rfl | rfl
  · refine rx_tableOut 113 dX10_addClause_54 (Or.inl (by decide)) (by decide) ?_
    exact rx_vret dX10_addClause_113 rfl ⟨Nat.le_refl _, Nat.le_refl _⟩ ⟨rfl, rfl, ⟨⟨hP.off (fun k hk => adS_Y (by omega)) (adS_off (by omega)) (adS_off (by omega)), hG.add hl hw hn hfr ht (fun _ _ _ => rfl) adS_7 (adS_Y (by decide)) (adS_Y (by decide)) (adS_Y (by decide)), fun j hj => adS_off (by omega)⟩, rfl⟩⟩
  · refine rx_tableOut 113 dX10_addClause_54 (Or.inl (by decide)) (by decide) ?_
    exact rx_vret dX10_addClause_113 rfl ⟨Nat.le_refl _, Nat.le_refl _⟩ ⟨rfl, rfl, ⟨⟨hP.off (fun k hk => adS_Y (by omega)) (adS_off (by omega)) (adS_off (by omega)), hG.add hl hw hn hfr ht (fun _ _ _ => rfl) adS_7 (adS_Y (by decide)) (adS_Y (by decide)) (adS_Y (by decide)), fun j hj => adS_off (by omega)⟩, rfl⟩⟩
  · refine rx_tableIn 80 dX10_addClause_54 (by decide) (by decide) (by rfl) (by decide) ?_
    refine rx_aload_n dX10_addClause_80 rfl ?_
    refine rx_iload_n dX10_addClause_81 rfl ?_
    refine rx_iconst (1) dX10_addClause_82 (by decide) ?_
    refine rx_icmp_ge 90 dX10_addClause_83 (by decide) (fun h83 => ?_) (fun h83 => ?_)
    · refine rx_iload_n dX10_addClause_90 rfl ?_
      refine rx_putI dX10_addClause_91 flX10_27 (syO hy) rfl ?_
      refine rx_goto 113 dX10_addClause_94 (by decide) ?_
      exact rx_vret dX10_addClause_113 rfl ⟨Nat.le_refl _, Nat.le_refl _⟩ ⟨rfl, rfl, ⟨⟨hP.off (fun k hk => by rw [upS_row, pk_un (by omega)]; exact adS_Y (by omega)) (by rw [upS_off _ _ _ _ (by omega)]; exact adS_off (by omega)) (by rw [upS_off _ _ _ _ (by omega)]; exact adS_off (by omega)), hG.add hl hw hn hfr ht (fun j _ _ => upS_off _ _ _ _ (by omega)) (by rw [upS_row, pk_un (by decide)]; exact adS_7) (by rw [upS_at]; exact congrArg nI (if_neg (Nat.not_lt.mpr ((nI_leI (a := 1) (by omega) (by omega)).mp h83))).symm) (by rw [upS_row, pk_un (by decide)]; exact adS_Y (by decide)) (by rw [upS_row, pk_un (by decide)]; exact adS_Y (by decide)), fun j hj => by rw [upS_off _ _ _ _ (by omega)]; exact adS_off (by omega)⟩, rfl⟩⟩
    · refine rx_iconst (1) dX10_addClause_86 (by decide) ?_
      refine rx_goto 91 dX10_addClause_87 (by decide) ?_
      refine rx_putI dX10_addClause_91 flX10_27 (syO hy) rfl ?_
      refine rx_goto 113 dX10_addClause_94 (by decide) ?_
      exact rx_vret dX10_addClause_113 rfl ⟨Nat.le_refl _, Nat.le_refl _⟩ ⟨rfl, rfl, ⟨⟨hP.off (fun k hk => by rw [upS_row, pk_un (by omega)]; exact adS_Y (by omega)) (by rw [upS_off _ _ _ _ (by omega)]; exact adS_off (by omega)) (by rw [upS_off _ _ _ _ (by omega)]; exact adS_off (by omega)), hG.add hl hw hn hfr ht (fun j _ _ => upS_off _ _ _ _ (by omega)) (by rw [upS_row, pk_un (by decide)]; exact adS_7) (by rw [upS_at]; exact congrArg nI (if_pos (Nat.lt_of_not_le fun q => h83 (nI_le q (by omega)))).symm) (by rw [upS_row, pk_un (by decide)]; exact adS_Y (by decide)) (by rw [upS_row, pk_un (by decide)]; exact adS_Y (by decide)), fun j hj => by rw [upS_off _ _ _ _ (by omega)]; exact adS_off (by omega)⟩, rfl⟩⟩
  · refine rx_tableIn 97 dX10_addClause_54 (by decide) (by decide) (by rfl) (by decide) ?_
    refine rx_aload_n dX10_addClause_97 rfl ?_
    refine rx_iload_n dX10_addClause_98 rfl ?_
    refine rx_putI dX10_addClause_99 flX10_31 (syO hy) rfl ?_
    refine rx_goto 113 dX10_addClause_102 (by decide) ?_
    exact rx_vret dX10_addClause_113 rfl ⟨Nat.le_refl _, Nat.le_refl _⟩ ⟨rfl, rfl, ⟨⟨hP.off (fun k hk => by rw [upS_row, pk_un (by omega)]; exact adS_Y (by omega)) (by rw [upS_off _ _ _ _ (by omega)]; exact adS_off (by omega)) (by rw [upS_off _ _ _ _ (by omega)]; exact adS_off (by omega)), hG.add hl hw hn hfr ht (fun j _ _ => upS_off _ _ _ _ (by omega)) (by rw [upS_row, pk_un (by decide)]; exact adS_7) (by rw [upS_row, pk_un (by decide)]; exact adS_Y (by decide)) (by rw [upS_at]; rfl) (by rw [upS_row, pk_un (by decide)]; exact adS_Y (by decide)), fun j hj => by rw [upS_off _ _ _ _ (by omega)]; exact adS_off (by omega)⟩, rfl⟩⟩
  · refine rx_tableIn 105 dX10_addClause_54 (by decide) (by decide) (by rfl) (by decide) ?_
    refine rx_aload_n dX10_addClause_105 rfl ?_
    refine rx_iload_n dX10_addClause_106 rfl ?_
    refine rx_putI dX10_addClause_107 flX10_34 (syO hy) rfl ?_
    refine rx_goto 113 dX10_addClause_110 (by decide) ?_
    exact rx_vret dX10_addClause_113 rfl ⟨Nat.le_refl _, Nat.le_refl _⟩ ⟨rfl, rfl, ⟨⟨hP.off (fun k hk => by rw [upS_row, pk_un (by omega)]; exact adS_Y (by omega)) (by rw [upS_off _ _ _ _ (by omega)]; exact adS_off (by omega)) (by rw [upS_off _ _ _ _ (by omega)]; exact adS_off (by omega)), hG.add hl hw hn hfr ht (fun j _ _ => upS_off _ _ _ _ (by omega)) (by rw [upS_row, pk_un (by decide)]; exact adS_7) (by rw [upS_row, pk_un (by decide)]; exact adS_Y (by decide)) (by rw [upS_row, pk_un (by decide)]; exact adS_Y (by decide)) (by rw [upS_at]; rfl), fun j hj => by rw [upS_off _ _ _ _ (by omega)]; exact adS_off (by omega)⟩, rfl⟩⟩
set_option maxRecDepth 20000 in
set_option maxHeartbeats 1000000 in
theorem c_readClause (g : GG) {y : Nat} (hy : y < 7) (T : List Nat) (p : Nat) (cs : List TK) (cls : List CLS) (S : SS) (L : LL) (hP : PrR y T S p cs) (hG : GsR y S cls cs) (hl : cls.length < 10) : Ci g 21 mX10_readClause [.ref (11 + 6 * y)] SHC S L (fun x S' L' => ((x = 0 ∨ x = 1) ∧ (¬ x = 0 → ∃ c q, clQ T p = (some c, q) ∧ p < q ∧ q ≤ T.length ∧ ∃ cs', PrR y T S' q cs' ∧ GsR y S' (cls ++ [c]) cs') ∧ (x = 0 → ∃ q, clQ T p = (none, q) ∧ S' (11 + 6 * y) 2 = nI q) ∧ YF y S S') ∧ L' = L) := by
  refine ct_of (ls := [some (.ref (11 + 6 * y)), none, none, none]) 3 (by decide +kernel) rfl rfl ?_
  refine rx_aload_n dX10_readClause_0 rfl ?_
  refine rx_cVi_0 clX10_61 dX10_readClause_1 (rcvo (syO hy) rfl) rfl (c_readWord g hy T p cs S L hP) ?_
  rintro x1 S1 L1 ⟨⟨y1, n1, F1⟩, hL1⟩
  rw [hL1]
  refine rx_istore_1 rfl dX10_readClause_4 ?_
  refine rx_iload_n dX10_readClause_5 rfl ?_
  refine rx_if_lt 18 dX10_readClause_6 (by decide) (fun h6 => ?_) (fun h6 => ?_)
  · refine rx_iconst (0) dX10_readClause_18 (by decide) ?_
    exact rx_zret dX10_readClause_19 rfl (by decide) ⟨Nat.le_refl _, Nat.le_refl _⟩ ⟨rfl, _, rfl, by obtain ⟨q, a, b⟩ := n1 (Int32.not_le.mpr h6); exact ⟨⟨Or.inl rfl, fun q => absurd rfl q, fun _ => ⟨p + q, by unfold clQ; rw [a], b⟩, F1.yf⟩, rfl⟩⟩
  · obtain ⟨w, hw, rfl, hwd, hP1⟩ := y1 (Int32.not_lt.mp h6)
    obtain ⟨v1, v2, v3, v4⟩ := wB_ok w hw
    refine rx_aload_n dX10_readClause_9 rfl ?_
    refine rx_bipush (32) dX10_readClause_10 (by decide) ?_
    refine rx_cVi_1 clX10_57 dX10_readClause_12 (rcvo (syO hy) rfl) rfl (c_skip g hy T (p + (wB w).length) cs 32 S1 L hP1 (by decide)) ?_
    rintro x2 S2 L2 ⟨⟨b2, y2, n2, F2⟩, hL2⟩
    rw [hL2]
    refine rx_if_ne 20 dX10_readClause_15 (by decide) (fun h15 => ?_) (fun h15 => ?_)
    · obtain ⟨hs1, hP2⟩ := y2 h15
      refine rx_aload_n dX10_readClause_20 rfl ?_
      refine rx_cVi_0 clX10_65 dX10_readClause_21 (rcvo (syO hy) rfl) rfl (c_readNumber g hy T (p + (wB w).length + 1) cs S2 L hP2) ?_
      rintro x3 S3 L3 ⟨⟨y3, n3, F3⟩, hL3⟩
      rw [hL3]
      refine rx_istore_2 rfl dX10_readClause_24 ?_
      refine rx_iload_n dX10_readClause_25 rfl ?_
      refine rx_if_ge 31 dX10_readClause_26 (by decide) (fun h26 => ?_) (fun h26 => ?_)
      · obtain ⟨n, q, hn, hn100, rfl, hq1, hq2, hP3⟩ := y3 h26
        refine rx_aload_n dX10_readClause_31 rfl ?_
        refine rx_getI dX10_readClause_32 flX10_50 (syO hy) rfl ?_
        rw [hP3.2.2.2.2.2.1]
        refine rx_istore_3 rfl dX10_readClause_35 ?_
        refine rx_iload_n dX10_readClause_36 rfl ?_
        refine rx_if_eq 45 dX10_readClause_37 (by decide) (fun h37 => ?_) (fun h37 => ?_)
        · have hw2 : w < 2 := by first | (have := (nI_eq (b := 0) (by omega) (by omega)).mp h37; omega) | (have := (nI_eq (b := 1) (by omega) (by omega)).mp h42; omega)
          refine rx_aload_n dX10_readClause_45 rfl ?_
          refine rx_bipush (32) dX10_readClause_46 (by decide) ?_
          refine rx_cVi_1 clX10_57 dX10_readClause_48 (rcvo (syO hy) rfl) rfl (c_skip g hy T q cs 32 S3 L hP3 (by decide)) ?_
          rintro x4 S4 L4 ⟨⟨b4, y4, n4, F4⟩, hL4⟩
          rw [hL4]
          refine rx_if_eq 62 dX10_readClause_51 (by decide) (fun h51 => ?_) (fun h51 => ?_)
          · refine rx_iconst (0) dX10_readClause_62 (by decide) ?_
            exact rx_zret dX10_readClause_63 rfl (by decide) ⟨Nat.le_refl _, Nat.le_refl _⟩ ⟨rfl, _, rfl, ⟨⟨Or.inl rfl, fun q => absurd rfl q, fun _ => ⟨q, by unfold clQ; rw [hwd]; simp only [hs1, hn, hw2, if_true]; exact if_neg (n4 h51).1, by rw [(n4 h51).2]; exact hP3.2.2.2.1⟩, (((F1.trans F2).trans F3).trans F4).yf⟩, rfl⟩⟩
          · obtain ⟨hs2, hP4⟩ := y4 h51
            refine rx_aload_n dX10_readClause_54 rfl ?_
            refine rx_iconst (0) dX10_readClause_55 (by decide) ?_
            refine rx_cVi_1 clX10_68 dX10_readClause_56 (rcvo (syO hy) rfl) rfl (c_eith_0 g hy T (q + 1) cs S4 L hP4) ?_
            rintro x5 S5 L5 ⟨⟨b5, y5, n5, F5⟩, hL5⟩
            rw [hL5]
            refine rx_if_ne 64 dX10_readClause_59 (by decide) (fun h59 => ?_) (fun h59 => ?_)
            · obtain ⟨p2, c2, hE, hP5⟩ := y5 h59
              refine rx_aload_n dX10_readClause_64 rfl ?_
              refine rx_iload_n dX10_readClause_65 rfl ?_
              refine rx_iload_n dX10_readClause_66 rfl ?_
              refine rx_iload_n dX10_readClause_67 rfl ?_
              refine rx_cVv_3 clX10_72 dX10_readClause_68 (rcvo (syO hy) rfl) rfl (c_addClause g hy T p2 (cs ++ c2) cls w n cs.length c2 S5 L hP5 ((hG.pf0 (((F1.trans F2).trans F3).trans F4)).pf c2 F5) hl hw hn100 (by rw [List.length_append]) (fun _ => ⟨fun j t ht => by rw [List.getElem?_append_right (by omega), Nat.add_sub_cancel_left]; exact ht, hE.1.2.1.all⟩)) ?_
              rintro S6 L6 ⟨⟨hP6, hG6, F6⟩, hL6⟩
              rw [hL6]
              refine rx_iconst (1) dX10_readClause_71 (by decide) ?_
              exact rx_zret dX10_readClause_72 rfl (by decide) ⟨Nat.le_refl _, Nat.le_refl _⟩ ⟨rfl, _, rfl, ⟨⟨Or.inr rfl, fun _ => ⟨_, p2, by unfold clQ; rw [hwd]; simp only [hs1, hn, hw2, hs2, if_true]; rw [eP_ok hP4.2.2.2.2.1 hE], by have := hE.1.1.1; omega, hE.1.1.2.1, _, hP6, hG6⟩, fun z => absurd z (by decide), (((((F1.trans F2).trans F3).trans F4).trans F5).yf).trans F6⟩, rfl⟩⟩
            · refine rx_iconst (0) dX10_readClause_62 (by decide) ?_
              exact rx_zret dX10_readClause_63 rfl (by decide) ⟨Nat.le_refl _, Nat.le_refl _⟩ ⟨rfl, _, rfl, by obtain ⟨z, a, b⟩ := n5 h59; exact ⟨⟨Or.inl rfl, fun q => absurd rfl q, fun _ => ⟨z, by unfold clQ; rw [hwd]; simp only [hs1, hn, hw2, hs2, if_true]; rw [eP_no hP4.2.2.2.2.1 a], b⟩, ((((F1.trans F2).trans F3).trans F4).trans F5).yf⟩, rfl⟩⟩
        · refine rx_iload_n dX10_readClause_40 rfl ?_
          refine rx_iconst (1) dX10_readClause_41 (by decide) ?_
          refine rx_icmp_ne 64 dX10_readClause_42 (by decide) (fun h42 => ?_) (fun h42 => ?_)
          · have hw2 : ¬ w < 2 := fun z => by
              rcases (show w = 0 ∨ w = 1 by omega) with e | e
              · exact h37 (by rw [e]; rfl)
              · exact h42 (by rw [e]; rfl)
            refine rx_aload_n dX10_readClause_64 rfl ?_
            refine rx_iload_n dX10_readClause_65 rfl ?_
            refine rx_iload_n dX10_readClause_66 rfl ?_
            refine rx_iload_n dX10_readClause_67 rfl ?_
            refine rx_cVv_3 clX10_72 dX10_readClause_68 (rcvo (syO hy) rfl) rfl (c_addClause g hy T q cs cls w n cs.length [] S3 L hP3 (hG.pf0 ((F1.trans F2).trans F3)) hl hw hn100 rfl (fun z => absurd z hw2)) ?_
            rintro S6 L6 ⟨⟨hP6, hG6, F6⟩, hL6⟩
            rw [hL6]
            refine rx_iconst (1) dX10_readClause_71 (by decide) ?_
            exact rx_zret dX10_readClause_72 rfl (by decide) ⟨Nat.le_refl _, Nat.le_refl _⟩ ⟨rfl, _, rfl, ⟨⟨Or.inr rfl, fun _ => ⟨_, q, by unfold clQ; rw [hwd]; simp only [hs1, hn, hw2, if_true, if_false], by omega, hq2, _, hP6, hG6⟩, fun z => absurd z (by decide), (((F1.trans F2).trans F3).yf).trans F6⟩, rfl⟩⟩
          · have hw2 : w < 2 := by first | (have := (nI_eq (b := 0) (by omega) (by omega)).mp h37; omega) | (have := (nI_eq (b := 1) (by omega) (by omega)).mp h42; omega)
            refine rx_aload_n dX10_readClause_45 rfl ?_
            refine rx_bipush (32) dX10_readClause_46 (by decide) ?_
            refine rx_cVi_1 clX10_57 dX10_readClause_48 (rcvo (syO hy) rfl) rfl (c_skip g hy T q cs 32 S3 L hP3 (by decide)) ?_
            rintro x4 S4 L4 ⟨⟨b4, y4, n4, F4⟩, hL4⟩
            rw [hL4]
            refine rx_if_eq 62 dX10_readClause_51 (by decide) (fun h51 => ?_) (fun h51 => ?_)
            · refine rx_iconst (0) dX10_readClause_62 (by decide) ?_
              exact rx_zret dX10_readClause_63 rfl (by decide) ⟨Nat.le_refl _, Nat.le_refl _⟩ ⟨rfl, _, rfl, ⟨⟨Or.inl rfl, fun q => absurd rfl q, fun _ => ⟨q, by unfold clQ; rw [hwd]; simp only [hs1, hn, hw2, if_true]; exact if_neg (n4 h51).1, by rw [(n4 h51).2]; exact hP3.2.2.2.1⟩, (((F1.trans F2).trans F3).trans F4).yf⟩, rfl⟩⟩
            · obtain ⟨hs2, hP4⟩ := y4 h51
              refine rx_aload_n dX10_readClause_54 rfl ?_
              refine rx_iconst (0) dX10_readClause_55 (by decide) ?_
              refine rx_cVi_1 clX10_68 dX10_readClause_56 (rcvo (syO hy) rfl) rfl (c_eith_0 g hy T (q + 1) cs S4 L hP4) ?_
              rintro x5 S5 L5 ⟨⟨b5, y5, n5, F5⟩, hL5⟩
              rw [hL5]
              refine rx_if_ne 64 dX10_readClause_59 (by decide) (fun h59 => ?_) (fun h59 => ?_)
              · obtain ⟨p2, c2, hE, hP5⟩ := y5 h59
                refine rx_aload_n dX10_readClause_64 rfl ?_
                refine rx_iload_n dX10_readClause_65 rfl ?_
                refine rx_iload_n dX10_readClause_66 rfl ?_
                refine rx_iload_n dX10_readClause_67 rfl ?_
                refine rx_cVv_3 clX10_72 dX10_readClause_68 (rcvo (syO hy) rfl) rfl (c_addClause g hy T p2 (cs ++ c2) cls w n cs.length c2 S5 L hP5 ((hG.pf0 (((F1.trans F2).trans F3).trans F4)).pf c2 F5) hl hw hn100 (by rw [List.length_append]) (fun _ => ⟨fun j t ht => by rw [List.getElem?_append_right (by omega), Nat.add_sub_cancel_left]; exact ht, hE.1.2.1.all⟩)) ?_
                rintro S6 L6 ⟨⟨hP6, hG6, F6⟩, hL6⟩
                rw [hL6]
                refine rx_iconst (1) dX10_readClause_71 (by decide) ?_
                exact rx_zret dX10_readClause_72 rfl (by decide) ⟨Nat.le_refl _, Nat.le_refl _⟩ ⟨rfl, _, rfl, ⟨⟨Or.inr rfl, fun _ => ⟨_, p2, by unfold clQ; rw [hwd]; simp only [hs1, hn, hw2, hs2, if_true]; rw [eP_ok hP4.2.2.2.2.1 hE], by have := hE.1.1.1; omega, hE.1.1.2.1, _, hP6, hG6⟩, fun z => absurd z (by decide), (((((F1.trans F2).trans F3).trans F4).trans F5).yf).trans F6⟩, rfl⟩⟩
              · refine rx_iconst (0) dX10_readClause_62 (by decide) ?_
                exact rx_zret dX10_readClause_63 rfl (by decide) ⟨Nat.le_refl _, Nat.le_refl _⟩ ⟨rfl, _, rfl, by obtain ⟨z, a, b⟩ := n5 h59; exact ⟨⟨Or.inl rfl, fun q => absurd rfl q, fun _ => ⟨z, by unfold clQ; rw [hwd]; simp only [hs1, hn, hw2, hs2, if_true]; rw [eP_no hP4.2.2.2.2.1 a], b⟩, ((((F1.trans F2).trans F3).trans F4).trans F5).yf⟩, rfl⟩⟩
      · refine rx_iconst (0) dX10_readClause_29 (by decide) ?_
        exact rx_zret dX10_readClause_30 rfl (by decide) ⟨Nat.le_refl _, Nat.le_refl _⟩ ⟨rfl, _, rfl, ⟨⟨Or.inl rfl, fun q => absurd rfl q, fun _ => ⟨p + (wB w).length + 1, by unfold clQ; rw [hwd]; simp only [hs1, (n3 h26).1, if_true], by rw [(n3 h26).2]; exact hP2.2.2.2.1⟩, ((F1.trans F2).trans F3).yf⟩, rfl⟩⟩
    · refine rx_iconst (0) dX10_readClause_18 (by decide) ?_
      exact rx_zret dX10_readClause_19 rfl (by decide) ⟨Nat.le_refl _, Nat.le_refl _⟩ ⟨rfl, _, rfl, ⟨⟨Or.inl rfl, fun q => absurd rfl q, fun _ => ⟨p + (wB w).length, by unfold clQ; rw [hwd]; exact if_neg (n2 h15).1, by rw [(n2 h15).2]; exact hP1.2.2.2.1⟩, (F1.trans F2).yf⟩, rfl⟩⟩
set_option maxRecDepth 20000 in
set_option maxHeartbeats 1000000 in
theorem c_faultOf (g : GG) {y : Nat} (hy : y < 7) (T : List Nat) (S : SS) (L : LL) (z2 : ∀ i q, T[i]? = some q → S 9 i = nI q) (z3 : T.length ≤ 100) (z4 : ∀ q ∈ T, q < 128) : Ci g 22 mX10_faultOf [.ref (11 + 6 * y), .int (nI T.length)] SHC S L (fun x S' L' => (((∃ cls q, yrQ T = (some cls, q) ∧ x = -1 ∧ YdR y S' (yQd cls)) ∨ (∃ q, yrQ T = (none, q) ∧ x = nI q ∧ q ≤ 200)) ∧ YF y S S') ∧ L' = L) := by
  refine ct_of (ls := [some (.ref (11 + 6 * y)), some (.int (nI T.length)), none]) 1 (by decide +kernel) rfl rfl ?_
  refine rx_aload_n dX10_faultOf_0 rfl ?_
  refine rx_iload_n dX10_faultOf_1 rfl ?_
  refine rx_putI dX10_faultOf_2 flX10_41 (syO hy) rfl ?_
  refine rx_aload_n dX10_faultOf_5 rfl ?_
  refine rx_iconst (0) dX10_faultOf_6 (by decide) ?_
  refine rx_putI dX10_faultOf_7 flX10_44 (syO hy) rfl ?_
  refine rx_aload_n dX10_faultOf_10 rfl ?_
  refine rx_iconst (0) dX10_faultOf_11 (by decide) ?_
  refine rx_putI dX10_faultOf_12 flX10_47 (syO hy) rfl ?_
  refine rx_aload_n dX10_faultOf_15 rfl ?_
  refine rx_iconst (0) dX10_faultOf_16 (by decide) ?_
  refine rx_putI dX10_faultOf_17 flX10_50 (syO hy) rfl ?_
  refine rx_aload_n dX10_faultOf_20 rfl ?_
  refine rx_bipush (40) dX10_faultOf_21 (by decide) ?_
  refine rx_putI dX10_faultOf_23 flX10_27 (syO hy) rfl ?_
  refine rx_aload_n dX10_faultOf_26 rfl ?_
  refine rx_iconst (3) dX10_faultOf_27 (by decide) ?_
  refine rx_putI dX10_faultOf_28 flX10_31 (syO hy) rfl ?_
  refine rx_aload_n dX10_faultOf_31 rfl ?_
  refine rx_bipush (9) dX10_faultOf_32 (by decide) ?_
  refine rx_putI dX10_faultOf_34 flX10_34 (syO hy) rfl ?_
  refine rx_iconst (0) dX10_faultOf_37 (by decide) ?_
  refine rx_istore_2 rfl dX10_faultOf_38 ?_
  have hr0 : (upS (upS (upS (upS (upS (upS (upS S (11 + 6 * y) 1 (nI T.length)) (11 + 6 * y) 2 0) (11 + 6 * y) 7 0) (11 + 6 * y) 9 0) (11 + 6 * y) 10 40) (11 + 6 * y) 11 3) (11 + 6 * y) 12 9) (11 + 6 * y) = upd (upd (upd (upd (upd (upd (upd (S (11 + 6 * y)) 1 (nI T.length)) 2 0) 7 0) 9 0) 10 40) 11 3) 12 9 := by simp only [upS_row]
  have ho0 : ∀ j, j ≠ 11 + 6 * y → (upS (upS (upS (upS (upS (upS (upS S (11 + 6 * y) 1 (nI T.length)) (11 + 6 * y) 2 0) (11 + 6 * y) 7 0) (11 + 6 * y) 9 0) (11 + 6 * y) 10 40) (11 + 6 * y) 11 3) (11 + 6 * y) 12 9) j = S j := fun j hj => by simp (disch := omega) only [upS_off]
  generalize (upS (upS (upS (upS (upS (upS (upS S (11 + 6 * y) 1 (nI T.length)) (11 + 6 * y) 2 0) (11 + 6 * y) 7 0) (11 + 6 * y) 9 0) (11 + 6 * y) 10 40) (11 + 6 * y) 11 3) (11 + 6 * y) 12 9) = S0 at hr0 ho0 ⊢
  have hP0 : PrR y T S0 0 [] := ⟨by rw [hr0]; simp (disch := decide) only [pk_un, pk_us], fun i q hq => by rw [ho0 9 (by omega)]; exact z2 i q hq, z3, by rw [hr0]; simp (disch := decide) only [pk_un, pk_us]; rfl, Nat.zero_le _, by rw [hr0]; simp (disch := decide) only [pk_un, pk_us]; rfl, fun j t ht => absurd ht (by simp), Nat.le_refl _, z4⟩
  have hG0 : GsR y S0 [] [] := ⟨by rw [hr0]; simp (disch := decide) only [pk_un, pk_us]; rfl, Nat.zero_le _, fun i c hc => absurd hc (by simp), by rw [hr0]; simp (disch := decide) only [pk_un, pk_us]; rfl, by rw [hr0]; simp (disch := decide) only [pk_un, pk_us]; rfl, by rw [hr0]; simp (disch := decide) only [pk_us]; rfl⟩
  have hF0 : YF y S S0 := fun j hj => ho0 j (by omega)
  have loop : ∀ (r c p : Nat) (cls : List CLS) (cs : List TK) (S1 : SS), c + r = 10 → cls.length = c → PrR y T S1 p cs → GsR y S1 cls cs → YF y S S1 → yrL T r p cls = yrQ T → Rx g 22 0 0 mX10_faultOf SHC.length (fun r sh' S' L' => sh' = SHC ∧ ∃ x, r = some (.int x) ∧ ((((∃ cls q, yrQ T = (some cls, q) ∧ x = -1 ∧ YdR y S' (yQd cls)) ∨ (∃ q, yrQ T = (none, q) ∧ x = nI q ∧ q ≤ 200)) ∧ YF y S S') ∧ L' = L)) 0 0 39 [some (.ref (11 + 6 * y)), some (.int (nI T.length)), some (.int (nI c))] [] SHC S1 L := by
    intro r
    induction r with
    | zero =>
      intro c p cls cs S1 he hcl hP hG hF hev
      refine rx_iload_n dX10_faultOf_39 rfl ?_
      refine rx_bipush (10) dX10_faultOf_40 (by decide) ?_
      refine rx_icmp_ge 96 dX10_faultOf_42 (by decide) (fun h42 => ?_) (fun h42 => absurd (nI_le (a := 10) (b := c) (by omega) (by omega)) h42)
      refine rx_aload_n dX10_faultOf_96 rfl ?_
      refine rx_getI dX10_faultOf_97 flX10_44 (syO hy) rfl ?_
      rw [hP.2.2.2.1]
      exact rx_iret dX10_faultOf_100 rfl ⟨Nat.le_refl _, Nat.le_refl _⟩ ⟨rfl, _, rfl, ⟨⟨Or.inr ⟨p, by rw [← hev]; rfl, rfl, by have := hP.2.2.2.2.1; have := hP.2.2.1; omega⟩, hF⟩, rfl⟩⟩
    | succ r ih =>
      intro c p cls cs S1 he hcl hP hG hF hev
      refine rx_iload_n dX10_faultOf_39 rfl ?_
      refine rx_bipush (10) dX10_faultOf_40 (by decide) ?_
      refine rx_icmp_ge 96 dX10_faultOf_42 (by decide) (fun h42 => absurd h42 (nI_ge (a := c) (b := 10) (by omega) (by omega))) (fun h42 => ?_)
      refine rx_aload_n dX10_faultOf_45 rfl ?_
      refine rx_cVi_0 clX10_53 dX10_faultOf_46 (rcvo (syO hy) rfl) rfl (c_readClause g hy T p cs cls S1 L hP hG (by omega)) ?_
      rintro x2 S2 L2 ⟨⟨b2, y2, n2, F2⟩, hL2⟩
      rw [hL2]
      refine rx_if_ne 57 dX10_faultOf_49 (by decide) (fun h49 => ?_) (fun h49 => ?_)
      · obtain ⟨c2, q, hq, hpq, hqT, cs', hP2, hG2⟩ := y2 h49
        refine rx_aload_n dX10_faultOf_57 rfl ?_
        refine rx_getI dX10_faultOf_58 flX10_44 (syO hy) rfl ?_
        rw [hP2.2.2.2.1]
        refine rx_aload_n dX10_faultOf_61 rfl ?_
        refine rx_getI dX10_faultOf_62 flX10_41 (syO hy) rfl ?_
        rw [hP2.1]
        refine rx_icmp_lt 70 dX10_faultOf_65 (by decide) (fun h65 => ?_) (fun h65 => ?_)
        · have hqn : ¬ q = T.length := by have := (nI_ltI (a := q) (b := T.length) (by omega) (by omega)).mp h65; omega
          refine rx_iload_n dX10_faultOf_70 rfl ?_
          refine rx_bipush (9) dX10_faultOf_71 (by decide) ?_
          refine rx_icmp_eq 85 dX10_faultOf_73 (by decide) (fun h73 => ?_) (fun h73 => ?_)
          · refine rx_aload_n dX10_faultOf_85 rfl ?_
            refine rx_getI dX10_faultOf_86 flX10_44 (syO hy) rfl ?_
            rw [hP2.2.2.2.1]
            exact rx_iret dX10_faultOf_89 rfl ⟨Nat.le_refl _, Nat.le_refl _⟩ ⟨rfl, _, rfl, ⟨⟨Or.inr ⟨q, by rw [← hev]; unfold yrL; rw [hq]; exact (if_neg hqn).trans (if_pos (Or.inl (by have := (nI_eq (b := 9) (by omega) (by omega)).mp h73; omega))), rfl, by omega⟩, hF.trans F2⟩, rfl⟩⟩
          · refine rx_aload_n dX10_faultOf_76 rfl ?_
            refine rx_bipush (59) dX10_faultOf_77 (by decide) ?_
            refine rx_cVi_1 clX10_57 dX10_faultOf_79 (rcvo (syO hy) rfl) rfl (c_skip g hy T q cs' 59 S2 L hP2 (by decide)) ?_
            rintro x3 S3 L3 ⟨⟨b3, y3, n3, F3⟩, hL3⟩
            rw [hL3]
            refine rx_if_ne 90 dX10_faultOf_82 (by decide) (fun h82 => ?_) (fun h82 => ?_)
            · refine rx_iinc_2 (1) rfl dX10_faultOf_90 (by decide) ?_
              refine rx_goto 39 dX10_faultOf_93 (by decide) ?_
              obtain ⟨hs, hP3⟩ := y3 h82
              rw [nI_1]
              refine ih (c + 1) (q + 1) (cls ++ [c2]) cs' S3 (by omega) (by rw [List.length_append]; show cls.length + 1 = _; omega) hP3 (hG2.pf0 F3) ((hF.trans F2).trans F3.yf) ?_
              rw [← hev]
              conv => rhs; unfold yrL
              rw [hq]
              exact ((if_neg hqn).trans (if_neg (fun z => z.elim (fun e => h73 (by rw [show c = 9 by omega]; rfl)) (fun e => e hs)))).symm
            · refine rx_aload_n dX10_faultOf_85 rfl ?_
              refine rx_getI dX10_faultOf_86 flX10_44 (syO hy) rfl ?_
              rw [(n3 h82).2, hP2.2.2.2.1]
              exact rx_iret dX10_faultOf_89 rfl ⟨Nat.le_refl _, Nat.le_refl _⟩ ⟨rfl, _, rfl, ⟨⟨Or.inr ⟨q, by rw [← hev]; unfold yrL; rw [hq]; exact (if_neg hqn).trans (if_pos (Or.inr (n3 h82).1)), rfl, by omega⟩, hF.trans F2⟩, rfl⟩⟩
        · refine rx_iconst (-1) dX10_faultOf_68 (by decide) ?_
          exact rx_iret dX10_faultOf_69 rfl ⟨Nat.le_refl _, Nat.le_refl _⟩ ⟨rfl, _, rfl, ⟨⟨Or.inl ⟨cls ++ [c2], q, by rw [← hev]; unfold yrL; rw [hq]; exact if_pos (Nat.le_antisymm hqT (Nat.not_lt.mp fun w => h65 (nI_lt w (by omega)))), rfl, hG2.yd hP2⟩, hF.trans F2⟩, rfl⟩⟩
      · obtain ⟨q, hq, hpl⟩ := n2 h49
        have hqb := clQ_q (T := T) hP.2.2.2.2.1
        rw [hq] at hqb
        have hqb : q ≤ T.length + 3 := hqb
        refine rx_aload_n dX10_faultOf_52 rfl ?_
        refine rx_getI dX10_faultOf_53 flX10_44 (syO hy) rfl ?_
        rw [hpl]
        exact rx_iret dX10_faultOf_56 rfl ⟨Nat.le_refl _, Nat.le_refl _⟩ ⟨rfl, _, rfl, ⟨⟨Or.inr ⟨q, by rw [← hev]; unfold yrL; rw [hq], rfl, by omega⟩, hF.trans F2⟩, rfl⟩⟩
  exact loop 10 0 0 [] [] S0 (by omega) rfl hP0 hG0 hF0 rfl
set_option maxRecDepth 20000 in
set_option maxHeartbeats 1000000 in
theorem cc_yard (g : GG) (σ : SIG)  (S : SS) (L : LL) (hr : CRel S L σ) : Ci g 23 mX11_yard [.ref 0] SHC S L (fun r S' L' => r = aYard σ  ∧ CRel S' L' (nYard σ )) := by
  have hc4 : S 0 4 = nI (gC σ) := hr.2.2.2.2.1
  have hcl : gC σ ≤ 6 := hr.1.2.2.1
  have h02 : S 0 2 = nI (gT σ).length := hr.2.2.2.2.2.2.1
  refine ct_of (ls := [some (.ref 0), none, none]) 2 (by decide +kernel) rfl rfl ?_
  refine rx_aload_n dX11_yard_0 rfl ?_
  refine rx_getI dX11_yard_1 flX11_159 (sC_0) rfl ?_
  rw [hc4]
  refine rx_bipush (6) dX11_yard_4 (by decide) ?_
  refine rx_icmp_lt 12 dX11_yard_6 (by decide) (fun h6 => ?_) (fun h6 => ?_)
  · have hg6 : gC σ < 6 := (nI_ltI (b := 6) (by omega) (by omega)).mp h6
    have hy1 : gC σ + 1 < 7 := by omega
    have e1 : (nI (gC σ + 1)).toNatClampNeg = gC σ + 1 := nI_clamp (by omega)
    refine rx_aload_n dX11_yard_12 rfl ?_
    refine rx_getR dX11_yard_13 flX11_42 (sC_0) rfl ?_
    refine rx_aload_n dX11_yard_16 rfl ?_
    refine rx_getI dX11_yard_17 flX11_159 (sC_0) rfl ?_
    rw [hc4]
    refine rx_iconst (1) dX11_yard_20 (by decide) ?_
    refine rx_iadd dX11_yard_21 ?_
    rw [nI_1]
    refine rx_aaload6 dX11_yard_22 (sC_10) (vp_in_nI hy1 (by omega)) (by rw [e1]; exact yEl hy1) ?_
    refine rx_astore_1 rfl dX11_yard_23 ?_
    refine rx_aload_n dX11_yard_24 rfl ?_
    refine rx_aload_n dX11_yard_25 rfl ?_
    refine rx_getI dX11_yard_26 flX11_156 (sC_0) rfl ?_
    rw [h02]
    refine rx_cVi_1 clX11_162 dX11_yard_29 (rcvo (syO hy1) rfl) rfl (c_faultOf g hy1 (gT σ) S L hr.2.2.2.2.2.2.2.1 hr.1.2.2.2.2.2.2.1 hr.1.2.2.2.2.2.2.2.1) ?_
    rintro x1 S1 L1 ⟨⟨hq, hF⟩, hL1⟩
    rw [hL1]
    refine rx_istore_2 rfl dX11_yard_32 ?_
    refine rx_aload_n dX11_yard_33 rfl ?_
    refine rx_iconst (0) dX11_yard_34 (by decide) ?_
    refine rx_putI dX11_yard_35 flX11_156 (sC_0) rfl ?_
    refine rx_iload_n dX11_yard_38 rfl ?_
    refine rx_iconst (-1) dX11_yard_39 (by decide) ?_
    refine rx_icmp_eq 48 dX11_yard_40 (by decide) (fun h40 => ?_) (fun h40 => ?_)
    · obtain ⟨cls, q, hq1, hq2⟩ : ∃ cls q, yrQ (gT σ) = (some cls, q) ∧ YdR (gC σ + 1) S1 (yQd cls) := by
        rcases hq with ⟨cls, q, a, b, c⟩ | ⟨q, a, b, c⟩
        · exact ⟨cls, q, a, c⟩
        · exact absurd (b.symm.trans h40) (nI_m1 (by omega))
      have hyc : 0 = 0 := rfl
      refine rx_aload_n dX11_yard_48 rfl ?_
      refine rx_getR dX11_yard_49 flX11_54 (sC_0) rfl ?_
      refine rx_aload_n dX11_yard_52 rfl ?_
      refine rx_putD dX11_yard_53 flX11_139 (sC_53) rfl (by omega) ?_
      refine rx_aload_n dX11_yard_56 rfl ?_
      refine rx_dup dX11_yard_57 rfl ?_
      refine rx_getI dX11_yard_58 flX11_159 (sC_0) rfl ?_
      rw [upS_off _ _ _ _ (by decide : (0 : Nat) ≠ 53), upS_row, pk_un (by decide : (4 : Nat) ≠ 2), hF 0 (by omega), hc4]
      refine rx_iconst (1) dX11_yard_61 (by decide) ?_
      refine rx_iadd dX11_yard_62 ?_
      rw [nI_1]
      refine rx_putI dX11_yard_63 flX11_159 (sC_0) rfl ?_
      refine rx_aload_n dX11_yard_66 rfl ?_
      refine rx_getI dX11_yard_67 flX11_159 (sC_0) rfl ?_
      rw [upS_at]
      refine rx_iconst (1) dX11_yard_70 (by decide) ?_
      refine rx_isub dX11_yard_71 ?_
      rw [show nI (gC σ + 1) - 1 = nI (gC σ) from pk_sub (b := 1) (by omega)]
      exact rx_iret dX11_yard_72 rfl ⟨Nat.le_refl _, Nat.le_refl _⟩ ⟨rfl, _, rfl, ⟨by unfold aYard; rw [if_pos hg6, hq1], by unfold nYard; rw [if_pos hg6, hq1]; exact hr.yardOK hg6 hF hq2⟩⟩
    · obtain ⟨q, hq1, rfl, hq3⟩ : ∃ q, yrQ (gT σ) = (none, q) ∧ x1 = nI q ∧ q ≤ 200 := by
        rcases hq with ⟨cls, q, a, b, c⟩ | w
        · exact absurd b h40
        · exact w
      refine rx_bipush (-10) dX11_yard_43 (by decide) ?_
      refine rx_iload_n dX11_yard_45 rfl ?_
      refine rx_isub dX11_yard_46 ?_
      exact rx_iret dX11_yard_47 rfl ⟨Nat.le_refl _, Nat.le_refl _⟩ ⟨rfl, _, rfl, ⟨by unfold aYard; rw [if_pos hg6, hq1], by unfold nYard; rw [if_pos hg6, hq1]; exact hr.yardNo hg6 hF⟩⟩
  · have hno : ¬ gC σ < 6 := fun q => h6 (nI_lt (b := 6) q (by omega))
    refine rx_bipush (-4) dX11_yard_9 (by decide) ?_
    exact rx_iret dX11_yard_11 rfl ⟨Nat.le_refl _, Nat.le_refl _⟩ ⟨rfl, _, rfl, ⟨by unfold aYard; rw [if_neg hno], by unfold nYard; rw [if_neg hno]; exact hr⟩⟩
