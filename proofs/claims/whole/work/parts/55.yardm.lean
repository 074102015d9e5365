def WdM (f : Nat) (T : List Nat) (p : Nat) (cs : List TK) (w : Nat) (S : SS) (x : Int32) (S' : SS) : Prop := (x = 0 ∨ x = 1) ∧ (¬ x = 0 → cpre T p (wB w) = (wB w).length ∧ chr T (p + (wB w).length) = 32 ∧ PrM f T S' (p + (wB w).length + 1) cs) ∧ (x = 0 → (cpre T p (wB w) = (wB w).length ∧ ¬ chr T (p + (wB w).length) = 32 ∧ S' 0 13 = nI (p + (wB w).length)) ∨ (¬ cpre T p (wB w) = (wB w).length ∧ S' 0 13 = nI (p + cpre T p (wB w)))) ∧ Fr [] [13] S S'
def HdM (c f : Nat) (T : List Nat) (p : Nat) (cs : List TK) (S : SS) (x : Int32) (S' : SS) : Prop := (x = 0 ∨ x = 1) ∧ (¬ x = 0 → ∃ w, w < 5 ∧ wdQ T p = (some w, (wB w).length) ∧ chr T (p + (wB w).length) = 32 ∧ PrM f T S' (p + (wB w).length + 1) cs ∧ S' 10 c = nI w) ∧ (x = 0 → (∃ w, w < 5 ∧ wdQ T p = (some w, (wB w).length) ∧ ¬ chr T (p + (wB w).length) = 32 ∧ S' 0 13 = nI (p + (wB w).length)) ∨ ∃ d, wdQ T p = (none, d) ∧ S' 0 13 = nI (p + d)) ∧ QF c f S S'
theorem Fr.qf {c f : Nat} {S S' : SS} (h : Fr [] [13] S S') : QF c f S S' := (QE.of (h.mono (by decide) (by decide))).qf
theorem WdM.hd {c f : Nat} {T : List Nat} {p : Nat} {cs : List TK} {w : Nat} {S S' : SS} {x : Int32} (hw : w < 5) (hm : wdM T p = w) (h : WdM f T p cs w (upS S 10 c (nI w)) x S') : HdM c f T p cs S x S' := by
  obtain ⟨h1, h2, h3, h4⟩ := h
  refine ⟨h1, fun hx => ?_, fun hx => ?_, (QF.refl.upc (by decide) (by decide)).trans h4.qf⟩
  · obtain ⟨a1, a2, a3⟩ := h2 hx
    exact ⟨w, hw, by unfold wdQ; rw [hm, if_pos a1], a2, a3, (congrFun (h4.1 10 (by decide) (by simp)) c).trans (upS_at _ _ _ _)⟩
  · rcases h3 hx with ⟨a1, a2, a3⟩ | ⟨a1, a2⟩
    · exact Or.inl ⟨w, hw, by unfold wdQ; rw [hm, if_pos a1], a2, a3⟩
    · exact Or.inr ⟨_, by unfold wdQ; rw [hm, if_neg a1], a2⟩
theorem look2 {x : Int32} (h1 : ¬ x = 102) (h2 : ¬ x = 119) : Op.lookupswitch.offset [(102, 43), (119, 28)] 58 x.toInt = 58 := by
  rw [Op.lookupswitch.offset_cons, if_neg (fun e => h1 (Int32.toInt_inj.mp (by rw [← e]; decide +kernel))), Op.lookupswitch.offset_cons, if_neg (fun e => h2 (Int32.toInt_inj.mp (by rw [← e]; decide +kernel)))]
  rfl
theorem ltr_ok : ∀ w, w < 5 → ∀ i, i < (wB w).length → nI (LTR.getD ([0, 6, 11, 14, 19].getD w 0 + i) 0) = (wB w).getD i 0 := by decide +kernel
theorem ltr_le : ∀ w, w < 5 → [0, 6, 11, 14, 19].getD w 0 + (wB w).length ≤ 23 ∧ (wB w).length ≤ 6 := by decide +kernel
theorem wB_dr {w i : Nat} (hl : i < (wB w).length) : (wB w).drop i = (wB w).getD i 0 :: (wB w).drop (i + 1) := by
  rw [List.drop_eq_getElem_cons hl, List.getD_eq_getElem?_getD (l := wB w) (i := i), List.getElem?_eq_getElem hl]
  rfl
/-- a clause as it was read -/
def McQ (c f : Nat) (S : SS) (cs : List TK) (cl : CLS) : Prop := S 10 c = nI cl.1 ∧ cl.1 < 5 ∧ S 11 c = nI cl.2.1 ∧ cl.2.1 < 100 ∧ (cl.1 < 2 → ∃ fr, S 12 c = nI (100 * f + fr) ∧ S 13 c = nI (100 * f + fr + cl.2.2.length) ∧ fr + cl.2.2.length ≤ cs.length ∧ ∀ j t, cl.2.2[j]? = some t → cs[fr + j]? = some t)
theorem McQ.more {c c' f : Nat} {S S' : SS} {cs : List TK} {cl : CLS} (h : McQ c f S cs cl) (more : List TK) (hq : QF c' f S S') (hc : c ≠ c') : McQ c f S' (cs ++ more) cl := by
  obtain ⟨h1, h2, h3, h4, h5⟩ := h
  refine ⟨by rw [hq.2.2.1 10 c (by decide) (by decide) hc]; exact h1, h2, by rw [hq.2.2.1 11 c (by decide) (by decide) hc]; exact h3, h4, fun hw => ?_⟩
  obtain ⟨fr, g1, g2, g3, g4⟩ := h5 hw
  refine ⟨fr, by rw [hq.2.2.1 12 c (by decide) (by decide) hc]; exact g1, by rw [hq.2.2.1 13 c (by decide) (by decide) hc]; exact g2, by rw [List.length_append]; omega, fun j t ht => ?_⟩
  have hj := (List.getElem?_eq_some_iff.mp ht).1
  rw [List.getElem?_append_left (by omega)]
  exact g4 j t ht
theorem McQ.up9 {c f k : Nat} {S : SS} {cs : List TK} {cl : CLS} {x : Int32} (h : McQ c f S cs cl) : McQ c f (upS S 9 k x) cs cl := by
  unfold McQ at h ⊢
  simp (disch := omega) only [upS_off]
  exact h
theorem McQ.up0 {c f k : Nat} {S : SS} {cs : List TK} {cl : CLS} {x : Int32} (h : McQ c f S cs cl) : McQ c f (upS S 0 k x) cs cl := by
  unfold McQ at h ⊢
  simp (disch := omega) only [upS_off]
  exact h
/-- what the reading of a text leaves as it was -/
def QY (f : Nat) (S S' : SS) : Prop := (∀ j, j ≠ 0 → ¬ (9 ≤ j ∧ j ≤ 15) → S' j = S j) ∧ (∀ k, k ∉ [13, 14, 23, 24, 25] → S' 0 k = S 0 k) ∧ (∀ k, k ≠ f → S' 9 k = S 9 k) ∧ (∀ j k, 10 ≤ j → j ≤ 13 → k < 10 * f → S' j k = S j k) ∧ ∀ k, k < 100 * f → S' 14 k = S 14 k
theorem QY.refl {f : Nat} {S : SS} : QY f S S := ⟨fun _ _ _ => rfl, fun _ _ => rfl, fun _ _ => rfl, fun _ _ _ _ _ => rfl, fun _ _ => rfl⟩
theorem QY.qf {f c : Nat} {S S1 S2 : SS} (h : QY f S S1) (hq : QF c f S1 S2) (hc : 10 * f ≤ c) : QY f S S2 := ⟨fun j a b => (hq.1 j a (by omega)).trans (h.1 j a b), fun k a => (hq.2.1 k a).trans (h.2.1 k a), fun k a => (congrFun (hq.1 9 (by decide) (by decide)) k).trans (h.2.2.1 k a), fun j k a b d => (hq.2.2.1 j k a b (by omega)).trans (h.2.2.2.1 j k a b d), fun k a => (hq.2.2.2 k a).trans (h.2.2.2.2 k a)⟩
theorem QY.up9 {f : Nat} {S S1 : SS} {x : Int32} (h : QY f S S1) : QY f S (upS S1 9 f x) := ⟨fun j a b => (upS_off _ _ _ _ (by omega)).trans (h.1 j a b), fun k a => (congrFun (upS_off _ _ _ _ (by decide)) k).trans (h.2.1 k a), fun k a => (upS_ne _ _ _ _ (by omega)).trans (h.2.2.1 k a), fun j k a b d => (congrFun (upS_off _ _ _ _ (by omega)) k).trans (h.2.2.2.1 j k a b d), fun k a => (congrFun (upS_off _ _ _ _ (by decide)) k).trans (h.2.2.2.2 k a)⟩
theorem QY.up0 {f k : Nat} {S S1 : SS} {x : Int32} (h : QY f S S1) (hk : k ∈ [13, 14, 23, 24, 25]) : QY f S (upS S1 0 k x) := ⟨fun j a b => (upS_off _ _ _ _ a).trans (h.1 j a b), fun k' a => by rw [upS_row, pk_un (fun e => a (by rw [e]; exact hk))]; exact h.2.1 k' a, fun k' a => (congrFun (upS_off _ _ _ _ (by decide)) k').trans (h.2.2.1 k' a), fun j k' a b d => (congrFun (upS_off _ _ _ _ (by omega)) k').trans (h.2.2.2.1 j k' a b d), fun k' a => (congrFun (upS_off _ _ _ _ (by decide)) k').trans (h.2.2.2.2 k' a)⟩
theorem PrM.up9 {f p k : Nat} {T : List Nat} {S : SS} {cs : List TK} {x : Int32} (h : PrM f T S p cs) : PrM f T (upS S 9 k x) p cs :=
  h.off ((upS_ne _ _ _ _ (by omega)).trans h.2.2.2.1) (Nat.le_refl _) h.2.2.2.2.1 (upS_ne _ _ _ _ (by omega)) (upS_off _ _ _ _ (by decide)) (upS_ne _ _ _ _ (by omega)) (upS_off _ _ _ _ (by decide))
theorem PrM.up10 {f p k : Nat} {T : List Nat} {S : SS} {cs : List TK} {x : Int32} (h : PrM f T S p cs) : PrM f T (upS S 10 k x) p cs :=
  h.off ((upS_ne _ _ _ _ (by omega)).trans h.2.2.2.1) (Nat.le_refl _) h.2.2.2.2.1 (upS_ne _ _ _ _ (by omega)) (upS_off _ _ _ _ (by decide)) (upS_ne _ _ _ _ (by omega)) (upS_off _ _ _ _ (by decide))
theorem PrM.up11 {f p k : Nat} {T : List Nat} {S : SS} {cs : List TK} {x : Int32} (h : PrM f T S p cs) : PrM f T (upS S 11 k x) p cs :=
  h.off ((upS_ne _ _ _ _ (by omega)).trans h.2.2.2.1) (Nat.le_refl _) h.2.2.2.2.1 (upS_ne _ _ _ _ (by omega)) (upS_off _ _ _ _ (by decide)) (upS_ne _ _ _ _ (by omega)) (upS_off _ _ _ _ (by decide))
theorem clQ_1 {T : List Nat} {p d : Nat} (h : wdQ T p = (none, d)) : clQ T p = (none, p + d) := by unfold clQ; rw [h]
theorem clQ_2 {T : List Nat} {p d w : Nat} (h : wdQ T p = (some w, d)) (h32 : ¬ chr T (p + d) = 32) : clQ T p = (none, p + d) := by
  unfold clQ
  rw [h]
  exact if_neg h32
theorem clQ_3 {T : List Nat} {p d w : Nat} (h : wdQ T p = (some w, d)) (h32 : chr T (p + d) = 32) (hn : numP T (p + d + 1) = none) : clQ T p = (none, p + d + 1) := by
  unfold clQ
  rw [h]
  refine (if_pos h32).trans ?_
  rw [hn]
theorem clQ_4 {T : List Nat} {p d w n q : Nat} (h : wdQ T p = (some w, d)) (h32 : chr T (p + d) = 32) (hn : numP T (p + d + 1) = some (n, q)) (hw : ¬ w < 2) : clQ T p = (some (w, n, []), q) := by
  unfold clQ
  rw [h]
  refine (if_pos h32).trans ?_
  rw [hn]
  exact if_neg hw
theorem clQ_5 {T : List Nat} {p d w n q : Nat} (h : wdQ T p = (some w, d)) (h32 : chr T (p + d) = 32) (hn : numP T (p + d + 1) = some (n, q)) (hw : w < 2) (hb : ¬ chr T q = 32) : clQ T p = (none, q) := by
  unfold clQ
  rw [h]
  refine (if_pos h32).trans ?_
  rw [hn]
  exact (if_pos hw).trans (if_neg hb)
theorem clQ_6 {T : List Nat} {p d w n q z : Nat} {c : List TK} (h : wdQ T p = (some w, d)) (h32 : chr T (p + d) = 32) (hn : numP T (p + d + 1) = some (n, q)) (hw : w < 2) (hb : chr T q = 32) (he : eP T (q + 1) = (false, z, c)) : clQ T p = (none, z) := by
  unfold clQ
  rw [h]
  refine (if_pos h32).trans ?_
  rw [hn]
  refine ((if_pos hw).trans (if_pos hb)).trans ?_
  rw [he]
theorem clQ_7 {T : List Nat} {p d w n q z : Nat} {c : List TK} (h : wdQ T p = (some w, d)) (h32 : chr T (p + d) = 32) (hn : numP T (p + d + 1) = some (n, q)) (hw : w < 2) (hb : chr T q = 32) (he : eP T (q + 1) = (true, z, c)) : clQ T p = (some (w, n, c), z) := by
  unfold clQ
  rw [h]
  refine (if_pos h32).trans ?_
  rw [hn]
  refine ((if_pos hw).trans (if_pos hb)).trans ?_
  rw [he]
theorem yrL_1 {T : List Nat} {r p q : Nat} {cls : List CLS} (h : clQ T p = (none, q)) : yrL T (r + 1) p cls = (none, q) := by
  show (match clQ T p with | (none, q) => _ | (some c, q) => _) = _
  rw [h]
theorem yrL_2 {T : List Nat} {r p q : Nat} {cls : List CLS} {c : CLS} (h : clQ T p = (some c, q)) : yrL T (r + 1) p cls = if q = T.length then (some (cls ++ [c]), q) else if r = 0 ∨ ¬ chr T q = 59 then (none, q) else yrL T r (q + 1) (cls ++ [c]) := by
  show (match clQ T p with | (none, q) => _ | (some c, q) => _) = _
  rw [h]
theorem MYd.qy {y f : Nat} {S S' : SS} {yd : YD} (h : MYd y S yd) (hy : y ≤ f) (hq : QY f S S') : MYd y S' yd := by
  obtain ⟨h1, h2, h3, h4, h5⟩ := h
  refine ⟨h1, h2, h3, h4, fun hpos => ?_⟩
  obtain ⟨g1, g2⟩ := h5 hpos
  refine ⟨by rw [hq.2.2.1 (y - 1) (by omega)]; exact g1, fun i c hc => ?_⟩
  obtain ⟨e1, e2, e3, e4, e5, e6⟩ := g2 i c hc
  refine ⟨e1, by rw [hq.2.2.2.1 10 _ (by decide) (by decide) (by omega)]; exact e2, e3, by rw [hq.2.2.2.1 11 _ (by decide) (by decide) (by omega)]; exact e4, e5, fun hw => ?_⟩
  obtain ⟨fr, d1, d2, d3, d4, d5⟩ := e6 hw
  refine ⟨fr, by rw [hq.2.2.2.1 12 _ (by decide) (by decide) (by omega)]; exact d1, by rw [hq.2.2.2.1 13 _ (by decide) (by decide) (by omega)]; exact d2, d3, fun j t ht => ?_, d5⟩
  have hj := (List.getElem?_eq_some_iff.mp ht).1
  rw [hq.2.2.2.2 _ (by omega)]
  exact d4 j t ht
theorem MSc.qy {f y : Nat} {S S' : SS} {E : EN} {D : DY} (h : MSc S E D) (hq : QY f S S') (yd : YD) (hy : y < 7) (h11 : S' 0 11 = thI y) (hY : MYd y S' yd) : MSc S' (eN E, eK E, eV E, eE E, eR E, eC E, yd) D := by
  obtain ⟨a1, a2, a3, a4, a5, a6, -, a8, a9, a10, a11, a12⟩ := h
  have o : ∀ j, j ≠ 0 → ¬ (9 ≤ j ∧ j ≤ 15) → S' j = S j := hq.1
  refine ⟨by rw [hq.2.1 0 (by decide)]; exact a1, by rw [o 1 (by decide) (by decide)]; exact a2, by rw [o 2 (by decide) (by decide)]; exact a3, by rw [o 4 (by decide) (by decide)]; exact a4, by rw [o 6 (by decide) (by decide)]; exact a5, by rw [o 7 (by decide) (by decide)]; exact a6, ⟨y, hy, h11, hY⟩, by rw [o 3 (by decide) (by decide)]; exact a8, by rw [hq.2.1 2 (by decide)]; exact a9, by rw [hq.2.1 1 (by decide)]; exact a10, a11, by rw [o 5 (by decide) (by decide)]; exact a12⟩
theorem MYd.f0 {y k : Nat} {S : SS} {yd : YD} {x : Int32} (h : MYd y S yd) : MYd y (upS S 0 k x) yd := h.off (fun j h1 h2 => upS_off _ _ _ _ (by omega))
theorem MSc.f0 {S : SS} {E : EN} {D : DY} {k : Nat} {x : Int32} (h : MSc S E D) (hk : k ≠ 0 ∧ k ≠ 1 ∧ k ≠ 2 ∧ k ≠ 11) : MSc (upS S 0 k x) E D := by
  obtain ⟨a1, a2, a3, a4, a5, a6, ⟨y, hy, e, hY⟩, a8, a9, a10, a11, a12⟩ := h
  have o : ∀ j, j ≠ 0 → upS S 0 k x j = S j := fun j hj => upS_off _ _ _ _ hj
  exact ⟨by rw [upS_ne _ _ _ _ (by omega)]; exact a1, by rw [o 1 (by decide)]; exact a2, by rw [o 2 (by decide)]; exact a3, by rw [o 4 (by decide)]; exact a4, by rw [o 6 (by decide)]; exact a5, by rw [o 7 (by decide)]; exact a6, ⟨y, hy, by rw [upS_ne _ _ _ _ (by omega)]; exact e, hY.f0⟩, by rw [o 3 (by decide)]; exact a8, by rw [upS_ne _ _ _ _ (by omega)]; exact a9, by rw [upS_ne _ _ _ _ (by omega)]; exact a10, a11, by rw [o 5 (by decide)]; exact a12⟩
theorem MRel.yardNo {S S' : SS} {L : LL} {σ : SIG} (h : MRel S L σ) (h6 : gC σ < 6) (hq : QY (gC σ) S S') (hok : OKg (wTx σ [])) : MRel (upS S' 0 12 0) L (wTx σ []) := by
  have hyc : sY (gN σ) ≤ gC σ := h.1.2.2.2.1
  obtain ⟨-, a2, ⟨a3, a4, a5⟩, ⟨b1, b2, b3, b4, b5, b6, b7, b8, b9, b10, b11, b12, b13⟩⟩ := h
  have o : ∀ j, j ≠ 0 → ¬ (9 ≤ j ∧ j ≤ 15) → upS S' 0 12 0 j = S j := fun j h0 h1 => (upS_off _ _ _ _ h0).trans (hq.1 j h0 h1)
  have o0 : ∀ k, k ≠ 12 → k ∉ [13, 14, 23, 24, 25] → upS S' 0 12 0 0 k = S 0 k := fun k hk h2 => (upS_ne _ _ _ _ (by omega)).trans (hq.2.1 k h2)
  have hM : MSc S' (gE σ) (gD σ) := a2.qy hq (eY (gE σ)) (y := sY (gN σ)) (by omega) (by rw [hq.2.1 11 (by decide)]; exact b1) ((b7 _ hyc).qy hyc hq)
  refine ⟨hok, hM.f0 (by decide), ⟨by rw [o0 27 (by decide) (by decide)]; exact a3, by rw [o0 29 (by decide) (by decide)]; exact a4, by rw [o0 30 (by decide) (by decide)]; exact a5⟩, by rw [o0 11 (by decide) (by decide)]; exact b1, b2.off (o0 42 (by decide) (by decide)) (o 25 (by decide) (by decide)) (o 26 (by decide) (by decide)) (o 27 (by decide) (by decide)), b3.off (o0 46 (by decide) (by decide)) (o 28 (by decide) (by decide)) (o 29 (by decide) (by decide)), fun e => (b4 e).off (fun j h1 h2 => o j (by omega) (by omega)) (fun k h1 h2 => o0 k (by omega) (by simp; omega)), by rw [o0 49 (by decide) (by decide)]; exact b5, by rw [o0 10 (by decide) (by decide)]; exact b6, fun y hy => ((b7 y hy).qy hy hq).f0, upS_at _ _ _ _, fun i q hi => absurd hi (by show ¬ ([] : List Nat)[i]? = some q; simp), by rw [o0 68 (by decide) (by decide)]; exact b10, by rw [o 42 (by decide) (by decide)]; exact b11, fun t ht => by rw [o 43 (by decide) (by decide), o 44 (by decide) (by decide)]; exact b12 t ht, by unfold MLt; rw [o 16 (by decide) (by decide)]; exact b13⟩
theorem MRel.yardOK {S S' : SS} {L : LL} {σ : SIG} {cls : List CLS} (h : MRel S L σ) (h6 : gC σ < 6) (hq : QY (gC σ) S S') (hY1 : MYd (gC σ + 1) S' (yQd cls)) (hok : OKg (wYd σ (yQd cls))) : MRel (upS (upS (upS S' 0 12 0) 0 11 (nI (gC σ))) 0 10 (nI (gC σ + 1))) L (wYd σ (yQd cls)) := by
  obtain ⟨-, a2, ⟨a3, a4, a5⟩, ⟨b1, b2, b3, b4, b5, b6, b7, b8, b9, b10, b11, b12, b13⟩⟩ := h
  have o : ∀ j, j ≠ 0 → ¬ (9 ≤ j ∧ j ≤ 15) → upS (upS (upS S' 0 12 0) 0 11 (nI (gC σ))) 0 10 (nI (gC σ + 1)) j = S j := fun j h0 h1 => by rw [upS_off _ _ _ _ h0, upS_off _ _ _ _ h0, upS_off _ _ _ _ h0]; exact hq.1 j h0 h1
  have o0 : ∀ k, k ≠ 12 → k ≠ 11 → k ≠ 10 → k ∉ [13, 14, 23, 24, 25] → upS (upS (upS S' 0 12 0) 0 11 (nI (gC σ))) 0 10 (nI (gC σ + 1)) 0 k = S 0 k := fun k h1 h2 h3 h4 => by rw [upS_ne _ _ _ _ (by omega), upS_ne _ _ _ _ (by omega), upS_ne _ _ _ _ (by omega)]; exact hq.2.1 k h4
  have e11 : upS (upS (upS S' 0 12 0) 0 11 (nI (gC σ))) 0 10 (nI (gC σ + 1)) 0 11 = thI (gC σ + 1) := by
    rw [upS_ne _ _ _ _ (by omega), upS_at]
    exact (if_neg (by omega)).symm
  have hYf : ∀ {y : Nat} {yd : YD}, MYd y S' yd → MYd y (upS (upS (upS S' 0 12 0) 0 11 (nI (gC σ))) 0 10 (nI (gC σ + 1))) yd := fun g => g.f0.f0.f0
  have hgY : gY (wYd σ (yQd cls)) (gC σ + 1) = yQd cls := if_pos rfl
  have hgO : ∀ y, y ≤ gC σ → gY (wYd σ (yQd cls)) y = gY σ y := fun y hy => if_neg (by omega)
  obtain ⟨c1, c2, c3, c4, c5, c6, -, c8, c9, c10, c11, c12⟩ := a2
  have hM : MSc (upS (upS (upS S' 0 12 0) 0 11 (nI (gC σ))) 0 10 (nI (gC σ + 1))) (gE (wYd σ (yQd cls))) (gD (wYd σ (yQd cls))) := by
    refine ⟨by rw [o0 0 (by decide) (by decide) (by decide) (by decide)]; exact c1, by rw [o 1 (by decide) (by decide)]; exact c2, by rw [o 2 (by decide) (by decide)]; exact c3, by rw [o 4 (by decide) (by decide)]; exact c4, by rw [o 6 (by decide) (by decide)]; exact c5, by rw [o 7 (by decide) (by decide)]; exact c6, ⟨gC σ + 1, by omega, e11, hYf ?_⟩, by rw [o 3 (by decide) (by decide)]; exact c8, by rw [o0 2 (by decide) (by decide) (by decide) (by decide)]; exact c9, by rw [o0 1 (by decide) (by decide) (by decide) (by decide)]; exact c10, c11, by rw [o 5 (by decide) (by decide)]; exact c12⟩
    show MYd (gC σ + 1) S' (gY (wYd σ (yQd cls)) (gC σ + 1))
    rw [hgY]
    exact hY1
  refine ⟨hok, hM, ⟨by rw [o0 27 (by decide) (by decide) (by decide) (by decide)]; exact a3, by rw [o0 29 (by decide) (by decide) (by decide) (by decide)]; exact a4, by rw [o0 30 (by decide) (by decide) (by decide) (by decide)]; exact a5⟩, e11, b2.off (o0 42 (by decide) (by decide) (by decide) (by decide)) (o 25 (by decide) (by decide)) (o 26 (by decide) (by decide)) (o 27 (by decide) (by decide)), b3.off (o0 46 (by decide) (by decide) (by decide) (by decide)) (o 28 (by decide) (by decide)) (o 29 (by decide) (by decide)), fun e => (b4 e).off (fun j h1 h2 => o j (by omega) (by omega)) (fun k h1 h2 => o0 k (by omega) (by omega) (by omega) (by simp; omega)), by rw [o0 49 (by decide) (by decide) (by decide) (by decide)]; exact b5, upS_at _ _ _ _, fun y hy => ?_, by rw [upS_ne _ _ _ _ (by omega), upS_ne _ _ _ _ (by omega), upS_at]; rfl, fun i q hi => absurd hi (by show ¬ ([] : List Nat)[i]? = some q; simp), by rw [o0 68 (by decide) (by decide) (by decide) (by decide)]; exact b10, by rw [o 42 (by decide) (by decide)]; exact b11, fun t ht => by rw [o 43 (by decide) (by decide), o 44 (by decide) (by decide)]; exact b12 t ht, by unfold MLt; rw [o 16 (by decide) (by decide)]; exact b13⟩
  have hy : y ≤ gC σ + 1 := hy
  rcases (show y = gC σ + 1 ∨ y ≤ gC σ by omega) with e | e
  · rw [e, hgY]
    exact hYf hY1
  · rw [hgO y e]
    exact hYf ((b7 y e).qy e hq)

set_option maxRecDepth 20000 in
set_option maxHeartbeats 1000000 in
theorem m_takesWord (g : GG) (f : Nat) (T : List Nat) (p : Nat) (cs : List TK) (w fr : Nat) (a m : Int32) (S : SS) (L : LL) (hP : PrM f T S p cs) (hL : MLt S) (hw : w < 5) (hfr : fr = [0, 6, 11, 14, 19].getD w 0) (ha : a = nI fr) (hm : m = nI (wB w).length) : Ci g 2 mX12_takesWord [.ref 0, .int a, .int m] SHM S L (fun x S' L' => WdM f T p cs w S x S' ∧ L' = L) := by
  obtain ⟨hl1, hl2⟩ := ltr_le w hw
  rw [← hfr] at hl1
  refine ct_of (ls := [some (.ref 0), some (.int a), some (.int m), none]) 1 (by decide +kernel) rfl rfl ?_
  subst ha hm
  have loop : ∀ (r i : Nat) (S1 : SS), i + r = (wB w).length → PrM f T S1 (p + i) cs → Fr [] [13] S S1 → i + cpre T (p + i) ((wB w).drop i) = cpre T p (wB w) → Rx g 2 0 0 mX12_takesWord SHM.length (fun r sh' S' L' => sh' = SHM ∧ ∃ x, r = some (.int x) ∧ (WdM f T p cs w S x S' ∧ L' = L)) 0 0 2 [some (.ref 0), some (.int (nI fr)), some (.int (nI (wB w).length)), some (.int (nI i))] [] SHM S1 L := by
    intro r
    induction r with
    | zero =>
      intro i S1 he hP1 hF hev
      refine rx_iload_n dX12_takesWord_2 rfl ?_
      refine rx_iload_n dX12_takesWord_3 rfl ?_
      refine rx_icmp_ge 30 dX12_takesWord_4 (by decide) (fun h4 => ?_) (fun h4 => absurd (nI_le (by omega) (by omega)) h4)
      refine rx_aload_n dX12_takesWord_30 rfl ?_
      refine rx_bipush (32) dX12_takesWord_31 (by decide) ?_
      refine rx_cVi_1 clX12_251 dX12_takesWord_33 (rcvo (sM_0) rfl) rfl (m_takes g f T (p + i) cs 32 S1 L hP1) ?_
      rintro x2 S2 L2 ⟨⟨hx2, hy2, hn2⟩, hL2⟩
      rw [hL2]
      have hi : i = (wB w).length := by omega
      have hcp : cpre T p (wB w) = (wB w).length := by rw [← hev, List.drop_of_length_le (by omega)]; show i + 0 = _; omega
      exact rx_zret dX12_takesWord_36 rfl (by rcases hx2 with e | e <;> rw [e] <;> rfl) ⟨Nat.le_refl _, Nat.le_refl _⟩ ⟨rfl, _, rfl, ⟨⟨hx2, fun q => ⟨hcp, by rw [← hi]; exact (hy2 q).1, by rw [(hy2 q).2, ← hi]; exact hP1.put (by omega) (chr_in (hy2 q).1 (by decide))⟩, fun q => Or.inl ⟨hcp, by rw [← hi]; exact (hn2 q).1, by rw [(hn2 q).2, ← hi]; exact hP1.2.2.2.1⟩, by rcases hx2 with e | e; (rw [(hn2 e).2]; exact hF); (rw [(hy2 (by rw [e]; decide)).2]; exact hF.up0 (by decide))⟩, rfl⟩⟩
    | succ r ih =>
      intro i S1 he hP1 hF hev
      have hdr := wB_dr (w := w) (i := i) (by omega)
      have hxc : (nI (fr + i)).toNatClampNeg = fr + i := nI_clamp (by omega)
      have hne : ¬ (wB w).getD i 0 = -1 := (wB_ok w hw).1 _ (by rw [List.getD_eq_getElem?_getD, List.getElem?_eq_getElem (by omega)]; exact List.getElem_mem _)
      have hl16 : S1 16 (fr + i) = (wB w).getD i 0 := by rw [hF.1 16 (by decide) (by simp), hL (fr + i) (by omega), hfr]; exact ltr_ok w hw i (by omega)
      refine rx_iload_n dX12_takesWord_2 rfl ?_
      refine rx_iload_n dX12_takesWord_3 rfl ?_
      refine rx_icmp_ge 30 dX12_takesWord_4 (by decide) (fun h4 => absurd h4 (nI_ge (by omega) (by omega))) (fun h4 => ?_)
      refine rx_aload_n dX12_takesWord_7 rfl ?_
      refine rx_aload_n dX12_takesWord_8 rfl ?_
      refine rx_getR dX12_takesWord_9 flX12_89 (sM_0) rfl ?_
      refine rx_iload_n dX12_takesWord_12 rfl ?_
      refine rx_iload_n dX12_takesWord_13 rfl ?_
      refine rx_iadd dX12_takesWord_14 ?_
      rw [nI_add]
      refine rx_iaload dX12_takesWord_15 (sM_16) (vp_in_nI (by omega) (by omega)) ?_
      rw [hxc, hl16]
      refine rx_cVi_1 clX12_251 dX12_takesWord_16 (rcvo (sM_0) rfl) rfl (m_takes g f T (p + i) cs ((wB w).getD i 0) S1 L hP1) ?_
      rintro x2 S2 L2 ⟨⟨hx2, hy2, hn2⟩, hL2⟩
      rw [hL2]
      refine rx_if_ne 24 dX12_takesWord_19 (by decide) (fun h19 => ?_) (fun h19 => ?_)
      · refine rx_iinc_3 (1) rfl dX12_takesWord_24 (by decide) ?_
        refine rx_goto 2 dX12_takesWord_27 (by decide) ?_
        rw [nI_1]
        obtain ⟨y1, y2⟩ := hy2 h19
        refine ih (i + 1) S2 (by omega) (by rw [y2]; exact hP1.put (by omega) (chr_in y1 hne)) (by rw [y2]; exact hF.up0 (by decide)) ?_
        rw [← hev, hdr]
        show _ = i + (if _ then _ else 0)
        rw [if_pos y1]
        show i + 1 + cpre T (p + (i + 1)) _ = i + (1 + cpre T (p + i + 1) _)
        rw [show p + (i + 1) = p + i + 1 by omega]
        omega
      · refine rx_iconst (0) dX12_takesWord_22 (by decide) ?_
        exact rx_zret dX12_takesWord_23 rfl (by decide) ⟨Nat.le_refl _, Nat.le_refl _⟩ ⟨rfl, _, rfl, ⟨⟨Or.inl rfl, fun q => absurd rfl q, fun _ => Or.inr (by have e : cpre T p (wB w) = i := (by rw [← hev, hdr]; show i + (if _ then _ else 0) = i; rw [if_neg (hn2 h19).1]; rfl); rw [e]; exact ⟨by omega, by rw [(hn2 h19).2]; exact hP1.2.2.2.1⟩), by rw [(hn2 h19).2]; exact hF⟩, rfl⟩⟩
  refine rx_iconst (0) dX12_takesWord_0 (by decide) ?_
  refine rx_istore_3 rfl dX12_takesWord_1 ?_
  exact loop (wB w).length 0 S (by omega) hP Fr.refl (by simp)
set_option maxRecDepth 20000 in
set_option maxHeartbeats 1000000 in
theorem m_takesHead (g : GG) (f : Nat) (T : List Nat) (p : Nat) (cs : List TK) (c : Nat) (S : SS) (L : LL) (hP : PrM f T S p cs) (hL : MLt S) (hc : c < 60) : Ci g 3 mX12_takesHead [.ref 0, .int (nI c)] SHM S L (fun x S' L' => HdM c f T p cs S x S' ∧ L' = L) := by
  have hcc : (nI c).toNatClampNeg = c := nI_clamp (by omega)
  have hcv : vp_in (nI c) 60 := vp_in_nI hc (by omega)
  refine ct_of (ls := [some (.ref 0), some (.int (nI c))]) 0 (by decide +kernel) rfl rfl ?_
  refine rx_aload_n dX12_takesHead_0 rfl ?_
  refine rx_cVi_0 clX12_248 dX12_takesHead_1 (rcvo (sM_0) rfl) rfl (m_next g f T p cs S L hP) ?_
  refine pur3 ?_
  by_cases h119 : chr T p = 119
  · have hwm : wdM T p = 0 := if_pos h119
    refine rx_lookup 32 dX12_takesHead_4 (by decide) (show Op.lookupswitch.offset _ _ (chr T p).toInt = 28 from by rw [h119]; decide +kernel) (by decide) ?_
    refine rx_aload_n dX12_takesHead_32 rfl ?_
    refine rx_getR dX12_takesHead_33 flX12_62 (sM_0) rfl ?_
    refine rx_iload_n dX12_takesHead_36 rfl ?_
    refine rx_iconst (0) dX12_takesHead_37 (by decide) ?_
    refine rx_iastore dX12_takesHead_38 (sM_10) hcv ?_
    rw [hcc]
    refine rx_aload_n dX12_takesHead_39 rfl ?_
    refine rx_iconst (0) dX12_takesHead_40 (by decide) ?_
    refine rx_bipush (6) dX12_takesHead_41 (by decide) ?_
    refine rx_cVi_2 clX12_278 dX12_takesHead_43 (rcvo (sM_0) rfl) rfl (m_takesWord g f T p cs 0 _ _ _ (upS S 10 c 0) L hP.up10 (by unfold MLt; rw [upS_off _ _ _ _ (by decide)]; exact hL) (by decide) rfl rfl rfl) ?_
    rintro x2 S2 L2 ⟨hw2, hL2⟩
    rw [hL2]
    have hH := WdM.hd (c := c) (S := S) (w := 0) (by decide) hwm hw2
    exact rx_zret dX12_takesHead_46 rfl (by rcases hH.1 with e | e <;> rw [e] <;> rfl) ⟨Nat.le_refl _, Nat.le_refl _⟩ ⟨rfl, _, rfl, ⟨hH, rfl⟩⟩
  · by_cases h102 : chr T p = 102
    · have hwm : wdM T p = 2 := (if_neg h119).trans (if_pos h102)
      refine rx_lookup 47 dX12_takesHead_4 (by decide) (show Op.lookupswitch.offset _ _ (chr T p).toInt = 43 from by rw [h102]; decide +kernel) (by decide) ?_
      refine rx_aload_n dX12_takesHead_47 rfl ?_
      refine rx_getR dX12_takesHead_48 flX12_62 (sM_0) rfl ?_
      refine rx_iload_n dX12_takesHead_51 rfl ?_
      refine rx_iconst (2) dX12_takesHead_52 (by decide) ?_
      refine rx_iastore dX12_takesHead_53 (sM_10) hcv ?_
      rw [hcc]
      refine rx_aload_n dX12_takesHead_54 rfl ?_
      refine rx_bipush (11) dX12_takesHead_55 (by decide) ?_
      refine rx_iconst (3) dX12_takesHead_57 (by decide) ?_
      refine rx_cVi_2 clX12_278 dX12_takesHead_58 (rcvo (sM_0) rfl) rfl (m_takesWord g f T p cs 2 _ _ _ (upS S 10 c 2) L hP.up10 (by unfold MLt; rw [upS_off _ _ _ _ (by decide)]; exact hL) (by decide) rfl rfl rfl) ?_
      rintro x2 S2 L2 ⟨hw2, hL2⟩
      rw [hL2]
      have hH := WdM.hd (c := c) (S := S) (w := 2) (by decide) hwm hw2
      exact rx_zret dX12_takesHead_61 rfl (by rcases hH.1 with e | e <;> rw [e] <;> rfl) ⟨Nat.le_refl _, Nat.le_refl _⟩ ⟨rfl, _, rfl, ⟨hH, rfl⟩⟩
    · refine rx_lookup 62 dX12_takesHead_4 (by decide) (look2 h102 h119) (by decide) ?_
      refine rx_aload_n dX12_takesHead_62 rfl ?_
      refine rx_getR dX12_takesHead_63 flX12_62 (sM_0) rfl ?_
      refine rx_iload_n dX12_takesHead_66 rfl ?_
      refine rx_aload_n dX12_takesHead_67 rfl ?_
      refine rx_cVi_0 clX12_282 dX12_takesHead_68 (rcvo (sM_0) rfl) rfl (m_second g f T p cs S L hP) ?_
      refine pur3 ?_
      refine rx_bipush (116) dX12_takesHead_71 (by decide) ?_
      refine rx_icmp_ne 80 dX12_takesHead_73 (by decide) (fun h73 => ?_) (fun h73 => ?_)
      · refine rx_aload_n dX12_takesHead_80 rfl ?_
        refine rx_cVi_0 clX12_282 dX12_takesHead_81 (rcvo (sM_0) rfl) rfl (m_second g f T p cs S L hP) ?_
        refine pur3 ?_
        refine rx_bipush (104) dX12_takesHead_84 (by decide) ?_
        refine rx_icmp_ne 93 dX12_takesHead_86 (by decide) (fun h86 => ?_) (fun h86 => ?_)
        · have hwm : wdM T p = 4 := (if_neg h119).trans ((if_neg h102).trans ((if_neg h73).trans (if_neg h86)))
          refine rx_iconst (4) dX12_takesHead_93 (by decide) ?_
          refine rx_iastore dX12_takesHead_94 (sM_10) hcv ?_
          rw [hcc]
          refine rx_aload_n dX12_takesHead_95 rfl ?_
          refine rx_getR dX12_takesHead_96 flX12_62 (sM_0) rfl ?_
          refine rx_iload_n dX12_takesHead_99 rfl ?_
          refine rx_iaload dX12_takesHead_100 (sM_10) hcv ?_
          rw [hcc, upS_at]
          refine rx_iconst (1) dX12_takesHead_101 (by decide) ?_
          refine rx_icmp_ne 115 dX12_takesHead_102 (by decide) (fun h102 => ?_) (fun h102 => absurd h102 (by decide))
          refine rx_aload_n dX12_takesHead_115 rfl ?_
          refine rx_getR dX12_takesHead_116 flX12_62 (sM_0) rfl ?_
          refine rx_iload_n dX12_takesHead_119 rfl ?_
          refine rx_iaload dX12_takesHead_120 (sM_10) hcv ?_
          rw [hcc, upS_at]
          refine rx_iconst (3) dX12_takesHead_121 (by decide) ?_
          refine rx_icmp_ne 135 dX12_takesHead_122 (by decide) (fun h122 => ?_) (fun h122 => absurd h122 (by decide))
          refine rx_aload_n dX12_takesHead_135 rfl ?_
          refine rx_bipush (19) dX12_takesHead_136 (by decide) ?_
          refine rx_iconst (4) dX12_takesHead_138 (by decide) ?_
          refine rx_cVi_2 clX12_278 dX12_takesHead_139 (rcvo (sM_0) rfl) rfl (m_takesWord g f T p cs 4 _ _ _ (upS S 10 c 4) L hP.up10 (by unfold MLt; rw [upS_off _ _ _ _ (by decide)]; exact hL) (by decide) rfl rfl rfl) ?_
          rintro x2 S2 L2 ⟨hw2, hL2⟩
          rw [hL2]
          have hH := WdM.hd (c := c) (S := S) (w := 4) (by decide) hwm hw2
          exact rx_zret dX12_takesHead_142 rfl (by rcases hH.1 with e | e <;> rw [e] <;> rfl) ⟨Nat.le_refl _, Nat.le_refl _⟩ ⟨rfl, _, rfl, ⟨hH, rfl⟩⟩
        · have hwm : wdM T p = 3 := (if_neg h119).trans ((if_neg h102).trans ((if_neg h73).trans (if_pos h86)))
          refine rx_iconst (3) dX12_takesHead_89 (by decide) ?_
          refine rx_goto 94 dX12_takesHead_90 (by decide) ?_
          refine rx_iastore dX12_takesHead_94 (sM_10) hcv ?_
          rw [hcc]
          refine rx_aload_n dX12_takesHead_95 rfl ?_
          refine rx_getR dX12_takesHead_96 flX12_62 (sM_0) rfl ?_
          refine rx_iload_n dX12_takesHead_99 rfl ?_
          refine rx_iaload dX12_takesHead_100 (sM_10) hcv ?_
          rw [hcc, upS_at]
          refine rx_iconst (1) dX12_takesHead_101 (by decide) ?_
          refine rx_icmp_ne 115 dX12_takesHead_102 (by decide) (fun h102 => ?_) (fun h102 => absurd h102 (by decide))
          refine rx_aload_n dX12_takesHead_115 rfl ?_
          refine rx_getR dX12_takesHead_116 flX12_62 (sM_0) rfl ?_
          refine rx_iload_n dX12_takesHead_119 rfl ?_
          refine rx_iaload dX12_takesHead_120 (sM_10) hcv ?_
          rw [hcc, upS_at]
          refine rx_iconst (3) dX12_takesHead_121 (by decide) ?_
          refine rx_icmp_ne 135 dX12_takesHead_122 (by decide) (fun h122 => absurd rfl h122) (fun h122 => ?_)
          refine rx_aload_n dX12_takesHead_125 rfl ?_
          refine rx_bipush (14) dX12_takesHead_126 (by decide) ?_
          refine rx_iconst (5) dX12_takesHead_128 (by decide) ?_
          refine rx_cVi_2 clX12_278 dX12_takesHead_129 (rcvo (sM_0) rfl) rfl (m_takesWord g f T p cs 3 _ _ _ (upS S 10 c 3) L hP.up10 (by unfold MLt; rw [upS_off _ _ _ _ (by decide)]; exact hL) (by decide) rfl rfl rfl) ?_
          rintro x2 S2 L2 ⟨hw2, hL2⟩
          rw [hL2]
          have hH := WdM.hd (c := c) (S := S) (w := 3) (by decide) hwm hw2
          refine rx_goto 142 dX12_takesHead_132 (by decide) ?_
          exact rx_zret dX12_takesHead_142 rfl (by rcases hH.1 with e | e <;> rw [e] <;> rfl) ⟨Nat.le_refl _, Nat.le_refl _⟩ ⟨rfl, _, rfl, ⟨hH, rfl⟩⟩
      · have hwm : wdM T p = 1 := (if_neg h119).trans ((if_neg h102).trans (if_pos h73))
        refine rx_iconst (1) dX12_takesHead_76 (by decide) ?_
        refine rx_goto 94 dX12_takesHead_77 (by decide) ?_
        refine rx_iastore dX12_takesHead_94 (sM_10) hcv ?_
        rw [hcc]
        refine rx_aload_n dX12_takesHead_95 rfl ?_
        refine rx_getR dX12_takesHead_96 flX12_62 (sM_0) rfl ?_
        refine rx_iload_n dX12_takesHead_99 rfl ?_
        refine rx_iaload dX12_takesHead_100 (sM_10) hcv ?_
        rw [hcc, upS_at]
        refine rx_iconst (1) dX12_takesHead_101 (by decide) ?_
        refine rx_icmp_ne 115 dX12_takesHead_102 (by decide) (fun h102 => absurd rfl h102) (fun h102 => ?_)
        refine rx_aload_n dX12_takesHead_105 rfl ?_
        refine rx_bipush (6) dX12_takesHead_106 (by decide) ?_
        refine rx_iconst (5) dX12_takesHead_108 (by decide) ?_
        refine rx_cVi_2 clX12_278 dX12_takesHead_109 (rcvo (sM_0) rfl) rfl (m_takesWord g f T p cs 1 _ _ _ (upS S 10 c 1) L hP.up10 (by unfold MLt; rw [upS_off _ _ _ _ (by decide)]; exact hL) (by decide) rfl rfl rfl) ?_
        rintro x2 S2 L2 ⟨hw2, hL2⟩
        rw [hL2]
        have hH := WdM.hd (c := c) (S := S) (w := 1) (by decide) hwm hw2
        refine rx_goto 142 dX12_takesHead_112 (by decide) ?_
        exact rx_zret dX12_takesHead_142 rfl (by rcases hH.1 with e | e <;> rw [e] <;> rfl) ⟨Nat.le_refl _, Nat.le_refl _⟩ ⟨rfl, _, rfl, ⟨hH, rfl⟩⟩
set_option maxRecDepth 20000 in
set_option maxHeartbeats 1000000 in
theorem m_takesClause (g : GG) (f : Nat) (T : List Nat) (p : Nat) (cs : List TK) (c : Nat) (S : SS) (L : LL) (hP : PrM f T S p cs) (hL : MLt S) (hc : c < 60) : Ci g 5 mX12_takesClause [.ref 0, .int (nI c)] SHM S L (fun x S' L' => ((x = 0 ∨ x = 1) ∧ (¬ x = 0 → ∃ cl q more, clQ T p = (some cl, q) ∧ PrM f T S' q (cs ++ more) ∧ McQ c f S' (cs ++ more) cl) ∧ (x = 0 → ∃ q, clQ T p = (none, q) ∧ S' 0 13 = nI q) ∧ QF c f S S') ∧ L' = L) := by
  have hcc : (nI c).toNatClampNeg = c := nI_clamp (by omega)
  have hcv : vp_in (nI c) 60 := vp_in_nI hc (by omega)
  refine ct_of (ls := [some (.ref 0), some (.int (nI c))]) 0 (by decide +kernel) rfl rfl ?_
  refine rx_aload_n dX12_takesClause_0 rfl ?_
  refine rx_iload_n dX12_takesClause_1 rfl ?_
  refine rx_cVi_1 clX12_285 dX12_takesClause_2 (rcvo (sM_0) rfl) rfl (m_takesHead g f T p cs c S L hP hL hc) ?_
  rintro x2 S2 L2 ⟨⟨hx2, hy2, hn2, hF2⟩, hL2⟩
  rw [hL2]
  refine rx_if_eq 15 dX12_takesClause_5 (by decide) (fun h5 => ?_) (fun h5 => ?_)
  · refine rx_iconst (0) dX12_takesClause_15 (by decide) ?_
    exact rx_zret dX12_takesClause_16 rfl (by decide) ⟨Nat.le_refl _, Nat.le_refl _⟩ ⟨rfl, _, rfl, ⟨⟨Or.inl rfl, fun q => absurd rfl q, fun _ => by rcases hn2 h5 with ⟨w, hw5, hwd, h32, e13⟩ | ⟨d, hwd, e13⟩; exact ⟨_, clQ_2 hwd h32, e13⟩; exact ⟨_, clQ_1 hwd, e13⟩, hF2⟩, rfl⟩⟩
  · obtain ⟨w, hw5, hwd, h32, hP2, e10⟩ := hy2 h5
    refine rx_aload_n dX12_takesClause_8 rfl ?_
    refine rx_cVi_0 clX12_266 dX12_takesClause_9 (rcvo (sM_0) rfl) rfl (m_takesNumber g f T (p + (wB w).length + 1) cs S2 L hP2) ?_
    rintro x3 S3 L3 ⟨⟨hx3, hy3, hn3, hF3⟩, hL3⟩
    rw [hL3]
    have hq3 : QF c f S S3 := hF2.trans (QE.of hF3).qf
    refine rx_if_ne 17 dX12_takesClause_12 (by decide) (fun h12 => ?_) (fun h12 => ?_)
    · obtain ⟨n, q, hnq, hn1, hpq, hqT, hP3, e14⟩ := hy3 h12
      have e10b : S3 10 c = nI w := (congrFun (hF3.1 10 (by decide) (by simp)) c).trans e10
      have hq4 : QF c f S (upS S3 11 c (nI n)) := hq3.upc (by decide) (by decide)
      refine rx_aload_n dX12_takesClause_17 rfl ?_
      refine rx_getR dX12_takesClause_18 flX12_65 (sM_0) rfl ?_
      refine rx_iload_n dX12_takesClause_21 rfl ?_
      refine rx_aload_n dX12_takesClause_22 rfl ?_
      refine rx_getI dX12_takesClause_23 flX12_53 (sM_0) rfl ?_
      rw [e14]
      refine rx_iastore dX12_takesClause_26 (sM_11) hcv ?_
      rw [hcc]
      refine rx_aload_n dX12_takesClause_27 rfl ?_
      refine rx_getR dX12_takesClause_28 flX12_62 (sM_0) rfl ?_
      refine rx_iload_n dX12_takesClause_31 rfl ?_
      refine rx_iaload dX12_takesClause_32 (sM_10) hcv ?_
      rw [hcc, upS_off _ _ _ _ (by decide : (10 : Nat) ≠ 11), e10b]
      refine rx_iconst (2) dX12_takesClause_33 (by decide) ?_
      refine rx_icmp_ge 54 dX12_takesClause_34 (by decide) (fun h34 => ?_) (fun h34 => ?_)
      · have hw2 : ¬ w < 2 := fun q => absurd h34 (nI_ge (b := 2) q (by omega))
        refine rx_iconst (1) dX12_takesClause_54 (by decide) ?_
        refine rx_goto 59 dX12_takesClause_55 (by decide) ?_
        exact rx_zret dX12_takesClause_59 rfl (by decide) ⟨Nat.le_refl _, Nat.le_refl _⟩ ⟨rfl, _, rfl, ⟨⟨Or.inr rfl, fun _ => ⟨(w, n, []), q, [], clQ_4 hwd h32 hnq hw2, by rw [List.append_nil]; exact hP3.up11, (congrFun (upS_off _ _ _ _ (by decide)) c).trans e10b, hw5, upS_at _ _ _ _, hn1, fun q => absurd q hw2⟩, fun q => absurd q (by decide), hq4⟩, rfl⟩⟩
      · have hw2 : w < 2 := Nat.lt_of_not_le fun q => h34 (nI_le (a := 2) q (by omega))
        refine rx_aload_n dX12_takesClause_37 rfl ?_
        refine rx_bipush (32) dX12_takesClause_38 (by decide) ?_
        refine rx_cVi_1 clX12_251 dX12_takesClause_40 (rcvo (sM_0) rfl) rfl (m_takes g f T q cs 32 _ L hP3.up11) ?_
        rintro x5 S5 L5 ⟨⟨hx5, hy5, hn5⟩, hL5⟩
        rw [hL5]
        refine rx_if_eq 58 dX12_takesClause_43 (by decide) (fun h43 => ?_) (fun h43 => ?_)
        · refine rx_iconst (0) dX12_takesClause_58 (by decide) ?_
          exact rx_zret dX12_takesClause_59 rfl (by decide) ⟨Nat.le_refl _, Nat.le_refl _⟩ ⟨rfl, _, rfl, ⟨⟨Or.inl rfl, fun q => absurd rfl q, fun _ => ⟨_, clQ_5 hwd h32 hnq hw2 (hn5 h43).1, by rw [(hn5 h43).2]; exact hP3.up11.2.2.2.1⟩, (by rw [(hn5 h43).2]; exact hq4)⟩, rfl⟩⟩
        · obtain ⟨hc32, eS5⟩ := hy5 h43
          have hP5 : PrM f T S5 (q + 1) cs := by rw [eS5]; exact hP3.up11.put (by omega) (chr_in hc32 (by decide))
          have hq5 : QF c f S S5 := by rw [eS5]; exact hq4.up0 (by decide)
          refine rx_aload_n dX12_takesClause_46 rfl ?_
          refine rx_iload_n dX12_takesClause_47 rfl ?_
          refine rx_cVi_1 clX12_288 dX12_takesClause_48 (rcvo (sM_0) rfl) rfl (m_takesE g f T (q + 1) cs c S5 L hP5 hc) ?_
          rintro x6 S6 L6 ⟨⟨hx6, hy6, hn6, hF6, r10, r11⟩, hL6⟩
          rw [hL6]
          refine rx_if_eq 58 dX12_takesClause_51 (by decide) (fun h51 => ?_) (fun h51 => ?_)
          · refine rx_iconst (0) dX12_takesClause_58 (by decide) ?_
            exact rx_zret dX12_takesClause_59 rfl (by decide) ⟨Nat.le_refl _, Nat.le_refl _⟩ ⟨rfl, _, rfl, ⟨⟨Or.inl rfl, fun q => absurd rfl q, fun _ => by obtain ⟨z, toks, he, e13⟩ := hn6 h51; exact ⟨z, clQ_6 hwd h32 hnq hw2 hc32 he, e13⟩, hq5.trans hF6⟩, rfl⟩⟩
          · obtain ⟨z, toks, he, hP6, e12, e13⟩ := hy6 h51
            refine rx_iconst (1) dX12_takesClause_54 (by decide) ?_
            refine rx_goto 59 dX12_takesClause_55 (by decide) ?_
            exact rx_zret dX12_takesClause_59 rfl (by decide) ⟨Nat.le_refl _, Nat.le_refl _⟩ ⟨rfl, _, rfl, ⟨⟨Or.inr rfl, fun _ => ⟨(w, n, toks), z, toks, clQ_7 hwd h32 hnq hw2 hc32 he, hP6, (by rw [r10, eS5]; simp (disch := omega) only [upS_off]; exact e10b), hw5, (by rw [r11, eS5, upS_off _ _ _ _ (by decide : (11 : Nat) ≠ 0), upS_at]), hn1, fun _ => ⟨cs.length, e12, e13, by rw [List.length_append]; exact Nat.le_refl _, fun j t ht => by rw [List.getElem?_append_right (by omega), Nat.add_sub_cancel_left]; exact ht⟩⟩, fun q => absurd q (by decide), hq5.trans hF6⟩, rfl⟩⟩
    · refine rx_iconst (0) dX12_takesClause_15 (by decide) ?_
      exact rx_zret dX12_takesClause_16 rfl (by decide) ⟨Nat.le_refl _, Nat.le_refl _⟩ ⟨rfl, _, rfl, ⟨⟨Or.inl rfl, fun q => absurd rfl q, fun _ => ⟨_, clQ_3 hwd h32 (hn3 h12).1, by rw [(hn3 h12).2]; exact hP2.2.2.2.1⟩, hq3⟩, rfl⟩⟩
set_option maxRecDepth 20000 in
set_option maxHeartbeats 1000000 in
theorem m_goesText (g : GG) (f : Nat) (T : List Nat) (S : SS) (L : LL) (z1 : S 0 12 = nI T.length) (z2 : ∀ i q, T[i]? = some q → S 8 i = nI q) (z3 : T.length ≤ 100) (z9 : ∀ q ∈ T, q < 128) (hf : f < 6) (hL : MLt S) : Ci g 6 mX12_goesText [.ref 0, .int (nI f)] SHM S L (fun x S' L' => ((x = 0 ∨ x = 1) ∧ (¬ x = 0 → ∃ cls q cs, yrQ T = (some cls, q) ∧ PrM f T S' q cs ∧ cls.length ≤ 10 ∧ S' 9 f = nI cls.length ∧ ∀ i cl, cls[i]? = some cl → McQ (10 * f + i) f S' cs cl) ∧ (x = 0 → ∃ q, yrQ T = (none, q) ∧ S' 0 13 = nI q) ∧ QY f S S') ∧ L' = L) := by
  have hfc : (nI f).toNatClampNeg = f := nI_clamp (by omega)
  refine ct_of (ls := [some (.ref 0), some (.int (nI f)), none]) 1 (by decide +kernel) rfl rfl ?_
  have loop : ∀ (r : Nat) (cls : List CLS) (p1 : Nat) (cs1 : List TK) (S1 : SS), cls.length + (r + 1) = 10 → PrM f T S1 p1 cs1 → (∀ i c, cls[i]? = some c → McQ (10 * f + i) f S1 cs1 c) → QY f S S1 → yrL T (r + 1) p1 cls = yrQ T → Rx g 6 0 0 mX12_goesText SHM.length (fun r sh' S' L' => sh' = SHM ∧ ∃ x, r = some (.int x) ∧ (((x = 0 ∨ x = 1) ∧ (¬ x = 0 → ∃ cls q cs, yrQ T = (some cls, q) ∧ PrM f T S' q cs ∧ cls.length ≤ 10 ∧ S' 9 f = nI cls.length ∧ ∀ i cl, cls[i]? = some cl → McQ (10 * f + i) f S' cs cl) ∧ (x = 0 → ∃ q, yrQ T = (none, q) ∧ S' 0 13 = nI q) ∧ QY f S S') ∧ L' = L)) 0 0 15 [some (.ref 0), some (.int (nI f)), some (.int (nI cls.length))] [] SHM S1 L := by
    intro r
    induction r with
    | zero =>
      intro cls p1 cs1 S1 hn hP1 hcs hq1 hR
      refine rx_aload_n dX12_goesText_15 rfl ?_
      refine rx_bipush (10) dX12_goesText_16 (by decide) ?_
      refine rx_iload_n dX12_goesText_18 rfl ?_
      refine rx_imul dX12_goesText_19 ?_
      refine rx_iload_n dX12_goesText_20 rfl ?_
      refine rx_iadd dX12_goesText_21 ?_
      rw [show (10 : Int32) = nI 10 from rfl, pk_mul, nI_add]
      refine rx_cVi_1 clX12_291 dX12_goesText_22 (rcvo (sM_0) rfl) rfl (m_takesClause g f T p1 cs1 (10 * f + cls.length) S1 L hP1 (by unfold MLt; rw [hq1.1 16 (by decide) (by decide)]; exact hL) (by omega)) ?_
      rintro x2 S2 L2 ⟨⟨hx2, hy2, hn2, hF2⟩, hL2⟩
      rw [hL2]
      have hq2 := hq1.qf hF2 (by omega)
      refine rx_if_ne 30 dX12_goesText_25 (by decide) (fun h25 => ?_) (fun h25 => ?_)
      · obtain ⟨cl, q, more, hcl, hP2, hMc⟩ := hy2 h25
        obtain ⟨k1, k2, k3, k4, k5, k6, k7, k8, k9, k10⟩ := id hP2
        have hall : ∀ i c, (cls ++ [cl])[i]? = some c → McQ (10 * f + i) f S2 (cs1 ++ more) c := by
          intro i c hi
          rcases get_push hi with ⟨g1, g2⟩ | ⟨g1, g2⟩
          · exact (hcs i c g2).more more hF2 (by omega)
          · rw [g1, g2]; exact hMc
        have hlen : (cls ++ [cl]).length = cls.length + 1 := by rw [List.length_append]; rfl
        refine rx_iinc_2 (1) rfl dX12_goesText_30 (by decide) ?_
        rw [nI_1]
        refine rx_aload_n dX12_goesText_33 rfl ?_
        refine rx_getR dX12_goesText_34 flX12_59 (sM_0) rfl ?_
        refine rx_iload_n dX12_goesText_37 rfl ?_
        refine rx_iload_n dX12_goesText_38 rfl ?_
        refine rx_iastore dX12_goesText_39 (sM_9) (vp_in_nI (by omega) (by omega)) ?_
        rw [hfc]
        refine rx_aload_n dX12_goesText_40 rfl ?_
        refine rx_getI dX12_goesText_41 flX12_50 (sM_0) rfl ?_
        rw [upS_off _ _ _ _ (by decide : (0 : Nat) ≠ 9), k4]
        refine rx_aload_n dX12_goesText_44 rfl ?_
        refine rx_getI dX12_goesText_45 flX12_47 (sM_0) rfl ?_
        rw [upS_off _ _ _ _ (by decide : (0 : Nat) ≠ 9), k1]
        refine rx_icmp_ne 53 dX12_goesText_48 (by decide) (fun h48 => ?_) (fun h48 => ?_)
        · have hqn : ¬ q = T.length := fun e => h48 (by rw [e])
          refine rx_iload_n dX12_goesText_53 rfl ?_
          refine rx_bipush (10) dX12_goesText_54 (by decide) ?_
          refine rx_icmp_eq 68 dX12_goesText_56 (by decide) (fun h56 => ?_) (fun h56 => absurd (by rw [show cls.length + 1 = 10 by omega]; rfl : nI (cls.length + 1) = 10) h56)
          refine rx_iconst (0) dX12_goesText_68 (by decide) ?_
          exact rx_zret dX12_goesText_69 rfl (by decide) ⟨Nat.le_refl _, Nat.le_refl _⟩ ⟨rfl, _, rfl, ⟨⟨Or.inl rfl, fun q => absurd rfl q, fun _ => ⟨q, hR.symm.trans ((yrL_2 hcl).trans ((if_neg hqn).trans (if_pos (Or.inl rfl)))), (congrFun (upS_off _ _ _ _ (by decide)) 13).trans k4⟩, hq2.up9⟩, rfl⟩⟩
        · refine rx_iconst (1) dX12_goesText_51 (by decide) ?_
          exact rx_zret dX12_goesText_52 rfl (by decide) ⟨Nat.le_refl _, Nat.le_refl _⟩ ⟨rfl, _, rfl, ⟨⟨Or.inr rfl, fun _ => ⟨cls ++ [cl], q, cs1 ++ more, hR.symm.trans ((yrL_2 hcl).trans (if_pos ((nI_eq (by omega) (by omega)).mp h48))), hP2.up9, by omega, by rw [upS_at, hlen], fun i c hi => (hall i c hi).up9⟩, fun q => absurd q (by decide), hq2.up9⟩, rfl⟩⟩
      · refine rx_iconst (0) dX12_goesText_28 (by decide) ?_
        exact rx_zret dX12_goesText_29 rfl (by decide) ⟨Nat.le_refl _, Nat.le_refl _⟩ ⟨rfl, _, rfl, ⟨⟨Or.inl rfl, fun q => absurd rfl q, fun _ => by obtain ⟨q, hcl, e13⟩ := hn2 h25; exact ⟨q, hR.symm.trans (yrL_1 hcl), e13⟩, hq2⟩, rfl⟩⟩
    | succ r ih =>
      intro cls p1 cs1 S1 hn hP1 hcs hq1 hR
      refine rx_aload_n dX12_goesText_15 rfl ?_
      refine rx_bipush (10) dX12_goesText_16 (by decide) ?_
      refine rx_iload_n dX12_goesText_18 rfl ?_
      refine rx_imul dX12_goesText_19 ?_
      refine rx_iload_n dX12_goesText_20 rfl ?_
      refine rx_iadd dX12_goesText_21 ?_
      rw [show (10 : Int32) = nI 10 from rfl, pk_mul, nI_add]
      refine rx_cVi_1 clX12_291 dX12_goesText_22 (rcvo (sM_0) rfl) rfl (m_takesClause g f T p1 cs1 (10 * f + cls.length) S1 L hP1 (by unfold MLt; rw [hq1.1 16 (by decide) (by decide)]; exact hL) (by omega)) ?_
      rintro x2 S2 L2 ⟨⟨hx2, hy2, hn2, hF2⟩, hL2⟩
      rw [hL2]
      have hq2 := hq1.qf hF2 (by omega)
      refine rx_if_ne 30 dX12_goesText_25 (by decide) (fun h25 => ?_) (fun h25 => ?_)
      · obtain ⟨cl, q, more, hcl, hP2, hMc⟩ := hy2 h25
        obtain ⟨k1, k2, k3, k4, k5, k6, k7, k8, k9, k10⟩ := id hP2
        have hall : ∀ i c, (cls ++ [cl])[i]? = some c → McQ (10 * f + i) f S2 (cs1 ++ more) c := by
          intro i c hi
          rcases get_push hi with ⟨g1, g2⟩ | ⟨g1, g2⟩
          · exact (hcs i c g2).more more hF2 (by omega)
          · rw [g1, g2]; exact hMc
        have hlen : (cls ++ [cl]).length = cls.length + 1 := by rw [List.length_append]; rfl
        refine rx_iinc_2 (1) rfl dX12_goesText_30 (by decide) ?_
        rw [nI_1]
        refine rx_aload_n dX12_goesText_33 rfl ?_
        refine rx_getR dX12_goesText_34 flX12_59 (sM_0) rfl ?_
        refine rx_iload_n dX12_goesText_37 rfl ?_
        refine rx_iload_n dX12_goesText_38 rfl ?_
        refine rx_iastore dX12_goesText_39 (sM_9) (vp_in_nI (by omega) (by omega)) ?_
        rw [hfc]
        refine rx_aload_n dX12_goesText_40 rfl ?_
        refine rx_getI dX12_goesText_41 flX12_50 (sM_0) rfl ?_
        rw [upS_off _ _ _ _ (by decide : (0 : Nat) ≠ 9), k4]
        refine rx_aload_n dX12_goesText_44 rfl ?_
        refine rx_getI dX12_goesText_45 flX12_47 (sM_0) rfl ?_
        rw [upS_off _ _ _ _ (by decide : (0 : Nat) ≠ 9), k1]
        refine rx_icmp_ne 53 dX12_goesText_48 (by decide) (fun h48 => ?_) (fun h48 => ?_)
        · have hqn : ¬ q = T.length := fun e => h48 (by rw [e])
          refine rx_iload_n dX12_goesText_53 rfl ?_
          refine rx_bipush (10) dX12_goesText_54 (by decide) ?_
          refine rx_icmp_eq 68 dX12_goesText_56 (by decide) (fun h56 => absurd h56 (fun e => by have := (nI_eq (b := 10) (by omega) (by omega)).mp e; omega)) (fun h56 => ?_)
          refine rx_aload_n dX12_goesText_59 rfl ?_
          refine rx_bipush (59) dX12_goesText_60 (by decide) ?_
          refine rx_cVi_1 clX12_251 dX12_goesText_62 (rcvo (sM_0) rfl) rfl (m_takes g f T q (cs1 ++ more) 59 (upS S2 9 f (nI (cls.length + 1))) L hP2.up9) ?_
          rintro x4 S4 L4 ⟨⟨hx4, hy4, hn4⟩, hL4⟩
          rw [hL4]
          refine rx_if_ne 15 dX12_goesText_65 (by decide) (fun h65 => ?_) (fun h65 => ?_)
          · obtain ⟨y1, y2⟩ := hy4 h65
            rw [← hlen]
            refine ih (cls ++ [cl]) (q + 1) (cs1 ++ more) S4 (by omega) (by rw [y2]; exact hP2.up9.put (by omega) (chr_in y1 (by decide))) (fun i c hi => by rw [y2]; exact (hall i c hi).up9.up0) (by rw [y2]; exact hq2.up9.up0 (by decide)) ?_
            exact ((yrL_2 hcl).trans ((if_neg hqn).trans (if_neg (fun w => w.elim (fun e => by omega) (fun e => e y1))))).symm.trans hR
          · refine rx_iconst (0) dX12_goesText_68 (by decide) ?_
            exact rx_zret dX12_goesText_69 rfl (by decide) ⟨Nat.le_refl _, Nat.le_refl _⟩ ⟨rfl, _, rfl, ⟨⟨Or.inl rfl, fun q => absurd rfl q, fun _ => ⟨q, hR.symm.trans ((yrL_2 hcl).trans ((if_neg hqn).trans (if_pos (Or.inr (hn4 h65).1)))), by rw [(hn4 h65).2]; exact (congrFun (upS_off _ _ _ _ (by decide)) 13).trans k4⟩, by rw [(hn4 h65).2]; exact hq2.up9⟩, rfl⟩⟩
        · refine rx_iconst (1) dX12_goesText_51 (by decide) ?_
          exact rx_zret dX12_goesText_52 rfl (by decide) ⟨Nat.le_refl _, Nat.le_refl _⟩ ⟨rfl, _, rfl, ⟨⟨Or.inr rfl, fun _ => ⟨cls ++ [cl], q, cs1 ++ more, hR.symm.trans ((yrL_2 hcl).trans (if_pos ((nI_eq (by omega) (by omega)).mp h48))), hP2.up9, by omega, by rw [upS_at, hlen], fun i c hi => (hall i c hi).up9⟩, fun q => absurd q (by decide), hq2.up9⟩, rfl⟩⟩
      · refine rx_iconst (0) dX12_goesText_28 (by decide) ?_
        exact rx_zret dX12_goesText_29 rfl (by decide) ⟨Nat.le_refl _, Nat.le_refl _⟩ ⟨rfl, _, rfl, ⟨⟨Or.inl rfl, fun q => absurd rfl q, fun _ => by obtain ⟨q, hcl, e13⟩ := hn2 h25; exact ⟨q, hR.symm.trans (yrL_1 hcl), e13⟩, hq2⟩, rfl⟩⟩
  refine rx_aload_n dX12_goesText_0 rfl ?_
  refine rx_iconst (0) dX12_goesText_1 (by decide) ?_
  refine rx_putI dX12_goesText_2 flX12_50 (sM_0) rfl ?_
  refine rx_aload_n dX12_goesText_5 rfl ?_
  refine rx_bipush (100) dX12_goesText_6 (by decide) ?_
  refine rx_iload_n dX12_goesText_8 rfl ?_
  refine rx_imul dX12_goesText_9 ?_
  rw [show (100 : Int32) = nI 100 from rfl, pk_mul]
  refine rx_putI dX12_goesText_10 flX12_80 (sM_0) rfl ?_
  refine rx_iconst (0) dX12_goesText_13 (by decide) ?_
  refine rx_istore_2 rfl dX12_goesText_14 ?_
  exact loop 9 [] 0 [] _ rfl ⟨by simp (disch := omega) only [upS_ne]; exact z1, by simp (disch := omega) only [upS_off]; exact z2, z3, by simp (disch := omega) only [upS_ne, upS_at]; rfl, by omega, upS_at _ _ _ _, fun j t h => absurd h (by simp), by simp, z9, hf⟩ (fun i c h => absurd h (by simp)) ((QY.refl.up0 (by decide)).up0 (by decide)) rfl
theorem MYd.of {f q : Nat} {T : List Nat} {S : SS} {cls : List CLS} {cs : List TK} (hP : PrM f T S q cs) (hl : cls.length ≤ 10) (h9 : S 9 f = nI cls.length) (hM : ∀ i c, cls[i]? = some c → McQ (10 * f + i) f S cs c) (hw : ∀ c ∈ cls, c.1 < 2 → wfT c.2.2 0) : MYd (f + 1) S (yQd cls) := by
  obtain ⟨k1, k2, k3, k4, k5, k6, k7, k8, k9, k10⟩ := hP
  refine ⟨rfl, hl, fun c hc => ?_, fun e => absurd e (by omega), fun _ => ⟨h9, fun i c hc => ?_⟩⟩
  · obtain ⟨i, hi⟩ := List.mem_iff_getElem?.mp hc
    exact (hM i c hi).2.2.2.1
  · obtain ⟨e1, e2, e3, e4, e5⟩ := hM i c hc
    have hi := (List.getElem?_eq_some_iff.mp hc).1
    have hi : i < cls.length := hi
    refine ⟨by omega, e1, e2, e3, e4, fun h2 => ?_⟩
    obtain ⟨fr, d1, d2, d3, d4⟩ := e5 h2
    refine ⟨100 * f + fr, d1, d2, by show 100 * f + fr + _ ≤ 100 * f + 100; omega, fun j t ht => ?_, hw c (List.mem_of_getElem? hc) h2⟩
    rw [Nat.add_assoc]
    exact k7 _ t (d4 j t ht)
set_option maxRecDepth 20000 in
set_option maxHeartbeats 1000000 in
theorem mc_yard (g : GG) (σ : SIG)  (S : SS) (L : LL) (hr : MRel S L σ) (hok : OKg (nYard σ)) (hw : gC σ < 6 → ∀ cls q, yrQ (gT σ) = (some cls, q) → ∀ c ∈ cls, c.1 < 2 → wfT c.2.2 0) : Ci g 7 mX12_yard [.ref 0] SHM S L (fun r S' L' => r = aYard σ ∧ MRel S' L' (nYard σ)) := by
  have hC : S 0 10 = nI (gC σ) := hr.2.2.2.2.2.2.2.2.1
  have h6le : gC σ ≤ 6 := hr.1.2.2.1
  refine ct_of (ls := [some (.ref 0), none]) 1 (by decide +kernel) rfl rfl ?_
  refine rx_aload_n dX12_yard_0 rfl ?_
  refine rx_getI dX12_yard_1 flX12_41 (sM_0) rfl ?_
  rw [hC]
  refine rx_bipush (6) dX12_yard_4 (by decide) ?_
  refine rx_icmp_ne 12 dX12_yard_6 (by decide) (fun h6 => ?_) (fun h6 => ?_)
  · have h6c : gC σ < 6 := by
      rcases Nat.lt_or_ge (gC σ) 6 with q | q
      · exact q
      · exact absurd (by rw [show gC σ = 6 by omega]; rfl) h6
    refine rx_aload_n dX12_yard_12 rfl ?_
    refine rx_aload_n dX12_yard_13 rfl ?_
    refine rx_getI dX12_yard_14 flX12_41 (sM_0) rfl ?_
    rw [hC]
    refine rx_cVi_1 clX12_294 dX12_yard_17 (rcvo (sM_0) rfl) rfl (m_goesText g (gC σ) (gT σ) S L hr.2.2.2.2.2.2.2.2.2.2.1 hr.2.2.2.2.2.2.2.2.2.2.2.1 hr.1.2.2.2.2.2.2.1 hr.1.2.2.2.2.2.2.2.1 h6c hr.2.2.2.2.2.2.2.2.2.2.2.2.2.2.2) ?_
    rintro x2 S2 L2 ⟨⟨hx2, hy2, hn2, hq2⟩, hL2⟩
    rw [hL2]
    have hC2 : S2 0 10 = nI (gC σ) := (hq2.2.1 10 (by decide)).trans hC
    refine rx_istore_1 rfl dX12_yard_20 ?_
    refine rx_aload_n dX12_yard_21 rfl ?_
    refine rx_iconst (0) dX12_yard_22 (by decide) ?_
    refine rx_putI dX12_yard_23 flX12_47 (sM_0) rfl ?_
    refine rx_iload_n dX12_yard_26 rfl ?_
    refine rx_if_ne 38 dX12_yard_27 (by decide) (fun h27 => ?_) (fun h27 => ?_)
    · obtain ⟨cls, q, cs, hyq, hPq, hcl, h9, hMc⟩ := hy2 h27
      have eA : aYard σ = nI (gC σ) := by unfold aYard; rw [if_pos h6c, hyq]
      have eN : nYard σ = wYd σ (yQd cls) := by unfold nYard; rw [if_pos h6c, hyq]
      rw [eN] at hok
      have hY1 := MYd.of hPq hcl h9 hMc (hw h6c cls q hyq)
      refine rx_aload_n dX12_yard_38 rfl ?_
      refine rx_aload_n dX12_yard_39 rfl ?_
      refine rx_getI dX12_yard_40 flX12_41 (sM_0) rfl ?_
      rw [upS_ne _ _ _ _ (by omega), hC2]
      refine rx_putI dX12_yard_43 flX12_44 (sM_0) rfl ?_
      refine rx_aload_n dX12_yard_46 rfl ?_
      refine rx_dup dX12_yard_47 rfl ?_
      refine rx_getI dX12_yard_48 flX12_41 (sM_0) rfl ?_
      simp (disch := omega) only [upS_ne]
      rw [hC2]
      refine rx_iconst (1) dX12_yard_51 (by decide) ?_
      refine rx_iadd dX12_yard_52 ?_
      rw [nI_1]
      refine rx_putI dX12_yard_53 flX12_41 (sM_0) rfl ?_
      refine rx_aload_n dX12_yard_56 rfl ?_
      refine rx_getI dX12_yard_57 flX12_44 (sM_0) rfl ?_
      rw [upS_ne _ _ _ _ (by omega), upS_at]
      exact rx_iret dX12_yard_60 rfl ⟨Nat.le_refl _, Nat.le_refl _⟩ ⟨rfl, _, rfl, ⟨eA.symm, by rw [eN]; exact hr.yardOK h6c hq2 hY1 hok⟩⟩
    · obtain ⟨q, hyq, e13⟩ := hn2 h27
      have eA : aYard σ = -10 - nI q := by unfold aYard; rw [if_pos h6c, hyq]
      have eN : nYard σ = wTx σ [] := by unfold nYard; rw [if_pos h6c, hyq]
      rw [eN] at hok
      refine rx_bipush (-10) dX12_yard_30 (by decide) ?_
      refine rx_aload_n dX12_yard_32 rfl ?_
      refine rx_getI dX12_yard_33 flX12_50 (sM_0) rfl ?_
      rw [upS_ne _ _ _ _ (by omega), e13]
      refine rx_isub dX12_yard_36 ?_
      exact rx_iret dX12_yard_37 rfl ⟨Nat.le_refl _, Nat.le_refl _⟩ ⟨rfl, _, rfl, ⟨eA.symm, by rw [eN]; exact hr.yardNo h6c hq2 hok⟩⟩
  · refine rx_bipush (-4) dX12_yard_9 (by decide) ?_
    exact rx_iret dX12_yard_11 rfl ⟨Nat.le_refl _, Nat.le_refl _⟩ ⟨rfl, _, rfl, ⟨by unfold aYard; rw [if_neg (by have e := (nI_eq (b := 6) (by omega) (by omega)).mp h6; omega)], by unfold nYard; rw [if_neg (by have e := (nI_eq (b := 6) (by omega) (by omega)).mp h6; omega)]; exact hr⟩⟩
