-- THE STATE OF ALL, purely (of the class and of the reference alike)
/-- how many; kind, number, early, rows, counts; at, wall, turn, sent; which yard; seen; book -/
abbrev SCN : Type := Nat × (Nat → Int32) × (Nat → Int32) × (Nat → Int32) × (Nat → Int32) × (Nat → Int32) × DY × Nat × List (Nat × Nat × Nat) × List (Nat × Nat)
def sD (s : SCN) : DY := s.2.2.2.2.2.2.1
def sY (s : SCN) : Nat := s.2.2.2.2.2.2.2.1
def sSn (s : SCN) : List (Nat × Nat × Nat) := s.2.2.2.2.2.2.2.2.1
def sBk (s : SCN) : List (Nat × Nat) := s.2.2.2.2.2.2.2.2.2
def enOf (s : SCN) (yd : Nat → YD) : EN := (s.1, s.2.1, s.2.2.1, s.2.2.2.1, s.2.2.2.2.1, s.2.2.2.2.2.1, yd (sY s))
/-- now; is there an image; the image; yards read; yards; the text; bodies that ran, their numbers; tapes' sorts, sizes, items -/
abbrev SIG : Type := SCN × Bool × SCN × Nat × (Nat → YD) × List Nat × Nat × (Nat → Int32) × (Nat → Int32) × (Nat → Nat) × (Nat → Nat → Int64)
def gN (σ : SIG) : SCN := σ.1
def gH (σ : SIG) : Bool := σ.2.1
def gI (σ : SIG) : SCN := σ.2.2.1
def gC (σ : SIG) : Nat := σ.2.2.2.1
def gY (σ : SIG) : Nat → YD := σ.2.2.2.2.1
def gT (σ : SIG) : List Nat := σ.2.2.2.2.2.1
def gR (σ : SIG) : Nat := σ.2.2.2.2.2.2.1
def gB (σ : SIG) : Nat → Int32 := σ.2.2.2.2.2.2.2.1
def gS (σ : SIG) : Nat → Int32 := σ.2.2.2.2.2.2.2.2.1
def gZ (σ : SIG) : Nat → Nat := σ.2.2.2.2.2.2.2.2.2.1
def gL (σ : SIG) : Nat → Nat → Int64 := σ.2.2.2.2.2.2.2.2.2.2
def gE (σ : SIG) : EN := enOf (gN σ) (gY σ)
def gD (σ : SIG) : DY := sD (gN σ)
/-- what is right of a turn state's numbers -/
def DOK (n : Nat) (D : DY) : Prop := (∃ W, W < 2 ^ n ∧ dW D = nI W) ∧ (∀ c, c < n → ∃ a, a ≤ 99 ∧ dA D c = nI a) ∧ ∀ c, c < n → ∃ s, s ≤ dT D ∧ dS D c = nI s
def OKs (s : SCN) (yd : Nat → YD) : Prop := EnOK (enOf s yd) ∧ DOK s.1 (sD s) ∧ dT (sD s) ≤ 9999 ∧ (∀ q ∈ sSn s, q.1 < s.1 ∧ q.2.1 ≤ 20 ∧ q.2.2 ≤ 99) ∧ (∀ q ∈ sBk s, q.1 < s.1 ∧ q.2 ≤ 99) ∧ (sSn s).length ≤ 4 ∧ (sBk s).length ≤ 8
def OKg (σ : SIG) : Prop := OKs (gN σ) (gY σ) ∧ (gH σ = true → OKs (gI σ) (gY σ)) ∧ gC σ ≤ 6 ∧ sY (gN σ) ≤ gC σ ∧ (gH σ = true → sY (gI σ) ≤ gC σ) ∧ gY σ 0 = (40, 3, 9, []) ∧ (gT σ).length ≤ 100 ∧ (∀ q ∈ gT σ, q < 128) ∧ gR σ ≤ 100 ∧
  (∀ t, t < 6 → (gS σ t = -1 ∧ gZ σ t = 0) ∨ ((∃ k, k ≤ 4 ∧ gS σ t = nI k) ∧ gZ σ t ≤ 60))
-- the class's net
def SeR (b : Nat) (S : SS) (l : List (Nat × Nat × Nat)) : Prop := S b 14 = nI l.length ∧ ∀ i q, l[i]? = some q → S (b + 8) i = nI q.1 ∧ S (b + 9) i = nI q.2.1 ∧ S (b + 10) i = nI q.2.2
def BoR (b : Nat) (S : SS) (l : List (Nat × Nat)) : Prop := S b 17 = nI l.length ∧ ∀ i q, l[i]? = some q → S (b + 11) i = nI q.1 ∧ S (b + 12) i = nI q.2
def ScN (b : Nat) (S : SS) (s : SCN) (yd : Nat → YD) : Prop := ScR b S (enOf s yd) (sD s) ∧ S b 10 = nI (sY s) ∧ SeR b S (sSn s) ∧ BoR b S (sBk s)
def TpR (S : SS) (L : LL) (σ : SIG) : Prop := ∀ t, t < 6 → S 106 t = gS σ t ∧ S 107 t = nI (gZ σ t) ∧ ∀ i, i < gZ σ t → L (100 + t) i = gL σ t i
def CRel (S : SS) (L : LL) (σ : SIG) : Prop := OKg σ ∧ ScN 53 S (gN σ) (gY σ) ∧ (gH σ = true → ScN 79 S (gI σ) (gY σ)) ∧ S 0 8 = (if gH σ = true then 1 else 0) ∧ S 0 4 = nI (gC σ) ∧ (∀ y, y ≤ gC σ → YdR y S (gY σ y)) ∧ S 0 2 = nI (gT σ).length ∧ (∀ i q, (gT σ)[i]? = some q → S 9 i = nI q) ∧ S 97 1 = nI (gR σ) ∧ (∀ i, i < 20 → i < gR σ → S 98 i = gB σ i) ∧ TpR S L σ
theorem ScR.off {b : Nat} {S S' : SS} {E : EN} {D : DY} (h : ScR b S E D) (ho : ∀ j, (11 ≤ j ∧ j < 53) ∨ (b ≤ j ∧ j ≤ b + 12) → S' j = S j) : ScR b S' E D := by
  obtain ⟨a1, a2, a3, a4, a5, a6, ⟨y, hy, hyS, hY⟩, a8, a9, a10, a11, a12⟩ := h
  have hb : S' b = S b := ho b (Or.inr (by omega))
  refine ⟨by rw [hb]; exact a1, fun c hc => ?_, fun c hc => ?_, fun c hc => ?_, fun c hc => ?_, fun c hc => ?_, ⟨y, hy, by rw [hb]; exact hyS, hY.off hy (fun j g1 g2 => ho j (Or.inl ⟨g1, g2⟩))⟩, fun c hc => ?_, by rw [hb]; exact a9, by rw [hb]; exact a10, a11, fun c hc => ?_⟩
  · rw [ho _ (Or.inr (by omega))]; exact a2 c hc
  · rw [ho _ (Or.inr (by omega))]; exact a3 c hc
  · rw [ho _ (Or.inr (by omega))]; exact a4 c hc
  · rw [ho _ (Or.inr (by omega))]; exact a5 c hc
  · rw [ho _ (Or.inr (by omega))]; exact a6 c hc
  · rw [ho _ (Or.inr (by omega))]; exact a8 c hc
  · rw [ho _ (Or.inr (by omega))]; exact a12 c hc
theorem ScN.off {b : Nat} {S S' : SS} {s : SCN} {yd : Nat → YD} (h : ScN b S s yd) (ho : ∀ j, (11 ≤ j ∧ j < 53) ∨ (b ≤ j ∧ j ≤ b + 12) → S' j = S j) : ScN b S' s yd := by
  obtain ⟨h1, h2, ⟨h3, h4⟩, ⟨h5, h6⟩⟩ := h
  have hb : S' b = S b := ho b (Or.inr (by omega))
  refine ⟨h1.off ho, by rw [hb]; exact h2, ⟨by rw [hb]; exact h3, fun i q hq => ?_⟩, ⟨by rw [hb]; exact h5, fun i q hq => ?_⟩⟩
  · rw [ho (b + 8) (Or.inr (by omega)), ho (b + 9) (Or.inr (by omega)), ho (b + 10) (Or.inr (by omega))]; exact h4 i q hq
  · rw [ho (b + 11) (Or.inr (by omega)), ho (b + 12) (Or.inr (by omega))]; exact h6 i q hq
theorem ScR.copy {a b : Nat} (ha : Sc a) (hb : Sc b) {S S' : SS} {E : EN} {D : DY} (h : ScR a S E D) (hC : CpR a b S S') : ScR b S' E D := by
  have hal := ha.le
  have hbl := hb.le
  obtain ⟨a1, a2, a3, a4, a5, a6, ⟨y, hy, hyS, hY⟩, a8, a9, a10, a11, a12⟩ := h
  obtain ⟨c0, c1, c2, c3, c4, c5, c6, c7, c8, c9, c10, c11, c12, k6, k7, k9, k10, k14, k17⟩ := hC
  exact ⟨k6.trans a1, fun c hc => (c1 c hc).trans (a2 c hc), fun c hc => (c2 c hc).trans (a3 c hc), fun c hc => (c4 c hc).trans (a4 c hc), fun c hc => (c6 c hc).trans (a5 c hc), fun c hc => (c7 c hc).trans (a6 c hc), ⟨y, hy, k10.trans hyS, hY.off hy (fun j g1 g2 => c0 j (Or.inl (by omega)))⟩, fun c hc => (c3 c hc).trans (a8 c hc), k7.trans a9, k9.trans a10, a11, fun c hc => (c5 c hc).trans (a12 c hc)⟩
theorem ScN.copy {a b : Nat} (ha : Sc a) (hb : Sc b) {S S' : SS} {s : SCN} {yd : Nat → YD} (h : ScN a S s yd) (hl : (sSn s).length ≤ 4 ∧ (sBk s).length ≤ 8) (hC : CpR a b S S') : ScN b S' s yd := by
  obtain ⟨h1, h2, ⟨h3, h4⟩, ⟨h5, h6⟩⟩ := h
  refine ⟨h1.copy ha hb hC, ?_⟩
  obtain ⟨c0, c1, c2, c3, c4, c5, c6, c7, c8, c9, c10, c11, c12, k6, k7, k9, k10, k14, k17⟩ := hC
  refine ⟨k10.trans h2, ⟨k14.trans h3, fun i q hq => ?_⟩, ⟨k17.trans h5, fun i q hq => ?_⟩⟩
  · have hi := (List.getElem?_eq_some_iff.mp hq).1
    obtain ⟨g1, g2, g3⟩ := h4 i q hq
    exact ⟨(c8 i (by omega)).trans g1, (c9 i (by omega)).trans g2, (c10 i (by omega)).trans g3⟩
  · have hi := (List.getElem?_eq_some_iff.mp hq).1
    obtain ⟨g1, g2⟩ := h6 i q hq
    exact ⟨(c11 i (by omega)).trans g1, (c12 i (by omega)).trans g2⟩
/-- what a question leaves as it was -/
def Kp (S S' : SS) : Prop := ∀ j, ¬ (66 ≤ j ∧ j ≤ 78) → ¬ (93 ≤ j ∧ j ≤ 96) → S' j = S j
theorem Kp.refl {S : SS} : Kp S S := fun _ _ _ => rfl
theorem Kp.trans {S S1 S2 : SS} (h : Kp S S1) (h2 : Kp S1 S2) : Kp S S2 := fun j a b => (h2 j a b).trans (h j a b)
theorem Kp.st {S S' : SS} (h : StF 66 S S') : Kp S S' := fun j a b => h.1 j (by omega) (by omega) (by omega) b
theorem Kp.cp {a : Nat} {S S' : SS} (h : CpR a 66 S S') : Kp S S' := fun j a b => h.1 j (by omega)
theorem Kp.up {S : SS} {a k : Nat} {x : Int32} (h : 66 ≤ a ∧ a ≤ 78) : Kp S (upS S a k x) := fun j h1 _ => upS_off S a k x (by omega)
theorem CRel.kp {S S' : SS} {L : LL} {σ : SIG} (h : CRel S L σ) (hk : Kp S S') : CRel S' L σ := by
  obtain ⟨h0, h1, h2, h3, h4, h5, h6, h7, h8, h9, h10⟩ := h
  have o0 : S' 0 = S 0 := hk 0 (by omega) (by omega)
  refine ⟨h0, h1.off (fun j hj => hk j (by omega) (by omega)), fun q => (h2 q).off (fun j hj => hk j (by omega) (by omega)), by rw [o0]; exact h3, by rw [o0]; exact h4, fun y hy => (h5 y hy).off (by have := h0.2.2.1; omega) (fun j g1 g2 => hk j (by omega) (by omega)), by rw [o0]; exact h6, fun i q hq => ?_, ?_, fun i h1 h2 => ?_, fun t ht => ?_⟩
  · rw [hk 9 (by omega) (by omega)]; exact h7 i q hq
  · rw [hk 97 (by omega) (by omega)]; exact h8
  · rw [hk 98 (by omega) (by omega)]; exact h9 i h1 h2
  · rw [hk 106 (by omega) (by omega), hk 107 (by omega) (by omega)]; exact h10 t ht
theorem CRel.sc {S : SS} {L : LL} {σ : SIG} (h : CRel S L σ) : ScR 53 S (gE σ) (gD σ) := h.2.1.1
theorem CRel.y {S : SS} {L : LL} {σ : SIG} (h : CRel S L σ) : ∃ y, y < 7 ∧ S 53 10 = nI y := ⟨sY (gN σ), by have := h.1.2.2.1; have := h.1.2.2.2.1; omega, h.2.1.2.1⟩
theorem CRel.en {S : SS} {L : LL} {σ : SIG} (h : CRel S L σ) : EnOK (gE σ) := h.1.1.1
theorem CRel.t {S : SS} {L : LL} {σ : SIG} (h : CRel S L σ) : dT (gD σ) ≤ 9999 := h.1.1.2.2.1
theorem CRel.n7 {S : SS} {L : LL} {σ : SIG} (h : CRel S L σ) : eN (gE σ) ≤ 7 := h.1.1.1.1
theorem S53 : Sc 53 := Or.inl rfl
theorem S66 : Sc 66 := Or.inr (Or.inl rfl)
theorem S79 : Sc 79 := Or.inr (Or.inr rfl)

