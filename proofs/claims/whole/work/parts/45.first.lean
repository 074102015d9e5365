abbrev JB : List Nat := [3, 4, 5, 7, 17, 18, 19, 20, 21, 22, 23, 24]
abbrev KB : List Nat := [1, 2, 27, 29, 30, 33, 34, 38, 39]
theorem MRel.back {S S' : SS} {L : LL} {σ : SIG} (h : MRel S L σ) (hM : MSc S' (gE σ) (gD σ)) (h3 : S' 0 27 = -1 ∧ S' 0 29 = 9999 ∧ S' 0 30 = -1) (hF : Fr JB KB S S') : MRel S' L σ :=
  ⟨h.1, hM, h3, h.2.2.2.fr (fun j hj => hF.1 j (by omega) (by simp; omega)) (fun k hk => hF.2 k (by unfold rkF at hk; simp; omega))⟩
theorem Fr.big {S S' : SS} (h : Fr JS KS S S') : Fr JB KB S S' := h.mono (by decide) (by decide)
theorem itD_front (E : EN) (sv hd : Int32) : ∀ (n : Nat) (D : DY), itD E sv hd (n + 1) D = itD E sv hd n (stepD E sv hd D)
  | 0, _ => rfl
  | n + 1, D => by
    show stepD E sv hd (itD E sv hd (n + 1) D) = stepD E sv hd (itD E sv hd n (stepD E sv hd D))
    rw [itD_front E sv hd n D]
theorem untV_spec (E : EN) (th : Int32) : ∀ (r k : Nat) (D : DY), (∃ j, j < r ∧ untV E th r k D = (nI (k + j), itD E (eY E).2.2.1 (-1) j D) ∧ ¬ dW (itD E (eY E).2.2.1 (-1) j D) &&& th = 0 ∧ ∀ i, i < j → dW (itD E (eY E).2.2.1 (-1) i D) &&& th = 0) ∨ ((untV E th r k D).1 = -5 ∧ ∀ i, i < r → dW (itD E (eY E).2.2.1 (-1) i D) &&& th = 0)
  | 0, k, D => Or.inr ⟨rfl, fun i hi => absurd hi (by omega)⟩
  | r + 1, k, D => by
    by_cases h : dW D &&& th = 0
    · have e : untV E th (r + 1) k D = untV E th r (k + 1) (stepD E (eY E).2.2.1 (-1) D) := if_pos h
      rw [e]
      rcases untV_spec E th r (k + 1) (stepD E (eY E).2.2.1 (-1) D) with ⟨j, h1, h2, h3, h4⟩ | ⟨h1, h2⟩
      · refine Or.inl ⟨j + 1, by omega, by rw [h2, itD_front, Nat.add_assoc, Nat.add_comm 1 j], by rw [itD_front]; exact h3, fun i hi => ?_⟩
        cases i with
        | zero => exact h
        | succ i => rw [itD_front]; exact h4 i (by omega)
      · refine Or.inr ⟨h1, fun i hi => ?_⟩
        cases i with
        | zero => exact h
        | succ i => rw [itD_front]; exact h2 i (by omega)
    · exact Or.inl ⟨0, by omega, if_neg h, h, fun i hi => absurd hi (by omega)⟩
theorem m5_ne (k : Nat) (hk : k < 2 ^ 31) : ¬ nI k = -5 := fun e => by
  have := nI_pos (n := k) hk
  rw [e] at this
  exact this (by decide)
/-- the least and where it stands first -/
def mfC (lab f : Nat → Int32) : Nat → Int32 × Int32
  | 0 => (-5, 0)
  | m + 1 => if f m < 0 ∨ (0 ≤ (mfC lab f m).1 ∧ (mfC lab f m).2 ≤ f m) then mfC lab f m else (lab m, f m)
theorem mf_none (lab f : Nat → Int32) : ∀ n, (∀ i, i < n → f i = -5) → mfC lab f n = (-5, 0)
  | 0, _ => rfl
  | n + 1, h => by
    show (if _ then _ else _) = _
    rw [if_pos (Or.inl (by rw [h n (by omega)]; decide))]
    exact mf_none lab f n (fun i hi => h i (by omega))
theorem mf_pre (lab f : Nat → Int32) (j : Nat) : ∀ n, (∀ i, i < n → f i = -5 ∨ ∃ k, j < k ∧ k < 100 ∧ f i = nI k) → mfC lab f n = (-5, 0) ∨ ∃ k, j < k ∧ k < 100 ∧ (mfC lab f n).2 = nI k
  | 0, _ => Or.inl rfl
  | n + 1, h => by
    have ih := mf_pre lab f j n (fun i hi => h i (by omega))
    by_cases q : f n < 0 ∨ (0 ≤ (mfC lab f n).1 ∧ (mfC lab f n).2 ≤ f n)
    · have e : mfC lab f (n + 1) = mfC lab f n := if_pos q
      rw [e]
      exact ih
    · have e : mfC lab f (n + 1) = (lab n, f n) := if_neg q
      rw [e]
      rcases h n (by omega) with h1 | ⟨k, h1, h2, h3⟩
      · exact absurd (Or.inl (by rw [h1]; decide)) q
      · exact Or.inr ⟨k, h1, h2, h3⟩
theorem mf_val (lab f : Nat → Int32) (i0 j : Nat) (hj : j < 100) (hl : 0 ≤ lab i0) (h0 : f i0 = nI j) (h1 : ∀ i, i < i0 → f i = -5 ∨ ∃ k, j < k ∧ k < 100 ∧ f i = nI k) : ∀ r, (∀ i, i0 < i → i < i0 + 1 + r → f i = -5 ∨ ∃ k, j ≤ k ∧ k < 100 ∧ f i = nI k) → mfC lab f (i0 + 1 + r) = (lab i0, nI j)
  | 0, _ => by
    show (if _ then _ else _) = _
    rw [if_neg, h0]
    rw [h0]
    rintro (q | ⟨q1, q2⟩)
    · exact nI_pos (by omega) q
    · rcases mf_pre lab f j i0 h1 with e | ⟨k, e1, e2, e3⟩
      · rw [e] at q1; exact absurd q1 (by decide)
      · rw [e3] at q2
        have := (nI_leI (by omega) (by omega)).mp q2
        omega
  | r + 1, h => by
    have ih := mf_val lab f i0 j hj hl h0 h1 r (fun i a b => h i a (by omega))
    show (if _ then _ else _) = _
    rw [if_pos]
    · exact ih
    · show f (i0 + 1 + r) < 0 ∨ (0 ≤ (mfC lab f (i0 + 1 + r)).1 ∧ (mfC lab f (i0 + 1 + r)).2 ≤ f (i0 + 1 + r))
      rw [ih]
      rcases h (i0 + 1 + r) (by omega) (by omega) with e | ⟨k, e1, e2, e3⟩
      · exact Or.inl (by rw [e]; decide)
      · exact Or.inr ⟨hl, by rw [e3]; exact nI_le e1 (by omega)⟩
/-- the same, without what is none -/
def mgC (lab f : Nat → Int32) : Nat → Int32 × Int32
  | 0 => (0, 99)
  | m + 1 => if (mgC lab f m).2 ≤ f m then mgC lab f m else (lab m, f m)
theorem mg_pre (lab f : Nat → Int32) (j : Nat) (hj : j < 99) : ∀ n, (∀ i, i < n → ∃ k, j < k ∧ k < 100 ∧ f i = nI k) → ∃ k, j < k ∧ k < 100 ∧ (mgC lab f n).2 = nI k
  | 0, _ => ⟨99, hj, by omega, rfl⟩
  | n + 1, h => by
    have ih := mg_pre lab f j hj n (fun i hi => h i (by omega))
    by_cases q : (mgC lab f n).2 ≤ f n
    · have e : mgC lab f (n + 1) = mgC lab f n := if_pos q
      rw [e]
      exact ih
    · have e : mgC lab f (n + 1) = (lab n, f n) := if_neg q
      rw [e]
      exact h n (by omega)
theorem mg_val (lab f : Nat → Int32) (i0 j : Nat) (hj : j < 99) (h0 : f i0 = nI j) (h1 : ∀ i, i < i0 → ∃ k, j < k ∧ k < 100 ∧ f i = nI k) : ∀ r, (∀ i, i0 < i → i < i0 + 1 + r → ∃ k, j ≤ k ∧ k < 100 ∧ f i = nI k) → mgC lab f (i0 + 1 + r) = (lab i0, nI j)
  | 0, _ => by
    show (if _ then _ else _) = _
    rw [if_neg, h0]
    rw [h0]
    intro q2
    obtain ⟨k, e1, e2, e3⟩ := mg_pre lab f j hj i0 h1
    rw [e3] at q2
    have := (nI_leI (by omega) (by omega)).mp q2
    omega
  | r + 1, h => by
    have ih := mg_val lab f i0 j hj h0 h1 r (fun i a b => h i a (by omega))
    show (if _ then _ else _) = _
    rw [if_pos]
    · exact ih
    · show (mgC lab f (i0 + 1 + r)).2 ≤ f (i0 + 1 + r)
      rw [ih]
      obtain ⟨k, e1, e2, e3⟩ := h (i0 + 1 + r) (by omega) (by omega)
      rw [e3]
      exact nI_le e1 (by omega)
theorem otF_ok1 : ∀ n, n < 8 → ∀ W, W < 128 → (2 ^ n - 1) &&& (127 - W) < 128 := by decide +kernel
theorem otF_ok2 : ∀ n, n < 8 → ∀ W, W < 128 → ((1 <<< (nI n &&& 31)) - 1) &&& (nI W ^^^ (-1)) = nI ((2 ^ n - 1) &&& (127 - W)) := by decide +kernel
theorem otF_ok3 : ∀ n, n < 8 → ∀ W, W < 128 → ∀ c, c < 7 → (((2 ^ n - 1) &&& (127 - W)).testBit c = true ↔ (c < n ∧ bitv (nI W) (nI c) = 0)) := by decide +kernel
theorem low_bit : ∀ Z, Z < 128 → ¬ Z = 0 → ∃ i0, i0 < 7 ∧ Z.testBit i0 = true ∧ ∀ i, i < i0 → Z.testBit i = false := by decide +kernel
-- FIRST
def fF (σ : SIG) (c : Nat) : Int32 := if ¬ bitv (dW (gD σ)) (nI c) = 0 then -5 else (untV (gE σ) (1 <<< (nI c &&& 31)) 61 0 (gD σ)).1
theorem otF_ok : ∀ n, n < 8 → ∀ W, W < 128 → ∃ M, M < 128 ∧ ((1 <<< (nI n &&& 31)) - 1) &&& (nI W ^^^ (-1)) = nI M ∧ ∀ c, c < 7 → (M.testBit c = true ↔ (c < n ∧ bitv (nI W) (nI c) = 0)) := by
  intro n hn W hW
  exact ⟨(2 ^ n - 1) &&& (127 - W), otF_ok1 n hn W hW, otF_ok2 n hn W hW, otF_ok3 n hn W hW⟩
theorem tb_bit : ∀ W, W < 128 → ∀ c, c < 7 → (W.testBit c = true ↔ ¬ bitv (nI W) (nI c) = 0) := by decide +kernel
theorem z_tb : ∀ W, W < 128 → ((∀ c, c < 7 → W.testBit c = false) ↔ W = 0) := by decide +kernel
theorem bit_one : ∀ W, W < 128 → ∀ c, c < 7 → (nI W &&& (1 <<< (nI c &&& 31)) = 0 ↔ W.testBit c = false) := by decide +kernel
theorem fs_val (z : Int32) (i0 : Nat) (h1 : ¬ z &&& (1 <<< (nI i0 &&& 31)) = 0) : ∀ (r c : Nat), c ≤ i0 → i0 ≤ c + r → (∀ i, c ≤ i → i < i0 → z &&& (1 <<< (nI i &&& 31)) = 0) → fsP z r c = nI i0
  | 0, c, a, b, _ => by
    have e : c = i0 := by omega
    show nI c = _
    rw [e]
  | r + 1, c, a, b, h => by
    by_cases e : c = i0
    · show (if _ then _ else _) = _
      rw [e, if_neg h1]
    · show (if _ then _ else _) = _
      rw [if_pos (h c (Nat.le_refl _) (by omega))]
      exact fs_val z i0 h1 r (c + 1) (by omega) (by omega) (fun i p q => h i (by omega) q)
theorem and_nI {A B : Nat} (hA : A < 128) (hB : B < 128) : nI A &&& nI B = nI (A &&& B) := by
  rw [← Int32.toBitVec_inj]
  show BitVec.ofNat 32 A &&& BitVec.ofNat 32 B = BitVec.ofNat 32 (A &&& B)
  apply BitVec.eq_of_getLsbD_eq
  intro i hi
  simp [hi]
theorem first_ok (σ : SIG) (hE : EnOK (gE σ)) (hD : DOK (eN (gE σ)) (gD σ)) : (mfC nI (fF σ) (nN σ)).1 = aFirst σ := by
  have hn7 : nN σ ≤ 7 := hE.1
  obtain ⟨W, hW, eW⟩ := hD.1
  have hW2 : W < 128 := Nat.lt_of_lt_of_le hW (pow7 hE.1)
  obtain ⟨M, hM, eM, hbit⟩ := otF_ok (nN σ) (by omega) W hW2
  have eM2 : otF σ = nI M := by unfold otF; rw [eW]; exact eM
  have hWj : ∀ j, ∃ V, V < 128 ∧ dW (itD (gE σ) (eY (gE σ)).2.2.1 (-1) j (gD σ)) = nI V := fun j => by
    obtain ⟨V, hV, e⟩ := (DOK_it hE (eY (gE σ)).2.2.1 (-1) hD j).1
    exact ⟨V, Nat.lt_of_lt_of_le hV (pow7 hE.1), e⟩
  -- a mask's hit is a free child's hit
  have hz : ∀ V, V < 128 → (nI V &&& otF σ = 0 ↔ ∀ c, c < nN σ → bitv (dW (gD σ)) (nI c) = 0 → nI V &&& (1 <<< (nI c &&& 31)) = 0) := fun V hV => by
    rw [eM2, and_nI hV hM]
    have hle : V &&& M < 128 := Nat.lt_of_le_of_lt Nat.and_le_left hV
    constructor
    · intro h c hc hb
      have h0 : V &&& M = 0 := (nI_eq (b := 0) (by omega) (by omega)).mp h
      have hMc : M.testBit c = true := (hbit c (by omega)).mpr ⟨hc, by rw [← eW]; exact hb⟩
      refine (bit_one V hV c (by omega)).mpr ?_
      have := Nat.testBit_and V M c
      rw [h0, hMc, Bool.and_true] at this
      rw [← this]
      exact Nat.zero_testBit c
    · intro h
      have h0 : V &&& M = 0 := (z_tb _ hle).mp (fun c hc => by
        rw [Nat.testBit_and]
        by_cases hMc : M.testBit c = true
        · obtain ⟨a, b⟩ := (hbit c hc).mp hMc
          rw [(bit_one V hV c hc).mp (h c a (by rw [eW]; exact b))]
          rfl
        · simp at hMc
          rw [hMc, Bool.and_false])
      rw [h0]
      rfl
  unfold aFirst
  by_cases hA : otF σ = 0 ∨ (fsU σ).1 = -5
  · rw [if_pos hA]
    refine congrArg Prod.fst (mf_none nI (fF σ) (nN σ) (fun i hi => ?_))
    unfold fF
    by_cases hb : bitv (dW (gD σ)) (nI i) = 0
    · rw [if_neg (fun q => q hb)]
      have hno : ∀ t, t < 61 → dW (itD (gE σ) (eY (gE σ)).2.2.1 (-1) t (gD σ)) &&& otF σ = 0 := by
        rcases hA with hA | hA
        · intro t _
          rw [hA]
          exact Int32.and_zero
        · rcases untV_spec (gE σ) (otF σ) 61 0 (gD σ) with ⟨j, h1, h2, h3, h4⟩ | ⟨h1, h2⟩
          · have : (fsU σ).1 = nI (0 + j) := congrArg Prod.fst h2
            rw [this] at hA
            exact absurd hA (m5_ne _ (by omega))
          · exact h2
      rcases untV_spec (gE σ) (1 <<< (nI i &&& 31)) 61 0 (gD σ) with ⟨j, h1, h2, h3, h4⟩ | ⟨h1, h2⟩
      · obtain ⟨V, hV, e⟩ := hWj j
        have := hno j h1
        rw [e] at this h3
        exact absurd ((hz V hV).mp this i hi hb) h3
      · exact h1
    · exact if_pos hb
  · rw [if_neg hA]
    have hA1 : ¬ otF σ = 0 := fun q => hA (Or.inl q)
    have hA2 : ¬ (fsU σ).1 = -5 := fun q => hA (Or.inr q)
    rcases untV_spec (gE σ) (otF σ) 61 0 (gD σ) with ⟨j, h1, h2, h3, h4⟩ | ⟨h1, h2⟩
    · obtain ⟨V, hV, e⟩ := hWj j
      rw [show (fsU σ).2 = itD (gE σ) (eY (gE σ)).2.2.1 (-1) j (gD σ) from congrArg Prod.snd h2, e]
      rw [e] at h3
      -- the lowest bit
      have hle : V &&& M < 128 := Nat.lt_of_le_of_lt Nat.and_le_left hV
      have hZ : nI V &&& otF σ = nI (V &&& M) := by rw [eM2, and_nI hV hM]
      rw [hZ]
      have hne : ¬ (V &&& M = 0) := fun q => h3 (by rw [hZ, q]; rfl)
      obtain ⟨i0, hi7, hi1, hi2⟩ := low_bit (V &&& M) hle hne
      have hiM : M.testBit i0 = true := by rw [Nat.testBit_and] at hi1; simp at hi1; exact hi1.2
      have hiV : V.testBit i0 = true := by rw [Nat.testBit_and] at hi1; simp at hi1; exact hi1.1
      obtain ⟨hin, hib⟩ := (hbit i0 hi7).mp hiM
      rw [fs_val (nI (V &&& M)) i0 (fun q => by rw [(bit_one _ hle i0 hi7).mp q] at hi1; cases hi1) (nN σ - 1) 0 (by omega) (by omega) (fun i _ hi => (bit_one _ hle i (by omega)).mpr (hi2 i hi))]
      have hval : ∀ i, i < nN σ → fF σ i = -5 ∨ ∃ k, j ≤ k ∧ k < 100 ∧ fF σ i = nI k ∧ (k = j → V.testBit i = true ∧ M.testBit i = true) := fun i hi => by
        unfold fF
        by_cases hb : bitv (dW (gD σ)) (nI i) = 0
        · rw [if_neg (fun q => q hb)]
          rcases untV_spec (gE σ) (1 <<< (nI i &&& 31)) 61 0 (gD σ) with ⟨k, g1, g2, g3, g4⟩ | ⟨g1, g2⟩
          · refine Or.inr ⟨k, ?_, by omega, by rw [g2, Nat.zero_add], fun ek => ?_⟩
            · rcases Nat.lt_or_ge k j with q | q
              · obtain ⟨V', hV', e'⟩ := hWj k
                have hx := h4 k q
                rw [e'] at hx g3
                exact absurd ((hz V' hV').mp hx i hi hb) g3
              · exact q
            · rw [ek, e] at g3
              refine ⟨?_, (hbit i (by omega)).mpr ⟨hi, by rw [← eW]; exact hb⟩⟩
              cases hq : V.testBit i with
              | true => rfl
              | false => exact absurd ((bit_one V hV i (by omega)).mpr hq) g3
          · exact Or.inl g1
        · exact Or.inl (if_pos hb)
      have h0 : fF σ i0 = nI j := by
        unfold fF
        rw [if_neg (fun q => q (by rw [eW]; exact hib))]
        rcases untV_spec (gE σ) (1 <<< (nI i0 &&& 31)) 61 0 (gD σ) with ⟨k, g1, g2, g3, g4⟩ | ⟨g1, g2⟩
        · rw [g2, Nat.zero_add]
          rcases Nat.lt_or_ge j k with q | q
          · have hx := g4 j q
            rw [e] at hx
            rw [(bit_one V hV i0 hi7).mp hx] at hiV
            cases hiV
          · rcases Nat.lt_or_ge k j with q2 | q2
            · obtain ⟨V', hV', e'⟩ := hWj k
              have hx := h4 k q2
              rw [e'] at hx g3
              exact absurd ((hz V' hV').mp hx i0 hin (by rw [eW]; exact hib)) g3
            · rw [Nat.le_antisymm q q2]
        · have hx := g2 j h1
          rw [e] at hx
          rw [(bit_one V hV i0 hi7).mp hx] at hiV
          cases hiV
      have hr := mf_val nI (fF σ) i0 j (by omega) (nI_pos' (by omega)) h0 (fun i hi => by
        rcases hval i (by omega) with q | ⟨k, q1, q2, q3, q4⟩
        · exact Or.inl q
        · refine Or.inr ⟨k, ?_, q2, q3⟩
          rcases Nat.lt_or_ge j k with p | p
          · exact p
          · obtain ⟨p1, p2⟩ := q4 (Nat.le_antisymm p q1)
            have := hi2 i hi
            rw [Nat.testBit_and, p1, p2] at this
            cases this) (nN σ - (i0 + 1)) (fun i a b => by
        rcases hval i (by omega) with q | ⟨k, q1, q2, q3, q4⟩
        · exact Or.inl q
        · exact Or.inr ⟨k, q1, q2, q3⟩)
      rw [show i0 + 1 + (nN σ - (i0 + 1)) = nN σ by omega] at hr
      rw [hr]
    · exact absurd h1 hA2

set_option maxRecDepth 20000 in
set_option maxHeartbeats 1000000 in
theorem mc_first (g : GG) (σ : SIG)  (S : SS) (L : LL) (hr : MRel S L σ) : Ci g 7 mX12_first [.ref 0] SHM S L (fun r S' L' => r = aFirst σ ∧ MRel S' L' σ) := by
  refine ct_of (ls := [some (.ref 0), none, none, none, none]) 4 (by decide +kernel) rfl rfl ?_
  have hn7 := hr.n7
  have loop : ∀ (r c : Nat) (S1 : SS), c + r = nN σ → (MRel S1 L σ) → Rx g 7 0 0 mX12_first SHM.length (fun r sh' S' L' => sh' = SHM ∧ ∃ x, r = some (.int x) ∧ (x = aFirst σ ∧ MRel S' L' σ)) 0 0 7 [some (.ref 0), some (.int (mfC nI (fF σ) c).1), some (.int (mfC nI (fF σ) c).2), some (.int (nI c)), none] [] SHM S1 L := by
    intro r
    induction r with
    | zero =>
      intro c S1 hc hI
      have hcn : c = nN σ := by omega
      have hsz : S1 0 0 = nI (nN σ) := hI.sz
      refine rx_iload_n dX12_first_7 rfl ?_
      refine rx_aload_n dX12_first_8 rfl ?_
      refine rx_getI dX12_first_9 flX12_7 (sM_0) rfl ?_
      refine rx_icmp_ge 68 dX12_first_12 (by decide) (fun h12 => ?_) (fun h12 => absurd (by rw [hsz]; exact nI_le (by omega) (by omega)) h12)
      refine rx_iload_n dX12_first_68 rfl ?_
      exact rx_iret dX12_first_69 rfl ⟨Nat.le_refl _, Nat.le_refl _⟩ ⟨rfl, _, rfl, ⟨by rw [hcn]; exact first_ok σ hI.en hI.dok, hI⟩⟩
    | succ r ih =>
      intro c S1 hc hI
      have hc7 : c < 7 := by omega
      have hci : (nI c).toNatClampNeg = c := nI_clamp (by omega)
      have hvc : vp_in (nI c) 7 := vp_in_nI hc7 (by omega)
      have hsz : S1 0 0 = nI (nN σ) := hI.sz
      refine rx_iload_n dX12_first_7 rfl ?_
      refine rx_aload_n dX12_first_8 rfl ?_
      refine rx_getI dX12_first_9 flX12_7 (sM_0) rfl ?_
      refine rx_icmp_ge 68 dX12_first_12 (by decide) (fun h12 => absurd h12 (by rw [hsz]; exact nI_ge (by omega) (by omega))) (fun h12 => ?_)
      refine rx_aload_n dX12_first_15 rfl ?_
      refine rx_aload_n dX12_first_16 rfl ?_
      refine rx_getI dX12_first_17 flX12_16 (sM_0) rfl ?_
      rw [show S1 0 2 = dW (gD σ) from hI.sc.w]
      refine rx_iload_n dX12_first_20 rfl ?_
      refine rx_cVi_2 clX12_328 dX12_first_21 (rcvo (sM_0) rfl) rfl (m_has g 0 _ _ S1 L) ?_
      refine pur3 ?_
      refine rx_if_eq 32 dX12_first_24 (by decide) (fun h24 => ?_) (fun h24 => ?_)
      · have hf : fF σ c = (untV (gE σ) (1 <<< (nI c &&& 31)) 61 0 (gD σ)).1 := if_neg (b2i_eq h24)
        refine rx_aload_n dX12_first_32 rfl ?_
        refine rx_iload_n dX12_first_33 rfl ?_
        refine rx_cVi_1 clX12_359 dX12_first_34 (rcvo (sM_0) rfl) rfl (m_touchesOf g (gE σ) (gD σ) c S1 L hI.en hI.dok (by have := hI.t; omega) hI.sc hI.sm hI.id hc7) ?_
        rintro x2 S2 L2 ⟨hx2, hR2, hL2⟩
        rw [hL2, hx2]
        have hr2 := hI.rs hR2
        refine rx_istore_4 rfl dX12_first_37 ?_
        refine rx_iload dX12_first_39 rfl ?_
        refine rx_if_lt 62 dX12_first_41 (by decide) (fun h41 => ?_) (fun h41 => ?_)
        · refine rx_iinc_3 (1) rfl dX12_first_62 (by decide) ?_
          refine rx_goto 7 dX12_first_65 (by decide) ?_
          refine rx_wk [some (.ref 0), some (.int _), some (.int _), some (.int _), none] ⟨Or.inr rfl, Or.inr rfl, Or.inr rfl, Or.inr rfl, Or.inl rfl, trivial⟩ ?_
          rw [nI_1]
          have e : mfC nI (fF σ) (c + 1) = (mfC nI (fF σ) c) := if_pos (Or.inl (by rw [hf]; exact h41))
          have hx := ih (c + 1) S2 (by omega) hr2
          rw [e] at hx
          exact hx
        · refine rx_iload_n dX12_first_44 rfl ?_
          refine rx_if_lt 57 dX12_first_45 (by decide) (fun h45 => ?_) (fun h45 => ?_)
          · refine rx_iload_n dX12_first_57 rfl ?_
            refine rx_istore_1 rfl dX12_first_58 ?_
            refine rx_iload dX12_first_59 rfl ?_
            refine rx_istore_2 rfl dX12_first_61 ?_
            refine rx_iinc_3 (1) rfl dX12_first_62 (by decide) ?_
            refine rx_goto 7 dX12_first_65 (by decide) ?_
            refine rx_wk [some (.ref 0), some (.int _), some (.int _), some (.int _), none] ⟨Or.inr rfl, Or.inr rfl, Or.inr rfl, Or.inr rfl, Or.inl rfl, trivial⟩ ?_
            rw [nI_1]
            have e : mfC nI (fF σ) (c + 1) = (nI c, (untV (gE σ) (1 <<< (nI c &&& 31)) 61 0 (gD σ)).1) := by
              show (if _ then _ else _) = _
              rw [if_neg, hf]
              rw [hf]
              rintro (q | ⟨q1, q2⟩)
              · exact h41 q
              · first | exact absurd q1 (Int32.not_le.mpr h45) | exact absurd h51 (Int32.not_lt.mpr q2)
            have hx := ih (c + 1) S2 (by omega) hr2
            rw [e] at hx
            exact hx
          · refine rx_iload dX12_first_48 rfl ?_
            refine rx_iload_n dX12_first_50 rfl ?_
            refine rx_icmp_lt 57 dX12_first_51 (by decide) (fun h51 => ?_) (fun h51 => ?_)
            · refine rx_iload_n dX12_first_57 rfl ?_
              refine rx_istore_1 rfl dX12_first_58 ?_
              refine rx_iload dX12_first_59 rfl ?_
              refine rx_istore_2 rfl dX12_first_61 ?_
              refine rx_iinc_3 (1) rfl dX12_first_62 (by decide) ?_
              refine rx_goto 7 dX12_first_65 (by decide) ?_
              refine rx_wk [some (.ref 0), some (.int _), some (.int _), some (.int _), none] ⟨Or.inr rfl, Or.inr rfl, Or.inr rfl, Or.inr rfl, Or.inl rfl, trivial⟩ ?_
              rw [nI_1]
              have e : mfC nI (fF σ) (c + 1) = (nI c, (untV (gE σ) (1 <<< (nI c &&& 31)) 61 0 (gD σ)).1) := by
                show (if _ then _ else _) = _
                rw [if_neg, hf]
                rw [hf]
                rintro (q | ⟨q1, q2⟩)
                · exact h41 q
                · first | exact absurd q1 (Int32.not_le.mpr h45) | exact absurd h51 (Int32.not_lt.mpr q2)
              have hx := ih (c + 1) S2 (by omega) hr2
              rw [e] at hx
              exact hx
            · refine rx_goto 62 dX12_first_54 (by decide) ?_
              refine rx_iinc_3 (1) rfl dX12_first_62 (by decide) ?_
              refine rx_goto 7 dX12_first_65 (by decide) ?_
              refine rx_wk [some (.ref 0), some (.int _), some (.int _), some (.int _), none] ⟨Or.inr rfl, Or.inr rfl, Or.inr rfl, Or.inr rfl, Or.inl rfl, trivial⟩ ?_
              rw [nI_1]
              have e : mfC nI (fF σ) (c + 1) = (mfC nI (fF σ) c) := if_pos (Or.inr ⟨Int32.not_lt.mp h45, by rw [hf]; exact Int32.not_lt.mp h51⟩)
              have hx := ih (c + 1) S2 (by omega) hr2
              rw [e] at hx
              exact hx
      · have hw : fF σ c = -5 := if_pos (b2i_ne h24)
        refine rx_bipush (-5) dX12_first_27 (by decide) ?_
        refine rx_goto 37 dX12_first_29 (by decide) ?_
        refine rx_istore_4 rfl dX12_first_37 ?_
        refine rx_iload dX12_first_39 rfl ?_
        refine rx_if_lt 62 dX12_first_41 (by decide) (fun h41 => ?_) (fun h41 => absurd (by decide) h41)
        refine rx_iinc_3 (1) rfl dX12_first_62 (by decide) ?_
        refine rx_goto 7 dX12_first_65 (by decide) ?_
        refine rx_wk [some (.ref 0), some (.int _), some (.int _), some (.int _), none] ⟨Or.inr rfl, Or.inr rfl, Or.inr rfl, Or.inr rfl, Or.inl rfl, trivial⟩ ?_
        rw [nI_1]
        have e : mfC nI (fF σ) (c + 1) = (mfC nI (fF σ) c) := if_pos (Or.inl (by rw [hw]; decide))
        have hx := ih (c + 1) S1 (by omega) hI
        rw [e] at hx
        exact hx
  refine rx_bipush (-5) dX12_first_0 (by decide) ?_
  refine rx_istore_1 rfl dX12_first_2 ?_
  refine rx_iconst (0) dX12_first_3 (by decide) ?_
  refine rx_istore_2 rfl dX12_first_4 ?_
  refine rx_iconst (0) dX12_first_5 (by decide) ?_
  refine rx_istore_3 rfl dX12_first_6 ?_
  exact loop (nN σ) 0 S (by omega) hr
