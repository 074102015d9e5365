theorem MSc.early {S : SS} {E : EN} {D : DY} (h : MSc S E D) (c : Nat) (x : Int32) : MSc (upS S 4 c x) (setEr E (upd (eE E) c x)) D := by
  obtain ⟨a1, a2, a3, a4, a5, a6, ⟨y, hy, e, hY⟩, a8⟩ := h
  have ho : ∀ j, j ≠ 4 → upS S 4 c x j = S j := fun j h => upS_off S 4 c x h
  refine ⟨by rw [ho 0 (by decide)]; exact a1, by rw [ho 1 (by decide)]; exact a2, by rw [ho 2 (by decide)]; exact a3, fun c' hc => by rw [upS_row]; exact upd_eq (a4 c' hc), by rw [ho 6 (by decide)]; exact a5, by rw [ho 7 (by decide)]; exact a6, ⟨y, hy, by rw [ho 0 (by decide)]; exact e, hY.off (fun j h1 h2 => ho j (by omega))⟩, by rw [ho 0 (by decide), ho 3 (by decide), ho 5 (by decide)]; exact a8⟩
theorem enok_early {E : EN} (h : EnOK E) (c e : Nat) (he : e ≤ 9) : EnOK (setEr E (upd (eE E) c (nI e))) := by
  obtain ⟨a1, a2, a3, a4, a5⟩ := h
  refine ⟨a1, a2, a3, fun c' hc => ?_, a5⟩
  show ∃ k, k ≤ 9 ∧ upd (eE E) c (nI e) c' = nI k
  unfold upd
  by_cases q : c' = c
  · rw [if_pos q]; exact ⟨e, he, rfl⟩
  · rw [if_neg q]; exact a4 c' hc
theorem upd_same (f : Nat → Int32) (c : Nat) : upd f c (f c) = f := by
  funext k
  unfold upd
  by_cases q : k = c
  · rw [if_pos q, q]
  · rw [if_neg q]
theorem setEr_same (E : EN) : setEr E (eE E) = E := rfl
theorem setCn_same (E : EN) : setCn E (eC E) = E := rfl
theorem untV_rng (E : EN) (th : Int32) (D : DY) : (untV E th 61 0 D).1 = -5 ∨ ∃ k, k < 61 ∧ (untV E th 61 0 D).1 = nI k := by
  rcases untV_spec E th 61 0 D with ⟨j, h1, h2, h3, h4⟩ | ⟨h1, h2⟩
  · exact Or.inr ⟨j, h1, by rw [h2, Nat.zero_add]⟩
  · exact Or.inl h1
/-- going up, the last among the least -/
theorem st_inv (f : Nat → Int32) (s : Nat → Int32 × Int32) (h0 : s 0 = (-5, 60)) (hs : ∀ e, s (e + 1) = if ¬ f e = -5 ∧ f e ≤ (s e).2 then (nI e, f e) else s e) (hf : ∀ e, f e = -5 ∨ ∃ k, k < 61 ∧ f e = nI k) : ∀ n, ((∀ e, e < n → f e = -5) ∧ s n = (-5, 60)) ∨ ∃ i j, i < n ∧ j < 61 ∧ f i = nI j ∧ s n = (nI i, nI j) ∧ (∀ e, e < n → f e = -5 ∨ ∃ k, j ≤ k ∧ k < 100 ∧ f e = nI k) ∧ ∀ e, i < e → e < n → f e = -5 ∨ ∃ k, j < k ∧ k < 100 ∧ f e = nI k
  | 0 => Or.inl ⟨fun e he => absurd he (by omega), h0⟩
  | n + 1 => by
    rcases st_inv f s h0 hs hf n with ⟨a1, a2⟩ | ⟨i, j, a1, a2, a3, a4, a5, a6⟩
    · rcases hf n with b | ⟨k, b1, b2⟩
      · refine Or.inl ⟨fun e he => ?_, by rw [hs n, if_neg (fun q => q.1 b)]; exact a2⟩
        rcases (show e < n ∨ e = n by omega) with q | q
        · exact a1 e q
        · rw [q]; exact b
      · refine Or.inr ⟨n, k, by omega, b1, b2, by rw [hs n, if_pos, b2]; rw [b2, a2]; exact ⟨m5_ne k (by omega), nI_le (b := 60) (by omega) (by omega)⟩, fun e he => ?_, fun e h1 h2 => absurd h1 (by omega)⟩
        rcases (show e < n ∨ e = n by omega) with q | q
        · exact Or.inl (a1 e q)
        · rw [q]; exact Or.inr ⟨k, Nat.le_refl _, by omega, b2⟩
    · by_cases c : ¬ f n = -5 ∧ f n ≤ (s n).2
      · rcases hf n with b | ⟨k, b1, b2⟩
        · exact absurd b c.1
        · have hk : k ≤ j := by
            have := c.2
            rw [b2, a4] at this
            exact (nI_leI (by omega) (by omega)).mp this
          refine Or.inr ⟨n, k, by omega, b1, b2, by rw [hs n, if_pos c, b2], fun e he => ?_, fun e h1 h2 => absurd h1 (by omega)⟩
          rcases (show e < n ∨ e = n by omega) with q | q
          · rcases a5 e q with p | ⟨k', p1, p2, p3⟩
            · exact Or.inl p
            · exact Or.inr ⟨k', by omega, p2, p3⟩
          · rw [q]; exact Or.inr ⟨k, Nat.le_refl _, by omega, b2⟩
      · have hn : f n = -5 ∨ ∃ k, j < k ∧ k < 100 ∧ f n = nI k := by
          rcases hf n with b | ⟨k, b1, b2⟩
          · exact Or.inl b
          · refine Or.inr ⟨k, ?_, by omega, b2⟩
            rcases Nat.lt_or_ge j k with p | p
            · exact p
            · exact absurd ⟨by rw [b2]; exact m5_ne k (by omega), by rw [b2, a4]; exact nI_le p (by omega)⟩ c
        refine Or.inr ⟨i, j, by omega, a2, a3, by rw [hs n, if_neg c]; exact a4, fun e he => ?_, fun e h1 h2 => ?_⟩
        · rcases (show e < n ∨ e = n by omega) with q | q
          · exact a5 e q
          · rw [q]
            rcases hn with p | ⟨k', p1, p2, p3⟩
            · exact Or.inl p
            · exact Or.inr ⟨k', by omega, p2, p3⟩
        · rcases (show e < n ∨ e = n by omega) with q | q
          · exact a6 e h1 q
          · rw [q]; exact hn
theorem stands_ok (σ : SIG) (c : Nat) : (mfC (fun m => nI (9 - m)) (fun m => stT σ c (9 - m)) 10).1 = (stC σ c 10).1 := by
  rcases st_inv (stT σ c) (stC σ c) rfl (fun _ => rfl) (fun e => untV_rng _ _ _) 10 with ⟨a1, a2⟩ | ⟨i, j, a1, a2, a3, a4, a5, a6⟩
  · rw [mf_none _ _ 10 (fun m hm => a1 (9 - m) (by omega)), a2]
  · have h := mf_val (fun m => nI (9 - m)) (fun m => stT σ c (9 - m)) (9 - i) j (by omega) (nI_pos' (by omega)) (by show stT σ c (9 - (9 - i)) = _; rw [show 9 - (9 - i) = i by omega]; exact a3) (fun m hm => a6 (9 - m) (by omega) (by omega)) i (fun m h1 h2 => a5 (9 - m) (by omega))
    rw [show 9 - i + 1 + i = 10 by omega] at h
    rw [h, a4]
    show nI (9 - (9 - i)) = nI i
    rw [show 9 - (9 - i) = i by omega]
theorem popc_rng {n : Nat} {D : DY} (h : DOK n D) (hn : n ≤ 7) : ∃ k, k < 8 ∧ popc (dW D) = nI k := by
  obtain ⟨W, hW, e⟩ := h.1
  have hW2 : W < 128 := Nat.lt_of_lt_of_le hW (pow7 hn)
  refine ⟨popN W, by have := popN_le W hW2; omega, ?_⟩
  rw [e]
  unfold popc
  rw [nI_clamp (by omega)]
theorem enok_cn {E : EN} (h : EnOK E) (f : Nat → Int32) (hf : ∀ c, c < 4 → ∃ k, 1 ≤ k ∧ k ≤ 9 ∧ f c = nI k) : EnOK (setCn E f) := by
  obtain ⟨a1, a2, a3, a4, a5, a6, a7⟩ := h
  exact ⟨a1, a2, a3, a4, a5, hf, a7⟩
theorem MSc.cn {S S' : SS} {E : EN} {D : DY} (h : MSc S E D) (f : Nat → Int32) (ho : ∀ j, j ≤ 14 → j ≠ 7 → S' j = S j) (h7 : ∀ c, c < 4 → S' 7 c = f c) : MSc S' (setCn E f) D := by
  obtain ⟨a1, a2, a3, a4, a5, a6, ⟨y, hy, e, hY⟩, a8⟩ := h
  refine ⟨by rw [ho 0 (by decide) (by decide)]; exact a1, by rw [ho 1 (by decide) (by decide)]; exact a2, by rw [ho 2 (by decide) (by decide)]; exact a3, by rw [ho 4 (by decide) (by decide)]; exact a4, by rw [ho 6 (by decide) (by decide)]; exact a5, h7, ⟨y, hy, by rw [ho 0 (by decide) (by decide)]; exact e, hY.off (fun j h1 h2 => ho j (by omega) (by omega))⟩, by rw [ho 0 (by decide) (by decide), ho 3 (by decide) (by decide), ho 5 (by decide) (by decide)]; exact a8⟩
theorem slT_rng (σ : SIG) (hE : EnOK (gE σ)) (hD : DOK (eN (gE σ)) (gD σ)) (m k : Nat) (hk : 1 ≤ k ∧ k ≤ 9) : ∃ j, j < 8 ∧ slT σ m k = nI j :=
  popc_rng (DOK_it (enok_cn hE _ (fun _ _ => ⟨k, hk.1, hk.2, rfl⟩)) (seesE σ) (-1) hD m) hE.1
theorem slow_ok (σ : SIG) (hE : EnOK (gE σ)) (hD : DOK (eN (gE σ)) (gD σ)) (m : Nat) : mgC (fun i => nI (9 - i)) (fun i => slT σ m (9 - i)) 9 = slC σ m 9 := by
  have main : ∀ n, n ≤ 9 → (n = 0 ∧ slC σ m n = (0, 7)) ∨ ∃ i j, 0 < i ∧ i ≤ n ∧ j < 8 ∧ slT σ m i = nI j ∧ slC σ m n = (nI i, nI j) ∧ (∀ e, 0 < e → e ≤ n → ∃ k, j ≤ k ∧ k < 100 ∧ slT σ m e = nI k) ∧ ∀ e, i < e → e ≤ n → ∃ k, j < k ∧ k < 100 ∧ slT σ m e = nI k := by
    intro n
    induction n with
    | zero => exact fun _ => Or.inl ⟨rfl, rfl⟩
    | succ n ih =>
      intro hn
      obtain ⟨k, b1, b2⟩ := slT_rng σ hE hD m (n + 1) ⟨by omega, hn⟩
      rcases ih (by omega) with ⟨a1, a2⟩ | ⟨i, j, a0, a1, a2, a3, a4, a5, a6⟩
      · subst a1
        refine Or.inr ⟨1, k, by omega, by omega, b1, b2, ?_, fun e h1 h2 => ?_, fun e h1 h2 => absurd h1 (by omega)⟩
        · show (if _ then _ else _) = _
          rw [if_pos, b2]
          rw [b2, a2]
          exact nI_le (b := 7) (by omega) (by omega)
        · rw [show e = 1 by omega]
          exact ⟨k, Nat.le_refl _, by omega, b2⟩
      · by_cases c : slT σ m (n + 1) ≤ (slC σ m n).2
        · have hk : k ≤ j := by
            rw [b2, a4] at c
            exact (nI_leI (by omega) (by omega)).mp c
          refine Or.inr ⟨n + 1, k, by omega, by omega, b1, b2, (if_pos c).trans (by rw [b2]), fun e h1 h2 => ?_, fun e h1 h2 => absurd h1 (by omega)⟩
          rcases (show e ≤ n ∨ e = n + 1 by omega) with q | q
          · obtain ⟨k', p1, p2, p3⟩ := a5 e h1 q
            exact ⟨k', by omega, p2, p3⟩
          · rw [q]; exact ⟨k, Nat.le_refl _, by omega, b2⟩
        · have hj : j < k := by
            rcases Nat.lt_or_ge j k with p | p
            · exact p
            · exact absurd (by rw [b2, a4]; exact nI_le p (by omega)) c
          refine Or.inr ⟨i, j, a0, by omega, a2, a3, (if_neg c).trans a4, fun e h1 h2 => ?_, fun e h1 h2 => ?_⟩
          · rcases (show e ≤ n ∨ e = n + 1 by omega) with q | q
            · exact a5 e h1 q
            · rw [q]; exact ⟨k, by omega, by omega, b2⟩
          · rcases (show e ≤ n ∨ e = n + 1 by omega) with q | q
            · exact a6 e h1 q
            · rw [q]; exact ⟨k, hj, by omega, b2⟩
  rcases main 9 (by omega) with ⟨a1, a2⟩ | ⟨i, j, a0, a1, a2, a3, a4, a5, a6⟩
  · exact absurd a1 (by omega)
  · have h := mg_val (fun m => nI (9 - m)) (fun i => slT σ m (9 - i)) (9 - i) j (by omega) (by show slT σ m (9 - (9 - i)) = _; rw [show 9 - (9 - i) = i by omega]; exact a3) (fun p hp => a6 (9 - p) (by omega) (by omega)) (i - 1) (fun p h1 h2 => a5 (9 - p) (by omega) (by omega))
    rw [show 9 - i + 1 + (i - 1) = 9 by omega] at h
    rw [h, a4]
    show (nI (9 - (9 - i)), nI j) = (nI i, nI j)
    rw [show 9 - (9 - i) = i by omega]
/-- a number going down -/
def eI : Nat → Int32
  | 0 => -1
  | r + 1 => nI r
theorem eI_m (r : Nat) : nI r + (-1) = eI r := by
  cases r with
  | zero => rfl
  | succ r => exact nI_m r
theorem eI_0 : eI 0 < 0 := by decide +kernel
-- a wall never loses
theorem goOnP_mono (far : Int32) (go a : Nat → Int32) (w : Int32) : ∀ n, w ||| (goOnP far go a w n).2 = (goOnP far go a w n).2
  | 0 => Int32.or_self
  | n + 1 => by
    show w ||| (goStep far go (goOnP far go a w n) n).2 = (goStep far go (goOnP far go a w n) n).2
    unfold goStep
    have ih := goOnP_mono far go a w n
    by_cases h : ¬ bitv (goOnP far go a w n).2 (nI n) = 0
    · rw [if_pos h]; exact ih
    · rw [if_neg h]
      by_cases h2 : (goOnP far go a w n).1 n + go n < far
      · rw [if_pos h2]; exact ih
      · rw [if_neg h2]
        show w ||| ((goOnP far go a w n).2 ||| _) = _
        rw [← Int32.or_assoc, ih]
theorem it_mono (E : EN) (sv hd : Int32) (D : DY) : ∀ n, dW D ||| dW (itD E sv hd n D) = dW (itD E sv hd n D)
  | 0 => Int32.or_self
  | n + 1 => by
    have ih := it_mono E sv hd D n
    have h := goOnP_mono (eY E).1 (goH E hd (itD E sv hd n D)) (dA (itD E sv hd n D)) (dW (itD E sv hd n D)) (eN E)
    show dW D ||| (stepG E hd (itD E sv hd n D)).2 = (stepG E hd (itD E sv hd n D)).2
    unfold stepG
    rw [← h, ← Int32.or_assoc, ih]
theorem pop_sub : ∀ W, W < 128 → ∀ V, V < 128 → nI W ||| nI V = nI V → popN V = popN W → V = W := by decide +kernel
theorem pop_eq {E : EN} (hE : EnOK E) (sv : Int32) {D : DY} (hD : DOK (eN E) D) (m : Nat) : popc (dW (itD E sv (-1) m D)) = popc (dW D) ↔ dW (itD E sv (-1) m D) = dW D := by
  obtain ⟨W, hW, e⟩ := hD.1
  obtain ⟨V, hV, e'⟩ := (DOK_it hE sv (-1) hD m).1
  have hW2 : W < 128 := Nat.lt_of_lt_of_le hW (pow7 hE.1)
  have hV2 : V < 128 := Nat.lt_of_lt_of_le hV (pow7 hE.1)
  have hm := it_mono E sv (-1) D m
  rw [e, e'] at hm ⊢
  constructor
  · intro h
    unfold popc at h
    rw [nI_clamp (by omega), nI_clamp (by omega)] at h
    have := popN_le W hW2
    have := popN_le V hV2
    rw [pop_sub W hW2 V hV2 hm ((nI_eq (by omega) (by omega)).mp h)]
  · intro h
    rw [h]

set_option maxRecDepth 20000 in
set_option maxHeartbeats 1000000 in
theorem mc_stands (g : GG) (σ : SIG) (c : Int32) (S : SS) (L : LL) (hr : MRel S L σ) : Ci g 7 mX12_stands [.ref 0, .int c] SHM S L (fun r S' L' => r = aStands σ c ∧ MRel S' L' σ) := by
  refine ct_of (ls := [some (.ref 0), some (.int c), none, none, none, none, none]) 5 (by decide +kernel) rfl rfl ?_
  refine rx_aload_n dX12_stands_0 rfl ?_
  refine rx_iload_n dX12_stands_1 rfl ?_
  refine rx_cVi_1 clX12_240 dX12_stands_2 (rcvo (sM_0) rfl) rfl (m_isChild g (nN σ) c S L hr.n7 hr.sz) ?_
  refine pur3 ?_
  refine rx_if_ne 10 dX12_stands_5 (by decide) (fun h5 => ?_) (fun h5 => ?_)
  · have hq := b2i_ne h5
    obtain ⟨c, hc, rfl⟩ := rngL (nN σ) (by have := hr.n7; omega) hq.1 hq.2
    have hc7 : c < 7 := by have := hr.n7; omega
    have hci : (nI c).toNatClampNeg = c := nI_clamp (by omega)
    have hvc : vp_in (nI c) 7 := vp_in_nI hc7 (by omega)
    refine rx_aload_n dX12_stands_10 rfl ?_
    refine rx_getR dX12_stands_11 flX12_29 (sM_0) rfl ?_
    refine rx_iload_n dX12_stands_14 rfl ?_
    refine rx_iaload dX12_stands_15 (sM_4) hvc ?_
    rw [hci, hr.sc.e hc7]
    refine rx_istore_2 rfl dX12_stands_16 ?_
    refine rx_bipush (-5) dX12_stands_17 (by decide) ?_
    refine rx_istore_3 rfl dX12_stands_19 ?_
    refine rx_iconst (0) dX12_stands_20 (by decide) ?_
    refine rx_istore_4 rfl dX12_stands_21 ?_
    refine rx_bipush (9) dX12_stands_23 (by decide) ?_
    refine rx_istore_5 rfl dX12_stands_25 ?_
    have loop : ∀ (r k : Nat) (S1 : SS), k + r = 10 → ((∃ x, MSc S1 (setEr (gE σ) (upd (eE (gE σ)) c x)) (gD σ)) ∧ (S1 0 27 = -1 ∧ S1 0 29 = 9999 ∧ S1 0 30 = -1) ∧ Fr JB KB S S1) → Rx g 7 0 0 mX12_stands SHM.length (fun r sh' S' L' => sh' = SHM ∧ ∃ x, r = some (.int x) ∧ (x = aStands σ (nI c) ∧ MRel S' L' σ)) 0 0 27 [some (.ref 0), some (.int (nI c)), some (.int (eE (gE σ) c)), some (.int (mfC (fun m => nI (9 - m)) (fun m => stT σ c (9 - m)) k).1), some (.int (mfC (fun m => nI (9 - m)) (fun m => stT σ c (9 - m)) k).2), some (.int (eI r)), none] [] SHM S1 L := by
      intro r
      induction r with
      | zero =>
        intro k S1 hk hI
        obtain ⟨⟨x, h1⟩, h2, h3⟩ := hI
        have hc10 : k = 10 := by omega
        have hfin : MSc (upS S1 4 c (eE (gE σ) c)) (gE σ) (gD σ) := by
          have q := h1.early c (eE (gE σ) c)
          have e : setEr (setEr (gE σ) (upd (eE (gE σ)) c x)) (upd (eE (setEr (gE σ) (upd (eE (gE σ)) c x))) c (eE (gE σ) c)) = gE σ := by
            show setEr (gE σ) (upd (upd (eE (gE σ)) c x) c (eE (gE σ) c)) = _
            rw [upd_upd, upd_same]
            rfl
          rw [e] at q
          exact q
        refine rx_iload dX12_stands_27 rfl ?_
        refine rx_if_lt 79 dX12_stands_29 (by decide) (fun h29 => ?_) (fun h29 => absurd eI_0 h29)
        refine rx_aload_n dX12_stands_79 rfl ?_
        refine rx_getR dX12_stands_80 flX12_29 (sM_0) rfl ?_
        refine rx_iload_n dX12_stands_83 rfl ?_
        refine rx_iload_n dX12_stands_84 rfl ?_
        refine rx_iastore dX12_stands_85 (sM_4) hvc ?_
        rw [hci]
        refine rx_iload_n dX12_stands_86 rfl ?_
        exact rx_iret dX12_stands_87 rfl ⟨Nat.le_refl _, Nat.le_refl _⟩ ⟨rfl, _, rfl, ⟨by unfold aStands; rw [if_pos hq, hci, hc10]; exact stands_ok σ c, hr.back hfin ⟨(congrFun (upS_off S1 4 c _ (by decide)) 27).trans h2.1, (congrFun (upS_off S1 4 c _ (by decide)) 29).trans h2.2.1, (congrFun (upS_off S1 4 c _ (by decide)) 30).trans h2.2.2⟩ (h3.up (by decide) (by decide))⟩⟩
      | succ r ih =>
        intro k S1 hk hI
        obtain ⟨⟨x, h1⟩, h2, h3⟩ := hI
        have hr9 : 9 - k = r := by omega
        have hf : (fun m => stT σ c (9 - m)) k = stT σ c r := by
          show stT σ c (9 - k) = _
          rw [hr9]
        have hl : (fun m => nI (9 - m)) k = nI r := by
          show nI (9 - k) = _
          rw [hr9]
        have hM2 : MSc (upS S1 4 c (nI r)) (setEr (gE σ) (upd (eE (gE σ)) c (nI r))) (gD σ) := by
          have q := h1.early c (nI r)
          have e : setEr (setEr (gE σ) (upd (eE (gE σ)) c x)) (upd (eE (setEr (gE σ) (upd (eE (gE σ)) c x))) c (nI r)) = setEr (gE σ) (upd (eE (gE σ)) c (nI r)) := by
            show setEr (gE σ) (upd (upd (eE (gE σ)) c x) c (nI r)) = _
            rw [upd_upd]
          rw [e] at q
          exact q
        show Rx g 7 0 0 mX12_stands SHM.length (fun r sh' S' L' => sh' = SHM ∧ ∃ x, r = some (.int x) ∧ (x = aStands σ (nI c) ∧ MRel S' L' σ)) 0 0 27 [some (.ref 0), some (.int (nI c)), some (.int (eE (gE σ) c)), some (.int (mfC (fun m => nI (9 - m)) (fun m => stT σ c (9 - m)) k).1), some (.int (mfC (fun m => nI (9 - m)) (fun m => stT σ c (9 - m)) k).2), some (.int (nI r)), none] [] SHM S1 L
        refine rx_iload dX12_stands_27 rfl ?_
        refine rx_if_lt 79 dX12_stands_29 (by decide) (fun h29 => absurd h29 (nI_pos (by omega))) (fun h29 => ?_)
        refine rx_aload_n dX12_stands_32 rfl ?_
        refine rx_getR dX12_stands_33 flX12_29 (sM_0) rfl ?_
        refine rx_iload_n dX12_stands_36 rfl ?_
        refine rx_iload dX12_stands_37 rfl ?_
        refine rx_iastore dX12_stands_39 (sM_4) hvc ?_
        rw [hci]
        refine rx_aload_n dX12_stands_40 rfl ?_
        refine rx_iload_n dX12_stands_41 rfl ?_
        refine rx_cVi_1 clX12_359 dX12_stands_42 (rcvo (sM_0) rfl) rfl (m_touchesOf g (setEr (gE σ) (upd (eE (gE σ)) c (nI r))) (gD σ) c _ L (enok_early hr.en c r (by omega)) hr.dok (by have := hr.t; omega) hM2 ((congrFun (upS_off S1 4 c _ (by decide)) 27).trans h2.1) ((congrFun (upS_off S1 4 c _ (by decide)) 30).trans h2.2.2) hc7) ?_
        rintro x2 S2 L2 ⟨hx2, hR2, hL2⟩
        rw [hL2, hx2]
        refine rx_istore_6 rfl dX12_stands_45 ?_
        refine rx_iload dX12_stands_47 rfl ?_
        refine rx_if_lt 73 dX12_stands_49 (by decide) (fun h49 => ?_) (fun h49 => ?_)
        · refine rx_iinc_5 (-1) rfl dX12_stands_73 (by decide) ?_
          refine rx_goto 27 dX12_stands_76 (by decide) ?_
          refine rx_wk [some (.ref 0), some (.int _), some (.int _), some (.int _), some (.int _), some (.int _), none] ⟨Or.inr rfl, Or.inr rfl, Or.inr rfl, Or.inr rfl, Or.inr rfl, Or.inr rfl, Or.inl rfl, trivial⟩ ?_
          rw [eI_m]
          have e : mfC (fun m => nI (9 - m)) (fun m => stT σ c (9 - m)) (k + 1) = (mfC (fun m => nI (9 - m)) (fun m => stT σ c (9 - m)) k) := if_pos (Or.inl (by rw [hf]; exact h49))
          have hx := ih (k + 1) S2 (by omega) ⟨⟨_, hR2.1⟩, ⟨by rw [hR2.2.1.2 27 (by decide)]; exact h2.1, hR2.2.2.1, hR2.2.2.2⟩, (h3.up (by decide) (by decide)).trans hR2.2.1.big⟩
          rw [e] at hx
          exact hx
        · refine rx_iload_n dX12_stands_52 rfl ?_
          refine rx_if_lt 66 dX12_stands_53 (by decide) (fun h53 => ?_) (fun h53 => ?_)
          · refine rx_iload dX12_stands_66 rfl ?_
            refine rx_istore_3 rfl dX12_stands_68 ?_
            refine rx_iload dX12_stands_69 rfl ?_
            refine rx_istore_4 rfl dX12_stands_71 ?_
            refine rx_iinc_5 (-1) rfl dX12_stands_73 (by decide) ?_
            refine rx_goto 27 dX12_stands_76 (by decide) ?_
            refine rx_wk [some (.ref 0), some (.int _), some (.int _), some (.int _), some (.int _), some (.int _), none] ⟨Or.inr rfl, Or.inr rfl, Or.inr rfl, Or.inr rfl, Or.inr rfl, Or.inr rfl, Or.inl rfl, trivial⟩ ?_
            rw [eI_m]
            have e : mfC (fun m => nI (9 - m)) (fun m => stT σ c (9 - m)) (k + 1) = (nI r, stT σ c r) := by
              show (if _ then _ else _) = _
              rw [if_neg, hf, hl]
              rw [hf]
              rintro (q | ⟨q1, q2⟩)
              · exact h49 q
              · first | exact absurd q1 (Int32.not_le.mpr h53) | exact absurd h60 (Int32.not_lt.mpr q2)
            have hx := ih (k + 1) S2 (by omega) ⟨⟨_, hR2.1⟩, ⟨by rw [hR2.2.1.2 27 (by decide)]; exact h2.1, hR2.2.2.1, hR2.2.2.2⟩, (h3.up (by decide) (by decide)).trans hR2.2.1.big⟩
            rw [e] at hx
            exact hx
          · refine rx_iload dX12_stands_56 rfl ?_
            refine rx_iload dX12_stands_58 rfl ?_
            refine rx_icmp_lt 66 dX12_stands_60 (by decide) (fun h60 => ?_) (fun h60 => ?_)
            · refine rx_iload dX12_stands_66 rfl ?_
              refine rx_istore_3 rfl dX12_stands_68 ?_
              refine rx_iload dX12_stands_69 rfl ?_
              refine rx_istore_4 rfl dX12_stands_71 ?_
              refine rx_iinc_5 (-1) rfl dX12_stands_73 (by decide) ?_
              refine rx_goto 27 dX12_stands_76 (by decide) ?_
              refine rx_wk [some (.ref 0), some (.int _), some (.int _), some (.int _), some (.int _), some (.int _), none] ⟨Or.inr rfl, Or.inr rfl, Or.inr rfl, Or.inr rfl, Or.inr rfl, Or.inr rfl, Or.inl rfl, trivial⟩ ?_
              rw [eI_m]
              have e : mfC (fun m => nI (9 - m)) (fun m => stT σ c (9 - m)) (k + 1) = (nI r, stT σ c r) := by
                show (if _ then _ else _) = _
                rw [if_neg, hf, hl]
                rw [hf]
                rintro (q | ⟨q1, q2⟩)
                · exact h49 q
                · first | exact absurd q1 (Int32.not_le.mpr h53) | exact absurd h60 (Int32.not_lt.mpr q2)
              have hx := ih (k + 1) S2 (by omega) ⟨⟨_, hR2.1⟩, ⟨by rw [hR2.2.1.2 27 (by decide)]; exact h2.1, hR2.2.2.1, hR2.2.2.2⟩, (h3.up (by decide) (by decide)).trans hR2.2.1.big⟩
              rw [e] at hx
              exact hx
            · refine rx_goto 73 dX12_stands_63 (by decide) ?_
              refine rx_iinc_5 (-1) rfl dX12_stands_73 (by decide) ?_
              refine rx_goto 27 dX12_stands_76 (by decide) ?_
              refine rx_wk [some (.ref 0), some (.int _), some (.int _), some (.int _), some (.int _), some (.int _), none] ⟨Or.inr rfl, Or.inr rfl, Or.inr rfl, Or.inr rfl, Or.inr rfl, Or.inr rfl, Or.inl rfl, trivial⟩ ?_
              rw [eI_m]
              have e : mfC (fun m => nI (9 - m)) (fun m => stT σ c (9 - m)) (k + 1) = (mfC (fun m => nI (9 - m)) (fun m => stT σ c (9 - m)) k) := if_pos (Or.inr ⟨Int32.not_lt.mp h53, by rw [hf]; exact Int32.not_lt.mp h60⟩)
              have hx := ih (k + 1) S2 (by omega) ⟨⟨_, hR2.1⟩, ⟨by rw [hR2.2.1.2 27 (by decide)]; exact h2.1, hR2.2.2.1, hR2.2.2.2⟩, (h3.up (by decide) (by decide)).trans hR2.2.1.big⟩
              rw [e] at hx
              exact hx
    exact loop 10 0 S (by omega) ⟨⟨eE (gE σ) c, by rw [upd_same]; exact hr.sc⟩, ⟨hr.sm, hr.ms, hr.id⟩, Fr.refl⟩
  · refine rx_iconst (-1) dX12_stands_8 (by decide) ?_
    exact rx_iret dX12_stands_9 rfl ⟨Nat.le_refl _, Nat.le_refl _⟩ ⟨rfl, _, rfl, ⟨(if_neg (b2i_eq h5)).symm, hr⟩⟩
set_option maxRecDepth 20000 in
set_option maxHeartbeats 400000 in
theorem m_keepCounts (g : GG) (S : SS) (L : LL) : Cv g 0 mX12_keepCounts [.ref 0] SHM S L (fun S' L' => ((∀ c, c < 4 → S' 23 c = S 7 c) ∧ ∀ j, j ≠ 23 → S' j = S j) ∧ L' = L) := by
  refine ct_of (ls := [some (.ref 0), none]) 1 (by decide +kernel) rfl rfl ?_
  have loop : ∀ (r c : Nat) (S1 : SS), c + r = 4 → ((∀ i, i < c → S1 23 i = S 7 i) ∧ ∀ j, j ≠ 23 → S1 j = S j) → Rx g 0 0 0 mX12_keepCounts SHM.length (fun r sh' S' L' => sh' = SHM ∧ r = none ∧ (((∀ c, c < 4 → S' 23 c = S 7 c) ∧ ∀ j, j ≠ 23 → S' j = S j) ∧ L' = L)) 0 0 2 [some (.ref 0), some (.int (nI c))] [] SHM S1 L := by
    intro r
    induction r with
    | zero =>
      intro c S1 hc hI
      have hcn : c = 4 := by omega
      subst hcn
      refine rx_iload_n dX12_keepCounts_2 rfl ?_
      refine rx_iconst (4) dX12_keepCounts_3 (by decide) ?_
      refine rx_icmp_ge 25 dX12_keepCounts_4 (by decide) (fun h4 => ?_) (fun h4 => absurd (nI_le (a := 4) (b := _) (by omega) (by omega)) h4)
      exact rx_vret dX12_keepCounts_25 rfl ⟨Nat.le_refl _, Nat.le_refl _⟩ ⟨rfl, rfl, ⟨hI, rfl⟩⟩
    | succ r ih =>
      intro c S1 hc hI
      have hc7 : c < 7 := by omega
      have hci : (nI c).toNatClampNeg = c := nI_clamp (by omega)
      have hvc : vp_in (nI c) 7 := vp_in_nI hc7 (by omega)
      have hv4 : vp_in (nI c) 4 := vp_in_nI (by omega) (by omega)
      refine rx_iload_n dX12_keepCounts_2 rfl ?_
      refine rx_iconst (4) dX12_keepCounts_3 (by decide) ?_
      refine rx_icmp_ge 25 dX12_keepCounts_4 (by decide) (fun h4 => absurd h4 (nI_ge (a := c) (b := 4) (by omega) (by omega))) (fun h4 => ?_)
      refine rx_aload_n dX12_keepCounts_7 rfl ?_
      refine rx_getR dX12_keepCounts_8 flX12_132 (sM_0) rfl ?_
      refine rx_iload_n dX12_keepCounts_11 rfl ?_
      refine rx_aload_n dX12_keepCounts_12 rfl ?_
      refine rx_getR dX12_keepCounts_13 flX12_38 (sM_0) rfl ?_
      refine rx_iload_n dX12_keepCounts_16 rfl ?_
      refine rx_iaload dX12_keepCounts_17 (sM_7) hv4 ?_
      refine rx_iastore dX12_keepCounts_18 (sM_23) hv4 ?_
      refine rx_iinc_1 (1) rfl dX12_keepCounts_19 (by decide) ?_
      refine rx_goto 2 dX12_keepCounts_22 (by decide) ?_
      rw [nI_1]
      refine ih (c + 1) _ (by omega) ⟨fun i hi => ?_, fun j hj => (upS_off _ _ _ _ hj).trans (hI.2 j hj)⟩
      simp (disch := omega) only [upS_off, upS_row, upd, hci]
      by_cases e : i = c
      · rw [if_pos e, e, hI.2 7 (by decide)]
      · rw [if_neg e]; exact hI.1 i (by omega)
  refine rx_iconst (0) dX12_keepCounts_0 (by decide) ?_
  refine rx_istore_1 rfl dX12_keepCounts_1 ?_
  exact loop 4 0 S (by omega) ⟨fun i hi => absurd hi (by omega), fun _ _ => rfl⟩
set_option maxRecDepth 20000 in
set_option maxHeartbeats 400000 in
theorem m_putCounts (g : GG) (S : SS) (L : LL) : Cv g 0 mX12_putCounts [.ref 0] SHM S L (fun S' L' => ((∀ c, c < 4 → S' 7 c = S 23 c) ∧ ∀ j, j ≠ 7 → S' j = S j) ∧ L' = L) := by
  refine ct_of (ls := [some (.ref 0), none]) 1 (by decide +kernel) rfl rfl ?_
  have loop : ∀ (r c : Nat) (S1 : SS), c + r = 4 → ((∀ i, i < c → S1 7 i = S 23 i) ∧ ∀ j, j ≠ 7 → S1 j = S j) → Rx g 0 0 0 mX12_putCounts SHM.length (fun r sh' S' L' => sh' = SHM ∧ r = none ∧ (((∀ c, c < 4 → S' 7 c = S 23 c) ∧ ∀ j, j ≠ 7 → S' j = S j) ∧ L' = L)) 0 0 2 [some (.ref 0), some (.int (nI c))] [] SHM S1 L := by
    intro r
    induction r with
    | zero =>
      intro c S1 hc hI
      have hcn : c = 4 := by omega
      subst hcn
      refine rx_iload_n dX12_putCounts_2 rfl ?_
      refine rx_iconst (4) dX12_putCounts_3 (by decide) ?_
      refine rx_icmp_ge 25 dX12_putCounts_4 (by decide) (fun h4 => ?_) (fun h4 => absurd (nI_le (a := 4) (b := _) (by omega) (by omega)) h4)
      exact rx_vret dX12_putCounts_25 rfl ⟨Nat.le_refl _, Nat.le_refl _⟩ ⟨rfl, rfl, ⟨hI, rfl⟩⟩
    | succ r ih =>
      intro c S1 hc hI
      have hc7 : c < 7 := by omega
      have hci : (nI c).toNatClampNeg = c := nI_clamp (by omega)
      have hvc : vp_in (nI c) 7 := vp_in_nI hc7 (by omega)
      have hv4 : vp_in (nI c) 4 := vp_in_nI (by omega) (by omega)
      refine rx_iload_n dX12_putCounts_2 rfl ?_
      refine rx_iconst (4) dX12_putCounts_3 (by decide) ?_
      refine rx_icmp_ge 25 dX12_putCounts_4 (by decide) (fun h4 => absurd h4 (nI_ge (a := c) (b := 4) (by omega) (by omega))) (fun h4 => ?_)
      refine rx_aload_n dX12_putCounts_7 rfl ?_
      refine rx_getR dX12_putCounts_8 flX12_38 (sM_0) rfl ?_
      refine rx_iload_n dX12_putCounts_11 rfl ?_
      refine rx_aload_n dX12_putCounts_12 rfl ?_
      refine rx_getR dX12_putCounts_13 flX12_132 (sM_0) rfl ?_
      refine rx_iload_n dX12_putCounts_16 rfl ?_
      refine rx_iaload dX12_putCounts_17 (sM_23) hv4 ?_
      refine rx_iastore dX12_putCounts_18 (sM_7) hv4 ?_
      refine rx_iinc_1 (1) rfl dX12_putCounts_19 (by decide) ?_
      refine rx_goto 2 dX12_putCounts_22 (by decide) ?_
      rw [nI_1]
      refine ih (c + 1) _ (by omega) ⟨fun i hi => ?_, fun j hj => (upS_off _ _ _ _ hj).trans (hI.2 j hj)⟩
      simp (disch := omega) only [upS_off, upS_row, upd, hci]
      by_cases e : i = c
      · rw [if_pos e, e, hI.2 23 (by decide)]
      · rw [if_neg e]; exact hI.1 i (by omega)
  refine rx_iconst (0) dX12_putCounts_0 (by decide) ?_
  refine rx_istore_1 rfl dX12_putCounts_1 ?_
  exact loop 4 0 S (by omega) ⟨fun i hi => absurd hi (by omega), fun _ _ => rfl⟩
set_option maxRecDepth 20000 in
set_option maxHeartbeats 1000000 in
theorem mc_slow (g : GG) (σ : SIG) (n what : Int32) (S : SS) (L : LL) (hr : MRel S L σ) : Ci g 8 mX12_slow [.ref 0, .int n, .int what] SHM S L (fun r S' L' => r = aSlow σ n what ∧ MRel S' L' σ) := by
  refine ct_of (ls := [some (.ref 0), some (.int n), some (.int what), none, none, none, none]) 4 (by decide +kernel) rfl rfl ?_
  refine rx_aload_n dX12_slow_0 rfl ?_
  refine rx_iload_n dX12_slow_1 rfl ?_
  refine rx_iconst (0) dX12_slow_2 (by decide) ?_
  refine rx_iconst (1) dX12_slow_3 (by decide) ?_
  refine rx_cVi_3 clX12_236 dX12_slow_4 (rcvo (sM_0) rfl) rfl (m_in g 0 _ _ _ S L) ?_
  refine pur3 ?_
  refine rx_if_ne 12 dX12_slow_7 (by decide) (fun h7 => ?_) (fun h7 => ?_)
  · refine rx_aload_n dX12_slow_12 rfl ?_
    refine rx_iload_n dX12_slow_13 rfl ?_
    refine rx_iconst (1) dX12_slow_14 (by decide) ?_
    refine rx_bipush (20) dX12_slow_15 (by decide) ?_
    refine rx_cVi_3 clX12_236 dX12_slow_17 (rcvo (sM_0) rfl) rfl (m_in g 0 _ _ _ S L) ?_
    refine pur3 ?_
    refine rx_if_ne 26 dX12_slow_20 (by decide) (fun h20 => ?_) (fun h20 => ?_)
    · have hw := b2i_ne h7
      have hnr := b2i_ne h20
      obtain ⟨m, hm, rfl⟩ := rngI 20 (by omega) (Int32.le_trans (by decide) hnr.1) hnr.2
      have hmc : (nI m).toNatClampNeg = m := nI_clamp (by omega)
      refine rx_aload_n dX12_slow_26 rfl ?_
      refine rx_cVv_0 clX12_362 dX12_slow_27 (rcvo (sM_0) rfl) rfl (m_keepCounts g S L) ?_
      rintro S1 L1 ⟨⟨p1, p2⟩, hL1⟩
      rw [hL1]
      have hk1 : MSc S1 (setCn (gE σ) (eC (gE σ))) (gD σ) := hr.sc.cn (eC (gE σ)) (fun j h _ => p2 j (by omega)) (fun c hc => by rw [p2 7 (by decide)]; exact hr.sc.2.2.2.2.2.1 c hc)
      have hk2 : Fr JB KB S S1 := ⟨fun j _ b => p2 j (fun e => b (by rw [e]; decide)), fun k _ => by rw [p2 0 (by decide)]⟩
      have hk3 : S1 0 27 = -1 ∧ S1 0 29 = 9999 ∧ S1 0 30 = -1 := by rw [p2 0 (by decide)]; exact ⟨hr.sm, hr.ms, hr.id⟩
      have hk4 : ∀ c, c < 4 → S1 23 c = eC (gE σ) c := fun c hc => (p1 c hc).trans (hr.sc.2.2.2.2.2.1 c hc)
      refine rx_iconst (0) dX12_slow_30 (by decide) ?_
      refine rx_istore_3 rfl dX12_slow_31 ?_
      refine rx_bipush (99) dX12_slow_32 (by decide) ?_
      refine rx_istore_4 rfl dX12_slow_34 ?_
      refine rx_bipush (9) dX12_slow_36 (by decide) ?_
      refine rx_istore_5 rfl dX12_slow_38 ?_
      have loop : ∀ (r k : Nat) (S1 : SS), k + r = 9 → ((∃ f, MSc S1 (setCn (gE σ) f) (gD σ)) ∧ (S1 0 27 = -1 ∧ S1 0 29 = 9999 ∧ S1 0 30 = -1) ∧ Fr JB KB S S1 ∧ ∀ c, c < 4 → S1 23 c = eC (gE σ) c) → Rx g 8 0 0 mX12_slow SHM.length (fun r sh' S' L' => sh' = SHM ∧ ∃ x, r = some (.int x) ∧ (x = aSlow σ (nI m) what ∧ MRel S' L' σ)) 0 0 40 [some (.ref 0), some (.int (nI m)), some (.int what), some (.int (mgC (fun i => nI (9 - i)) (fun i => slT σ m (9 - i)) k).1), some (.int (mgC (fun i => nI (9 - i)) (fun i => slT σ m (9 - i)) k).2), some (.int (nI r)), none] [] SHM S1 L := by
        intro r
        induction r with
        | zero =>
          intro k S1 hk hI
          obtain ⟨⟨f, h1⟩, h2, h3, h4⟩ := hI
          have hk9 : k = 9 := by omega
          refine rx_iload dX12_slow_40 rfl ?_
          refine rx_if_le 99 dX12_slow_42 (by decide) (fun h42 => ?_) (fun h42 => absurd (Int32.le_refl _) h42)
          refine rx_aload_n dX12_slow_99 rfl ?_
          refine rx_cVv_0 clX12_368 dX12_slow_100 (rcvo (sM_0) rfl) rfl (m_putCounts g S1 L) ?_
          rintro S4 L4 ⟨⟨p1, p2⟩, hL4⟩
          rw [hL4]
          have hfin : MSc S4 (gE σ) (gD σ) := by
            have q := h1.cn (eC (gE σ)) (fun j _ h => p2 j h) (fun c hc => (p1 c hc).trans (h4 c hc))
            exact q
          have hr4 : MRel S4 L σ := hr.back hfin (by rw [p2 0 (by decide)]; exact h2) (h3.trans ⟨fun j _ b => p2 j (fun e => b (by rw [e]; decide)), fun k _ => by rw [p2 0 (by decide)]⟩)
          refine rx_iload_n dX12_slow_103 rfl ?_
          refine rx_if_ne 111 dX12_slow_104 (by decide) (fun h104 => ?_) (fun h104 => ?_)
          · refine rx_iload dX12_slow_111 rfl ?_
            exact rx_iret dX12_slow_113 rfl ⟨Nat.le_refl _, Nat.le_refl _⟩ ⟨rfl, _, rfl, ⟨by unfold aSlow; rw [if_neg (fun q => q hw), if_neg (fun q => q hnr), if_neg h104, hmc, hk9, slow_ok σ hr.en hr.dok m], hr4⟩⟩
          · refine rx_iload_n dX12_slow_107 rfl ?_
            refine rx_goto 113 dX12_slow_108 (by decide) ?_
            exact rx_iret dX12_slow_113 rfl ⟨Nat.le_refl _, Nat.le_refl _⟩ ⟨rfl, _, rfl, ⟨by unfold aSlow; rw [if_neg (fun q => q hw), if_neg (fun q => q hnr), if_pos h104, hmc, hk9, slow_ok σ hr.en hr.dok m], hr4⟩⟩
        | succ r ih =>
          intro k S1 hk hI
          obtain ⟨⟨f, h1⟩, h2, h3, h4⟩ := hI
          have hr9 : 9 - k = r + 1 := by omega
          have hf : (fun i => slT σ m (9 - i)) k = slT σ m (r + 1) := by
            show slT σ m (9 - k) = _
            rw [hr9]
          have hl : (fun i => nI (9 - i)) k = nI (r + 1) := by
            show nI (9 - k) = _
            rw [hr9]
          have tail : ∀ (S2 : SS), (∀ i, i < 4 → S2 7 i = nI (r + 1)) → (∀ j, j ≠ 7 → S2 j = S1 j) → ∀ l6 : Option Value, Rx g 8 0 0 mX12_slow SHM.length (fun r sh' S' L' => sh' = SHM ∧ ∃ x, r = some (.int x) ∧ (x = aSlow σ (nI m) what ∧ MRel S' L' σ)) 0 0 69 [some (.ref 0), some (.int (nI m)), some (.int what), some (.int (mgC (fun i => nI (9 - i)) (fun i => slT σ m (9 - i)) k).1), some (.int (mgC (fun i => nI (9 - i)) (fun i => slT σ m (9 - i)) k).2), some (.int (nI (r + 1))), l6] [] SHM S2 L := by
            intro S2 hA hB l6
            have g1 : MSc S2 (allCn (gE σ) (nI (r + 1))) (gD σ) := h1.cn (fun _ => nI (r + 1)) (fun j _ h => hB j h) hA
            have g2 : Fr JB KB S S2 := h3.trans ⟨fun j _ b => hB j (fun e => b (by rw [e]; decide)), fun k _ => by rw [hB 0 (by decide)]⟩
            have g3 : S2 0 27 = -1 ∧ S2 0 29 = 9999 ∧ S2 0 30 = -1 := by rw [hB 0 (by decide)]; exact h2
            have g4 : ∀ c, c < 4 → S2 23 c = eC (gE σ) c := by rw [hB 23 (by decide)]; exact h4
            refine rx_aload_n dX12_slow_69 rfl ?_
            refine rx_iload_n dX12_slow_70 rfl ?_
            refine rx_cVi_1 clX12_365 dX12_slow_71 (rcvo (sM_0) rfl) rfl (m_wallBehind g (allCn (gE σ) (nI (r + 1))) (gD σ) (seesE σ) m S2 L (enok_cn hr.en _ (fun _ _ => ⟨r + 1, by omega, by omega, rfl⟩)) hr.dok (by have := hr.t; omega) g1 (Or.inl ⟨g3.1, rfl⟩) g3.2.2) ?_
            rintro x3 S3 L3 ⟨hx3, hR3, hL3⟩
            rw [hL3, hx3]
            refine rx_istore_6 rfl dX12_slow_74 ?_
            refine rx_iload dX12_slow_76 rfl ?_
            refine rx_iload dX12_slow_78 rfl ?_
            refine rx_icmp_lt 86 dX12_slow_80 (by decide) (fun h80 => ?_) (fun h80 => ?_)
            · refine rx_iload dX12_slow_86 rfl ?_
              refine rx_istore_3 rfl dX12_slow_88 ?_
              refine rx_iload dX12_slow_89 rfl ?_
              refine rx_istore_4 rfl dX12_slow_91 ?_
              refine rx_iinc_5 (-1) rfl dX12_slow_93 (by decide) ?_
              refine rx_goto 40 dX12_slow_96 (by decide) ?_
              refine rx_wk [some (.ref 0), some (.int _), some (.int _), some (.int _), some (.int _), some (.int _), none] ⟨Or.inr rfl, Or.inr rfl, Or.inr rfl, Or.inr rfl, Or.inr rfl, Or.inr rfl, Or.inl rfl, trivial⟩ ?_
              rw [nI_m]
              have e : mgC (fun i => nI (9 - i)) (fun i => slT σ m (9 - i)) (k + 1) = (nI (r + 1), slT σ m (r + 1)) := (if_neg (by rw [hf]; exact Int32.not_le.mpr h80)).trans (by rw [hf, hl])
              have hx := ih (k + 1) S3 (by omega) ⟨⟨_, hR3.1⟩, ⟨by rw [hR3.2.1.2 27 (by decide)]; exact g3.1, hR3.2.2.1, hR3.2.2.2⟩, g2.trans hR3.2.1.big, fun c hc => by rw [hR3.2.1.1 23 (by decide) (by decide)]; exact g4 c hc⟩
              rw [e] at hx
              exact hx
            · refine rx_goto 93 dX12_slow_83 (by decide) ?_
              refine rx_iinc_5 (-1) rfl dX12_slow_93 (by decide) ?_
              refine rx_goto 40 dX12_slow_96 (by decide) ?_
              refine rx_wk [some (.ref 0), some (.int _), some (.int _), some (.int _), some (.int _), some (.int _), none] ⟨Or.inr rfl, Or.inr rfl, Or.inr rfl, Or.inr rfl, Or.inr rfl, Or.inr rfl, Or.inl rfl, trivial⟩ ?_
              rw [nI_m]
              have e : mgC (fun i => nI (9 - i)) (fun i => slT σ m (9 - i)) (k + 1) = (mgC (fun i => nI (9 - i)) (fun i => slT σ m (9 - i)) k) := if_pos (by rw [hf]; exact Int32.not_lt.mp h80)
              have hx := ih (k + 1) S3 (by omega) ⟨⟨_, hR3.1⟩, ⟨by rw [hR3.2.1.2 27 (by decide)]; exact g3.1, hR3.2.2.1, hR3.2.2.2⟩, g2.trans hR3.2.1.big, fun c hc => by rw [hR3.2.1.1 23 (by decide) (by decide)]; exact g4 c hc⟩
              rw [e] at hx
              exact hx
          have loop4 : ∀ (r4 c : Nat) (S2 : SS), c + r4 = 4 → ((∀ i, i < c → S2 7 i = nI (r + 1)) ∧ ∀ j, j ≠ 7 → S2 j = S1 j) → Rx g 8 0 0 mX12_slow SHM.length (fun r sh' S' L' => sh' = SHM ∧ ∃ x, r = some (.int x) ∧ (x = aSlow σ (nI m) what ∧ MRel S' L' σ)) 0 0 48 [some (.ref 0), some (.int (nI m)), some (.int what), some (.int (mgC (fun i => nI (9 - i)) (fun i => slT σ m (9 - i)) k).1), some (.int (mgC (fun i => nI (9 - i)) (fun i => slT σ m (9 - i)) k).2), some (.int (nI (r + 1))), some (.int (nI c))] [] SHM S2 L := by
            intro r4
            induction r4 with
            | zero =>
              intro c S2 hc hI4
              have hcn : c = 4 := by omega
              subst hcn
              refine rx_iload dX12_slow_48 rfl ?_
              refine rx_iconst (4) dX12_slow_50 (by decide) ?_
              refine rx_icmp_ge 69 dX12_slow_51 (by decide) (fun h51 => ?_) (fun h51 => absurd (nI_le (a := 4) (b := 4) (by omega) (by omega)) h51)
              exact tail S2 (fun i hi => hI4.1 i (by omega)) hI4.2 _
            | succ r4 ih4 =>
              intro c S2 hc hI4
              have hci : (nI c).toNatClampNeg = c := nI_clamp (by omega)
              have hv4 : vp_in (nI c) 4 := vp_in_nI (by omega) (by omega)
              refine rx_iload dX12_slow_48 rfl ?_
              refine rx_iconst (4) dX12_slow_50 (by decide) ?_
              refine rx_icmp_ge 69 dX12_slow_51 (by decide) (fun h51 => absurd h51 (nI_ge (a := c) (b := 4) (by omega) (by omega))) (fun h51 => ?_)
              refine rx_aload_n dX12_slow_54 rfl ?_
              refine rx_getR dX12_slow_55 flX12_38 (sM_0) rfl ?_
              refine rx_iload dX12_slow_58 rfl ?_
              refine rx_iload dX12_slow_60 rfl ?_
              refine rx_iastore dX12_slow_62 (sM_7) hv4 ?_
              refine rx_iinc_6 (1) rfl dX12_slow_63 (by decide) ?_
              refine rx_goto 48 dX12_slow_66 (by decide) ?_
              rw [nI_1]
              refine ih4 (c + 1) _ (by omega) ⟨fun i hi => ?_, fun j hj => (upS_off _ _ _ _ hj).trans (hI4.2 j hj)⟩
              simp (disch := omega) only [upS_row, upd, hci]
              by_cases e : i = c
              · rw [if_pos e]
              · rw [if_neg e]; exact hI4.1 i (by omega)
          refine rx_iload dX12_slow_40 rfl ?_
          refine rx_if_le 99 dX12_slow_42 (by decide) (fun h42 => absurd h42 (Int32.not_le.mpr (nI_lt (a := 0) (b := r + 1) (by omega) (by omega)))) (fun h42 => ?_)
          refine rx_iconst (0) dX12_slow_45 (by decide) ?_
          refine rx_istore_6 rfl dX12_slow_46 ?_
          exact loop4 4 0 S1 (by omega) ⟨fun i hi => absurd hi (by omega), fun _ _ => rfl⟩
      exact loop 9 0 S1 (by omega) ⟨⟨eC (gE σ), hk1⟩, hk3, hk2, hk4⟩
    · refine rx_bipush (-2) dX12_slow_23 (by decide) ?_
      exact rx_iret dX12_slow_25 rfl ⟨Nat.le_refl _, Nat.le_refl _⟩ ⟨rfl, _, rfl, ⟨by unfold aSlow; rw [if_neg (fun q => q (b2i_ne h7)), if_pos (b2i_eq h20)], hr⟩⟩
  · refine rx_iconst (-1) dX12_slow_10 (by decide) ?_
    exact rx_iret dX12_slow_11 rfl ⟨Nat.le_refl _, Nat.le_refl _⟩ ⟨rfl, _, rfl, ⟨(if_pos (b2i_eq h7)).symm, hr⟩⟩
set_option maxRecDepth 20000 in
set_option maxHeartbeats 1000000 in
theorem mc_look (g : GG) (σ : SIG) (n : Int32) (S : SS) (L : LL) (hr : MRel S L σ) : Ci g 8 mX12_look [.ref 0, .int n] SHM S L (fun r S' L' => r = aLook σ n ∧ MRel S' L' σ) := by
  refine ct_of (ls := [some (.ref 0), some (.int n), none, none]) 2 (by decide +kernel) rfl rfl ?_
  refine rx_aload_n dX12_look_0 rfl ?_
  refine rx_iload_n dX12_look_1 rfl ?_
  refine rx_iconst (1) dX12_look_2 (by decide) ?_
  refine rx_bipush (20) dX12_look_3 (by decide) ?_
  refine rx_cVi_3 clX12_236 dX12_look_5 (rcvo (sM_0) rfl) rfl (m_in g 0 _ _ _ S L) ?_
  refine pur3 ?_
  refine rx_if_ne 14 dX12_look_8 (by decide) (fun h8 => ?_) (fun h8 => ?_)
  · have hnr := b2i_ne h8
    obtain ⟨m, hm, rfl⟩ := rngI 20 (by omega) (Int32.le_trans (by decide) hnr.1) hnr.2
    have hmc : (nI m).toNatClampNeg = m := nI_clamp (by omega)
    refine rx_bipush (-5) dX12_look_14 (by decide) ?_
    refine rx_istore_2 rfl dX12_look_16 ?_
    refine rx_iconst (0) dX12_look_17 (by decide) ?_
    refine rx_istore_3 rfl dX12_look_18 ?_
    have fin : ∀ (v : Int32) (S1 : SS), MSc S1 (gE σ) (gD σ) → (S1 0 29 = 9999 ∧ S1 0 30 = -1) → Fr JB KB S S1 → v = aLook σ (nI m) → ∀ s, (False ∨ ∃ k, k < 100 ∧ v = nI k) → Rx g 8 0 0 mX12_look SHM.length (fun r sh' S' L' => sh' = SHM ∧ ∃ x, r = some (.int x) ∧ (x = aLook σ (nI m) ∧ MRel S' L' σ)) 0 0 19 [some (.ref 0), some (.int (nI m)), some (.int v), some (.int (nI s))] [] SHM S1 L := by
      intro v S1 h1 h2 h3 hv s hs
      obtain ⟨k, hk, rfl⟩ := hs.resolve_left id
      refine rx_iload_n dX12_look_19 rfl ?_
      refine rx_bipush (10) dX12_look_20 (by decide) ?_
      refine rx_icmp_ge 63 dX12_look_22 (by decide) (fun h22 => ?_) (fun h22 => ?_)
      · refine rx_aload_n dX12_look_63 rfl ?_
        refine rx_iconst (-1) dX12_look_64 (by decide) ?_
        refine rx_putI dX12_look_65 flX12_92 (sM_0) rfl ?_
        refine rx_iload_n dX12_look_68 rfl ?_
        exact rx_iret dX12_look_69 rfl ⟨Nat.le_refl _, Nat.le_refl _⟩ ⟨rfl, _, rfl, ⟨hv, hr.back (h1.ex (fun j h _ => upS_off _ _ _ _ h) (fun k hk => by rw [upS_row]; unfold upd; rw [if_neg (by omega)])) ⟨by rw [upS_at], by rw [upS_row]; exact h2.1, by rw [upS_row]; exact h2.2⟩ (h3.up0 (by decide))⟩⟩
      · refine rx_iload_n dX12_look_25 rfl ?_
        refine rx_if_ge 63 dX12_look_26 (by decide) (fun h26 => ?_) (fun h26 => absurd (nI_pos' (by omega)) h26)
        refine rx_aload_n dX12_look_63 rfl ?_
        refine rx_iconst (-1) dX12_look_64 (by decide) ?_
        refine rx_putI dX12_look_65 flX12_92 (sM_0) rfl ?_
        refine rx_iload_n dX12_look_68 rfl ?_
        exact rx_iret dX12_look_69 rfl ⟨Nat.le_refl _, Nat.le_refl _⟩ ⟨rfl, _, rfl, ⟨hv, hr.back (h1.ex (fun j h _ => upS_off _ _ _ _ h) (fun k hk => by rw [upS_row]; unfold upd; rw [if_neg (by omega)])) ⟨by rw [upS_at], by rw [upS_row]; exact h2.1, by rw [upS_row]; exact h2.2⟩ (h3.up0 (by decide))⟩⟩
    have loop : ∀ (r s : Nat) (S1 : SS), s + r = 10 → (MSc S1 (gE σ) (gD σ) ∧ (S1 0 29 = 9999 ∧ S1 0 30 = -1) ∧ Fr JB KB S S1) → lkC σ m r s = aLook σ (nI m) → Rx g 8 0 0 mX12_look SHM.length (fun r sh' S' L' => sh' = SHM ∧ ∃ x, r = some (.int x) ∧ (x = aLook σ (nI m) ∧ MRel S' L' σ)) 0 0 19 [some (.ref 0), some (.int (nI m)), some (.int (-5)), some (.int (nI s))] [] SHM S1 L := by
      intro r
      induction r with
      | zero =>
        intro s S1 hk hI hev
        obtain ⟨h1, h2, h3⟩ := hI
        refine rx_iload_n dX12_look_19 rfl ?_
        refine rx_bipush (10) dX12_look_20 (by decide) ?_
        refine rx_icmp_ge 63 dX12_look_22 (by decide) (fun h22 => ?_) (fun h22 => absurd (nI_le (a := 10) (b := s) (by omega) (by omega)) h22)
        refine rx_aload_n dX12_look_63 rfl ?_
        refine rx_iconst (-1) dX12_look_64 (by decide) ?_
        refine rx_putI dX12_look_65 flX12_92 (sM_0) rfl ?_
        refine rx_iload_n dX12_look_68 rfl ?_
        exact rx_iret dX12_look_69 rfl ⟨Nat.le_refl _, Nat.le_refl _⟩ ⟨rfl, _, rfl, ⟨by rw [← hev]; rfl, hr.back (h1.ex (fun j h _ => upS_off _ _ _ _ h) (fun k hk => by rw [upS_row]; unfold upd; rw [if_neg (by omega)])) ⟨by rw [upS_at], by rw [upS_row]; exact h2.1, by rw [upS_row]; exact h2.2⟩ (h3.up0 (by decide))⟩⟩
      | succ r ih =>
        intro s S1 hk hI hev
        obtain ⟨h1, h2, h3⟩ := hI
        refine rx_iload_n dX12_look_19 rfl ?_
        refine rx_bipush (10) dX12_look_20 (by decide) ?_
        refine rx_icmp_ge 63 dX12_look_22 (by decide) (fun h22 => absurd h22 (Int32.not_le.mpr (nI_lt (a := s) (b := 10) (by omega) (by omega)))) (fun h22 => ?_)
        refine rx_iload_n dX12_look_25 rfl ?_
        refine rx_if_ge 63 dX12_look_26 (by decide) (fun h26 => absurd h26 (by decide)) (fun h26 => ?_)
        refine rx_aload_n dX12_look_29 rfl ?_
        refine rx_iload_n dX12_look_30 rfl ?_
        refine rx_putI dX12_look_31 flX12_92 (sM_0) rfl ?_
        refine rx_aload_n dX12_look_34 rfl ?_
        refine rx_iload_n dX12_look_35 rfl ?_
        refine rx_cVi_1 clX12_365 dX12_look_36 (rcvo (sM_0) rfl) rfl (m_wallBehind g (gE σ) (gD σ) (nI s) m _ L hr.en hr.dok (by have := hr.t; omega) (h1.ex (fun j h _ => upS_off _ _ _ _ h) (fun k hk => by rw [upS_row]; unfold upd; rw [if_neg (by omega)])) (Or.inr ⟨s, by omega, by rw [upS_at], rfl⟩) (by rw [upS_row]; exact h2.2)) ?_
        rintro x3 S3 L3 ⟨hx3, hR3, hL3⟩
        rw [hL3, hx3]
        refine rx_aload_n dX12_look_39 rfl ?_
        refine rx_aload_n dX12_look_40 rfl ?_
        refine rx_getI dX12_look_41 flX12_16 (sM_0) rfl ?_
        rw [hR3.1.w]
        refine rx_cVi_1 clX12_356 dX12_look_44 (rcvo (sM_0) rfl) rfl (m_onesD g 0 (nN σ) _ S3 L hr.dok hr.n7) ?_
        refine pur3 ?_
        refine rx_icmp_ne 54 dX12_look_47 (by decide) (fun h47 => ?_) (fun h47 => ?_)
        · refine rx_bipush (-5) dX12_look_54 (by decide) ?_
          refine rx_istore_2 rfl dX12_look_56 ?_
          refine rx_iinc_3 (1) rfl dX12_look_57 (by decide) ?_
          refine rx_goto 19 dX12_look_60 (by decide) ?_
          rw [nI_1]
          have g1 : MSc S3 (gE σ) (gD σ) := hR3.1
          have g3 : Fr JB KB S S3 := (h3.up0 (by decide)).trans hR3.2.1.big
          exact ih (s + 1) S3 (by omega) ⟨g1, ⟨hR3.2.2.1, hR3.2.2.2⟩, g3⟩ (by rw [← hev]; exact (if_neg (fun q => h47 ((pop_eq hr.en (nI s) hr.dok m).mpr q))).symm)
        · refine rx_iload_n dX12_look_50 rfl ?_
          refine rx_goto 56 dX12_look_51 (by decide) ?_
          refine rx_istore_2 rfl dX12_look_56 ?_
          refine rx_iinc_3 (1) rfl dX12_look_57 (by decide) ?_
          refine rx_goto 19 dX12_look_60 (by decide) ?_
          rw [nI_1]
          have g1 : MSc S3 (gE σ) (gD σ) := hR3.1
          have g3 : Fr JB KB S S3 := (h3.up0 (by decide)).trans hR3.2.1.big
          have hv : lkC σ m (r + 1) s = nI s := if_pos ((pop_eq hr.en (nI s) hr.dok m).mp h47)
          exact fin _ S3 g1 ⟨hR3.2.2.1, hR3.2.2.2⟩ g3 (by rw [← hev, hv]) (s + 1) (Or.inr ⟨s, by omega, rfl⟩)
    exact loop 10 0 S (by omega) ⟨hr.sc, ⟨hr.ms, hr.id⟩, Fr.refl⟩ (by unfold aLook; rw [if_pos hnr, hmc])
  · refine rx_bipush (-2) dX12_look_11 (by decide) ?_
    exact rx_iret dX12_look_13 rfl ⟨Nat.le_refl _, Nat.le_refl _⟩ ⟨rfl, _, rfl, ⟨(if_neg (b2i_eq h8)).symm, hr⟩⟩
