theorem hl_dok (σ : SIG) (hE : EnOK (gE σ)) (hD : DOK (eN (gE σ)) (gD σ)) (c k : Nat) : ∀ i, DOK (eN (gE σ)) (hlD σ c k i)
  | 0 => hD
  | i + 1 => DOK_step hE _ _ (hl_dok σ hE hD c k i)
theorem gcd_st (p q : Nat) : Nat.gcd q (p % q) = Nat.gcd p q := by rw [Nat.gcd_comm p q, Nat.gcd_rec q p, Nat.gcd_comm]
theorem DOK.orW {n : Nat} {D : DY} (h : DOK n D) (hn : n ≤ 7) {c : Nat} (hc : c < n) : DOK n (orW D c) := by
  obtain ⟨⟨W, hW, e⟩, h2, h3⟩ := h
  refine ⟨⟨W ||| 2 ^ c, Nat.or_lt_two_pow hW (Nat.pow_lt_pow_right (by decide) hc), ?_⟩, h2, h3⟩
  show dW D ||| _ = _
  rw [e]
  exact or_bit W (Nat.lt_of_lt_of_le hW (pow7 hn)) c (by omega)
theorem DOK.shT {n : Nat} {D : DY} (h : DOK n D) (k : Nat) : DOK n (shT D k) := ⟨h.1, h.2.1, fun c hc => by
  obtain ⟨s, hs, e⟩ := h.2.2 c hc
  exact ⟨s, Nat.le_trans hs (Nat.le_add_right _ _), e⟩⟩
theorem nd_hit (σ : SIG) (c m r a : Nat) (h : ¬ bitv (dW (ndD σ c m a)) (nI c) = 0) : ndC σ c m (r + 1) a = nI a := if_pos h
theorem nd_no (σ : SIG) (c m r a : Nat) (h : ¬ ¬ bitv (dW (ndD σ c m a)) (nI c) = 0) : ndC σ c m (r + 1) a = ndC σ c m r (a + 1) := if_neg h

set_option maxRecDepth 20000 in
set_option maxHeartbeats 1000000 in
theorem mc_needs (g : GG) (σ : SIG) (c n : Int32) (S : SS) (L : LL) (hr : MRel S L σ) : Ci g 8 mX12_needs [.ref 0, .int c, .int n] SHM S L (fun r S' L' => r = aNeeds σ c n ∧ MRel S' L' σ) := by
  refine ct_of (ls := [some (.ref 0), some (.int c), some (.int n), none, none, none, none]) 4 (by decide +kernel) rfl rfl ?_
  refine rx_aload_n dX12_needs_0 rfl ?_
  refine rx_iload_n dX12_needs_1 rfl ?_
  refine rx_cVi_1 clX12_240 dX12_needs_2 (rcvo (sM_0) rfl) rfl (m_isChild g (nN σ) c S L hr.n7 hr.sz) ?_
  refine pur3 ?_
  refine rx_if_ne 10 dX12_needs_5 (by decide) (fun h5 => ?_) (fun h5 => ?_)
  · have hq := b2i_ne h5
    obtain ⟨c, hc, rfl⟩ := rngL (nN σ) (by have := hr.n7; omega) hq.1 hq.2
    have hc7 : c < 7 := by have := hr.n7; omega
    have hci : (nI c).toNatClampNeg = c := nI_clamp (by omega)
    have hvc : vp_in (nI c) 7 := vp_in_nI hc7 (by omega)
    refine rx_aload_n dX12_needs_10 rfl ?_
    refine rx_iload_n dX12_needs_11 rfl ?_
    refine rx_iconst (1) dX12_needs_12 (by decide) ?_
    refine rx_bipush (8) dX12_needs_13 (by decide) ?_
    refine rx_cVi_3 clX12_236 dX12_needs_15 (rcvo (sM_0) rfl) rfl (m_in g 0 _ _ _ S L) ?_
    refine pur3 ?_
    refine rx_if_ne 24 dX12_needs_18 (by decide) (fun h18 => ?_) (fun h18 => ?_)
    · have hnr := b2i_ne h18
      obtain ⟨m, hm, rfl⟩ := rngI 8 (by omega) (Int32.le_trans (by decide) hnr.1) hnr.2
      have hmc : (nI m).toNatClampNeg = m := nI_clamp (by omega)
      refine rx_aload_n dX12_needs_24 rfl ?_
      refine rx_getR dX12_needs_25 flX12_26 (sM_0) rfl ?_
      refine rx_iload_n dX12_needs_28 rfl ?_
      refine rx_iaload dX12_needs_29 (sM_3) hvc ?_
      rw [hci, hr.sc.a hc7]
      refine rx_istore_3 rfl dX12_needs_30 ?_
      refine rx_aload_n dX12_needs_31 rfl ?_
      refine rx_getI dX12_needs_32 flX12_16 (sM_0) rfl ?_
      rw [hr.sc.w]
      refine rx_istore_4 rfl dX12_needs_35 ?_
      refine rx_bipush (-5) dX12_needs_37 (by decide) ?_
      refine rx_istore_5 rfl dX12_needs_39 ?_
      refine rx_aload_n dX12_needs_41 rfl ?_
      refine rx_dup dX12_needs_42 rfl ?_
      refine rx_getI dX12_needs_43 flX12_16 (sM_0) rfl ?_
      rw [hr.sc.w]
      refine rx_iconst (1) dX12_needs_46 (by decide) ?_
      refine rx_iload_n dX12_needs_47 rfl ?_
      refine rx_ishl dX12_needs_48 ?_
      refine rx_iconst (-1) dX12_needs_49 (by decide) ?_
      refine rx_ixor dX12_needs_50 ?_
      refine rx_iand dX12_needs_51 ?_
      refine rx_putI dX12_needs_52 flX12_16 (sM_0) rfl ?_
      refine rx_iconst (0) dX12_needs_55 (by decide) ?_
      refine rx_istore_6 rfl dX12_needs_56 ?_
      obtain ⟨f, hf1, hf2, hfE⟩ := hr.en.2.2.2.2.2.2.1
      have fin : ∀ (v : Nat) (S1 : SS) (a : Nat), v < 100 → ((∃ x, MSc S1 (gE σ) (upd (dA (gD σ)) c x, (dW (gD σ) &&& ((1 <<< (nI c &&& 31)) ^^^ (-1))), dT (gD σ), dS (gD σ))) ∧ (S1 0 27 = -1 ∧ S1 0 29 = 9999 ∧ S1 0 30 = -1) ∧ Fr JB KB S S1) → nI v = aNeeds σ (nI c) (nI m) → Rx g 8 0 0 mX12_needs SHM.length (fun r sh' S' L' => sh' = SHM ∧ ∃ x, r = some (.int x) ∧ (x = aNeeds σ (nI c) (nI m) ∧ MRel S' L' σ)) 0 0 58 [some (.ref 0), some (.int (nI c)), some (.int (nI m)), some (.int (dA (gD σ) c)), some (.int (dW (gD σ))), some (.int (nI v)), some (.int (nI a))] [] SHM S1 L := by
        intro v S1 a hv100 hI hv
        obtain ⟨⟨x, h1⟩, h2, h3⟩ := hI
        have hfin : MSc (upS (upS S1 3 c (dA (gD σ) c)) 0 2 (dW (gD σ))) (gE σ) (gD σ) := by
          have q := (h1.come c (dA (gD σ) c)).wall (dW (gD σ))
          have e : upd (upd (dA (gD σ)) c x) c (dA (gD σ) c) = dA (gD σ) := by rw [upd_upd, upd_same]
          have q2 : MSc (upS (upS S1 3 c (dA (gD σ) c)) 0 2 (dW (gD σ))) (gE σ) (upd (upd (dA (gD σ)) c x) c (dA (gD σ) c), dW (gD σ), dT (gD σ), dS (gD σ)) := q
          rw [e] at q2
          exact q2
        refine rx_iload dX12_needs_58 rfl ?_
        refine rx_aload_n dX12_needs_60 rfl ?_
        refine rx_cVi_0 clX12_244 dX12_needs_61 (rcvo (sM_0) rfl) rfl (m_far g _ _ S1 L h1) ?_
        refine pur3 ?_
        refine rx_icmp_ge 112 dX12_needs_64 (by decide) (fun h64 => ?_) (fun h64 => ?_)
        · refine rx_aload_n dX12_needs_112 rfl ?_
          refine rx_getR dX12_needs_113 flX12_26 (sM_0) rfl ?_
          refine rx_iload_n dX12_needs_116 rfl ?_
          refine rx_iload_n dX12_needs_117 rfl ?_
          refine rx_iastore dX12_needs_118 (sM_3) hvc ?_
          rw [hci]
          refine rx_aload_n dX12_needs_119 rfl ?_
          refine rx_iload dX12_needs_120 rfl ?_
          refine rx_putI dX12_needs_122 flX12_16 (sM_0) rfl ?_
          refine rx_iload dX12_needs_125 rfl ?_
          exact rx_iret dX12_needs_127 rfl ⟨Nat.le_refl _, Nat.le_refl _⟩ ⟨rfl, _, rfl, ⟨hv, hr.back hfin ⟨by rw [upS_row]; show upd (upS S1 3 c _ 0) 2 _ 27 = _; unfold upd; rw [if_neg (by decide), upS_off _ _ _ _ (by decide)]; exact h2.1, by rw [upS_row]; show upd (upS S1 3 c _ 0) 2 _ 29 = _; unfold upd; rw [if_neg (by decide), upS_off _ _ _ _ (by decide)]; exact h2.2.1, by rw [upS_row]; show upd (upS S1 3 c _ 0) 2 _ 30 = _; unfold upd; rw [if_neg (by decide), upS_off _ _ _ _ (by decide)]; exact h2.2.2⟩ ((h3.up (by decide) (by decide)).up0 (by decide))⟩⟩
        · refine rx_iload dX12_needs_67 rfl ?_
          refine rx_if_ge 112 dX12_needs_69 (by decide) (fun h69 => ?_) (fun h69 => absurd (nI_pos' (by omega)) h69)
          refine rx_aload_n dX12_needs_112 rfl ?_
          refine rx_getR dX12_needs_113 flX12_26 (sM_0) rfl ?_
          refine rx_iload_n dX12_needs_116 rfl ?_
          refine rx_iload_n dX12_needs_117 rfl ?_
          refine rx_iastore dX12_needs_118 (sM_3) hvc ?_
          rw [hci]
          refine rx_aload_n dX12_needs_119 rfl ?_
          refine rx_iload dX12_needs_120 rfl ?_
          refine rx_putI dX12_needs_122 flX12_16 (sM_0) rfl ?_
          refine rx_iload dX12_needs_125 rfl ?_
          exact rx_iret dX12_needs_127 rfl ⟨Nat.le_refl _, Nat.le_refl _⟩ ⟨rfl, _, rfl, ⟨hv, hr.back hfin ⟨by rw [upS_row]; show upd (upS S1 3 c _ 0) 2 _ 27 = _; unfold upd; rw [if_neg (by decide), upS_off _ _ _ _ (by decide)]; exact h2.1, by rw [upS_row]; show upd (upS S1 3 c _ 0) 2 _ 29 = _; unfold upd; rw [if_neg (by decide), upS_off _ _ _ _ (by decide)]; exact h2.2.1, by rw [upS_row]; show upd (upS S1 3 c _ 0) 2 _ 30 = _; unfold upd; rw [if_neg (by decide), upS_off _ _ _ _ (by decide)]; exact h2.2.2⟩ ((h3.up (by decide) (by decide)).up0 (by decide))⟩⟩
      have loop : ∀ (r a : Nat) (S1 : SS), a + r = f → ((∃ x, MSc S1 (gE σ) (upd (dA (gD σ)) c x, (dW (gD σ) &&& ((1 <<< (nI c &&& 31)) ^^^ (-1))), dT (gD σ), dS (gD σ))) ∧ (S1 0 27 = -1 ∧ S1 0 29 = 9999 ∧ S1 0 30 = -1) ∧ Fr JB KB S S1) → ndC σ c m r a = aNeeds σ (nI c) (nI m) → Rx g 8 0 0 mX12_needs SHM.length (fun r sh' S' L' => sh' = SHM ∧ ∃ x, r = some (.int x) ∧ (x = aNeeds σ (nI c) (nI m) ∧ MRel S' L' σ)) 0 0 58 [some (.ref 0), some (.int (nI c)), some (.int (nI m)), some (.int (dA (gD σ) c)), some (.int (dW (gD σ))), some (.int (-5)), some (.int (nI a))] [] SHM S1 L := by
        intro r
        induction r with
        | zero =>
          intro a S1 ha hI hev
          obtain ⟨⟨x, h1⟩, h2, h3⟩ := hI
          have hv : (-5 : Int32) = aNeeds σ (nI c) (nI m) := by rw [← hev]; rfl
          have hfin : MSc (upS (upS S1 3 c (dA (gD σ) c)) 0 2 (dW (gD σ))) (gE σ) (gD σ) := by
            have q := (h1.come c (dA (gD σ) c)).wall (dW (gD σ))
            have e : upd (upd (dA (gD σ)) c x) c (dA (gD σ) c) = dA (gD σ) := by rw [upd_upd, upd_same]
            have q2 : MSc (upS (upS S1 3 c (dA (gD σ) c)) 0 2 (dW (gD σ))) (gE σ) (upd (upd (dA (gD σ)) c x) c (dA (gD σ) c), dW (gD σ), dT (gD σ), dS (gD σ)) := q
            rw [e] at q2
            exact q2
          refine rx_iload dX12_needs_58 rfl ?_
          refine rx_aload_n dX12_needs_60 rfl ?_
          refine rx_cVi_0 clX12_244 dX12_needs_61 (rcvo (sM_0) rfl) rfl (m_far g _ _ S1 L h1) ?_
          refine pur3 ?_
          rw [hfE]
          refine rx_icmp_ge 112 dX12_needs_64 (by decide) (fun h64 => ?_) (fun h64 => absurd (nI_le (by omega) (by omega)) h64)
          refine rx_aload_n dX12_needs_112 rfl ?_
          refine rx_getR dX12_needs_113 flX12_26 (sM_0) rfl ?_
          refine rx_iload_n dX12_needs_116 rfl ?_
          refine rx_iload_n dX12_needs_117 rfl ?_
          refine rx_iastore dX12_needs_118 (sM_3) hvc ?_
          rw [hci]
          refine rx_aload_n dX12_needs_119 rfl ?_
          refine rx_iload dX12_needs_120 rfl ?_
          refine rx_putI dX12_needs_122 flX12_16 (sM_0) rfl ?_
          refine rx_iload dX12_needs_125 rfl ?_
          exact rx_iret dX12_needs_127 rfl ⟨Nat.le_refl _, Nat.le_refl _⟩ ⟨rfl, _, rfl, ⟨hv, hr.back hfin ⟨by rw [upS_row]; show upd (upS S1 3 c _ 0) 2 _ 27 = _; unfold upd; rw [if_neg (by decide), upS_off _ _ _ _ (by decide)]; exact h2.1, by rw [upS_row]; show upd (upS S1 3 c _ 0) 2 _ 29 = _; unfold upd; rw [if_neg (by decide), upS_off _ _ _ _ (by decide)]; exact h2.2.1, by rw [upS_row]; show upd (upS S1 3 c _ 0) 2 _ 30 = _; unfold upd; rw [if_neg (by decide), upS_off _ _ _ _ (by decide)]; exact h2.2.2⟩ ((h3.up (by decide) (by decide)).up0 (by decide))⟩⟩
        | succ r ih =>
          intro a S1 ha hI hev
          obtain ⟨⟨x, h1⟩, h2, h3⟩ := hI
          have hDa : DOK (eN (gE σ)) (putW (gD σ) c (nI a)) := hr.dok.putW hr.n7 c a hc7 (by omega)
          have hM2 : MSc (upS S1 3 c (nI a)) (gE σ) (putW (gD σ) c (nI a)) := by
            have q : MSc (upS S1 3 c (nI a)) (gE σ) (upd (upd (dA (gD σ)) c x) c (nI a), (dW (gD σ) &&& ((1 <<< (nI c &&& 31)) ^^^ (-1))), dT (gD σ), dS (gD σ)) := h1.come c (nI a)
            rw [upd_upd] at q
            exact q
          refine rx_iload dX12_needs_58 rfl ?_
          refine rx_aload_n dX12_needs_60 rfl ?_
          refine rx_cVi_0 clX12_244 dX12_needs_61 (rcvo (sM_0) rfl) rfl (m_far g _ _ S1 L h1) ?_
          refine pur3 ?_
          rw [hfE]
          refine rx_icmp_ge 112 dX12_needs_64 (by decide) (fun h64 => absurd h64 (nI_ge (by omega) (by omega))) (fun h64 => ?_)
          refine rx_iload dX12_needs_67 rfl ?_
          refine rx_if_ge 112 dX12_needs_69 (by decide) (fun h69 => absurd h69 (by decide)) (fun h69 => ?_)
          refine rx_aload_n dX12_needs_72 rfl ?_
          refine rx_getR dX12_needs_73 flX12_26 (sM_0) rfl ?_
          refine rx_iload_n dX12_needs_76 rfl ?_
          refine rx_iload dX12_needs_77 rfl ?_
          refine rx_iastore dX12_needs_79 (sM_3) hvc ?_
          rw [hci]
          refine rx_aload_n dX12_needs_80 rfl ?_
          refine rx_iload_n dX12_needs_81 rfl ?_
          refine rx_cVv_1 clX12_353 dX12_needs_82 (rcvo (sM_0) rfl) rfl (m_lay g (gE σ) (putW (gD σ) c (nI a)) (seesE σ) m _ L hr.en hDa (by have := hr.t; show dT (gD σ) + m < 19999; omega) hM2 (Or.inl ⟨(congrFun (upS_off S1 3 c _ (by decide)) 27).trans h2.1, rfl⟩) ((congrFun (upS_off S1 3 c _ (by decide)) 30).trans h2.2.2)) ?_
          rintro S2 L2 ⟨⟨q1, q2, q3, q4⟩, hL2⟩
          rw [hL2]
          have g2 : Fr JB KB S S2 := (h3.up (by decide) (by decide)).trans q1.2.1.big
          have g3 : S2 0 27 = -1 ∧ S2 0 29 = 9999 ∧ S2 0 30 = -1 := ⟨by rw [q1.2.1.2 27 (by decide)]; exact (congrFun (upS_off S1 3 c _ (by decide)) 27).trans h2.1, q1.2.2.1, q1.2.2.2⟩
          refine rx_aload_n dX12_needs_85 rfl ?_
          refine rx_aload_n dX12_needs_86 rfl ?_
          refine rx_getI dX12_needs_87 flX12_126 (sM_0) rfl ?_
          rw [q3]
          refine rx_iload_n dX12_needs_90 rfl ?_
          refine rx_cVi_2 clX12_328 dX12_needs_91 (rcvo (sM_0) rfl) rfl (m_has g 0 _ _ S2 L) ?_
          refine pur3 ?_
          refine rx_if_eq 102 dX12_needs_94 (by decide) (fun h94 => ?_) (fun h94 => ?_)
          · refine rx_bipush (-5) dX12_needs_102 (by decide) ?_
            refine rx_istore_5 rfl dX12_needs_104 ?_
            refine rx_iinc_6 (1) rfl dX12_needs_106 (by decide) ?_
            refine rx_goto 58 dX12_needs_109 (by decide) ?_
            rw [nI_1]
            exact ih (a + 1) S2 (by omega) ⟨⟨nI a, q1.1⟩, g3, g2⟩ (by rw [← hev]; exact (nd_no σ c m r a (b2i_eq h94)).symm)
          · refine rx_iload dX12_needs_97 rfl ?_
            refine rx_goto 104 dX12_needs_99 (by decide) ?_
            refine rx_istore_5 rfl dX12_needs_104 ?_
            refine rx_iinc_6 (1) rfl dX12_needs_106 (by decide) ?_
            refine rx_goto 58 dX12_needs_109 (by decide) ?_
            rw [nI_1]
            exact fin a S2 (a + 1) (by omega) ⟨⟨nI a, q1.1⟩, g3, g2⟩ (by rw [← hev]; exact (nd_hit σ c m r a (b2i_ne h94)).symm)
      refine loop f 0 _ (by omega) ⟨⟨dA (gD σ) c, ?_⟩, ?_, Fr.refl.up0 (by decide)⟩ (by unfold aNeeds; rw [if_neg (fun q => q hq), if_neg (fun q => q hnr), hci, hmc, hfE, nI_clamp (by omega)])
      · rw [upd_same]; exact hr.sc.wall _
      · simp only [upS_row, upd]; exact ⟨hr.sm, hr.ms, hr.id⟩
    · refine rx_bipush (-2) dX12_needs_21 (by decide) ?_
      exact rx_iret dX12_needs_23 rfl ⟨Nat.le_refl _, Nat.le_refl _⟩ ⟨rfl, _, rfl, ⟨by unfold aNeeds; rw [if_neg (fun q => q hq), if_pos (b2i_eq h18)], hr⟩⟩
  · refine rx_iconst (-1) dX12_needs_8 (by decide) ?_
    exact rx_iret dX12_needs_9 rfl ⟨Nat.le_refl _, Nat.le_refl _⟩ ⟨rfl, _, rfl, ⟨(if_pos (b2i_eq h5)).symm, hr⟩⟩
set_option maxRecDepth 20000 in
set_option maxHeartbeats 400000 in
theorem m_comeBy (g : GG) (σ : SIG) (c m k : Nat) (S : SS) (L : LL) (hr : MRel S L σ) (hc : c < nN σ) (hm : m ≤ 20) (hk : k ≤ 20) : Ci g 6 mX12_comeBy [.ref 0, .int (nI c), .int (nI m), .int (nI k)] SHM S L (fun r S' L' => r = dA (hlD σ c k m) c ∧ MRs (gE σ) (gD σ) S S' ∧ L' = L) := by
  refine ct_of (ls := [some (.ref 0), some (.int (nI c)), some (.int (nI m)), some (.int (nI k)), none, none]) 2 (by decide +kernel) rfl rfl ?_
  have hc7 : c < 7 := by have := hr.n7; omega
  have hci : (nI c).toNatClampNeg = c := nI_clamp (by omega)
  have hvc : vp_in (nI c) 7 := vp_in_nI hc7 (by omega)
  refine rx_aload_n dX12_comeBy_0 rfl ?_
  refine rx_cVv_0 clX12_347 dX12_comeBy_1 (rcvo (sM_0) rfl) rfl (m_save g (gE σ) (gD σ) S L hr.sc) ?_
  rintro S1 L1 ⟨⟨k1, k2, k3, k30⟩, hL1⟩
  rw [hL1]
  refine rx_iconst (0) dX12_comeBy_4 (by decide) ?_
  refine rx_istore_4 rfl dX12_comeBy_5 ?_
  have loop : ∀ (r i : Nat) (S1 : SS), i + r = m → (MSc S1 (gE σ) (hlD σ c k i) ∧ KV S1 (gD σ) ∧ Fr JS KS S S1 ∧ S1 0 27 = -1) → Rx g 6 0 0 mX12_comeBy SHM.length (fun r sh' S' L' => sh' = SHM ∧ ∃ x, r = some (.int x) ∧ (x = dA (hlD σ c k m) c ∧ MRs (gE σ) (gD σ) S S' ∧ L' = L)) 0 0 7 [some (.ref 0), some (.int (nI c)), some (.int (nI m)), some (.int (nI k)), some (.int (nI i)), none] [] SHM S1 L := by
    intro r
    induction r with
    | zero =>
      intro i S1 hi hI
      obtain ⟨h1, h2, h3, h4⟩ := hI
      have him : i = m := by omega
      refine rx_iload dX12_comeBy_7 rfl ?_
      refine rx_iload_n dX12_comeBy_9 rfl ?_
      refine rx_icmp_ge 40 dX12_comeBy_10 (by decide) (fun h10 => ?_) (fun h10 => absurd (nI_le (by omega) (by omega)) h10)
      refine rx_aload_n dX12_comeBy_40 rfl ?_
      refine rx_iconst (-1) dX12_comeBy_41 (by decide) ?_
      refine rx_putI dX12_comeBy_42 flX12_102 (sM_0) rfl ?_
      refine rx_aload_n dX12_comeBy_45 rfl ?_
      refine rx_getR dX12_comeBy_46 flX12_26 (sM_0) rfl ?_
      refine rx_iload_n dX12_comeBy_49 rfl ?_
      refine rx_iaload dX12_comeBy_50 (sM_3) hvc ?_
      rw [hci, upS_off _ _ _ _ (by decide), h1.a hc7]
      refine rx_istore_4 rfl dX12_comeBy_51 ?_
      refine rx_aload_n dX12_comeBy_53 rfl ?_
      refine rx_cVv_0 clX12_350 dX12_comeBy_54 (rcvo (sM_0) rfl) rfl (m_putBack g (gE σ) (hlD σ c k i) (gD σ) _ L (h1.ex (fun j h _ => upS_off _ _ _ _ h) (fun k hk => by rw [upS_row]; unfold upd; rw [if_neg (by omega)])) (h2.of (fun k hk => by rw [upS_row]; unfold upd; rw [if_neg (by omega)]) (upS_off _ _ _ _ (by decide)) (upS_off _ _ _ _ (by decide))) (by have := hr.t; omega)) ?_
      rintro S4 L4 ⟨⟨p1, p2, p3⟩, hL4⟩
      rw [hL4]
      refine rx_iload dX12_comeBy_57 rfl ?_
      exact rx_iret dX12_comeBy_59 rfl ⟨Nat.le_refl _, Nat.le_refl _⟩ ⟨rfl, _, rfl, ⟨by rw [him], ⟨p1, (h3.up0 (by decide)).trans (p3.mono (by decide) (by decide)), p2, by rw [p3.2 30 (by decide), upS_at]⟩, rfl⟩⟩
    | succ r ih =>
      intro i S1 hi hI
      obtain ⟨h1, h2, h3, h4⟩ := hI
      refine rx_iload dX12_comeBy_7 rfl ?_
      refine rx_iload_n dX12_comeBy_9 rfl ?_
      refine rx_icmp_ge 40 dX12_comeBy_10 (by decide) (fun h10 => absurd h10 (nI_ge (by omega) (by omega))) (fun h10 => ?_)
      refine rx_aload_n dX12_comeBy_13 rfl ?_
      refine rx_iload dX12_comeBy_14 rfl ?_
      refine rx_iload_n dX12_comeBy_16 rfl ?_
      refine rx_icmp_ge 24 dX12_comeBy_17 (by decide) (fun h17 => ?_) (fun h17 => ?_)
      · refine rx_iconst (-1) dX12_comeBy_24 (by decide) ?_
        refine rx_putI dX12_comeBy_25 flX12_102 (sM_0) rfl ?_
        refine rx_aload_n dX12_comeBy_28 rfl ?_
        refine rx_cVi_0 clX12_343 dX12_comeBy_29 (rcvo (sM_0) rfl) rfl (m_goTurn g (gE σ) (hlD σ c k i) (seesE σ) (if i < k then nI c else -1) _ L hr.en (by rw [hlD_T]; have := hr.t; omega) (hms_of (hl_dok σ hr.en hr.dok c k i) (by rw [hlD_T]; have := hr.t; omega) (by rw [upS_row]; exact h2.1)) (h1.ex (fun j h _ => upS_off _ _ _ _ h) (fun k hk => by rw [upS_row]; unfold upd; rw [if_neg (by omega)])) (Or.inl ⟨by rw [upS_row]; exact h4, rfl⟩) (by rw [upS_at]; first | exact (if_pos ((nI_ltI (by omega) (by omega)).mp (Int32.not_le.mp h17))).symm | exact (if_neg (fun q => absurd (nI_lt q (by omega)) (Int32.not_lt.mpr h17))).symm)) ?_
        rintro x2 S2 L2 ⟨hx2, hM2, hF2, hL2⟩
        rw [hL2, hx2]
        refine rx_istore_5 rfl dX12_comeBy_32 ?_
        refine rx_iinc_4 (1) rfl dX12_comeBy_34 (by decide) ?_
        refine rx_goto 7 dX12_comeBy_37 (by decide) ?_
        refine rx_wk [some (.ref 0), some (.int (nI c)), some (.int (nI m)), some (.int (nI k)), some (.int _), none] ⟨Or.inr rfl, Or.inr rfl, Or.inr rfl, Or.inr rfl, Or.inr rfl, Or.inl rfl, trivial⟩ ?_
        rw [nI_1]
        exact ih (i + 1) S2 (by omega) ⟨hM2, (h2.of (S' := upS S1 0 30 _) (fun k hk => by rw [upS_row]; unfold upd; rw [if_neg (by omega)]) (upS_off _ _ _ _ (by decide)) (upS_off _ _ _ _ (by decide))).mf hF2, (h3.up0 (by decide)).trans hF2.fr, by rw [hF2.2 27 (by decide) (by decide), upS_row]; exact h4⟩
      · refine rx_iload_n dX12_comeBy_20 rfl ?_
        refine rx_goto 25 dX12_comeBy_21 (by decide) ?_
        refine rx_putI dX12_comeBy_25 flX12_102 (sM_0) rfl ?_
        refine rx_aload_n dX12_comeBy_28 rfl ?_
        refine rx_cVi_0 clX12_343 dX12_comeBy_29 (rcvo (sM_0) rfl) rfl (m_goTurn g (gE σ) (hlD σ c k i) (seesE σ) (if i < k then nI c else -1) _ L hr.en (by rw [hlD_T]; have := hr.t; omega) (hms_of (hl_dok σ hr.en hr.dok c k i) (by rw [hlD_T]; have := hr.t; omega) (by rw [upS_row]; exact h2.1)) (h1.ex (fun j h _ => upS_off _ _ _ _ h) (fun k hk => by rw [upS_row]; unfold upd; rw [if_neg (by omega)])) (Or.inl ⟨by rw [upS_row]; exact h4, rfl⟩) (by rw [upS_at]; first | exact (if_pos ((nI_ltI (by omega) (by omega)).mp (Int32.not_le.mp h17))).symm | exact (if_neg (fun q => absurd (nI_lt q (by omega)) (Int32.not_lt.mpr h17))).symm)) ?_
        rintro x2 S2 L2 ⟨hx2, hM2, hF2, hL2⟩
        rw [hL2, hx2]
        refine rx_istore_5 rfl dX12_comeBy_32 ?_
        refine rx_iinc_4 (1) rfl dX12_comeBy_34 (by decide) ?_
        refine rx_goto 7 dX12_comeBy_37 (by decide) ?_
        refine rx_wk [some (.ref 0), some (.int (nI c)), some (.int (nI m)), some (.int (nI k)), some (.int _), none] ⟨Or.inr rfl, Or.inr rfl, Or.inr rfl, Or.inr rfl, Or.inr rfl, Or.inl rfl, trivial⟩ ?_
        rw [nI_1]
        exact ih (i + 1) S2 (by omega) ⟨hM2, (h2.of (S' := upS S1 0 30 _) (fun k hk => by rw [upS_row]; unfold upd; rw [if_neg (by omega)]) (upS_off _ _ _ _ (by decide)) (upS_off _ _ _ _ (by decide))).mf hF2, (h3.up0 (by decide)).trans hF2.fr, by rw [hF2.2 27 (by decide) (by decide), upS_row]; exact h4⟩
  exact loop m 0 S1 (by omega) ⟨k2, k1, k3, by rw [k3.2 27 (by decide)]; exact hr.sm⟩
set_option maxRecDepth 20000 in
set_option maxHeartbeats 1000000 in
theorem mc_held (g : GG) (σ : SIG) (c n : Int32) (S : SS) (L : LL) (hr : MRel S L σ) : Ci g 7 mX12_held [.ref 0, .int c, .int n] SHM S L (fun r S' L' => r = aHeld σ c n ∧ MRel S' L' σ) := by
  refine ct_of (ls := [some (.ref 0), some (.int c), some (.int n), none, none, none, none]) 4 (by decide +kernel) rfl rfl ?_
  refine rx_aload_n dX12_held_0 rfl ?_
  refine rx_iload_n dX12_held_1 rfl ?_
  refine rx_cVi_1 clX12_240 dX12_held_2 (rcvo (sM_0) rfl) rfl (m_isChild g (nN σ) c S L hr.n7 hr.sz) ?_
  refine pur3 ?_
  refine rx_if_ne 10 dX12_held_5 (by decide) (fun h5 => ?_) (fun h5 => ?_)
  · have hq := b2i_ne h5
    obtain ⟨c, hc, rfl⟩ := rngL (nN σ) (by have := hr.n7; omega) hq.1 hq.2
    have hc7 : c < 7 := by have := hr.n7; omega
    have hci : (nI c).toNatClampNeg = c := nI_clamp (by omega)
    have hvc : vp_in (nI c) 7 := vp_in_nI hc7 (by omega)
    refine rx_aload_n dX12_held_10 rfl ?_
    refine rx_iload_n dX12_held_11 rfl ?_
    refine rx_iconst (1) dX12_held_12 (by decide) ?_
    refine rx_bipush (20) dX12_held_13 (by decide) ?_
    refine rx_cVi_3 clX12_236 dX12_held_15 (rcvo (sM_0) rfl) rfl (m_in g 0 _ _ _ S L) ?_
    refine pur3 ?_
    refine rx_if_ne 24 dX12_held_18 (by decide) (fun h18 => ?_) (fun h18 => ?_)
    · have hnr := b2i_ne h18
      obtain ⟨m, hm, rfl⟩ := rngI 20 (by omega) (Int32.le_trans (by decide) hnr.1) hnr.2
      have hmc : (nI m).toNatClampNeg = m := nI_clamp (by omega)
      refine rx_iconst (0) dX12_held_24 (by decide) ?_
      refine rx_istore_3 rfl dX12_held_25 ?_
      refine rx_iconst (-1) dX12_held_26 (by decide) ?_
      refine rx_istore_4 rfl dX12_held_27 ?_
      refine rx_iconst (0) dX12_held_29 (by decide) ?_
      refine rx_istore_5 rfl dX12_held_30 ?_
      have loop : ∀ (r k : Nat) (S1 : SS), k + r = m + 1 → MRel S1 L σ → Rx g 7 0 0 mX12_held SHM.length (fun r sh' S' L' => sh' = SHM ∧ ∃ x, r = some (.int x) ∧ (x = aHeld σ (nI c) (nI m) ∧ MRel S' L' σ)) 0 0 32 [some (.ref 0), some (.int (nI c)), some (.int (nI m)), some (.int (hlC σ c m k).1), some (.int (hlC σ c m k).2), some (.int (nI k)), none] [] SHM S1 L := by
        intro r
        induction r with
        | zero =>
          intro k S1 hk hI
          have hkm : k = m + 1 := by omega
          refine rx_iload dX12_held_32 rfl ?_
          refine rx_iload_n dX12_held_34 rfl ?_
          refine rx_icmp_gt 71 dX12_held_35 (by decide) (fun h35 => ?_) (fun h35 => absurd (nI_lt (a := m) (b := k) (by omega) (by omega)) h35)
          refine rx_iload_n dX12_held_71 rfl ?_
          exact rx_iret dX12_held_72 rfl ⟨Nat.le_refl _, Nat.le_refl _⟩ ⟨rfl, _, rfl, ⟨by unfold aHeld; rw [if_neg (fun q => q hq), if_neg (fun q => q hnr), hci, hmc, hkm], hI⟩⟩
        | succ r ih =>
          intro k S1 hk hI
          refine rx_iload dX12_held_32 rfl ?_
          refine rx_iload_n dX12_held_34 rfl ?_
          refine rx_icmp_gt 71 dX12_held_35 (by decide) (fun h35 => absurd h35 (Int32.not_lt.mpr (nI_le (a := k) (b := m) (by omega) (by omega)))) (fun h35 => ?_)
          refine rx_aload_n dX12_held_38 rfl ?_
          refine rx_iload_n dX12_held_39 rfl ?_
          refine rx_iload_n dX12_held_40 rfl ?_
          refine rx_iload dX12_held_41 rfl ?_
          refine rx_cVi_3 clX12_371 dX12_held_43 (rcvo (sM_0) rfl) rfl (m_comeBy g σ c m k S1 L hI hc hm (by omega)) ?_
          rintro x2 S2 L2 ⟨hx2, hR2, hL2⟩
          rw [hL2, hx2]
          have hr2 := hI.rs hR2
          refine rx_istore_6 rfl dX12_held_46 ?_
          refine rx_iload dX12_held_48 rfl ?_
          refine rx_iload dX12_held_50 rfl ?_
          refine rx_icmp_gt 58 dX12_held_52 (by decide) (fun h52 => ?_) (fun h52 => ?_)
          · refine rx_iload dX12_held_58 rfl ?_
            refine rx_istore_3 rfl dX12_held_60 ?_
            refine rx_iload dX12_held_61 rfl ?_
            refine rx_istore_4 rfl dX12_held_63 ?_
            refine rx_iinc_5 (1) rfl dX12_held_65 (by decide) ?_
            refine rx_goto 32 dX12_held_68 (by decide) ?_
            refine rx_wk [some (.ref 0), some (.int (nI c)), some (.int (nI m)), some (.int _), some (.int _), some (.int _), none] ⟨Or.inr rfl, Or.inr rfl, Or.inr rfl, Or.inr rfl, Or.inr rfl, Or.inr rfl, Or.inl rfl, trivial⟩ ?_
            rw [nI_1]
            have e : hlC σ c m (k + 1) = (nI k, dA (hlD σ c k m) c) := if_pos h52
            have hx := ih (k + 1) S2 (by omega) hr2
            rw [e] at hx
            exact hx
          · refine rx_goto 65 dX12_held_55 (by decide) ?_
            refine rx_iinc_5 (1) rfl dX12_held_65 (by decide) ?_
            refine rx_goto 32 dX12_held_68 (by decide) ?_
            refine rx_wk [some (.ref 0), some (.int (nI c)), some (.int (nI m)), some (.int _), some (.int _), some (.int _), none] ⟨Or.inr rfl, Or.inr rfl, Or.inr rfl, Or.inr rfl, Or.inr rfl, Or.inr rfl, Or.inl rfl, trivial⟩ ?_
            rw [nI_1]
            have e : hlC σ c m (k + 1) = hlC σ c m k := if_neg (Int32.not_lt.mpr (Int32.not_lt.mp h52))
            have hx := ih (k + 1) S2 (by omega) hr2
            rw [e] at hx
            exact hx
      exact loop (m + 1) 0 S (by omega) hr
    · refine rx_bipush (-2) dX12_held_21 (by decide) ?_
      exact rx_iret dX12_held_23 rfl ⟨Nat.le_refl _, Nat.le_refl _⟩ ⟨rfl, _, rfl, ⟨by unfold aHeld; rw [if_neg (fun q => q hq), if_pos (b2i_eq h18)], hr⟩⟩
  · refine rx_iconst (-1) dX12_held_8 (by decide) ?_
    exact rx_iret dX12_held_9 rfl ⟨Nat.le_refl _, Nat.le_refl _⟩ ⟨rfl, _, rfl, ⟨(if_pos (b2i_eq h5)).symm, hr⟩⟩
set_option maxRecDepth 20000 in
set_option maxHeartbeats 1000000 in
theorem mc_shield (g : GG) (σ : SIG) (a b n : Int32) (S : SS) (L : LL) (hr : MRel S L σ) : Ci g 7 mX12_shield [.ref 0, .int a, .int b, .int n] SHM S L (fun r S' L' => r = aShield σ a b n ∧ MRel S' L' σ) := by
  refine ct_of (ls := [some (.ref 0), some (.int a), some (.int b), some (.int n), none, none]) 2 (by decide +kernel) rfl rfl ?_
  refine rx_aload_n dX12_shield_0 rfl ?_
  refine rx_iload_n dX12_shield_1 rfl ?_
  refine rx_cVi_1 clX12_240 dX12_shield_2 (rcvo (sM_0) rfl) rfl (m_isChild g (nN σ) a S L hr.n7 hr.sz) ?_
  refine pur3 ?_
  refine rx_if_eq 16 dX12_shield_5 (by decide) (fun h5 => ?_) (fun h5 => ?_)
  · refine rx_sipush (-1001) dX12_shield_16 (by decide) ?_
    exact rx_iret dX12_shield_19 rfl ⟨Nat.le_refl _, Nat.le_refl _⟩ ⟨rfl, _, rfl, ⟨(if_pos (by first | exact fun q => b2i_eq h5 q.1 | exact fun q => b2i_eq h13 q.2)).symm, hr⟩⟩
  · have hq := b2i_ne h5
    obtain ⟨c, hc, rfl⟩ := rngL (nN σ) (by have := hr.n7; omega) hq.1 hq.2
    have hc7 : c < 7 := by have := hr.n7; omega
    have hci : (nI c).toNatClampNeg = c := nI_clamp (by omega)
    have hvc : vp_in (nI c) 7 := vp_in_nI hc7 (by omega)
    refine rx_aload_n dX12_shield_8 rfl ?_
    refine rx_iload_n dX12_shield_9 rfl ?_
    refine rx_cVi_1 clX12_240 dX12_shield_10 (rcvo (sM_0) rfl) rfl (m_isChild g (nN σ) b S L hr.n7 hr.sz) ?_
    refine pur3 ?_
    refine rx_if_ne 20 dX12_shield_13 (by decide) (fun h13 => ?_) (fun h13 => ?_)
    · have hqb := b2i_ne h13
      obtain ⟨c2, hc2, rfl⟩ := rngL (nN σ) (by have := hr.n7; omega) hqb.1 hqb.2
      have hc72 : c2 < 7 := by have := hr.n7; omega
      have hci2 : (nI c2).toNatClampNeg = c2 := nI_clamp (by omega)
      have hvc2 : vp_in (nI c2) 7 := vp_in_nI hc72 (by omega)
      refine rx_iload_n dX12_shield_20 rfl ?_
      refine rx_iload_n dX12_shield_21 rfl ?_
      refine rx_icmp_eq 36 dX12_shield_22 (by decide) (fun h22 => ?_) (fun h22 => ?_)
      · refine rx_sipush (-1002) dX12_shield_36 (by decide) ?_
        exact rx_iret dX12_shield_39 rfl ⟨Nat.le_refl _, Nat.le_refl _⟩ ⟨rfl, _, rfl, ⟨by unfold aShield; rw [if_neg (fun q => q ⟨hq, hqb⟩), if_pos (by first | exact Or.inl h22 | exact Or.inr (b2i_eq h33))], hr⟩⟩
      · refine rx_aload_n dX12_shield_25 rfl ?_
        refine rx_iload_n dX12_shield_26 rfl ?_
        refine rx_iconst (1) dX12_shield_27 (by decide) ?_
        refine rx_bipush (20) dX12_shield_28 (by decide) ?_
        refine rx_cVi_3 clX12_236 dX12_shield_30 (rcvo (sM_0) rfl) rfl (m_in g 0 _ _ _ S L) ?_
        refine pur3 ?_
        refine rx_if_ne 40 dX12_shield_33 (by decide) (fun h33 => ?_) (fun h33 => ?_)
        · have hnr := b2i_ne h33
          obtain ⟨m, hm, rfl⟩ := rngI 20 (by omega) (Int32.le_trans (by decide) hnr.1) hnr.2
          have hmc : (nI m).toNatClampNeg = m := nI_clamp (by omega)
          refine rx_aload_n dX12_shield_40 rfl ?_
          refine rx_iload_n dX12_shield_41 rfl ?_
          refine rx_cVv_1 clX12_353 dX12_shield_42 (rcvo (sM_0) rfl) rfl (m_lay g (gE σ) (gD σ) (seesE σ) m S L hr.en hr.dok (by have := hr.t; omega) hr.sc hr.se hr.id) ?_
          rintro S2 L2 ⟨⟨q1, q2, q3, q4⟩, hL2⟩
          rw [hL2]
          have hr2 := hr.rs q1
          refine rx_aload_n dX12_shield_45 rfl ?_
          refine rx_getR dX12_shield_46 flX12_123 (sM_0) rfl ?_
          refine rx_iload_n dX12_shield_49 rfl ?_
          refine rx_iaload dX12_shield_50 (sM_22) hvc ?_
          rw [hci, q2 c hc7]
          refine rx_istore_4 rfl dX12_shield_51 ?_
          refine rx_aload_n dX12_shield_53 rfl ?_
          refine rx_getI dX12_shield_54 flX12_16 (sM_0) rfl ?_
          rw [hr2.sc.w]
          refine rx_istore_5 rfl dX12_shield_57 ?_
          refine rx_aload_n dX12_shield_59 rfl ?_
          refine rx_dup dX12_shield_60 rfl ?_
          refine rx_getI dX12_shield_61 flX12_16 (sM_0) rfl ?_
          rw [hr2.sc.w]
          refine rx_iconst (1) dX12_shield_64 (by decide) ?_
          refine rx_iload_n dX12_shield_65 rfl ?_
          refine rx_ishl dX12_shield_66 ?_
          refine rx_ior dX12_shield_67 ?_
          refine rx_putI dX12_shield_68 flX12_16 (sM_0) rfl ?_
          refine rx_aload_n dX12_shield_71 rfl ?_
          refine rx_iload_n dX12_shield_72 rfl ?_
          refine rx_cVv_1 clX12_353 dX12_shield_73 (rcvo (sM_0) rfl) rfl (m_lay g (gE σ) (orW (gD σ) c2) (seesE σ) m _ L hr.en (hr.dok.orW hr.n7 hc2) (by have := hr.t; show dT (gD σ) + m < 19999; omega) (hr2.sc.wall _) (Or.inl ⟨by rw [upS_row]; exact hr2.sm, rfl⟩) (by rw [upS_row]; exact hr2.id)) ?_
          rintro S3 L3 ⟨⟨r1, r2, r3, r4⟩, hL3⟩
          rw [hL3]
          refine rx_aload_n dX12_shield_76 rfl ?_
          refine rx_iload dX12_shield_77 rfl ?_
          refine rx_putI dX12_shield_79 flX12_16 (sM_0) rfl ?_
          refine rx_iload dX12_shield_82 rfl ?_
          refine rx_aload_n dX12_shield_84 rfl ?_
          refine rx_getR dX12_shield_85 flX12_123 (sM_0) rfl ?_
          refine rx_iload_n dX12_shield_88 rfl ?_
          refine rx_iaload dX12_shield_89 (sM_22) hvc ?_
          rw [hci, upS_off _ _ _ _ (by decide), r2 c hc7]
          refine rx_isub dX12_shield_90 ?_
          exact rx_iret dX12_shield_91 rfl ⟨Nat.le_refl _, Nat.le_refl _⟩ ⟨rfl, _, rfl, ⟨by unfold aShield itQ; rw [if_neg (fun q => q ⟨hq, hqb⟩), if_neg (by rintro (q | q); exact h22 q; exact q hnr), hci, hci2, hmc], hr.back (r1.1.wall (dW (gD σ))) ⟨by rw [upS_row]; show S3 0 27 = -1; rw [r1.2.1.2 27 (by decide), upS_row]; exact hr2.sm, by rw [upS_row]; exact r1.2.2.1, by rw [upS_row]; exact r1.2.2.2⟩ (((q1.2.1.big.up0 (by decide)).trans r1.2.1.big).up0 (by decide))⟩⟩
        · refine rx_sipush (-1002) dX12_shield_36 (by decide) ?_
          exact rx_iret dX12_shield_39 rfl ⟨Nat.le_refl _, Nat.le_refl _⟩ ⟨rfl, _, rfl, ⟨by unfold aShield; rw [if_neg (fun q => q ⟨hq, hqb⟩), if_pos (by first | exact Or.inl h22 | exact Or.inr (b2i_eq h33))], hr⟩⟩
    · refine rx_sipush (-1001) dX12_shield_16 (by decide) ?_
      exact rx_iret dX12_shield_19 rfl ⟨Nat.le_refl _, Nat.le_refl _⟩ ⟨rfl, _, rfl, ⟨(if_pos (by first | exact fun q => b2i_eq h5 q.1 | exact fun q => b2i_eq h13 q.2)).symm, hr⟩⟩
set_option maxRecDepth 20000 in
set_option maxHeartbeats 400000 in
theorem m_isSeen (g : GG) (σ : SIG) (D : DY) (S : SS) (L : LL) (hE : EnOK (gE σ)) (hD : DOK (eN (gE σ)) D) (hT : dT D < 19950) (hM : MSc S (gE σ) D) (hsm : S 0 27 = -1) (hms : S 0 29 = 9999) (hid : S 0 30 = -1) (hsn : MSe S (sSn (gN σ))) (hsl : (sSn (gN σ)).length ≤ 4) (hsq : ∀ q ∈ sSn (gN σ), q.1 < 7 ∧ q.2.1 ≤ 20 ∧ q.2.2 ≤ 99) : Ci g 7 mX12_isSeen [.ref 0] SHM S L (fun r S' L' => r = b2i (soP σ D) ∧ MRs (gE σ) D S S' ∧ L' = L) := by
  refine ct_of (ls := [some (.ref 0), none]) 1 (by decide +kernel) rfl rfl ?_
  refine rx_iconst (0) dX12_isSeen_0 (by decide) ?_
  refine rx_istore_1 rfl dX12_isSeen_1 ?_
  have loop : ∀ (r i : Nat) (S1 : SS), i + r = (sSn (gN σ)).length → (MSc S1 (gE σ) D ∧ Fr JS KS S S1 ∧ S1 0 29 = 9999 ∧ S1 0 30 = -1) → (∀ j (q : Nat × Nat × Nat), j < i → (sSn (gN σ))[j]? = some q → dA (itD (gE σ) (seesE σ) (-1) q.2.1 D) q.1 = nI q.2.2) → Rx g 7 0 0 mX12_isSeen SHM.length (fun r sh' S' L' => sh' = SHM ∧ ∃ x, r = some (.int x) ∧ (x = b2i (soP σ D) ∧ MRs (gE σ) D S S' ∧ L' = L)) 0 0 2 [some (.ref 0), some (.int (nI i))] [] SHM S1 L := by
    intro r
    induction r with
    | zero =>
      intro i S1 hi hI hso
      obtain ⟨h1, h2, h3, h4⟩ := hI
      have hsz : S1 0 42 = nI (sSn (gN σ)).length := by rw [h2.2 42 (by decide)]; exact hsn.1
      refine rx_iload_n dX12_isSeen_2 rfl ?_
      refine rx_aload_n dX12_isSeen_3 rfl ?_
      refine rx_getI dX12_isSeen_4 flX12_138 (sM_0) rfl ?_
      refine rx_icmp_ge 48 dX12_isSeen_7 (by decide) (fun h7 => ?_) (fun h7 => absurd (by rw [hsz]; exact nI_le (by omega) (by omega)) h7)
      refine rx_iconst (1) dX12_isSeen_48 (by decide) ?_
      exact rx_zret dX12_isSeen_49 rfl (by decide) ⟨Nat.le_refl _, Nat.le_refl _⟩ ⟨rfl, _, rfl, ⟨b2i_t (fun p hp => by
        obtain ⟨j, hj, e⟩ := List.getElem_of_mem hp
        exact hso j p (by omega) (by rw [List.getElem?_eq_getElem hj, e])), ⟨h1, h2, h3, h4⟩, rfl⟩⟩
    | succ r ih =>
      intro i S1 hi hI hso
      obtain ⟨h1, h2, h3, h4⟩ := hI
      have hsz : S1 0 42 = nI (sSn (gN σ)).length := by rw [h2.2 42 (by decide)]; exact hsn.1
      obtain ⟨q, hqi⟩ : ∃ q, (sSn (gN σ))[i]? = some q := ⟨_, List.getElem?_eq_getElem (by omega)⟩
      have hqS : S1 25 i = nI q.1 ∧ S1 26 i = nI q.2.1 ∧ S1 27 i = nI q.2.2 := by rw [h2.1 25 (by decide) (by decide), h2.1 26 (by decide) (by decide), h2.1 27 (by decide) (by decide)]; exact hsn.2 i q hqi
      obtain ⟨hb1, hb2, hb3⟩ := hsq q (List.mem_of_getElem? hqi)
      have hii : (nI i).toNatClampNeg = i := nI_clamp (by omega)
      have hvi : vp_in (nI i) 4 := vp_in_nI (by omega) (by omega)
      refine rx_iload_n dX12_isSeen_2 rfl ?_
      refine rx_aload_n dX12_isSeen_3 rfl ?_
      refine rx_getI dX12_isSeen_4 flX12_138 (sM_0) rfl ?_
      refine rx_icmp_ge 48 dX12_isSeen_7 (by decide) (fun h7 => absurd h7 (by rw [hsz]; exact nI_ge (by omega) (by omega))) (fun h7 => ?_)
      refine rx_aload_n dX12_isSeen_10 rfl ?_
      refine rx_aload_n dX12_isSeen_11 rfl ?_
      refine rx_getR dX12_isSeen_12 flX12_144 (sM_0) rfl ?_
      refine rx_iload_n dX12_isSeen_15 rfl ?_
      refine rx_iaload dX12_isSeen_16 (sM_26) hvi ?_
      rw [hii, show S1 26 i = nI q.2.1 from hqS.2.1]
      refine rx_cVv_1 clX12_353 dX12_isSeen_17 (rcvo (sM_0) rfl) rfl (m_lay g (gE σ) D (seesE σ) q.2.1 S1 L hE hD (by omega) h1 (Or.inl ⟨by rw [h2.2 27 (by decide)]; exact hsm, rfl⟩) h4) ?_
      rintro S2 L2 ⟨⟨q1, q2, q3, q4⟩, hL2⟩
      rw [hL2]
      have hq25 : S2 25 = S1 25 := q1.2.1.1 25 (by decide) (by decide)
      have hq27 : S2 27 = S1 27 := q1.2.1.1 27 (by decide) (by decide)
      refine rx_aload_n dX12_isSeen_20 rfl ?_
      refine rx_getR dX12_isSeen_21 flX12_123 (sM_0) rfl ?_
      refine rx_aload_n dX12_isSeen_24 rfl ?_
      refine rx_getR dX12_isSeen_25 flX12_141 (sM_0) rfl ?_
      refine rx_iload_n dX12_isSeen_28 rfl ?_
      refine rx_iaload dX12_isSeen_29 (sM_25) hvi ?_
      rw [hii, hq25, show S1 25 i = nI q.1 from hqS.1]
      refine rx_iaload dX12_isSeen_30 (sM_22) (vp_in_nI (show q.1 < 7 by omega) (by decide)) ?_
      rw [nI_clamp (by omega), q2 q.1 (by omega)]
      refine rx_aload_n dX12_isSeen_31 rfl ?_
      refine rx_getR dX12_isSeen_32 flX12_147 (sM_0) rfl ?_
      refine rx_iload_n dX12_isSeen_35 rfl ?_
      refine rx_iaload dX12_isSeen_36 (sM_27) hvi ?_
      rw [hii, hq27, show S1 27 i = nI q.2.2 from hqS.2.2]
      refine rx_icmp_eq 42 dX12_isSeen_37 (by decide) (fun h37 => ?_) (fun h37 => ?_)
      · refine rx_iinc_1 (1) rfl dX12_isSeen_42 (by decide) ?_
        refine rx_goto 2 dX12_isSeen_45 (by decide) ?_
        rw [nI_1]
        exact ih (i + 1) S2 (by omega) ⟨q1.1, h2.trans q1.2.1, q1.2.2.1, q1.2.2.2⟩ (fun j p hj hp => by
          rcases (show j < i ∨ j = i by omega) with e | e
          · exact hso j p e hp
          · subst e
            rw [hqi] at hp
            cases hp
            exact h37)
      · refine rx_iconst (0) dX12_isSeen_40 (by decide) ?_
        exact rx_zret dX12_isSeen_41 rfl (by decide) ⟨Nat.le_refl _, Nat.le_refl _⟩ ⟨rfl, _, rfl, ⟨b2i_f (fun z => h37 (z q (List.mem_of_getElem? hqi))), ⟨q1.1, h2.trans q1.2.1, q1.2.2.1, q1.2.2.2⟩, rfl⟩⟩
  exact loop (sSn (gN σ)).length 0 S (by omega) ⟨hM, Fr.refl, hms, hid⟩ (fun j q hj => absurd hj (by omega))
set_option maxRecDepth 20000 in
set_option maxHeartbeats 1000000 in
theorem mc_since (g : GG) (σ : SIG)  (S : SS) (L : LL) (hr : MRel S L σ) : Ci g 8 mX12_since [.ref 0] SHM S L (fun r S' L' => r = aSince σ 4 ∧ MRel S' L' σ) := by
  refine ct_of (ls := [some (.ref 0), none, none, none]) 3 (by decide +kernel) rfl rfl ?_
  refine rx_aload_n dX12_since_0 rfl ?_
  refine rx_getI dX12_since_1 flX12_13 (sM_0) rfl ?_
  rw [hr.sc.t]
  refine rx_istore_1 rfl dX12_since_4 ?_
  refine rx_iconst (0) dX12_since_5 (by decide) ?_
  refine rx_istore_2 rfl dX12_since_6 ?_
  refine rx_iconst (0) dX12_since_7 (by decide) ?_
  refine rx_istore_3 rfl dX12_since_8 ?_
  have loop : ∀ (r k : Nat) (S1 : SS), k + r = 4 → ((∃ t, MSc S1 (gE σ) (dA (gD σ), dW (gD σ), t, dS (gD σ))) ∧ (S1 0 27 = -1 ∧ S1 0 29 = 9999 ∧ S1 0 30 = -1) ∧ Fr JB KB S S1) → Rx g 8 0 0 mX12_since SHM.length (fun r sh' S' L' => sh' = SHM ∧ ∃ x, r = some (.int x) ∧ (x = aSince σ 4 ∧ MRel S' L' σ)) 0 0 9 [some (.ref 0), some (.int (nI (dT (gD σ)))), some (.int (aSince σ k)), some (.int (nI k))] [] SHM S1 L := by
    intro r
    induction r with
    | zero =>
      intro k S1 hk hI
      obtain ⟨⟨t, h1⟩, h2, h3⟩ := hI
      have hk4 : k = 4 := by omega
      subst hk4
      refine rx_iload_n dX12_since_9 rfl ?_
      refine rx_iconst (4) dX12_since_10 (by decide) ?_
      refine rx_icmp_ge 44 dX12_since_11 (by decide) (fun h11 => ?_) (fun h11 => absurd (nI_le (a := 4) (b := 4) (by omega) (by omega)) h11)
      refine rx_aload_n dX12_since_44 rfl ?_
      refine rx_iload_n dX12_since_45 rfl ?_
      refine rx_putI dX12_since_46 flX12_13 (sM_0) rfl ?_
      refine rx_iload_n dX12_since_49 rfl ?_
      exact rx_iret dX12_since_50 rfl ⟨Nat.le_refl _, Nat.le_refl _⟩ ⟨rfl, _, rfl, ⟨rfl, hr.back (h1.turn (dT (gD σ)) (by have := hr.t; omega)) (by rw [upS_row]; exact h2) (h3.up0 (by decide))⟩⟩
    | succ r ih =>
      intro k S1 hk hI
      obtain ⟨⟨t, h1⟩, h2, h3⟩ := hI
      have hsn1 : MSe S1 (sSn (gN σ)) := hr.2.2.2.2.1.off (h3.2 42 (by decide)) (h3.1 25 (by decide) (by decide)) (h3.1 26 (by decide) (by decide)) (h3.1 27 (by decide) (by decide))
      refine rx_iload_n dX12_since_9 rfl ?_
      refine rx_iconst (4) dX12_since_10 (by decide) ?_
      refine rx_icmp_ge 44 dX12_since_11 (by decide) (fun h11 => absurd h11 (nI_ge (a := k) (b := 4) (by omega) (by omega))) (fun h11 => ?_)
      refine rx_aload_n dX12_since_14 rfl ?_
      refine rx_iload_n dX12_since_15 rfl ?_
      refine rx_iload_n dX12_since_16 rfl ?_
      refine rx_iadd dX12_since_17 ?_
      rw [nI_add]
      refine rx_putI dX12_since_18 flX12_13 (sM_0) rfl ?_
      refine rx_iload_n dX12_since_21 rfl ?_
      refine rx_aload_n dX12_since_22 rfl ?_
      refine rx_cVi_0 clX12_375 dX12_since_23 (rcvo (sM_0) rfl) rfl (m_isSeen g σ (shT (gD σ) k) _ L hr.en (hr.dok.shT k) (by show dT (gD σ) + k < 19950; have := hr.t; omega) (h1.turn (dT (gD σ) + k) (by have := hr.t; omega)) (by rw [upS_row]; exact h2.1) (by rw [upS_row]; exact h2.2.1) (by rw [upS_row]; exact h2.2.2) (hsn1.off (by rw [upS_row]; rfl) (upS_off _ _ _ _ (by decide)) (upS_off _ _ _ _ (by decide)) (upS_off _ _ _ _ (by decide))) hr.1.1.2.2.2.2.2.1 (fun q hq => by obtain ⟨p1, p2⟩ := hr.1.1.2.2.2.1 q hq; exact ⟨Nat.lt_of_lt_of_le p1 hr.n7, p2⟩)) ?_
      rintro x2 S2 L2 ⟨hx2, hR2, hL2⟩
      rw [hL2, hx2]
      refine rx_if_eq 35 dX12_since_26 (by decide) (fun h26 => ?_) (fun h26 => ?_)
      · refine rx_iconst (0) dX12_since_35 (by decide) ?_
        refine rx_ior dX12_since_36 ?_
        refine rx_istore_2 rfl dX12_since_37 ?_
        refine rx_iinc_3 (1) rfl dX12_since_38 (by decide) ?_
        refine rx_goto 9 dX12_since_41 (by decide) ?_
        rw [nI_1, Int32.or_zero, show aSince σ k = aSince σ (k + 1) from (if_neg (b2i_eq h26)).symm]
        exact ih (k + 1) S2 (by omega) ⟨⟨_, hR2.1⟩, ⟨by rw [hR2.2.1.2 27 (by decide), upS_row]; exact h2.1, hR2.2.2.1, hR2.2.2.2⟩, (h3.up0 (by decide)).trans hR2.2.1.big⟩
      · refine rx_iconst (1) dX12_since_29 (by decide) ?_
        refine rx_iload_n dX12_since_30 rfl ?_
        refine rx_ishl dX12_since_31 ?_
        refine rx_goto 36 dX12_since_32 (by decide) ?_
        refine rx_ior dX12_since_36 ?_
        refine rx_istore_2 rfl dX12_since_37 ?_
        refine rx_iinc_3 (1) rfl dX12_since_38 (by decide) ?_
        refine rx_goto 9 dX12_since_41 (by decide) ?_
        rw [nI_1, show aSince σ k ||| (1 <<< (nI k &&& 31)) = aSince σ (k + 1) from (if_pos (b2i_ne h26)).symm]
        exact ih (k + 1) S2 (by omega) ⟨⟨_, hR2.1⟩, ⟨by rw [hR2.2.1.2 27 (by decide), upS_row]; exact h2.1, hR2.2.2.1, hR2.2.2.2⟩, (h3.up0 (by decide)).trans hR2.2.1.big⟩
  exact loop 4 0 S (by omega) ⟨⟨dT (gD σ), hr.sc⟩, ⟨hr.sm, hr.ms, hr.id⟩, Fr.refl⟩
set_option maxRecDepth 20000 in
set_option maxHeartbeats 400000 in
theorem m_divisor (g : GG) {sh : List CS} (z a b : Nat) (S : SS) (L : LL) (ha : a < 1000) (hb : b < 1000) : Ci g 0 mX12_divisor [.ref z, .int (nI a), .int (nI b)] sh S L (fun r S' L' => r = nI (Nat.gcd a b) ∧ S' = S ∧ L' = L) := by
  refine ct_of (ls := [some (.ref z), some (.int (nI a)), some (.int (nI b)), none, none, none]) 3 (by decide +kernel) rfl rfl ?_
  have loop : ∀ (N q : Nat), q ≤ N → ∀ p, p < 1000 → Nat.gcd p q = Nat.gcd a b → q < 1000 → Rx g 0 0 0 mX12_divisor sh.length (fun r sh' S' L' => sh' = sh ∧ ∃ x, r = some (.int x) ∧ (x = nI (Nat.gcd a b) ∧ S' = S ∧ L' = L)) 0 0 5 [some (.ref z), some (.int (nI a)), some (.int (nI b)), some (.int (nI p)), some (.int (nI q)), none] [] sh S L := by
    intro N
    induction N with
    | zero =>
      intro q hN p hp hg hq1
      have hq0 : q = 0 := by omega
      have hqz : nI q = 0 := by rw [hq0]; rfl
      refine rx_iload dX12_divisor_5 rfl ?_
      refine rx_if_eq 26 dX12_divisor_7 (by decide) (fun h7 => ?_) (fun h7 => absurd hqz h7)
      refine rx_iload_n dX12_divisor_26 rfl ?_
      exact rx_iret dX12_divisor_27 rfl ⟨Nat.le_refl _, Nat.le_refl _⟩ ⟨rfl, _, rfl, ⟨by rw [← hg, hq0, Nat.gcd_zero_right], rfl, rfl⟩⟩
    | succ N ih =>
      intro q hN p hp hg hq1
      by_cases hq0 : q = 0
      · have hqz : nI q = 0 := by rw [hq0]; rfl
        refine rx_iload dX12_divisor_5 rfl ?_
        refine rx_if_eq 26 dX12_divisor_7 (by decide) (fun h7 => ?_) (fun h7 => absurd hqz h7)
        refine rx_iload_n dX12_divisor_26 rfl ?_
        exact rx_iret dX12_divisor_27 rfl ⟨Nat.le_refl _, Nat.le_refl _⟩ ⟨rfl, _, rfl, ⟨by rw [← hg, hq0, Nat.gcd_zero_right], rfl, rfl⟩⟩
      · have hq0 : 0 < q := by omega
        have hqz : ¬ nI q = 0 := fun e => by
          have := (nI_eq (b := 0) (by omega) (by omega)).mp e
          omega
        refine rx_iload dX12_divisor_5 rfl ?_
        refine rx_if_eq 26 dX12_divisor_7 (by decide) (fun h7 => absurd h7 hqz) (fun h7 => ?_)
        refine rx_iload_n dX12_divisor_10 rfl ?_
        refine rx_iload dX12_divisor_11 rfl ?_
        refine rx_irem dX12_divisor_13 hqz ?_
        rw [pk_rem (by omega) hq0 (by omega)]
        refine rx_istore_5 rfl dX12_divisor_14 ?_
        refine rx_iload dX12_divisor_16 rfl ?_
        refine rx_istore_3 rfl dX12_divisor_18 ?_
        refine rx_iload dX12_divisor_19 rfl ?_
        refine rx_istore_4 rfl dX12_divisor_21 ?_
        refine rx_goto 5 dX12_divisor_23 (by decide) ?_
        refine rx_wk [some (.ref z), some (.int (nI a)), some (.int (nI b)), some (.int _), some (.int _), none] ⟨Or.inr rfl, Or.inr rfl, Or.inr rfl, Or.inr rfl, Or.inr rfl, Or.inl rfl, trivial⟩ ?_
        exact ih (p % q) (by have := Nat.mod_lt p hq0; omega) q (by omega) (by rw [gcd_st]; exact hg) (by have := Nat.mod_lt p hq0; omega)
  refine rx_iload_n dX12_divisor_0 rfl ?_
  refine rx_istore_3 rfl dX12_divisor_1 ?_
  refine rx_iload_n dX12_divisor_2 rfl ?_
  refine rx_istore_4 rfl dX12_divisor_3 ?_
  exact loop b b (Nat.le_refl _) a ha rfl hb
set_option maxRecDepth 20000 in
set_option maxHeartbeats 1000000 in
theorem m_lowest (g : GG) (a b : Nat) (part : Int32) (S : SS) (L : LL) (ha : a < 1000) (hb : b < 1000) (hb1 : 0 < b) : Cl g 1 mX12_lowest [.ref 0, .int (nI a), .int (nI b), .int part] SHM S L (fun x S' L' => x = aPF a b part ∧ S' = S ∧ L' = L) := by
  have hg0 : 0 < Nat.gcd a b := Nat.gcd_pos_of_pos_right a hb1
  have hgl : Nat.gcd a b ≤ b := Nat.le_of_dvd hb1 (Nat.gcd_dvd_right a b)
  have hgz : ¬ nI (Nat.gcd a b) = 0 := fun e => by
    have := (nI_eq (b := 0) (by omega) (by omega)).mp e
    omega
  refine ct_of (ls := [some (.ref 0), some (.int (nI a)), some (.int (nI b)), some (.int part), none]) 1 (by decide +kernel) rfl rfl ?_
  refine rx_aload_n dX12_lowest_0 rfl ?_
  refine rx_iload_n dX12_lowest_1 rfl ?_
  refine rx_iload_n dX12_lowest_2 rfl ?_
  refine rx_cVi_2 clX12_378 dX12_lowest_3 (rcvo (sM_0) rfl) rfl (m_divisor g 0 a b S L ha hb) ?_
  refine pur3 ?_
  refine rx_istore_4 rfl dX12_lowest_6 ?_
  refine rx_iload_n dX12_lowest_8 rfl ?_
  refine rx_if_ne 20 dX12_lowest_9 (by decide) (fun h9 => ?_) (fun h9 => ?_)
  · refine rx_iload_n dX12_lowest_20 rfl ?_
    refine rx_iload dX12_lowest_21 rfl ?_
    refine rx_idiv dX12_lowest_23 hgz ?_
    refine rx_i2l dX12_lowest_24 ?_
    exact rx_lret dX12_lowest_25 rfl ⟨Nat.le_refl _, Nat.le_refl _⟩ ⟨rfl, _, rfl, ⟨by unfold aPF; rw [if_neg h9, pf_gcd a b hb1, pk_div (by omega) hg0 (by omega)], rfl, rfl⟩⟩
  · refine rx_iload_n dX12_lowest_12 rfl ?_
    refine rx_iload dX12_lowest_13 rfl ?_
    refine rx_idiv dX12_lowest_15 hgz ?_
    refine rx_i2l dX12_lowest_16 ?_
    refine rx_goto 25 dX12_lowest_17 (by decide) ?_
    exact rx_lret dX12_lowest_25 rfl ⟨Nat.le_refl _, Nat.le_refl _⟩ ⟨rfl, _, rfl, ⟨by unfold aPF; rw [if_pos h9, pf_gcd a b hb1, pk_div (by omega) hg0 (by omega)], rfl, rfl⟩⟩
set_option maxRecDepth 20000 in
set_option maxHeartbeats 1000000 in
theorem mc_odds (g : GG) (σ : SIG) (n part : Int32) (S : SS) (L : LL) (hr : MRel S L σ) : Cl g 7 mX12_odds [.ref 0, .int n, .int part] SHM S L (fun x S' L' => x = aOdds σ n part ∧ MRel S' L' σ) := by
  refine ct_of (ls := [some (.ref 0), some (.int n), some (.int part), none, none, none]) 3 (by decide +kernel) rfl rfl ?_
  refine rx_aload_n dX12_odds_0 rfl ?_
  refine rx_iload_n dX12_odds_1 rfl ?_
  refine rx_iconst (1) dX12_odds_2 (by decide) ?_
  refine rx_bipush (20) dX12_odds_3 (by decide) ?_
  refine rx_cVi_3 clX12_236 dX12_odds_5 (rcvo (sM_0) rfl) rfl (m_in g 0 _ _ _ S L) ?_
  refine pur3 ?_
  refine rx_if_eq 21 dX12_odds_8 (by decide) (fun h8 => ?_) (fun h8 => ?_)
  · refine rx_ldc2 (-9223372036854775808) dX12_odds_21 w_1399 ?_
    exact rx_lret dX12_odds_24 rfl ⟨Nat.le_refl _, Nat.le_refl _⟩ ⟨rfl, _, rfl, ⟨(if_pos (by first | exact Or.inl (b2i_eq h8) | exact Or.inr (b2i_eq h18))).symm, hr⟩⟩
  · refine rx_aload_n dX12_odds_11 rfl ?_
    refine rx_iload_n dX12_odds_12 rfl ?_
    refine rx_iconst (0) dX12_odds_13 (by decide) ?_
    refine rx_iconst (1) dX12_odds_14 (by decide) ?_
    refine rx_cVi_3 clX12_236 dX12_odds_15 (rcvo (sM_0) rfl) rfl (m_in g 0 _ _ _ S L) ?_
    refine pur3 ?_
    refine rx_if_ne 25 dX12_odds_18 (by decide) (fun h18 => ?_) (fun h18 => ?_)
    · have hp := b2i_ne h18
      have hnr := b2i_ne h8
      obtain ⟨m, hm, rfl⟩ := rngI 20 (by omega) (Int32.le_trans (by decide) hnr.1) hnr.2
      have hmc : (nI m).toNatClampNeg = m := nI_clamp (by omega)
      refine rx_aload_n dX12_odds_25 rfl ?_
      refine rx_getI dX12_odds_26 flX12_13 (sM_0) rfl ?_
      rw [hr.sc.t]
      refine rx_istore_3 rfl dX12_odds_29 ?_
      refine rx_iconst (0) dX12_odds_30 (by decide) ?_
      refine rx_istore_4 rfl dX12_odds_31 ?_
      refine rx_iconst (0) dX12_odds_33 (by decide) ?_
      refine rx_istore_5 rfl dX12_odds_34 ?_
      have loop : ∀ (r k : Nat) (S1 : SS), k + r = 4 → ((∃ t, MSc S1 (gE σ) (dA (gD σ), dW (gD σ), t, dS (gD σ))) ∧ (S1 0 27 = -1 ∧ S1 0 29 = 9999 ∧ S1 0 30 = -1) ∧ Fr JB KB S S1) → Rx g 7 0 0 mX12_odds SHM.length (fun r sh' S' L' => sh' = SHM ∧ ∃ x, r = some (.long x) ∧ (x = aOdds σ (nI m) part ∧ MRel S' L' σ)) 0 0 36 [some (.ref 0), some (.int (nI m)), some (.int part), some (.int (nI (dT (gD σ)))), some (.int (nI (odC σ m k))), some (.int (nI k))] [] SHM S1 L := by
        intro r
        induction r with
        | zero =>
          intro k S1 hk hI
          obtain ⟨⟨t, h1⟩, h2, h3⟩ := hI
          have hk4 : k = 4 := by omega
          subst hk4
          refine rx_iload dX12_odds_36 rfl ?_
          refine rx_iconst (4) dX12_odds_38 (by decide) ?_
          refine rx_icmp_ge 78 dX12_odds_39 (by decide) (fun h39 => ?_) (fun h39 => absurd (nI_le (a := 4) (b := 4) (by omega) (by omega)) h39)
          refine rx_aload_n dX12_odds_78 rfl ?_
          refine rx_iload_n dX12_odds_79 rfl ?_
          refine rx_putI dX12_odds_80 flX12_13 (sM_0) rfl ?_
          refine rx_aload_n dX12_odds_83 rfl ?_
          refine rx_iload dX12_odds_84 rfl ?_
          refine rx_iconst (4) dX12_odds_86 (by decide) ?_
          refine rx_iload_n dX12_odds_87 rfl ?_
          refine rx_cVl_3 clX12_383 dX12_odds_88 (rcvo (sM_0) rfl) rfl (m_lowest g (odC σ m 4) 4 part _ L (by have := odC_le σ m 4; omega) (by omega) (by omega)) ?_
          refine pur3 ?_
          exact rx_lret dX12_odds_91 rfl ⟨Nat.le_refl _, Nat.le_refl _⟩ ⟨rfl, _, rfl, ⟨by unfold aOdds; rw [if_neg (by rintro (q | q); exact q hnr; exact q hp), hmc], hr.back (h1.turn (dT (gD σ)) (by have := hr.t; omega)) (by rw [upS_row]; exact h2) (h3.up0 (by decide))⟩⟩
        | succ r ih =>
          intro k S1 hk hI
          obtain ⟨⟨t, h1⟩, h2, h3⟩ := hI
          refine rx_iload dX12_odds_36 rfl ?_
          refine rx_iconst (4) dX12_odds_38 (by decide) ?_
          refine rx_icmp_ge 78 dX12_odds_39 (by decide) (fun h39 => absurd h39 (nI_ge (a := k) (b := 4) (by omega) (by omega))) (fun h39 => ?_)
          refine rx_aload_n dX12_odds_42 rfl ?_
          refine rx_iload_n dX12_odds_43 rfl ?_
          refine rx_iload dX12_odds_44 rfl ?_
          refine rx_iadd dX12_odds_46 ?_
          rw [nI_add]
          refine rx_putI dX12_odds_47 flX12_13 (sM_0) rfl ?_
          refine rx_aload_n dX12_odds_50 rfl ?_
          refine rx_iload_n dX12_odds_51 rfl ?_
          refine rx_cVv_1 clX12_353 dX12_odds_52 (rcvo (sM_0) rfl) rfl (m_lay g (gE σ) (shT (gD σ) k) (seesE σ) m _ L hr.en (hr.dok.shT k) (by show dT (gD σ) + k + m < 19999; have := hr.t; omega) (h1.turn (dT (gD σ) + k) (by have := hr.t; omega)) (Or.inl ⟨by rw [upS_row]; exact h2.1, rfl⟩) (by rw [upS_row]; exact h2.2.2)) ?_
          rintro S2 L2 ⟨⟨q1, q2, q3, q4⟩, hL2⟩
          rw [hL2]
          refine rx_iload dX12_odds_55 rfl ?_
          refine rx_aload_n dX12_odds_57 rfl ?_
          refine rx_getI dX12_odds_58 flX12_129 (sM_0) rfl ?_
          rw [show S2 0 39 = odT σ m k from q4]
          refine rx_if_ne 68 dX12_odds_61 (by decide) (fun h61 => ?_) (fun h61 => ?_)
          · refine rx_iconst (0) dX12_odds_68 (by decide) ?_
            refine rx_iadd dX12_odds_69 ?_
            refine rx_istore_4 rfl dX12_odds_70 ?_
            refine rx_iinc_5 (1) rfl dX12_odds_72 (by decide) ?_
            refine rx_goto 36 dX12_odds_75 (by decide) ?_
            rw [nI_1, Int32.add_zero, show odC σ m k = odC σ m (k + 1) from (if_neg h61).symm]
            exact ih (k + 1) S2 (by omega) ⟨⟨_, q1.1⟩, ⟨by rw [q1.2.1.2 27 (by decide), upS_row]; exact h2.1, q1.2.2.1, q1.2.2.2⟩, (h3.up0 (by decide)).trans q1.2.1.big⟩
          · refine rx_iconst (1) dX12_odds_64 (by decide) ?_
            refine rx_goto 69 dX12_odds_65 (by decide) ?_
            refine rx_iadd dX12_odds_69 ?_
            refine rx_istore_4 rfl dX12_odds_70 ?_
            refine rx_iinc_5 (1) rfl dX12_odds_72 (by decide) ?_
            refine rx_goto 36 dX12_odds_75 (by decide) ?_
            rw [nI_1, nI_1, show odC σ m k + 1 = odC σ m (k + 1) from (if_pos h61).symm]
            exact ih (k + 1) S2 (by omega) ⟨⟨_, q1.1⟩, ⟨by rw [q1.2.1.2 27 (by decide), upS_row]; exact h2.1, q1.2.2.1, q1.2.2.2⟩, (h3.up0 (by decide)).trans q1.2.1.big⟩
      exact loop 4 0 S (by omega) ⟨⟨dT (gD σ), hr.sc⟩, ⟨hr.sm, hr.ms, hr.id⟩, Fr.refl⟩
    · refine rx_ldc2 (-9223372036854775808) dX12_odds_21 w_1399 ?_
      exact rx_lret dX12_odds_24 rfl ⟨Nat.le_refl _, Nat.le_refl _⟩ ⟨rfl, _, rfl, ⟨(if_pos (by first | exact Or.inl (b2i_eq h8) | exact Or.inr (b2i_eq h18))).symm, hr⟩⟩
set_option maxRecDepth 20000 in
set_option maxHeartbeats 1000000 in
theorem mc_mean (g : GG) (σ : SIG) (n part : Int32) (S : SS) (L : LL) (hr : MRel S L σ) : Cl g 7 mX12_mean [.ref 0, .int n, .int part] SHM S L (fun x S' L' => x = aMean σ n part ∧ MRel S' L' σ) := by
  refine ct_of (ls := [some (.ref 0), some (.int n), some (.int part), none, none]) 2 (by decide +kernel) rfl rfl ?_
  refine rx_aload_n dX12_mean_0 rfl ?_
  refine rx_iload_n dX12_mean_1 rfl ?_
  refine rx_iconst (0) dX12_mean_2 (by decide) ?_
  refine rx_bipush (40) dX12_mean_3 (by decide) ?_
  refine rx_cVi_3 clX12_236 dX12_mean_5 (rcvo (sM_0) rfl) rfl (m_in g 0 _ _ _ S L) ?_
  refine pur3 ?_
  refine rx_if_eq 28 dX12_mean_8 (by decide) (fun h8 => ?_) (fun h8 => ?_)
  · refine rx_ldc2 (-9223372036854775808) dX12_mean_28 w_1399 ?_
    exact rx_lret dX12_mean_31 rfl ⟨Nat.le_refl _, Nat.le_refl _⟩ ⟨rfl, _, rfl, ⟨(if_pos (by first | exact Or.inl (b2i_eq h8) | exact Or.inr (Or.inl (b2i_eq h18)) | exact Or.inr (Or.inr ((nI_eq (b := 0) (by have := hr.n7; omega) (by omega)).mp h25)))).symm, hr⟩⟩
  · refine rx_aload_n dX12_mean_11 rfl ?_
    refine rx_iload_n dX12_mean_12 rfl ?_
    refine rx_iconst (0) dX12_mean_13 (by decide) ?_
    refine rx_iconst (1) dX12_mean_14 (by decide) ?_
    refine rx_cVi_3 clX12_236 dX12_mean_15 (rcvo (sM_0) rfl) rfl (m_in g 0 _ _ _ S L) ?_
    refine pur3 ?_
    refine rx_if_eq 28 dX12_mean_18 (by decide) (fun h18 => ?_) (fun h18 => ?_)
    · refine rx_ldc2 (-9223372036854775808) dX12_mean_28 w_1399 ?_
      exact rx_lret dX12_mean_31 rfl ⟨Nat.le_refl _, Nat.le_refl _⟩ ⟨rfl, _, rfl, ⟨(if_pos (by first | exact Or.inl (b2i_eq h8) | exact Or.inr (Or.inl (b2i_eq h18)) | exact Or.inr (Or.inr ((nI_eq (b := 0) (by have := hr.n7; omega) (by omega)).mp h25)))).symm, hr⟩⟩
    · refine rx_aload_n dX12_mean_21 rfl ?_
      refine rx_getI dX12_mean_22 flX12_7 (sM_0) rfl ?_
      rw [hr.sz]
      refine rx_if_ne 32 dX12_mean_25 (by decide) (fun h25 => ?_) (fun h25 => ?_)
      · have hp := b2i_ne h18
        have hn0 : ¬ nN σ = 0 := fun q => h25 (by rw [q]; rfl)
        have hnr := b2i_ne h8
        obtain ⟨m, hm, rfl⟩ := rngI 40 (by omega) (hnr.1) hnr.2
        have hmc : (nI m).toNatClampNeg = m := nI_clamp (by omega)
        refine rx_aload_n dX12_mean_32 rfl ?_
        refine rx_iload_n dX12_mean_33 rfl ?_
        refine rx_cVv_1 clX12_353 dX12_mean_34 (rcvo (sM_0) rfl) rfl (m_lay g (gE σ) (gD σ) (seesE σ) m S L hr.en hr.dok (by have := hr.t; omega) hr.sc hr.se hr.id) ?_
        rintro S2 L2 ⟨⟨q1, q2, q3, q4⟩, hL2⟩
        rw [hL2]
        have hr2 := hr.rs q1
        refine rx_iconst (0) dX12_mean_37 (by decide) ?_
        refine rx_istore_3 rfl dX12_mean_38 ?_
        refine rx_iconst (0) dX12_mean_39 (by decide) ?_
        refine rx_istore_4 rfl dX12_mean_40 ?_
        have hmc2 : itQ σ (nI m) = itD (gE σ) (seesE σ) (-1) m (gD σ) := by unfold itQ; rw [hmc]
        have hn7 := hr.n7
        have hdk : ∀ c, c < nN σ → ∃ x, x ≤ 99 ∧ dA (itQ σ (nI m)) c = nI x := by rw [hmc2]; exact (DOK_it hr.en (seesE σ) (-1) hr.dok m).2.1
        have loop : ∀ (r c : Nat) (S1 : SS), c + r = nN σ → (S1 = S2) → Rx g 7 0 0 mX12_mean SHM.length (fun r sh' S' L' => sh' = SHM ∧ ∃ x, r = some (.long x) ∧ (x = aMean σ (nI m) part ∧ MRel S' L' σ)) 0 0 42 [some (.ref 0), some (.int (nI m)), some (.int part), some (.int (nI (sumP (dA (itQ σ (nI m))) c))), some (.int (nI c))] [] SHM S1 L := by
          intro r
          induction r with
          | zero =>
            intro c S1 hc hI
            have hcn : c = nN σ := by omega
            have hsz : S1 0 0 = nI (nN σ) := by rw [hI]; exact hr2.sz
            rw [hcn]
            refine rx_iload dX12_mean_42 rfl ?_
            refine rx_aload_n dX12_mean_44 rfl ?_
            refine rx_getI dX12_mean_45 flX12_7 (sM_0) rfl ?_
            refine rx_icmp_ge 67 dX12_mean_48 (by decide) (fun h48 => ?_) (fun h48 => absurd (by rw [hsz]; exact nI_le (by omega) (by omega)) h48)
            refine rx_aload_n dX12_mean_67 rfl ?_
            refine rx_iload_n dX12_mean_68 rfl ?_
            refine rx_aload_n dX12_mean_69 rfl ?_
            refine rx_getI dX12_mean_70 flX12_7 (sM_0) rfl ?_
            rw [hsz]
            refine rx_iload_n dX12_mean_73 rfl ?_
            refine rx_cVl_3 clX12_383 dX12_mean_74 (rcvo (sM_0) rfl) rfl (m_lowest g (sumP (dA (itQ σ (nI m))) (nN σ)) (nN σ) part S1 L (by have := sumP_le hdk (nN σ) (Nat.le_refl _); omega) (by omega) (by omega)) ?_
            refine pur3 ?_
            exact rx_lret dX12_mean_77 rfl ⟨Nat.le_refl _, Nat.le_refl _⟩ ⟨rfl, _, rfl, ⟨by unfold aMean; rw [if_neg (by rintro (q | q | q); exact q hnr; exact q hp; exact hn0 q)], by rw [hI]; exact hr2⟩⟩
          | succ r ih =>
            intro c S1 hc hI
            have hc7 : c < 7 := by omega
            have hci : (nI c).toNatClampNeg = c := nI_clamp (by omega)
            have hvc : vp_in (nI c) 7 := vp_in_nI hc7 (by omega)
            have hsz : S1 0 0 = nI (nN σ) := by rw [hI]; exact hr2.sz
            obtain ⟨x, hx99, hxe⟩ := hdk c (by omega)
            refine rx_iload dX12_mean_42 rfl ?_
            refine rx_aload_n dX12_mean_44 rfl ?_
            refine rx_getI dX12_mean_45 flX12_7 (sM_0) rfl ?_
            refine rx_icmp_ge 67 dX12_mean_48 (by decide) (fun h48 => absurd h48 (by rw [hsz]; exact nI_ge (by omega) (by omega))) (fun h48 => ?_)
            refine rx_iload_n dX12_mean_51 rfl ?_
            refine rx_aload_n dX12_mean_52 rfl ?_
            refine rx_getR dX12_mean_53 flX12_123 (sM_0) rfl ?_
            refine rx_iload dX12_mean_56 rfl ?_
            refine rx_iaload dX12_mean_58 (sM_22) hvc ?_
            rw [hci, show S1 22 c = dA (itQ σ (nI m)) c from by rw [hI, hmc2]; exact q2 c hc7, hxe]
            refine rx_iadd dX12_mean_59 ?_
            refine rx_istore_3 rfl dX12_mean_60 ?_
            refine rx_iinc_4 (1) rfl dX12_mean_61 (by decide) ?_
            refine rx_goto 42 dX12_mean_64 (by decide) ?_
            rw [nI_add, nI_1, show sumP (dA (itQ σ (nI m))) c + x = sumP (dA (itQ σ (nI m))) (c + 1) from by show _ = _ + (dA (itQ σ (nI m)) c).toNatClampNeg; rw [hxe, nI_clamp (by omega)]]
            exact ih (c + 1) S1 (by omega) hI
        exact loop (nN σ) 0 S2 (by omega) rfl
      · refine rx_ldc2 (-9223372036854775808) dX12_mean_28 w_1399 ?_
        exact rx_lret dX12_mean_31 rfl ⟨Nat.le_refl _, Nat.le_refl _⟩ ⟨rfl, _, rfl, ⟨(if_pos (by first | exact Or.inl (b2i_eq h8) | exact Or.inr (Or.inl (b2i_eq h18)) | exact Or.inr (Or.inr ((nI_eq (b := 0) (by have := hr.n7; omega) (by omega)).mp h25)))).symm, hr⟩⟩
