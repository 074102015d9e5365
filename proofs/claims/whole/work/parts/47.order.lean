theorem t0 : (0 : Int32).toNatClampNeg = 0 := by decide +kernel
theorem t1 : (1 : Int32).toNatClampNeg = 1 := by decide +kernel
theorem t2 : (2 : Int32).toNatClampNeg = 2 := by decide +kernel
theorem t3 : (3 : Int32).toNatClampNeg = 3 := by decide +kernel
theorem o6 : ∀ k, k < 256 → (nI k) >>> ((6 : Int32) &&& 31) = nI (plN k 0) := by decide +kernel
theorem o4 : ∀ k, k < 256 → ((nI k) >>> ((4 : Int32) &&& 31)) &&& 3 = nI (plN k 1) := by decide +kernel
theorem o2 : ∀ k, k < 256 → ((nI k) >>> ((2 : Int32) &&& 31)) &&& 3 = nI (plN k 2) := by decide +kernel
theorem o0 : ∀ k, k < 256 → (nI k) &&& 3 = nI (plN k 3) := by decide +kernel
theorem nep_eq (k : Nat) : nepE k = (((1 : Int32) <<< (nI (plN k 0) &&& 31)) ||| ((1 : Int32) <<< (nI (plN k 1) &&& 31))) ||| ((1 : Int32) <<< (nI (plN k 2) &&& 31)) ||| ((1 : Int32) <<< (nI (plN k 3) &&& 31)) := by
  unfold nepE
  rw [Int32.zero_or]
def lsR (p : Nat × Int32) : Int32 := if p.2 = 8 then 99 else p.2
theorem orT_rng (σ : SIG) (hE : EnOK (gE σ)) (hD : DOK (eN (gE σ)) (gD σ)) (m k : Nat) : ∃ j, j < 8 ∧ orT σ m k = nI j := popc_rng (DOK_it (en_orF hE k) (seesE σ) (-1) hD m) hE.1
theorem orC_v (σ : SIG) (hE : EnOK (gE σ)) (hD : DOK (eN (gE σ)) (gD σ)) (m : Nat) : ∀ k, (orC σ m k).2 = 8 ∨ ∃ j, j < 8 ∧ (orC σ m k).2 = nI j
  | 0 => Or.inl rfl
  | k + 1 => by
    show (orStep σ m k (orC σ m k)).2 = 8 ∨ ∃ j, j < 8 ∧ (orStep σ m k (orC σ m k)).2 = nI j
    unfold orStep
    by_cases h : nepE k = 15 ∧ orT σ m k < (orC σ m k).2
    · rw [if_pos h]; exact Or.inr (orT_rng σ hE hD m k)
    · rw [if_neg h]; exact orC_v σ hE hD m k
theorem n8 {j : Nat} (h : j < 8) : ¬ nI j = 8 := fun e => by
  have := (nI_eq (b := 8) (by omega) (by omega)).mp e
  omega
theorem orC_8 (σ : SIG) (hE : EnOK (gE σ)) (hD : DOK (eN (gE σ)) (gD σ)) (m : Nat) : ∀ r, ¬ (orC σ m (28 + r)).2 = 8
  | 0 => by
    show ¬ (orStep σ m 27 (orC σ m 27)).2 = 8
    obtain ⟨j, hj, e⟩ := orT_rng σ hE hD m 27
    unfold orStep
    by_cases h : nepE 27 = 15 ∧ orT σ m 27 < (orC σ m 27).2
    · rw [if_pos h]
      show ¬ orT σ m 27 = 8
      rw [e]; exact n8 hj
    · rw [if_neg h]
      intro q
      refine h ⟨by decide +kernel, ?_⟩
      rw [q, e]
      exact nI_lt (b := 8) hj (by omega)
  | r + 1 => by
    show ¬ (orStep σ m (28 + r) (orC σ m (28 + r))).2 = 8
    obtain ⟨j, hj, e⟩ := orT_rng σ hE hD m (28 + r)
    unfold orStep
    by_cases h : nepE (28 + r) = 15 ∧ orT σ m (28 + r) < (orC σ m (28 + r)).2
    · rw [if_pos h]
      show ¬ orT σ m (28 + r) = 8
      rw [e]; exact n8 hj
    · rw [if_neg h]
      exact orC_8 σ hE hD m r
theorem ls_lt (σ : SIG) (hE : EnOK (gE σ)) (hD : DOK (eN (gE σ)) (gD σ)) (m k : Nat) : orT σ m k < lsR (orC σ m k) ↔ orT σ m k < (orC σ m k).2 := by
  unfold lsR
  obtain ⟨j, hj, e⟩ := orT_rng σ hE hD m k
  by_cases h : (orC σ m k).2 = 8
  · rw [if_pos h, h, e]
    exact ⟨fun _ => nI_lt (b := 8) hj (by omega), fun _ => nI_lt (b := 99) (by omega) (by omega)⟩
  · rw [if_neg h]
theorem gcd_pf (a b : Nat) (hb : 0 < b) : ∀ k, Nat.gcd a b ≤ k → pfB a b k = Nat.gcd a b
  | 0, h => absurd (Nat.gcd_pos_of_pos_right a hb) (by omega)
  | k + 1, h => by
    show (if _ then _ else _) = _
    by_cases q : a % (k + 1) = 0 ∧ b % (k + 1) = 0
    · rw [if_pos q]
      have h1 : k + 1 ∣ Nat.gcd a b := Nat.dvd_gcd (Nat.dvd_of_mod_eq_zero q.1) (Nat.dvd_of_mod_eq_zero q.2)
      have := Nat.le_of_dvd (Nat.gcd_pos_of_pos_right a hb) h1
      omega
    · rw [if_neg q]
      refine gcd_pf a b hb k ?_
      rcases Nat.lt_or_ge k (Nat.gcd a b) with p | p
      · have e : Nat.gcd a b = k + 1 := by omega
        exact absurd ⟨Nat.mod_eq_zero_of_dvd (e ▸ Nat.gcd_dvd_left a b), Nat.mod_eq_zero_of_dvd (e ▸ Nat.gcd_dvd_right a b)⟩ q
      · exact p
theorem pf_gcd (a b : Nat) (hb : 0 < b) : pfB a b b = Nat.gcd a b := gcd_pf a b hb b (Nat.le_of_dvd hb (Nat.gcd_dvd_right a b))

set_option maxRecDepth 20000 in
set_option maxHeartbeats 1000000 in
theorem mc_order (g : GG) (σ : SIG) (n kk : Int32) (S : SS) (L : LL) (hr : MRel S L σ) : Ci g 8 mX12_order [.ref 0, .int n, .int kk] SHM S L (fun r S' L' => r = aOrder σ n kk ∧ MRel S' L' σ) := by
  refine ct_of (ls := [some (.ref 0), some (.int n), some (.int kk), none, none, none, none, none, none, none, none]) 8 (by decide +kernel) rfl rfl ?_
  refine rx_aload_n dX12_order_0 rfl ?_
  refine rx_iload_n dX12_order_1 rfl ?_
  refine rx_iconst (-1) dX12_order_2 (by decide) ?_
  refine rx_iconst (3) dX12_order_3 (by decide) ?_
  refine rx_cVi_3 clX12_236 dX12_order_4 (rcvo (sM_0) rfl) rfl (m_in g 0 _ _ _ S L) ?_
  refine pur3 ?_
  refine rx_if_ne 12 dX12_order_7 (by decide) (fun h7 => ?_) (fun h7 => ?_)
  · refine rx_aload_n dX12_order_12 rfl ?_
    refine rx_iload_n dX12_order_13 rfl ?_
    refine rx_iconst (1) dX12_order_14 (by decide) ?_
    refine rx_bipush (20) dX12_order_15 (by decide) ?_
    refine rx_cVi_3 clX12_236 dX12_order_17 (rcvo (sM_0) rfl) rfl (m_in g 0 _ _ _ S L) ?_
    refine pur3 ?_
    refine rx_if_ne 26 dX12_order_20 (by decide) (fun h20 => ?_) (fun h20 => ?_)
    · have hkk := b2i_ne h7
      have hnr := b2i_ne h20
      obtain ⟨m, hm, rfl⟩ := rngI 20 (by omega) (Int32.le_trans (by decide) hnr.1) hnr.2
      have hmc : (nI m).toNatClampNeg = m := nI_clamp (by omega)
      refine rx_aload_n dX12_order_26 rfl ?_
      refine rx_cVv_0 clX12_362 dX12_order_27 (rcvo (sM_0) rfl) rfl (m_keepCounts g S L) ?_
      rintro S1 L1 ⟨⟨p1, p2⟩, hL1⟩
      rw [hL1]
      have hk1 : MSc S1 (setCn (gE σ) (eC (gE σ))) (gD σ) := hr.sc.cn (eC (gE σ)) (fun j h _ => p2 j (by omega)) (fun c hc => by rw [p2 7 (by decide)]; exact hr.sc.2.2.2.2.2.1 c hc)
      have hk2 : Fr JB KB S S1 := ⟨fun j _ b => p2 j (fun e => b (by rw [e]; decide)), fun k _ => by rw [p2 0 (by decide)]⟩
      have hk3 : S1 0 27 = -1 ∧ S1 0 29 = 9999 ∧ S1 0 30 = -1 := by rw [p2 0 (by decide)]; exact ⟨hr.sm, hr.ms, hr.id⟩
      have hk4 : ∀ c, c < 4 → S1 23 c = eC (gE σ) c := fun c hc => (p1 c hc).trans (hr.sc.2.2.2.2.2.1 c hc)
      refine rx_bipush (99) dX12_order_30 (by decide) ?_
      refine rx_istore_3 rfl dX12_order_32 ?_
      refine rx_iconst (0) dX12_order_33 (by decide) ?_
      refine rx_istore_4 rfl dX12_order_34 ?_
      have loop : ∀ (r k : Nat) (S1 : SS), k + r = 256 → ((∃ f, MSc S1 (setCn (gE σ) f) (gD σ)) ∧ (S1 0 27 = -1 ∧ S1 0 29 = 9999 ∧ S1 0 30 = -1) ∧ Fr JB KB S S1 ∧ (∀ c, c < 4 → S1 23 c = eC (gE σ) c) ∧ (¬ (orC σ m k).2 = 8 → ∀ c, c < 4 → S1 24 c = eC (gE σ) (plN (orC σ m k).1 c))) → Rx g 8 0 0 mX12_order SHM.length (fun r sh' S' L' => sh' = SHM ∧ ∃ x, r = some (.int x) ∧ (x = aOrder σ (nI m) kk ∧ MRel S' L' σ)) 0 0 36 [some (.ref 0), some (.int (nI m)), some (.int kk), some (.int (lsR (orC σ m k))), some (.int (nI k)), none, none, none, none, none, none] [] SHM S1 L := by
        intro r
        induction r with
        | zero =>
          intro k S1 hk hI
          obtain ⟨⟨f, h1⟩, h2, h3, h4, h5⟩ := hI
          have hkn : k = 256 := by omega
          subst hkn
          refine rx_iload dX12_order_36 rfl ?_
          refine rx_sipush (256) dX12_order_38 (by decide) ?_
          refine rx_icmp_ge 206 dX12_order_41 (by decide) (fun h41 => ?_) (fun h41 => absurd (nI_le (a := 256) (b := 256) (by omega) (by omega)) h41)
          refine rx_aload_n dX12_order_206 rfl ?_
          refine rx_cVv_0 clX12_368 dX12_order_207 (rcvo (sM_0) rfl) rfl (m_putCounts g S1 L) ?_
          rintro S4 L4 ⟨⟨p1, p2⟩, hL4⟩
          rw [hL4]
          have hfin : MSc S4 (gE σ) (gD σ) := h1.cn (eC (gE σ)) (fun j _ h => p2 j h) (fun c hc => (p1 c hc).trans (h4 c hc))
          have hr4 : MRel S4 L σ := hr.back hfin (by rw [p2 0 (by decide)]; exact h2) (h3.trans ⟨fun j _ b => p2 j (fun e => b (by rw [e]; decide)), fun k _ => by rw [p2 0 (by decide)]⟩)
          have h8 : ¬ (orC σ m 256).2 = 8 := orC_8 σ hr.en hr.dok m 228
          have hls : lsR (orC σ m 256) = (orC σ m 256).2 := if_neg h8
          refine rx_iload_n dX12_order_210 rfl ?_
          refine rx_if_ge 218 dX12_order_211 (by decide) (fun h211 => ?_) (fun h211 => ?_)
          · obtain ⟨j, hj, rfl⟩ := rngI 3 (by omega) h211 hkk.2
            have hjc : (nI j).toNatClampNeg = j := nI_clamp (by omega)
            refine rx_aload_n dX12_order_218 rfl ?_
            refine rx_getR dX12_order_219 flX12_135 (sM_0) rfl ?_
            refine rx_iload_n dX12_order_222 rfl ?_
            refine rx_iaload dX12_order_223 (sM_24) (vp_in_nI (by omega) (by omega)) ?_
            rw [hjc]
            exact rx_iret dX12_order_224 rfl ⟨Nat.le_refl _, Nat.le_refl _⟩ ⟨rfl, _, rfl, ⟨by unfold aOrder; rw [if_neg (fun q => q hkk), if_neg (fun q => q hnr), if_pos h211, hmc, hjc, p2 24 (by decide)]; exact h5 h8 j (by omega), hr4⟩⟩
          · refine rx_iload_n dX12_order_214 rfl ?_
            refine rx_goto 224 dX12_order_215 (by decide) ?_
            exact rx_iret dX12_order_224 rfl ⟨Nat.le_refl _, Nat.le_refl _⟩ ⟨rfl, _, rfl, ⟨by unfold aOrder; rw [if_neg (fun q => q hkk), if_neg (fun q => q hnr), if_neg h211, hmc, hls], hr4⟩⟩
        | succ r ih =>
          intro k S1 hk hI
          obtain ⟨⟨f, h1⟩, h2, h3, h4, h5⟩ := hI
          have hk2 : k < 256 := by omega
          refine rx_iload dX12_order_36 rfl ?_
          refine rx_sipush (256) dX12_order_38 (by decide) ?_
          refine rx_icmp_ge 206 dX12_order_41 (by decide) (fun h41 => absurd h41 (nI_ge (a := k) (b := 256) (by omega) (by omega))) (fun h41 => ?_)
          refine rx_iload dX12_order_44 rfl ?_
          refine rx_bipush (6) dX12_order_46 (by decide) ?_
          refine rx_ishr dX12_order_48 ?_
          rw [o6 k hk2]
          refine rx_istore_5 rfl dX12_order_49 ?_
          refine rx_iload dX12_order_51 rfl ?_
          refine rx_iconst (4) dX12_order_53 (by decide) ?_
          refine rx_ishr dX12_order_54 ?_
          refine rx_iconst (3) dX12_order_55 (by decide) ?_
          refine rx_iand dX12_order_56 ?_
          rw [o4 k hk2]
          refine rx_istore_6 rfl dX12_order_57 ?_
          refine rx_iload dX12_order_59 rfl ?_
          refine rx_iconst (2) dX12_order_61 (by decide) ?_
          refine rx_ishr dX12_order_62 ?_
          refine rx_iconst (3) dX12_order_63 (by decide) ?_
          refine rx_iand dX12_order_64 ?_
          rw [o2 k hk2]
          refine rx_istore_7 rfl dX12_order_65 ?_
          refine rx_iload dX12_order_67 rfl ?_
          refine rx_iconst (3) dX12_order_69 (by decide) ?_
          refine rx_iand dX12_order_70 ?_
          rw [o0 k hk2]
          refine rx_istore_8 rfl dX12_order_71 ?_
          refine rx_iconst (1) dX12_order_73 (by decide) ?_
          refine rx_iload dX12_order_74 rfl ?_
          refine rx_ishl dX12_order_76 ?_
          refine rx_iconst (1) dX12_order_77 (by decide) ?_
          refine rx_iload dX12_order_78 rfl ?_
          refine rx_ishl dX12_order_80 ?_
          refine rx_ior dX12_order_81 ?_
          refine rx_iconst (1) dX12_order_82 (by decide) ?_
          refine rx_iload dX12_order_83 rfl ?_
          refine rx_ishl dX12_order_85 ?_
          refine rx_ior dX12_order_86 ?_
          refine rx_iconst (1) dX12_order_87 (by decide) ?_
          refine rx_iload dX12_order_88 rfl ?_
          refine rx_ishl dX12_order_90 ?_
          refine rx_ior dX12_order_91 ?_
          rw [← nep_eq k]
          refine rx_bipush (15) dX12_order_92 (by decide) ?_
          refine rx_icmp_eq 100 dX12_order_94 (by decide) (fun h94 => ?_) (fun h94 => ?_)
          · refine rx_aload_n dX12_order_100 rfl ?_
            refine rx_getR dX12_order_101 flX12_38 (sM_0) rfl ?_
            refine rx_iconst (0) dX12_order_104 (by decide) ?_
            refine rx_aload_n dX12_order_105 rfl ?_
            refine rx_getR dX12_order_106 flX12_132 (sM_0) rfl ?_
            refine rx_iload dX12_order_109 rfl ?_
            refine rx_iaload dX12_order_111 (sM_23) (vp_in_nI (plN_lt k 0) (by decide)) ?_
            rw [nI_clamp (Nat.lt_of_lt_of_le (plN_lt k 0) (by decide))]
            rw [h4 (plN k 0) (plN_lt k 0)]
            refine rx_iastore dX12_order_112 (sM_7) (vp_in_nI (n := 0) (by decide) (by decide)) ?_
            refine rx_aload_n dX12_order_113 rfl ?_
            refine rx_getR dX12_order_114 flX12_38 (sM_0) rfl ?_
            refine rx_iconst (1) dX12_order_117 (by decide) ?_
            refine rx_aload_n dX12_order_118 rfl ?_
            refine rx_getR dX12_order_119 flX12_132 (sM_0) rfl ?_
            refine rx_iload dX12_order_122 rfl ?_
            refine rx_iaload dX12_order_124 (sM_23) (vp_in_nI (plN_lt k 1) (by decide)) ?_
            rw [nI_clamp (Nat.lt_of_lt_of_le (plN_lt k 1) (by decide))]
            simp (disch := omega) only [upS_off]
            rw [h4 (plN k 1) (plN_lt k 1)]
            refine rx_iastore dX12_order_125 (sM_7) (vp_in_nI (n := 1) (by decide) (by decide)) ?_
            refine rx_aload_n dX12_order_126 rfl ?_
            refine rx_getR dX12_order_127 flX12_38 (sM_0) rfl ?_
            refine rx_iconst (2) dX12_order_130 (by decide) ?_
            refine rx_aload_n dX12_order_131 rfl ?_
            refine rx_getR dX12_order_132 flX12_132 (sM_0) rfl ?_
            refine rx_iload dX12_order_135 rfl ?_
            refine rx_iaload dX12_order_137 (sM_23) (vp_in_nI (plN_lt k 2) (by decide)) ?_
            rw [nI_clamp (Nat.lt_of_lt_of_le (plN_lt k 2) (by decide))]
            simp (disch := omega) only [upS_off]
            rw [h4 (plN k 2) (plN_lt k 2)]
            refine rx_iastore dX12_order_138 (sM_7) (vp_in_nI (n := 2) (by decide) (by decide)) ?_
            refine rx_aload_n dX12_order_139 rfl ?_
            refine rx_getR dX12_order_140 flX12_38 (sM_0) rfl ?_
            refine rx_iconst (3) dX12_order_143 (by decide) ?_
            refine rx_aload_n dX12_order_144 rfl ?_
            refine rx_getR dX12_order_145 flX12_132 (sM_0) rfl ?_
            refine rx_iload dX12_order_148 rfl ?_
            refine rx_iaload dX12_order_150 (sM_23) (vp_in_nI (plN_lt k 3) (by decide)) ?_
            rw [nI_clamp (Nat.lt_of_lt_of_le (plN_lt k 3) (by decide))]
            simp (disch := omega) only [upS_off]
            rw [h4 (plN k 3) (plN_lt k 3)]
            refine rx_iastore dX12_order_151 (sM_7) (vp_in_nI (n := 3) (by decide) (by decide)) ?_
            have hS4 : ∀ j, j ≠ 7 → (upS (upS (upS (upS S1 7 (0 : Int32).toNatClampNeg (eC (gE σ) (plN k 0))) 7 (1 : Int32).toNatClampNeg (eC (gE σ) (plN k 1))) 7 (2 : Int32).toNatClampNeg (eC (gE σ) (plN k 2))) 7 (3 : Int32).toNatClampNeg (eC (gE σ) (plN k 3))) j = S1 j := fun j hj => by
              simp (disch := omega) only [upS_off]
            have hM4 : MSc (upS (upS (upS (upS S1 7 (0 : Int32).toNatClampNeg (eC (gE σ) (plN k 0))) 7 (1 : Int32).toNatClampNeg (eC (gE σ) (plN k 1))) 7 (2 : Int32).toNatClampNeg (eC (gE σ) (plN k 2))) 7 (3 : Int32).toNatClampNeg (eC (gE σ) (plN k 3))) (setCn (gE σ) (orF σ k)) (gD σ) := by
              refine h1.cn (orF σ k) (fun j _ h => hS4 j h) (fun c hc => ?_)
              simp only [upS_row, upd, t0, t1, t2, t3]
              rcases (show c = 0 ∨ c = 1 ∨ c = 2 ∨ c = 3 by omega) with rfl | rfl | rfl | rfl <;> rfl
            generalize (upS (upS (upS (upS S1 7 (0 : Int32).toNatClampNeg (eC (gE σ) (plN k 0))) 7 (1 : Int32).toNatClampNeg (eC (gE σ) (plN k 1))) 7 (2 : Int32).toNatClampNeg (eC (gE σ) (plN k 2))) 7 (3 : Int32).toNatClampNeg (eC (gE σ) (plN k 3))) = S2 at *
            refine rx_aload_n dX12_order_152 rfl ?_
            refine rx_iload_n dX12_order_153 rfl ?_
            refine rx_cVi_1 clX12_365 dX12_order_154 (rcvo (sM_0) rfl) rfl (m_wallBehind g (setCn (gE σ) (orF σ k)) (gD σ) (seesE σ) m S2 L (en_orF hr.en k) hr.dok (by have := hr.t; omega) hM4 (Or.inl ⟨by rw [hS4 0 (by decide)]; exact h2.1, rfl⟩) (by rw [hS4 0 (by decide)]; exact h2.2.2)) ?_
            rintro x3 S3 L3 ⟨hx3, hR3, hL3⟩
            rw [hL3, hx3]
            have g2 : Fr JB KB S S3 := (h3.trans ⟨fun j _ b => hS4 j (fun e => b (by rw [e]; decide)), fun k _ => by rw [hS4 0 (by decide)]⟩).trans hR3.2.1.big
            have g3 : S3 0 27 = -1 ∧ S3 0 29 = 9999 ∧ S3 0 30 = -1 := ⟨by rw [hR3.2.1.2 27 (by decide), hS4 0 (by decide)]; exact h2.1, hR3.2.2.1, hR3.2.2.2⟩
            have g4 : ∀ c, c < 4 → S3 23 c = eC (gE σ) c := by rw [hR3.2.1.1 23 (by decide) (by decide), hS4 23 (by decide)]; exact h4
            have g7 : ∀ c, c < 4 → S3 7 c = eC (gE σ) (plN k c) := hR3.1.2.2.2.2.2.1
            show Rx _ _ _ _ _ _ _ _ _ _ [some (.ref 0), some (.int (nI m)), some (.int kk), some (.int (lsR (orC σ m k))), some (.int (nI k)), some (.int (nI (plN k 0))), some (.int (nI (plN k 1))), some (.int (nI (plN k 2))), some (.int (nI (plN k 3))), none, none] [.int (orT σ m k)] SHM S3 L
            refine rx_istore_9 rfl dX12_order_157 ?_
            refine rx_iload dX12_order_159 rfl ?_
            refine rx_iload_n dX12_order_161 rfl ?_
            refine rx_icmp_lt 168 dX12_order_162 (by decide) (fun h162 => ?_) (fun h162 => ?_)
            · refine rx_iload dX12_order_168 rfl ?_
              refine rx_istore_3 rfl dX12_order_170 ?_
              refine rx_iconst (0) dX12_order_171 (by decide) ?_
              refine rx_istore_10 rfl dX12_order_172 ?_
              have loop4 : ∀ (r4 c : Nat) (S4 : SS), c + r4 = 4 → ((∀ i, i < c → S4 24 i = eC (gE σ) (plN k i)) ∧ ∀ j, j ≠ 24 → S4 j = S3 j) → Rx g 8 0 0 mX12_order SHM.length (fun r sh' S' L' => sh' = SHM ∧ ∃ x, r = some (.int x) ∧ (x = aOrder σ (nI m) kk ∧ MRel S' L' σ)) 0 0 174 [some (.ref 0), some (.int (nI m)), some (.int kk), some (.int (orT σ m k)), some (.int (nI k)), some (.int (nI (plN k 0))), some (.int (nI (plN k 1))), some (.int (nI (plN k 2))), some (.int (nI (plN k 3))), some (.int (orT σ m k)), some (.int (nI c))] [] SHM S4 L := by
                intro r4
                induction r4 with
                | zero =>
                  intro c S4 hc hI4
                  have hcn : c = 4 := by omega
                  subst hcn
                  refine rx_iload dX12_order_174 rfl ?_
                  refine rx_iconst (4) dX12_order_176 (by decide) ?_
                  refine rx_icmp_ge 200 dX12_order_177 (by decide) (fun h177 => ?_) (fun h177 => absurd (nI_le (a := 4) (b := 4) (by omega) (by omega)) h177)
                  refine rx_iinc_4 (1) rfl dX12_order_200 (by decide) ?_
                  refine rx_goto 36 dX12_order_203 (by decide) ?_
                  refine rx_wk [some (.ref 0), some (.int (nI m)), some (.int kk), some (.int _), some (.int _), none, none, none, none, none, none] ⟨Or.inr rfl, Or.inr rfl, Or.inr rfl, Or.inr rfl, Or.inr rfl, Or.inl rfl, Or.inl rfl, Or.inl rfl, Or.inl rfl, Or.inl rfl, Or.inl rfl, trivial⟩ ?_
                  rw [nI_1]
                  have e : orC σ m (k + 1) = (k, orT σ m k) := if_pos ⟨h94, (ls_lt σ hr.en hr.dok m k).mp h162⟩
                  have e2 : lsR (orC σ m (k + 1)) = orT σ m k := by
                    rw [e]
                    obtain ⟨j, hj, ej⟩ := orT_rng σ hr.en hr.dok m k
                    exact if_neg (by show ¬ orT σ m k = 8; rw [ej]; exact n8 hj)
                  have hx := ih (k + 1) S4 (by omega) (by rw [e]; exact ⟨⟨_, hR3.1.cn (orF σ k) (fun j hj _ => hI4.2 j (by omega)) (by rw [hI4.2 7 (by decide)]; exact g7)⟩, by rw [hI4.2 0 (by decide)]; exact g3, g2.trans ⟨fun j _ b => hI4.2 j (fun e => b (by rw [e]; decide)), fun k _ => by rw [hI4.2 0 (by decide)]⟩, by rw [hI4.2 23 (by decide)]; exact g4, fun _ c hc => hI4.1 c hc⟩)
                  rw [e2] at hx
                  exact hx
                | succ r4 ih4 =>
                  intro c S4 hc hI4
                  have hci : (nI c).toNatClampNeg = c := nI_clamp (by omega)
                  have hv4 : vp_in (nI c) 4 := vp_in_nI (by omega) (by omega)
                  refine rx_iload dX12_order_174 rfl ?_
                  refine rx_iconst (4) dX12_order_176 (by decide) ?_
                  refine rx_icmp_ge 200 dX12_order_177 (by decide) (fun h177 => absurd h177 (nI_ge (a := c) (b := 4) (by omega) (by omega))) (fun h177 => ?_)
                  refine rx_aload_n dX12_order_180 rfl ?_
                  refine rx_getR dX12_order_181 flX12_135 (sM_0) rfl ?_
                  refine rx_iload dX12_order_184 rfl ?_
                  refine rx_aload_n dX12_order_186 rfl ?_
                  refine rx_getR dX12_order_187 flX12_38 (sM_0) rfl ?_
                  refine rx_iload dX12_order_190 rfl ?_
                  refine rx_iaload dX12_order_192 (sM_7) hv4 ?_
                  refine rx_iastore dX12_order_193 (sM_24) hv4 ?_
                  refine rx_iinc_10 (1) rfl dX12_order_194 (by decide) ?_
                  refine rx_goto 174 dX12_order_197 (by decide) ?_
                  rw [nI_1]
                  refine ih4 (c + 1) _ (by omega) ⟨fun i hi => ?_, fun j hj => (upS_off _ _ _ _ hj).trans (hI4.2 j hj)⟩
                  simp (disch := omega) only [upS_row, upd, hci]
                  by_cases e : i = c
                  · rw [if_pos e, e, hI4.2 7 (by decide)]; exact g7 c (by omega)
                  · rw [if_neg e]; exact hI4.1 i (by omega)
              exact loop4 4 0 S3 (by omega) ⟨fun i hi => absurd hi (by omega), fun _ _ => rfl⟩
            · refine rx_goto 200 dX12_order_165 (by decide) ?_
              refine rx_iinc_4 (1) rfl dX12_order_200 (by decide) ?_
              refine rx_goto 36 dX12_order_203 (by decide) ?_
              refine rx_wk [some (.ref 0), some (.int (nI m)), some (.int kk), some (.int _), some (.int _), none, none, none, none, none, none] ⟨Or.inr rfl, Or.inr rfl, Or.inr rfl, Or.inr rfl, Or.inr rfl, Or.inl rfl, Or.inl rfl, Or.inl rfl, Or.inl rfl, Or.inl rfl, Or.inl rfl, trivial⟩ ?_
              rw [nI_1]
              have e : orC σ m (k + 1) = orC σ m k := if_neg (fun q => h162 ((ls_lt σ hr.en hr.dok m k).mpr q.2))
              have hx := ih (k + 1) S3 (by omega) (by rw [e]; exact ⟨⟨_, hR3.1⟩, g3, g2, g4, fun q c hc => by rw [hR3.2.1.1 24 (by decide) (by decide), hS4 24 (by decide)]; exact h5 q c hc⟩)
              rw [e] at hx
              exact hx
          · refine rx_goto 200 dX12_order_97 (by decide) ?_
            refine rx_iinc_4 (1) rfl dX12_order_200 (by decide) ?_
            refine rx_goto 36 dX12_order_203 (by decide) ?_
            refine rx_wk [some (.ref 0), some (.int (nI m)), some (.int kk), some (.int _), some (.int _), none, none, none, none, none, none] ⟨Or.inr rfl, Or.inr rfl, Or.inr rfl, Or.inr rfl, Or.inr rfl, Or.inl rfl, Or.inl rfl, Or.inl rfl, Or.inl rfl, Or.inl rfl, Or.inl rfl, trivial⟩ ?_
            rw [nI_1]
            have e : orC σ m (k + 1) = orC σ m k := if_neg (fun q => h94 q.1)
            have hx := ih (k + 1) S1 (by omega) (by rw [e]; exact ⟨⟨f, h1⟩, h2, h3, h4, h5⟩)
            rw [e] at hx
            exact hx
      exact loop 256 0 S1 (by omega) ⟨⟨eC (gE σ), hk1⟩, hk3, hk2, hk4, fun q => absurd rfl q⟩
    · refine rx_bipush (-2) dX12_order_23 (by decide) ?_
      exact rx_iret dX12_order_25 rfl ⟨Nat.le_refl _, Nat.le_refl _⟩ ⟨rfl, _, rfl, ⟨by unfold aOrder; rw [if_neg (fun q => q (b2i_ne h7)), if_pos (b2i_eq h20)], hr⟩⟩
  · refine rx_iconst (-1) dX12_order_10 (by decide) ?_
    exact rx_iret dX12_order_11 rfl ⟨Nat.le_refl _, Nat.le_refl _⟩ ⟨rfl, _, rfl, ⟨(if_pos (b2i_eq h7)).symm, hr⟩⟩
