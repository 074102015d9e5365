theorem swN (k : Nat) (hk : k < 2 ^ 31) (x : Int32) : (x.toInt < 0 ∨ (k : Int) < x.toInt) ∨ ∃ j, j ≤ k ∧ x = nI j := by
  by_cases h0 : x.toInt < 0
  · exact Or.inl (Or.inl h0)
  · by_cases h1 : (k : Int) < x.toInt
    · exact Or.inl (Or.inr h1)
    · refine Or.inr (rngI k hk ?_ ?_)
      · rw [Int32.le_iff_toInt_le, Int32.toInt_zero]; omega
      · rw [Int32.le_iff_toInt_le, nI_toInt hk]; omega
def ofV (σ : SIG) (c k : Nat) : Int32 := match k with
  | 0 => eK (gE σ) c
  | 1 => eV (gE σ) c
  | 2 => dA (gD σ) c
  | 3 => eE (gE σ) c
  | 4 => dS (gD σ) c
  | 5 => b2i (¬ bitv (dW (gD σ)) (nI c) = 0)
  | 6 => pacN (gE σ) (gD σ) c
  | 7 => goeN (gE σ) (gD σ) c
  | _ => wobN (gE σ) (gD σ) c
def aOf (σ : SIG) (c what : Int32) : Int32 := if 0 ≤ c ∧ c < nI (nN σ) then (if what.toInt < 0 ∨ 8 < what.toInt then -1 else ofV σ c.toNatClampNeg what.toNatClampNeg) else -1
def aTold (σ : SIG) (what : Int32) : Int32 := if what.toInt < 0 ∨ 4 < what.toInt then (if 10 ≤ what ∧ what ≤ 13 then eC (gE σ) (what - 10).toNatClampNeg else -1) else (match what.toNatClampNeg with
  | 0 => nI (dT (gD σ))
  | 1 => (eY (gE σ)).1
  | 2 => (eY (gE σ)).2.1
  | 3 => (eY (gE σ)).2.2.1
  | _ => dW (gD σ))
def rkStep (σ : SIG) (c : Nat) (z : Int32) : Int32 := if bitv (dW (gD σ)) (nI c) = 0 ∧ (eY (gE σ)).2.1 < wobN (gE σ) (gD σ) c then z ||| (1 <<< (nI c &&& 31)) else z
def rkP (σ : SIG) : Nat → Int32
  | 0 => 0
  | c + 1 => rkStep σ c (rkP σ c)
theorem CRel.now {S S' : SS} {L : LL} {σ : SIG} {s' : SCN} (h : CRel S L σ) (ho : ∀ j, ¬ (53 ≤ j ∧ j ≤ 78) → ¬ (93 ≤ j ∧ j ≤ 96) → S' j = S j) (hs : ScN 53 S' s' (gY σ)) (hk : OKs s' (gY σ)) (hy : sY s' ≤ gC σ) : CRel S' L (s', σ.2) := by
  obtain ⟨h0, h1, h2, h3, h4, h5, h6, h7, h8, h9, h10⟩ := h
  obtain ⟨k0, k1, k2, k3, k4, k5, k6, k7, k8, k9⟩ := h0
  have o0 : S' 0 = S 0 := ho 0 (by omega) (by omega)
  refine ⟨⟨hk, k1, k2, hy, k4, k5, k6, k7, k8, k9⟩, hs, fun q => (h2 q).off (fun j hj => ho j (by omega) (by omega)), by rw [o0]; exact h3, by rw [o0]; exact h4, fun y hy2 => (h5 y hy2).off (by have : y ≤ gC σ := hy2; omega) (fun j g1 g2 => ho j (by omega) (by omega)), by rw [o0]; exact h6, fun i q hq => ?_, ?_, fun i g1 g2 => ?_, fun t ht => ?_⟩
  · rw [ho 9 (by omega) (by omega)]; exact h7 i q hq
  · rw [ho 97 (by omega) (by omega)]; exact h8
  · rw [ho 98 (by omega) (by omega)]; exact h9 i g1 g2
  · rw [ho 106 (by omega) (by omega), ho 107 (by omega) (by omega)]; exact h10 t ht
/-- the scene with another turn state -/
def wD (s : SCN) (D : DY) : SCN := (s.1, s.2.1, s.2.2.1, s.2.2.2.1, s.2.2.2.2.1, s.2.2.2.2.2.1, D, sY s, sSn s, sBk s)
def nTurn (σ : SIG) : SIG := if dT (gD σ) < 9999 then (wD (gN σ) (stepD (gE σ) (seesE σ) (-1) (gD σ)), σ.2) else σ
def aTurn (σ : SIG) : Int32 := if dT (gD σ) < 9999 then stepB (gE σ) (seesE σ) (-1) (gD σ) else -3
theorem CRel.turn {S S' : SS} {L : LL} {σ : SIG} {D' : DY} (h : CRel S L σ) (hR : ScR 53 S' (gE σ) D') (hF : StF 53 S S') (hD : DOK (nN σ) D') (ht : dT D' ≤ 9999) : CRel S' L (wD (gN σ) D', σ.2) := by
  obtain ⟨k0, k1, k2, k3, k4, k5, k6⟩ := h.1.1
  obtain ⟨a1, a2, ⟨a3, a4⟩, ⟨a5, a6⟩⟩ := h.2.1
  have off : ∀ j, j ≠ 53 → j ≠ 56 → j ≠ 58 → ¬ (93 ≤ j ∧ j ≤ 96) → S' j = S j := hF.1
  refine h.now (fun j h1 h2 => off j (by omega) (by omega) (by omega) h2) ⟨hR, by rw [hF.2 10 (by decide) (by decide)]; exact a2, ⟨by rw [hF.2 14 (by decide) (by decide)]; exact a3, fun i q hq => ?_⟩, ⟨by rw [hF.2 17 (by decide) (by decide)]; exact a5, fun i q hq => ?_⟩⟩ ⟨k0, hD, ht, k3, k4, k5, k6⟩ h.1.2.2.2.1
  · show S' 61 i = _ ∧ S' 62 i = _ ∧ S' 63 i = _
    rw [off 61 (by omega) (by omega) (by omega) (by omega), off 62 (by omega) (by omega) (by omega) (by omega), off 63 (by omega) (by omega) (by omega) (by omega)]; exact a4 i q hq
  · show S' 64 i = _ ∧ S' 65 i = _
    rw [off 64 (by omega) (by omega) (by omega) (by omega), off 65 (by omega) (by omega) (by omega) (by omega)]; exact a6 i q hq

set_option maxRecDepth 20000 in
set_option maxHeartbeats 1000000 in
theorem cc_of (g : GG) (σ : SIG) (c what : Int32) (S : SS) (L : LL) (hr : CRel S L σ) : Ci g 5 mX11_of [.ref 0, .int c, .int what] SHC S L (fun r S' L' => r = aOf σ c what ∧ CRel S' L' σ) := by
  have hsz : S 53 6 = nI (nN σ) := hr.sc.1
  refine ct_of (ls := [some (.ref 0), some (.int c), some (.int what)]) 0 (by decide +kernel) rfl rfl ?_
  refine rx_aload_n dX11_of_0 rfl ?_
  refine rx_getR dX11_of_1 flX11_54 (sC_0) rfl ?_
  refine rx_iload_n dX11_of_4 rfl ?_
  refine rx_cVi_1 clX11_104 dX11_of_5 (rcvo (sC_53) rfl) rfl (c_has g S53 _ S L) ?_
  refine pur3 ?_
  rw [hsz]
  refine rx_if_ne 13 dX11_of_8 (by decide) (fun h8 => ?_) (fun h8 => ?_)
  · have hq := b2i_ne h8
    obtain ⟨c, hc, rfl⟩ := rngL (nN σ) (by have := hr.n7; unfold nN; omega) hq.1 hq.2
    have hc7 : c < 7 := by have := hr.n7; unfold nN at hc; omega
    have hci : (nI c).toNatClampNeg = c := nI_clamp (by omega)
    have hvc : vp_in (nI c) 7 := vp_in_nI hc7 (by omega)
    refine rx_aload_n dX11_of_13 rfl ?_
    refine rx_getR dX11_of_14 flX11_69 (sC_0) rfl ?_
    refine rx_aload_n dX11_of_17 rfl ?_
    refine rx_getR dX11_of_18 flX11_54 (sC_0) rfl ?_
    refine rx_cVv_1 clX11_108 dX11_of_21 (rcvo (sC_92) rfl) rfl (c_foresee g S53 (gE σ) (gD σ) S L hr.en hr.sc) ?_
    rintro S1 L1 ⟨⟨f1, f2⟩, hL1⟩
    rw [hL1]
    have hr1 := hr.kp (fun j _ h2 => f2 j h2)
    obtain ⟨f3, f4, f5⟩ := f1 c hc
    have hsc := hr1.sc
    refine rx_iload_n dX11_of_24 rfl ?_
    rcases swN 8 (by decide) what with hw | ⟨j, hj, rfl⟩
    · have hw : what.toInt < 0 ∨ 8 < what.toInt := hw
      refine rx_tableOut 173 dX11_of_25 hw (by decide) ?_
      refine rx_iconst (-1) dX11_of_173 (by decide) ?_
      exact rx_iret dX11_of_174 rfl ⟨Nat.le_refl _, Nat.le_refl _⟩ ⟨rfl, _, rfl, ⟨by unfold aOf; rw [if_pos hq, if_pos hw], hr1⟩⟩
    · rcases (show j = 0 ∨ j = 1 ∨ j = 2 ∨ j = 3 ∨ j = 4 ∨ j = 5 ∨ j = 6 ∨ j = 7 ∨ j = 8 by omega) with rfl | rfl | rfl | rfl | rfl | rfl | rfl | rfl | rfl
      · refine rx_tableIn 76 dX11_of_25 (by decide) (by decide) (by rfl) (by decide) ?_
        refine rx_aload_n dX11_of_76 rfl ?_
        refine rx_getR dX11_of_77 flX11_54 (sC_0) rfl ?_
        refine rx_getR dX11_of_80 flX11_112 (sC_53) rfl ?_
        refine rx_iload_n dX11_of_83 rfl ?_
        refine rx_iaload dX11_of_84 (sC_54) hvc ?_
        exact rx_iret dX11_of_85 rfl ⟨Nat.le_refl _, Nat.le_refl _⟩ ⟨rfl, _, rfl, ⟨by unfold aOf; rw [if_pos hq, if_neg (by decide), hci]; exact (by exact hsc.2.1 c hc7), hr1⟩⟩
      · refine rx_tableIn 86 dX11_of_25 (by decide) (by decide) (by rfl) (by decide) ?_
        refine rx_aload_n dX11_of_86 rfl ?_
        refine rx_getR dX11_of_87 flX11_54 (sC_0) rfl ?_
        refine rx_getR dX11_of_90 flX11_115 (sC_53) rfl ?_
        refine rx_iload_n dX11_of_93 rfl ?_
        refine rx_iaload dX11_of_94 (sC_55) hvc ?_
        exact rx_iret dX11_of_95 rfl ⟨Nat.le_refl _, Nat.le_refl _⟩ ⟨rfl, _, rfl, ⟨by unfold aOf; rw [if_pos hq, if_neg (by decide), hci]; exact (by exact hsc.2.2.1 c hc7), hr1⟩⟩
      · refine rx_tableIn 96 dX11_of_25 (by decide) (by decide) (by rfl) (by decide) ?_
        refine rx_aload_n dX11_of_96 rfl ?_
        refine rx_getR dX11_of_97 flX11_54 (sC_0) rfl ?_
        refine rx_getR dX11_of_100 flX11_118 (sC_53) rfl ?_
        refine rx_iload_n dX11_of_103 rfl ?_
        refine rx_iaload dX11_of_104 (sC_56) hvc ?_
        exact rx_iret dX11_of_105 rfl ⟨Nat.le_refl _, Nat.le_refl _⟩ ⟨rfl, _, rfl, ⟨by unfold aOf; rw [if_pos hq, if_neg (by decide), hci]; exact (by exact hsc.a hc7), hr1⟩⟩
      · refine rx_tableIn 106 dX11_of_25 (by decide) (by decide) (by rfl) (by decide) ?_
        refine rx_aload_n dX11_of_106 rfl ?_
        refine rx_getR dX11_of_107 flX11_54 (sC_0) rfl ?_
        refine rx_getR dX11_of_110 flX11_121 (sC_53) rfl ?_
        refine rx_iload_n dX11_of_113 rfl ?_
        refine rx_iaload dX11_of_114 (sC_57) hvc ?_
        exact rx_iret dX11_of_115 rfl ⟨Nat.le_refl _, Nat.le_refl _⟩ ⟨rfl, _, rfl, ⟨by unfold aOf; rw [if_pos hq, if_neg (by decide), hci]; exact (by exact hsc.2.2.2.1 c hc7), hr1⟩⟩
      · refine rx_tableIn 116 dX11_of_25 (by decide) (by decide) (by rfl) (by decide) ?_
        refine rx_aload_n dX11_of_116 rfl ?_
        refine rx_getR dX11_of_117 flX11_54 (sC_0) rfl ?_
        refine rx_getR dX11_of_120 flX11_124 (sC_53) rfl ?_
        refine rx_iload_n dX11_of_123 rfl ?_
        refine rx_iaload dX11_of_124 (sC_58) hvc ?_
        exact rx_iret dX11_of_125 rfl ⟨Nat.le_refl _, Nat.le_refl _⟩ ⟨rfl, _, rfl, ⟨by unfold aOf; rw [if_pos hq, if_neg (by decide), hci]; exact (by exact hsc.2.2.2.2.2.2.2.2.2.2.2 c hc7), hr1⟩⟩
      · refine rx_tableIn 126 dX11_of_25 (by decide) (by decide) (by rfl) (by decide) ?_
        refine rx_aload_n dX11_of_126 rfl ?_
        refine rx_getR dX11_of_127 flX11_54 (sC_0) rfl ?_
        refine rx_iload_n dX11_of_130 rfl ?_
        refine rx_cVi_1 clX11_127 dX11_of_131 (rcvo (sC_53) rfl) rfl (c_isAtWall g S53 _ S1 L) ?_
        refine pur3 ?_
        refine rx_if_eq 141 dX11_of_134 (by decide) (fun h134 => ?_) (fun h134 => ?_)
        · refine rx_iconst (0) dX11_of_141 (by decide) ?_
          exact rx_iret dX11_of_142 rfl ⟨Nat.le_refl _, Nat.le_refl _⟩ ⟨rfl, _, rfl, ⟨by unfold aOf; rw [if_pos hq, if_neg (by decide), hci]; show _ = b2i (¬ bitv (dW (gD σ)) (nI c) = 0); rw [show dW (gD σ) = S1 53 7 from hsc.w.symm]; first | exact b2i_t (b2i_ne h134) | exact b2i_f (b2i_eq h134), hr1⟩⟩
        · refine rx_iconst (1) dX11_of_137 (by decide) ?_
          refine rx_goto 142 dX11_of_138 (by decide) ?_
          exact rx_iret dX11_of_142 rfl ⟨Nat.le_refl _, Nat.le_refl _⟩ ⟨rfl, _, rfl, ⟨by unfold aOf; rw [if_pos hq, if_neg (by decide), hci]; show _ = b2i (¬ bitv (dW (gD σ)) (nI c) = 0); rw [show dW (gD σ) = S1 53 7 from hsc.w.symm]; first | exact b2i_t (b2i_ne h134) | exact b2i_f (b2i_eq h134), hr1⟩⟩
      · refine rx_tableIn 143 dX11_of_25 (by decide) (by decide) (by rfl) (by decide) ?_
        refine rx_aload_n dX11_of_143 rfl ?_
        refine rx_getR dX11_of_144 flX11_69 (sC_0) rfl ?_
        refine rx_getR dX11_of_147 flX11_130 (sC_92) rfl ?_
        refine rx_iload_n dX11_of_150 rfl ?_
        refine rx_iaload dX11_of_151 (sC_93) hvc ?_
        exact rx_iret dX11_of_152 rfl ⟨Nat.le_refl _, Nat.le_refl _⟩ ⟨rfl, _, rfl, ⟨by unfold aOf; rw [if_pos hq, if_neg (by decide), hci]; exact (by exact f3), hr1⟩⟩
      · refine rx_tableIn 153 dX11_of_25 (by decide) (by decide) (by rfl) (by decide) ?_
        refine rx_aload_n dX11_of_153 rfl ?_
        refine rx_getR dX11_of_154 flX11_69 (sC_0) rfl ?_
        refine rx_getR dX11_of_157 flX11_133 (sC_92) rfl ?_
        refine rx_iload_n dX11_of_160 rfl ?_
        refine rx_iaload dX11_of_161 (sC_94) hvc ?_
        exact rx_iret dX11_of_162 rfl ⟨Nat.le_refl _, Nat.le_refl _⟩ ⟨rfl, _, rfl, ⟨by unfold aOf; rw [if_pos hq, if_neg (by decide), hci]; exact (by exact f4), hr1⟩⟩
      · refine rx_tableIn 163 dX11_of_25 (by decide) (by decide) (by rfl) (by decide) ?_
        refine rx_aload_n dX11_of_163 rfl ?_
        refine rx_getR dX11_of_164 flX11_69 (sC_0) rfl ?_
        refine rx_getR dX11_of_167 flX11_136 (sC_92) rfl ?_
        refine rx_iload_n dX11_of_170 rfl ?_
        refine rx_iaload dX11_of_171 (sC_95) hvc ?_
        exact rx_iret dX11_of_172 rfl ⟨Nat.le_refl _, Nat.le_refl _⟩ ⟨rfl, _, rfl, ⟨by unfold aOf; rw [if_pos hq, if_neg (by decide), hci]; exact (by exact f5), hr1⟩⟩
  · refine rx_iconst (-1) dX11_of_11 (by decide) ?_
    exact rx_iret dX11_of_12 rfl ⟨Nat.le_refl _, Nat.le_refl _⟩ ⟨rfl, _, rfl, ⟨(if_neg (b2i_eq h8)).symm, hr⟩⟩
theorem le_sub10 {x : Int32} (h1 : 10 ≤ x) (h2 : x ≤ 13) : 0 ≤ x - 10 ∧ x - 10 ≤ nI 3 := by
  obtain ⟨j, hj, rfl⟩ := rngI 13 (by decide) (Int32.le_trans (by decide) h1) h2
  have h3 : 10 ≤ j := (nI_leI (a := 10) (by decide) (by omega)).mp h1
  rw [show nI j - 10 = nI (j - 10) from pk_sub (b := 10) h3]
  exact ⟨nI_pos' (by omega), nI_le (by omega) (by decide)⟩
set_option maxRecDepth 20000 in
set_option maxHeartbeats 1000000 in
theorem cc_told (g : GG) (σ : SIG) (what : Int32) (S : SS) (L : LL) (hr : CRel S L σ) : Ci g 1 mX11_told [.ref 0, .int what] SHC S L (fun r S' L' => r = aTold σ what ∧ CRel S' L' σ) := by
  obtain ⟨y, hy, hyS, hY⟩ := hr.sc.2.2.2.2.2.2.1
  have hcy : (nI y).toNatClampNeg = y := nI_clamp (by omega)
  refine ct_of (ls := [some (.ref 0), some (.int what)]) 0 (by decide +kernel) rfl rfl ?_
  refine rx_iload_n dX11_told_0 rfl ?_
  rcases swN 4 (by decide) what with hw | ⟨j, hj, rfl⟩
  · have hw : what.toInt < 0 ∨ 4 < what.toInt := hw
    refine rx_tableOut 85 dX11_told_1 hw (by decide) ?_
    refine rx_iload_n dX11_told_85 rfl ?_
    refine rx_bipush (10) dX11_told_86 (by decide) ?_
    refine rx_bipush (13) dX11_told_88 (by decide) ?_
    refine rx_cSi_3 clX11_92 dX11_told_90 rfl (c_within g _ _ _ S L) ?_
    refine pur3 ?_
    refine rx_if_ne 98 dX11_told_93 (by decide) (fun h93 => ?_) (fun h93 => ?_)
    · have hq := b2i_ne h93
      obtain ⟨c, hc, ec⟩ := rngI 3 (x := what - 10) (by omega) (le_sub10 hq.1 hq.2).1 (le_sub10 hq.1 hq.2).2
      have hci : (nI c).toNatClampNeg = c := nI_clamp (by omega)
      have hvc : vp_in (nI c) 4 := vp_in_nI (by omega) (by omega)
      refine rx_aload_n dX11_told_98 rfl ?_
      refine rx_getR dX11_told_99 flX11_54 (sC_0) rfl ?_
      refine rx_getR dX11_told_102 flX11_153 (sC_53) rfl ?_
      refine rx_iload_n dX11_told_105 rfl ?_
      refine rx_bipush (10) dX11_told_106 (by decide) ?_
      refine rx_isub dX11_told_108 ?_
      rw [ec]
      refine rx_iaload dX11_told_109 (sC_60) hvc ?_
      rw [hci]
      exact rx_iret dX11_told_110 rfl ⟨Nat.le_refl _, Nat.le_refl _⟩ ⟨rfl, _, rfl, ⟨by unfold aTold; rw [if_pos hw, if_pos hq, ec, hci]; exact hr.sc.2.2.2.2.2.1 c (by omega), hr⟩⟩
    · refine rx_iconst (-1) dX11_told_96 (by decide) ?_
      exact rx_iret dX11_told_97 rfl ⟨Nat.le_refl _, Nat.le_refl _⟩ ⟨rfl, _, rfl, ⟨by unfold aTold; rw [if_pos hw, if_neg (b2i_eq h93)], hr⟩⟩
  · rcases (show j = 0 ∨ j = 1 ∨ j = 2 ∨ j = 3 ∨ j = 4 by omega) with rfl | rfl | rfl | rfl | rfl
    · refine rx_tableIn 36 dX11_told_1 (by decide) (by decide) (by rfl) (by decide) ?_
      refine rx_aload_n dX11_told_36 rfl ?_
      refine rx_getR dX11_told_37 flX11_54 (sC_0) rfl ?_
      refine rx_getI dX11_told_40 flX11_166 (sC_53) rfl ?_
      exact rx_iret dX11_told_43 rfl ⟨Nat.le_refl _, Nat.le_refl _⟩ ⟨rfl, _, rfl, ⟨by unfold aTold; rw [if_neg (by decide)]; exact hr.sc.2.2.2.2.2.2.2.2.2.1, hr⟩⟩
    · refine rx_tableIn 44 dX11_told_1 (by decide) (by decide) (by rfl) (by decide) ?_
      refine rx_aload_n dX11_told_44 rfl ?_
      refine rx_getR dX11_told_45 flX11_54 (sC_0) rfl ?_
      refine rx_getD dX11_told_48 flX11_139 (sC_53) rfl ?_
      rw [hyS, hcy]
      refine rx_getI dX11_told_51 flX11_143 (syO hy) rfl ?_
      exact rx_iret dX11_told_54 rfl ⟨Nat.le_refl _, Nat.le_refl _⟩ ⟨rfl, _, rfl, ⟨by unfold aTold; rw [if_neg (by decide)]; exact hY.2.2.2.1, hr⟩⟩
    · refine rx_tableIn 55 dX11_told_1 (by decide) (by decide) (by rfl) (by decide) ?_
      refine rx_aload_n dX11_told_55 rfl ?_
      refine rx_getR dX11_told_56 flX11_54 (sC_0) rfl ?_
      refine rx_getD dX11_told_59 flX11_139 (sC_53) rfl ?_
      rw [hyS, hcy]
      refine rx_getI dX11_told_62 flX11_169 (syO hy) rfl ?_
      exact rx_iret dX11_told_65 rfl ⟨Nat.le_refl _, Nat.le_refl _⟩ ⟨rfl, _, rfl, ⟨by unfold aTold; rw [if_neg (by decide)]; exact hY.2.2.2.2.1, hr⟩⟩
    · refine rx_tableIn 66 dX11_told_1 (by decide) (by decide) (by rfl) (by decide) ?_
      refine rx_aload_n dX11_told_66 rfl ?_
      refine rx_getR dX11_told_67 flX11_54 (sC_0) rfl ?_
      refine rx_getD dX11_told_70 flX11_139 (sC_53) rfl ?_
      rw [hyS, hcy]
      refine rx_getI dX11_told_73 flX11_172 (syO hy) rfl ?_
      exact rx_iret dX11_told_76 rfl ⟨Nat.le_refl _, Nat.le_refl _⟩ ⟨rfl, _, rfl, ⟨by unfold aTold; rw [if_neg (by decide)]; exact hY.2.2.2.2.2, hr⟩⟩
    · refine rx_tableIn 77 dX11_told_1 (by decide) (by decide) (by rfl) (by decide) ?_
      refine rx_aload_n dX11_told_77 rfl ?_
      refine rx_getR dX11_told_78 flX11_54 (sC_0) rfl ?_
      refine rx_getI dX11_told_81 flX11_175 (sC_53) rfl ?_
      exact rx_iret dX11_told_84 rfl ⟨Nat.le_refl _, Nat.le_refl _⟩ ⟨rfl, _, rfl, ⟨by unfold aTold; rw [if_neg (by decide)]; exact hr.sc.w, hr⟩⟩
set_option maxRecDepth 20000 in
set_option maxHeartbeats 1000000 in
theorem cc_turn (g : GG) (σ : SIG)  (S : SS) (L : LL) (hr : CRel S L σ) : Ci g 7 mX11_turn [.ref 0] SHC S L (fun r S' L' => r = aTurn σ ∧ CRel S' L' (nTurn σ)) := by
  have ht : S 53 9 = nI (dT (gD σ)) := hr.sc.2.2.2.2.2.2.2.2.2.1
  refine ct_of (ls := [some (.ref 0)]) 0 (by decide +kernel) rfl rfl ?_
  refine rx_aload_n dX11_turn_0 rfl ?_
  refine rx_getR dX11_turn_1 flX11_54 (sC_0) rfl ?_
  refine rx_getI dX11_turn_4 flX11_166 (sC_53) rfl ?_
  refine rx_sipush (9999) dX11_turn_7 (by decide) ?_
  rw [ht]
  refine rx_icmp_lt 16 dX11_turn_10 (by decide) (fun h10 => ?_) (fun h10 => ?_)
  · have hlt : dT (gD σ) < 9999 := (nI_ltI (b := 9999) (by have := hr.t; omega) (by omega)).mp h10
    refine rx_aload_n dX11_turn_16 rfl ?_
    refine rx_getR dX11_turn_17 flX11_69 (sC_0) rfl ?_
    refine rx_aload_n dX11_turn_20 rfl ?_
    refine rx_getR dX11_turn_21 flX11_54 (sC_0) rfl ?_
    refine rx_iconst (1) dX11_turn_24 (by decide) ?_
    refine rx_cVi_2 clX11_178 dX11_turn_25 (rcvo (sC_92) rfl) rfl (c_pass g S53 (gE σ) (gD σ) 1 S L hr.en hr.sc (by omega)) ?_
    rintro x2 S2 L2 ⟨hx2, hR2, hF2, hL2⟩
    rw [hL2, hx2]
    exact rx_iret dX11_turn_28 rfl ⟨Nat.le_refl _, Nat.le_refl _⟩ ⟨rfl, _, rfl, ⟨by unfold aTurn; rw [if_pos hlt]; exact Int32.zero_or, by unfold nTurn; rw [if_pos hlt]; exact hr.turn hR2 hF2 (DOK_step hr.en _ _ hr.dok) (by show dT (gD σ) + 1 ≤ 9999; omega)⟩⟩
  · have hn : ¬ dT (gD σ) < 9999 := fun q => h10 ((nI_ltI (b := 9999) (by omega) (by omega)).mpr q)
    refine rx_bipush (-3) dX11_turn_13 (by decide) ?_
    exact rx_iret dX11_turn_15 rfl ⟨Nat.le_refl _, Nat.le_refl _⟩ ⟨rfl, _, rfl, ⟨by unfold aTurn; rw [if_neg hn], by unfold nTurn; rw [if_neg hn]; exact hr⟩⟩
set_option maxRecDepth 20000 in
set_option maxHeartbeats 400000 in
theorem cc_risks (g : GG) (σ : SIG) (S : SS) (L : LL) (hr : CRel S L σ) : Ci g 5 mX11_risks [.ref 0] SHC S L (fun r S' L' => r = rkP σ (nN σ) ∧ CRel S' L' σ) := by
  refine ct_of (ls := [some (.ref 0), none, none]) 2 (by decide +kernel) rfl rfl ?_
  refine rx_aload_n dX11_risks_0 rfl ?_
  refine rx_getR dX11_risks_1 flX11_69 (sC_0) rfl ?_
  refine rx_aload_n dX11_risks_4 rfl ?_
  refine rx_getR dX11_risks_5 flX11_54 (sC_0) rfl ?_
  refine rx_cVv_1 clX11_108 dX11_risks_8 (rcvo (sC_92) rfl) rfl (c_foresee g S53 (gE σ) (gD σ) S L hr.en hr.sc) ?_
  rintro S1 L1 ⟨⟨f1, f2⟩, hL1⟩
  rw [hL1]
  have hr1 := hr.kp (fun j _ h2 => f2 j h2)
  have hsc := hr1.sc
  refine rx_iconst (0) dX11_risks_11 (by decide) ?_
  refine rx_istore_1 rfl dX11_risks_12 ?_
  refine rx_iconst (0) dX11_risks_13 (by decide) ?_
  refine rx_istore_2 rfl dX11_risks_14 ?_
  have hsz2 : S1 53 6 = nI (nN σ) := hsc.1
  have hn7 : nN σ ≤ 7 := hr.n7
  have hw : S1 53 7 = dW (gD σ) := hsc.w
  obtain ⟨y, hy, hyS, hY⟩ := hsc.2.2.2.2.2.2.1
  have hcy : (nI y).toNatClampNeg = y := nI_clamp (by omega)
  have loop : ∀ (r c : Nat), c ≤ nN σ → c + r = nN σ → Rx g 5 0 0 mX11_risks SHC.length (fun r sh' S' L' => sh' = SHC ∧ ∃ x, r = some (.int x) ∧ (x = rkP σ (nN σ) ∧ CRel S' L' σ)) 0 0 15 [some (.ref 0), some (.int (rkP σ c)), some (.int (nI c))] [] SHC S1 L := by
    intro r
    induction r with
    | zero =>
      intro c hc1 hc2
      have hcn : c = nN σ := by omega
      refine rx_iload_n dX11_risks_15 rfl ?_
      refine rx_aload_n dX11_risks_16 rfl ?_
      refine rx_getR dX11_risks_17 flX11_54 (sC_0) rfl ?_
      refine rx_getI dX11_risks_20 flX11_96 (sC_53) rfl ?_
      refine rx_icmp_ge 71 dX11_risks_23 (by decide) (fun h23 => ?_) (fun h23 => absurd (by rw [hsz2]; exact nI_le (by omega) (by omega)) h23)
      refine rx_iload_n dX11_risks_71 rfl ?_
      exact rx_iret dX11_risks_72 rfl ⟨Nat.le_refl _, Nat.le_refl _⟩ ⟨rfl, _, rfl, ⟨by rw [hcn], hr1⟩⟩
    | succ r ih =>
      intro c hc1 hc2
      have hc7 : c < 7 := by omega
      have hci : (nI c).toNatClampNeg = c := nI_clamp (by omega)
      have hvc : vp_in (nI c) 7 := vp_in_nI hc7 (by omega)
      have f5 := (f1 c (show c < eN (gE σ) by unfold nN at hc2; omega)).2.2
      refine rx_iload_n dX11_risks_15 rfl ?_
      refine rx_aload_n dX11_risks_16 rfl ?_
      refine rx_getR dX11_risks_17 flX11_54 (sC_0) rfl ?_
      refine rx_getI dX11_risks_20 flX11_96 (sC_53) rfl ?_
      refine rx_icmp_ge 71 dX11_risks_23 (by decide) (fun h23 => absurd h23 (by rw [hsz2]; exact nI_ge (by omega) (by omega))) (fun h23 => ?_)
      refine rx_aload_n dX11_risks_26 rfl ?_
      refine rx_getR dX11_risks_27 flX11_54 (sC_0) rfl ?_
      refine rx_iload_n dX11_risks_30 rfl ?_
      refine rx_cVi_1 clX11_127 dX11_risks_31 (rcvo (sC_53) rfl) rfl (c_isAtWall g S53 _ S1 L) ?_
      refine pur3 ?_
      refine rx_if_ne 65 dX11_risks_34 (by decide) (fun h34 => ?_) (fun h34 => ?_)
      · have hno : ¬ (bitv (dW (gD σ)) (nI c) = 0 ∧ (eY (gE σ)).2.1 < wobN (gE σ) (gD σ) c) := fun q => b2i_ne h34 (by rw [hw]; exact q.1)
        refine rx_iinc_2 (1) rfl dX11_risks_65 (by decide) ?_
        refine rx_goto 15 dX11_risks_68 (by decide) ?_
        rw [nI_1, show rkP σ c = rkP σ (c + 1) from (if_neg hno).symm]
        exact ih (c + 1) (by omega) (by omega)
      · have hbz : bitv (dW (gD σ)) (nI c) = 0 := by rw [← hw]; exact Decidable.not_not.mp (b2i_eq h34)
        refine rx_aload_n dX11_risks_37 rfl ?_
        refine rx_getR dX11_risks_38 flX11_69 (sC_0) rfl ?_
        refine rx_getR dX11_risks_41 flX11_136 (sC_92) rfl ?_
        refine rx_iload_n dX11_risks_44 rfl ?_
        refine rx_iaload dX11_risks_45 (sC_95) hvc ?_
        rw [hci, f5]
        refine rx_aload_n dX11_risks_46 rfl ?_
        refine rx_getR dX11_risks_47 flX11_54 (sC_0) rfl ?_
        refine rx_getD dX11_risks_50 flX11_139 (sC_53) rfl ?_
        rw [hyS, hcy]
        refine rx_getI dX11_risks_53 flX11_169 (syO hy) rfl ?_
        rw [hY.2.2.2.2.1]
        refine rx_icmp_le 65 dX11_risks_56 (by decide) (fun h56 => ?_) (fun h56 => ?_)
        · have hno : ¬ (bitv (dW (gD σ)) (nI c) = 0 ∧ (eY (gE σ)).2.1 < wobN (gE σ) (gD σ) c) := fun q => absurd q.2 (Int32.not_lt.mpr h56)
          refine rx_iinc_2 (1) rfl dX11_risks_65 (by decide) ?_
          refine rx_goto 15 dX11_risks_68 (by decide) ?_
          rw [nI_1, show rkP σ c = rkP σ (c + 1) from (if_neg hno).symm]
          exact ih (c + 1) (by omega) (by omega)
        · have hsh : (eY (gE σ)).2.1 < wobN (gE σ) (gD σ) c := Int32.not_le.mp h56
          refine rx_iload_n dX11_risks_59 rfl ?_
          refine rx_iconst (1) dX11_risks_60 (by decide) ?_
          refine rx_iload_n dX11_risks_61 rfl ?_
          refine rx_ishl dX11_risks_62 ?_
          refine rx_ior dX11_risks_63 ?_
          refine rx_istore_1 rfl dX11_risks_64 ?_
          refine rx_iinc_2 (1) rfl dX11_risks_65 (by decide) ?_
          refine rx_goto 15 dX11_risks_68 (by decide) ?_
          rw [nI_1, show rkP σ c ||| (1 <<< (nI c &&& 31)) = rkP σ (c + 1) from (if_pos ⟨hbz, hsh⟩).symm]
          exact ih (c + 1) (by omega) (by omega)
  exact loop (nN σ) 0 (by omega) (by omega)
