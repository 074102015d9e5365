theorem rngI {x : Int32} (k : Nat) (hk : k < 2 ^ 31) (h0 : 0 ≤ x) (h : x ≤ nI k) : ∃ j, j ≤ k ∧ x = nI j := by
  obtain ⟨j, hj, e⟩ := nI_of2 (M := nI k) (nI_toInt hk) (Int32.not_lt.mpr h0) h
  exact ⟨j, hj, e⟩
theorem rngL {x : Int32} (k : Nat) (hk : k < 2 ^ 31) (h0 : 0 ≤ x) (h : x < nI k) : ∃ j, j < k ∧ x = nI j := by
  obtain ⟨j, hj, e⟩ := rngI k hk h0 (Int32.le_of_lt h)
  subst e
  exact ⟨j, (nI_ltI (by omega) hk).mp h, rfl⟩
theorem ScR.a {b : Nat} {S : SS} {E : EN} {D : DY} (h : ScR b S E D) {c : Nat} (hc : c < 7) : S (b + 3) c = dA D c := h.2.2.2.2.2.2.2.1 c hc
theorem ScR.w {b : Nat} {S : SS} {E : EN} {D : DY} (h : ScR b S E D) : S b 7 = dW D := h.2.2.2.2.2.2.2.2.1
def seesE (σ : SIG) : Int32 := (eY (gE σ)).2.2.1
def itQ (σ : SIG) (n : Int32) : DY := itD (gE σ) (seesE σ) (-1) n.toNatClampNeg (gD σ)
def itR (σ : SIG) (n : Int32) : Int32 := itB (gE σ) (seesE σ) (-1) n.toNatClampNeg (gD σ)
def nN (σ : SIG) : Nat := eN (gE σ)
/-- the cell of the answer's own kind: an answer, and all as it was -/
def aOn (σ : SIG) (n what : Int32) : Int32 :=
  if ¬ ((10 ≤ what ∧ what ≤ 16) ∧ (0 ≤ what - 10 ∧ what - 10 < nI (nN σ))) ∧ ¬ (0 ≤ what ∧ what ≤ 1) then -1
  else if ¬ (0 ≤ n ∧ n ≤ 40) then -2
  else if (10 ≤ what ∧ what ≤ 16) ∧ (0 ≤ what - 10 ∧ what - 10 < nI (nN σ)) then dA (itQ σ n) (what - 10).toNatClampNeg
  else if what = 0 then popc (dW (itQ σ n)) else itR σ n
def aTouches (σ : SIG) (c : Int32) : Int32 := if 0 ≤ c ∧ c < nI (nN σ) then (untV (gE σ) (1 <<< (c &&& 31)) 61 0 (gD σ)).1 else -1
def whoP (a : Nat → Int32) (h : Int32) : Nat → Int32
  | 0 => 0
  | c + 1 => if a c = h then whoP a h c ||| (1 <<< (nI c &&& 31)) else whoP a h c
def aWho (σ : SIG) (n h : Int32) : Int32 := if (0 ≤ n ∧ n ≤ 20) ∧ (0 ≤ h ∧ h ≤ 99) then whoP (dA (itQ σ n)) h (nN σ) else -2

set_option maxRecDepth 20000 in
set_option maxHeartbeats 1000000 in
theorem cc_on (g : GG) (σ : SIG) (n what : Int32) (S : SS) (L : LL) (hr : CRel S L σ) : Ci g 7 mX11_on [.ref 0, .int n, .int what] SHC S L (fun r S' L' => r = aOn σ n what ∧ CRel S' L' σ) := by
  have hsz : S 53 6 = nI (nN σ) := hr.sc.1
  refine ct_of (ls := [some (.ref 0), some (.int n), some (.int what), none, none]) 2 (by decide +kernel) rfl rfl ?_
  refine rx_iload_n dX11_on_0 rfl ?_
  refine rx_bipush (10) dX11_on_1 (by decide) ?_
  refine rx_bipush (16) dX11_on_3 (by decide) ?_
  refine rx_cSi_3 clX11_92 dX11_on_5 rfl (c_within g _ _ _ S L) ?_
  refine pur3 ?_
  refine rx_if_eq 29 dX11_on_8 (by decide) (fun h8 => ?_) (fun h8 => ?_)
  · have hno : ¬ ((10 ≤ what ∧ what ≤ 16) ∧ (0 ≤ what - 10 ∧ what - 10 < nI (nN σ))) := by first | exact fun q => b2i_eq h8 q.1 | exact fun q => b2i_eq h22 q.2
    refine rx_iconst (0) dX11_on_29 (by decide) ?_
    refine rx_istore_3 rfl dX11_on_30 ?_
    refine rx_iload_n dX11_on_31 rfl ?_
    refine rx_if_ne 46 dX11_on_32 (by decide) (fun h32 => absurd h32 (by decide)) (fun h32 => ?_)
    refine rx_iload_n dX11_on_35 rfl ?_
    refine rx_iconst (0) dX11_on_36 (by decide) ?_
    refine rx_iconst (1) dX11_on_37 (by decide) ?_
    refine rx_cSi_3 clX11_92 dX11_on_38 rfl (c_within g _ _ _ S L) ?_
    refine pur3 ?_
    refine rx_if_ne 46 dX11_on_41 (by decide) (fun h41 => ?_) (fun h41 => ?_)
    · have hnn : ¬ (¬ ((10 ≤ what ∧ what ≤ 16) ∧ (0 ≤ what - 10 ∧ what - 10 < nI (nN σ))) ∧ ¬ (0 ≤ what ∧ what ≤ 1)) := by first | exact fun q => q.1 hone | exact fun q => q.2 (b2i_ne h41)
      refine rx_iload_n dX11_on_46 rfl ?_
      refine rx_iconst (0) dX11_on_47 (by decide) ?_
      refine rx_bipush (40) dX11_on_48 (by decide) ?_
      refine rx_cSi_3 clX11_92 dX11_on_50 rfl (c_within g _ _ _ S L) ?_
      refine pur3 ?_
      refine rx_if_ne 59 dX11_on_53 (by decide) (fun h53 => ?_) (fun h53 => ?_)
      · have hnr := b2i_ne h53
        obtain ⟨m, hm, rfl⟩ := rngI 40 (by omega) hnr.1 hnr.2
        have hmc : (nI m).toNatClampNeg = m := nI_clamp (by omega)
        refine rx_aload_n dX11_on_59 rfl ?_
        refine rx_getR dX11_on_60 flX11_58 (sC_0) rfl ?_
        refine rx_aload_n dX11_on_63 rfl ?_
        refine rx_getR dX11_on_64 flX11_54 (sC_0) rfl ?_
        refine rx_cVv_1 clX11_182 dX11_on_67 (rcvo (sC_66) rfl) rfl (c_copyFrom g S53 S66 (by decide) S L hr.y) ?_
        rintro S1 L1 ⟨hC1, hL1⟩
        rw [hL1]
        have hR1 := hr.sc.copy S53 S66 hC1
        refine rx_aload_n dX11_on_70 rfl ?_
        refine rx_getR dX11_on_71 flX11_69 (sC_0) rfl ?_
        refine rx_aload_n dX11_on_74 rfl ?_
        refine rx_getR dX11_on_75 flX11_58 (sC_0) rfl ?_
        refine rx_iload_n dX11_on_78 rfl ?_
        refine rx_cVi_2 clX11_178 dX11_on_79 (rcvo (sC_92) rfl) rfl (c_pass g S66 (gE σ) (gD σ) m S1 L hr.en hR1 (by have := hr.t; omega)) ?_
        rintro x2 S2 L2 ⟨hx2, hR2, hF2, hL2⟩
        rw [hL2, hx2]
        have hr2 := hr.kp ((Kp.cp hC1).trans (Kp.st hF2))
        refine rx_istore_4 rfl dX11_on_82 ?_
        refine rx_iload_n dX11_on_84 rfl ?_
        refine rx_if_eq 101 dX11_on_85 (by decide) (fun h85 => ?_) (fun h85 => absurd h85 (by decide))
        refine rx_iload_n dX11_on_101 rfl ?_
        refine rx_if_ne 118 dX11_on_102 (by decide) (fun h102 => ?_) (fun h102 => ?_)
        · refine rx_iload dX11_on_118 rfl ?_
          exact rx_iret dX11_on_120 rfl ⟨Nat.le_refl _, Nat.le_refl _⟩ ⟨rfl, _, rfl, ⟨by unfold aOn itQ itR; rw [if_neg hnn, if_neg (fun q => q hnr), if_neg hno, hmc]; first | (rw [if_pos h102]; exact congrArg popc hR2.w) | (rw [if_neg h102]; rfl), hr2⟩⟩
        · refine rx_aload_n dX11_on_105 rfl ?_
          refine rx_getR dX11_on_106 flX11_58 (sC_0) rfl ?_
          refine rx_getI dX11_on_109 flX11_175 (sC_66) rfl ?_
          refine rx_cSi_1 clX11_185 dX11_on_112 rfl (c_bitCount g _ S2 L (by rw [hR2.w]; obtain ⟨W, hW, e⟩ := (DOK_it hr.en (seesE σ) (-1) hr.dok m).1; exact ⟨W, Nat.lt_of_lt_of_le hW (pow7 hr.n7), e⟩)) ?_
          refine pur3 ?_
          refine rx_goto 120 dX11_on_115 (by decide) ?_
          exact rx_iret dX11_on_120 rfl ⟨Nat.le_refl _, Nat.le_refl _⟩ ⟨rfl, _, rfl, ⟨by unfold aOn itQ itR; rw [if_neg hnn, if_neg (fun q => q hnr), if_neg hno, hmc]; first | (rw [if_pos h102]; exact congrArg popc hR2.w) | (rw [if_neg h102]; rfl), hr2⟩⟩
      · refine rx_bipush (-2) dX11_on_56 (by decide) ?_
        exact rx_iret dX11_on_58 rfl ⟨Nat.le_refl _, Nat.le_refl _⟩ ⟨rfl, _, rfl, ⟨by unfold aOn; rw [if_neg hnn, if_pos (b2i_eq h53)], hr⟩⟩
    · refine rx_iconst (-1) dX11_on_44 (by decide) ?_
      exact rx_iret dX11_on_45 rfl ⟨Nat.le_refl _, Nat.le_refl _⟩ ⟨rfl, _, rfl, ⟨(if_pos ⟨hno, b2i_eq h41⟩).symm, hr⟩⟩
  · refine rx_aload_n dX11_on_11 rfl ?_
    refine rx_getR dX11_on_12 flX11_54 (sC_0) rfl ?_
    refine rx_iload_n dX11_on_15 rfl ?_
    refine rx_bipush (10) dX11_on_16 (by decide) ?_
    refine rx_isub dX11_on_18 ?_
    refine rx_cVi_1 clX11_104 dX11_on_19 (rcvo (sC_53) rfl) rfl (c_has g S53 _ S L) ?_
    refine pur3 ?_
    rw [hsz]
    refine rx_if_eq 29 dX11_on_22 (by decide) (fun h22 => ?_) (fun h22 => ?_)
    · have hno : ¬ ((10 ≤ what ∧ what ≤ 16) ∧ (0 ≤ what - 10 ∧ what - 10 < nI (nN σ))) := by first | exact fun q => b2i_eq h8 q.1 | exact fun q => b2i_eq h22 q.2
      refine rx_iconst (0) dX11_on_29 (by decide) ?_
      refine rx_istore_3 rfl dX11_on_30 ?_
      refine rx_iload_n dX11_on_31 rfl ?_
      refine rx_if_ne 46 dX11_on_32 (by decide) (fun h32 => absurd h32 (by decide)) (fun h32 => ?_)
      refine rx_iload_n dX11_on_35 rfl ?_
      refine rx_iconst (0) dX11_on_36 (by decide) ?_
      refine rx_iconst (1) dX11_on_37 (by decide) ?_
      refine rx_cSi_3 clX11_92 dX11_on_38 rfl (c_within g _ _ _ S L) ?_
      refine pur3 ?_
      refine rx_if_ne 46 dX11_on_41 (by decide) (fun h41 => ?_) (fun h41 => ?_)
      · have hnn : ¬ (¬ ((10 ≤ what ∧ what ≤ 16) ∧ (0 ≤ what - 10 ∧ what - 10 < nI (nN σ))) ∧ ¬ (0 ≤ what ∧ what ≤ 1)) := by first | exact fun q => q.1 hone | exact fun q => q.2 (b2i_ne h41)
        refine rx_iload_n dX11_on_46 rfl ?_
        refine rx_iconst (0) dX11_on_47 (by decide) ?_
        refine rx_bipush (40) dX11_on_48 (by decide) ?_
        refine rx_cSi_3 clX11_92 dX11_on_50 rfl (c_within g _ _ _ S L) ?_
        refine pur3 ?_
        refine rx_if_ne 59 dX11_on_53 (by decide) (fun h53 => ?_) (fun h53 => ?_)
        · have hnr := b2i_ne h53
          obtain ⟨m, hm, rfl⟩ := rngI 40 (by omega) hnr.1 hnr.2
          have hmc : (nI m).toNatClampNeg = m := nI_clamp (by omega)
          refine rx_aload_n dX11_on_59 rfl ?_
          refine rx_getR dX11_on_60 flX11_58 (sC_0) rfl ?_
          refine rx_aload_n dX11_on_63 rfl ?_
          refine rx_getR dX11_on_64 flX11_54 (sC_0) rfl ?_
          refine rx_cVv_1 clX11_182 dX11_on_67 (rcvo (sC_66) rfl) rfl (c_copyFrom g S53 S66 (by decide) S L hr.y) ?_
          rintro S1 L1 ⟨hC1, hL1⟩
          rw [hL1]
          have hR1 := hr.sc.copy S53 S66 hC1
          refine rx_aload_n dX11_on_70 rfl ?_
          refine rx_getR dX11_on_71 flX11_69 (sC_0) rfl ?_
          refine rx_aload_n dX11_on_74 rfl ?_
          refine rx_getR dX11_on_75 flX11_58 (sC_0) rfl ?_
          refine rx_iload_n dX11_on_78 rfl ?_
          refine rx_cVi_2 clX11_178 dX11_on_79 (rcvo (sC_92) rfl) rfl (c_pass g S66 (gE σ) (gD σ) m S1 L hr.en hR1 (by have := hr.t; omega)) ?_
          rintro x2 S2 L2 ⟨hx2, hR2, hF2, hL2⟩
          rw [hL2, hx2]
          have hr2 := hr.kp ((Kp.cp hC1).trans (Kp.st hF2))
          refine rx_istore_4 rfl dX11_on_82 ?_
          refine rx_iload_n dX11_on_84 rfl ?_
          refine rx_if_eq 101 dX11_on_85 (by decide) (fun h85 => ?_) (fun h85 => absurd h85 (by decide))
          refine rx_iload_n dX11_on_101 rfl ?_
          refine rx_if_ne 118 dX11_on_102 (by decide) (fun h102 => ?_) (fun h102 => ?_)
          · refine rx_iload dX11_on_118 rfl ?_
            exact rx_iret dX11_on_120 rfl ⟨Nat.le_refl _, Nat.le_refl _⟩ ⟨rfl, _, rfl, ⟨by unfold aOn itQ itR; rw [if_neg hnn, if_neg (fun q => q hnr), if_neg hno, hmc]; first | (rw [if_pos h102]; exact congrArg popc hR2.w) | (rw [if_neg h102]; rfl), hr2⟩⟩
          · refine rx_aload_n dX11_on_105 rfl ?_
            refine rx_getR dX11_on_106 flX11_58 (sC_0) rfl ?_
            refine rx_getI dX11_on_109 flX11_175 (sC_66) rfl ?_
            refine rx_cSi_1 clX11_185 dX11_on_112 rfl (c_bitCount g _ S2 L (by rw [hR2.w]; obtain ⟨W, hW, e⟩ := (DOK_it hr.en (seesE σ) (-1) hr.dok m).1; exact ⟨W, Nat.lt_of_lt_of_le hW (pow7 hr.n7), e⟩)) ?_
            refine pur3 ?_
            refine rx_goto 120 dX11_on_115 (by decide) ?_
            exact rx_iret dX11_on_120 rfl ⟨Nat.le_refl _, Nat.le_refl _⟩ ⟨rfl, _, rfl, ⟨by unfold aOn itQ itR; rw [if_neg hnn, if_neg (fun q => q hnr), if_neg hno, hmc]; first | (rw [if_pos h102]; exact congrArg popc hR2.w) | (rw [if_neg h102]; rfl), hr2⟩⟩
        · refine rx_bipush (-2) dX11_on_56 (by decide) ?_
          exact rx_iret dX11_on_58 rfl ⟨Nat.le_refl _, Nat.le_refl _⟩ ⟨rfl, _, rfl, ⟨by unfold aOn; rw [if_neg hnn, if_pos (b2i_eq h53)], hr⟩⟩
      · refine rx_iconst (-1) dX11_on_44 (by decide) ?_
        exact rx_iret dX11_on_45 rfl ⟨Nat.le_refl _, Nat.le_refl _⟩ ⟨rfl, _, rfl, ⟨(if_pos ⟨hno, b2i_eq h41⟩).symm, hr⟩⟩
    · have hone : (10 ≤ what ∧ what ≤ 16) ∧ (0 ≤ what - 10 ∧ what - 10 < nI (nN σ)) := ⟨b2i_ne h8, b2i_ne h22⟩
      refine rx_iconst (1) dX11_on_25 (by decide) ?_
      refine rx_goto 30 dX11_on_26 (by decide) ?_
      refine rx_istore_3 rfl dX11_on_30 ?_
      refine rx_iload_n dX11_on_31 rfl ?_
      refine rx_if_ne 46 dX11_on_32 (by decide) (fun h32 => ?_) (fun h32 => absurd h32 (by decide))
      have hnn : ¬ (¬ ((10 ≤ what ∧ what ≤ 16) ∧ (0 ≤ what - 10 ∧ what - 10 < nI (nN σ))) ∧ ¬ (0 ≤ what ∧ what ≤ 1)) := by first | exact fun q => q.1 hone | exact fun q => q.2 (b2i_ne h41)
      refine rx_iload_n dX11_on_46 rfl ?_
      refine rx_iconst (0) dX11_on_47 (by decide) ?_
      refine rx_bipush (40) dX11_on_48 (by decide) ?_
      refine rx_cSi_3 clX11_92 dX11_on_50 rfl (c_within g _ _ _ S L) ?_
      refine pur3 ?_
      refine rx_if_ne 59 dX11_on_53 (by decide) (fun h53 => ?_) (fun h53 => ?_)
      · have hnr := b2i_ne h53
        obtain ⟨m, hm, rfl⟩ := rngI 40 (by omega) hnr.1 hnr.2
        have hmc : (nI m).toNatClampNeg = m := nI_clamp (by omega)
        refine rx_aload_n dX11_on_59 rfl ?_
        refine rx_getR dX11_on_60 flX11_58 (sC_0) rfl ?_
        refine rx_aload_n dX11_on_63 rfl ?_
        refine rx_getR dX11_on_64 flX11_54 (sC_0) rfl ?_
        refine rx_cVv_1 clX11_182 dX11_on_67 (rcvo (sC_66) rfl) rfl (c_copyFrom g S53 S66 (by decide) S L hr.y) ?_
        rintro S1 L1 ⟨hC1, hL1⟩
        rw [hL1]
        have hR1 := hr.sc.copy S53 S66 hC1
        refine rx_aload_n dX11_on_70 rfl ?_
        refine rx_getR dX11_on_71 flX11_69 (sC_0) rfl ?_
        refine rx_aload_n dX11_on_74 rfl ?_
        refine rx_getR dX11_on_75 flX11_58 (sC_0) rfl ?_
        refine rx_iload_n dX11_on_78 rfl ?_
        refine rx_cVi_2 clX11_178 dX11_on_79 (rcvo (sC_92) rfl) rfl (c_pass g S66 (gE σ) (gD σ) m S1 L hr.en hR1 (by have := hr.t; omega)) ?_
        rintro x2 S2 L2 ⟨hx2, hR2, hF2, hL2⟩
        rw [hL2, hx2]
        have hr2 := hr.kp ((Kp.cp hC1).trans (Kp.st hF2))
        refine rx_istore_4 rfl dX11_on_82 ?_
        refine rx_iload_n dX11_on_84 rfl ?_
        refine rx_if_eq 101 dX11_on_85 (by decide) (fun h85 => absurd h85 (by decide)) (fun h85 => ?_)
        refine rx_aload_n dX11_on_88 rfl ?_
        refine rx_getR dX11_on_89 flX11_58 (sC_0) rfl ?_
        refine rx_getR dX11_on_92 flX11_118 (sC_66) rfl ?_
        refine rx_iload_n dX11_on_95 rfl ?_
        refine rx_bipush (10) dX11_on_96 (by decide) ?_
        refine rx_isub dX11_on_98 ?_
        obtain ⟨c, hc, ec⟩ := rngL (nN σ) (by have := hr.n7; unfold nN; omega) hone.2.1 hone.2.2
        have hc7 : c < 7 := by have := hr.n7; unfold nN at hc; omega
        rw [ec]
        have hvc : vp_in (nI c) 7 := vp_in_nI hc7 (by omega)
        refine rx_iaload dX11_on_99 (sC_69) hvc ?_
        have hci : (nI c).toNatClampNeg = c := nI_clamp (by omega)
        rw [hci]
        exact rx_iret dX11_on_100 rfl ⟨Nat.le_refl _, Nat.le_refl _⟩ ⟨rfl, _, rfl, ⟨by unfold aOn itQ; rw [if_neg hnn, if_neg (fun q => q hnr), if_pos hone, ec, hci, hmc]; exact hR2.a hc7, hr2⟩⟩
      · refine rx_bipush (-2) dX11_on_56 (by decide) ?_
        exact rx_iret dX11_on_58 rfl ⟨Nat.le_refl _, Nat.le_refl _⟩ ⟨rfl, _, rfl, ⟨by unfold aOn; rw [if_neg hnn, if_pos (b2i_eq h53)], hr⟩⟩
set_option maxRecDepth 20000 in
set_option maxHeartbeats 1000000 in
theorem cc_touches (g : GG) (σ : SIG) (c : Int32) (S : SS) (L : LL) (hr : CRel S L σ) : Ci g 7 mX11_touches [.ref 0, .int c] SHC S L (fun r S' L' => r = aTouches σ c ∧ CRel S' L' σ) := by
  have hsz : S 53 6 = nI (nN σ) := hr.sc.1
  refine ct_of (ls := [some (.ref 0), some (.int c)]) 0 (by decide +kernel) rfl rfl ?_
  refine rx_aload_n dX11_touches_0 rfl ?_
  refine rx_getR dX11_touches_1 flX11_54 (sC_0) rfl ?_
  refine rx_iload_n dX11_touches_4 rfl ?_
  refine rx_cVi_1 clX11_104 dX11_touches_5 (rcvo (sC_53) rfl) rfl (c_has g S53 _ S L) ?_
  refine pur3 ?_
  rw [hsz]
  refine rx_if_ne 13 dX11_touches_8 (by decide) (fun h8 => ?_) (fun h8 => ?_)
  · refine rx_aload_n dX11_touches_13 rfl ?_
    refine rx_getR dX11_touches_14 flX11_58 (sC_0) rfl ?_
    refine rx_aload_n dX11_touches_17 rfl ?_
    refine rx_getR dX11_touches_18 flX11_54 (sC_0) rfl ?_
    refine rx_cVv_1 clX11_182 dX11_touches_21 (rcvo (sC_66) rfl) rfl (c_copyFrom g S53 S66 (by decide) S L hr.y) ?_
    rintro S1 L1 ⟨hC1, hL1⟩
    rw [hL1]
    have hR1 := hr.sc.copy S53 S66 hC1
    refine rx_aload_n dX11_touches_24 rfl ?_
    refine rx_getR dX11_touches_25 flX11_69 (sC_0) rfl ?_
    refine rx_aload_n dX11_touches_28 rfl ?_
    refine rx_getR dX11_touches_29 flX11_58 (sC_0) rfl ?_
    refine rx_iconst (1) dX11_touches_32 (by decide) ?_
    refine rx_iload_n dX11_touches_33 rfl ?_
    refine rx_ishl dX11_touches_34 ?_
    refine rx_cVi_2 clX11_190 dX11_touches_35 (rcvo (sC_92) rfl) rfl (c_untilWall g S66 (gE σ) (gD σ) _ S1 L hr.en hR1 (by have := hr.t; omega)) ?_
    rintro x2 S2 L2 ⟨hx2, hR2, hF2, hL2⟩
    rw [hL2, hx2]
    have hr2 := hr.kp ((Kp.cp hC1).trans (Kp.st hF2))
    exact rx_iret dX11_touches_38 rfl ⟨Nat.le_refl _, Nat.le_refl _⟩ ⟨rfl, _, rfl, ⟨(if_pos (b2i_ne h8)).symm, hr2⟩⟩
  · refine rx_iconst (-1) dX11_touches_11 (by decide) ?_
    exact rx_iret dX11_touches_12 rfl ⟨Nat.le_refl _, Nat.le_refl _⟩ ⟨rfl, _, rfl, ⟨(if_neg (b2i_eq h8)).symm, hr⟩⟩
set_option maxRecDepth 20000 in
set_option maxHeartbeats 400000 in
theorem cc_who (g : GG) (σ : SIG) (n h : Int32) (S : SS) (L : LL) (hr : CRel S L σ) : Ci g 7 mX11_who [.ref 0, .int n, .int h] SHC S L (fun r S' L' => r = aWho σ n h ∧ CRel S' L' σ) := by
  refine ct_of (ls := [some (.ref 0), some (.int n), some (.int h), none, none]) 2 (by decide +kernel) rfl rfl ?_
  refine rx_iload_n dX11_who_0 rfl ?_
  refine rx_iconst (0) dX11_who_1 (by decide) ?_
  refine rx_bipush (20) dX11_who_2 (by decide) ?_
  refine rx_cSi_3 clX11_92 dX11_who_4 rfl (c_within g _ _ _ S L) ?_
  refine pur3 ?_
  refine rx_if_eq 20 dX11_who_7 (by decide) (fun h7 => ?_) (fun h7 => ?_)
  · refine rx_bipush (-2) dX11_who_20 (by decide) ?_
    exact rx_iret dX11_who_22 rfl ⟨Nat.le_refl _, Nat.le_refl _⟩ ⟨rfl, _, rfl, ⟨(if_neg (by first | exact fun q => b2i_eq h7 q.1 | exact fun q => b2i_eq h17 q.2)).symm, hr⟩⟩
  · refine rx_iload_n dX11_who_10 rfl ?_
    refine rx_iconst (0) dX11_who_11 (by decide) ?_
    refine rx_bipush (99) dX11_who_12 (by decide) ?_
    refine rx_cSi_3 clX11_92 dX11_who_14 rfl (c_within g _ _ _ S L) ?_
    refine pur3 ?_
    refine rx_if_ne 23 dX11_who_17 (by decide) (fun h17 => ?_) (fun h17 => ?_)
    · have hq1 := b2i_ne h7
      have hq2 := b2i_ne h17
      obtain ⟨m, hm, rfl⟩ := rngI 20 (by omega) hq1.1 hq1.2
      have hmc : (nI m).toNatClampNeg = m := nI_clamp (by omega)
      refine rx_aload_n dX11_who_23 rfl ?_
      refine rx_getR dX11_who_24 flX11_58 (sC_0) rfl ?_
      refine rx_aload_n dX11_who_27 rfl ?_
      refine rx_getR dX11_who_28 flX11_54 (sC_0) rfl ?_
      refine rx_cVv_1 clX11_182 dX11_who_31 (rcvo (sC_66) rfl) rfl (c_copyFrom g S53 S66 (by decide) S L hr.y) ?_
      rintro S1 L1 ⟨hC1, hL1⟩
      rw [hL1]
      have hR1 := hr.sc.copy S53 S66 hC1
      refine rx_aload_n dX11_who_34 rfl ?_
      refine rx_getR dX11_who_35 flX11_69 (sC_0) rfl ?_
      refine rx_aload_n dX11_who_38 rfl ?_
      refine rx_getR dX11_who_39 flX11_58 (sC_0) rfl ?_
      refine rx_iload_n dX11_who_42 rfl ?_
      refine rx_cVi_2 clX11_178 dX11_who_43 (rcvo (sC_92) rfl) rfl (c_pass g S66 (gE σ) (gD σ) m S1 L hr.en hR1 (by have := hr.t; omega)) ?_
      rintro x2 S2 L2 ⟨hx2, hR2, hF2, hL2⟩
      rw [hL2, hx2]
      have hr2 := hr.kp ((Kp.cp hC1).trans (Kp.st hF2))
      refine rx_pop dX11_who_46 rfl ?_
      refine rx_iconst (0) dX11_who_47 (by decide) ?_
      refine rx_istore_3 rfl dX11_who_48 ?_
      refine rx_iconst (0) dX11_who_49 (by decide) ?_
      refine rx_istore_4 rfl dX11_who_50 ?_
      have hsz2 : S2 66 6 = nI (nN σ) := hR2.1
      have hn7 : nN σ ≤ 7 := hr.n7
      have e0 : itD (gE σ) (eY (gE σ)).2.2.1 (-1) m (gD σ) = itQ σ (nI m) := by unfold itQ; rw [hmc]; rfl
      rw [e0] at hR2
      have loop : ∀ (r c : Nat), c ≤ nN σ → c + r = nN σ → Rx g 7 0 0 mX11_who SHC.length (fun r sh' S' L' => sh' = SHC ∧ ∃ x, r = some (.int x) ∧ (x = aWho σ (nI m) h ∧ CRel S' L' σ)) 0 0 52 [some (.ref 0), some (.int (nI m)), some (.int h), some (.int (whoP (dA (itQ σ (nI m))) h c)), some (.int (nI c))] [] SHC S2 L := by
        intro r
        induction r with
        | zero =>
          intro c hc1 hc2
          have hcn : c = nN σ := by omega
          refine rx_iload dX11_who_52 rfl ?_
          refine rx_aload_n dX11_who_54 rfl ?_
          refine rx_getR dX11_who_55 flX11_58 (sC_0) rfl ?_
          refine rx_getI dX11_who_58 flX11_96 (sC_66) rfl ?_
          refine rx_icmp_ge 91 dX11_who_61 (by decide) (fun h61 => ?_) (fun h61 => absurd (by rw [hsz2]; exact nI_le (by omega) (by omega)) h61)
          refine rx_iload_n dX11_who_91 rfl ?_
          exact rx_iret dX11_who_92 rfl ⟨Nat.le_refl _, Nat.le_refl _⟩ ⟨rfl, _, rfl, ⟨by unfold aWho; rw [if_pos ⟨hq1, hq2⟩, hcn], hr2⟩⟩
        | succ r ih =>
          intro c hc1 hc2
          have hc7 : c < 7 := by omega
          have hci : (nI c).toNatClampNeg = c := nI_clamp (by omega)
          have hvc : vp_in (nI c) 7 := vp_in_nI hc7 (by omega)
          have hac : S2 69 c = dA (itQ σ (nI m)) c := hR2.a hc7
          refine rx_iload dX11_who_52 rfl ?_
          refine rx_aload_n dX11_who_54 rfl ?_
          refine rx_getR dX11_who_55 flX11_58 (sC_0) rfl ?_
          refine rx_getI dX11_who_58 flX11_96 (sC_66) rfl ?_
          refine rx_icmp_ge 91 dX11_who_61 (by decide) (fun h61 => absurd h61 (by rw [hsz2]; exact nI_ge (by omega) (by omega))) (fun h61 => ?_)
          refine rx_aload_n dX11_who_64 rfl ?_
          refine rx_getR dX11_who_65 flX11_58 (sC_0) rfl ?_
          refine rx_getR dX11_who_68 flX11_118 (sC_66) rfl ?_
          refine rx_iload dX11_who_71 rfl ?_
          refine rx_iaload dX11_who_73 (sC_69) hvc ?_
          rw [hci, hac]
          refine rx_iload_n dX11_who_74 rfl ?_
          refine rx_icmp_ne 85 dX11_who_75 (by decide) (fun h75 => ?_) (fun h75 => ?_)
          · refine rx_iinc_4 (1) rfl dX11_who_85 (by decide) ?_
            refine rx_goto 52 dX11_who_88 (by decide) ?_
            rw [nI_1, show whoP (dA (itQ σ (nI m))) h c = whoP (dA (itQ σ (nI m))) h (c + 1) from (if_neg h75).symm]
            exact ih (c + 1) (by omega) (by omega)
          · have hq : dA (itQ σ (nI m)) c = h := h75
            refine rx_iload_n dX11_who_78 rfl ?_
            refine rx_iconst (1) dX11_who_79 (by decide) ?_
            refine rx_iload dX11_who_80 rfl ?_
            refine rx_ishl dX11_who_82 ?_
            refine rx_ior dX11_who_83 ?_
            refine rx_istore_3 rfl dX11_who_84 ?_
            refine rx_iinc_4 (1) rfl dX11_who_85 (by decide) ?_
            refine rx_goto 52 dX11_who_88 (by decide) ?_
            rw [nI_1, show whoP (dA (itQ σ (nI m))) h c ||| (1 <<< (nI c &&& 31)) = whoP (dA (itQ σ (nI m))) h (c + 1) from (if_pos hq).symm]
            exact ih (c + 1) (by omega) (by omega)
      exact loop (nN σ) 0 (by omega) (by omega)
    · refine rx_bipush (-2) dX11_who_20 (by decide) ?_
      exact rx_iret dX11_who_22 rfl ⟨Nat.le_refl _, Nat.le_refl _⟩ ⟨rfl, _, rfl, ⟨(if_neg (by first | exact fun q => b2i_eq h7 q.1 | exact fun q => b2i_eq h17 q.2)).symm, hr⟩⟩
