-- FRACTION
def pfB (a b : Nat) : Nat → Nat
  | 0 => 1
  | d + 1 => if a % (d + 1) = 0 ∧ b % (d + 1) = 0 then d + 1 else pfB a b d
theorem pfB_rng (a b : Nat) : ∀ k, 1 ≤ pfB a b k ∧ pfB a b k ≤ k + 1
  | 0 => ⟨Nat.le_refl _, Nat.le_refl _⟩
  | d + 1 => by
    have h := pfB_rng a b d
    unfold pfB
    by_cases q : a % (d + 1) = 0 ∧ b % (d + 1) = 0
    · rw [if_pos q]; omega
    · rw [if_neg q]; omega
theorem pfB_1 (a b : Nat) : pfB a b 1 = 1 := by
  unfold pfB
  by_cases q : a % (0 + 1) = 0 ∧ b % (0 + 1) = 0
  · rw [if_pos q]
  · rw [if_neg q]; rfl
def aPF (a b : Nat) (part : Int32) : Int64 := if part = 0 then (nI (a / pfB a b b)).toInt64 else (nI (b / pfB a b b)).toInt64
-- ODDS, MEAN
def shT (D : DY) (k : Nat) : DY := (dA D, dW D, dT D + k, dS D)
theorem StF.up9 {b : Nat} {S : SS} {x : Int32} : StF b S (upS S b 9 x) := ⟨fun j h1 _ _ _ => upS_off _ _ _ _ h1, fun k _ h1 => by rw [upS_row]; exact pk_un h1⟩
theorem ScR.shT {b : Nat} (hb : Sc b) {S : SS} {E : EN} {D : DY} (h : ScR b S E D) (hT : dT D ≤ 9999) (k : Nat) (hk : k ≤ 4) : ScR b (upS S b 9 (S b 9 + nI k)) E (shT D k) := by
  have hbl := hb.le
  have h9 : S b 9 = nI (dT D) := h.2.2.2.2.2.2.2.2.2.1
  refine h.step hb StF.up9 (fun c' hc => ?_) ?_ ?_ ?_ (fun c' hc => ?_)
  · rw [upS_off _ _ _ _ (by omega)]; exact h.a hc
  · rw [upS_row, pk_un (by decide)]; exact h.w
  · rw [upS_at, h9, nI_add]; rfl
  · show dT D + k < 20000; omega
  · rw [upS_off _ _ _ _ (by omega)]; exact h.2.2.2.2.2.2.2.2.2.2.2 c' hc
def odT (σ : SIG) (m k : Nat) : Int32 := itB (gE σ) (seesE σ) (-1) m (shT (gD σ) k)
def odC (σ : SIG) (m : Nat) : Nat → Nat
  | 0 => 0
  | k + 1 => if odT σ m k = 0 then odC σ m k + 1 else odC σ m k
theorem odC_le (σ : SIG) (m : Nat) : ∀ k, odC σ m k ≤ k
  | 0 => Nat.le_refl _
  | k + 1 => by
    have h := odC_le σ m k
    unfold odC
    by_cases q : odT σ m k = 0
    · rw [if_pos q]; omega
    · rw [if_neg q]; omega
def aOdds (σ : SIG) (n part : Int32) : Int64 := if ¬ (1 ≤ n ∧ n ≤ 20) ∨ ¬ (0 ≤ part ∧ part ≤ 1) then -9223372036854775808 else aPF (odC σ n.toNatClampNeg 4) 4 part
def sumP (a : Nat → Int32) : Nat → Nat
  | 0 => 0
  | c + 1 => sumP a c + (a c).toNatClampNeg
theorem sumP_le {a : Nat → Int32} {n : Nat} (h : ∀ c, c < n → ∃ x, x ≤ 99 ∧ a c = nI x) : ∀ k, k ≤ n → sumP a k ≤ 99 * k
  | 0, _ => Nat.le_refl _
  | k + 1, hk => by
    obtain ⟨x, hx, e⟩ := h k (by omega)
    have h1 := sumP_le h k (by omega)
    have e1 : (a k).toNatClampNeg = x := by rw [e]; exact nI_clamp (by omega)
    show sumP a k + (a k).toNatClampNeg ≤ 99 * (k + 1)
    omega
def aMean (σ : SIG) (n part : Int32) : Int64 := if ¬ (0 ≤ n ∧ n ≤ 40) ∨ ¬ (0 ≤ part ∧ part ≤ 1) ∨ nN σ = 0 then -9223372036854775808 else aPF (sumP (dA (itQ σ n)) (nN σ)) (nN σ) part

set_option maxRecDepth 20000 in
set_option maxHeartbeats 400000 in
theorem c_partOf (g : GG) {sh : List CS} (a b : Nat) (part : Int32) (S : SS) (L : LL) (ha : a < 700) (hb : b < 8) (hb1 : 1 ≤ b) : Cl g 0 mX11_partOfFraction [.int (nI a), .int (nI b), .int part] sh S L (fun x S' L' => x = aPF a b part ∧ S' = S ∧ L' = L) := by
  refine ct_of (ls := [some (.int (nI a)), some (.int (nI b)), some (.int part), none, none]) 2 (by decide +kernel) rfl rfl ?_
  refine rx_iconst (1) dX11_partOfFraction_0 (by decide) ?_
  refine rx_istore_3 rfl dX11_partOfFraction_1 ?_
  refine rx_iconst (2) dX11_partOfFraction_2 (by decide) ?_
  refine rx_istore_4 rfl dX11_partOfFraction_3 ?_
  have loop : ∀ (r d : Nat), d + r = b → 1 ≤ d → Rx g 0 0 0 mX11_partOfFraction sh.length (fun r sh' S' L' => sh' = sh ∧ ∃ x, r = some (.long x) ∧ (x = aPF a b part ∧ S' = S ∧ L' = L)) 0 0 5 [some (.int (nI a)), some (.int (nI b)), some (.int part), some (.int (nI (pfB a b d))), some (.int (nI (d + 1)))] [] sh S L := by
    intro r
    induction r with
    | zero =>
      intro d hd h1
      obtain rfl : d = b := by omega
      have hpr := pfB_rng a d d
      have hp0 : ¬ nI (pfB a d d) = 0 := fun q => by have := (nI_eq (b := 0) (by omega) (by omega)).mp q; omega
      refine rx_iload dX11_partOfFraction_5 rfl ?_
      refine rx_iload_n dX11_partOfFraction_7 rfl ?_
      refine rx_icmp_gt 34 dX11_partOfFraction_8 (by decide) (fun h8 => ?_) (fun h8 => absurd (nI_lt (a := d) (b := d + 1) (by omega) (by omega)) h8)
      refine rx_iload_n dX11_partOfFraction_34 rfl ?_
      refine rx_if_ne 45 dX11_partOfFraction_35 (by decide) (fun h35 => ?_) (fun h35 => ?_)
      · refine rx_iload_n dX11_partOfFraction_45 rfl ?_
        refine rx_iload_n dX11_partOfFraction_46 rfl ?_
        refine rx_idiv dX11_partOfFraction_47 hp0 ?_
        rw [pk_div (by omega) (by omega) (by omega)]
        refine rx_i2l dX11_partOfFraction_48 ?_
        exact rx_lret dX11_partOfFraction_49 rfl ⟨Nat.le_refl _, Nat.le_refl _⟩ ⟨rfl, _, rfl, ⟨(if_neg h35).symm, rfl, rfl⟩⟩
      · refine rx_iload_n dX11_partOfFraction_38 rfl ?_
        refine rx_iload_n dX11_partOfFraction_39 rfl ?_
        refine rx_idiv dX11_partOfFraction_40 hp0 ?_
        rw [pk_div (by omega) (by omega) (by omega)]
        refine rx_i2l dX11_partOfFraction_41 ?_
        refine rx_goto 49 dX11_partOfFraction_42 (by decide) ?_
        exact rx_lret dX11_partOfFraction_49 rfl ⟨Nat.le_refl _, Nat.le_refl _⟩ ⟨rfl, _, rfl, ⟨(if_pos h35).symm, rfl, rfl⟩⟩
    | succ r ih =>
      intro d hd h1
      have hd0 : ¬ nI (d + 1) = 0 := fun q => by have := (nI_eq (b := 0) (by omega) (by omega)).mp q; omega
      refine rx_iload dX11_partOfFraction_5 rfl ?_
      refine rx_iload_n dX11_partOfFraction_7 rfl ?_
      refine rx_icmp_gt 34 dX11_partOfFraction_8 (by decide) (fun h8 => absurd h8 (Int32.not_lt.mpr (nI_le (a := d + 1) (b := b) (by omega) (by omega)))) (fun h8 => ?_)
      refine rx_iload_n dX11_partOfFraction_11 rfl ?_
      refine rx_iload dX11_partOfFraction_12 rfl ?_
      refine rx_irem dX11_partOfFraction_14 hd0 ?_
      refine rx_if_ne 28 dX11_partOfFraction_15 (by decide) (fun h15 => ?_) (fun h15 => ?_)
      · first | have hmA2 : ¬ a % (d + 1) = 0 := (fun q => h15 (by rw [pk_rem (by omega) (by omega) (by omega), q]; rfl)) | have hmB2 : ¬ b % (d + 1) = 0 := (fun q => h22 (by rw [pk_rem (by omega) (by omega) (by omega), q]; rfl)) | skip
        refine rx_iinc_4 (1) rfl dX11_partOfFraction_28 (by decide) ?_
        refine rx_goto 5 dX11_partOfFraction_31 (by decide) ?_
        have e1 : pfB a b (d + 1) = pfB a b d := if_neg (fun q => hmA2 q.1)
        rw [nI_1]
        have hg := ih (d + 1) (by omega) (by omega)
        rw [e1] at hg
        exact hg
      · have hmA : a % (d + 1) = 0 := by rw [pk_rem (by omega) (by omega) (by omega)] at h15; exact (nI_eq (by have := Nat.mod_lt a (show d + 1 > 0 by omega); omega) (by omega)).mp h15
        refine rx_iload_n dX11_partOfFraction_18 rfl ?_
        refine rx_iload dX11_partOfFraction_19 rfl ?_
        refine rx_irem dX11_partOfFraction_21 hd0 ?_
        refine rx_if_ne 28 dX11_partOfFraction_22 (by decide) (fun h22 => ?_) (fun h22 => ?_)
        · first | have hmA2 : ¬ a % (d + 1) = 0 := (fun q => h15 (by rw [pk_rem (by omega) (by omega) (by omega), q]; rfl)) | have hmB2 : ¬ b % (d + 1) = 0 := (fun q => h22 (by rw [pk_rem (by omega) (by omega) (by omega), q]; rfl)) | skip
          refine rx_iinc_4 (1) rfl dX11_partOfFraction_28 (by decide) ?_
          refine rx_goto 5 dX11_partOfFraction_31 (by decide) ?_
          have e1 : pfB a b (d + 1) = pfB a b d := if_neg (fun q => hmB2 q.2)
          rw [nI_1]
          have hg := ih (d + 1) (by omega) (by omega)
          rw [e1] at hg
          exact hg
        · have hmB : b % (d + 1) = 0 := by rw [pk_rem (by omega) (by omega) (by omega)] at h22; exact (nI_eq (by have := Nat.mod_lt b (show d + 1 > 0 by omega); omega) (by omega)).mp h22
          refine rx_iload dX11_partOfFraction_25 rfl ?_
          refine rx_istore_3 rfl dX11_partOfFraction_27 ?_
          first | have hmA2 : ¬ a % (d + 1) = 0 := (fun q => h15 (by rw [pk_rem (by omega) (by omega) (by omega), q]; rfl)) | have hmB2 : ¬ b % (d + 1) = 0 := (fun q => h22 (by rw [pk_rem (by omega) (by omega) (by omega), q]; rfl)) | skip
          refine rx_iinc_4 (1) rfl dX11_partOfFraction_28 (by decide) ?_
          refine rx_goto 5 dX11_partOfFraction_31 (by decide) ?_
          have e1 : pfB a b (d + 1) = d + 1 := if_pos ⟨hmA, hmB⟩
          rw [nI_1]
          have hg := ih (d + 1) (by omega) (by omega)
          rw [e1] at hg
          exact hg
  have hg := loop (b - 1) 1 (by omega) (by omega)
  rw [pfB_1] at hg
  exact hg
set_option maxRecDepth 20000 in
set_option maxHeartbeats 400000 in
theorem cc_odds (g : GG) (σ : SIG) (n part : Int32) (S : SS) (L : LL) (hr : CRel S L σ) : Cl g 7 mX11_odds [.ref 0, .int n, .int part] SHC S L (fun x S' L' => x = aOdds σ n part ∧ CRel S' L' σ) := by
  refine ct_of (ls := [some (.ref 0), some (.int n), some (.int part), none, none]) 2 (by decide +kernel) rfl rfl ?_
  refine rx_iload_n dX11_odds_0 rfl ?_
  refine rx_iconst (1) dX11_odds_1 (by decide) ?_
  refine rx_bipush (20) dX11_odds_2 (by decide) ?_
  refine rx_cSi_3 clX11_92 dX11_odds_4 rfl (c_within g _ _ _ S L) ?_
  refine pur3 ?_
  refine rx_if_eq 19 dX11_odds_7 (by decide) (fun h7 => ?_) (fun h7 => ?_)
  · refine rx_ldc2 (-9223372036854775808) dX11_odds_19 w_744 ?_
    exact rx_lret dX11_odds_22 rfl ⟨Nat.le_refl _, Nat.le_refl _⟩ ⟨rfl, _, rfl, ⟨(if_pos (by first | exact Or.inl (b2i_eq h7) | exact Or.inr (b2i_eq h16))).symm, hr⟩⟩
  · refine rx_iload_n dX11_odds_10 rfl ?_
    refine rx_iconst (0) dX11_odds_11 (by decide) ?_
    refine rx_iconst (1) dX11_odds_12 (by decide) ?_
    refine rx_cSi_3 clX11_92 dX11_odds_13 rfl (c_within g _ _ _ S L) ?_
    refine pur3 ?_
    refine rx_if_ne 23 dX11_odds_16 (by decide) (fun h16 => ?_) (fun h16 => ?_)
    · have hq1 := b2i_ne h7
      have hq2 := b2i_ne h16
      obtain ⟨m, hm, rfl⟩ := rngI 20 (by omega) (Int32.le_trans (by decide) hq1.1) hq1.2
      have hmc : (nI m).toNatClampNeg = m := nI_clamp (by omega)
      refine rx_iconst (0) dX11_odds_23 (by decide) ?_
      refine rx_istore_3 rfl dX11_odds_24 ?_
      refine rx_iconst (0) dX11_odds_25 (by decide) ?_
      refine rx_istore_4 rfl dX11_odds_26 ?_
      have loop : ∀ (r k : Nat) (S1 : SS), k + r = 4 → CRel S1 L σ → Rx g 7 0 0 mX11_odds SHC.length (fun r sh' S' L' => sh' = SHC ∧ ∃ x, r = some (.long x) ∧ (x = aOdds σ (nI m) part ∧ CRel S' L' σ)) 0 0 28 [some (.ref 0), some (.int (nI m)), some (.int part), some (.int (nI (odC σ m k))), some (.int (nI k))] [] SHC S1 L := by
        intro r
        induction r with
        | zero =>
          intro k S1 he hr1
          have hk4 : k = 4 := by omega
          subst hk4
          refine rx_iload dX11_odds_28 rfl ?_
          refine rx_iconst (4) dX11_odds_30 (by decide) ?_
          refine rx_icmp_ge 83 dX11_odds_31 (by decide) (fun h31 => ?_) (fun h31 => absurd (nI_le (a := 4) (b := 4) (by omega) (by omega)) h31)
          refine rx_iload_n dX11_odds_83 rfl ?_
          refine rx_iconst (4) dX11_odds_84 (by decide) ?_
          refine rx_iload_n dX11_odds_85 rfl ?_
          refine rx_cSl_3 clX11_220 dX11_odds_86 rfl (c_partOf g (odC σ m 4) 4 part S1 L (by have := odC_le σ m 4; omega) (by decide) (by decide)) ?_
          refine pur3 ?_
          exact rx_lret dX11_odds_89 rfl ⟨Nat.le_refl _, Nat.le_refl _⟩ ⟨rfl, _, rfl, ⟨by unfold aOdds; rw [if_neg (fun q => q.elim (fun w => w hq1) (fun w => w hq2)), hmc], hr1⟩⟩
        | succ r ih =>
          intro k S1 he hr1
          refine rx_iload dX11_odds_28 rfl ?_
          refine rx_iconst (4) dX11_odds_30 (by decide) ?_
          refine rx_icmp_ge 83 dX11_odds_31 (by decide) (fun h31 => absurd h31 (nI_ge (a := k) (b := 4) (by omega) (by omega))) (fun h31 => ?_)
          refine rx_aload_n dX11_odds_34 rfl ?_
          refine rx_getR dX11_odds_35 flX11_58 (sC_0) rfl ?_
          refine rx_aload_n dX11_odds_38 rfl ?_
          refine rx_getR dX11_odds_39 flX11_54 (sC_0) rfl ?_
          refine rx_cVv_1 clX11_182 dX11_odds_42 (rcvo (sC_66) rfl) rfl (c_copyFrom g S53 S66 (by decide) S1 L hr1.y) ?_
          rintro S2 L2 ⟨hC1, hL2⟩
          rw [hL2]
          have hR1 := hr1.sc.copy S53 S66 hC1
          refine rx_aload_n dX11_odds_45 rfl ?_
          refine rx_getR dX11_odds_46 flX11_58 (sC_0) rfl ?_
          refine rx_dup dX11_odds_49 rfl ?_
          refine rx_getI dX11_odds_50 flX11_166 (sC_66) rfl ?_
          refine rx_iload dX11_odds_53 rfl ?_
          refine rx_iadd dX11_odds_55 ?_
          refine rx_putI dX11_odds_56 flX11_166 (sC_66) rfl ?_
          refine rx_aload_n dX11_odds_59 rfl ?_
          refine rx_getR dX11_odds_60 flX11_69 (sC_0) rfl ?_
          refine rx_aload_n dX11_odds_63 rfl ?_
          refine rx_getR dX11_odds_64 flX11_58 (sC_0) rfl ?_
          refine rx_iload_n dX11_odds_67 rfl ?_
          refine rx_cVi_2 clX11_178 dX11_odds_68 (rcvo (sC_92) rfl) rfl (c_pass g S66 (gE σ) (shT (gD σ) k) m _ L hr1.en (hR1.shT S66 hr1.t k (by omega)) (by show dT (gD σ) + k + m < 19999; have := hr1.t; omega)) ?_
          rintro x3 S3 L3 ⟨hx3, hR3, hF3, hL3⟩
          have hx4 : x3 = odT σ m k := hx3
          rw [hL3, hx4]
          have hr3 := hr1.kp (((Kp.cp hC1).trans (Kp.up (by decide))).trans (Kp.st hF3))
          refine rx_if_ne 77 dX11_odds_71 (by decide) (fun h71 => ?_) (fun h71 => ?_)
          · refine rx_iinc_4 (1) rfl dX11_odds_77 (by decide) ?_
            refine rx_goto 28 dX11_odds_80 (by decide) ?_
            have e1 : odC σ m (k + 1) = odC σ m k := if_neg h71
            rw [nI_1]
            have hg := ih (k + 1) S3 (by omega) hr3
            rw [e1] at hg
            exact hg
          · refine rx_iinc_3 (1) rfl dX11_odds_74 (by decide) ?_
            refine rx_iinc_4 (1) rfl dX11_odds_77 (by decide) ?_
            refine rx_goto 28 dX11_odds_80 (by decide) ?_
            have e1 : odC σ m (k + 1) = odC σ m k + 1 := if_pos h71
            rw [nI_1, nI_1]
            have hg := ih (k + 1) S3 (by omega) hr3
            rw [e1] at hg
            exact hg
      exact loop 4 0 S (by omega) hr
    · refine rx_ldc2 (-9223372036854775808) dX11_odds_19 w_744 ?_
      exact rx_lret dX11_odds_22 rfl ⟨Nat.le_refl _, Nat.le_refl _⟩ ⟨rfl, _, rfl, ⟨(if_pos (by first | exact Or.inl (b2i_eq h7) | exact Or.inr (b2i_eq h16))).symm, hr⟩⟩
set_option maxRecDepth 20000 in
set_option maxHeartbeats 400000 in
theorem cc_mean (g : GG) (σ : SIG) (n part : Int32) (S : SS) (L : LL) (hr : CRel S L σ) : Cl g 7 mX11_mean [.ref 0, .int n, .int part] SHC S L (fun x S' L' => x = aMean σ n part ∧ CRel S' L' σ) := by
  refine ct_of (ls := [some (.ref 0), some (.int n), some (.int part), none, none]) 2 (by decide +kernel) rfl rfl ?_
  refine rx_iload_n dX11_mean_0 rfl ?_
  refine rx_iconst (0) dX11_mean_1 (by decide) ?_
  refine rx_bipush (40) dX11_mean_2 (by decide) ?_
  refine rx_cSi_3 clX11_92 dX11_mean_4 rfl (c_within g _ _ _ S L) ?_
  refine pur3 ?_
  refine rx_if_eq 29 dX11_mean_7 (by decide) (fun h7 => ?_) (fun h7 => ?_)
  · refine rx_ldc2 (-9223372036854775808) dX11_mean_29 w_744 ?_
    exact rx_lret dX11_mean_32 rfl ⟨Nat.le_refl _, Nat.le_refl _⟩ ⟨rfl, _, rfl, ⟨(if_pos (by first | exact Or.inl (b2i_eq h7) | exact Or.inr (Or.inl (b2i_eq h16)) | exact Or.inr (Or.inr ((nI_eq (Nat.lt_of_le_of_lt hr.n7 (by decide)) (by omega)).mp h26)))).symm, hr⟩⟩
  · refine rx_iload_n dX11_mean_10 rfl ?_
    refine rx_iconst (0) dX11_mean_11 (by decide) ?_
    refine rx_iconst (1) dX11_mean_12 (by decide) ?_
    refine rx_cSi_3 clX11_92 dX11_mean_13 rfl (c_within g _ _ _ S L) ?_
    refine pur3 ?_
    refine rx_if_eq 29 dX11_mean_16 (by decide) (fun h16 => ?_) (fun h16 => ?_)
    · refine rx_ldc2 (-9223372036854775808) dX11_mean_29 w_744 ?_
      exact rx_lret dX11_mean_32 rfl ⟨Nat.le_refl _, Nat.le_refl _⟩ ⟨rfl, _, rfl, ⟨(if_pos (by first | exact Or.inl (b2i_eq h7) | exact Or.inr (Or.inl (b2i_eq h16)) | exact Or.inr (Or.inr ((nI_eq (Nat.lt_of_le_of_lt hr.n7 (by decide)) (by omega)).mp h26)))).symm, hr⟩⟩
    · refine rx_aload_n dX11_mean_19 rfl ?_
      refine rx_getR dX11_mean_20 flX11_54 (sC_0) rfl ?_
      refine rx_getI dX11_mean_23 flX11_96 (sC_53) rfl ?_
      rw [hr.sc.1]
      refine rx_if_ne 33 dX11_mean_26 (by decide) (fun h26 => ?_) (fun h26 => ?_)
      · have hq1 := b2i_ne h7
        have hq2 := b2i_ne h16
        have hn0 : ¬ nN σ = 0 := fun q => h26 (congrArg nI q)
        obtain ⟨m, hm, rfl⟩ := rngI 40 (by omega) hq1.1 hq1.2
        have hmc : (nI m).toNatClampNeg = m := nI_clamp (by omega)
        refine rx_aload_n dX11_mean_33 rfl ?_
        refine rx_getR dX11_mean_34 flX11_58 (sC_0) rfl ?_
        refine rx_aload_n dX11_mean_37 rfl ?_
        refine rx_getR dX11_mean_38 flX11_54 (sC_0) rfl ?_
        refine rx_cVv_1 clX11_182 dX11_mean_41 (rcvo (sC_66) rfl) rfl (c_copyFrom g S53 S66 (by decide) S L hr.y) ?_
        rintro S1 L1 ⟨hC1, hL1⟩
        rw [hL1]
        have hR1 := hr.sc.copy S53 S66 hC1
        refine rx_aload_n dX11_mean_44 rfl ?_
        refine rx_getR dX11_mean_45 flX11_69 (sC_0) rfl ?_
        refine rx_aload_n dX11_mean_48 rfl ?_
        refine rx_getR dX11_mean_49 flX11_58 (sC_0) rfl ?_
        refine rx_iload_n dX11_mean_52 rfl ?_
        refine rx_cVi_2 clX11_178 dX11_mean_53 (rcvo (sC_92) rfl) rfl (c_pass g S66 (gE σ) (gD σ) m S1 L hr.en hR1 (by have := hr.t; omega)) ?_
        rintro x2 S2 L2 ⟨hx2, hR2, hF2, hL2⟩
        rw [hL2, hx2]
        have hr2 := hr.kp ((Kp.cp hC1).trans (Kp.st hF2))
        refine rx_pop dX11_mean_56 rfl ?_
        refine rx_iconst (0) dX11_mean_57 (by decide) ?_
        refine rx_istore_3 rfl dX11_mean_58 ?_
        refine rx_iconst (0) dX11_mean_59 (by decide) ?_
        refine rx_istore_4 rfl dX11_mean_60 ?_
        have hsz2 : S2 66 6 = nI (nN σ) := hR2.1
        have hn7 : nN σ ≤ 7 := hr.n7
        have e0 : itD (gE σ) (eY (gE σ)).2.2.1 (-1) m (gD σ) = itQ σ (nI m) := by unfold itQ; rw [hmc]; rfl
        rw [e0] at hR2
        have hA : ∀ c, c < nN σ → ∃ x, x ≤ 99 ∧ dA (itQ σ (nI m)) c = nI x := (DOK_it hr.en (seesE σ) (-1) hr.dok _).2.1
        have loop : ∀ (r c : Nat), c + r = nN σ → Rx g 7 0 0 mX11_mean SHC.length (fun r sh' S' L' => sh' = SHC ∧ ∃ x, r = some (.long x) ∧ (x = aMean σ (nI m) part ∧ CRel S' L' σ)) 0 0 62 [some (.ref 0), some (.int (nI m)), some (.int part), some (.int (nI (sumP (dA (itQ σ (nI m))) c))), some (.int (nI c))] [] SHC S2 L := by
          intro r
          induction r with
          | zero =>
            intro c he
            have hcn : c = nN σ := by omega
            subst hcn
            refine rx_iload dX11_mean_62 rfl ?_
            refine rx_aload_n dX11_mean_64 rfl ?_
            refine rx_getR dX11_mean_65 flX11_58 (sC_0) rfl ?_
            refine rx_getI dX11_mean_68 flX11_96 (sC_66) rfl ?_
            rw [hsz2]
            refine rx_icmp_ge 93 dX11_mean_71 (by decide) (fun h71 => ?_) (fun h71 => absurd (nI_le (by omega) (by omega)) h71)
            refine rx_iload_n dX11_mean_93 rfl ?_
            refine rx_aload_n dX11_mean_94 rfl ?_
            refine rx_getR dX11_mean_95 flX11_58 (sC_0) rfl ?_
            refine rx_getI dX11_mean_98 flX11_96 (sC_66) rfl ?_
            rw [hsz2]
            refine rx_iload_n dX11_mean_101 rfl ?_
            refine rx_cSl_3 clX11_220 dX11_mean_102 rfl (c_partOf g (sumP (dA (itQ σ (nI m))) (nN σ)) (nN σ) part S2 L (by have := sumP_le hA (nN σ) (Nat.le_refl _); omega) (by omega) (by omega)) ?_
            refine pur3 ?_
            exact rx_lret dX11_mean_105 rfl ⟨Nat.le_refl _, Nat.le_refl _⟩ ⟨rfl, _, rfl, ⟨by unfold aMean; rw [if_neg (fun q => q.elim (fun w => w hq1) (fun w => w.elim (fun w => w hq2) hn0))], hr2⟩⟩
          | succ r ih =>
            intro c he
            have hc7 : c < 7 := by omega
            have hci : (nI c).toNatClampNeg = c := nI_clamp (by omega)
            have hvc : vp_in (nI c) 7 := vp_in_nI hc7 (by omega)
            have hac : S2 69 c = nI (dA (itQ σ (nI m)) c).toNatClampNeg := by
              obtain ⟨x, hx, e⟩ := hA c (by omega)
              rw [hR2.a hc7, e, nI_clamp (by omega)]
            refine rx_iload dX11_mean_62 rfl ?_
            refine rx_aload_n dX11_mean_64 rfl ?_
            refine rx_getR dX11_mean_65 flX11_58 (sC_0) rfl ?_
            refine rx_getI dX11_mean_68 flX11_96 (sC_66) rfl ?_
            rw [hsz2]
            refine rx_icmp_ge 93 dX11_mean_71 (by decide) (fun h71 => absurd h71 (nI_ge (by omega) (by omega))) (fun h71 => ?_)
            refine rx_iload_n dX11_mean_74 rfl ?_
            refine rx_aload_n dX11_mean_75 rfl ?_
            refine rx_getR dX11_mean_76 flX11_58 (sC_0) rfl ?_
            refine rx_getR dX11_mean_79 flX11_118 (sC_66) rfl ?_
            refine rx_iload dX11_mean_82 rfl ?_
            refine rx_iaload dX11_mean_84 (sC_69) hvc ?_
            rw [hci, hac]
            refine rx_iadd dX11_mean_85 ?_
            rw [nI_add]
            refine rx_istore_3 rfl dX11_mean_86 ?_
            refine rx_iinc_4 (1) rfl dX11_mean_87 (by decide) ?_
            refine rx_goto 62 dX11_mean_90 (by decide) ?_
            rw [nI_1]
            exact ih (c + 1) (by omega)
        exact loop (nN σ) 0 (by omega)
      · refine rx_ldc2 (-9223372036854775808) dX11_mean_29 w_744 ?_
        exact rx_lret dX11_mean_32 rfl ⟨Nat.le_refl _, Nat.le_refl _⟩ ⟨rfl, _, rfl, ⟨(if_pos (by first | exact Or.inl (b2i_eq h7) | exact Or.inr (Or.inl (b2i_eq h16)) | exact Or.inr (Or.inr ((nI_eq (Nat.lt_of_le_of_lt hr.n7 (by decide)) (by omega)).mp h26)))).symm, hr⟩⟩
-- SINCE
abbrev soP (σ : SIG) (D : DY) : Prop := ∀ q ∈ sSn (gN σ), dA (itD (gE σ) (seesE σ) (-1) q.2.1 D) q.1 = nI q.2.2
def aSince (σ : SIG) : Nat → Int32
  | 0 => 0
  | k + 1 => if soP σ (shT (gD σ) k) then aSince σ k ||| (1 <<< (nI k &&& 31)) else aSince σ k
theorem CRel.sn {S : SS} {L : LL} {σ : SIG} (h : CRel S L σ) : S 53 14 = nI (sSn (gN σ)).length ∧ ∀ i q, (sSn (gN σ))[i]? = some q → S 61 i = nI q.1 ∧ S 62 i = nI q.2.1 ∧ S 63 i = nI q.2.2 := h.2.1.2.2.1
theorem CRel.sl {S : SS} {L : LL} {σ : SIG} (h : CRel S L σ) : (sSn (gN σ)).length ≤ 4 := h.1.1.2.2.2.2.2.1
theorem CRel.sq {S : SS} {L : LL} {σ : SIG} (h : CRel S L σ) : ∀ q ∈ sSn (gN σ), q.1 < nN σ ∧ q.2.1 ≤ 20 ∧ q.2.2 ≤ 99 := h.1.1.2.2.2.1
set_option maxRecDepth 20000 in
set_option maxHeartbeats 400000 in
theorem c_allSeen (g : GG) (σ : SIG) (D : DY) (S : SS) (L : LL) (hr : CRel S L σ) (hR : ScR 66 S (gE σ) D) (hT : dT D < 19950) : Ci g 6 mX11_allSeenIsSo [.ref 0] SHC S L (fun r S' L' => r = b2i (soP σ D) ∧ CRel S' L' σ ∧ L' = L) := by
  refine ct_of (ls := [some (.ref 0), none, none, none]) 3 (by decide +kernel) rfl rfl ?_
  refine rx_iconst (0) dX11_allSeenIsSo_0 (by decide) ?_
  refine rx_istore_1 rfl dX11_allSeenIsSo_1 ?_
  have loop : ∀ (r t : Nat) (S1 : SS), t + r = 21 → CRel S1 L σ → ScR 66 S1 (gE σ) (itD (gE σ) (seesE σ) (-1) t D) → (∀ q ∈ sSn (gN σ), q.2.1 < t → dA (itD (gE σ) (seesE σ) (-1) q.2.1 D) q.1 = nI q.2.2) → Rx g 6 0 0 mX11_allSeenIsSo SHC.length (fun r sh' S' L' => sh' = SHC ∧ ∃ x, r = some (.int x) ∧ (x = b2i (soP σ D) ∧ CRel S' L' σ ∧ L' = L)) 0 0 2 [some (.ref 0), some (.int (nI t)), none, none] [] SHC S1 L := by
    intro r
    induction r with
    | zero =>
      intro t S1 he hr1 hR1 hall
      refine rx_iload_n dX11_allSeenIsSo_2 rfl ?_
      refine rx_bipush (20) dX11_allSeenIsSo_3 (by decide) ?_
      refine rx_icmp_gt 113 dX11_allSeenIsSo_5 (by decide) (fun h5 => ?_) (fun h5 => absurd (nI_lt (a := 20) (b := t) (by omega) (by omega)) h5)
      refine rx_iconst (1) dX11_allSeenIsSo_113 (by decide) ?_
      exact rx_zret dX11_allSeenIsSo_114 rfl (by decide) ⟨Nat.le_refl _, Nat.le_refl _⟩ ⟨rfl, _, rfl, ⟨b2i_t (fun q hq => hall q hq (by have := (hr1.sq q hq).2.1; omega)), hr1, rfl⟩⟩
    | succ r ih =>
      intro t S1 he hr1 hR1 hall
      refine rx_iload_n dX11_allSeenIsSo_2 rfl ?_
      refine rx_bipush (20) dX11_allSeenIsSo_3 (by decide) ?_
      refine rx_icmp_gt 113 dX11_allSeenIsSo_5 (by decide) (fun h5 => absurd h5 (Int32.not_lt.mpr (nI_le (a := t) (b := 20) (by omega) (by omega)))) (fun h5 => ?_)
      refine rx_iconst (0) dX11_allSeenIsSo_8 (by decide) ?_
      refine rx_istore_2 rfl dX11_allSeenIsSo_9 ?_
      refine rx_wk [some (.ref 0), some (.int _), some (.int _), none] ⟨Or.inr rfl, Or.inr rfl, Or.inr rfl, Or.inl rfl, trivial⟩ ?_
      have inner : ∀ (r2 i : Nat), i + r2 = (sSn (gN σ)).length → (∀ j q, j < i → (sSn (gN σ))[j]? = some q → q.2.1 = t → dA (itD (gE σ) (seesE σ) (-1) t D) q.1 = nI q.2.2) → Rx g 6 0 0 mX11_allSeenIsSo SHC.length (fun r sh' S' L' => sh' = SHC ∧ ∃ x, r = some (.int x) ∧ (x = b2i (soP σ D) ∧ CRel S' L' σ ∧ L' = L)) 0 0 10 [some (.ref 0), some (.int (nI t)), some (.int (nI i)), none] [] SHC S1 L := by
        intro r2
        induction r2 with
        | zero =>
          intro i hi hgood
          have hsl := hr1.sl
          obtain ⟨y, hy, hyS, hY⟩ := hR1.2.2.2.2.2.2.1
          have hcy : (nI y).toNatClampNeg = y := nI_clamp (by omega)
          refine rx_iload_n dX11_allSeenIsSo_10 rfl ?_
          refine rx_aload_n dX11_allSeenIsSo_11 rfl ?_
          refine rx_getR dX11_allSeenIsSo_12 flX11_54 (sC_0) rfl ?_
          refine rx_getI dX11_allSeenIsSo_15 flX11_207 (sC_53) rfl ?_
          rw [hr1.sn.1]
          refine rx_icmp_ge 84 dX11_allSeenIsSo_18 (by decide) (fun h18 => ?_) (fun h18 => absurd (nI_le (by omega) (by omega)) h18)
          refine rx_aload_n dX11_allSeenIsSo_84 rfl ?_
          refine rx_getR dX11_allSeenIsSo_85 flX11_69 (sC_0) rfl ?_
          refine rx_aload_n dX11_allSeenIsSo_88 rfl ?_
          refine rx_getR dX11_allSeenIsSo_89 flX11_58 (sC_0) rfl ?_
          refine rx_aload_n dX11_allSeenIsSo_92 rfl ?_
          refine rx_getR dX11_allSeenIsSo_93 flX11_58 (sC_0) rfl ?_
          refine rx_getD dX11_allSeenIsSo_96 flX11_139 (sC_66) rfl ?_
          rw [hyS, hcy]
          refine rx_getI dX11_allSeenIsSo_99 flX11_172 (syO hy) rfl ?_
          rw [hY.2.2.2.2.2]
          refine rx_iconst (-1) dX11_allSeenIsSo_102 (by decide) ?_
          refine rx_cVi_3 clX11_203 dX11_allSeenIsSo_103 (rcvo (sC_92) rfl) rfl (c_step g S66 (gE σ) (itD (gE σ) (seesE σ) (-1) t D) (eY (gE σ)).2.2.1 (-1) S1 L hr1.en hR1 (by rw [itD_T]; omega) (Or.inl rfl)) ?_
          rintro x4 S4 L4 ⟨hx4, hR4, hF4, hL4⟩
          rw [hL4]
          refine rx_pop dX11_allSeenIsSo_106 rfl ?_
          refine rx_iinc_1 (1) rfl dX11_allSeenIsSo_107 (by decide) ?_
          refine rx_goto 2 dX11_allSeenIsSo_110 (by decide) ?_
          refine rx_wk [some (.ref 0), some (.int _), none, none] ⟨Or.inr rfl, Or.inr rfl, Or.inl rfl, Or.inl rfl, trivial⟩ ?_
          rw [nI_1]
          exact ih (t + 1) S4 (by omega) (hr1.kp (Kp.st hF4)) hR4 (fun q hq hlt => by
            rcases Nat.lt_or_ge q.2.1 t with w | w
            · exact hall q hq w
            · have hqt : q.2.1 = t := by omega
              obtain ⟨j, hj⟩ := List.getElem?_of_mem hq
              rw [hqt]
              exact hgood j q (by have := (List.getElem?_eq_some_iff.mp hj).1; omega) hj hqt)
        | succ r2 ih2 =>
          intro i hi hgood
          have hsl := hr1.sl
          have hi4 : i < 4 := by have := hr1.sl; omega
          have hic : (nI i).toNatClampNeg = i := nI_clamp (by omega)
          have hvi : vp_in (nI i) 4 := vp_in_nI hi4 (by omega)
          obtain ⟨q0, hqi⟩ : ∃ q, (sSn (gN σ))[i]? = some q := ⟨_, List.getElem?_eq_getElem (by omega)⟩
          obtain ⟨hq1, hq2, hq3⟩ := hr1.sn.2 i q0 hqi
          have hq0 : q0 ∈ sSn (gN σ) := List.mem_of_getElem? hqi
          have hsq := hr1.sq q0 hq0
          have hq7 : q0.1 < 7 := Nat.lt_of_lt_of_le hsq.1 hr.n7
          have hqc : (nI q0.1).toNatClampNeg = q0.1 := nI_clamp (by omega)
          have hvq : vp_in (nI q0.1) 7 := vp_in_nI hq7 (by omega)
          refine rx_iload_n dX11_allSeenIsSo_10 rfl ?_
          refine rx_aload_n dX11_allSeenIsSo_11 rfl ?_
          refine rx_getR dX11_allSeenIsSo_12 flX11_54 (sC_0) rfl ?_
          refine rx_getI dX11_allSeenIsSo_15 flX11_207 (sC_53) rfl ?_
          rw [hr1.sn.1]
          refine rx_icmp_ge 84 dX11_allSeenIsSo_18 (by decide) (fun h18 => absurd h18 (nI_ge (by omega) (by omega))) (fun h18 => ?_)
          refine rx_aload_n dX11_allSeenIsSo_21 rfl ?_
          refine rx_getR dX11_allSeenIsSo_22 flX11_54 (sC_0) rfl ?_
          refine rx_getR dX11_allSeenIsSo_25 flX11_277 (sC_53) rfl ?_
          refine rx_iload_n dX11_allSeenIsSo_28 rfl ?_
          refine rx_iaload dX11_allSeenIsSo_29 (sC_61) hvi ?_
          rw [hic, hq1]
          refine rx_istore_3 rfl dX11_allSeenIsSo_30 ?_
          refine rx_aload_n dX11_allSeenIsSo_31 rfl ?_
          refine rx_getR dX11_allSeenIsSo_32 flX11_54 (sC_0) rfl ?_
          refine rx_getR dX11_allSeenIsSo_35 flX11_280 (sC_53) rfl ?_
          refine rx_iload_n dX11_allSeenIsSo_38 rfl ?_
          refine rx_iaload dX11_allSeenIsSo_39 (sC_62) hvi ?_
          rw [hic, hq2]
          refine rx_iload_n dX11_allSeenIsSo_40 rfl ?_
          refine rx_icmp_ne 78 dX11_allSeenIsSo_41 (by decide) (fun h41 => ?_) (fun h41 => ?_)
          · refine rx_iinc_2 (1) rfl dX11_allSeenIsSo_78 (by decide) ?_
            refine rx_goto 10 dX11_allSeenIsSo_81 (by decide) ?_
            refine rx_wk [some (.ref 0), some (.int _), some (.int _), none] ⟨Or.inr rfl, Or.inr rfl, Or.inr rfl, Or.inl rfl, trivial⟩ ?_
            rw [nI_1]
            refine ih2 (i + 1) (by omega) (fun j q hj hq => ?_)
            rcases Nat.lt_or_ge j i with w | w
            · exact hgood j q w hq
            · have hji : j = i := by omega
              subst hji
              rw [hqi] at hq
              obtain rfl := Option.some.inj hq
              exact fun e => absurd (congrArg nI e) h41
          · have ht41 : t = q0.2.1 := ((nI_eq (by omega) (by omega)).mp h41).symm
            refine rx_aload_n dX11_allSeenIsSo_44 rfl ?_
            refine rx_getR dX11_allSeenIsSo_45 flX11_54 (sC_0) rfl ?_
            refine rx_iload_n dX11_allSeenIsSo_48 rfl ?_
            refine rx_cVi_1 clX11_104 dX11_allSeenIsSo_49 (rcvo (sC_53) rfl) rfl (c_has g S53 _ S1 L) ?_
            refine pur3 ?_
            refine rx_if_eq 78 dX11_allSeenIsSo_52 (by decide) (fun h52 => absurd h52 (fun w => b2i_eq w ⟨nI_le (a := 0) (Nat.zero_le _) (by omega), by rw [hr1.sc.1]; exact nI_lt hsq.1 (by have := hr.n7; unfold nN at hsq; omega)⟩)) (fun h52 => ?_)
            refine rx_aload_n dX11_allSeenIsSo_55 rfl ?_
            refine rx_getR dX11_allSeenIsSo_56 flX11_58 (sC_0) rfl ?_
            refine rx_getR dX11_allSeenIsSo_59 flX11_118 (sC_66) rfl ?_
            refine rx_iload_n dX11_allSeenIsSo_62 rfl ?_
            refine rx_iaload dX11_allSeenIsSo_63 (sC_69) hvq ?_
            rw [hqc, hR1.a hq7]
            refine rx_aload_n dX11_allSeenIsSo_64 rfl ?_
            refine rx_getR dX11_allSeenIsSo_65 flX11_54 (sC_0) rfl ?_
            refine rx_getR dX11_allSeenIsSo_68 flX11_283 (sC_53) rfl ?_
            refine rx_iload_n dX11_allSeenIsSo_71 rfl ?_
            refine rx_iaload dX11_allSeenIsSo_72 (sC_63) hvi ?_
            rw [hic, hq3]
            refine rx_icmp_eq 78 dX11_allSeenIsSo_73 (by decide) (fun h73 => ?_) (fun h73 => ?_)
            · refine rx_iinc_2 (1) rfl dX11_allSeenIsSo_78 (by decide) ?_
              refine rx_goto 10 dX11_allSeenIsSo_81 (by decide) ?_
              refine rx_wk [some (.ref 0), some (.int _), some (.int _), none] ⟨Or.inr rfl, Or.inr rfl, Or.inr rfl, Or.inl rfl, trivial⟩ ?_
              rw [nI_1]
              refine ih2 (i + 1) (by omega) (fun j q hj hq => ?_)
              rcases Nat.lt_or_ge j i with w | w
              · exact hgood j q w hq
              · have hji : j = i := by omega
                subst hji
                rw [hqi] at hq
                obtain rfl := Option.some.inj hq
                exact fun _ => h73
            · refine rx_iconst (0) dX11_allSeenIsSo_76 (by decide) ?_
              exact rx_zret dX11_allSeenIsSo_77 rfl (by decide) ⟨Nat.le_refl _, Nat.le_refl _⟩ ⟨rfl, _, rfl, ⟨b2i_f (fun w => h73 (by rw [ht41]; exact w q0 hq0)), hr1, rfl⟩⟩
      exact inner (sSn (gN σ)).length 0 (by omega) (fun j q hj => absurd hj (by omega))
  exact loop 21 0 S (by omega) hr hR (fun q _ w => absurd w (by omega))
set_option maxRecDepth 20000 in
set_option maxHeartbeats 400000 in
theorem cc_since (g : GG) (σ : SIG) (S : SS) (L : LL) (hr : CRel S L σ) : Ci g 7 mX11_since [.ref 0] SHC S L (fun r S' L' => r = aSince σ 4 ∧ CRel S' L' σ) := by
  refine ct_of (ls := [some (.ref 0), none, none]) 2 (by decide +kernel) rfl rfl ?_
  refine rx_iconst (0) dX11_since_0 (by decide) ?_
  refine rx_istore_1 rfl dX11_since_1 ?_
  refine rx_iconst (0) dX11_since_2 (by decide) ?_
  refine rx_istore_2 rfl dX11_since_3 ?_
  have loop : ∀ (r k : Nat) (S1 : SS), k + r = 4 → CRel S1 L σ → Rx g 7 0 0 mX11_since SHC.length (fun r sh' S' L' => sh' = SHC ∧ ∃ x, r = some (.int x) ∧ (x = aSince σ 4 ∧ CRel S' L' σ)) 0 0 4 [some (.ref 0), some (.int (aSince σ k)), some (.int (nI k))] [] SHC S1 L := by
    intro r
    induction r with
    | zero =>
      intro k S1 he hr1
      have hk4 : k = 4 := by omega
      subst hk4
      refine rx_iload_n dX11_since_4 rfl ?_
      refine rx_iconst (4) dX11_since_5 (by decide) ?_
      refine rx_icmp_ge 52 dX11_since_6 (by decide) (fun h6 => ?_) (fun h6 => absurd (nI_le (a := 4) (b := 4) (by omega) (by omega)) h6)
      refine rx_iload_n dX11_since_52 rfl ?_
      exact rx_iret dX11_since_53 rfl ⟨Nat.le_refl _, Nat.le_refl _⟩ ⟨rfl, _, rfl, ⟨rfl, hr1⟩⟩
    | succ r ih =>
      intro k S1 he hr1
      refine rx_iload_n dX11_since_4 rfl ?_
      refine rx_iconst (4) dX11_since_5 (by decide) ?_
      refine rx_icmp_ge 52 dX11_since_6 (by decide) (fun h6 => absurd h6 (nI_ge (a := k) (b := 4) (by omega) (by omega))) (fun h6 => ?_)
      refine rx_aload_n dX11_since_9 rfl ?_
      refine rx_getR dX11_since_10 flX11_58 (sC_0) rfl ?_
      refine rx_aload_n dX11_since_13 rfl ?_
      refine rx_getR dX11_since_14 flX11_54 (sC_0) rfl ?_
      refine rx_cVv_1 clX11_182 dX11_since_17 (rcvo (sC_66) rfl) rfl (c_copyFrom g S53 S66 (by decide) S1 L hr1.y) ?_
      rintro S2 L2 ⟨hC1, hL2⟩
      rw [hL2]
      have hR1 := hr1.sc.copy S53 S66 hC1
      refine rx_aload_n dX11_since_20 rfl ?_
      refine rx_getR dX11_since_21 flX11_58 (sC_0) rfl ?_
      refine rx_dup dX11_since_24 rfl ?_
      refine rx_getI dX11_since_25 flX11_166 (sC_66) rfl ?_
      refine rx_iload_n dX11_since_28 rfl ?_
      refine rx_iadd dX11_since_29 ?_
      refine rx_putI dX11_since_30 flX11_166 (sC_66) rfl ?_
      refine rx_aload_n dX11_since_33 rfl ?_
      refine rx_cVi_0 clX11_214 dX11_since_34 (rcvo (sC_0) rfl) rfl (c_allSeen g σ (shT (gD σ) k) _ L (hr1.kp ((Kp.cp hC1).trans (Kp.up (by decide)))) (hR1.shT S66 hr1.t k (by omega)) (by show dT (gD σ) + k < 19950; have := hr1.t; omega)) ?_
      rintro x3 S3 L3 ⟨hx3, hr3, hL3⟩
      rw [hL3] at hr3
      rw [hL3, hx3]
      refine rx_if_eq 46 dX11_since_37 (by decide) (fun h37 => ?_) (fun h37 => ?_)
      · refine rx_iinc_2 (1) rfl dX11_since_46 (by decide) ?_
        refine rx_goto 4 dX11_since_49 (by decide) ?_
        have e1 : aSince σ (k + 1) = aSince σ k := if_neg (b2i_eq h37)
        rw [nI_1]
        have hg := ih (k + 1) S3 (by omega) hr3
        rw [e1] at hg
        exact hg
      · refine rx_iload_n dX11_since_40 rfl ?_
        refine rx_iconst (1) dX11_since_41 (by decide) ?_
        refine rx_iload_n dX11_since_42 rfl ?_
        refine rx_ishl dX11_since_43 ?_
        refine rx_ior dX11_since_44 ?_
        refine rx_istore_1 rfl dX11_since_45 ?_
        refine rx_iinc_2 (1) rfl dX11_since_46 (by decide) ?_
        refine rx_goto 4 dX11_since_49 (by decide) ?_
        have e1 : aSince σ (k + 1) = aSince σ k ||| (1 <<< (nI k &&& 31)) := if_pos (b2i_ne h37)
        rw [nI_1]
        have hg := ih (k + 1) S3 (by omega) hr3
        rw [e1] at hg
        exact hg
  exact loop 4 0 S (by omega) hr
