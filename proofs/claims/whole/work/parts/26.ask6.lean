-- FRACTION
def pfB (a b : Nat) : Nat → Nat
  | 0 => 1
  | d + 1 => if a % (d + 1) = 0 ∧ b % (d + 1) = 0 then d + 1 else pfB a b d
theorem pfB_rng (a b : Nat) : ∀ k, 1 ≤ pfB a b k ∧ pfB a b k ≤ k + 1
  | 0 => ⟨Nat.le_refl _, Nat.le_refl _⟩
  | d + 1 => by
    have h := pfB_rng a b d
    unfold pfB
    by_cases q : a % (d + 1) = 0 ∧ b % (d + 1) = 0
    · rw [if_pos q]; omega
    · rw [if_neg q]; omega
theorem pfB_1 (a b : Nat) : pfB a b 1 = 1 := by
  unfold pfB
  by_cases q : a % (0 + 1) = 0 ∧ b % (0 + 1) = 0
  · rw [if_pos q]
  · rw [if_neg q]; rfl
def aPF (a b : Nat) (part : Int32) : Int64 := if part = 0 then (nI (a / pfB a b b)).toInt64 else (nI (b / pfB a b b)).toInt64
-- ODDS, MEAN
def shT (D : DY) (k : Nat) : DY := (dA D, dW D, dT D + k, dS D)
theorem StF.up9 {b : Nat} {S : SS} {x : Int32} : StF b S (upS S b 9 x) := ⟨fun j h1 _ _ _ => upS_off _ _ _ _ h1, fun k _ h1 => by rw [upS_row]; exact pk_un h1⟩
theorem ScR.shT {b : Nat} (hb : Sc b) {S : SS} {E : EN} {D : DY} (h : ScR b S E D) (hT : dT D ≤ 9999) (k : Nat) (hk : k ≤ 4) : ScR b (upS S b 9 (S b 9 + nI k)) E (shT D k) := by
  have hbl := hb.le
  have h9 : S b 9 = nI (dT D) := h.2.2.2.2.2.2.2.2.2.1
  refine h.step hb StF.up9 (fun c' hc => ?_) ?_ ?_ ?_ (fun c' hc => ?_)
  · rw [upS_off _ _ _ _ (by omega)]; exact h.a hc
  · rw [upS_row, pk_un (by decide)]; exact h.w
  · rw [upS_at, h9, nI_add]; rfl
  · show dT D + k < 20000; omega
  · rw [upS_off _ _ _ _ (by omega)]; exact h.2.2.2.2.2.2.2.2.2.2.2 c' hc
def odT (σ : SIG) (m k : Nat) : Int32 := itB (gE σ) (seesE σ) (-1) m (shT (gD σ) k)
def odC (σ : SIG) (m : Nat) : Nat → Nat
  | 0 => 0
  | k + 1 => if odT σ m k = 0 then odC σ m k + 1 else odC σ m k
theorem odC_le (σ : SIG) (m : Nat) : ∀ k, odC σ m k ≤ k
  | 0 => Nat.le_refl _
  | k + 1 => by
    have h := odC_le σ m k
    unfold odC
    by_cases q : odT σ m k = 0
    · rw [if_pos q]; omega
    · rw [if_neg q]; omega
def aOdds (σ : SIG) (n part : Int32) : Int64 := if ¬ (1 ≤ n ∧ n ≤ 20) ∨ ¬ (0 ≤ part ∧ part ≤ 1) then -9223372036854775808 else aPF (odC σ n.toNatClampNeg 4) 4 part
def sumP (a : Nat → Int32) : Nat → Nat
  | 0 => 0
  | c + 1 => sumP a c + (a c).toNatClampNeg
theorem sumP_le {a : Nat → Int32} {n : Nat} (h : ∀ c, c < n → ∃ x, x ≤ 99 ∧ a c = nI x) : ∀ k, k ≤ n → sumP a k ≤ 99 * k
  | 0, _ => Nat.le_refl _
  | k + 1, hk => by
    obtain ⟨x, hx, e⟩ := h k (by omega)
    have h1 := sumP_le h k (by omega)
    have e1 : (a k).toNatClampNeg = x := by rw [e]; exact nI_clamp (by omega)
    show sumP a k + (a k).toNatClampNeg ≤ 99 * (k + 1)
    omega
def aMean (σ : SIG) (n part : Int32) : Int64 := if ¬ (0 ≤ n ∧ n ≤ 40) ∨ ¬ (0 ≤ part ∧ part ≤ 1) ∨ nN σ = 0 then -9223372036854775808 else aPF (sumP (dA (itQ σ n)) (nN σ)) (nN σ) part

set_option maxRecDepth 20000 in
set_option maxHeartbeats 400000 in
theorem c_partOf (g : GG) {sh : List CS} (a b : Nat) (part : Int32) (S : SS) (L : LL) (ha : a < 700) (hb : b < 8) (hb1 : 1 ≤ b) : Cl g 0 mX11_partOfFraction [.int (nI a), .int (nI b), .int part] sh S L (fun x S' L' => x = aPF a b part ∧ S' = S ∧ L' = L) := by
  refine ct_of (ls := [some (.int (nI a)), some (.int (nI b)), some (.int part), none, none]) 2 (by decide +kernel) rfl rfl ?_
  refine rx_iconst (1) dX11_partOfFraction_0 (by decide) ?_
  refine rx_istore_3 rfl dX11_partOfFraction_1 ?_
  refine rx_iconst (2) dX11_partOfFraction_2 (by decide) ?_
  refine rx_istore_4 rfl dX11_partOfFraction_3 ?_
  have loop : ∀ (r d : Nat), d + r = b → 1 ≤ d → Rx g 0 0 0 mX11_partOfFraction sh.length (fun r sh' S' L' => sh' = sh ∧ ∃ x, r = some (.long x) ∧ (x = aPF a b part ∧ S' = S ∧ L' = L)) 0 0 5 [some (.int (nI a)), some (.int (nI b)), some (.int part), some (.int (nI (pfB a b d))), some (.int (nI (d + 1)))] [] sh S L := by
    intro r
    induction r with
    | zero =>
      intro d hd h1
      obtain rfl : d = b := by omega
      have hpr := pfB_rng a d d
      have hp0 : ¬ nI (pfB a d d) = 0 := fun q => by have := (nI_eq (b := 0) (by omega) (by omega)).mp q; omega
      refine rx_iload dX11_partOfFraction_5 rfl ?_
      refine rx_iload_n dX11_partOfFraction_7 rfl ?_
      refine rx_icmp_gt 34 dX11_partOfFraction_8 (by decide) (fun h8 => ?_) (fun h8 => absurd (nI_lt (a := d) (b := d + 1) (by omega) (by omega)) h8)
      refine rx_iload_n dX11_partOfFraction_34 rfl ?_
      refine rx_if_ne 45 dX11_partOfFraction_35 (by decide) (fun h35 => ?_) (fun h35 => ?_)
      · refine rx_iload_n dX11_partOfFraction_45 rfl ?_
        refine rx_iload_n dX11_partOfFraction_46 rfl ?_
        refine rx_idiv dX11_partOfFraction_47 hp0 ?_
        rw [pk_div (by omega) (by omega) (by omega)]
        refine rx_i2l dX11_partOfFraction_48 ?_
        exact rx_lret dX11_partOfFraction_49 rfl ⟨Nat.le_refl _, Nat.le_refl _⟩ ⟨rfl, _, rfl, ⟨(if_neg h35).symm, rfl, rfl⟩⟩
      · refine rx_iload_n dX11_partOfFraction_38 rfl ?_
        refine rx_iload_n dX11_partOfFraction_39 rfl ?_
        refine rx_idiv dX11_partOfFraction_40 hp0 ?_
        rw [pk_div (by omega) (by omega) (by omega)]
        refine rx_i2l dX11_partOfFraction_41 ?_
        refine rx_goto 49 dX11_partOfFraction_42 (by decide) ?_
        exact rx_lret dX11_partOfFraction_49 rfl ⟨Nat.le_refl _, Nat.le_refl _⟩ ⟨rfl, _, rfl, ⟨(if_pos h35).symm, rfl, rfl⟩⟩
    | succ r ih =>
      intro d hd h1
      have hd0 : ¬ nI (d + 1) = 0 := fun q => by have := (nI_eq (b := 0) (by omega) (by omega)).mp q; omega
      refine rx_iload dX11_partOfFraction_5 rfl ?_
      refine rx_iload_n dX11_partOfFraction_7 rfl ?_
      refine rx_icmp_gt 34 dX11_partOfFraction_8 (by decide) (fun h8 => absurd h8 (Int32.not_lt.mpr (nI_le (a := d + 1) (b := b) (by omega) (by omega)))) (fun h8 => ?_)
      refine rx_iload_n dX11_partOfFraction_11 rfl ?_
      refine rx_iload dX11_partOfFraction_12 rfl ?_
      refine rx_irem dX11_partOfFraction_14 hd0 ?_
      refine rx_if_ne 28 dX11_partOfFraction_15 (by decide) (fun h15 => ?_) (fun h15 => ?_)
      · first | have hmA2 : ¬ a % (d + 1) = 0 := (fun q => h15 (by rw [pk_rem (by omega) (by omega) (by omega), q]; rfl)) | have hmB2 : ¬ b % (d + 1) = 0 := (fun q => h22 (by rw [pk_rem (by omega) (by omega) (by omega), q]; rfl)) | skip
        refine rx_iinc_4 (1) rfl dX11_partOfFraction_28 (by decide) ?_
        refine rx_goto 5 dX11_partOfFraction_31 (by decide) ?_
        have e1 : pfB a b (d + 1) = pfB a b d := if_neg (fun q => hmA2 q.1)
        rw [nI_1]
        have hg := ih (d + 1) (by omega) (by omega)
        rw [e1] at hg
        exact hg
      · have hmA : a % (d + 1) = 0 := by rw [pk_rem (by omega) (by omega) (by omega)] at h15; exact (nI_eq (by have := Nat.mod_lt a (show d + 1 > 0 by omega); omega) (by omega)).mp h15
        refine rx_iload_n dX11_partOfFraction_18 rfl ?_
        refine rx_iload dX11_partOfFraction_19 rfl ?_
        refine rx_irem dX11_partOfFraction_21 hd0 ?_
        refine rx_if_ne 28 dX11_partOfFraction_22 (by decide) (fun h22 => ?_) (fun h22 => ?_)
        · first | have hmA2 : ¬ a % (d + 1) = 0 := (fun q => h15 (by rw [pk_rem (by omega) (by omega) (by omega), q]; rfl)) | have hmB2 : ¬ b % (d + 1) = 0 := (fun q => h22 (by rw [pk_rem (by omega) (by omega) (by omega), q]; rfl)) | skip
          refine rx_iinc_4 (1) rfl dX11_partOfFraction_28 (by decide) ?_
          refine rx_goto 5 dX11_partOfFraction_31 (by decide) ?_
          have e1 : pfB a b (d + 1) = pfB a b d := if_neg (fun q => hmB2 q.2)
          rw [nI_1]
          have hg := ih (d + 1) (by omega) (by omega)
          rw [e1] at hg
          exact hg
        · have hmB : b % (d + 1) = 0 := by rw [pk_rem (by omega) (by omega) (by omega)] at h22; exact (nI_eq (by have := Nat.mod_lt b (show d + 1 > 0 by omega); omega) (by omega)).mp h22
          refine rx_iload dX11_partOfFraction_25 rfl ?_
          refine rx_istore_3 rfl dX11_partOfFraction_27 ?_
          first | have hmA2 : ¬ a % (d + 1) = 0 := (fun q => h15 (by rw [pk_rem (by omega) (by omega) (by omega), q]; rfl)) | have hmB2 : ¬ b % (d + 1) = 0 := (fun q => h22 (by rw [pk_rem (by omega) (by omega) (by omega), q]; rfl)) | skip
          refine rx_iinc_4 (1) rfl dX11_partOfFraction_28 (by decide) ?_
          refine rx_goto 5 dX11_partOfFraction_31 (by decide) ?_
          have e1 : pfB a b (d + 1) = d + 1 := if_pos ⟨hmA, hmB⟩
          rw [nI_1]
          have hg := ih (d + 1) (by omega) (by omega)
          rw [e1] at hg
          exact hg
  have hg := loop (b - 1) 1 (by omega) (by omega)
  rw [pfB_1] at hg
  exact hg
set_option maxRecDepth 20000 in
set_option maxHeartbeats 400000 in
theorem cc_odds (g : GG) (σ : SIG) (n part : Int32) (S : SS) (L : LL) (hr : CRel S L σ) : Cl g 7 mX11_odds [.ref 0, .int n, .int part] SHC S L (fun x S' L' => x = aOdds σ n part ∧ CRel S' L' σ) := by
  refine ct_of (ls := [some (.ref 0), some (.int n), some (.int part), none, none]) 2 (by decide +kernel) rfl rfl ?_
  refine rx_iload_n dX11_odds_0 rfl ?_
  refine rx_iconst (1) dX11_odds_1 (by decide) ?_
  refine rx_bipush (20) dX11_odds_2 (by decide) ?_
  refine rx_cSi_3 clX11_92 dX11_odds_4 rfl (c_within g _ _ _ S L) ?_
  refine pur3 ?_
  refine rx_if_eq 19 dX11_odds_7 (by decide) (fun h7 => ?_) (fun h7 => ?_)
  · refine rx_ldc2 (-9223372036854775808) dX11_odds_19 w_748 ?_
    exact rx_lret dX11_odds_22 rfl ⟨Nat.le_refl _, Nat.le_refl _⟩ ⟨rfl, _, rfl, ⟨(if_pos (by first | exact Or.inl (b2i_eq h7) | exact Or.inr (b2i_eq h16))).symm, hr⟩⟩
  · refine rx_iload_n dX11_odds_10 rfl ?_
    refine rx_iconst (0) dX11_odds_11 (by decide) ?_
    refine rx_iconst (1) dX11_odds_12 (by decide) ?_
    refine rx_cSi_3 clX11_92 dX11_odds_13 rfl (c_within g _ _ _ S L) ?_
    refine pur3 ?_
    refine rx_if_ne 23 dX11_odds_16 (by decide) (fun h16 => ?_) (fun h16 => ?_)
    · have hq1 := b2i_ne h7
      have hq2 := b2i_ne h16
      obtain ⟨m, hm, rfl⟩ := rngI 20 (by omega) (Int32.le_trans (by decide) hq1.1) hq1.2
      have hmc : (nI m).toNatClampNeg = m := nI_clamp (by omega)
      refine rx_iconst (0) dX11_odds_23 (by decide) ?_
      refine rx_istore_3 rfl dX11_odds_24 ?_
      refine rx_iconst (0) dX11_odds_25 (by decide) ?_
      refine rx_istore_4 rfl dX11_odds_26 ?_
      have loop : ∀ (r k : Nat) (S1 : SS), k + r = 4 → CRel S1 L σ → Rx g 7 0 0 mX11_odds SHC.length (fun r sh' S' L' => sh' = SHC ∧ ∃ x, r = some (.long x) ∧ (x = aOdds σ (nI m) part ∧ CRel S' L' σ)) 0 0 28 [some (.ref 0), some (.int (nI m)), some (.int part), some (.int (nI (odC σ m k))), some (.int (nI k))] [] SHC S1 L := by
        intro r
        induction r with
        | zero =>
          intro k S1 he hr1
          have hk4 : k = 4 := by omega
          subst hk4
          refine rx_iload dX11_odds_28 rfl ?_
          refine rx_iconst (4) dX11_odds_30 (by decide) ?_
          refine rx_icmp_ge 83 dX11_odds_31 (by decide) (fun h31 => ?_) (fun h31 => absurd (nI_le (a := 4) (b := 4) (by omega) (by omega)) h31)
          refine rx_iload_n dX11_odds_83 rfl ?_
          refine rx_iconst (4) dX11_odds_84 (by decide) ?_
          refine rx_iload_n dX11_odds_85 rfl ?_
          refine rx_cSl_3 clX11_220 dX11_odds_86 rfl (c_partOf g (odC σ m 4) 4 part S1 L (by have := odC_le σ m 4; omega) (by decide) (by decide)) ?_
          refine pur3 ?_
          exact rx_lret dX11_odds_89 rfl ⟨Nat.le_refl _, Nat.le_refl _⟩ ⟨rfl, _, rfl, ⟨by unfold aOdds; rw [if_neg (fun q => q.elim (fun w => w hq1) (fun w => w hq2)), hmc], hr1⟩⟩
        | succ r ih =>
          intro k S1 he hr1
          refine rx_iload dX11_odds_28 rfl ?_
          refine rx_iconst (4) dX11_odds_30 (by decide) ?_
          refine rx_icmp_ge 83 dX11_odds_31 (by decide) (fun h31 => absurd h31 (nI_ge (a := k) (b := 4) (by omega) (by omega))) (fun h31 => ?_)
          refine rx_aload_n dX11_odds_34 rfl ?_
          refine rx_getR dX11_odds_35 flX11_58 (sC_0) rfl ?_
          refine rx_aload_n dX11_odds_38 rfl ?_
          refine rx_getR dX11_odds_39 flX11_54 (sC_0) rfl ?_
          refine rx_cVv_1 clX11_182 dX11_odds_42 (rcvo (sC_66) rfl) rfl (c_copyFrom g S53 S66 (by decide) S1 L hr1.y) ?_
          rintro S2 L2 ⟨hC1, hL2⟩
          rw [hL2]
          have hR1 := hr1.sc.copy S53 S66 hC1
          refine rx_aload_n dX11_odds_45 rfl ?_
          refine rx_getR dX11_odds_46 flX11_58 (sC_0) rfl ?_
          refine rx_dup dX11_odds_49 rfl ?_
          refine rx_getI dX11_odds_50 flX11_166 (sC_66) rfl ?_
          refine rx_iload dX11_odds_53 rfl ?_
          refine rx_iadd dX11_odds_55 ?_
          refine rx_putI dX11_odds_56 flX11_166 (sC_66) rfl ?_
          refine rx_aload_n dX11_odds_59 rfl ?_
          refine rx_getR dX11_odds_60 flX11_69 (sC_0) rfl ?_
          refine rx_aload_n dX11_odds_63 rfl ?_
          refine rx_getR dX11_odds_64 flX11_58 (sC_0) rfl ?_
          refine rx_iload_n dX11_odds_67 rfl ?_
          refine rx_cVi_2 clX11_178 dX11_odds_68 (rcvo (sC_92) rfl) rfl (c_pass g S66 (gE σ) (shT (gD σ) k) m _ L hr1.en (hR1.shT S66 hr1.t k (by omega)) (by show dT (gD σ) + k + m < 19999; have := hr1.t; omega)) ?_
          rintro x3 S3 L3 ⟨hx3, hR3, hF3, hL3⟩
          have hx4 : x3 = odT σ m k := hx3
          rw [hL3, hx4]
          have hr3 := hr1.kp (((Kp.cp hC1).trans (Kp.up (by decide))).trans (Kp.st hF3))
          refine rx_if_ne 77 dX11_odds_71 (by decide) (fun h71 => ?_) (fun h71 => ?_)
          · refine rx_iinc_4 (1) rfl dX11_odds_77 (by decide) ?_
            refine rx_goto 28 dX11_odds_80 (by decide) ?_
            have e1 : odC σ m (k + 1) = odC σ m k := if_neg h71
            rw [nI_1]
            have hg := ih (k + 1) S3 (by omega) hr3
            rw [e1] at hg
            exact hg
          · refine rx_iinc_3 (1) rfl dX11_odds_74 (by decide) ?_
            refine rx_iinc_4 (1) rfl dX11_odds_77 (by decide) ?_
            refine rx_goto 28 dX11_odds_80 (by decide) ?_
            have e1 : odC σ m (k + 1) = odC σ m k + 1 := if_pos h71
            rw [nI_1, nI_1]
            have hg := ih (k + 1) S3 (by omega) hr3
            rw [e1] at hg
            exact hg
      exact loop 4 0 S (by omega) hr
    · refine rx_ldc2 (-9223372036854775808) dX11_odds_19 w_748 ?_
      exact rx_lret dX11_odds_22 rfl ⟨Nat.le_refl _, Nat.le_refl _⟩ ⟨rfl, _, rfl, ⟨(if_pos (by first | exact Or.inl (b2i_eq h7) | exact Or.inr (b2i_eq h16))).symm, hr⟩⟩
set_option maxRecDepth 20000 in
set_option maxHeartbeats 400000 in
theorem cc_mean (g : GG) (σ : SIG) (n part : Int32) (S : SS) (L : LL) (hr : CRel S L σ) : Cl g 7 mX11_mean [.ref 0, .int n, .int part] SHC S L (fun x S' L' => x = aMean σ n part ∧ CRel S' L' σ) := by
  refine ct_of (ls := [some (.ref 0), some (.int n), some (.int part), none, none]) 2 (by decide +kernel) rfl rfl ?_
  refine rx_iload_n dX11_mean_0 rfl ?_
  refine rx_iconst (0) dX11_mean_1 (by decide) ?_
  refine rx_bipush (40) dX11_mean_2 (by decide) ?_
  refine rx_cSi_3 clX11_92 dX11_mean_4 rfl (c_within g _ _ _ S L) ?_
  refine pur3 ?_
  refine rx_if_eq 29 dX11_mean_7 (by decide) (fun h7 => ?_) (fun h7 => ?_)
  · refine rx_ldc2 (-9223372036854775808) dX11_mean_29 w_748 ?_
    exact rx_lret dX11_mean_32 rfl ⟨Nat.le_refl _, Nat.le_refl _⟩ ⟨rfl, _, rfl, ⟨(if_pos (by first | exact Or.inl (b2i_eq h7) | exact Or.inr (Or.inl (b2i_eq h16)) | exact Or.inr (Or.inr ((nI_eq (Nat.lt_of_le_of_lt hr.n7 (by decide)) (by omega)).mp h26)))).symm, hr⟩⟩
  · refine rx_iload_n dX11_mean_10 rfl ?_
    refine rx_iconst (0) dX11_mean_11 (by decide) ?_
    refine rx_iconst (1) dX11_mean_12 (by decide) ?_
    refine rx_cSi_3 clX11_92 dX11_mean_13 rfl (c_within g _ _ _ S L) ?_
    refine pur3 ?_
    refine rx_if_eq 29 dX11_mean_16 (by decide) (fun h16 => ?_) (fun h16 => ?_)
    · refine rx_ldc2 (-9223372036854775808) dX11_mean_29 w_748 ?_
      exact rx_lret dX11_mean_32 rfl ⟨Nat.le_refl _, Nat.le_refl _⟩ ⟨rfl, _, rfl, ⟨(if_pos (by first | exact Or.inl (b2i_eq h7) | exact Or.inr (Or.inl (b2i_eq h16)) | exact Or.inr (Or.inr ((nI_eq (Nat.lt_of_le_of_lt hr.n7 (by decide)) (by omega)).mp h26)))).symm, hr⟩⟩
    · refine rx_aload_n dX11_mean_19 rfl ?_
      refine rx_getR dX11_mean_20 flX11_54 (sC_0) rfl ?_
      refine rx_getI dX11_mean_23 flX11_96 (sC_53) rfl ?_
      rw [hr.sc.1]
      refine rx_if_ne 33 dX11_mean_26 (by decide) (fun h26 => ?_) (fun h26 => ?_)
      · have hq1 := b2i_ne h7
        have hq2 := b2i_ne h16
        have hn0 : ¬ nN σ = 0 := fun q => h26 (congrArg nI q)
        obtain ⟨m, hm, rfl⟩ := rngI 40 (by omega) hq1.1 hq1.2
        have hmc : (nI m).toNatClampNeg = m := nI_clamp (by omega)
        refine rx_aload_n dX11_mean_33 rfl ?_
        refine rx_getR dX11_mean_34 flX11_58 (sC_0) rfl ?_
        refine rx_aload_n dX11_mean_37 rfl ?_
        refine rx_getR dX11_mean_38 flX11_54 (sC_0) rfl ?_
        refine rx_cVv_1 clX11_182 dX11_mean_41 (rcvo (sC_66) rfl) rfl (c_copyFrom g S53 S66 (by decide) S L hr.y) ?_
        rintro S1 L1 ⟨hC1, hL1⟩
        rw [hL1]
        have hR1 := hr.sc.copy S53 S66 hC1
        refine rx_aload_n dX11_mean_44 rfl ?_
        refine rx_getR dX11_mean_45 flX11_69 (sC_0) rfl ?_
        refine rx_aload_n dX11_mean_48 rfl ?_
        refine rx_getR dX11_mean_49 flX11_58 (sC_0) rfl ?_
        refine rx_iload_n dX11_mean_52 rfl ?_
        refine rx_cVi_2 clX11_178 dX11_mean_53 (rcvo (sC_92) rfl) rfl (c_pass g S66 (gE σ) (gD σ) m S1 L hr.en hR1 (by have := hr.t; omega)) ?_
        rintro x2 S2 L2 ⟨hx2, hR2, hF2, hL2⟩
        rw [hL2, hx2]
        have hr2 := hr.kp ((Kp.cp hC1).trans (Kp.st hF2))
        refine rx_pop dX11_mean_56 rfl ?_
        refine rx_iconst (0) dX11_mean_57 (by decide) ?_
        refine rx_istore_3 rfl dX11_mean_58 ?_
        refine rx_iconst (0) dX11_mean_59 (by decide) ?_
        refine rx_istore_4 rfl dX11_mean_60 ?_
        have hsz2 : S2 66 6 = nI (nN σ) := hR2.1
        have hn7 : nN σ ≤ 7 := hr.n7
        have e0 : itD (gE σ) (eY (gE σ)).2.2.1 (-1) m (gD σ) = itQ σ (nI m) := by unfold itQ; rw [hmc]; rfl
        rw [e0] at hR2
        have hA : ∀ c, c < nN σ → ∃ x, x ≤ 99 ∧ dA (itQ σ (nI m)) c = nI x := (DOK_it hr.en (seesE σ) (-1) hr.dok _).2.1
        have loop : ∀ (r c : Nat), c + r = nN σ → Rx g 7 0 0 mX11_mean SHC.length (fun r sh' S' L' => sh' = SHC ∧ ∃ x, r = some (.long x) ∧ (x = aMean σ (nI m) part ∧ CRel S' L' σ)) 0 0 62 [some (.ref 0), some (.int (nI m)), some (.int part), some (.int (nI (sumP (dA (itQ σ (nI m))) c))), some (.int (nI c))] [] SHC S2 L := by
          intro r
          induction r with
          | zero =>
            intro c he
            have hcn : c = nN σ := by omega
            subst hcn
            refine rx_iload dX11_mean_62 rfl ?_
            refine rx_aload_n dX11_mean_64 rfl ?_
            refine rx_getR dX11_mean_65 flX11_58 (sC_0) rfl ?_
            refine rx_getI dX11_mean_68 flX11_96 (sC_66) rfl ?_
            rw [hsz2]
            refine rx_icmp_ge 93 dX11_mean_71 (by decide) (fun h71 => ?_) (fun h71 => absurd (nI_le (by omega) (by omega)) h71)
            refine rx_iload_n dX11_mean_93 rfl ?_
            refine rx_aload_n dX11_mean_94 rfl ?_
            refine rx_getR dX11_mean_95 flX11_58 (sC_0) rfl ?_
            refine rx_getI dX11_mean_98 flX11_96 (sC_66) rfl ?_
            rw [hsz2]
            refine rx_iload_n dX11_mean_101 rfl ?_
            refine rx_cSl_3 clX11_220 dX11_mean_102 rfl (c_partOf g (sumP (dA (itQ σ (nI m))) (nN σ)) (nN σ) part S2 L (by have := sumP_le hA (nN σ) (Nat.le_refl _); omega) (by omega) (by omega)) ?_
            refine pur3 ?_
            exact rx_lret dX11_mean_105 rfl ⟨Nat.le_refl _, Nat.le_refl _⟩ ⟨rfl, _, rfl, ⟨by unfold aMean; rw [if_neg (fun q => q.elim (fun w => w hq1) (fun w => w.elim (fun w => w hq2) hn0))], hr2⟩⟩
          | succ r ih =>
            intro c he
            have hc7 : c < 7 := by omega
            have hci : (nI c).toNatClampNeg = c := nI_clamp (by omega)
            have hvc : vp_in (nI c) 7 := vp_in_nI hc7 (by omega)
            have hac : S2 69 c = nI (dA (itQ σ (nI m)) c).toNatClampNeg := by
              obtain ⟨x, hx, e⟩ := hA c (by omega)
              rw [hR2.a hc7, e, nI_clamp (by omega)]
            refine rx_iload dX11_mean_62 rfl ?_
            refine rx_aload_n dX11_mean_64 rfl ?_
            refine rx_getR dX11_mean_65 flX11_58 (sC_0) rfl ?_
            refine rx_getI dX11_mean_68 flX11_96 (sC_66) rfl ?_
            rw [hsz2]
            refine rx_icmp_ge 93 dX11_mean_71 (by decide) (fun h71 => absurd h71 (nI_ge (by omega) (by omega))) (fun h71 => ?_)
            refine rx_iload_n dX11_mean_74 rfl ?_
            refine rx_aload_n dX11_mean_75 rfl ?_
            refine rx_getR dX11_mean_76 flX11_58 (sC_0) rfl ?_
            refine rx_getR dX11_mean_79 flX11_118 (sC_66) rfl ?_
            refine rx_iload dX11_mean_82 rfl ?_
            refine rx_iaload dX11_mean_84 (sC_69) hvc ?_
            rw [hci, hac]
            refine rx_iadd dX11_mean_85 ?_
            rw [nI_add]
            refine rx_istore_3 rfl dX11_mean_86 ?_
            refine rx_iinc_4 (1) rfl dX11_mean_87 (by decide) ?_
            refine rx_goto 62 dX11_mean_90 (by decide) ?_
            rw [nI_1]
            exact ih (c + 1) (by omega)
        exact loop (nN σ) 0 (by omega)
      · refine rx_ldc2 (-9223372036854775808) dX11_mean_29 w_748 ?_
        exact rx_lret dX11_mean_32 rfl ⟨Nat.le_refl _, Nat.le_refl _⟩ ⟨rfl, _, rfl, ⟨(if_pos (by first | exact Or.inl (b2i_eq h7) | exact Or.inr (Or.inl (b2i_eq h16)) | exact Or.inr (Or.inr ((nI_eq (Nat.lt_of_le_of_lt hr.n7 (by decide)) (by omega)).mp h26)))).symm, hr⟩⟩
