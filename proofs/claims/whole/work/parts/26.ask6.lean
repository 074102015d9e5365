-- FRACTION
def pfB (a b : Nat) : Nat → Nat
  | 0 => 1
  | d + 1 => if a % (d + 1) = 0 ∧ b % (d + 1) = 0 then d + 1 else pfB a b d
theorem pfB_rng (a b : Nat) : ∀ k, 1 ≤ pfB a b k ∧ pfB a b k ≤ k + 1
  | 0 => ⟨Nat.le_refl _, Nat.le_refl _⟩
  | d + 1 => by
    have h := pfB_rng a b d
    unfold pfB
    by_cases q : a % (d + 1) = 0 ∧ b % (d + 1) = 0
    · rw [if_pos q]; omega
    · rw [if_neg q]; omega
theorem pfB_1 (a b : Nat) : pfB a b 1 = 1 := by
  unfold pfB
  by_cases q : a % (0 + 1) = 0 ∧ b % (0 + 1) = 0
  · rw [if_pos q]
  · rw [if_neg q]; rfl
def aPF (a b : Nat) (part : Int32) : Int64 := if part = 0 then (nI (a / pfB a b b)).toInt64 else (nI (b / pfB a b b)).toInt64
-- ODDS, MEAN
def shT (D : DY) (k : Nat) : DY := (dA D, dW D, dT D + k, dS D)
theorem StF.up9 {b : Nat} {S : SS} {x : Int32} : StF b S (upS S b 9 x) := ⟨fun j h1 _ _ _ => upS_off _ _ _ _ h1, fun k _ h1 => by rw [upS_row]; exact pk_un h1⟩
theorem ScR.shT {b : Nat} (hb : Sc b) {S : SS} {E : EN} {D : DY} (h : ScR b S E D) (hT : dT D ≤ 9999) (k : Nat) (hk : k ≤ 4) : ScR b (upS S b 9 (S b 9 + nI k)) E (shT D k) := by
  have hbl := hb.le
  have h9 : S b 9 = nI (dT D) := h.2.2.2.2.2.2.2.2.2.1
  refine h.step hb StF.up9 (fun c' hc => ?_) ?_ ?_ ?_ (fun c' hc => ?_)
  · rw [upS_off _ _ _ _ (by omega)]; exact h.a hc
  · rw [upS_row, pk_un (by decide)]; exact h.w
  · rw [upS_at, h9, nI_add]; rfl
  · show dT D + k < 20000; omega
  · rw [upS_off _ _ _ _ (by omega)]; exact h.2.2.2.2.2.2.2.2.2.2.2 c' hc
def odT (σ : SIG) (m k : Nat) : Int32 := itB (gE σ) (seesE σ) (-1) m (shT (gD σ) k)
def odC (σ : SIG) (m : Nat) : Nat → Nat
  | 0 => 0
  | k + 1 => if odT σ m k = 0 then odC σ m k + 1 else odC σ m k
theorem odC_le (σ : SIG) (m : Nat) : ∀ k, odC σ m k ≤ k
  | 0 => Nat.le_refl _
  | k + 1 => by
    have h := odC_le σ m k
    unfold odC
    by_cases q : odT σ m k = 0
    · rw [if_pos q]; omega
    · rw [if_neg q]; omega
def aOdds (σ : SIG) (n part : Int32) : Int64 := if ¬ (1 ≤ n ∧ n ≤ 20) ∨ ¬ (0 ≤ part ∧ part ≤ 1) then -9223372036854775808 else aPF (odC σ n.toNatClampNeg 4) 4 part
def sumP (a : Nat → Int32) : Nat → Nat
  | 0 => 0
  | c + 1 => sumP a c + (a c).toNatClampNeg
theorem sumP_le {a : Nat → Int32} {n : Nat} (h : ∀ c, c < n → ∃ x, x ≤ 99 ∧ a c = nI x) : ∀ k, k ≤ n → sumP a k ≤ 99 * k
  | 0, _ => Nat.le_refl _
  | k + 1, hk => by
    obtain ⟨x, hx, e⟩ := h k (by omega)
    have h1 := sumP_le h k (by omega)
    have e1 : (a k).toNatClampNeg = x := by rw [e]; exact nI_clamp (by omega)
    show sumP a k + (a k).toNatClampNeg ≤ 99 * (k + 1)
    omega
def aMean (σ : SIG) (n part : Int32) : Int64 := if ¬ (0 ≤ n ∧ n ≤ 40) ∨ ¬ (0 ≤ part ∧ part ≤ 1) ∨ nN σ = 0 then -9223372036854775808 else aPF (sumP (dA (itQ σ n)) (nN σ)) (nN σ) part

set_option maxRecDepth 20000 in
set_option maxHeartbeats 400000 in
theorem c_partOf (g : GG) {sh : List CS} (a b : Nat) (part : Int32) (S : SS) (L : LL) (ha : a < 700) (hb : b < 8) (hb1 : 1 ≤ b) : Cl g 0 mX11_partOfFraction [.int (nI a), .int (nI b), .int part] sh S L (fun x S' L' => x = aPF a b part ∧ S' = S ∧ L' = L) := by
  refine ct_of (ls := [some (.int (nI a)), some (.int (nI b)), some (.int part), none, none]) 2 (by decide +kernel) rfl rfl ?_
  refine rx_iconst (1) dX11_partOfFraction_0 (by decide) ?_
  refine rx_istore_3 rfl dX11_partOfFraction_1 ?_
  refine rx_iconst (2) dX11_partOfFraction_2 (by decide) ?_
  refine rx_istore_4 rfl dX11_partOfFraction_3 ?_
  have loop : ∀ (r d : Nat), d + r = b → 1 ≤ d → Rx g 0 0 0 mX11_partOfFraction sh.length (fun r sh' S' L' => sh' = sh ∧ ∃ x, r = some (.long x) ∧ (x = aPF a b part ∧ S' = S ∧ L' = L)) 0 0 5 [some (.int (nI a)), some (.int (nI b)), some (.int part), some (.int (nI (pfB a b d))), some (.int (nI (d + 1)))] [] sh S L := by
    intro r
    induction r with
    | zero =>
      intro d hd h1
      obtain rfl : d = b := by omega
      have hpr := pfB_rng a d d
      have hp0 : ¬ nI (pfB a d d) = 0 := fun q => by have := (nI_eq (b := 0) (by omega) (by omega)).mp q; omega
      refine rx_iload dX11_partOfFraction_5 rfl ?_
      refine rx_iload_n dX11_partOfFraction_7 rfl ?_
      refine rx_icmp_gt 34 dX11_partOfFraction_8 (by decide) (fun h8 => ?_) (fun h8 => absurd (nI_lt (a := d) (b := d + 1) (by omega) (by omega)) h8)
      refine rx_iload_n dX11_partOfFraction_34 rfl ?_
      refine rx_if_ne 45 dX11_partOfFraction_35 (by decide) (fun h35 => ?_) (fun h35 => ?_)
      · refine rx_iload_n dX11_partOfFraction_45 rfl ?_
        refine rx_iload_n dX11_partOfFraction_46 rfl ?_
        refine rx_idiv dX11_partOfFraction_47 hp0 ?_
        rw [pk_div (by omega) (by omega) (by omega)]
        refine rx_i2l dX11_partOfFraction_48 ?_
        exact rx_lret dX11_partOfFraction_49 rfl ⟨Nat.le_refl _, Nat.le_refl _⟩ ⟨rfl, _, rfl, ⟨(if_neg h35).symm, rfl, rfl⟩⟩
      · refine rx_iload_n dX11_partOfFraction_38 rfl ?_
        refine rx_iload_n dX11_partOfFraction_39 rfl ?_
        refine rx_idiv dX11_partOfFraction_40 hp0 ?_
        rw [pk_div (by omega) (by omega) (by omega)]
        refine rx_i2l dX11_partOfFraction_41 ?_
        refine rx_goto 49 dX11_partOfFraction_42 (by decide) ?_
        exact rx_lret dX11_partOfFraction_49 rfl ⟨Nat.le_refl _, Nat.le_refl _⟩ ⟨rfl, _, rfl, ⟨(if_pos h35).symm, rfl, rfl⟩⟩
    | succ r ih =>
      intro d hd h1
      have hd0 : ¬ nI (d + 1) = 0 := fun q => by have := (nI_eq (b := 0) (by omega) (by omega)).mp q; omega
      refine rx_iload dX11_partOfFraction_5 rfl ?_
      refine rx_iload_n dX11_partOfFraction_7 rfl ?_
      refine rx_icmp_gt 34 dX11_partOfFraction_8 (by decide) (fun h8 => absurd h8 (Int32.not_lt.mpr (nI_le (a := d + 1) (b := b) (by omega) (by omega)))) (fun h8 => ?_)
      refine rx_iload_n dX11_partOfFraction_11 rfl ?_
      refine rx_iload dX11_partOfFraction_12 rfl ?_
      refine rx_irem dX11_partOfFraction_14 hd0 ?_
      refine rx_if_ne 28 dX11_partOfFraction_15 (by decide) (fun h15 => ?_) (fun h15 => ?_)
      · first | have hmA2 : ¬ a % (d + 1) = 0 := (fun q => h15 (by rw [pk_rem (by omega) (by omega) (by omega), q]; rfl)) | have hmB2 : ¬ b % (d + 1) = 0 := (fun q => h22 (by rw [pk_rem (by omega) (by omega) (by omega), q]; rfl)) | skip
        refine rx_iinc_4 (1) rfl dX11_partOfFraction_28 (by decide) ?_
        refine rx_goto 5 dX11_partOfFraction_31 (by decide) ?_
        have e1 : pfB a b (d + 1) = pfB a b d := if_neg (fun q => hmA2 q.1)
        rw [nI_1]
        have hg := ih (d + 1) (by omega) (by omega)
        rw [e1] at hg
        exact hg
      · have hmA : a % (d + 1) = 0 := by rw [pk_rem (by omega) (by omega) (by omega)] at h15; exact (nI_eq (by have := Nat.mod_lt a (show d + 1 > 0 by omega); omega) (by omega)).mp h15
        refine rx_iload_n dX11_partOfFraction_18 rfl ?_
        refine rx_iload dX11_partOfFraction_19 rfl ?_
        refine rx_irem dX11_partOfFraction_21 hd0 ?_
        refine rx_if_ne 28 dX11_partOfFraction_22 (by decide) (fun h22 => ?_) (fun h22 => ?_)
        · first | have hmA2 : ¬ a % (d + 1) = 0 := (fun q => h15 (by rw [pk_rem (by omega) (by omega) (by omega), q]; rfl)) | have hmB2 : ¬ b % (d + 1) = 0 := (fun q => h22 (by rw [pk_rem (by omega) (by omega) (by omega), q]; rfl)) | skip
          refine rx_iinc_4 (1) rfl dX11_partOfFraction_28 (by decide) ?_
          refine rx_goto 5 dX11_partOfFraction_31 (by decide) ?_
          have e1 : pfB a b (d + 1) = pfB a b d := if_neg (fun q => hmB2 q.2)
          rw [nI_1]
          have hg := ih (d + 1) (by omega) (by omega)
          rw [e1] at hg
          exact hg
        · have hmB : b % (d + 1) = 0 := by rw [pk_rem (by omega) (by omega) (by omega)] at h22; exact (nI_eq (by have := Nat.mod_lt b (show d + 1 > 0 by omega); omega) (by omega)).mp h22
          refine rx_iload dX11_partOfFraction_25 rfl ?_
          refine rx_istore_3 rfl dX11_partOfFraction_27 ?_
          first | have hmA2 : ¬ a % (d + 1) = 0 := (fun q => h15 (by rw [pk_rem (by omega) (by omega) (by omega), q]; rfl)) | have hmB2 : ¬ b % (d + 1) = 0 := (fun q => h22 (by rw [pk_rem (by omega) (by omega) (by omega), q]; rfl)) | skip
          refine rx_iinc_4 (1) rfl dX11_partOfFraction_28 (by decide) ?_
          refine rx_goto 5 dX11_partOfFraction_31 (by decide) ?_
          have e1 : pfB a b (d + 1) = d + 1 := if_pos ⟨hmA, hmB⟩
          rw [nI_1]
          have hg := ih (d + 1) (by omega) (by omega)
          rw [e1] at hg
          exact hg
  have hg := loop (b - 1) 1 (by omega) (by omega)
  rw [pfB_1] at hg
  exact hg
