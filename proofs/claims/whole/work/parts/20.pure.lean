-- numbers of a turn state stay right
theorem pace_rng : ∀ k, k < 7 → ∀ v, v < 10 → ∀ r, r < 10 → paceK k (nI v) (nI r) = nI (paceK k (nI v) (nI r)).toNatClampNeg ∧ (paceK k (nI v) (nI r)).toNatClampNeg ≤ 30 := by decide +kernel
theorem or_bit : ∀ W, W < 128 → ∀ c, c < 7 → nI W ||| (1 <<< (nI c &&& 31)) = nI (W ||| 2 ^ c) := by decide +kernel
theorem pacN_rng {E : EN} (hE : EnOK E) (D : DY) {c : Nat} (hc : c < eN E) : ∃ p, p ≤ 30 ∧ pacN E D c = nI p := by
  obtain ⟨k, hk, ek⟩ := hE.2.1 c hc
  obtain ⟨v, hv, ev⟩ := hE.2.2.1 c hc
  have hn := hE.1
  obtain ⟨r, hr, er⟩ := hE.2.2.2.2.1 (c * 4 + dT D % 4) (by omega)
  have h := pace_rng k hk v (by omega) r (by omega)
  refine ⟨(paceK k (nI v) (nI r)).toNatClampNeg, h.2, ?_⟩
  unfold pacN kN
  rw [ek, ev, er, nI_clamp (by omega)]
  exact h.1
theorem cnN_rng {E : EN} (hE : EnOK E) (D : DY) : ∃ p, 1 ≤ p ∧ p ≤ 9 ∧ cnN E D = nI p := hE.2.2.2.2.2.1 (dT D % 4) (by omega)
theorem goeN_rng {E : EN} (hE : EnOK E) (D : DY) {c : Nat} (hc : c < eN E) : ∃ p, p ≤ 300 ∧ goeN E D c = nI p := by
  obtain ⟨p, hp, ep⟩ := pacN_rng hE D hc
  obtain ⟨q, hq1, hq, eq⟩ := cnN_rng hE D
  obtain ⟨e, he, ee⟩ := hE.2.2.2.1 c hc
  unfold goeN
  rw [ep, eq, ee]
  by_cases h : nI e < nI q
  · rw [if_pos h]
    have h2 : e < q := (nI_ltI (by omega) (by omega)).mp h
    refine ⟨p * (q - e), ?_, by rw [pk_sub (by omega), pk_mul]⟩
    have : p * (q - e) ≤ 30 * 9 := Nat.mul_le_mul hp (by omega)
    omega
  · rw [if_neg h]
    exact ⟨0, by omega, rfl⟩
theorem goH_rng {E : EN} (hE : EnOK E) (hd : Int32) (D : DY) {c : Nat} (hc : c < eN E) : ∃ p, p ≤ 300 ∧ goH E hd D c = nI p := by
  unfold goH
  by_cases h : nI c = hd
  · rw [if_pos h]; exact ⟨0, by omega, rfl⟩
  · rw [if_neg h]; exact goeN_rng hE D hc
theorem pow7 {n : Nat} (h : n ≤ 7) : 2 ^ n ≤ 128 := Nat.le_trans (Nat.pow_le_pow_right (by decide) h) (by decide)
theorem goOnP_ok {n : Nat} (hn : n ≤ 7) {far : Int32} {go a : Nat → Int32} {w : Int32} (hf : ∃ f, 1 ≤ f ∧ f ≤ 99 ∧ far = nI f) (hg : ∀ c, c < n → ∃ p, p ≤ 300 ∧ go c = nI p) (hw : ∃ W, W < 2 ^ n ∧ w = nI W) (ha : ∀ c, c < n → ∃ p, p ≤ 99 ∧ a c = nI p) :
    ∀ c, c ≤ n → (∃ W, W < 2 ^ n ∧ (goOnP far go a w c).2 = nI W) ∧ ∀ i, i < n → ∃ p, p ≤ 99 ∧ (goOnP far go a w c).1 i = nI p
  | 0, _ => ⟨hw, ha⟩
  | c + 1, hc => by
    obtain ⟨⟨W, hW, eW⟩, hA⟩ := goOnP_ok hn hf hg hw ha c (by omega)
    obtain ⟨f, hf1, hf2, ef⟩ := hf
    show (∃ W, W < 2 ^ n ∧ (goStep far go (goOnP far go a w c) c).2 = nI W) ∧ ∀ i, i < n → ∃ p, p ≤ 99 ∧ (goStep far go (goOnP far go a w c) c).1 i = nI p
    unfold goStep
    by_cases h1 : ¬ bitv (goOnP far go a w c).2 (nI c) = 0
    · rw [if_pos h1]; exact ⟨⟨W, hW, eW⟩, hA⟩
    · rw [if_neg h1]
      obtain ⟨p, hp, ep⟩ := hA c (by omega)
      obtain ⟨q, hq, eq⟩ := hg c (by omega)
      by_cases h2 : (goOnP far go a w c).1 c + go c < far
      · rw [if_pos h2]
        refine ⟨⟨W, hW, eW⟩, fun i hi => ?_⟩
        show ∃ p, p ≤ 99 ∧ upd _ _ _ i = nI p
        by_cases hic : i = c
        · subst hic
          rw [pk_us, ep, eq, nI_add]
          rw [ep, eq, nI_add, ef] at h2
          exact ⟨p + q, by have := (nI_ltI (by omega) (by omega)).mp h2; omega, rfl⟩
        · rw [pk_un hic]; exact hA i hi
      · rw [if_neg h2]
        have h128 := pow7 hn
        refine ⟨⟨W ||| 2 ^ c, Nat.or_lt_two_pow hW (Nat.pow_lt_pow_right (by decide) (by omega)), ?_⟩, fun i hi => ?_⟩
        · show _ ||| _ = _
          rw [eW]; exact or_bit W (by omega) c (by omega)
        · show ∃ p, p ≤ 99 ∧ upd _ _ _ i = nI p
          by_cases hic : i = c
          · subst hic
            rw [pk_us, ef]; exact ⟨f, hf2, rfl⟩
          · rw [pk_un hic]; exact hA i hi
theorem sbP_ok {n t : Nat} {bk : Int32} {a s : Nat → Int32} (ha : ∀ c, c < n → ∃ p, p ≤ 99 ∧ a c = nI p) (hs : ∀ c, c < n → ∃ p, p ≤ t ∧ s c = nI p) :
    ∀ c, c ≤ n → (∀ i, i < n → ∃ p, p ≤ 99 ∧ (sbP bk a s c).1 i = nI p) ∧ (∀ i, i < c → ∃ p, p ≤ t + 1 ∧ (sbP bk a s c).2 i = nI p) ∧ ∀ i, c ≤ i → (sbP bk a s c).2 i = s i
  | 0, _ => ⟨ha, fun i h => absurd h (by omega), fun i _ => rfl⟩
  | c + 1, hc => by
    obtain ⟨h1, h2, h3⟩ := sbP_ok (bk := bk) ha hs c (by omega)
    show (∀ i, i < n → ∃ p, p ≤ 99 ∧ (sbStep bk (sbP bk a s c) c).1 i = nI p) ∧ (∀ i, i < c + 1 → ∃ p, p ≤ t + 1 ∧ (sbStep bk (sbP bk a s c) c).2 i = nI p) ∧ ∀ i, c + 1 ≤ i → (sbStep bk (sbP bk a s c) c).2 i = s i
    unfold sbStep
    by_cases hb : bitv bk (nI c) = 0
    · rw [if_pos hb]
      refine ⟨h1, fun i hi => ?_, fun i hi => h3 i (by omega)⟩
      by_cases hic : i = c
      · obtain ⟨p, hp, ep⟩ := hs c (by omega)
        exact ⟨p, by omega, by rw [hic, h3 c (by omega)]; exact ep⟩
      · exact h2 i (by omega)
    · rw [if_neg hb]
      refine ⟨fun i hi => ?_, fun i hi => ?_, fun i hi => ?_⟩
      · show ∃ p, p ≤ 99 ∧ upd _ _ _ i = nI p
        by_cases hic : i = c
        · subst hic; rw [pk_us]; exact ⟨0, by omega, rfl⟩
        · rw [pk_un hic]; exact h1 i hi
      · show ∃ p, p ≤ t + 1 ∧ upd _ _ _ i = nI p
        by_cases hic : i = c
        · subst hic
          obtain ⟨p, hp, ep⟩ := hs i (by omega)
          rw [pk_us, h3 i (by omega), ep]
          exact ⟨p + 1, by omega, nI_1 p⟩
        · rw [pk_un hic]; exact h2 i (by omega)
      · show upd _ _ _ i = s i
        rw [pk_un (by omega)]; exact h3 i (by omega)
theorem DOK_step {E : EN} (hE : EnOK E) (sees hd : Int32) {D : DY} (hD : DOK (eN E) D) : DOK (eN E) (stepD E sees hd D) := by
  obtain ⟨h1, h2, h3⟩ := hD
  have hg := goOnP_ok hE.1 hE.2.2.2.2.2.2.1 (fun c hc => goH_rng hE hd D hc) h1 h2 (eN E) (Nat.le_refl _)
  have hs := sbP_ok (bk := stepB E sees hd D) (t := dT D) hg.2 h3 (eN E) (Nat.le_refl _)
  exact ⟨hg.1, hs.1, hs.2.1⟩
theorem DOK_it {E : EN} (hE : EnOK E) (sees hd : Int32) {D : DY} (hD : DOK (eN E) D) : ∀ m, DOK (eN E) (itD E sees hd m D)
  | 0 => hD
  | m + 1 => DOK_step hE sees hd (DOK_it hE sees hd hD m)
theorem CRel.dok {S : SS} {L : LL} {σ : SIG} (h : CRel S L σ) : DOK (eN (gE σ)) (gD σ) := h.1.1.2.1
-- how many bits
def popN (W : Nat) : Nat := W % 2 + W / 2 % 2 + W / 4 % 2 + W / 8 % 2 + W / 16 % 2 + W / 32 % 2 + W / 64 % 2
def popc (w : Int32) : Int32 := nI (popN w.toNatClampNeg)
def ush (x y : Int32) : Int32 := (x.toUInt32 >>> (y.toUInt32 &&& Int32.toUInt32 31)).toInt32
def bc1 (x : Int32) : Int32 := x - (ush x 1 &&& 1431655765)
def bc2 (x : Int32) : Int32 := (x &&& 858993459) + (ush x 2 &&& 858993459)
def bc3 (x : Int32) : Int32 := (x + ush x 4) &&& 252645135
def bcE (x : Int32) : Int32 := bc3 (bc2 (bc1 x)) + ush (bc3 (bc2 (bc1 x))) 8
theorem bc_ok : ∀ W, W < 128 → (bcE (nI W) + ush (bcE (nI W)) 16) &&& 63 = nI (popN W) := by decide +kernel

set_option maxRecDepth 20000 in
set_option maxHeartbeats 1000000 in
theorem c_bitCount (g : GG) {sh : List CS} (w : Int32) (S : SS) (L : LL) (hw : ∃ W, W < 128 ∧ w = nI W) : Ci g 0 mJ6_bitCount_0f7a4 [.int w] sh S L (fun r S' L' => r = popc w ∧ S' = S ∧ L' = L) := by
  refine ct_of (ls := [some (.int w)]) 0 (by decide +kernel) rfl rfl ?_
  refine rx_iload_n dJ6_bitCount_0f7a4_0 rfl ?_
  refine rx_iload_n dJ6_bitCount_0f7a4_1 rfl ?_
  refine rx_iconst (1) dJ6_bitCount_0f7a4_2 (by decide) ?_
  refine rx_iushr dJ6_bitCount_0f7a4_3 ?_
  refine rx_ldcw (1431655765) dJ6_bitCount_0f7a4_4 w_662 ?_
  refine rx_iand dJ6_bitCount_0f7a4_7 ?_
  refine rx_isub dJ6_bitCount_0f7a4_8 ?_
  refine rx_istore_0 dJ6_bitCount_0f7a4_9 ?_
  refine rx_iload_n dJ6_bitCount_0f7a4_10 rfl ?_
  refine rx_ldcw (858993459) dJ6_bitCount_0f7a4_11 w_663 ?_
  refine rx_iand dJ6_bitCount_0f7a4_14 ?_
  refine rx_iload_n dJ6_bitCount_0f7a4_15 rfl ?_
  refine rx_iconst (2) dJ6_bitCount_0f7a4_16 (by decide) ?_
  refine rx_iushr dJ6_bitCount_0f7a4_17 ?_
  refine rx_ldcw (858993459) dJ6_bitCount_0f7a4_18 w_663 ?_
  refine rx_iand dJ6_bitCount_0f7a4_21 ?_
  refine rx_iadd dJ6_bitCount_0f7a4_22 ?_
  refine rx_istore_0 dJ6_bitCount_0f7a4_23 ?_
  refine rx_iload_n dJ6_bitCount_0f7a4_24 rfl ?_
  refine rx_iload_n dJ6_bitCount_0f7a4_25 rfl ?_
  refine rx_iconst (4) dJ6_bitCount_0f7a4_26 (by decide) ?_
  refine rx_iushr dJ6_bitCount_0f7a4_27 ?_
  refine rx_iadd dJ6_bitCount_0f7a4_28 ?_
  refine rx_ldcw (252645135) dJ6_bitCount_0f7a4_29 w_664 ?_
  refine rx_iand dJ6_bitCount_0f7a4_32 ?_
  refine rx_istore_0 dJ6_bitCount_0f7a4_33 ?_
  refine rx_iload_n dJ6_bitCount_0f7a4_34 rfl ?_
  refine rx_iload_n dJ6_bitCount_0f7a4_35 rfl ?_
  refine rx_bipush (8) dJ6_bitCount_0f7a4_36 (by decide) ?_
  refine rx_iushr dJ6_bitCount_0f7a4_38 ?_
  refine rx_iadd dJ6_bitCount_0f7a4_39 ?_
  refine rx_istore_0 dJ6_bitCount_0f7a4_40 ?_
  refine rx_iload_n dJ6_bitCount_0f7a4_41 rfl ?_
  refine rx_iload_n dJ6_bitCount_0f7a4_42 rfl ?_
  refine rx_bipush (16) dJ6_bitCount_0f7a4_43 (by decide) ?_
  refine rx_iushr dJ6_bitCount_0f7a4_45 ?_
  refine rx_iadd dJ6_bitCount_0f7a4_46 ?_
  refine rx_istore_0 dJ6_bitCount_0f7a4_47 ?_
  refine rx_iload_n dJ6_bitCount_0f7a4_48 rfl ?_
  refine rx_bipush (63) dJ6_bitCount_0f7a4_49 (by decide) ?_
  refine rx_iand dJ6_bitCount_0f7a4_51 ?_
  exact rx_iret dJ6_bitCount_0f7a4_52 rfl ⟨Nat.le_refl _, Nat.le_refl _⟩ ⟨rfl, _, rfl, ⟨by obtain ⟨W, hW, rfl⟩ := hw; unfold popc; rw [nI_clamp (by omega)]; exact bc_ok W hW, rfl, rfl⟩⟩
