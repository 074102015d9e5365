-- SET, FEED
def wEr (s : SCN) (f : Nat → Int32) : SCN := (s.1, s.2.1, s.2.2.1, f, s.2.2.2.2)
theorem clrB : ∀ W, W < 128 → ∀ c, c < 7 → nI W &&& ((1 <<< (nI c &&& 31)) ^^^ (-1)) = nI (W - W / 2 ^ c % 2 * 2 ^ c) := by decide +kernel
theorem DOK.putW {n : Nat} {D : DY} (h : DOK n D) (hn : n ≤ 7) (c v : Nat) (hc : c < 7) (hv : v ≤ 99) : DOK n (putW D c (nI v)) := by
  obtain ⟨⟨W, hW, e⟩, h2, h3⟩ := h
  refine ⟨⟨W - W / 2 ^ c % 2 * 2 ^ c, by omega, ?_⟩, fun c' hc' => ?_, h3⟩
  · show dW D &&& _ = _
    rw [e]; exact clrB W (Nat.lt_of_lt_of_le hW (pow7 hn)) c hc
  · show ∃ a, a ≤ 99 ∧ upd (dA D) c (nI v) c' = nI a
    by_cases q : c' = c
    · rw [q, pk_us]; exact ⟨v, hv, rfl⟩
    · rw [pk_un q]; exact h2 c' hc'
theorem CRel.early {S : SS} {L : LL} {σ : SIG} (h : CRel S L σ) (c v : Nat) (hv : v ≤ 9) : CRel (upS S 57 c (nI v)) L (wEr (gN σ) (upd (eE (gE σ)) c (nI v)), σ.2) := by
  obtain ⟨k0, k1, k2, k3, k4, k5, k6⟩ := h.1.1
  exact h.cell (fun j hj => upS_off _ _ _ _ (by omega)) (fun k _ => by rw [upS_off _ _ _ _ (by omega)]) (h.sc.setEr S53 c (nI v)) ⟨h.en.setEr c v hv, k1, k2, k3, k4, k5, k6⟩ rfl rfl rfl
theorem e98 {v : Int32} (h : 0 ≤ v ∧ v ≤ 9) : ∃ j, j ≤ 98 ∧ v = nI j := by
  obtain ⟨j, hj, e⟩ := rngI 9 (by omega) h.1 h.2
  exact ⟨j, by omega, e⟩
theorem s98 {v x : Int32} {F : Nat} (h1 : 1 ≤ F) (h2 : F ≤ 99) (hx : x = nI F) (h : 0 ≤ v ∧ v ≤ x - 1) : ∃ j, j ≤ 98 ∧ v = nI j := by
  obtain ⟨h3, h4⟩ := h
  rw [hx, show nI F - 1 = nI (F - 1) from pk_sub (b := 1) h1] at h4
  obtain ⟨j, hj, e⟩ := rngI (F - 1) (by omega) h3 h4
  exact ⟨j, by omega, e⟩
def aSet (σ : SIG) (c w v : Int32) : Int32 := if ¬ (0 ≤ c ∧ c < nI (nN σ)) ∨ ¬ (0 ≤ w ∧ w ≤ 1) then -1 else if w = 0 then (if ¬ (0 ≤ v ∧ v ≤ (eY (gE σ)).1 - 1) then -2 else dA (gD σ) c.toNatClampNeg) else (if ¬ (0 ≤ v ∧ v ≤ 9) then -2 else eE (gE σ) c.toNatClampNeg)
def nSet (σ : SIG) (c w v : Int32) : SIG := if ¬ (0 ≤ c ∧ c < nI (nN σ)) ∨ ¬ (0 ≤ w ∧ w ≤ 1) then σ else if w = 0 then (if ¬ (0 ≤ v ∧ v ≤ (eY (gE σ)).1 - 1) then σ else (wD (gN σ) (putW (gD σ) c.toNatClampNeg v), σ.2)) else (if ¬ (0 ≤ v ∧ v ≤ 9) then σ else (wEr (gN σ) (upd (eE (gE σ)) c.toNatClampNeg v), σ.2))
def aFeed (σ : SIG) (q : Int32) : Int32 := if ¬ (0 ≤ q ∧ q ≤ 127) then -2 else if ¬ (gT σ).length < 100 then -4 else nI ((gT σ).length + 1)
def nFeed (σ : SIG) (q : Int32) : SIG := if ¬ (0 ≤ q ∧ q ≤ 127) then σ else if ¬ (gT σ).length < 100 then σ else (σ.1, σ.2.1, σ.2.2.1, σ.2.2.2.1, σ.2.2.2.2.1, gT σ ++ [q.toNatClampNeg], σ.2.2.2.2.2.2)
theorem q8 : ∀ q, q < 128 → (nI q).toInt8.toInt32 = nI q := by decide +kernel
theorem q8b : ∀ q, q < 128 → vp_nar .byte (nI q) = nI q := by decide +kernel
theorem CRel.feed {S : SS} {L : LL} {σ : SIG} (h : CRel S L σ) (q : Nat) (hq : q < 128) (hl : (gT σ).length < 100) : CRel (upS (upS S 9 (gT σ).length (nI q)) 0 2 (nI ((gT σ).length + 1))) L (σ.1, σ.2.1, σ.2.2.1, σ.2.2.2.1, σ.2.2.2.2.1, gT σ ++ [q], σ.2.2.2.2.2.2) := by
  obtain ⟨⟨k0, k1, k2, k3, k4, k5, k6, k7, k8, k9⟩, h1, h2, h3, h4, h5, h6, h7, h8, h9, h10⟩ := h
  have ho : ∀ j, j ≠ 0 → j ≠ 9 → upS (upS S 9 (gT σ).length (nI q)) 0 2 (nI ((gT σ).length + 1)) j = S j := fun j a b => by rw [upS_off _ _ _ _ a, upS_off _ _ _ _ b]
  have o0 : ∀ k, k ≠ 2 → upS (upS S 9 (gT σ).length (nI q)) 0 2 (nI ((gT σ).length + 1)) 0 k = S 0 k := fun k a => by rw [upS_row, pk_un a, upS_off _ _ _ _ (by decide)]
  refine ⟨⟨k0, k1, k2, k3, k4, k5, by show (gT σ ++ [q]).length ≤ 100; rw [List.length_append]; exact hl, mem_push k7 hq, k8, k9⟩, h1.off (fun j hj => ho j (by omega) (by omega)), fun e => (h2 e).off (fun j hj => ho j (by omega) (by omega)), by rw [o0 8 (by decide)]; exact h3, by rw [o0 4 (by decide)]; exact h4, fun y hy => (h5 y hy).off (by have : y ≤ gC σ := hy; omega) (fun j g1 g2 => ho j (by omega) (by omega)), ?_, fun i q' hq' => ?_, by rw [ho 97 (by omega) (by omega)]; exact h8, fun i g1 g2 => by rw [ho 98 (by omega) (by omega)]; exact h9 i g1 g2, fun t ht => by rw [ho 106 (by omega) (by omega), ho 107 (by omega) (by omega)]; exact h10 t ht⟩
  · rw [upS_at]
    show _ = nI (gT σ ++ [q]).length
    rw [List.length_append]; rfl
  · rw [upS_off _ _ _ _ (by decide), upS_row]
    rcases get_push hq' with ⟨w, e⟩ | ⟨w, e⟩
    · rw [pk_un (by omega)]; exact h7 i q' e
    · rw [w, e, pk_us]

set_option maxRecDepth 20000 in
set_option maxHeartbeats 1000000 in
theorem cc_set (g : GG) (σ : SIG) (c w v : Int32) (S : SS) (L : LL) (hr : CRel S L σ) : Ci g 1 mX11_set [.ref 0, .int c, .int w, .int v] SHC S L (fun r S' L' => r = aSet σ c w v ∧ CRel S' L' (nSet σ c w v)) := by
  refine ct_of (ls := [some (.ref 0), some (.int c), some (.int w), some (.int v), none]) 1 (by decide +kernel) rfl rfl ?_
  refine rx_aload_n dX11_set_0 rfl ?_
  refine rx_getR dX11_set_1 flX11_54 (sC_0) rfl ?_
  refine rx_iload_n dX11_set_4 rfl ?_
  refine rx_cVi_1 clX11_104 dX11_set_5 (rcvo (sC_53) rfl) rfl (c_has g S53 _ S L) ?_
  refine pur3 ?_
  rw [show S 53 6 = nI (nN σ) from hr.sc.1]
  refine rx_if_eq 20 dX11_set_8 (by decide) (fun h8 => ?_) (fun h8 => ?_)
  · refine rx_iconst (-1) dX11_set_20 (by decide) ?_
    have hno : ¬ (0 ≤ c ∧ c < nI (nN σ)) ∨ ¬ (0 ≤ w ∧ w ≤ 1) := by first | exact Or.inl (b2i_eq h8) | exact Or.inr (b2i_eq h17)
    exact rx_iret dX11_set_21 rfl ⟨Nat.le_refl _, Nat.le_refl _⟩ ⟨rfl, _, rfl, ⟨by unfold aSet; rw [if_pos hno], by unfold nSet; rw [if_pos hno]; exact hr⟩⟩
  · refine rx_iload_n dX11_set_11 rfl ?_
    refine rx_iconst (0) dX11_set_12 (by decide) ?_
    refine rx_iconst (1) dX11_set_13 (by decide) ?_
    refine rx_cSi_3 clX11_92 dX11_set_14 rfl (c_within g _ _ _ S L) ?_
    refine pur3 ?_
    refine rx_if_ne 22 dX11_set_17 (by decide) (fun h17 => ?_) (fun h17 => ?_)
    · have hq1 := b2i_ne h8
      have hq2 := b2i_ne h17
      have hno : ¬ (¬ (0 ≤ c ∧ c < nI (nN σ)) ∨ ¬ (0 ≤ w ∧ w ≤ 1)) := fun q => q.elim (fun x => x hq1) (fun x => x hq2)
      have hn7 : nN σ ≤ 7 := hr.n7
      obtain ⟨c, hc, rfl⟩ := rngL (nN σ) (by omega) hq1.1 hq1.2
      have e1 : (nI c).toNatClampNeg = c := nI_clamp (by omega)
      have hvc : vp_in (nI c) 7 := vp_in_nI (by omega) (by omega)
      obtain ⟨F, hF1, hF2, hF⟩ := hr.en.2.2.2.2.2.2.1
      obtain ⟨y, hy, hyS, hY⟩ := hr.sc.2.2.2.2.2.2.1
      have hcy : (nI y).toNatClampNeg = y := nI_clamp (by omega)
      refine rx_iload_n dX11_set_22 rfl ?_
      refine rx_iconst (0) dX11_set_23 (by decide) ?_
      refine rx_iload_n dX11_set_24 rfl ?_
      refine rx_if_ne 43 dX11_set_25 (by decide) (fun h25 => ?_) (fun h25 => ?_)
      · refine rx_bipush (9) dX11_set_43 (by decide) ?_
        refine rx_cSi_3 clX11_92 dX11_set_45 rfl (c_within g _ _ _ S L) ?_
        refine pur3 ?_
        refine rx_if_ne 54 dX11_set_48 (by decide) (fun h48 => ?_) (fun h48 => ?_)
        · have hq3 := b2i_ne h48
          obtain ⟨v, hv, rfl⟩ : ∃ j, j ≤ 98 ∧ v = nI j := by first | exact e98 hq3 | exact s98 hF1 hF2 hF hq3
          refine rx_iload_n dX11_set_54 rfl ?_
          refine rx_if_ne 81 dX11_set_55 (by decide) (fun h55 => ?_) (fun h55 => ?_)
          · refine rx_aload_n dX11_set_81 rfl ?_
            refine rx_getR dX11_set_82 flX11_54 (sC_0) rfl ?_
            refine rx_getR dX11_set_85 flX11_121 (sC_53) rfl ?_
            refine rx_iload_n dX11_set_88 rfl ?_
            refine rx_iaload dX11_set_89 (sC_57) hvc ?_
            rw [e1]
            refine rx_istore_4 rfl dX11_set_90 ?_
            refine rx_aload_n dX11_set_92 rfl ?_
            refine rx_getR dX11_set_93 flX11_54 (sC_0) rfl ?_
            refine rx_getR dX11_set_96 flX11_121 (sC_53) rfl ?_
            refine rx_iload_n dX11_set_99 rfl ?_
            refine rx_iload_n dX11_set_100 rfl ?_
            refine rx_iastore dX11_set_101 (sC_57) hvc ?_
            rw [e1]
            refine rx_iload dX11_set_102 rfl ?_
            exact rx_iret dX11_set_104 rfl ⟨Nat.le_refl _, Nat.le_refl _⟩ ⟨rfl, _, rfl, ⟨by unfold aSet; rw [if_neg hno, if_neg h25, if_neg (fun q => q hq3), e1]; exact hr.sc.2.2.2.1 c (by omega), by unfold nSet; rw [if_neg hno, if_neg h25, if_neg (fun q => q hq3), e1]; exact hr.early c v ((nI_leI (b := 9) (by omega) (by omega)).mp hq3.2)⟩⟩
          · refine rx_aload_n dX11_set_58 rfl ?_
            refine rx_getR dX11_set_59 flX11_54 (sC_0) rfl ?_
            refine rx_getR dX11_set_62 flX11_118 (sC_53) rfl ?_
            refine rx_iload_n dX11_set_65 rfl ?_
            refine rx_iaload dX11_set_66 (sC_56) hvc ?_
            rw [e1]
            refine rx_istore_4 rfl dX11_set_67 ?_
            refine rx_aload_n dX11_set_69 rfl ?_
            refine rx_getR dX11_set_70 flX11_54 (sC_0) rfl ?_
            refine rx_iload_n dX11_set_73 rfl ?_
            refine rx_iload_n dX11_set_74 rfl ?_
            refine rx_cVv_2 clX11_146 dX11_set_75 (rcvo (sC_53) rfl) rfl (c_putOnTheWay g S53 c (nI v) S L (by omega)) ?_
            rintro S3 L3 ⟨hS3, hL3⟩
            rw [hL3]
            refine rx_iload dX11_set_78 rfl ?_
            exact rx_iret dX11_set_80 rfl ⟨Nat.le_refl _, Nat.le_refl _⟩ ⟨rfl, _, rfl, absurd h55 h25⟩
        · refine rx_bipush (-2) dX11_set_51 (by decide) ?_
          exact rx_iret dX11_set_53 rfl ⟨Nat.le_refl _, Nat.le_refl _⟩ ⟨rfl, _, rfl, ⟨by unfold aSet; rw [if_neg hno, if_neg h25, if_pos (b2i_eq h48)], by unfold nSet; rw [if_neg hno, if_neg h25, if_pos (b2i_eq h48)]; exact hr⟩⟩
      · refine rx_aload_n dX11_set_28 rfl ?_
        refine rx_getR dX11_set_29 flX11_54 (sC_0) rfl ?_
        refine rx_getD dX11_set_32 flX11_139 (sC_53) rfl ?_
        rw [hyS, hcy]
        refine rx_getI dX11_set_35 flX11_143 (syO hy) rfl ?_
        rw [hY.2.2.2.1]
        refine rx_iconst (1) dX11_set_38 (by decide) ?_
        refine rx_isub dX11_set_39 ?_
        refine rx_goto 45 dX11_set_40 (by decide) ?_
        refine rx_cSi_3 clX11_92 dX11_set_45 rfl (c_within g _ _ _ S L) ?_
        refine pur3 ?_
        refine rx_if_ne 54 dX11_set_48 (by decide) (fun h48 => ?_) (fun h48 => ?_)
        · have hq3 := b2i_ne h48
          obtain ⟨v, hv, rfl⟩ : ∃ j, j ≤ 98 ∧ v = nI j := by first | exact e98 hq3 | exact s98 hF1 hF2 hF hq3
          refine rx_iload_n dX11_set_54 rfl ?_
          refine rx_if_ne 81 dX11_set_55 (by decide) (fun h55 => ?_) (fun h55 => ?_)
          · refine rx_aload_n dX11_set_81 rfl ?_
            refine rx_getR dX11_set_82 flX11_54 (sC_0) rfl ?_
            refine rx_getR dX11_set_85 flX11_121 (sC_53) rfl ?_
            refine rx_iload_n dX11_set_88 rfl ?_
            refine rx_iaload dX11_set_89 (sC_57) hvc ?_
            rw [e1]
            refine rx_istore_4 rfl dX11_set_90 ?_
            refine rx_aload_n dX11_set_92 rfl ?_
            refine rx_getR dX11_set_93 flX11_54 (sC_0) rfl ?_
            refine rx_getR dX11_set_96 flX11_121 (sC_53) rfl ?_
            refine rx_iload_n dX11_set_99 rfl ?_
            refine rx_iload_n dX11_set_100 rfl ?_
            refine rx_iastore dX11_set_101 (sC_57) hvc ?_
            rw [e1]
            refine rx_iload dX11_set_102 rfl ?_
            exact rx_iret dX11_set_104 rfl ⟨Nat.le_refl _, Nat.le_refl _⟩ ⟨rfl, _, rfl, absurd h25 h55⟩
          · refine rx_aload_n dX11_set_58 rfl ?_
            refine rx_getR dX11_set_59 flX11_54 (sC_0) rfl ?_
            refine rx_getR dX11_set_62 flX11_118 (sC_53) rfl ?_
            refine rx_iload_n dX11_set_65 rfl ?_
            refine rx_iaload dX11_set_66 (sC_56) hvc ?_
            rw [e1]
            refine rx_istore_4 rfl dX11_set_67 ?_
            refine rx_aload_n dX11_set_69 rfl ?_
            refine rx_getR dX11_set_70 flX11_54 (sC_0) rfl ?_
            refine rx_iload_n dX11_set_73 rfl ?_
            refine rx_iload_n dX11_set_74 rfl ?_
            refine rx_cVv_2 clX11_146 dX11_set_75 (rcvo (sC_53) rfl) rfl (c_putOnTheWay g S53 c (nI v) S L (by omega)) ?_
            rintro S3 L3 ⟨hS3, hL3⟩
            rw [hL3]
            refine rx_iload dX11_set_78 rfl ?_
            exact rx_iret dX11_set_80 rfl ⟨Nat.le_refl _, Nat.le_refl _⟩ ⟨rfl, _, rfl, ⟨by unfold aSet; rw [if_neg hno, if_pos h25, if_neg (fun q => q hq3), e1]; exact hr.sc.a (by omega), by unfold nSet; rw [if_neg hno, if_pos h25, if_neg (fun q => q hq3), e1]; refine hr.turn (D' := putW (gD σ) c (nI v)) ?_ (by rw [hS3]; exact StF.up3.trans StF.up7) (hr.dok.putW hn7 c v (by omega) (by omega)) hr.t; rw [hS3, hr.sc.w]; exact hr.sc.putW S53 c (nI v)⟩⟩
        · refine rx_bipush (-2) dX11_set_51 (by decide) ?_
          exact rx_iret dX11_set_53 rfl ⟨Nat.le_refl _, Nat.le_refl _⟩ ⟨rfl, _, rfl, ⟨by unfold aSet; rw [if_neg hno, if_pos h25, if_pos (b2i_eq h48)], by unfold nSet; rw [if_neg hno, if_pos h25, if_pos (b2i_eq h48)]; exact hr⟩⟩
    · refine rx_iconst (-1) dX11_set_20 (by decide) ?_
      have hno : ¬ (0 ≤ c ∧ c < nI (nN σ)) ∨ ¬ (0 ≤ w ∧ w ≤ 1) := by first | exact Or.inl (b2i_eq h8) | exact Or.inr (b2i_eq h17)
      exact rx_iret dX11_set_21 rfl ⟨Nat.le_refl _, Nat.le_refl _⟩ ⟨rfl, _, rfl, ⟨by unfold aSet; rw [if_pos hno], by unfold nSet; rw [if_pos hno]; exact hr⟩⟩
set_option maxRecDepth 20000 in
set_option maxHeartbeats 1000000 in
theorem cc_feed (g : GG) (σ : SIG) (q : Int32) (S : SS) (L : LL) (hr : CRel S L σ) : Ci g 1 mX11_feed [.ref 0, .int q] SHC S L (fun r S' L' => r = aFeed σ q ∧ CRel S' L' (nFeed σ q)) := by
  refine ct_of (ls := [some (.ref 0), some (.int q)]) 0 (by decide +kernel) rfl rfl ?_
  refine rx_iload_n dX11_feed_0 rfl ?_
  refine rx_iconst (0) dX11_feed_1 (by decide) ?_
  refine rx_bipush (127) dX11_feed_2 (by decide) ?_
  refine rx_cSi_3 clX11_92 dX11_feed_4 rfl (c_within g _ _ _ S L) ?_
  refine pur3 ?_
  refine rx_if_ne 13 dX11_feed_7 (by decide) (fun h7 => ?_) (fun h7 => ?_)
  · have hq1 := b2i_ne h7
    obtain ⟨q, hq, rfl⟩ := rngI 127 (by omega) hq1.1 hq1.2
    have e1 : (nI q).toNatClampNeg = q := nI_clamp (by omega)
    have hlen : (gT σ).length ≤ 100 := hr.1.2.2.2.2.2.2.1
    have h02 : S 0 2 = nI (gT σ).length := hr.2.2.2.2.2.2.1
    have e2 : (nI (gT σ).length).toNatClampNeg = (gT σ).length := nI_clamp (by omega)
    refine rx_aload_n dX11_feed_13 rfl ?_
    refine rx_getI dX11_feed_14 flX11_156 (sC_0) rfl ?_
    refine rx_bipush (100) dX11_feed_17 (by decide) ?_
    rw [h02]
    refine rx_icmp_lt 25 dX11_feed_19 (by decide) (fun h19 => ?_) (fun h19 => ?_)
    · have hf : (gT σ).length < 100 := by
        rcases Nat.lt_or_ge (gT σ).length 100 with w | w
        · exact w
        · exact absurd h19 (Int32.not_lt.mpr (nI_le (a := 100) w (by omega)))
      have hvl : vp_in (nI (gT σ).length) 100 := vp_in_nI hf (by omega)
      refine rx_aload_n dX11_feed_25 rfl ?_
      refine rx_getR dX11_feed_26 flX11_36 (sC_0) rfl ?_
      refine rx_aload_n dX11_feed_29 rfl ?_
      refine rx_getI dX11_feed_30 flX11_156 (sC_0) rfl ?_
      rw [h02]
      refine rx_iload_n dX11_feed_33 rfl ?_
      refine rx_i2b dX11_feed_34 ?_
      rw [q8 q (by omega)]
      refine rx_bastore dX11_feed_35 (sC_9) hvl ?_
      rw [q8b q (by omega), e2]
      refine rx_aload_n dX11_feed_36 rfl ?_
      refine rx_dup dX11_feed_37 rfl ?_
      refine rx_getI dX11_feed_38 flX11_156 (sC_0) rfl ?_
      rw [upS_off _ _ _ _ (by decide : (0 : Nat) ≠ 9), h02]
      refine rx_iconst (1) dX11_feed_41 (by decide) ?_
      refine rx_iadd dX11_feed_42 ?_
      rw [nI_1]
      refine rx_putI dX11_feed_43 flX11_156 (sC_0) rfl ?_
      refine rx_aload_n dX11_feed_46 rfl ?_
      refine rx_getI dX11_feed_47 flX11_156 (sC_0) rfl ?_
      rw [upS_at]
      exact rx_iret dX11_feed_50 rfl ⟨Nat.le_refl _, Nat.le_refl _⟩ ⟨rfl, _, rfl, ⟨by unfold aFeed; rw [if_neg (fun w => w hq1), if_neg (fun w => w hf)], by unfold nFeed; rw [if_neg (fun w => w hq1), if_neg (fun w => w hf), e1]; exact hr.feed q (by omega) hf⟩⟩
    · refine rx_bipush (-4) dX11_feed_22 (by decide) ?_
      have hf : ¬ (gT σ).length < 100 := fun w => h19 (nI_lt (b := 100) w (by omega))
      exact rx_iret dX11_feed_24 rfl ⟨Nat.le_refl _, Nat.le_refl _⟩ ⟨rfl, _, rfl, ⟨by unfold aFeed; rw [if_neg (fun w => w hq1), if_pos hf], by unfold nFeed; rw [if_neg (fun w => w hq1), if_pos hf]; exact hr⟩⟩
  · refine rx_bipush (-2) dX11_feed_10 (by decide) ?_
    exact rx_iret dX11_feed_12 rfl ⟨Nat.le_refl _, Nat.le_refl _⟩ ⟨rfl, _, rfl, ⟨by unfold aFeed; rw [if_pos (b2i_eq h7)], by unfold nFeed; rw [if_pos (b2i_eq h7)]; exact hr⟩⟩
