set_option maxRecDepth 20000 in
set_option maxHeartbeats 1000000 in
theorem c_part_4 (g : GG) {y : Nat} (hy : y < 7) (T : List Nat) (p : Nat) (cs : List TK)  (S : SS) (L : LL) (hP : PrR y T S p cs) : Ci g 6 mX10_readPart [.ref (11 + 6 * y), .int 4] SHC S L (fun x S' L' => PQ y T cs (PartOK T p 4) (PartNo T p 4) S x S' ∧ L' = L) := by
  obtain ⟨k1, k2, k3, k4, k5, k6, k7, k8, k9⟩ := id hP
  refine ct_of (ls := [some (.ref (11 + 6 * y)), some (.int 4), none]) 1 (by decide +kernel) rfl rfl ?_
  refine rx_aload_n dX10_readPart_0 rfl ?_
  refine rx_aload_n dX10_readPart_1 rfl ?_
  refine rx_getI dX10_readPart_2 flX10_44 (syO hy) rfl ?_
  rw [k4]
  refine rx_cVi_1 clX10_102 dX10_readPart_5 (rcvo (syO hy) rfl) rfl (c_signAt g hy T p S L (by omega) k1 k2 k3) ?_
  refine pur3 ?_
  refine rx_istore_2 rfl dX10_readPart_8 ?_
  refine rx_iload_n dX10_readPart_9 rfl ?_
  refine rx_bipush (33) dX10_readPart_10 (by decide) ?_
  refine rx_icmp_eq 26 dX10_readPart_12 (by decide) (fun h12 => ?_) (fun h12 => ?_)
  · have hb : chr T p = 33 ∨ chr T p = 40 := by first | exact Or.inl h12 | exact Or.inr h18
    refine rx_iload_n dX10_readPart_26 rfl ?_
    refine rx_iconst (4) dX10_readPart_27 (by decide) ?_
    refine rx_icmp_lt 33 dX10_readPart_28 (by decide) (fun h28 => absurd h28 (by decide)) (fun h28 => ?_)
    refine rx_iconst (0) dX10_readPart_31 (by decide) ?_
    exact rx_zret dX10_readPart_32 rfl (by decide) ⟨Nat.le_refl _, Nat.le_refl _⟩ ⟨rfl, _, rfl, ⟨⟨Or.inl rfl, fun q => absurd rfl q, fun _ => ⟨p, PartNo.full hb, k4⟩, PrF.refl⟩, rfl⟩⟩
  · refine rx_iload_n dX10_readPart_15 rfl ?_
    refine rx_bipush (40) dX10_readPart_16 (by decide) ?_
    refine rx_icmp_eq 26 dX10_readPart_18 (by decide) (fun h18 => ?_) (fun h18 => ?_)
    · have hb : chr T p = 33 ∨ chr T p = 40 := by first | exact Or.inl h12 | exact Or.inr h18
      refine rx_iload_n dX10_readPart_26 rfl ?_
      refine rx_iconst (4) dX10_readPart_27 (by decide) ?_
      refine rx_icmp_lt 33 dX10_readPart_28 (by decide) (fun h28 => absurd h28 (by decide)) (fun h28 => ?_)
      refine rx_iconst (0) dX10_readPart_31 (by decide) ?_
      exact rx_zret dX10_readPart_32 rfl (by decide) ⟨Nat.le_refl _, Nat.le_refl _⟩ ⟨rfl, _, rfl, ⟨⟨Or.inl rfl, fun q => absurd rfl q, fun _ => ⟨p, PartNo.full hb, k4⟩, PrF.refl⟩, rfl⟩⟩
    · refine rx_aload_n dX10_readPart_21 rfl ?_
      refine rx_cVi_0 clX10_123 dX10_readPart_22 (rcvo (syO hy) rfl) rfl (c_readTest g hy T p cs S L hP) ?_
      rintro x1 S1 L1 ⟨hq1, hL1⟩
      rw [hL1]
      have hb : ¬ (chr T p = 33 ∨ chr T p = 40) := fun q => q.elim h12 h18
      exact rx_zret dX10_readPart_25 rfl hq1.nar ⟨Nat.le_refl _, Nat.le_refl _⟩ ⟨rfl, _, rfl, ⟨hq1.mono (fun p' c' ⟨t, a1, a2, a3, a4⟩ => by rw [a2] at a3 ⊢; exact PartOK.tst (by decide) hb a1 a3 a4) (fun q a => PartNo.tst hb a k5), rfl⟩⟩
set_option maxRecDepth 20000 in
set_option maxHeartbeats 1000000 in
theorem c_both_4 (g : GG) {y : Nat} (hy : y < 7) (T : List Nat) (p : Nat) (cs : List TK) (S : SS) (L : LL) (hP : PrR y T S p cs) : Ci g 7 mX10_readBoth [.ref (11 + 6 * y), .int 4] SHC S L (fun x S' L' => PQ y T cs (BothOK T p 4) (BothNo T p 4) S x S' ∧ L' = L) := by
  obtain ⟨k1, k2, k3, k4, k5, k6, k7, k8, k9⟩ := id hP
  refine ct_of (ls := [some (.ref (11 + 6 * y)), some (.int 4), none]) 1 (by decide +kernel) rfl rfl ?_
  refine rx_aload_n dX10_readBoth_0 rfl ?_
  refine rx_iload_n dX10_readBoth_1 rfl ?_
  refine rx_cVi_1 clX10_120 dX10_readBoth_2 (rcvo (syO hy) rfl) rfl (c_part_4 g hy T p cs S L hP) ?_
  rintro x0 S0 L0 ⟨⟨b0, y0, n0, F0⟩, hL0⟩
  rw [hL0]
  refine rx_if_ne 10 dX10_readBoth_5 (by decide) (fun h5 => ?_) (fun h5 => ?_)
  · obtain ⟨p0, c0, hO0, hP0⟩ := y0 h5
    have hI0 := BothP.of hO0
    have hz0 : 0 < p0 := by have := hI0.1; unfold Sz at this; omega
    refine rx_iconst (0) dX10_readBoth_10 (by decide) ?_
    refine rx_istore_2 rfl dX10_readBoth_11 ?_
    have loop : ∀ (r i p1 : Nat) (c1 : List TK) (S1 : SS), T.length < p1 + r → i < p1 → BothP T p 4 p1 c1 → PrR y T S1 p1 (cs ++ c1) → PrF y S S1 → Rx g 7 0 0 mX10_readBoth SHC.length (fun r sh' S' L' => sh' = SHC ∧ ∃ x, r = some (.int x) ∧ (PQ y T cs (BothOK T p 4) (BothNo T p 4) S x S' ∧ L' = L)) 0 0 12 [some (.ref (11 + 6 * y)), some (.int 4), some (.int (nI i))] [] SHC S1 L := by
      intro r
      induction r with
      | zero =>
        intro i p1 c1 S1 he hi hI hP1 hF1
        exact absurd hI.1.2.1 (by omega)
      | succ r ih =>
        intro i p1 c1 S1 he hi hI hP1 hF1
        refine rx_iload_n dX10_readBoth_12 rfl ?_
        refine rx_bipush (100) dX10_readBoth_13 (by decide) ?_
        refine rx_icmp_ge 49 dX10_readBoth_15 (by decide) (fun h15 => absurd h15 (nI_ge (a := i) (b := 100) (by have := hI.1.2.1; omega) (by omega))) (fun h15 => ?_)
        refine rx_aload_n dX10_readBoth_18 rfl ?_
        refine rx_bipush (38) dX10_readBoth_19 (by decide) ?_
        refine rx_cVi_1 clX10_57 dX10_readBoth_21 (rcvo (syO hy) rfl) rfl (c_skip g hy T p1 (cs ++ c1) 38 S1 L hP1 (by decide)) ?_
        rintro x2 S2 L2 ⟨⟨b2, y2, n2, F2⟩, hL2⟩
        rw [hL2]
        refine rx_if_eq 49 dX10_readBoth_24 (by decide) (fun h24 => ?_) (fun h24 => ?_)
        · refine rx_iconst (1) dX10_readBoth_49 (by decide) ?_
          exact rx_zret dX10_readBoth_50 rfl (by decide) ⟨Nat.le_refl _, Nat.le_refl _⟩ ⟨rfl, _, rfl, ⟨⟨Or.inr rfl, fun _ => ⟨p1, c1, ⟨hI, (n2 h24).1⟩, by rw [(n2 h24).2]; exact hP1⟩, fun q => absurd q (by decide), hF1.trans F2⟩, rfl⟩⟩
        · obtain ⟨hb, hP2⟩ := y2 h24
          refine rx_aload_n dX10_readBoth_27 rfl ?_
          refine rx_iload_n dX10_readBoth_28 rfl ?_
          refine rx_cVi_1 clX10_120 dX10_readBoth_29 (rcvo (syO hy) rfl) rfl (c_part_4 g hy T (p1 + 1) (cs ++ c1) S2 L hP2) ?_
          rintro x3 S3 L3 ⟨⟨b3, y3, n3, F3⟩, hL3⟩
          rw [hL3]
          refine rx_if_ne 37 dX10_readBoth_32 (by decide) (fun h32 => ?_) (fun h32 => ?_)
          · obtain ⟨p2, c2, hO, hP3⟩ := y3 h32
            have hI2 := BothP.more hI hb hO
            have hl2 : (cs ++ c1 ++ c2).length + 1 ≤ p2 := by have := hI2.1.2.2; simp only [List.length_append, List.length_singleton] at this ⊢; omega
            refine rx_aload_n dX10_readBoth_37 rfl ?_
            refine rx_bipush (-2) dX10_readBoth_38 (by decide) ?_
            refine rx_cVv_1 clX10_116 dX10_readBoth_40 (rcvo (syO hy) rfl) rfl (c_addCode g hy T p2 (cs ++ c1 ++ c2) (7, 0, 0) S3 L hP3 hl2) ?_
            rintro S4 L4 ⟨⟨hP4, F4⟩, hL4⟩
            rw [hL4]
            rw [show cs ++ c1 ++ c2 ++ [((7, 0, 0) : TK)] = cs ++ (c1 ++ c2 ++ [(7, 0, 0)]) from by simp only [List.append_assoc]] at hP4
            refine rx_iinc_2 (1) rfl dX10_readBoth_43 (by decide) ?_
            refine rx_goto 12 dX10_readBoth_46 (by decide) ?_
            rw [nI_1]
            exact ih (i + 1) p2 _ S4 (by have := hO.1.1; have := hI.1.1; unfold Sz at *; omega) (by have := hO.1.1; have := hI2.1; omega) hI2 hP4 (((hF1.trans F2).trans F3).trans F4)
          · refine rx_iconst (0) dX10_readBoth_35 (by decide) ?_
            exact rx_zret dX10_readBoth_36 rfl (by decide) ⟨Nat.le_refl _, Nat.le_refl _⟩ ⟨rfl, _, rfl, ⟨⟨Or.inl rfl, fun q => absurd rfl q, fun _ => by obtain ⟨q, a, b⟩ := n3 h32; exact ⟨q, BothP.no hI hb a, b⟩, (hF1.trans F2).trans F3⟩, rfl⟩⟩
    exact loop (T.length + 1) 0 p0 c0 S0 (by omega) (by have := hI0.1; omega) hI0 hP0 F0
  · refine rx_iconst (0) dX10_readBoth_8 (by decide) ?_
    exact rx_zret dX10_readBoth_9 rfl (by decide) ⟨Nat.le_refl _, Nat.le_refl _⟩ ⟨rfl, _, rfl, ⟨⟨Or.inl rfl, fun q => absurd rfl q, fun _ => by obtain ⟨q, a, b⟩ := n0 h5; exact ⟨q, BothNo.of a, b⟩, F0⟩, rfl⟩⟩
set_option maxRecDepth 20000 in
set_option maxHeartbeats 1000000 in
theorem c_eith_4 (g : GG) {y : Nat} (hy : y < 7) (T : List Nat) (p : Nat) (cs : List TK) (S : SS) (L : LL) (hP : PrR y T S p cs) : Ci g 8 mX10_readEither [.ref (11 + 6 * y), .int 4] SHC S L (fun x S' L' => PQ y T cs (EithOK T p 4) (EithNo T p 4) S x S' ∧ L' = L) := by
  obtain ⟨k1, k2, k3, k4, k5, k6, k7, k8, k9⟩ := id hP
  refine ct_of (ls := [some (.ref (11 + 6 * y)), some (.int 4), none]) 1 (by decide +kernel) rfl rfl ?_
  refine rx_aload_n dX10_readEither_0 rfl ?_
  refine rx_iload_n dX10_readEither_1 rfl ?_
  refine rx_cVi_1 clX10_113 dX10_readEither_2 (rcvo (syO hy) rfl) rfl (c_both_4 g hy T p cs S L hP) ?_
  rintro x0 S0 L0 ⟨⟨b0, y0, n0, F0⟩, hL0⟩
  rw [hL0]
  refine rx_if_ne 10 dX10_readEither_5 (by decide) (fun h5 => ?_) (fun h5 => ?_)
  · obtain ⟨p0, c0, hO0, hP0⟩ := y0 h5
    have hI0 := EithP.of hO0
    have hz0 : 0 < p0 := by have := hI0.1; unfold Sz at this; omega
    refine rx_iconst (0) dX10_readEither_10 (by decide) ?_
    refine rx_istore_2 rfl dX10_readEither_11 ?_
    have loop : ∀ (r i p1 : Nat) (c1 : List TK) (S1 : SS), T.length < p1 + r → i < p1 → EithP T p 4 p1 c1 → PrR y T S1 p1 (cs ++ c1) → PrF y S S1 → Rx g 8 0 0 mX10_readEither SHC.length (fun r sh' S' L' => sh' = SHC ∧ ∃ x, r = some (.int x) ∧ (PQ y T cs (EithOK T p 4) (EithNo T p 4) S x S' ∧ L' = L)) 0 0 12 [some (.ref (11 + 6 * y)), some (.int 4), some (.int (nI i))] [] SHC S1 L := by
      intro r
      induction r with
      | zero =>
        intro i p1 c1 S1 he hi hI hP1 hF1
        exact absurd hI.1.2.1 (by omega)
      | succ r ih =>
        intro i p1 c1 S1 he hi hI hP1 hF1
        refine rx_iload_n dX10_readEither_12 rfl ?_
        refine rx_bipush (100) dX10_readEither_13 (by decide) ?_
        refine rx_icmp_ge 49 dX10_readEither_15 (by decide) (fun h15 => absurd h15 (nI_ge (a := i) (b := 100) (by have := hI.1.2.1; omega) (by omega))) (fun h15 => ?_)
        refine rx_aload_n dX10_readEither_18 rfl ?_
        refine rx_bipush (124) dX10_readEither_19 (by decide) ?_
        refine rx_cVi_1 clX10_57 dX10_readEither_21 (rcvo (syO hy) rfl) rfl (c_skip g hy T p1 (cs ++ c1) 124 S1 L hP1 (by decide)) ?_
        rintro x2 S2 L2 ⟨⟨b2, y2, n2, F2⟩, hL2⟩
        rw [hL2]
        refine rx_if_eq 49 dX10_readEither_24 (by decide) (fun h24 => ?_) (fun h24 => ?_)
        · refine rx_iconst (1) dX10_readEither_49 (by decide) ?_
          exact rx_zret dX10_readEither_50 rfl (by decide) ⟨Nat.le_refl _, Nat.le_refl _⟩ ⟨rfl, _, rfl, ⟨⟨Or.inr rfl, fun _ => ⟨p1, c1, ⟨hI, (n2 h24).1⟩, by rw [(n2 h24).2]; exact hP1⟩, fun q => absurd q (by decide), hF1.trans F2⟩, rfl⟩⟩
        · obtain ⟨hb, hP2⟩ := y2 h24
          refine rx_aload_n dX10_readEither_27 rfl ?_
          refine rx_iload_n dX10_readEither_28 rfl ?_
          refine rx_cVi_1 clX10_113 dX10_readEither_29 (rcvo (syO hy) rfl) rfl (c_both_4 g hy T (p1 + 1) (cs ++ c1) S2 L hP2) ?_
          rintro x3 S3 L3 ⟨⟨b3, y3, n3, F3⟩, hL3⟩
          rw [hL3]
          refine rx_if_ne 37 dX10_readEither_32 (by decide) (fun h32 => ?_) (fun h32 => ?_)
          · obtain ⟨p2, c2, hO, hP3⟩ := y3 h32
            have hI2 := EithP.more hI hb hO
            have hl2 : (cs ++ c1 ++ c2).length + 1 ≤ p2 := by have := hI2.1.2.2; simp only [List.length_append, List.length_singleton] at this ⊢; omega
            refine rx_aload_n dX10_readEither_37 rfl ?_
            refine rx_bipush (-3) dX10_readEither_38 (by decide) ?_
            refine rx_cVv_1 clX10_116 dX10_readEither_40 (rcvo (syO hy) rfl) rfl (c_addCode g hy T p2 (cs ++ c1 ++ c2) (8, 0, 0) S3 L hP3 hl2) ?_
            rintro S4 L4 ⟨⟨hP4, F4⟩, hL4⟩
            rw [hL4]
            rw [show cs ++ c1 ++ c2 ++ [((8, 0, 0) : TK)] = cs ++ (c1 ++ c2 ++ [(8, 0, 0)]) from by simp only [List.append_assoc]] at hP4
            refine rx_iinc_2 (1) rfl dX10_readEither_43 (by decide) ?_
            refine rx_goto 12 dX10_readEither_46 (by decide) ?_
            rw [nI_1]
            exact ih (i + 1) p2 _ S4 (by have := hO.1.1.1; have := hI.1; omega) (by have := hO.1.1.1; have := hI2.1; omega) hI2 hP4 (((hF1.trans F2).trans F3).trans F4)
          · refine rx_iconst (0) dX10_readEither_35 (by decide) ?_
            exact rx_zret dX10_readEither_36 rfl (by decide) ⟨Nat.le_refl _, Nat.le_refl _⟩ ⟨rfl, _, rfl, ⟨⟨Or.inl rfl, fun q => absurd rfl q, fun _ => by obtain ⟨q, a, b⟩ := n3 h32; exact ⟨q, EithP.no hI hb a, b⟩, (hF1.trans F2).trans F3⟩, rfl⟩⟩
    exact loop (T.length + 1) 0 p0 c0 S0 (by omega) (by have := hI0.1; omega) hI0 hP0 F0
  · refine rx_iconst (0) dX10_readEither_8 (by decide) ?_
    exact rx_zret dX10_readEither_9 rfl (by decide) ⟨Nat.le_refl _, Nat.le_refl _⟩ ⟨rfl, _, rfl, ⟨⟨Or.inl rfl, fun q => absurd rfl q, fun _ => by obtain ⟨q, a, b⟩ := n0 h5; exact ⟨q, EithNo.of a, b⟩, F0⟩, rfl⟩⟩
set_option maxRecDepth 20000 in
set_option maxHeartbeats 1000000 in
theorem c_part_3 (g : GG) {y : Nat} (hy : y < 7) (T : List Nat) (p : Nat) (cs : List TK)  (S : SS) (L : LL) (hP : PrR y T S p cs) : Ci g 9 mX10_readPart [.ref (11 + 6 * y), .int 3] SHC S L (fun x S' L' => PQ y T cs (PartOK T p 3) (PartNo T p 3) S x S' ∧ L' = L) := by
  obtain ⟨k1, k2, k3, k4, k5, k6, k7, k8, k9⟩ := id hP
  refine ct_of (ls := [some (.ref (11 + 6 * y)), some (.int 3), none]) 1 (by decide +kernel) rfl rfl ?_
  refine rx_aload_n dX10_readPart_0 rfl ?_
  refine rx_aload_n dX10_readPart_1 rfl ?_
  refine rx_getI dX10_readPart_2 flX10_44 (syO hy) rfl ?_
  rw [k4]
  refine rx_cVi_1 clX10_102 dX10_readPart_5 (rcvo (syO hy) rfl) rfl (c_signAt g hy T p S L (by omega) k1 k2 k3) ?_
  refine pur3 ?_
  refine rx_istore_2 rfl dX10_readPart_8 ?_
  refine rx_iload_n dX10_readPart_9 rfl ?_
  refine rx_bipush (33) dX10_readPart_10 (by decide) ?_
  refine rx_icmp_eq 26 dX10_readPart_12 (by decide) (fun h12 => ?_) (fun h12 => ?_)
  · have hb : chr T p = 33 ∨ chr T p = 40 := by first | exact Or.inl h12 | exact Or.inr h18
    refine rx_iload_n dX10_readPart_26 rfl ?_
    refine rx_iconst (4) dX10_readPart_27 (by decide) ?_
    refine rx_icmp_lt 33 dX10_readPart_28 (by decide) (fun h28 => ?_) (fun h28 => absurd (by decide) h28)
    have hpl : p < T.length := hb.elim (fun q => chr_in q (by decide)) (fun q => chr_in q (by decide))
    have hP1 := hP.put (p' := p + 1) (by omega) hpl hy
    refine rx_aload_n dX10_readPart_33 rfl ?_
    refine rx_dup dX10_readPart_34 rfl ?_
    refine rx_getI dX10_readPart_35 flX10_44 (syO hy) rfl ?_
    rw [k4]
    refine rx_iconst (1) dX10_readPart_38 (by decide) ?_
    refine rx_iadd dX10_readPart_39 ?_
    rw [nI_1]
    refine rx_putI dX10_readPart_40 flX10_44 (syO hy) rfl ?_
    refine rx_iload_n dX10_readPart_43 rfl ?_
    refine rx_bipush (40) dX10_readPart_44 (by decide) ?_
    refine rx_icmp_ne 74 dX10_readPart_46 (by decide) (fun h46 => ?_) (fun h46 => ?_)
    · have h33 : chr T p = 33 := by first | exact h12 | exact absurd h18 h46
      refine rx_aload_n dX10_readPart_74 rfl ?_
      refine rx_iload_n dX10_readPart_75 rfl ?_
      refine rx_iconst (1) dX10_readPart_76 (by decide) ?_
      refine rx_iadd dX10_readPart_77 ?_
      rw [show ((3 : Int32) + 1) = 4 from by decide]
      refine rx_cVi_1 clX10_120 dX10_readPart_78 (rcvo (syO hy) rfl) rfl (c_part_4 g hy T (p + 1) cs _ L hP1) ?_
      rintro x1 S1 L1 ⟨⟨b1, y1, n1, F1⟩, hL1⟩
      rw [hL1]
      refine rx_if_ne 86 dX10_readPart_81 (by decide) (fun h81 => ?_) (fun h81 => ?_)
      · obtain ⟨p1, c1, hE1, hP2⟩ := y1 h81
        have hl2 : (cs ++ c1).length + 1 ≤ p1 := by have := hE1.1.2.2; rw [List.length_append]; omega
        refine rx_aload_n dX10_readPart_86 rfl ?_
        refine rx_iconst (-1) dX10_readPart_87 (by decide) ?_
        refine rx_cVv_1 clX10_116 dX10_readPart_88 (rcvo (syO hy) rfl) rfl (c_addCode g hy T p1 (cs ++ c1) (6, 0, 0) S1 L hP2 hl2) ?_
        rintro S3 L3 ⟨⟨hP3, F3⟩, hL3⟩
        rw [hL3]
        rw [List.append_assoc] at hP3
        refine rx_iconst (1) dX10_readPart_91 (by decide) ?_
        exact rx_zret dX10_readPart_92 rfl (by decide) ⟨Nat.le_refl _, Nat.le_refl _⟩ ⟨rfl, _, rfl, ⟨⟨Or.inr rfl, fun _ => ⟨p1, _, PartOK.not (by decide) h33 hE1, hP3⟩, fun q => absurd q (by decide), (PrF.put.trans F1).trans F3⟩, rfl⟩⟩
      · refine rx_iconst (0) dX10_readPart_84 (by decide) ?_
        exact rx_zret dX10_readPart_85 rfl (by decide) ⟨Nat.le_refl _, Nat.le_refl _⟩ ⟨rfl, _, rfl, ⟨⟨Or.inl rfl, fun q => absurd rfl q, fun _ => by obtain ⟨q, a, b⟩ := n1 h81; exact ⟨q, PartNo.not (by decide) h33 a, b⟩, PrF.put.trans F1⟩, rfl⟩⟩
    · have h40 : chr T p = 40 := h46
      refine rx_aload_n dX10_readPart_49 rfl ?_
      refine rx_iload_n dX10_readPart_50 rfl ?_
      refine rx_iconst (1) dX10_readPart_51 (by decide) ?_
      refine rx_iadd dX10_readPart_52 ?_
      rw [show ((3 : Int32) + 1) = 4 from by decide]
      refine rx_cVi_1 clX10_68 dX10_readPart_53 (rcvo (syO hy) rfl) rfl (c_eith_4 g hy T (p + 1) cs _ L hP1) ?_
      rintro x1 S1 L1 ⟨⟨b1, y1, n1, F1⟩, hL1⟩
      rw [hL1]
      refine rx_if_eq 72 dX10_readPart_56 (by decide) (fun h56 => ?_) (fun h56 => ?_)
      · refine rx_iconst (0) dX10_readPart_72 (by decide) ?_
        exact rx_zret dX10_readPart_73 rfl (by decide) ⟨Nat.le_refl _, Nat.le_refl _⟩ ⟨rfl, _, rfl, ⟨⟨Or.inl rfl, fun q => absurd rfl q, fun _ => by obtain ⟨q, a, b⟩ := n1 h56; exact ⟨q, PartNo.par (by decide) h40 a, b⟩, PrF.put.trans F1⟩, rfl⟩⟩
      · obtain ⟨p1, c1, hE1, hP2⟩ := y1 h56
        refine rx_aload_n dX10_readPart_59 rfl ?_
        refine rx_bipush (41) dX10_readPart_60 (by decide) ?_
        refine rx_cVi_1 clX10_57 dX10_readPart_62 (rcvo (syO hy) rfl) rfl (c_skip g hy T p1 (cs ++ c1) 41 S1 L hP2 (by decide)) ?_
        rintro x2 S2 L2 ⟨⟨b2, y2, n2, F2⟩, hL2⟩
        rw [hL2]
        refine rx_if_eq 72 dX10_readPart_65 (by decide) (fun h65 => ?_) (fun h65 => ?_)
        · refine rx_iconst (0) dX10_readPart_72 (by decide) ?_
          exact rx_zret dX10_readPart_73 rfl (by decide) ⟨Nat.le_refl _, Nat.le_refl _⟩ ⟨rfl, _, rfl, ⟨⟨Or.inl rfl, fun q => absurd rfl q, fun _ => ⟨p1, PartNo.opn (by decide) h40 hE1 (n2 h65).1, by rw [(n2 h65).2]; exact hP2.2.2.2.1⟩, (PrF.put.trans F1).trans F2⟩, rfl⟩⟩
        · refine rx_iconst (1) dX10_readPart_68 (by decide) ?_
          refine rx_goto 73 dX10_readPart_69 (by decide) ?_
          exact rx_zret dX10_readPart_73 rfl (by decide) ⟨Nat.le_refl _, Nat.le_refl _⟩ ⟨rfl, _, rfl, ⟨⟨Or.inr rfl, fun _ => ⟨p1 + 1, c1, PartOK.par (by decide) h40 hE1 (y2 h65).1, (y2 h65).2⟩, fun q => absurd q (by decide), (PrF.put.trans F1).trans F2⟩, rfl⟩⟩
  · refine rx_iload_n dX10_readPart_15 rfl ?_
    refine rx_bipush (40) dX10_readPart_16 (by decide) ?_
    refine rx_icmp_eq 26 dX10_readPart_18 (by decide) (fun h18 => ?_) (fun h18 => ?_)
    · have hb : chr T p = 33 ∨ chr T p = 40 := by first | exact Or.inl h12 | exact Or.inr h18
      refine rx_iload_n dX10_readPart_26 rfl ?_
      refine rx_iconst (4) dX10_readPart_27 (by decide) ?_
      refine rx_icmp_lt 33 dX10_readPart_28 (by decide) (fun h28 => ?_) (fun h28 => absurd (by decide) h28)
      have hpl : p < T.length := hb.elim (fun q => chr_in q (by decide)) (fun q => chr_in q (by decide))
      have hP1 := hP.put (p' := p + 1) (by omega) hpl hy
      refine rx_aload_n dX10_readPart_33 rfl ?_
      refine rx_dup dX10_readPart_34 rfl ?_
      refine rx_getI dX10_readPart_35 flX10_44 (syO hy) rfl ?_
      rw [k4]
      refine rx_iconst (1) dX10_readPart_38 (by decide) ?_
      refine rx_iadd dX10_readPart_39 ?_
      rw [nI_1]
      refine rx_putI dX10_readPart_40 flX10_44 (syO hy) rfl ?_
      refine rx_iload_n dX10_readPart_43 rfl ?_
      refine rx_bipush (40) dX10_readPart_44 (by decide) ?_
      refine rx_icmp_ne 74 dX10_readPart_46 (by decide) (fun h46 => ?_) (fun h46 => ?_)
      · have h33 : chr T p = 33 := by first | exact h12 | exact absurd h18 h46
        refine rx_aload_n dX10_readPart_74 rfl ?_
        refine rx_iload_n dX10_readPart_75 rfl ?_
        refine rx_iconst (1) dX10_readPart_76 (by decide) ?_
        refine rx_iadd dX10_readPart_77 ?_
        rw [show ((3 : Int32) + 1) = 4 from by decide]
        refine rx_cVi_1 clX10_120 dX10_readPart_78 (rcvo (syO hy) rfl) rfl (c_part_4 g hy T (p + 1) cs _ L hP1) ?_
        rintro x1 S1 L1 ⟨⟨b1, y1, n1, F1⟩, hL1⟩
        rw [hL1]
        refine rx_if_ne 86 dX10_readPart_81 (by decide) (fun h81 => ?_) (fun h81 => ?_)
        · obtain ⟨p1, c1, hE1, hP2⟩ := y1 h81
          have hl2 : (cs ++ c1).length + 1 ≤ p1 := by have := hE1.1.2.2; rw [List.length_append]; omega
          refine rx_aload_n dX10_readPart_86 rfl ?_
          refine rx_iconst (-1) dX10_readPart_87 (by decide) ?_
          refine rx_cVv_1 clX10_116 dX10_readPart_88 (rcvo (syO hy) rfl) rfl (c_addCode g hy T p1 (cs ++ c1) (6, 0, 0) S1 L hP2 hl2) ?_
          rintro S3 L3 ⟨⟨hP3, F3⟩, hL3⟩
          rw [hL3]
          rw [List.append_assoc] at hP3
          refine rx_iconst (1) dX10_readPart_91 (by decide) ?_
          exact rx_zret dX10_readPart_92 rfl (by decide) ⟨Nat.le_refl _, Nat.le_refl _⟩ ⟨rfl, _, rfl, ⟨⟨Or.inr rfl, fun _ => ⟨p1, _, PartOK.not (by decide) h33 hE1, hP3⟩, fun q => absurd q (by decide), (PrF.put.trans F1).trans F3⟩, rfl⟩⟩
        · refine rx_iconst (0) dX10_readPart_84 (by decide) ?_
          exact rx_zret dX10_readPart_85 rfl (by decide) ⟨Nat.le_refl _, Nat.le_refl _⟩ ⟨rfl, _, rfl, ⟨⟨Or.inl rfl, fun q => absurd rfl q, fun _ => by obtain ⟨q, a, b⟩ := n1 h81; exact ⟨q, PartNo.not (by decide) h33 a, b⟩, PrF.put.trans F1⟩, rfl⟩⟩
      · have h40 : chr T p = 40 := h46
        refine rx_aload_n dX10_readPart_49 rfl ?_
        refine rx_iload_n dX10_readPart_50 rfl ?_
        refine rx_iconst (1) dX10_readPart_51 (by decide) ?_
        refine rx_iadd dX10_readPart_52 ?_
        rw [show ((3 : Int32) + 1) = 4 from by decide]
        refine rx_cVi_1 clX10_68 dX10_readPart_53 (rcvo (syO hy) rfl) rfl (c_eith_4 g hy T (p + 1) cs _ L hP1) ?_
        rintro x1 S1 L1 ⟨⟨b1, y1, n1, F1⟩, hL1⟩
        rw [hL1]
        refine rx_if_eq 72 dX10_readPart_56 (by decide) (fun h56 => ?_) (fun h56 => ?_)
        · refine rx_iconst (0) dX10_readPart_72 (by decide) ?_
          exact rx_zret dX10_readPart_73 rfl (by decide) ⟨Nat.le_refl _, Nat.le_refl _⟩ ⟨rfl, _, rfl, ⟨⟨Or.inl rfl, fun q => absurd rfl q, fun _ => by obtain ⟨q, a, b⟩ := n1 h56; exact ⟨q, PartNo.par (by decide) h40 a, b⟩, PrF.put.trans F1⟩, rfl⟩⟩
        · obtain ⟨p1, c1, hE1, hP2⟩ := y1 h56
          refine rx_aload_n dX10_readPart_59 rfl ?_
          refine rx_bipush (41) dX10_readPart_60 (by decide) ?_
          refine rx_cVi_1 clX10_57 dX10_readPart_62 (rcvo (syO hy) rfl) rfl (c_skip g hy T p1 (cs ++ c1) 41 S1 L hP2 (by decide)) ?_
          rintro x2 S2 L2 ⟨⟨b2, y2, n2, F2⟩, hL2⟩
          rw [hL2]
          refine rx_if_eq 72 dX10_readPart_65 (by decide) (fun h65 => ?_) (fun h65 => ?_)
          · refine rx_iconst (0) dX10_readPart_72 (by decide) ?_
            exact rx_zret dX10_readPart_73 rfl (by decide) ⟨Nat.le_refl _, Nat.le_refl _⟩ ⟨rfl, _, rfl, ⟨⟨Or.inl rfl, fun q => absurd rfl q, fun _ => ⟨p1, PartNo.opn (by decide) h40 hE1 (n2 h65).1, by rw [(n2 h65).2]; exact hP2.2.2.2.1⟩, (PrF.put.trans F1).trans F2⟩, rfl⟩⟩
          · refine rx_iconst (1) dX10_readPart_68 (by decide) ?_
            refine rx_goto 73 dX10_readPart_69 (by decide) ?_
            exact rx_zret dX10_readPart_73 rfl (by decide) ⟨Nat.le_refl _, Nat.le_refl _⟩ ⟨rfl, _, rfl, ⟨⟨Or.inr rfl, fun _ => ⟨p1 + 1, c1, PartOK.par (by decide) h40 hE1 (y2 h65).1, (y2 h65).2⟩, fun q => absurd q (by decide), (PrF.put.trans F1).trans F2⟩, rfl⟩⟩
    · refine rx_aload_n dX10_readPart_21 rfl ?_
      refine rx_cVi_0 clX10_123 dX10_readPart_22 (rcvo (syO hy) rfl) rfl (c_readTest g hy T p cs S L hP) ?_
      rintro x1 S1 L1 ⟨hq1, hL1⟩
      rw [hL1]
      have hb : ¬ (chr T p = 33 ∨ chr T p = 40) := fun q => q.elim h12 h18
      exact rx_zret dX10_readPart_25 rfl hq1.nar ⟨Nat.le_refl _, Nat.le_refl _⟩ ⟨rfl, _, rfl, ⟨hq1.mono (fun p' c' ⟨t, a1, a2, a3, a4⟩ => by rw [a2] at a3 ⊢; exact PartOK.tst (by decide) hb a1 a3 a4) (fun q a => PartNo.tst hb a k5), rfl⟩⟩
set_option maxRecDepth 20000 in
set_option maxHeartbeats 1000000 in
theorem c_both_3 (g : GG) {y : Nat} (hy : y < 7) (T : List Nat) (p : Nat) (cs : List TK) (S : SS) (L : LL) (hP : PrR y T S p cs) : Ci g 10 mX10_readBoth [.ref (11 + 6 * y), .int 3] SHC S L (fun x S' L' => PQ y T cs (BothOK T p 3) (BothNo T p 3) S x S' ∧ L' = L) := by
  obtain ⟨k1, k2, k3, k4, k5, k6, k7, k8, k9⟩ := id hP
  refine ct_of (ls := [some (.ref (11 + 6 * y)), some (.int 3), none]) 1 (by decide +kernel) rfl rfl ?_
  refine rx_aload_n dX10_readBoth_0 rfl ?_
  refine rx_iload_n dX10_readBoth_1 rfl ?_
  refine rx_cVi_1 clX10_120 dX10_readBoth_2 (rcvo (syO hy) rfl) rfl (c_part_3 g hy T p cs S L hP) ?_
  rintro x0 S0 L0 ⟨⟨b0, y0, n0, F0⟩, hL0⟩
  rw [hL0]
  refine rx_if_ne 10 dX10_readBoth_5 (by decide) (fun h5 => ?_) (fun h5 => ?_)
  · obtain ⟨p0, c0, hO0, hP0⟩ := y0 h5
    have hI0 := BothP.of hO0
    have hz0 : 0 < p0 := by have := hI0.1; unfold Sz at this; omega
    refine rx_iconst (0) dX10_readBoth_10 (by decide) ?_
    refine rx_istore_2 rfl dX10_readBoth_11 ?_
    have loop : ∀ (r i p1 : Nat) (c1 : List TK) (S1 : SS), T.length < p1 + r → i < p1 → BothP T p 3 p1 c1 → PrR y T S1 p1 (cs ++ c1) → PrF y S S1 → Rx g 10 0 0 mX10_readBoth SHC.length (fun r sh' S' L' => sh' = SHC ∧ ∃ x, r = some (.int x) ∧ (PQ y T cs (BothOK T p 3) (BothNo T p 3) S x S' ∧ L' = L)) 0 0 12 [some (.ref (11 + 6 * y)), some (.int 3), some (.int (nI i))] [] SHC S1 L := by
      intro r
      induction r with
      | zero =>
        intro i p1 c1 S1 he hi hI hP1 hF1
        exact absurd hI.1.2.1 (by omega)
      | succ r ih =>
        intro i p1 c1 S1 he hi hI hP1 hF1
        refine rx_iload_n dX10_readBoth_12 rfl ?_
        refine rx_bipush (100) dX10_readBoth_13 (by decide) ?_
        refine rx_icmp_ge 49 dX10_readBoth_15 (by decide) (fun h15 => absurd h15 (nI_ge (a := i) (b := 100) (by have := hI.1.2.1; omega) (by omega))) (fun h15 => ?_)
        refine rx_aload_n dX10_readBoth_18 rfl ?_
        refine rx_bipush (38) dX10_readBoth_19 (by decide) ?_
        refine rx_cVi_1 clX10_57 dX10_readBoth_21 (rcvo (syO hy) rfl) rfl (c_skip g hy T p1 (cs ++ c1) 38 S1 L hP1 (by decide)) ?_
        rintro x2 S2 L2 ⟨⟨b2, y2, n2, F2⟩, hL2⟩
        rw [hL2]
        refine rx_if_eq 49 dX10_readBoth_24 (by decide) (fun h24 => ?_) (fun h24 => ?_)
        · refine rx_iconst (1) dX10_readBoth_49 (by decide) ?_
          exact rx_zret dX10_readBoth_50 rfl (by decide) ⟨Nat.le_refl _, Nat.le_refl _⟩ ⟨rfl, _, rfl, ⟨⟨Or.inr rfl, fun _ => ⟨p1, c1, ⟨hI, (n2 h24).1⟩, by rw [(n2 h24).2]; exact hP1⟩, fun q => absurd q (by decide), hF1.trans F2⟩, rfl⟩⟩
        · obtain ⟨hb, hP2⟩ := y2 h24
          refine rx_aload_n dX10_readBoth_27 rfl ?_
          refine rx_iload_n dX10_readBoth_28 rfl ?_
          refine rx_cVi_1 clX10_120 dX10_readBoth_29 (rcvo (syO hy) rfl) rfl (c_part_3 g hy T (p1 + 1) (cs ++ c1) S2 L hP2) ?_
          rintro x3 S3 L3 ⟨⟨b3, y3, n3, F3⟩, hL3⟩
          rw [hL3]
          refine rx_if_ne 37 dX10_readBoth_32 (by decide) (fun h32 => ?_) (fun h32 => ?_)
          · obtain ⟨p2, c2, hO, hP3⟩ := y3 h32
            have hI2 := BothP.more hI hb hO
            have hl2 : (cs ++ c1 ++ c2).length + 1 ≤ p2 := by have := hI2.1.2.2; simp only [List.length_append, List.length_singleton] at this ⊢; omega
            refine rx_aload_n dX10_readBoth_37 rfl ?_
            refine rx_bipush (-2) dX10_readBoth_38 (by decide) ?_
            refine rx_cVv_1 clX10_116 dX10_readBoth_40 (rcvo (syO hy) rfl) rfl (c_addCode g hy T p2 (cs ++ c1 ++ c2) (7, 0, 0) S3 L hP3 hl2) ?_
            rintro S4 L4 ⟨⟨hP4, F4⟩, hL4⟩
            rw [hL4]
            rw [show cs ++ c1 ++ c2 ++ [((7, 0, 0) : TK)] = cs ++ (c1 ++ c2 ++ [(7, 0, 0)]) from by simp only [List.append_assoc]] at hP4
            refine rx_iinc_2 (1) rfl dX10_readBoth_43 (by decide) ?_
            refine rx_goto 12 dX10_readBoth_46 (by decide) ?_
            rw [nI_1]
            exact ih (i + 1) p2 _ S4 (by have := hO.1.1; have := hI.1.1; unfold Sz at *; omega) (by have := hO.1.1; have := hI2.1; omega) hI2 hP4 (((hF1.trans F2).trans F3).trans F4)
          · refine rx_iconst (0) dX10_readBoth_35 (by decide) ?_
            exact rx_zret dX10_readBoth_36 rfl (by decide) ⟨Nat.le_refl _, Nat.le_refl _⟩ ⟨rfl, _, rfl, ⟨⟨Or.inl rfl, fun q => absurd rfl q, fun _ => by obtain ⟨q, a, b⟩ := n3 h32; exact ⟨q, BothP.no hI hb a, b⟩, (hF1.trans F2).trans F3⟩, rfl⟩⟩
    exact loop (T.length + 1) 0 p0 c0 S0 (by omega) (by have := hI0.1; omega) hI0 hP0 F0
  · refine rx_iconst (0) dX10_readBoth_8 (by decide) ?_
    exact rx_zret dX10_readBoth_9 rfl (by decide) ⟨Nat.le_refl _, Nat.le_refl _⟩ ⟨rfl, _, rfl, ⟨⟨Or.inl rfl, fun q => absurd rfl q, fun _ => by obtain ⟨q, a, b⟩ := n0 h5; exact ⟨q, BothNo.of a, b⟩, F0⟩, rfl⟩⟩
set_option maxRecDepth 20000 in
set_option maxHeartbeats 1000000 in
theorem c_eith_3 (g : GG) {y : Nat} (hy : y < 7) (T : List Nat) (p : Nat) (cs : List TK) (S : SS) (L : LL) (hP : PrR y T S p cs) : Ci g 11 mX10_readEither [.ref (11 + 6 * y), .int 3] SHC S L (fun x S' L' => PQ y T cs (EithOK T p 3) (EithNo T p 3) S x S' ∧ L' = L) := by
  obtain ⟨k1, k2, k3, k4, k5, k6, k7, k8, k9⟩ := id hP
  refine ct_of (ls := [some (.ref (11 + 6 * y)), some (.int 3), none]) 1 (by decide +kernel) rfl rfl ?_
  refine rx_aload_n dX10_readEither_0 rfl ?_
  refine rx_iload_n dX10_readEither_1 rfl ?_
  refine rx_cVi_1 clX10_113 dX10_readEither_2 (rcvo (syO hy) rfl) rfl (c_both_3 g hy T p cs S L hP) ?_
  rintro x0 S0 L0 ⟨⟨b0, y0, n0, F0⟩, hL0⟩
  rw [hL0]
  refine rx_if_ne 10 dX10_readEither_5 (by decide) (fun h5 => ?_) (fun h5 => ?_)
  · obtain ⟨p0, c0, hO0, hP0⟩ := y0 h5
    have hI0 := EithP.of hO0
    have hz0 : 0 < p0 := by have := hI0.1; unfold Sz at this; omega
    refine rx_iconst (0) dX10_readEither_10 (by decide) ?_
    refine rx_istore_2 rfl dX10_readEither_11 ?_
    have loop : ∀ (r i p1 : Nat) (c1 : List TK) (S1 : SS), T.length < p1 + r → i < p1 → EithP T p 3 p1 c1 → PrR y T S1 p1 (cs ++ c1) → PrF y S S1 → Rx g 11 0 0 mX10_readEither SHC.length (fun r sh' S' L' => sh' = SHC ∧ ∃ x, r = some (.int x) ∧ (PQ y T cs (EithOK T p 3) (EithNo T p 3) S x S' ∧ L' = L)) 0 0 12 [some (.ref (11 + 6 * y)), some (.int 3), some (.int (nI i))] [] SHC S1 L := by
      intro r
      induction r with
      | zero =>
        intro i p1 c1 S1 he hi hI hP1 hF1
        exact absurd hI.1.2.1 (by omega)
      | succ r ih =>
        intro i p1 c1 S1 he hi hI hP1 hF1
        refine rx_iload_n dX10_readEither_12 rfl ?_
        refine rx_bipush (100) dX10_readEither_13 (by decide) ?_
        refine rx_icmp_ge 49 dX10_readEither_15 (by decide) (fun h15 => absurd h15 (nI_ge (a := i) (b := 100) (by have := hI.1.2.1; omega) (by omega))) (fun h15 => ?_)
        refine rx_aload_n dX10_readEither_18 rfl ?_
        refine rx_bipush (124) dX10_readEither_19 (by decide) ?_
        refine rx_cVi_1 clX10_57 dX10_readEither_21 (rcvo (syO hy) rfl) rfl (c_skip g hy T p1 (cs ++ c1) 124 S1 L hP1 (by decide)) ?_
        rintro x2 S2 L2 ⟨⟨b2, y2, n2, F2⟩, hL2⟩
        rw [hL2]
        refine rx_if_eq 49 dX10_readEither_24 (by decide) (fun h24 => ?_) (fun h24 => ?_)
        · refine rx_iconst (1) dX10_readEither_49 (by decide) ?_
          exact rx_zret dX10_readEither_50 rfl (by decide) ⟨Nat.le_refl _, Nat.le_refl _⟩ ⟨rfl, _, rfl, ⟨⟨Or.inr rfl, fun _ => ⟨p1, c1, ⟨hI, (n2 h24).1⟩, by rw [(n2 h24).2]; exact hP1⟩, fun q => absurd q (by decide), hF1.trans F2⟩, rfl⟩⟩
        · obtain ⟨hb, hP2⟩ := y2 h24
          refine rx_aload_n dX10_readEither_27 rfl ?_
          refine rx_iload_n dX10_readEither_28 rfl ?_
          refine rx_cVi_1 clX10_113 dX10_readEither_29 (rcvo (syO hy) rfl) rfl (c_both_3 g hy T (p1 + 1) (cs ++ c1) S2 L hP2) ?_
          rintro x3 S3 L3 ⟨⟨b3, y3, n3, F3⟩, hL3⟩
          rw [hL3]
          refine rx_if_ne 37 dX10_readEither_32 (by decide) (fun h32 => ?_) (fun h32 => ?_)
          · obtain ⟨p2, c2, hO, hP3⟩ := y3 h32
            have hI2 := EithP.more hI hb hO
            have hl2 : (cs ++ c1 ++ c2).length + 1 ≤ p2 := by have := hI2.1.2.2; simp only [List.length_append, List.length_singleton] at this ⊢; omega
            refine rx_aload_n dX10_readEither_37 rfl ?_
            refine rx_bipush (-3) dX10_readEither_38 (by decide) ?_
            refine rx_cVv_1 clX10_116 dX10_readEither_40 (rcvo (syO hy) rfl) rfl (c_addCode g hy T p2 (cs ++ c1 ++ c2) (8, 0, 0) S3 L hP3 hl2) ?_
            rintro S4 L4 ⟨⟨hP4, F4⟩, hL4⟩
            rw [hL4]
            rw [show cs ++ c1 ++ c2 ++ [((8, 0, 0) : TK)] = cs ++ (c1 ++ c2 ++ [(8, 0, 0)]) from by simp only [List.append_assoc]] at hP4
            refine rx_iinc_2 (1) rfl dX10_readEither_43 (by decide) ?_
            refine rx_goto 12 dX10_readEither_46 (by decide) ?_
            rw [nI_1]
            exact ih (i + 1) p2 _ S4 (by have := hO.1.1.1; have := hI.1; omega) (by have := hO.1.1.1; have := hI2.1; omega) hI2 hP4 (((hF1.trans F2).trans F3).trans F4)
          · refine rx_iconst (0) dX10_readEither_35 (by decide) ?_
            exact rx_zret dX10_readEither_36 rfl (by decide) ⟨Nat.le_refl _, Nat.le_refl _⟩ ⟨rfl, _, rfl, ⟨⟨Or.inl rfl, fun q => absurd rfl q, fun _ => by obtain ⟨q, a, b⟩ := n3 h32; exact ⟨q, EithP.no hI hb a, b⟩, (hF1.trans F2).trans F3⟩, rfl⟩⟩
    exact loop (T.length + 1) 0 p0 c0 S0 (by omega) (by have := hI0.1; omega) hI0 hP0 F0
  · refine rx_iconst (0) dX10_readEither_8 (by decide) ?_
    exact rx_zret dX10_readEither_9 rfl (by decide) ⟨Nat.le_refl _, Nat.le_refl _⟩ ⟨rfl, _, rfl, ⟨⟨Or.inl rfl, fun q => absurd rfl q, fun _ => by obtain ⟨q, a, b⟩ := n0 h5; exact ⟨q, EithNo.of a, b⟩, F0⟩, rfl⟩⟩
set_option maxRecDepth 20000 in
set_option maxHeartbeats 1000000 in
theorem c_part_2 (g : GG) {y : Nat} (hy : y < 7) (T : List Nat) (p : Nat) (cs : List TK)  (S : SS) (L : LL) (hP : PrR y T S p cs) : Ci g 12 mX10_readPart [.ref (11 + 6 * y), .int 2] SHC S L (fun x S' L' => PQ y T cs (PartOK T p 2) (PartNo T p 2) S x S' ∧ L' = L) := by
  obtain ⟨k1, k2, k3, k4, k5, k6, k7, k8, k9⟩ := id hP
  refine ct_of (ls := [some (.ref (11 + 6 * y)), some (.int 2), none]) 1 (by decide +kernel) rfl rfl ?_
  refine rx_aload_n dX10_readPart_0 rfl ?_
  refine rx_aload_n dX10_readPart_1 rfl ?_
  refine rx_getI dX10_readPart_2 flX10_44 (syO hy) rfl ?_
  rw [k4]
  refine rx_cVi_1 clX10_102 dX10_readPart_5 (rcvo (syO hy) rfl) rfl (c_signAt g hy T p S L (by omega) k1 k2 k3) ?_
  refine pur3 ?_
  refine rx_istore_2 rfl dX10_readPart_8 ?_
  refine rx_iload_n dX10_readPart_9 rfl ?_
  refine rx_bipush (33) dX10_readPart_10 (by decide) ?_
  refine rx_icmp_eq 26 dX10_readPart_12 (by decide) (fun h12 => ?_) (fun h12 => ?_)
  · have hb : chr T p = 33 ∨ chr T p = 40 := by first | exact Or.inl h12 | exact Or.inr h18
    refine rx_iload_n dX10_readPart_26 rfl ?_
    refine rx_iconst (4) dX10_readPart_27 (by decide) ?_
    refine rx_icmp_lt 33 dX10_readPart_28 (by decide) (fun h28 => ?_) (fun h28 => absurd (by decide) h28)
    have hpl : p < T.length := hb.elim (fun q => chr_in q (by decide)) (fun q => chr_in q (by decide))
    have hP1 := hP.put (p' := p + 1) (by omega) hpl hy
    refine rx_aload_n dX10_readPart_33 rfl ?_
    refine rx_dup dX10_readPart_34 rfl ?_
    refine rx_getI dX10_readPart_35 flX10_44 (syO hy) rfl ?_
    rw [k4]
    refine rx_iconst (1) dX10_readPart_38 (by decide) ?_
    refine rx_iadd dX10_readPart_39 ?_
    rw [nI_1]
    refine rx_putI dX10_readPart_40 flX10_44 (syO hy) rfl ?_
    refine rx_iload_n dX10_readPart_43 rfl ?_
    refine rx_bipush (40) dX10_readPart_44 (by decide) ?_
    refine rx_icmp_ne 74 dX10_readPart_46 (by decide) (fun h46 => ?_) (fun h46 => ?_)
    · have h33 : chr T p = 33 := by first | exact h12 | exact absurd h18 h46
      refine rx_aload_n dX10_readPart_74 rfl ?_
      refine rx_iload_n dX10_readPart_75 rfl ?_
      refine rx_iconst (1) dX10_readPart_76 (by decide) ?_
      refine rx_iadd dX10_readPart_77 ?_
      rw [show ((2 : Int32) + 1) = 3 from by decide]
      refine rx_cVi_1 clX10_120 dX10_readPart_78 (rcvo (syO hy) rfl) rfl (c_part_3 g hy T (p + 1) cs _ L hP1) ?_
      rintro x1 S1 L1 ⟨⟨b1, y1, n1, F1⟩, hL1⟩
      rw [hL1]
      refine rx_if_ne 86 dX10_readPart_81 (by decide) (fun h81 => ?_) (fun h81 => ?_)
      · obtain ⟨p1, c1, hE1, hP2⟩ := y1 h81
        have hl2 : (cs ++ c1).length + 1 ≤ p1 := by have := hE1.1.2.2; rw [List.length_append]; omega
        refine rx_aload_n dX10_readPart_86 rfl ?_
        refine rx_iconst (-1) dX10_readPart_87 (by decide) ?_
        refine rx_cVv_1 clX10_116 dX10_readPart_88 (rcvo (syO hy) rfl) rfl (c_addCode g hy T p1 (cs ++ c1) (6, 0, 0) S1 L hP2 hl2) ?_
        rintro S3 L3 ⟨⟨hP3, F3⟩, hL3⟩
        rw [hL3]
        rw [List.append_assoc] at hP3
        refine rx_iconst (1) dX10_readPart_91 (by decide) ?_
        exact rx_zret dX10_readPart_92 rfl (by decide) ⟨Nat.le_refl _, Nat.le_refl _⟩ ⟨rfl, _, rfl, ⟨⟨Or.inr rfl, fun _ => ⟨p1, _, PartOK.not (by decide) h33 hE1, hP3⟩, fun q => absurd q (by decide), (PrF.put.trans F1).trans F3⟩, rfl⟩⟩
      · refine rx_iconst (0) dX10_readPart_84 (by decide) ?_
        exact rx_zret dX10_readPart_85 rfl (by decide) ⟨Nat.le_refl _, Nat.le_refl _⟩ ⟨rfl, _, rfl, ⟨⟨Or.inl rfl, fun q => absurd rfl q, fun _ => by obtain ⟨q, a, b⟩ := n1 h81; exact ⟨q, PartNo.not (by decide) h33 a, b⟩, PrF.put.trans F1⟩, rfl⟩⟩
    · have h40 : chr T p = 40 := h46
      refine rx_aload_n dX10_readPart_49 rfl ?_
      refine rx_iload_n dX10_readPart_50 rfl ?_
      refine rx_iconst (1) dX10_readPart_51 (by decide) ?_
      refine rx_iadd dX10_readPart_52 ?_
      rw [show ((2 : Int32) + 1) = 3 from by decide]
      refine rx_cVi_1 clX10_68 dX10_readPart_53 (rcvo (syO hy) rfl) rfl (c_eith_3 g hy T (p + 1) cs _ L hP1) ?_
      rintro x1 S1 L1 ⟨⟨b1, y1, n1, F1⟩, hL1⟩
      rw [hL1]
      refine rx_if_eq 72 dX10_readPart_56 (by decide) (fun h56 => ?_) (fun h56 => ?_)
      · refine rx_iconst (0) dX10_readPart_72 (by decide) ?_
        exact rx_zret dX10_readPart_73 rfl (by decide) ⟨Nat.le_refl _, Nat.le_refl _⟩ ⟨rfl, _, rfl, ⟨⟨Or.inl rfl, fun q => absurd rfl q, fun _ => by obtain ⟨q, a, b⟩ := n1 h56; exact ⟨q, PartNo.par (by decide) h40 a, b⟩, PrF.put.trans F1⟩, rfl⟩⟩
      · obtain ⟨p1, c1, hE1, hP2⟩ := y1 h56
        refine rx_aload_n dX10_readPart_59 rfl ?_
        refine rx_bipush (41) dX10_readPart_60 (by decide) ?_
        refine rx_cVi_1 clX10_57 dX10_readPart_62 (rcvo (syO hy) rfl) rfl (c_skip g hy T p1 (cs ++ c1) 41 S1 L hP2 (by decide)) ?_
        rintro x2 S2 L2 ⟨⟨b2, y2, n2, F2⟩, hL2⟩
        rw [hL2]
        refine rx_if_eq 72 dX10_readPart_65 (by decide) (fun h65 => ?_) (fun h65 => ?_)
        · refine rx_iconst (0) dX10_readPart_72 (by decide) ?_
          exact rx_zret dX10_readPart_73 rfl (by decide) ⟨Nat.le_refl _, Nat.le_refl _⟩ ⟨rfl, _, rfl, ⟨⟨Or.inl rfl, fun q => absurd rfl q, fun _ => ⟨p1, PartNo.opn (by decide) h40 hE1 (n2 h65).1, by rw [(n2 h65).2]; exact hP2.2.2.2.1⟩, (PrF.put.trans F1).trans F2⟩, rfl⟩⟩
        · refine rx_iconst (1) dX10_readPart_68 (by decide) ?_
          refine rx_goto 73 dX10_readPart_69 (by decide) ?_
          exact rx_zret dX10_readPart_73 rfl (by decide) ⟨Nat.le_refl _, Nat.le_refl _⟩ ⟨rfl, _, rfl, ⟨⟨Or.inr rfl, fun _ => ⟨p1 + 1, c1, PartOK.par (by decide) h40 hE1 (y2 h65).1, (y2 h65).2⟩, fun q => absurd q (by decide), (PrF.put.trans F1).trans F2⟩, rfl⟩⟩
  · refine rx_iload_n dX10_readPart_15 rfl ?_
    refine rx_bipush (40) dX10_readPart_16 (by decide) ?_
    refine rx_icmp_eq 26 dX10_readPart_18 (by decide) (fun h18 => ?_) (fun h18 => ?_)
    · have hb : chr T p = 33 ∨ chr T p = 40 := by first | exact Or.inl h12 | exact Or.inr h18
      refine rx_iload_n dX10_readPart_26 rfl ?_
      refine rx_iconst (4) dX10_readPart_27 (by decide) ?_
      refine rx_icmp_lt 33 dX10_readPart_28 (by decide) (fun h28 => ?_) (fun h28 => absurd (by decide) h28)
      have hpl : p < T.length := hb.elim (fun q => chr_in q (by decide)) (fun q => chr_in q (by decide))
      have hP1 := hP.put (p' := p + 1) (by omega) hpl hy
      refine rx_aload_n dX10_readPart_33 rfl ?_
      refine rx_dup dX10_readPart_34 rfl ?_
      refine rx_getI dX10_readPart_35 flX10_44 (syO hy) rfl ?_
      rw [k4]
      refine rx_iconst (1) dX10_readPart_38 (by decide) ?_
      refine rx_iadd dX10_readPart_39 ?_
      rw [nI_1]
      refine rx_putI dX10_readPart_40 flX10_44 (syO hy) rfl ?_
      refine rx_iload_n dX10_readPart_43 rfl ?_
      refine rx_bipush (40) dX10_readPart_44 (by decide) ?_
      refine rx_icmp_ne 74 dX10_readPart_46 (by decide) (fun h46 => ?_) (fun h46 => ?_)
      · have h33 : chr T p = 33 := by first | exact h12 | exact absurd h18 h46
        refine rx_aload_n dX10_readPart_74 rfl ?_
        refine rx_iload_n dX10_readPart_75 rfl ?_
        refine rx_iconst (1) dX10_readPart_76 (by decide) ?_
        refine rx_iadd dX10_readPart_77 ?_
        rw [show ((2 : Int32) + 1) = 3 from by decide]
        refine rx_cVi_1 clX10_120 dX10_readPart_78 (rcvo (syO hy) rfl) rfl (c_part_3 g hy T (p + 1) cs _ L hP1) ?_
        rintro x1 S1 L1 ⟨⟨b1, y1, n1, F1⟩, hL1⟩
        rw [hL1]
        refine rx_if_ne 86 dX10_readPart_81 (by decide) (fun h81 => ?_) (fun h81 => ?_)
        · obtain ⟨p1, c1, hE1, hP2⟩ := y1 h81
          have hl2 : (cs ++ c1).length + 1 ≤ p1 := by have := hE1.1.2.2; rw [List.length_append]; omega
          refine rx_aload_n dX10_readPart_86 rfl ?_
          refine rx_iconst (-1) dX10_readPart_87 (by decide) ?_
          refine rx_cVv_1 clX10_116 dX10_readPart_88 (rcvo (syO hy) rfl) rfl (c_addCode g hy T p1 (cs ++ c1) (6, 0, 0) S1 L hP2 hl2) ?_
          rintro S3 L3 ⟨⟨hP3, F3⟩, hL3⟩
          rw [hL3]
          rw [List.append_assoc] at hP3
          refine rx_iconst (1) dX10_readPart_91 (by decide) ?_
          exact rx_zret dX10_readPart_92 rfl (by decide) ⟨Nat.le_refl _, Nat.le_refl _⟩ ⟨rfl, _, rfl, ⟨⟨Or.inr rfl, fun _ => ⟨p1, _, PartOK.not (by decide) h33 hE1, hP3⟩, fun q => absurd q (by decide), (PrF.put.trans F1).trans F3⟩, rfl⟩⟩
        · refine rx_iconst (0) dX10_readPart_84 (by decide) ?_
          exact rx_zret dX10_readPart_85 rfl (by decide) ⟨Nat.le_refl _, Nat.le_refl _⟩ ⟨rfl, _, rfl, ⟨⟨Or.inl rfl, fun q => absurd rfl q, fun _ => by obtain ⟨q, a, b⟩ := n1 h81; exact ⟨q, PartNo.not (by decide) h33 a, b⟩, PrF.put.trans F1⟩, rfl⟩⟩
      · have h40 : chr T p = 40 := h46
        refine rx_aload_n dX10_readPart_49 rfl ?_
        refine rx_iload_n dX10_readPart_50 rfl ?_
        refine rx_iconst (1) dX10_readPart_51 (by decide) ?_
        refine rx_iadd dX10_readPart_52 ?_
        rw [show ((2 : Int32) + 1) = 3 from by decide]
        refine rx_cVi_1 clX10_68 dX10_readPart_53 (rcvo (syO hy) rfl) rfl (c_eith_3 g hy T (p + 1) cs _ L hP1) ?_
        rintro x1 S1 L1 ⟨⟨b1, y1, n1, F1⟩, hL1⟩
        rw [hL1]
        refine rx_if_eq 72 dX10_readPart_56 (by decide) (fun h56 => ?_) (fun h56 => ?_)
        · refine rx_iconst (0) dX10_readPart_72 (by decide) ?_
          exact rx_zret dX10_readPart_73 rfl (by decide) ⟨Nat.le_refl _, Nat.le_refl _⟩ ⟨rfl, _, rfl, ⟨⟨Or.inl rfl, fun q => absurd rfl q, fun _ => by obtain ⟨q, a, b⟩ := n1 h56; exact ⟨q, PartNo.par (by decide) h40 a, b⟩, PrF.put.trans F1⟩, rfl⟩⟩
        · obtain ⟨p1, c1, hE1, hP2⟩ := y1 h56
          refine rx_aload_n dX10_readPart_59 rfl ?_
          refine rx_bipush (41) dX10_readPart_60 (by decide) ?_
          refine rx_cVi_1 clX10_57 dX10_readPart_62 (rcvo (syO hy) rfl) rfl (c_skip g hy T p1 (cs ++ c1) 41 S1 L hP2 (by decide)) ?_
          rintro x2 S2 L2 ⟨⟨b2, y2, n2, F2⟩, hL2⟩
          rw [hL2]
          refine rx_if_eq 72 dX10_readPart_65 (by decide) (fun h65 => ?_) (fun h65 => ?_)
          · refine rx_iconst (0) dX10_readPart_72 (by decide) ?_
            exact rx_zret dX10_readPart_73 rfl (by decide) ⟨Nat.le_refl _, Nat.le_refl _⟩ ⟨rfl, _, rfl, ⟨⟨Or.inl rfl, fun q => absurd rfl q, fun _ => ⟨p1, PartNo.opn (by decide) h40 hE1 (n2 h65).1, by rw [(n2 h65).2]; exact hP2.2.2.2.1⟩, (PrF.put.trans F1).trans F2⟩, rfl⟩⟩
          · refine rx_iconst (1) dX10_readPart_68 (by decide) ?_
            refine rx_goto 73 dX10_readPart_69 (by decide) ?_
            exact rx_zret dX10_readPart_73 rfl (by decide) ⟨Nat.le_refl _, Nat.le_refl _⟩ ⟨rfl, _, rfl, ⟨⟨Or.inr rfl, fun _ => ⟨p1 + 1, c1, PartOK.par (by decide) h40 hE1 (y2 h65).1, (y2 h65).2⟩, fun q => absurd q (by decide), (PrF.put.trans F1).trans F2⟩, rfl⟩⟩
    · refine rx_aload_n dX10_readPart_21 rfl ?_
      refine rx_cVi_0 clX10_123 dX10_readPart_22 (rcvo (syO hy) rfl) rfl (c_readTest g hy T p cs S L hP) ?_
      rintro x1 S1 L1 ⟨hq1, hL1⟩
      rw [hL1]
      have hb : ¬ (chr T p = 33 ∨ chr T p = 40) := fun q => q.elim h12 h18
      exact rx_zret dX10_readPart_25 rfl hq1.nar ⟨Nat.le_refl _, Nat.le_refl _⟩ ⟨rfl, _, rfl, ⟨hq1.mono (fun p' c' ⟨t, a1, a2, a3, a4⟩ => by rw [a2] at a3 ⊢; exact PartOK.tst (by decide) hb a1 a3 a4) (fun q a => PartNo.tst hb a k5), rfl⟩⟩
set_option maxRecDepth 20000 in
set_option maxHeartbeats 1000000 in
theorem c_both_2 (g : GG) {y : Nat} (hy : y < 7) (T : List Nat) (p : Nat) (cs : List TK) (S : SS) (L : LL) (hP : PrR y T S p cs) : Ci g 13 mX10_readBoth [.ref (11 + 6 * y), .int 2] SHC S L (fun x S' L' => PQ y T cs (BothOK T p 2) (BothNo T p 2) S x S' ∧ L' = L) := by
  obtain ⟨k1, k2, k3, k4, k5, k6, k7, k8, k9⟩ := id hP
  refine ct_of (ls := [some (.ref (11 + 6 * y)), some (.int 2), none]) 1 (by decide +kernel) rfl rfl ?_
  refine rx_aload_n dX10_readBoth_0 rfl ?_
  refine rx_iload_n dX10_readBoth_1 rfl ?_
  refine rx_cVi_1 clX10_120 dX10_readBoth_2 (rcvo (syO hy) rfl) rfl (c_part_2 g hy T p cs S L hP) ?_
  rintro x0 S0 L0 ⟨⟨b0, y0, n0, F0⟩, hL0⟩
  rw [hL0]
  refine rx_if_ne 10 dX10_readBoth_5 (by decide) (fun h5 => ?_) (fun h5 => ?_)
  · obtain ⟨p0, c0, hO0, hP0⟩ := y0 h5
    have hI0 := BothP.of hO0
    have hz0 : 0 < p0 := by have := hI0.1; unfold Sz at this; omega
    refine rx_iconst (0) dX10_readBoth_10 (by decide) ?_
    refine rx_istore_2 rfl dX10_readBoth_11 ?_
    have loop : ∀ (r i p1 : Nat) (c1 : List TK) (S1 : SS), T.length < p1 + r → i < p1 → BothP T p 2 p1 c1 → PrR y T S1 p1 (cs ++ c1) → PrF y S S1 → Rx g 13 0 0 mX10_readBoth SHC.length (fun r sh' S' L' => sh' = SHC ∧ ∃ x, r = some (.int x) ∧ (PQ y T cs (BothOK T p 2) (BothNo T p 2) S x S' ∧ L' = L)) 0 0 12 [some (.ref (11 + 6 * y)), some (.int 2), some (.int (nI i))] [] SHC S1 L := by
      intro r
      induction r with
      | zero =>
        intro i p1 c1 S1 he hi hI hP1 hF1
        exact absurd hI.1.2.1 (by omega)
      | succ r ih =>
        intro i p1 c1 S1 he hi hI hP1 hF1
        refine rx_iload_n dX10_readBoth_12 rfl ?_
        refine rx_bipush (100) dX10_readBoth_13 (by decide) ?_
        refine rx_icmp_ge 49 dX10_readBoth_15 (by decide) (fun h15 => absurd h15 (nI_ge (a := i) (b := 100) (by have := hI.1.2.1; omega) (by omega))) (fun h15 => ?_)
        refine rx_aload_n dX10_readBoth_18 rfl ?_
        refine rx_bipush (38) dX10_readBoth_19 (by decide) ?_
        refine rx_cVi_1 clX10_57 dX10_readBoth_21 (rcvo (syO hy) rfl) rfl (c_skip g hy T p1 (cs ++ c1) 38 S1 L hP1 (by decide)) ?_
        rintro x2 S2 L2 ⟨⟨b2, y2, n2, F2⟩, hL2⟩
        rw [hL2]
        refine rx_if_eq 49 dX10_readBoth_24 (by decide) (fun h24 => ?_) (fun h24 => ?_)
        · refine rx_iconst (1) dX10_readBoth_49 (by decide) ?_
          exact rx_zret dX10_readBoth_50 rfl (by decide) ⟨Nat.le_refl _, Nat.le_refl _⟩ ⟨rfl, _, rfl, ⟨⟨Or.inr rfl, fun _ => ⟨p1, c1, ⟨hI, (n2 h24).1⟩, by rw [(n2 h24).2]; exact hP1⟩, fun q => absurd q (by decide), hF1.trans F2⟩, rfl⟩⟩
        · obtain ⟨hb, hP2⟩ := y2 h24
          refine rx_aload_n dX10_readBoth_27 rfl ?_
          refine rx_iload_n dX10_readBoth_28 rfl ?_
          refine rx_cVi_1 clX10_120 dX10_readBoth_29 (rcvo (syO hy) rfl) rfl (c_part_2 g hy T (p1 + 1) (cs ++ c1) S2 L hP2) ?_
          rintro x3 S3 L3 ⟨⟨b3, y3, n3, F3⟩, hL3⟩
          rw [hL3]
          refine rx_if_ne 37 dX10_readBoth_32 (by decide) (fun h32 => ?_) (fun h32 => ?_)
          · obtain ⟨p2, c2, hO, hP3⟩ := y3 h32
            have hI2 := BothP.more hI hb hO
            have hl2 : (cs ++ c1 ++ c2).length + 1 ≤ p2 := by have := hI2.1.2.2; simp only [List.length_append, List.length_singleton] at this ⊢; omega
            refine rx_aload_n dX10_readBoth_37 rfl ?_
            refine rx_bipush (-2) dX10_readBoth_38 (by decide) ?_
            refine rx_cVv_1 clX10_116 dX10_readBoth_40 (rcvo (syO hy) rfl) rfl (c_addCode g hy T p2 (cs ++ c1 ++ c2) (7, 0, 0) S3 L hP3 hl2) ?_
            rintro S4 L4 ⟨⟨hP4, F4⟩, hL4⟩
            rw [hL4]
            rw [show cs ++ c1 ++ c2 ++ [((7, 0, 0) : TK)] = cs ++ (c1 ++ c2 ++ [(7, 0, 0)]) from by simp only [List.append_assoc]] at hP4
            refine rx_iinc_2 (1) rfl dX10_readBoth_43 (by decide) ?_
            refine rx_goto 12 dX10_readBoth_46 (by decide) ?_
            rw [nI_1]
            exact ih (i + 1) p2 _ S4 (by have := hO.1.1; have := hI.1.1; unfold Sz at *; omega) (by have := hO.1.1; have := hI2.1; omega) hI2 hP4 (((hF1.trans F2).trans F3).trans F4)
          · refine rx_iconst (0) dX10_readBoth_35 (by decide) ?_
            exact rx_zret dX10_readBoth_36 rfl (by decide) ⟨Nat.le_refl _, Nat.le_refl _⟩ ⟨rfl, _, rfl, ⟨⟨Or.inl rfl, fun q => absurd rfl q, fun _ => by obtain ⟨q, a, b⟩ := n3 h32; exact ⟨q, BothP.no hI hb a, b⟩, (hF1.trans F2).trans F3⟩, rfl⟩⟩
    exact loop (T.length + 1) 0 p0 c0 S0 (by omega) (by have := hI0.1; omega) hI0 hP0 F0
  · refine rx_iconst (0) dX10_readBoth_8 (by decide) ?_
    exact rx_zret dX10_readBoth_9 rfl (by decide) ⟨Nat.le_refl _, Nat.le_refl _⟩ ⟨rfl, _, rfl, ⟨⟨Or.inl rfl, fun q => absurd rfl q, fun _ => by obtain ⟨q, a, b⟩ := n0 h5; exact ⟨q, BothNo.of a, b⟩, F0⟩, rfl⟩⟩
set_option maxRecDepth 20000 in
set_option maxHeartbeats 1000000 in
theorem c_eith_2 (g : GG) {y : Nat} (hy : y < 7) (T : List Nat) (p : Nat) (cs : List TK) (S : SS) (L : LL) (hP : PrR y T S p cs) : Ci g 14 mX10_readEither [.ref (11 + 6 * y), .int 2] SHC S L (fun x S' L' => PQ y T cs (EithOK T p 2) (EithNo T p 2) S x S' ∧ L' = L) := by
  obtain ⟨k1, k2, k3, k4, k5, k6, k7, k8, k9⟩ := id hP
  refine ct_of (ls := [some (.ref (11 + 6 * y)), some (.int 2), none]) 1 (by decide +kernel) rfl rfl ?_
  refine rx_aload_n dX10_readEither_0 rfl ?_
  refine rx_iload_n dX10_readEither_1 rfl ?_
  refine rx_cVi_1 clX10_113 dX10_readEither_2 (rcvo (syO hy) rfl) rfl (c_both_2 g hy T p cs S L hP) ?_
  rintro x0 S0 L0 ⟨⟨b0, y0, n0, F0⟩, hL0⟩
  rw [hL0]
  refine rx_if_ne 10 dX10_readEither_5 (by decide) (fun h5 => ?_) (fun h5 => ?_)
  · obtain ⟨p0, c0, hO0, hP0⟩ := y0 h5
    have hI0 := EithP.of hO0
    have hz0 : 0 < p0 := by have := hI0.1; unfold Sz at this; omega
    refine rx_iconst (0) dX10_readEither_10 (by decide) ?_
    refine rx_istore_2 rfl dX10_readEither_11 ?_
    have loop : ∀ (r i p1 : Nat) (c1 : List TK) (S1 : SS), T.length < p1 + r → i < p1 → EithP T p 2 p1 c1 → PrR y T S1 p1 (cs ++ c1) → PrF y S S1 → Rx g 14 0 0 mX10_readEither SHC.length (fun r sh' S' L' => sh' = SHC ∧ ∃ x, r = some (.int x) ∧ (PQ y T cs (EithOK T p 2) (EithNo T p 2) S x S' ∧ L' = L)) 0 0 12 [some (.ref (11 + 6 * y)), some (.int 2), some (.int (nI i))] [] SHC S1 L := by
      intro r
      induction r with
      | zero =>
        intro i p1 c1 S1 he hi hI hP1 hF1
        exact absurd hI.1.2.1 (by omega)
      | succ r ih =>
        intro i p1 c1 S1 he hi hI hP1 hF1
        refine rx_iload_n dX10_readEither_12 rfl ?_
        refine rx_bipush (100) dX10_readEither_13 (by decide) ?_
        refine rx_icmp_ge 49 dX10_readEither_15 (by decide) (fun h15 => absurd h15 (nI_ge (a := i) (b := 100) (by have := hI.1.2.1; omega) (by omega))) (fun h15 => ?_)
        refine rx_aload_n dX10_readEither_18 rfl ?_
        refine rx_bipush (124) dX10_readEither_19 (by decide) ?_
        refine rx_cVi_1 clX10_57 dX10_readEither_21 (rcvo (syO hy) rfl) rfl (c_skip g hy T p1 (cs ++ c1) 124 S1 L hP1 (by decide)) ?_
        rintro x2 S2 L2 ⟨⟨b2, y2, n2, F2⟩, hL2⟩
        rw [hL2]
        refine rx_if_eq 49 dX10_readEither_24 (by decide) (fun h24 => ?_) (fun h24 => ?_)
        · refine rx_iconst (1) dX10_readEither_49 (by decide) ?_
          exact rx_zret dX10_readEither_50 rfl (by decide) ⟨Nat.le_refl _, Nat.le_refl _⟩ ⟨rfl, _, rfl, ⟨⟨Or.inr rfl, fun _ => ⟨p1, c1, ⟨hI, (n2 h24).1⟩, by rw [(n2 h24).2]; exact hP1⟩, fun q => absurd q (by decide), hF1.trans F2⟩, rfl⟩⟩
        · obtain ⟨hb, hP2⟩ := y2 h24
          refine rx_aload_n dX10_readEither_27 rfl ?_
          refine rx_iload_n dX10_readEither_28 rfl ?_
          refine rx_cVi_1 clX10_113 dX10_readEither_29 (rcvo (syO hy) rfl) rfl (c_both_2 g hy T (p1 + 1) (cs ++ c1) S2 L hP2) ?_
          rintro x3 S3 L3 ⟨⟨b3, y3, n3, F3⟩, hL3⟩
          rw [hL3]
          refine rx_if_ne 37 dX10_readEither_32 (by decide) (fun h32 => ?_) (fun h32 => ?_)
          · obtain ⟨p2, c2, hO, hP3⟩ := y3 h32
            have hI2 := EithP.more hI hb hO
            have hl2 : (cs ++ c1 ++ c2).length + 1 ≤ p2 := by have := hI2.1.2.2; simp only [List.length_append, List.length_singleton] at this ⊢; omega
            refine rx_aload_n dX10_readEither_37 rfl ?_
            refine rx_bipush (-3) dX10_readEither_38 (by decide) ?_
            refine rx_cVv_1 clX10_116 dX10_readEither_40 (rcvo (syO hy) rfl) rfl (c_addCode g hy T p2 (cs ++ c1 ++ c2) (8, 0, 0) S3 L hP3 hl2) ?_
            rintro S4 L4 ⟨⟨hP4, F4⟩, hL4⟩
            rw [hL4]
            rw [show cs ++ c1 ++ c2 ++ [((8, 0, 0) : TK)] = cs ++ (c1 ++ c2 ++ [(8, 0, 0)]) from by simp only [List.append_assoc]] at hP4
            refine rx_iinc_2 (1) rfl dX10_readEither_43 (by decide) ?_
            refine rx_goto 12 dX10_readEither_46 (by decide) ?_
            rw [nI_1]
            exact ih (i + 1) p2 _ S4 (by have := hO.1.1.1; have := hI.1; omega) (by have := hO.1.1.1; have := hI2.1; omega) hI2 hP4 (((hF1.trans F2).trans F3).trans F4)
          · refine rx_iconst (0) dX10_readEither_35 (by decide) ?_
            exact rx_zret dX10_readEither_36 rfl (by decide) ⟨Nat.le_refl _, Nat.le_refl _⟩ ⟨rfl, _, rfl, ⟨⟨Or.inl rfl, fun q => absurd rfl q, fun _ => by obtain ⟨q, a, b⟩ := n3 h32; exact ⟨q, EithP.no hI hb a, b⟩, (hF1.trans F2).trans F3⟩, rfl⟩⟩
    exact loop (T.length + 1) 0 p0 c0 S0 (by omega) (by have := hI0.1; omega) hI0 hP0 F0
  · refine rx_iconst (0) dX10_readEither_8 (by decide) ?_
    exact rx_zret dX10_readEither_9 rfl (by decide) ⟨Nat.le_refl _, Nat.le_refl _⟩ ⟨rfl, _, rfl, ⟨⟨Or.inl rfl, fun q => absurd rfl q, fun _ => by obtain ⟨q, a, b⟩ := n0 h5; exact ⟨q, EithNo.of a, b⟩, F0⟩, rfl⟩⟩
set_option maxRecDepth 20000 in
set_option maxHeartbeats 1000000 in
theorem c_part_1 (g : GG) {y : Nat} (hy : y < 7) (T : List Nat) (p : Nat) (cs : List TK)  (S : SS) (L : LL) (hP : PrR y T S p cs) : Ci g 15 mX10_readPart [.ref (11 + 6 * y), .int 1] SHC S L (fun x S' L' => PQ y T cs (PartOK T p 1) (PartNo T p 1) S x S' ∧ L' = L) := by
  obtain ⟨k1, k2, k3, k4, k5, k6, k7, k8, k9⟩ := id hP
  refine ct_of (ls := [some (.ref (11 + 6 * y)), some (.int 1), none]) 1 (by decide +kernel) rfl rfl ?_
  refine rx_aload_n dX10_readPart_0 rfl ?_
  refine rx_aload_n dX10_readPart_1 rfl ?_
  refine rx_getI dX10_readPart_2 flX10_44 (syO hy) rfl ?_
  rw [k4]
  refine rx_cVi_1 clX10_102 dX10_readPart_5 (rcvo (syO hy) rfl) rfl (c_signAt g hy T p S L (by omega) k1 k2 k3) ?_
  refine pur3 ?_
  refine rx_istore_2 rfl dX10_readPart_8 ?_
  refine rx_iload_n dX10_readPart_9 rfl ?_
  refine rx_bipush (33) dX10_readPart_10 (by decide) ?_
  refine rx_icmp_eq 26 dX10_readPart_12 (by decide) (fun h12 => ?_) (fun h12 => ?_)
  · have hb : chr T p = 33 ∨ chr T p = 40 := by first | exact Or.inl h12 | exact Or.inr h18
    refine rx_iload_n dX10_readPart_26 rfl ?_
    refine rx_iconst (4) dX10_readPart_27 (by decide) ?_
    refine rx_icmp_lt 33 dX10_readPart_28 (by decide) (fun h28 => ?_) (fun h28 => absurd (by decide) h28)
    have hpl : p < T.length := hb.elim (fun q => chr_in q (by decide)) (fun q => chr_in q (by decide))
    have hP1 := hP.put (p' := p + 1) (by omega) hpl hy
    refine rx_aload_n dX10_readPart_33 rfl ?_
    refine rx_dup dX10_readPart_34 rfl ?_
    refine rx_getI dX10_readPart_35 flX10_44 (syO hy) rfl ?_
    rw [k4]
    refine rx_iconst (1) dX10_readPart_38 (by decide) ?_
    refine rx_iadd dX10_readPart_39 ?_
    rw [nI_1]
    refine rx_putI dX10_readPart_40 flX10_44 (syO hy) rfl ?_
    refine rx_iload_n dX10_readPart_43 rfl ?_
    refine rx_bipush (40) dX10_readPart_44 (by decide) ?_
    refine rx_icmp_ne 74 dX10_readPart_46 (by decide) (fun h46 => ?_) (fun h46 => ?_)
    · have h33 : chr T p = 33 := by first | exact h12 | exact absurd h18 h46
      refine rx_aload_n dX10_readPart_74 rfl ?_
      refine rx_iload_n dX10_readPart_75 rfl ?_
      refine rx_iconst (1) dX10_readPart_76 (by decide) ?_
      refine rx_iadd dX10_readPart_77 ?_
      rw [show ((1 : Int32) + 1) = 2 from by decide]
      refine rx_cVi_1 clX10_120 dX10_readPart_78 (rcvo (syO hy) rfl) rfl (c_part_2 g hy T (p + 1) cs _ L hP1) ?_
      rintro x1 S1 L1 ⟨⟨b1, y1, n1, F1⟩, hL1⟩
      rw [hL1]
      refine rx_if_ne 86 dX10_readPart_81 (by decide) (fun h81 => ?_) (fun h81 => ?_)
      · obtain ⟨p1, c1, hE1, hP2⟩ := y1 h81
        have hl2 : (cs ++ c1).length + 1 ≤ p1 := by have := hE1.1.2.2; rw [List.length_append]; omega
        refine rx_aload_n dX10_readPart_86 rfl ?_
        refine rx_iconst (-1) dX10_readPart_87 (by decide) ?_
        refine rx_cVv_1 clX10_116 dX10_readPart_88 (rcvo (syO hy) rfl) rfl (c_addCode g hy T p1 (cs ++ c1) (6, 0, 0) S1 L hP2 hl2) ?_
        rintro S3 L3 ⟨⟨hP3, F3⟩, hL3⟩
        rw [hL3]
        rw [List.append_assoc] at hP3
        refine rx_iconst (1) dX10_readPart_91 (by decide) ?_
        exact rx_zret dX10_readPart_92 rfl (by decide) ⟨Nat.le_refl _, Nat.le_refl _⟩ ⟨rfl, _, rfl, ⟨⟨Or.inr rfl, fun _ => ⟨p1, _, PartOK.not (by decide) h33 hE1, hP3⟩, fun q => absurd q (by decide), (PrF.put.trans F1).trans F3⟩, rfl⟩⟩
      · refine rx_iconst (0) dX10_readPart_84 (by decide) ?_
        exact rx_zret dX10_readPart_85 rfl (by decide) ⟨Nat.le_refl _, Nat.le_refl _⟩ ⟨rfl, _, rfl, ⟨⟨Or.inl rfl, fun q => absurd rfl q, fun _ => by obtain ⟨q, a, b⟩ := n1 h81; exact ⟨q, PartNo.not (by decide) h33 a, b⟩, PrF.put.trans F1⟩, rfl⟩⟩
    · have h40 : chr T p = 40 := h46
      refine rx_aload_n dX10_readPart_49 rfl ?_
      refine rx_iload_n dX10_readPart_50 rfl ?_
      refine rx_iconst (1) dX10_readPart_51 (by decide) ?_
      refine rx_iadd dX10_readPart_52 ?_
      rw [show ((1 : Int32) + 1) = 2 from by decide]
      refine rx_cVi_1 clX10_68 dX10_readPart_53 (rcvo (syO hy) rfl) rfl (c_eith_2 g hy T (p + 1) cs _ L hP1) ?_
      rintro x1 S1 L1 ⟨⟨b1, y1, n1, F1⟩, hL1⟩
      rw [hL1]
      refine rx_if_eq 72 dX10_readPart_56 (by decide) (fun h56 => ?_) (fun h56 => ?_)
      · refine rx_iconst (0) dX10_readPart_72 (by decide) ?_
        exact rx_zret dX10_readPart_73 rfl (by decide) ⟨Nat.le_refl _, Nat.le_refl _⟩ ⟨rfl, _, rfl, ⟨⟨Or.inl rfl, fun q => absurd rfl q, fun _ => by obtain ⟨q, a, b⟩ := n1 h56; exact ⟨q, PartNo.par (by decide) h40 a, b⟩, PrF.put.trans F1⟩, rfl⟩⟩
      · obtain ⟨p1, c1, hE1, hP2⟩ := y1 h56
        refine rx_aload_n dX10_readPart_59 rfl ?_
        refine rx_bipush (41) dX10_readPart_60 (by decide) ?_
        refine rx_cVi_1 clX10_57 dX10_readPart_62 (rcvo (syO hy) rfl) rfl (c_skip g hy T p1 (cs ++ c1) 41 S1 L hP2 (by decide)) ?_
        rintro x2 S2 L2 ⟨⟨b2, y2, n2, F2⟩, hL2⟩
        rw [hL2]
        refine rx_if_eq 72 dX10_readPart_65 (by decide) (fun h65 => ?_) (fun h65 => ?_)
        · refine rx_iconst (0) dX10_readPart_72 (by decide) ?_
          exact rx_zret dX10_readPart_73 rfl (by decide) ⟨Nat.le_refl _, Nat.le_refl _⟩ ⟨rfl, _, rfl, ⟨⟨Or.inl rfl, fun q => absurd rfl q, fun _ => ⟨p1, PartNo.opn (by decide) h40 hE1 (n2 h65).1, by rw [(n2 h65).2]; exact hP2.2.2.2.1⟩, (PrF.put.trans F1).trans F2⟩, rfl⟩⟩
        · refine rx_iconst (1) dX10_readPart_68 (by decide) ?_
          refine rx_goto 73 dX10_readPart_69 (by decide) ?_
          exact rx_zret dX10_readPart_73 rfl (by decide) ⟨Nat.le_refl _, Nat.le_refl _⟩ ⟨rfl, _, rfl, ⟨⟨Or.inr rfl, fun _ => ⟨p1 + 1, c1, PartOK.par (by decide) h40 hE1 (y2 h65).1, (y2 h65).2⟩, fun q => absurd q (by decide), (PrF.put.trans F1).trans F2⟩, rfl⟩⟩
  · refine rx_iload_n dX10_readPart_15 rfl ?_
    refine rx_bipush (40) dX10_readPart_16 (by decide) ?_
    refine rx_icmp_eq 26 dX10_readPart_18 (by decide) (fun h18 => ?_) (fun h18 => ?_)
    · have hb : chr T p = 33 ∨ chr T p = 40 := by first | exact Or.inl h12 | exact Or.inr h18
      refine rx_iload_n dX10_readPart_26 rfl ?_
      refine rx_iconst (4) dX10_readPart_27 (by decide) ?_
      refine rx_icmp_lt 33 dX10_readPart_28 (by decide) (fun h28 => ?_) (fun h28 => absurd (by decide) h28)
      have hpl : p < T.length := hb.elim (fun q => chr_in q (by decide)) (fun q => chr_in q (by decide))
      have hP1 := hP.put (p' := p + 1) (by omega) hpl hy
      refine rx_aload_n dX10_readPart_33 rfl ?_
      refine rx_dup dX10_readPart_34 rfl ?_
      refine rx_getI dX10_readPart_35 flX10_44 (syO hy) rfl ?_
      rw [k4]
      refine rx_iconst (1) dX10_readPart_38 (by decide) ?_
      refine rx_iadd dX10_readPart_39 ?_
      rw [nI_1]
      refine rx_putI dX10_readPart_40 flX10_44 (syO hy) rfl ?_
      refine rx_iload_n dX10_readPart_43 rfl ?_
      refine rx_bipush (40) dX10_readPart_44 (by decide) ?_
      refine rx_icmp_ne 74 dX10_readPart_46 (by decide) (fun h46 => ?_) (fun h46 => ?_)
      · have h33 : chr T p = 33 := by first | exact h12 | exact absurd h18 h46
        refine rx_aload_n dX10_readPart_74 rfl ?_
        refine rx_iload_n dX10_readPart_75 rfl ?_
        refine rx_iconst (1) dX10_readPart_76 (by decide) ?_
        refine rx_iadd dX10_readPart_77 ?_
        rw [show ((1 : Int32) + 1) = 2 from by decide]
        refine rx_cVi_1 clX10_120 dX10_readPart_78 (rcvo (syO hy) rfl) rfl (c_part_2 g hy T (p + 1) cs _ L hP1) ?_
        rintro x1 S1 L1 ⟨⟨b1, y1, n1, F1⟩, hL1⟩
        rw [hL1]
        refine rx_if_ne 86 dX10_readPart_81 (by decide) (fun h81 => ?_) (fun h81 => ?_)
        · obtain ⟨p1, c1, hE1, hP2⟩ := y1 h81
          have hl2 : (cs ++ c1).length + 1 ≤ p1 := by have := hE1.1.2.2; rw [List.length_append]; omega
          refine rx_aload_n dX10_readPart_86 rfl ?_
          refine rx_iconst (-1) dX10_readPart_87 (by decide) ?_
          refine rx_cVv_1 clX10_116 dX10_readPart_88 (rcvo (syO hy) rfl) rfl (c_addCode g hy T p1 (cs ++ c1) (6, 0, 0) S1 L hP2 hl2) ?_
          rintro S3 L3 ⟨⟨hP3, F3⟩, hL3⟩
          rw [hL3]
          rw [List.append_assoc] at hP3
          refine rx_iconst (1) dX10_readPart_91 (by decide) ?_
          exact rx_zret dX10_readPart_92 rfl (by decide) ⟨Nat.le_refl _, Nat.le_refl _⟩ ⟨rfl, _, rfl, ⟨⟨Or.inr rfl, fun _ => ⟨p1, _, PartOK.not (by decide) h33 hE1, hP3⟩, fun q => absurd q (by decide), (PrF.put.trans F1).trans F3⟩, rfl⟩⟩
        · refine rx_iconst (0) dX10_readPart_84 (by decide) ?_
          exact rx_zret dX10_readPart_85 rfl (by decide) ⟨Nat.le_refl _, Nat.le_refl _⟩ ⟨rfl, _, rfl, ⟨⟨Or.inl rfl, fun q => absurd rfl q, fun _ => by obtain ⟨q, a, b⟩ := n1 h81; exact ⟨q, PartNo.not (by decide) h33 a, b⟩, PrF.put.trans F1⟩, rfl⟩⟩
      · have h40 : chr T p = 40 := h46
        refine rx_aload_n dX10_readPart_49 rfl ?_
        refine rx_iload_n dX10_readPart_50 rfl ?_
        refine rx_iconst (1) dX10_readPart_51 (by decide) ?_
        refine rx_iadd dX10_readPart_52 ?_
        rw [show ((1 : Int32) + 1) = 2 from by decide]
        refine rx_cVi_1 clX10_68 dX10_readPart_53 (rcvo (syO hy) rfl) rfl (c_eith_2 g hy T (p + 1) cs _ L hP1) ?_
        rintro x1 S1 L1 ⟨⟨b1, y1, n1, F1⟩, hL1⟩
        rw [hL1]
        refine rx_if_eq 72 dX10_readPart_56 (by decide) (fun h56 => ?_) (fun h56 => ?_)
        · refine rx_iconst (0) dX10_readPart_72 (by decide) ?_
          exact rx_zret dX10_readPart_73 rfl (by decide) ⟨Nat.le_refl _, Nat.le_refl _⟩ ⟨rfl, _, rfl, ⟨⟨Or.inl rfl, fun q => absurd rfl q, fun _ => by obtain ⟨q, a, b⟩ := n1 h56; exact ⟨q, PartNo.par (by decide) h40 a, b⟩, PrF.put.trans F1⟩, rfl⟩⟩
        · obtain ⟨p1, c1, hE1, hP2⟩ := y1 h56
          refine rx_aload_n dX10_readPart_59 rfl ?_
          refine rx_bipush (41) dX10_readPart_60 (by decide) ?_
          refine rx_cVi_1 clX10_57 dX10_readPart_62 (rcvo (syO hy) rfl) rfl (c_skip g hy T p1 (cs ++ c1) 41 S1 L hP2 (by decide)) ?_
          rintro x2 S2 L2 ⟨⟨b2, y2, n2, F2⟩, hL2⟩
          rw [hL2]
          refine rx_if_eq 72 dX10_readPart_65 (by decide) (fun h65 => ?_) (fun h65 => ?_)
          · refine rx_iconst (0) dX10_readPart_72 (by decide) ?_
            exact rx_zret dX10_readPart_73 rfl (by decide) ⟨Nat.le_refl _, Nat.le_refl _⟩ ⟨rfl, _, rfl, ⟨⟨Or.inl rfl, fun q => absurd rfl q, fun _ => ⟨p1, PartNo.opn (by decide) h40 hE1 (n2 h65).1, by rw [(n2 h65).2]; exact hP2.2.2.2.1⟩, (PrF.put.trans F1).trans F2⟩, rfl⟩⟩
          · refine rx_iconst (1) dX10_readPart_68 (by decide) ?_
            refine rx_goto 73 dX10_readPart_69 (by decide) ?_
            exact rx_zret dX10_readPart_73 rfl (by decide) ⟨Nat.le_refl _, Nat.le_refl _⟩ ⟨rfl, _, rfl, ⟨⟨Or.inr rfl, fun _ => ⟨p1 + 1, c1, PartOK.par (by decide) h40 hE1 (y2 h65).1, (y2 h65).2⟩, fun q => absurd q (by decide), (PrF.put.trans F1).trans F2⟩, rfl⟩⟩
    · refine rx_aload_n dX10_readPart_21 rfl ?_
      refine rx_cVi_0 clX10_123 dX10_readPart_22 (rcvo (syO hy) rfl) rfl (c_readTest g hy T p cs S L hP) ?_
      rintro x1 S1 L1 ⟨hq1, hL1⟩
      rw [hL1]
      have hb : ¬ (chr T p = 33 ∨ chr T p = 40) := fun q => q.elim h12 h18
      exact rx_zret dX10_readPart_25 rfl hq1.nar ⟨Nat.le_refl _, Nat.le_refl _⟩ ⟨rfl, _, rfl, ⟨hq1.mono (fun p' c' ⟨t, a1, a2, a3, a4⟩ => by rw [a2] at a3 ⊢; exact PartOK.tst (by decide) hb a1 a3 a4) (fun q a => PartNo.tst hb a k5), rfl⟩⟩
set_option maxRecDepth 20000 in
set_option maxHeartbeats 1000000 in
theorem c_both_1 (g : GG) {y : Nat} (hy : y < 7) (T : List Nat) (p : Nat) (cs : List TK) (S : SS) (L : LL) (hP : PrR y T S p cs) : Ci g 16 mX10_readBoth [.ref (11 + 6 * y), .int 1] SHC S L (fun x S' L' => PQ y T cs (BothOK T p 1) (BothNo T p 1) S x S' ∧ L' = L) := by
  obtain ⟨k1, k2, k3, k4, k5, k6, k7, k8, k9⟩ := id hP
  refine ct_of (ls := [some (.ref (11 + 6 * y)), some (.int 1), none]) 1 (by decide +kernel) rfl rfl ?_
  refine rx_aload_n dX10_readBoth_0 rfl ?_
  refine rx_iload_n dX10_readBoth_1 rfl ?_
  refine rx_cVi_1 clX10_120 dX10_readBoth_2 (rcvo (syO hy) rfl) rfl (c_part_1 g hy T p cs S L hP) ?_
  rintro x0 S0 L0 ⟨⟨b0, y0, n0, F0⟩, hL0⟩
  rw [hL0]
  refine rx_if_ne 10 dX10_readBoth_5 (by decide) (fun h5 => ?_) (fun h5 => ?_)
  · obtain ⟨p0, c0, hO0, hP0⟩ := y0 h5
    have hI0 := BothP.of hO0
    have hz0 : 0 < p0 := by have := hI0.1; unfold Sz at this; omega
    refine rx_iconst (0) dX10_readBoth_10 (by decide) ?_
    refine rx_istore_2 rfl dX10_readBoth_11 ?_
    have loop : ∀ (r i p1 : Nat) (c1 : List TK) (S1 : SS), T.length < p1 + r → i < p1 → BothP T p 1 p1 c1 → PrR y T S1 p1 (cs ++ c1) → PrF y S S1 → Rx g 16 0 0 mX10_readBoth SHC.length (fun r sh' S' L' => sh' = SHC ∧ ∃ x, r = some (.int x) ∧ (PQ y T cs (BothOK T p 1) (BothNo T p 1) S x S' ∧ L' = L)) 0 0 12 [some (.ref (11 + 6 * y)), some (.int 1), some (.int (nI i))] [] SHC S1 L := by
      intro r
      induction r with
      | zero =>
        intro i p1 c1 S1 he hi hI hP1 hF1
        exact absurd hI.1.2.1 (by omega)
      | succ r ih =>
        intro i p1 c1 S1 he hi hI hP1 hF1
        refine rx_iload_n dX10_readBoth_12 rfl ?_
        refine rx_bipush (100) dX10_readBoth_13 (by decide) ?_
        refine rx_icmp_ge 49 dX10_readBoth_15 (by decide) (fun h15 => absurd h15 (nI_ge (a := i) (b := 100) (by have := hI.1.2.1; omega) (by omega))) (fun h15 => ?_)
        refine rx_aload_n dX10_readBoth_18 rfl ?_
        refine rx_bipush (38) dX10_readBoth_19 (by decide) ?_
        refine rx_cVi_1 clX10_57 dX10_readBoth_21 (rcvo (syO hy) rfl) rfl (c_skip g hy T p1 (cs ++ c1) 38 S1 L hP1 (by decide)) ?_
        rintro x2 S2 L2 ⟨⟨b2, y2, n2, F2⟩, hL2⟩
        rw [hL2]
        refine rx_if_eq 49 dX10_readBoth_24 (by decide) (fun h24 => ?_) (fun h24 => ?_)
        · refine rx_iconst (1) dX10_readBoth_49 (by decide) ?_
          exact rx_zret dX10_readBoth_50 rfl (by decide) ⟨Nat.le_refl _, Nat.le_refl _⟩ ⟨rfl, _, rfl, ⟨⟨Or.inr rfl, fun _ => ⟨p1, c1, ⟨hI, (n2 h24).1⟩, by rw [(n2 h24).2]; exact hP1⟩, fun q => absurd q (by decide), hF1.trans F2⟩, rfl⟩⟩
        · obtain ⟨hb, hP2⟩ := y2 h24
          refine rx_aload_n dX10_readBoth_27 rfl ?_
          refine rx_iload_n dX10_readBoth_28 rfl ?_
          refine rx_cVi_1 clX10_120 dX10_readBoth_29 (rcvo (syO hy) rfl) rfl (c_part_1 g hy T (p1 + 1) (cs ++ c1) S2 L hP2) ?_
          rintro x3 S3 L3 ⟨⟨b3, y3, n3, F3⟩, hL3⟩
          rw [hL3]
          refine rx_if_ne 37 dX10_readBoth_32 (by decide) (fun h32 => ?_) (fun h32 => ?_)
          · obtain ⟨p2, c2, hO, hP3⟩ := y3 h32
            have hI2 := BothP.more hI hb hO
            have hl2 : (cs ++ c1 ++ c2).length + 1 ≤ p2 := by have := hI2.1.2.2; simp only [List.length_append, List.length_singleton] at this ⊢; omega
            refine rx_aload_n dX10_readBoth_37 rfl ?_
            refine rx_bipush (-2) dX10_readBoth_38 (by decide) ?_
            refine rx_cVv_1 clX10_116 dX10_readBoth_40 (rcvo (syO hy) rfl) rfl (c_addCode g hy T p2 (cs ++ c1 ++ c2) (7, 0, 0) S3 L hP3 hl2) ?_
            rintro S4 L4 ⟨⟨hP4, F4⟩, hL4⟩
            rw [hL4]
            rw [show cs ++ c1 ++ c2 ++ [((7, 0, 0) : TK)] = cs ++ (c1 ++ c2 ++ [(7, 0, 0)]) from by simp only [List.append_assoc]] at hP4
            refine rx_iinc_2 (1) rfl dX10_readBoth_43 (by decide) ?_
            refine rx_goto 12 dX10_readBoth_46 (by decide) ?_
            rw [nI_1]
            exact ih (i + 1) p2 _ S4 (by have := hO.1.1; have := hI.1.1; unfold Sz at *; omega) (by have := hO.1.1; have := hI2.1; omega) hI2 hP4 (((hF1.trans F2).trans F3).trans F4)
          · refine rx_iconst (0) dX10_readBoth_35 (by decide) ?_
            exact rx_zret dX10_readBoth_36 rfl (by decide) ⟨Nat.le_refl _, Nat.le_refl _⟩ ⟨rfl, _, rfl, ⟨⟨Or.inl rfl, fun q => absurd rfl q, fun _ => by obtain ⟨q, a, b⟩ := n3 h32; exact ⟨q, BothP.no hI hb a, b⟩, (hF1.trans F2).trans F3⟩, rfl⟩⟩
    exact loop (T.length + 1) 0 p0 c0 S0 (by omega) (by have := hI0.1; omega) hI0 hP0 F0
  · refine rx_iconst (0) dX10_readBoth_8 (by decide) ?_
    exact rx_zret dX10_readBoth_9 rfl (by decide) ⟨Nat.le_refl _, Nat.le_refl _⟩ ⟨rfl, _, rfl, ⟨⟨Or.inl rfl, fun q => absurd rfl q, fun _ => by obtain ⟨q, a, b⟩ := n0 h5; exact ⟨q, BothNo.of a, b⟩, F0⟩, rfl⟩⟩
set_option maxRecDepth 20000 in
set_option maxHeartbeats 1000000 in
theorem c_eith_1 (g : GG) {y : Nat} (hy : y < 7) (T : List Nat) (p : Nat) (cs : List TK) (S : SS) (L : LL) (hP : PrR y T S p cs) : Ci g 17 mX10_readEither [.ref (11 + 6 * y), .int 1] SHC S L (fun x S' L' => PQ y T cs (EithOK T p 1) (EithNo T p 1) S x S' ∧ L' = L) := by
  obtain ⟨k1, k2, k3, k4, k5, k6, k7, k8, k9⟩ := id hP
  refine ct_of (ls := [some (.ref (11 + 6 * y)), some (.int 1), none]) 1 (by decide +kernel) rfl rfl ?_
  refine rx_aload_n dX10_readEither_0 rfl ?_
  refine rx_iload_n dX10_readEither_1 rfl ?_
  refine rx_cVi_1 clX10_113 dX10_readEither_2 (rcvo (syO hy) rfl) rfl (c_both_1 g hy T p cs S L hP) ?_
  rintro x0 S0 L0 ⟨⟨b0, y0, n0, F0⟩, hL0⟩
  rw [hL0]
  refine rx_if_ne 10 dX10_readEither_5 (by decide) (fun h5 => ?_) (fun h5 => ?_)
  · obtain ⟨p0, c0, hO0, hP0⟩ := y0 h5
    have hI0 := EithP.of hO0
    have hz0 : 0 < p0 := by have := hI0.1; unfold Sz at this; omega
    refine rx_iconst (0) dX10_readEither_10 (by decide) ?_
    refine rx_istore_2 rfl dX10_readEither_11 ?_
    have loop : ∀ (r i p1 : Nat) (c1 : List TK) (S1 : SS), T.length < p1 + r → i < p1 → EithP T p 1 p1 c1 → PrR y T S1 p1 (cs ++ c1) → PrF y S S1 → Rx g 17 0 0 mX10_readEither SHC.length (fun r sh' S' L' => sh' = SHC ∧ ∃ x, r = some (.int x) ∧ (PQ y T cs (EithOK T p 1) (EithNo T p 1) S x S' ∧ L' = L)) 0 0 12 [some (.ref (11 + 6 * y)), some (.int 1), some (.int (nI i))] [] SHC S1 L := by
      intro r
      induction r with
      | zero =>
        intro i p1 c1 S1 he hi hI hP1 hF1
        exact absurd hI.1.2.1 (by omega)
      | succ r ih =>
        intro i p1 c1 S1 he hi hI hP1 hF1
        refine rx_iload_n dX10_readEither_12 rfl ?_
        refine rx_bipush (100) dX10_readEither_13 (by decide) ?_
        refine rx_icmp_ge 49 dX10_readEither_15 (by decide) (fun h15 => absurd h15 (nI_ge (a := i) (b := 100) (by have := hI.1.2.1; omega) (by omega))) (fun h15 => ?_)
        refine rx_aload_n dX10_readEither_18 rfl ?_
        refine rx_bipush (124) dX10_readEither_19 (by decide) ?_
        refine rx_cVi_1 clX10_57 dX10_readEither_21 (rcvo (syO hy) rfl) rfl (c_skip g hy T p1 (cs ++ c1) 124 S1 L hP1 (by decide)) ?_
        rintro x2 S2 L2 ⟨⟨b2, y2, n2, F2⟩, hL2⟩
        rw [hL2]
        refine rx_if_eq 49 dX10_readEither_24 (by decide) (fun h24 => ?_) (fun h24 => ?_)
        · refine rx_iconst (1) dX10_readEither_49 (by decide) ?_
          exact rx_zret dX10_readEither_50 rfl (by decide) ⟨Nat.le_refl _, Nat.le_refl _⟩ ⟨rfl, _, rfl, ⟨⟨Or.inr rfl, fun _ => ⟨p1, c1, ⟨hI, (n2 h24).1⟩, by rw [(n2 h24).2]; exact hP1⟩, fun q => absurd q (by decide), hF1.trans F2⟩, rfl⟩⟩
        · obtain ⟨hb, hP2⟩ := y2 h24
          refine rx_aload_n dX10_readEither_27 rfl ?_
          refine rx_iload_n dX10_readEither_28 rfl ?_
          refine rx_cVi_1 clX10_113 dX10_readEither_29 (rcvo (syO hy) rfl) rfl (c_both_1 g hy T (p1 + 1) (cs ++ c1) S2 L hP2) ?_
          rintro x3 S3 L3 ⟨⟨b3, y3, n3, F3⟩, hL3⟩
          rw [hL3]
          refine rx_if_ne 37 dX10_readEither_32 (by decide) (fun h32 => ?_) (fun h32 => ?_)
          · obtain ⟨p2, c2, hO, hP3⟩ := y3 h32
            have hI2 := EithP.more hI hb hO
            have hl2 : (cs ++ c1 ++ c2).length + 1 ≤ p2 := by have := hI2.1.2.2; simp only [List.length_append, List.length_singleton] at this ⊢; omega
            refine rx_aload_n dX10_readEither_37 rfl ?_
            refine rx_bipush (-3) dX10_readEither_38 (by decide) ?_
            refine rx_cVv_1 clX10_116 dX10_readEither_40 (rcvo (syO hy) rfl) rfl (c_addCode g hy T p2 (cs ++ c1 ++ c2) (8, 0, 0) S3 L hP3 hl2) ?_
            rintro S4 L4 ⟨⟨hP4, F4⟩, hL4⟩
            rw [hL4]
            rw [show cs ++ c1 ++ c2 ++ [((8, 0, 0) : TK)] = cs ++ (c1 ++ c2 ++ [(8, 0, 0)]) from by simp only [List.append_assoc]] at hP4
            refine rx_iinc_2 (1) rfl dX10_readEither_43 (by decide) ?_
            refine rx_goto 12 dX10_readEither_46 (by decide) ?_
            rw [nI_1]
            exact ih (i + 1) p2 _ S4 (by have := hO.1.1.1; have := hI.1; omega) (by have := hO.1.1.1; have := hI2.1; omega) hI2 hP4 (((hF1.trans F2).trans F3).trans F4)
          · refine rx_iconst (0) dX10_readEither_35 (by decide) ?_
            exact rx_zret dX10_readEither_36 rfl (by decide) ⟨Nat.le_refl _, Nat.le_refl _⟩ ⟨rfl, _, rfl, ⟨⟨Or.inl rfl, fun q => absurd rfl q, fun _ => by obtain ⟨q, a, b⟩ := n3 h32; exact ⟨q, EithP.no hI hb a, b⟩, (hF1.trans F2).trans F3⟩, rfl⟩⟩
    exact loop (T.length + 1) 0 p0 c0 S0 (by omega) (by have := hI0.1; omega) hI0 hP0 F0
  · refine rx_iconst (0) dX10_readEither_8 (by decide) ?_
    exact rx_zret dX10_readEither_9 rfl (by decide) ⟨Nat.le_refl _, Nat.le_refl _⟩ ⟨rfl, _, rfl, ⟨⟨Or.inl rfl, fun q => absurd rfl q, fun _ => by obtain ⟨q, a, b⟩ := n0 h5; exact ⟨q, EithNo.of a, b⟩, F0⟩, rfl⟩⟩
set_option maxRecDepth 20000 in
set_option maxHeartbeats 1000000 in
theorem c_part_0 (g : GG) {y : Nat} (hy : y < 7) (T : List Nat) (p : Nat) (cs : List TK)  (S : SS) (L : LL) (hP : PrR y T S p cs) : Ci g 18 mX10_readPart [.ref (11 + 6 * y), .int 0] SHC S L (fun x S' L' => PQ y T cs (PartOK T p 0) (PartNo T p 0) S x S' ∧ L' = L) := by
  obtain ⟨k1, k2, k3, k4, k5, k6, k7, k8, k9⟩ := id hP
  refine ct_of (ls := [some (.ref (11 + 6 * y)), some (.int 0), none]) 1 (by decide +kernel) rfl rfl ?_
  refine rx_aload_n dX10_readPart_0 rfl ?_
  refine rx_aload_n dX10_readPart_1 rfl ?_
  refine rx_getI dX10_readPart_2 flX10_44 (syO hy) rfl ?_
  rw [k4]
  refine rx_cVi_1 clX10_102 dX10_readPart_5 (rcvo (syO hy) rfl) rfl (c_signAt g hy T p S L (by omega) k1 k2 k3) ?_
  refine pur3 ?_
  refine rx_istore_2 rfl dX10_readPart_8 ?_
  refine rx_iload_n dX10_readPart_9 rfl ?_
  refine rx_bipush (33) dX10_readPart_10 (by decide) ?_
  refine rx_icmp_eq 26 dX10_readPart_12 (by decide) (fun h12 => ?_) (fun h12 => ?_)
  · have hb : chr T p = 33 ∨ chr T p = 40 := by first | exact Or.inl h12 | exact Or.inr h18
    refine rx_iload_n dX10_readPart_26 rfl ?_
    refine rx_iconst (4) dX10_readPart_27 (by decide) ?_
    refine rx_icmp_lt 33 dX10_readPart_28 (by decide) (fun h28 => ?_) (fun h28 => absurd (by decide) h28)
    have hpl : p < T.length := hb.elim (fun q => chr_in q (by decide)) (fun q => chr_in q (by decide))
    have hP1 := hP.put (p' := p + 1) (by omega) hpl hy
    refine rx_aload_n dX10_readPart_33 rfl ?_
    refine rx_dup dX10_readPart_34 rfl ?_
    refine rx_getI dX10_readPart_35 flX10_44 (syO hy) rfl ?_
    rw [k4]
    refine rx_iconst (1) dX10_readPart_38 (by decide) ?_
    refine rx_iadd dX10_readPart_39 ?_
    rw [nI_1]
    refine rx_putI dX10_readPart_40 flX10_44 (syO hy) rfl ?_
    refine rx_iload_n dX10_readPart_43 rfl ?_
    refine rx_bipush (40) dX10_readPart_44 (by decide) ?_
    refine rx_icmp_ne 74 dX10_readPart_46 (by decide) (fun h46 => ?_) (fun h46 => ?_)
    · have h33 : chr T p = 33 := by first | exact h12 | exact absurd h18 h46
      refine rx_aload_n dX10_readPart_74 rfl ?_
      refine rx_iload_n dX10_readPart_75 rfl ?_
      refine rx_iconst (1) dX10_readPart_76 (by decide) ?_
      refine rx_iadd dX10_readPart_77 ?_
      rw [show ((0 : Int32) + 1) = 1 from by decide]
      refine rx_cVi_1 clX10_120 dX10_readPart_78 (rcvo (syO hy) rfl) rfl (c_part_1 g hy T (p + 1) cs _ L hP1) ?_
      rintro x1 S1 L1 ⟨⟨b1, y1, n1, F1⟩, hL1⟩
      rw [hL1]
      refine rx_if_ne 86 dX10_readPart_81 (by decide) (fun h81 => ?_) (fun h81 => ?_)
      · obtain ⟨p1, c1, hE1, hP2⟩ := y1 h81
        have hl2 : (cs ++ c1).length + 1 ≤ p1 := by have := hE1.1.2.2; rw [List.length_append]; omega
        refine rx_aload_n dX10_readPart_86 rfl ?_
        refine rx_iconst (-1) dX10_readPart_87 (by decide) ?_
        refine rx_cVv_1 clX10_116 dX10_readPart_88 (rcvo (syO hy) rfl) rfl (c_addCode g hy T p1 (cs ++ c1) (6, 0, 0) S1 L hP2 hl2) ?_
        rintro S3 L3 ⟨⟨hP3, F3⟩, hL3⟩
        rw [hL3]
        rw [List.append_assoc] at hP3
        refine rx_iconst (1) dX10_readPart_91 (by decide) ?_
        exact rx_zret dX10_readPart_92 rfl (by decide) ⟨Nat.le_refl _, Nat.le_refl _⟩ ⟨rfl, _, rfl, ⟨⟨Or.inr rfl, fun _ => ⟨p1, _, PartOK.not (by decide) h33 hE1, hP3⟩, fun q => absurd q (by decide), (PrF.put.trans F1).trans F3⟩, rfl⟩⟩
      · refine rx_iconst (0) dX10_readPart_84 (by decide) ?_
        exact rx_zret dX10_readPart_85 rfl (by decide) ⟨Nat.le_refl _, Nat.le_refl _⟩ ⟨rfl, _, rfl, ⟨⟨Or.inl rfl, fun q => absurd rfl q, fun _ => by obtain ⟨q, a, b⟩ := n1 h81; exact ⟨q, PartNo.not (by decide) h33 a, b⟩, PrF.put.trans F1⟩, rfl⟩⟩
    · have h40 : chr T p = 40 := h46
      refine rx_aload_n dX10_readPart_49 rfl ?_
      refine rx_iload_n dX10_readPart_50 rfl ?_
      refine rx_iconst (1) dX10_readPart_51 (by decide) ?_
      refine rx_iadd dX10_readPart_52 ?_
      rw [show ((0 : Int32) + 1) = 1 from by decide]
      refine rx_cVi_1 clX10_68 dX10_readPart_53 (rcvo (syO hy) rfl) rfl (c_eith_1 g hy T (p + 1) cs _ L hP1) ?_
      rintro x1 S1 L1 ⟨⟨b1, y1, n1, F1⟩, hL1⟩
      rw [hL1]
      refine rx_if_eq 72 dX10_readPart_56 (by decide) (fun h56 => ?_) (fun h56 => ?_)
      · refine rx_iconst (0) dX10_readPart_72 (by decide) ?_
        exact rx_zret dX10_readPart_73 rfl (by decide) ⟨Nat.le_refl _, Nat.le_refl _⟩ ⟨rfl, _, rfl, ⟨⟨Or.inl rfl, fun q => absurd rfl q, fun _ => by obtain ⟨q, a, b⟩ := n1 h56; exact ⟨q, PartNo.par (by decide) h40 a, b⟩, PrF.put.trans F1⟩, rfl⟩⟩
      · obtain ⟨p1, c1, hE1, hP2⟩ := y1 h56
        refine rx_aload_n dX10_readPart_59 rfl ?_
        refine rx_bipush (41) dX10_readPart_60 (by decide) ?_
        refine rx_cVi_1 clX10_57 dX10_readPart_62 (rcvo (syO hy) rfl) rfl (c_skip g hy T p1 (cs ++ c1) 41 S1 L hP2 (by decide)) ?_
        rintro x2 S2 L2 ⟨⟨b2, y2, n2, F2⟩, hL2⟩
        rw [hL2]
        refine rx_if_eq 72 dX10_readPart_65 (by decide) (fun h65 => ?_) (fun h65 => ?_)
        · refine rx_iconst (0) dX10_readPart_72 (by decide) ?_
          exact rx_zret dX10_readPart_73 rfl (by decide) ⟨Nat.le_refl _, Nat.le_refl _⟩ ⟨rfl, _, rfl, ⟨⟨Or.inl rfl, fun q => absurd rfl q, fun _ => ⟨p1, PartNo.opn (by decide) h40 hE1 (n2 h65).1, by rw [(n2 h65).2]; exact hP2.2.2.2.1⟩, (PrF.put.trans F1).trans F2⟩, rfl⟩⟩
        · refine rx_iconst (1) dX10_readPart_68 (by decide) ?_
          refine rx_goto 73 dX10_readPart_69 (by decide) ?_
          exact rx_zret dX10_readPart_73 rfl (by decide) ⟨Nat.le_refl _, Nat.le_refl _⟩ ⟨rfl, _, rfl, ⟨⟨Or.inr rfl, fun _ => ⟨p1 + 1, c1, PartOK.par (by decide) h40 hE1 (y2 h65).1, (y2 h65).2⟩, fun q => absurd q (by decide), (PrF.put.trans F1).trans F2⟩, rfl⟩⟩
  · refine rx_iload_n dX10_readPart_15 rfl ?_
    refine rx_bipush (40) dX10_readPart_16 (by decide) ?_
    refine rx_icmp_eq 26 dX10_readPart_18 (by decide) (fun h18 => ?_) (fun h18 => ?_)
    · have hb : chr T p = 33 ∨ chr T p = 40 := by first | exact Or.inl h12 | exact Or.inr h18
      refine rx_iload_n dX10_readPart_26 rfl ?_
      refine rx_iconst (4) dX10_readPart_27 (by decide) ?_
      refine rx_icmp_lt 33 dX10_readPart_28 (by decide) (fun h28 => ?_) (fun h28 => absurd (by decide) h28)
      have hpl : p < T.length := hb.elim (fun q => chr_in q (by decide)) (fun q => chr_in q (by decide))
      have hP1 := hP.put (p' := p + 1) (by omega) hpl hy
      refine rx_aload_n dX10_readPart_33 rfl ?_
      refine rx_dup dX10_readPart_34 rfl ?_
      refine rx_getI dX10_readPart_35 flX10_44 (syO hy) rfl ?_
      rw [k4]
      refine rx_iconst (1) dX10_readPart_38 (by decide) ?_
      refine rx_iadd dX10_readPart_39 ?_
      rw [nI_1]
      refine rx_putI dX10_readPart_40 flX10_44 (syO hy) rfl ?_
      refine rx_iload_n dX10_readPart_43 rfl ?_
      refine rx_bipush (40) dX10_readPart_44 (by decide) ?_
      refine rx_icmp_ne 74 dX10_readPart_46 (by decide) (fun h46 => ?_) (fun h46 => ?_)
      · have h33 : chr T p = 33 := by first | exact h12 | exact absurd h18 h46
        refine rx_aload_n dX10_readPart_74 rfl ?_
        refine rx_iload_n dX10_readPart_75 rfl ?_
        refine rx_iconst (1) dX10_readPart_76 (by decide) ?_
        refine rx_iadd dX10_readPart_77 ?_
        rw [show ((0 : Int32) + 1) = 1 from by decide]
        refine rx_cVi_1 clX10_120 dX10_readPart_78 (rcvo (syO hy) rfl) rfl (c_part_1 g hy T (p + 1) cs _ L hP1) ?_
        rintro x1 S1 L1 ⟨⟨b1, y1, n1, F1⟩, hL1⟩
        rw [hL1]
        refine rx_if_ne 86 dX10_readPart_81 (by decide) (fun h81 => ?_) (fun h81 => ?_)
        · obtain ⟨p1, c1, hE1, hP2⟩ := y1 h81
          have hl2 : (cs ++ c1).length + 1 ≤ p1 := by have := hE1.1.2.2; rw [List.length_append]; omega
          refine rx_aload_n dX10_readPart_86 rfl ?_
          refine rx_iconst (-1) dX10_readPart_87 (by decide) ?_
          refine rx_cVv_1 clX10_116 dX10_readPart_88 (rcvo (syO hy) rfl) rfl (c_addCode g hy T p1 (cs ++ c1) (6, 0, 0) S1 L hP2 hl2) ?_
          rintro S3 L3 ⟨⟨hP3, F3⟩, hL3⟩
          rw [hL3]
          rw [List.append_assoc] at hP3
          refine rx_iconst (1) dX10_readPart_91 (by decide) ?_
          exact rx_zret dX10_readPart_92 rfl (by decide) ⟨Nat.le_refl _, Nat.le_refl _⟩ ⟨rfl, _, rfl, ⟨⟨Or.inr rfl, fun _ => ⟨p1, _, PartOK.not (by decide) h33 hE1, hP3⟩, fun q => absurd q (by decide), (PrF.put.trans F1).trans F3⟩, rfl⟩⟩
        · refine rx_iconst (0) dX10_readPart_84 (by decide) ?_
          exact rx_zret dX10_readPart_85 rfl (by decide) ⟨Nat.le_refl _, Nat.le_refl _⟩ ⟨rfl, _, rfl, ⟨⟨Or.inl rfl, fun q => absurd rfl q, fun _ => by obtain ⟨q, a, b⟩ := n1 h81; exact ⟨q, PartNo.not (by decide) h33 a, b⟩, PrF.put.trans F1⟩, rfl⟩⟩
      · have h40 : chr T p = 40 := h46
        refine rx_aload_n dX10_readPart_49 rfl ?_
        refine rx_iload_n dX10_readPart_50 rfl ?_
        refine rx_iconst (1) dX10_readPart_51 (by decide) ?_
        refine rx_iadd dX10_readPart_52 ?_
        rw [show ((0 : Int32) + 1) = 1 from by decide]
        refine rx_cVi_1 clX10_68 dX10_readPart_53 (rcvo (syO hy) rfl) rfl (c_eith_1 g hy T (p + 1) cs _ L hP1) ?_
        rintro x1 S1 L1 ⟨⟨b1, y1, n1, F1⟩, hL1⟩
        rw [hL1]
        refine rx_if_eq 72 dX10_readPart_56 (by decide) (fun h56 => ?_) (fun h56 => ?_)
        · refine rx_iconst (0) dX10_readPart_72 (by decide) ?_
          exact rx_zret dX10_readPart_73 rfl (by decide) ⟨Nat.le_refl _, Nat.le_refl _⟩ ⟨rfl, _, rfl, ⟨⟨Or.inl rfl, fun q => absurd rfl q, fun _ => by obtain ⟨q, a, b⟩ := n1 h56; exact ⟨q, PartNo.par (by decide) h40 a, b⟩, PrF.put.trans F1⟩, rfl⟩⟩
        · obtain ⟨p1, c1, hE1, hP2⟩ := y1 h56
          refine rx_aload_n dX10_readPart_59 rfl ?_
          refine rx_bipush (41) dX10_readPart_60 (by decide) ?_
          refine rx_cVi_1 clX10_57 dX10_readPart_62 (rcvo (syO hy) rfl) rfl (c_skip g hy T p1 (cs ++ c1) 41 S1 L hP2 (by decide)) ?_
          rintro x2 S2 L2 ⟨⟨b2, y2, n2, F2⟩, hL2⟩
          rw [hL2]
          refine rx_if_eq 72 dX10_readPart_65 (by decide) (fun h65 => ?_) (fun h65 => ?_)
          · refine rx_iconst (0) dX10_readPart_72 (by decide) ?_
            exact rx_zret dX10_readPart_73 rfl (by decide) ⟨Nat.le_refl _, Nat.le_refl _⟩ ⟨rfl, _, rfl, ⟨⟨Or.inl rfl, fun q => absurd rfl q, fun _ => ⟨p1, PartNo.opn (by decide) h40 hE1 (n2 h65).1, by rw [(n2 h65).2]; exact hP2.2.2.2.1⟩, (PrF.put.trans F1).trans F2⟩, rfl⟩⟩
          · refine rx_iconst (1) dX10_readPart_68 (by decide) ?_
            refine rx_goto 73 dX10_readPart_69 (by decide) ?_
            exact rx_zret dX10_readPart_73 rfl (by decide) ⟨Nat.le_refl _, Nat.le_refl _⟩ ⟨rfl, _, rfl, ⟨⟨Or.inr rfl, fun _ => ⟨p1 + 1, c1, PartOK.par (by decide) h40 hE1 (y2 h65).1, (y2 h65).2⟩, fun q => absurd q (by decide), (PrF.put.trans F1).trans F2⟩, rfl⟩⟩
    · refine rx_aload_n dX10_readPart_21 rfl ?_
      refine rx_cVi_0 clX10_123 dX10_readPart_22 (rcvo (syO hy) rfl) rfl (c_readTest g hy T p cs S L hP) ?_
      rintro x1 S1 L1 ⟨hq1, hL1⟩
      rw [hL1]
      have hb : ¬ (chr T p = 33 ∨ chr T p = 40) := fun q => q.elim h12 h18
      exact rx_zret dX10_readPart_25 rfl hq1.nar ⟨Nat.le_refl _, Nat.le_refl _⟩ ⟨rfl, _, rfl, ⟨hq1.mono (fun p' c' ⟨t, a1, a2, a3, a4⟩ => by rw [a2] at a3 ⊢; exact PartOK.tst (by decide) hb a1 a3 a4) (fun q a => PartNo.tst hb a k5), rfl⟩⟩
set_option maxRecDepth 20000 in
set_option maxHeartbeats 1000000 in
theorem c_both_0 (g : GG) {y : Nat} (hy : y < 7) (T : List Nat) (p : Nat) (cs : List TK) (S : SS) (L : LL) (hP : PrR y T S p cs) : Ci g 19 mX10_readBoth [.ref (11 + 6 * y), .int 0] SHC S L (fun x S' L' => PQ y T cs (BothOK T p 0) (BothNo T p 0) S x S' ∧ L' = L) := by
  obtain ⟨k1, k2, k3, k4, k5, k6, k7, k8, k9⟩ := id hP
  refine ct_of (ls := [some (.ref (11 + 6 * y)), some (.int 0), none]) 1 (by decide +kernel) rfl rfl ?_
  refine rx_aload_n dX10_readBoth_0 rfl ?_
  refine rx_iload_n dX10_readBoth_1 rfl ?_
  refine rx_cVi_1 clX10_120 dX10_readBoth_2 (rcvo (syO hy) rfl) rfl (c_part_0 g hy T p cs S L hP) ?_
  rintro x0 S0 L0 ⟨⟨b0, y0, n0, F0⟩, hL0⟩
  rw [hL0]
  refine rx_if_ne 10 dX10_readBoth_5 (by decide) (fun h5 => ?_) (fun h5 => ?_)
  · obtain ⟨p0, c0, hO0, hP0⟩ := y0 h5
    have hI0 := BothP.of hO0
    have hz0 : 0 < p0 := by have := hI0.1; unfold Sz at this; omega
    refine rx_iconst (0) dX10_readBoth_10 (by decide) ?_
    refine rx_istore_2 rfl dX10_readBoth_11 ?_
    have loop : ∀ (r i p1 : Nat) (c1 : List TK) (S1 : SS), T.length < p1 + r → i < p1 → BothP T p 0 p1 c1 → PrR y T S1 p1 (cs ++ c1) → PrF y S S1 → Rx g 19 0 0 mX10_readBoth SHC.length (fun r sh' S' L' => sh' = SHC ∧ ∃ x, r = some (.int x) ∧ (PQ y T cs (BothOK T p 0) (BothNo T p 0) S x S' ∧ L' = L)) 0 0 12 [some (.ref (11 + 6 * y)), some (.int 0), some (.int (nI i))] [] SHC S1 L := by
      intro r
      induction r with
      | zero =>
        intro i p1 c1 S1 he hi hI hP1 hF1
        exact absurd hI.1.2.1 (by omega)
      | succ r ih =>
        intro i p1 c1 S1 he hi hI hP1 hF1
        refine rx_iload_n dX10_readBoth_12 rfl ?_
        refine rx_bipush (100) dX10_readBoth_13 (by decide) ?_
        refine rx_icmp_ge 49 dX10_readBoth_15 (by decide) (fun h15 => absurd h15 (nI_ge (a := i) (b := 100) (by have := hI.1.2.1; omega) (by omega))) (fun h15 => ?_)
        refine rx_aload_n dX10_readBoth_18 rfl ?_
        refine rx_bipush (38) dX10_readBoth_19 (by decide) ?_
        refine rx_cVi_1 clX10_57 dX10_readBoth_21 (rcvo (syO hy) rfl) rfl (c_skip g hy T p1 (cs ++ c1) 38 S1 L hP1 (by decide)) ?_
        rintro x2 S2 L2 ⟨⟨b2, y2, n2, F2⟩, hL2⟩
        rw [hL2]
        refine rx_if_eq 49 dX10_readBoth_24 (by decide) (fun h24 => ?_) (fun h24 => ?_)
        · refine rx_iconst (1) dX10_readBoth_49 (by decide) ?_
          exact rx_zret dX10_readBoth_50 rfl (by decide) ⟨Nat.le_refl _, Nat.le_refl _⟩ ⟨rfl, _, rfl, ⟨⟨Or.inr rfl, fun _ => ⟨p1, c1, ⟨hI, (n2 h24).1⟩, by rw [(n2 h24).2]; exact hP1⟩, fun q => absurd q (by decide), hF1.trans F2⟩, rfl⟩⟩
        · obtain ⟨hb, hP2⟩ := y2 h24
          refine rx_aload_n dX10_readBoth_27 rfl ?_
          refine rx_iload_n dX10_readBoth_28 rfl ?_
          refine rx_cVi_1 clX10_120 dX10_readBoth_29 (rcvo (syO hy) rfl) rfl (c_part_0 g hy T (p1 + 1) (cs ++ c1) S2 L hP2) ?_
          rintro x3 S3 L3 ⟨⟨b3, y3, n3, F3⟩, hL3⟩
          rw [hL3]
          refine rx_if_ne 37 dX10_readBoth_32 (by decide) (fun h32 => ?_) (fun h32 => ?_)
          · obtain ⟨p2, c2, hO, hP3⟩ := y3 h32
            have hI2 := BothP.more hI hb hO
            have hl2 : (cs ++ c1 ++ c2).length + 1 ≤ p2 := by have := hI2.1.2.2; simp only [List.length_append, List.length_singleton] at this ⊢; omega
            refine rx_aload_n dX10_readBoth_37 rfl ?_
            refine rx_bipush (-2) dX10_readBoth_38 (by decide) ?_
            refine rx_cVv_1 clX10_116 dX10_readBoth_40 (rcvo (syO hy) rfl) rfl (c_addCode g hy T p2 (cs ++ c1 ++ c2) (7, 0, 0) S3 L hP3 hl2) ?_
            rintro S4 L4 ⟨⟨hP4, F4⟩, hL4⟩
            rw [hL4]
            rw [show cs ++ c1 ++ c2 ++ [((7, 0, 0) : TK)] = cs ++ (c1 ++ c2 ++ [(7, 0, 0)]) from by simp only [List.append_assoc]] at hP4
            refine rx_iinc_2 (1) rfl dX10_readBoth_43 (by decide) ?_
            refine rx_goto 12 dX10_readBoth_46 (by decide) ?_
            rw [nI_1]
            exact ih (i + 1) p2 _ S4 (by have := hO.1.1; have := hI.1.1; unfold Sz at *; omega) (by have := hO.1.1; have := hI2.1; omega) hI2 hP4 (((hF1.trans F2).trans F3).trans F4)
          · refine rx_iconst (0) dX10_readBoth_35 (by decide) ?_
            exact rx_zret dX10_readBoth_36 rfl (by decide) ⟨Nat.le_refl _, Nat.le_refl _⟩ ⟨rfl, _, rfl, ⟨⟨Or.inl rfl, fun q => absurd rfl q, fun _ => by obtain ⟨q, a, b⟩ := n3 h32; exact ⟨q, BothP.no hI hb a, b⟩, (hF1.trans F2).trans F3⟩, rfl⟩⟩
    exact loop (T.length + 1) 0 p0 c0 S0 (by omega) (by have := hI0.1; omega) hI0 hP0 F0
  · refine rx_iconst (0) dX10_readBoth_8 (by decide) ?_
    exact rx_zret dX10_readBoth_9 rfl (by decide) ⟨Nat.le_refl _, Nat.le_refl _⟩ ⟨rfl, _, rfl, ⟨⟨Or.inl rfl, fun q => absurd rfl q, fun _ => by obtain ⟨q, a, b⟩ := n0 h5; exact ⟨q, BothNo.of a, b⟩, F0⟩, rfl⟩⟩
set_option maxRecDepth 20000 in
set_option maxHeartbeats 1000000 in
theorem c_eith_0 (g : GG) {y : Nat} (hy : y < 7) (T : List Nat) (p : Nat) (cs : List TK) (S : SS) (L : LL) (hP : PrR y T S p cs) : Ci g 20 mX10_readEither [.ref (11 + 6 * y), .int 0] SHC S L (fun x S' L' => PQ y T cs (EithOK T p 0) (EithNo T p 0) S x S' ∧ L' = L) := by
  obtain ⟨k1, k2, k3, k4, k5, k6, k7, k8, k9⟩ := id hP
  refine ct_of (ls := [some (.ref (11 + 6 * y)), some (.int 0), none]) 1 (by decide +kernel) rfl rfl ?_
  refine rx_aload_n dX10_readEither_0 rfl ?_
  refine rx_iload_n dX10_readEither_1 rfl ?_
  refine rx_cVi_1 clX10_113 dX10_readEither_2 (rcvo (syO hy) rfl) rfl (c_both_0 g hy T p cs S L hP) ?_
  rintro x0 S0 L0 ⟨⟨b0, y0, n0, F0⟩, hL0⟩
  rw [hL0]
  refine rx_if_ne 10 dX10_readEither_5 (by decide) (fun h5 => ?_) (fun h5 => ?_)
  · obtain ⟨p0, c0, hO0, hP0⟩ := y0 h5
    have hI0 := EithP.of hO0
    have hz0 : 0 < p0 := by have := hI0.1; unfold Sz at this; omega
    refine rx_iconst (0) dX10_readEither_10 (by decide) ?_
    refine rx_istore_2 rfl dX10_readEither_11 ?_
    have loop : ∀ (r i p1 : Nat) (c1 : List TK) (S1 : SS), T.length < p1 + r → i < p1 → EithP T p 0 p1 c1 → PrR y T S1 p1 (cs ++ c1) → PrF y S S1 → Rx g 20 0 0 mX10_readEither SHC.length (fun r sh' S' L' => sh' = SHC ∧ ∃ x, r = some (.int x) ∧ (PQ y T cs (EithOK T p 0) (EithNo T p 0) S x S' ∧ L' = L)) 0 0 12 [some (.ref (11 + 6 * y)), some (.int 0), some (.int (nI i))] [] SHC S1 L := by
      intro r
      induction r with
      | zero =>
        intro i p1 c1 S1 he hi hI hP1 hF1
        exact absurd hI.1.2.1 (by omega)
      | succ r ih =>
        intro i p1 c1 S1 he hi hI hP1 hF1
        refine rx_iload_n dX10_readEither_12 rfl ?_
        refine rx_bipush (100) dX10_readEither_13 (by decide) ?_
        refine rx_icmp_ge 49 dX10_readEither_15 (by decide) (fun h15 => absurd h15 (nI_ge (a := i) (b := 100) (by have := hI.1.2.1; omega) (by omega))) (fun h15 => ?_)
        refine rx_aload_n dX10_readEither_18 rfl ?_
        refine rx_bipush (124) dX10_readEither_19 (by decide) ?_
        refine rx_cVi_1 clX10_57 dX10_readEither_21 (rcvo (syO hy) rfl) rfl (c_skip g hy T p1 (cs ++ c1) 124 S1 L hP1 (by decide)) ?_
        rintro x2 S2 L2 ⟨⟨b2, y2, n2, F2⟩, hL2⟩
        rw [hL2]
        refine rx_if_eq 49 dX10_readEither_24 (by decide) (fun h24 => ?_) (fun h24 => ?_)
        · refine rx_iconst (1) dX10_readEither_49 (by decide) ?_
          exact rx_zret dX10_readEither_50 rfl (by decide) ⟨Nat.le_refl _, Nat.le_refl _⟩ ⟨rfl, _, rfl, ⟨⟨Or.inr rfl, fun _ => ⟨p1, c1, ⟨hI, (n2 h24).1⟩, by rw [(n2 h24).2]; exact hP1⟩, fun q => absurd q (by decide), hF1.trans F2⟩, rfl⟩⟩
        · obtain ⟨hb, hP2⟩ := y2 h24
          refine rx_aload_n dX10_readEither_27 rfl ?_
          refine rx_iload_n dX10_readEither_28 rfl ?_
          refine rx_cVi_1 clX10_113 dX10_readEither_29 (rcvo (syO hy) rfl) rfl (c_both_0 g hy T (p1 + 1) (cs ++ c1) S2 L hP2) ?_
          rintro x3 S3 L3 ⟨⟨b3, y3, n3, F3⟩, hL3⟩
          rw [hL3]
          refine rx_if_ne 37 dX10_readEither_32 (by decide) (fun h32 => ?_) (fun h32 => ?_)
          · obtain ⟨p2, c2, hO, hP3⟩ := y3 h32
            have hI2 := EithP.more hI hb hO
            have hl2 : (cs ++ c1 ++ c2).length + 1 ≤ p2 := by have := hI2.1.2.2; simp only [List.length_append, List.length_singleton] at this ⊢; omega
            refine rx_aload_n dX10_readEither_37 rfl ?_
            refine rx_bipush (-3) dX10_readEither_38 (by decide) ?_
            refine rx_cVv_1 clX10_116 dX10_readEither_40 (rcvo (syO hy) rfl) rfl (c_addCode g hy T p2 (cs ++ c1 ++ c2) (8, 0, 0) S3 L hP3 hl2) ?_
            rintro S4 L4 ⟨⟨hP4, F4⟩, hL4⟩
            rw [hL4]
            rw [show cs ++ c1 ++ c2 ++ [((8, 0, 0) : TK)] = cs ++ (c1 ++ c2 ++ [(8, 0, 0)]) from by simp only [List.append_assoc]] at hP4
            refine rx_iinc_2 (1) rfl dX10_readEither_43 (by decide) ?_
            refine rx_goto 12 dX10_readEither_46 (by decide) ?_
            rw [nI_1]
            exact ih (i + 1) p2 _ S4 (by have := hO.1.1.1; have := hI.1; omega) (by have := hO.1.1.1; have := hI2.1; omega) hI2 hP4 (((hF1.trans F2).trans F3).trans F4)
          · refine rx_iconst (0) dX10_readEither_35 (by decide) ?_
            exact rx_zret dX10_readEither_36 rfl (by decide) ⟨Nat.le_refl _, Nat.le_refl _⟩ ⟨rfl, _, rfl, ⟨⟨Or.inl rfl, fun q => absurd rfl q, fun _ => by obtain ⟨q, a, b⟩ := n3 h32; exact ⟨q, EithP.no hI hb a, b⟩, (hF1.trans F2).trans F3⟩, rfl⟩⟩
    exact loop (T.length + 1) 0 p0 c0 S0 (by omega) (by have := hI0.1; omega) hI0 hP0 F0
  · refine rx_iconst (0) dX10_readEither_8 (by decide) ?_
    exact rx_zret dX10_readEither_9 rfl (by decide) ⟨Nat.le_refl _, Nat.le_refl _⟩ ⟨rfl, _, rfl, ⟨⟨Or.inl rfl, fun q => absurd rfl q, fun _ => by obtain ⟨q, a, b⟩ := n0 h5; exact ⟨q, EithNo.of a, b⟩, F0⟩, rfl⟩⟩
