/-- how far an E is read: je, whether a | waits; pe, where what & joins begins -/
def HeadE (T : List Nat) (p k : Nat) (je : Int32) (pe : Nat) (cE : List TK) : Prop := (je = 0 ∧ pe = p ∧ cE = []) ∨ (¬ je = 0 ∧ ∃ q, pe = q + 1 ∧ EithP T p k q cE ∧ chr T q = 124)
/-- how far what & joins is read: jb, whether a & waits; p1, where the next part begins -/
def HeadB (T : List Nat) (pe k : Nat) (jb : Int32) (p1 : Nat) (cB : List TK) : Prop := (jb = 0 ∧ p1 = pe ∧ cB = []) ∨ (¬ jb = 0 ∧ ∃ q, p1 = q + 1 ∧ BothP T pe k q cB ∧ chr T q = 38)
theorem HeadE.len {T : List Nat} {p k pe : Nat} {je : Int32} {cE : List TK} (h : HeadE T p k je pe cE) : cE.length + p ≤ pe := by
  rcases h with ⟨_, h1, h2⟩ | ⟨_, q, h1, h2, _⟩
  · rw [h1, h2]; exact Nat.le_of_eq (Nat.zero_add p)
  · have := h2.1.2.2; omega
theorem HeadE.zero {T : List Nat} {p k pe p2 : Nat} {je : Int32} {cE c : List TK} (h : HeadE T p k je pe cE) (hj : je = 0) (hO : BothOK T pe k p2 c) : EithP T p k p2 (cE ++ c) := by
  rcases h with ⟨_, h1, h2⟩ | ⟨h0, _⟩
  · rw [h1] at hO; rw [h2, List.nil_append]; exact EithP.of hO
  · exact absurd hj h0
theorem HeadE.one {T : List Nat} {p k pe p2 : Nat} {je : Int32} {cE c : List TK} (h : HeadE T p k je pe cE) (hj : ¬ je = 0) (hO : BothOK T pe k p2 c) : EithP T p k p2 (cE ++ c ++ [(8, 0, 0)]) := by
  rcases h with ⟨h0, _⟩ | ⟨_, q, h1, h2, h3⟩
  · exact absurd h0 hj
  · rw [h1] at hO; exact EithP.more h2 h3 hO
theorem HeadE.no {T : List Nat} {p k pe q : Nat} {je : Int32} {cE : List TK} (h : HeadE T p k je pe cE) (hn : BothNo T pe k q) : EithNo T p k q := by
  rcases h with ⟨_, h1, _⟩ | ⟨_, q', h1, h2, h3⟩
  · rw [h1] at hn; exact EithNo.of hn
  · rw [h1] at hn; exact EithP.no h2 h3 hn
theorem HeadB.zero {T : List Nat} {pe k p1 p2 : Nat} {jb : Int32} {cB c : List TK} (h : HeadB T pe k jb p1 cB) (hj : jb = 0) (hO : PartOK T p1 k p2 c) : BothP T pe k p2 (cB ++ c) := by
  rcases h with ⟨_, h1, h2⟩ | ⟨h0, _⟩
  · rw [h1] at hO; rw [h2, List.nil_append]; exact BothP.of hO
  · exact absurd hj h0
theorem HeadB.one {T : List Nat} {pe k p1 p2 : Nat} {jb : Int32} {cB c : List TK} (h : HeadB T pe k jb p1 cB) (hj : ¬ jb = 0) (hO : PartOK T p1 k p2 c) : BothP T pe k p2 (cB ++ c ++ [(7, 0, 0)]) := by
  rcases h with ⟨h0, _⟩ | ⟨_, q, h1, h2, h3⟩
  · exact absurd h0 hj
  · rw [h1] at hO; exact BothP.more h2 h3 hO
theorem HeadB.no {T : List Nat} {pe k p1 q : Nat} {jb : Int32} {cB : List TK} (h : HeadB T pe k jb p1 cB) (hn : PartNo T p1 k q) : BothNo T pe k q := by
  rcases h with ⟨_, h1, _⟩ | ⟨_, q', h1, h2, h3⟩
  · rw [h1] at hn; exact BothNo.of hn
  · rw [h1] at hn; exact BothP.no h2 h3 hn
set_option maxRecDepth 20000 in
set_option maxHeartbeats 1000000 in
theorem c_part_4 (g : GG) {y : Nat} (hy : y < 7) (T : List Nat) (p : Nat) (cs : List TK)  (S : SS) (L : LL) (hP : PrR y T S p cs) : Ci g 6 mX10_readPart [.ref (11 + 6 * y), .int 4] SHC S L (fun x S' L' => PQ y T cs (PartOK T p 4) (PartNo T p 4) S x S' ∧ L' = L) := by
  obtain ⟨k1, k2, k3, k4, k5, k6, k7, k8, k9⟩ := id hP
  refine ct_of (ls := [some (.ref (11 + 6 * y)), some (.int 4), none]) 1 (by decide +kernel) rfl rfl ?_
  refine rx_aload_n dX10_readPart_0 rfl ?_
  refine rx_aload_n dX10_readPart_1 rfl ?_
  refine rx_getI dX10_readPart_2 flX10_44 (syO hy) rfl ?_
  rw [k4]
  refine rx_cVi_1 clX10_102 dX10_readPart_5 (rcvo (syO hy) rfl) rfl (c_signAt g hy T p S L (by omega) k1 k2 k3) ?_
  refine pur3 ?_
  refine rx_istore_2 rfl dX10_readPart_8 ?_
  refine rx_iload_n dX10_readPart_9 rfl ?_
  refine rx_bipush (33) dX10_readPart_10 (by decide) ?_
  refine rx_icmp_eq 26 dX10_readPart_12 (by decide) (fun h12 => ?_) (fun h12 => ?_)
  · have hb : chr T p = 33 ∨ chr T p = 40 := by first | exact Or.inl h12 | exact Or.inr h18
    refine rx_iload_n dX10_readPart_26 rfl ?_
    refine rx_iconst (4) dX10_readPart_27 (by decide) ?_
    refine rx_icmp_lt 33 dX10_readPart_28 (by decide) (fun h28 => absurd h28 (by decide)) (fun h28 => ?_)
    refine rx_iconst (0) dX10_readPart_31 (by decide) ?_
    exact rx_zret dX10_readPart_32 rfl (by decide) ⟨Nat.le_refl _, Nat.le_refl _⟩ ⟨rfl, _, rfl, ⟨⟨Or.inl rfl, fun q => absurd rfl q, fun _ => ⟨p, PartNo.full hb, k4⟩, PrF.refl⟩, rfl⟩⟩
  · refine rx_iload_n dX10_readPart_15 rfl ?_
    refine rx_bipush (40) dX10_readPart_16 (by decide) ?_
    refine rx_icmp_eq 26 dX10_readPart_18 (by decide) (fun h18 => ?_) (fun h18 => ?_)
    · have hb : chr T p = 33 ∨ chr T p = 40 := by first | exact Or.inl h12 | exact Or.inr h18
      refine rx_iload_n dX10_readPart_26 rfl ?_
      refine rx_iconst (4) dX10_readPart_27 (by decide) ?_
      refine rx_icmp_lt 33 dX10_readPart_28 (by decide) (fun h28 => absurd h28 (by decide)) (fun h28 => ?_)
      refine rx_iconst (0) dX10_readPart_31 (by decide) ?_
      exact rx_zret dX10_readPart_32 rfl (by decide) ⟨Nat.le_refl _, Nat.le_refl _⟩ ⟨rfl, _, rfl, ⟨⟨Or.inl rfl, fun q => absurd rfl q, fun _ => ⟨p, PartNo.full hb, k4⟩, PrF.refl⟩, rfl⟩⟩
    · refine rx_aload_n dX10_readPart_21 rfl ?_
      refine rx_cVi_0 clX10_120 dX10_readPart_22 (rcvo (syO hy) rfl) rfl (c_readTest g hy T p cs S L hP) ?_
      rintro x1 S1 L1 ⟨hq1, hL1⟩
      rw [hL1]
      have hb : ¬ (chr T p = 33 ∨ chr T p = 40) := fun q => q.elim h12 h18
      exact rx_zret dX10_readPart_25 rfl hq1.nar ⟨Nat.le_refl _, Nat.le_refl _⟩ ⟨rfl, _, rfl, ⟨hq1.mono (fun p' c' ⟨t, a1, a2, a3, a4⟩ => by rw [a2] at a3 ⊢; exact PartOK.tst (by decide) hb a1 a3 a4) (fun q a => PartNo.tst hb a k5), rfl⟩⟩
set_option maxRecDepth 20000 in
set_option maxHeartbeats 1000000 in
theorem c_eith_4 (g : GG) {y : Nat} (hy : y < 7) (T : List Nat) (p : Nat) (cs : List TK) (S : SS) (L : LL) (hP : PrR y T S p cs) : Ci g 8 mX10_readEither [.ref (11 + 6 * y), .int 4] SHC S L (fun x S' L' => PQ y T cs (EithOK T p 4) (EithNo T p 4) S x S' ∧ L' = L) := by
  obtain ⟨k1, k2, k3, k4, k5, k6, k7, k8, k9⟩ := id hP
  refine ct_of (ls := [some (.ref (11 + 6 * y)), some (.int 4), none, none, none]) 3 (by decide +kernel) rfl rfl ?_
  refine rx_iconst (0) dX10_readEither_0 (by decide) ?_
  refine rx_istore_2 rfl dX10_readEither_1 ?_
  refine rx_iconst (0) dX10_readEither_2 (by decide) ?_
  refine rx_istore_3 rfl dX10_readEither_3 ?_
  refine rx_iconst (0) dX10_readEither_4 (by decide) ?_
  refine rx_istore_4 rfl dX10_readEither_5 ?_
  have loop : ∀ (r i : Nat) (jb je : Int32) (pe p1 : Nat) (cE cB : List TK) (S1 : SS), T.length < p1 + r → 2 * i ≤ p1 → HeadE T p 4 je pe cE → HeadB T pe 4 jb p1 cB → PrR y T S1 p1 (cs ++ (cE ++ cB)) → PrF y S S1 → Rx g 8 0 0 mX10_readEither SHC.length (fun r sh' S' L' => sh' = SHC ∧ ∃ x, r = some (.int x) ∧ (PQ y T cs (EithOK T p 4) (EithNo T p 4) S x S' ∧ L' = L)) 0 0 7 [some (.ref (11 + 6 * y)), some (.int 4), some (.int jb), some (.int je), some (.int (nI i))] [] SHC S1 L := by
    intro r
    induction r with
    | zero =>
      intro i jb je pe p1 cE cB S1 he hi hE hB hP1 hF1
      exact absurd hP1.2.2.2.2.1 (by omega)
    | succ r ih =>
      intro i jb je pe p1 cE cB S1 he hi hE hB hP1 hF1
      have hle := hP1.2.2.2.2.1
      have t71 : ∀ (jb' je' : Int32) (pe' p' : Nat) (cE' cB' : List TK) (S' : SS), p1 < p' → 2 * (i + 1) ≤ p' → HeadE T p 4 je' pe' cE' → HeadB T pe' 4 jb' p' cB' → PrR y T S' p' (cs ++ (cE' ++ cB')) → PrF y S S' → Rx g 8 0 0 mX10_readEither SHC.length (fun r sh' S' L' => sh' = SHC ∧ ∃ x, r = some (.int x) ∧ (PQ y T cs (EithOK T p 4) (EithNo T p 4) S x S' ∧ L' = L)) 0 0 71 [some (.ref (11 + 6 * y)), some (.int 4), some (.int jb'), some (.int je'), some (.int (nI i))] [] SHC S' L := by
        intro jb' je' pe' p' cE' cB' S' hp' hi' hE' hB' hP' hF'
        refine rx_iinc_4 (1) rfl dX10_readEither_71 (by decide) ?_
        refine rx_goto 7 dX10_readEither_74 (by decide) ?_
        rw [nI_1]
        exact ih (i + 1) _ _ _ _ _ _ S' (by omega) hi' hE' hB' hP' hF'
      have t58 : ∀ (x3 je' : Int32) (p2 : Nat) (c : List TK) (S3 : SS), x3 = 0 → p1 < p2 → EithP T p 4 p2 c → PrR y T S3 p2 (cs ++ c) → PrF y S S3 → Rx g 8 0 0 mX10_readEither SHC.length (fun r sh' S' L' => sh' = SHC ∧ ∃ x, r = some (.int x) ∧ (PQ y T cs (EithOK T p 4) (EithNo T p 4) S x S' ∧ L' = L)) 0 0 58 [some (.ref (11 + 6 * y)), some (.int 4), some (.int x3), some (.int je'), some (.int (nI i))] [] SHC S3 L := by
        intro x3 je' p2 c S3 hx3 hp2 hC hP3 hF3
        refine rx_aload_n dX10_readEither_58 rfl ?_
        refine rx_bipush (124) dX10_readEither_59 (by decide) ?_
        refine rx_cVi_1 clX10_57 dX10_readEither_61 (rcvo (syO hy) rfl) rfl (c_skip g hy T p2 (cs ++ c) 124 S3 L hP3 (by decide)) ?_
        rintro x4 S4 L4 ⟨⟨b4, y4, n4, F4⟩, hL4⟩
        rw [hL4]
        refine rx_istore_3 rfl dX10_readEither_64 ?_
        refine rx_iload_n dX10_readEither_65 rfl ?_
        refine rx_if_ne 71 dX10_readEither_66 (by decide) (fun h66 => ?_) (fun h66 => ?_)
        · obtain ⟨hb, hP4⟩ := y4 h66
          exact t71 x3 x4 (p2 + 1) (p2 + 1) c [] S4 (by omega) (by omega) (Or.inr ⟨h66, p2, rfl, hC, hb⟩) (Or.inl ⟨hx3, rfl, rfl⟩) (by rw [List.append_nil]; exact hP4) (hF3.trans F4)
        · refine rx_iconst (1) dX10_readEither_69 (by decide) ?_
          exact rx_zret dX10_readEither_70 rfl (by decide) ⟨Nat.le_refl _, Nat.le_refl _⟩ ⟨rfl, _, rfl, ⟨⟨Or.inr rfl, fun _ => ⟨p2, c, ⟨hC, (n4 h66).1⟩, by rw [(n4 h66).2]; exact hP3⟩, fun q => absurd q (by decide), hF3.trans F4⟩, rfl⟩⟩
      have t34 : ∀ (p2 : Nat) (c : List TK) (S2 : SS), p1 < p2 → BothP T pe 4 p2 c → PrR y T S2 p2 (cs ++ (cE ++ c)) → PrF y S S2 → Rx g 8 0 0 mX10_readEither SHC.length (fun r sh' S' L' => sh' = SHC ∧ ∃ x, r = some (.int x) ∧ (PQ y T cs (EithOK T p 4) (EithNo T p 4) S x S' ∧ L' = L)) 0 0 34 [some (.ref (11 + 6 * y)), some (.int 4), some (.int jb), some (.int je), some (.int (nI i))] [] SHC S2 L := by
        intro p2 c S2 hp2 hC hP2 hF2
        refine rx_aload_n dX10_readEither_34 rfl ?_
        refine rx_bipush (38) dX10_readEither_35 (by decide) ?_
        refine rx_cVi_1 clX10_57 dX10_readEither_37 (rcvo (syO hy) rfl) rfl (c_skip g hy T p2 (cs ++ (cE ++ c)) 38 S2 L hP2 (by decide)) ?_
        rintro x3 S3 L3 ⟨⟨b3, y3, n3, F3⟩, hL3⟩
        rw [hL3]
        refine rx_istore_2 rfl dX10_readEither_40 ?_
        refine rx_iload_n dX10_readEither_41 rfl ?_
        refine rx_if_eq 48 dX10_readEither_42 (by decide) (fun h42 => ?_) (fun h42 => ?_)
        · obtain ⟨hn, hS3⟩ := n3 h42
          have hO : BothOK T pe 4 p2 c := ⟨hC, hn⟩
          rw [hS3]
          refine rx_iload_n dX10_readEither_48 rfl ?_
          refine rx_if_eq 58 dX10_readEither_49 (by decide) (fun h49 => ?_) (fun h49 => ?_)
          · exact t58 x3 je p2 (cE ++ c) S2 h42 hp2 (hE.zero h49 hO) hP2 hF2
          · have hE2 := hE.one h49 hO
            have hl2 : (cs ++ (cE ++ c)).length + 1 ≤ p2 := by have := hE2.1.2.2; simp only [List.length_append, List.length_singleton] at this ⊢; omega
            refine rx_aload_n dX10_readEither_52 rfl ?_
            refine rx_bipush (-3) dX10_readEither_53 (by decide) ?_
            refine rx_cVv_1 clX10_116 dX10_readEither_55 (rcvo (syO hy) rfl) rfl (c_addCode g hy T p2 (cs ++ (cE ++ c)) (8, 0, 0) S2 L hP2 hl2) ?_
            rintro S4 L4 ⟨⟨hP4, F4⟩, hL4⟩
            rw [hL4]
            rw [List.append_assoc] at hP4
            exact t58 x3 je p2 (cE ++ c ++ [(8, 0, 0)]) S4 h42 hp2 hE2 hP4 (hF2.trans F4)
        · refine rx_goto 71 dX10_readEither_45 (by decide) ?_
          obtain ⟨hb, hP3⟩ := y3 h42
          exact t71 x3 je pe (p2 + 1) cE c S3 (by omega) (by omega) hE (Or.inr ⟨h42, p2, rfl, hC, hb⟩) hP3 (hF2.trans F3)
      refine rx_iload dX10_readEither_7 rfl ?_
      refine rx_bipush (100) dX10_readEither_9 (by decide) ?_
      refine rx_icmp_ge 77 dX10_readEither_11 (by decide) (fun h11 => absurd h11 (nI_ge (a := i) (b := 100) (by omega) (by omega))) (fun h11 => ?_)
      refine rx_aload_n dX10_readEither_14 rfl ?_
      refine rx_iload_n dX10_readEither_15 rfl ?_
      refine rx_cVi_1 clX10_113 dX10_readEither_16 (rcvo (syO hy) rfl) rfl (c_part_4 g hy T p1 (cs ++ (cE ++ cB)) S1 L hP1) ?_
      rintro x2 S2 L2 ⟨⟨b2, y2, n2, F2⟩, hL2⟩
      rw [hL2]
      refine rx_if_ne 24 dX10_readEither_19 (by decide) (fun h19 => ?_) (fun h19 => ?_)
      · obtain ⟨p2, c2, hO, hP2⟩ := y2 h19
        have hpp := hO.1.1
        refine rx_iload_n dX10_readEither_24 rfl ?_
        refine rx_if_eq 34 dX10_readEither_25 (by decide) (fun h25 => ?_) (fun h25 => ?_)
        · exact t34 p2 (cB ++ c2) S2 hpp (hB.zero h25 hO) (by rw [show cs ++ (cE ++ cB) ++ c2 = cs ++ (cE ++ (cB ++ c2)) from by simp only [List.append_assoc]] at hP2; exact hP2) (hF1.trans F2)
        · have hB2 := hB.one h25 hO
          have hl2 : (cs ++ (cE ++ cB) ++ c2).length + 1 ≤ p2 := by have h1 := hB2.1.2.2; have h2 := hE.len; simp only [List.length_append, List.length_singleton] at h1 ⊢; omega
          refine rx_aload_n dX10_readEither_28 rfl ?_
          refine rx_bipush (-2) dX10_readEither_29 (by decide) ?_
          refine rx_cVv_1 clX10_116 dX10_readEither_31 (rcvo (syO hy) rfl) rfl (c_addCode g hy T p2 (cs ++ (cE ++ cB) ++ c2) (7, 0, 0) S2 L hP2 hl2) ?_
          rintro S4 L4 ⟨⟨hP4, F4⟩, hL4⟩
          rw [hL4]
          rw [show cs ++ (cE ++ cB) ++ c2 ++ [((7, 0, 0) : TK)] = cs ++ (cE ++ (cB ++ c2 ++ [(7, 0, 0)])) from by simp only [List.append_assoc]] at hP4
          exact t34 p2 (cB ++ c2 ++ [(7, 0, 0)]) S4 hpp hB2 hP4 ((hF1.trans F2).trans F4)
      · refine rx_iconst (0) dX10_readEither_22 (by decide) ?_
        exact rx_zret dX10_readEither_23 rfl (by decide) ⟨Nat.le_refl _, Nat.le_refl _⟩ ⟨rfl, _, rfl, ⟨⟨Or.inl rfl, fun q => absurd rfl q, fun _ => by obtain ⟨q, a, b⟩ := n2 h19; exact ⟨q, hE.no (hB.no a), b⟩, hF1.trans F2⟩, rfl⟩⟩
  exact loop (T.length + 1) 0 0 0 p p [] [] S (by omega) (by omega) (Or.inl ⟨rfl, rfl, rfl⟩) (Or.inl ⟨rfl, rfl, rfl⟩) (by rw [List.append_nil, List.append_nil]; exact hP) PrF.refl
set_option maxRecDepth 20000 in
set_option maxHeartbeats 1000000 in
theorem c_part_3 (g : GG) {y : Nat} (hy : y < 7) (T : List Nat) (p : Nat) (cs : List TK)  (S : SS) (L : LL) (hP : PrR y T S p cs) : Ci g 9 mX10_readPart [.ref (11 + 6 * y), .int 3] SHC S L (fun x S' L' => PQ y T cs (PartOK T p 3) (PartNo T p 3) S x S' ∧ L' = L) := by
  obtain ⟨k1, k2, k3, k4, k5, k6, k7, k8, k9⟩ := id hP
  refine ct_of (ls := [some (.ref (11 + 6 * y)), some (.int 3), none]) 1 (by decide +kernel) rfl rfl ?_
  refine rx_aload_n dX10_readPart_0 rfl ?_
  refine rx_aload_n dX10_readPart_1 rfl ?_
  refine rx_getI dX10_readPart_2 flX10_44 (syO hy) rfl ?_
  rw [k4]
  refine rx_cVi_1 clX10_102 dX10_readPart_5 (rcvo (syO hy) rfl) rfl (c_signAt g hy T p S L (by omega) k1 k2 k3) ?_
  refine pur3 ?_
  refine rx_istore_2 rfl dX10_readPart_8 ?_
  refine rx_iload_n dX10_readPart_9 rfl ?_
  refine rx_bipush (33) dX10_readPart_10 (by decide) ?_
  refine rx_icmp_eq 26 dX10_readPart_12 (by decide) (fun h12 => ?_) (fun h12 => ?_)
  · have hb : chr T p = 33 ∨ chr T p = 40 := by first | exact Or.inl h12 | exact Or.inr h18
    refine rx_iload_n dX10_readPart_26 rfl ?_
    refine rx_iconst (4) dX10_readPart_27 (by decide) ?_
    refine rx_icmp_lt 33 dX10_readPart_28 (by decide) (fun h28 => ?_) (fun h28 => absurd (by decide) h28)
    have hpl : p < T.length := hb.elim (fun q => chr_in q (by decide)) (fun q => chr_in q (by decide))
    have hP1 := hP.put (p' := p + 1) (by omega) hpl hy
    refine rx_aload_n dX10_readPart_33 rfl ?_
    refine rx_dup dX10_readPart_34 rfl ?_
    refine rx_getI dX10_readPart_35 flX10_44 (syO hy) rfl ?_
    rw [k4]
    refine rx_iconst (1) dX10_readPart_38 (by decide) ?_
    refine rx_iadd dX10_readPart_39 ?_
    rw [nI_1]
    refine rx_putI dX10_readPart_40 flX10_44 (syO hy) rfl ?_
    refine rx_iload_n dX10_readPart_43 rfl ?_
    refine rx_bipush (40) dX10_readPart_44 (by decide) ?_
    refine rx_icmp_ne 74 dX10_readPart_46 (by decide) (fun h46 => ?_) (fun h46 => ?_)
    · have h33 : chr T p = 33 := by first | exact h12 | exact absurd h18 h46
      refine rx_aload_n dX10_readPart_74 rfl ?_
      refine rx_iload_n dX10_readPart_75 rfl ?_
      refine rx_iconst (1) dX10_readPart_76 (by decide) ?_
      refine rx_iadd dX10_readPart_77 ?_
      rw [show ((3 : Int32) + 1) = 4 from by decide]
      refine rx_cVi_1 clX10_113 dX10_readPart_78 (rcvo (syO hy) rfl) rfl (c_part_4 g hy T (p + 1) cs _ L hP1) ?_
      rintro x1 S1 L1 ⟨⟨b1, y1, n1, F1⟩, hL1⟩
      rw [hL1]
      refine rx_if_ne 86 dX10_readPart_81 (by decide) (fun h81 => ?_) (fun h81 => ?_)
      · obtain ⟨p1, c1, hE1, hP2⟩ := y1 h81
        have hl2 : (cs ++ c1).length + 1 ≤ p1 := by have := hE1.1.2.2; rw [List.length_append]; omega
        refine rx_aload_n dX10_readPart_86 rfl ?_
        refine rx_iconst (-1) dX10_readPart_87 (by decide) ?_
        refine rx_cVv_1 clX10_116 dX10_readPart_88 (rcvo (syO hy) rfl) rfl (c_addCode g hy T p1 (cs ++ c1) (6, 0, 0) S1 L hP2 hl2) ?_
        rintro S3 L3 ⟨⟨hP3, F3⟩, hL3⟩
        rw [hL3]
        rw [List.append_assoc] at hP3
        refine rx_iconst (1) dX10_readPart_91 (by decide) ?_
        exact rx_zret dX10_readPart_92 rfl (by decide) ⟨Nat.le_refl _, Nat.le_refl _⟩ ⟨rfl, _, rfl, ⟨⟨Or.inr rfl, fun _ => ⟨p1, _, PartOK.not (by decide) h33 hE1, hP3⟩, fun q => absurd q (by decide), (PrF.put.trans F1).trans F3⟩, rfl⟩⟩
      · refine rx_iconst (0) dX10_readPart_84 (by decide) ?_
        exact rx_zret dX10_readPart_85 rfl (by decide) ⟨Nat.le_refl _, Nat.le_refl _⟩ ⟨rfl, _, rfl, ⟨⟨Or.inl rfl, fun q => absurd rfl q, fun _ => by obtain ⟨q, a, b⟩ := n1 h81; exact ⟨q, PartNo.not (by decide) h33 a, b⟩, PrF.put.trans F1⟩, rfl⟩⟩
    · have h40 : chr T p = 40 := h46
      refine rx_aload_n dX10_readPart_49 rfl ?_
      refine rx_iload_n dX10_readPart_50 rfl ?_
      refine rx_iconst (1) dX10_readPart_51 (by decide) ?_
      refine rx_iadd dX10_readPart_52 ?_
      rw [show ((3 : Int32) + 1) = 4 from by decide]
      refine rx_cVi_1 clX10_68 dX10_readPart_53 (rcvo (syO hy) rfl) rfl (c_eith_4 g hy T (p + 1) cs _ L hP1) ?_
      rintro x1 S1 L1 ⟨⟨b1, y1, n1, F1⟩, hL1⟩
      rw [hL1]
      refine rx_if_eq 72 dX10_readPart_56 (by decide) (fun h56 => ?_) (fun h56 => ?_)
      · refine rx_iconst (0) dX10_readPart_72 (by decide) ?_
        exact rx_zret dX10_readPart_73 rfl (by decide) ⟨Nat.le_refl _, Nat.le_refl _⟩ ⟨rfl, _, rfl, ⟨⟨Or.inl rfl, fun q => absurd rfl q, fun _ => by obtain ⟨q, a, b⟩ := n1 h56; exact ⟨q, PartNo.par (by decide) h40 a, b⟩, PrF.put.trans F1⟩, rfl⟩⟩
      · obtain ⟨p1, c1, hE1, hP2⟩ := y1 h56
        refine rx_aload_n dX10_readPart_59 rfl ?_
        refine rx_bipush (41) dX10_readPart_60 (by decide) ?_
        refine rx_cVi_1 clX10_57 dX10_readPart_62 (rcvo (syO hy) rfl) rfl (c_skip g hy T p1 (cs ++ c1) 41 S1 L hP2 (by decide)) ?_
        rintro x2 S2 L2 ⟨⟨b2, y2, n2, F2⟩, hL2⟩
        rw [hL2]
        refine rx_if_eq 72 dX10_readPart_65 (by decide) (fun h65 => ?_) (fun h65 => ?_)
        · refine rx_iconst (0) dX10_readPart_72 (by decide) ?_
          exact rx_zret dX10_readPart_73 rfl (by decide) ⟨Nat.le_refl _, Nat.le_refl _⟩ ⟨rfl, _, rfl, ⟨⟨Or.inl rfl, fun q => absurd rfl q, fun _ => ⟨p1, PartNo.opn (by decide) h40 hE1 (n2 h65).1, by rw [(n2 h65).2]; exact hP2.2.2.2.1⟩, (PrF.put.trans F1).trans F2⟩, rfl⟩⟩
        · refine rx_iconst (1) dX10_readPart_68 (by decide) ?_
          refine rx_goto 73 dX10_readPart_69 (by decide) ?_
          exact rx_zret dX10_readPart_73 rfl (by decide) ⟨Nat.le_refl _, Nat.le_refl _⟩ ⟨rfl, _, rfl, ⟨⟨Or.inr rfl, fun _ => ⟨p1 + 1, c1, PartOK.par (by decide) h40 hE1 (y2 h65).1, (y2 h65).2⟩, fun q => absurd q (by decide), (PrF.put.trans F1).trans F2⟩, rfl⟩⟩
  · refine rx_iload_n dX10_readPart_15 rfl ?_
    refine rx_bipush (40) dX10_readPart_16 (by decide) ?_
    refine rx_icmp_eq 26 dX10_readPart_18 (by decide) (fun h18 => ?_) (fun h18 => ?_)
    · have hb : chr T p = 33 ∨ chr T p = 40 := by first | exact Or.inl h12 | exact Or.inr h18
      refine rx_iload_n dX10_readPart_26 rfl ?_
      refine rx_iconst (4) dX10_readPart_27 (by decide) ?_
      refine rx_icmp_lt 33 dX10_readPart_28 (by decide) (fun h28 => ?_) (fun h28 => absurd (by decide) h28)
      have hpl : p < T.length := hb.elim (fun q => chr_in q (by decide)) (fun q => chr_in q (by decide))
      have hP1 := hP.put (p' := p + 1) (by omega) hpl hy
      refine rx_aload_n dX10_readPart_33 rfl ?_
      refine rx_dup dX10_readPart_34 rfl ?_
      refine rx_getI dX10_readPart_35 flX10_44 (syO hy) rfl ?_
      rw [k4]
      refine rx_iconst (1) dX10_readPart_38 (by decide) ?_
      refine rx_iadd dX10_readPart_39 ?_
      rw [nI_1]
      refine rx_putI dX10_readPart_40 flX10_44 (syO hy) rfl ?_
      refine rx_iload_n dX10_readPart_43 rfl ?_
      refine rx_bipush (40) dX10_readPart_44 (by decide) ?_
      refine rx_icmp_ne 74 dX10_readPart_46 (by decide) (fun h46 => ?_) (fun h46 => ?_)
      · have h33 : chr T p = 33 := by first | exact h12 | exact absurd h18 h46
        refine rx_aload_n dX10_readPart_74 rfl ?_
        refine rx_iload_n dX10_readPart_75 rfl ?_
        refine rx_iconst (1) dX10_readPart_76 (by decide) ?_
        refine rx_iadd dX10_readPart_77 ?_
        rw [show ((3 : Int32) + 1) = 4 from by decide]
        refine rx_cVi_1 clX10_113 dX10_readPart_78 (rcvo (syO hy) rfl) rfl (c_part_4 g hy T (p + 1) cs _ L hP1) ?_
        rintro x1 S1 L1 ⟨⟨b1, y1, n1, F1⟩, hL1⟩
        rw [hL1]
        refine rx_if_ne 86 dX10_readPart_81 (by decide) (fun h81 => ?_) (fun h81 => ?_)
        · obtain ⟨p1, c1, hE1, hP2⟩ := y1 h81
          have hl2 : (cs ++ c1).length + 1 ≤ p1 := by have := hE1.1.2.2; rw [List.length_append]; omega
          refine rx_aload_n dX10_readPart_86 rfl ?_
          refine rx_iconst (-1) dX10_readPart_87 (by decide) ?_
          refine rx_cVv_1 clX10_116 dX10_readPart_88 (rcvo (syO hy) rfl) rfl (c_addCode g hy T p1 (cs ++ c1) (6, 0, 0) S1 L hP2 hl2) ?_
          rintro S3 L3 ⟨⟨hP3, F3⟩, hL3⟩
          rw [hL3]
          rw [List.append_assoc] at hP3
          refine rx_iconst (1) dX10_readPart_91 (by decide) ?_
          exact rx_zret dX10_readPart_92 rfl (by decide) ⟨Nat.le_refl _, Nat.le_refl _⟩ ⟨rfl, _, rfl, ⟨⟨Or.inr rfl, fun _ => ⟨p1, _, PartOK.not (by decide) h33 hE1, hP3⟩, fun q => absurd q (by decide), (PrF.put.trans F1).trans F3⟩, rfl⟩⟩
        · refine rx_iconst (0) dX10_readPart_84 (by decide) ?_
          exact rx_zret dX10_readPart_85 rfl (by decide) ⟨Nat.le_refl _, Nat.le_refl _⟩ ⟨rfl, _, rfl, ⟨⟨Or.inl rfl, fun q => absurd rfl q, fun _ => by obtain ⟨q, a, b⟩ := n1 h81; exact ⟨q, PartNo.not (by decide) h33 a, b⟩, PrF.put.trans F1⟩, rfl⟩⟩
      · have h40 : chr T p = 40 := h46
        refine rx_aload_n dX10_readPart_49 rfl ?_
        refine rx_iload_n dX10_readPart_50 rfl ?_
        refine rx_iconst (1) dX10_readPart_51 (by decide) ?_
        refine rx_iadd dX10_readPart_52 ?_
        rw [show ((3 : Int32) + 1) = 4 from by decide]
        refine rx_cVi_1 clX10_68 dX10_readPart_53 (rcvo (syO hy) rfl) rfl (c_eith_4 g hy T (p + 1) cs _ L hP1) ?_
        rintro x1 S1 L1 ⟨⟨b1, y1, n1, F1⟩, hL1⟩
        rw [hL1]
        refine rx_if_eq 72 dX10_readPart_56 (by decide) (fun h56 => ?_) (fun h56 => ?_)
        · refine rx_iconst (0) dX10_readPart_72 (by decide) ?_
          exact rx_zret dX10_readPart_73 rfl (by decide) ⟨Nat.le_refl _, Nat.le_refl _⟩ ⟨rfl, _, rfl, ⟨⟨Or.inl rfl, fun q => absurd rfl q, fun _ => by obtain ⟨q, a, b⟩ := n1 h56; exact ⟨q, PartNo.par (by decide) h40 a, b⟩, PrF.put.trans F1⟩, rfl⟩⟩
        · obtain ⟨p1, c1, hE1, hP2⟩ := y1 h56
          refine rx_aload_n dX10_readPart_59 rfl ?_
          refine rx_bipush (41) dX10_readPart_60 (by decide) ?_
          refine rx_cVi_1 clX10_57 dX10_readPart_62 (rcvo (syO hy) rfl) rfl (c_skip g hy T p1 (cs ++ c1) 41 S1 L hP2 (by decide)) ?_
          rintro x2 S2 L2 ⟨⟨b2, y2, n2, F2⟩, hL2⟩
          rw [hL2]
          refine rx_if_eq 72 dX10_readPart_65 (by decide) (fun h65 => ?_) (fun h65 => ?_)
          · refine rx_iconst (0) dX10_readPart_72 (by decide) ?_
            exact rx_zret dX10_readPart_73 rfl (by decide) ⟨Nat.le_refl _, Nat.le_refl _⟩ ⟨rfl, _, rfl, ⟨⟨Or.inl rfl, fun q => absurd rfl q, fun _ => ⟨p1, PartNo.opn (by decide) h40 hE1 (n2 h65).1, by rw [(n2 h65).2]; exact hP2.2.2.2.1⟩, (PrF.put.trans F1).trans F2⟩, rfl⟩⟩
          · refine rx_iconst (1) dX10_readPart_68 (by decide) ?_
            refine rx_goto 73 dX10_readPart_69 (by decide) ?_
            exact rx_zret dX10_readPart_73 rfl (by decide) ⟨Nat.le_refl _, Nat.le_refl _⟩ ⟨rfl, _, rfl, ⟨⟨Or.inr rfl, fun _ => ⟨p1 + 1, c1, PartOK.par (by decide) h40 hE1 (y2 h65).1, (y2 h65).2⟩, fun q => absurd q (by decide), (PrF.put.trans F1).trans F2⟩, rfl⟩⟩
    · refine rx_aload_n dX10_readPart_21 rfl ?_
      refine rx_cVi_0 clX10_120 dX10_readPart_22 (rcvo (syO hy) rfl) rfl (c_readTest g hy T p cs S L hP) ?_
      rintro x1 S1 L1 ⟨hq1, hL1⟩
      rw [hL1]
      have hb : ¬ (chr T p = 33 ∨ chr T p = 40) := fun q => q.elim h12 h18
      exact rx_zret dX10_readPart_25 rfl hq1.nar ⟨Nat.le_refl _, Nat.le_refl _⟩ ⟨rfl, _, rfl, ⟨hq1.mono (fun p' c' ⟨t, a1, a2, a3, a4⟩ => by rw [a2] at a3 ⊢; exact PartOK.tst (by decide) hb a1 a3 a4) (fun q a => PartNo.tst hb a k5), rfl⟩⟩
set_option maxRecDepth 20000 in
set_option maxHeartbeats 1000000 in
theorem c_eith_3 (g : GG) {y : Nat} (hy : y < 7) (T : List Nat) (p : Nat) (cs : List TK) (S : SS) (L : LL) (hP : PrR y T S p cs) : Ci g 11 mX10_readEither [.ref (11 + 6 * y), .int 3] SHC S L (fun x S' L' => PQ y T cs (EithOK T p 3) (EithNo T p 3) S x S' ∧ L' = L) := by
  obtain ⟨k1, k2, k3, k4, k5, k6, k7, k8, k9⟩ := id hP
  refine ct_of (ls := [some (.ref (11 + 6 * y)), some (.int 3), none, none, none]) 3 (by decide +kernel) rfl rfl ?_
  refine rx_iconst (0) dX10_readEither_0 (by decide) ?_
  refine rx_istore_2 rfl dX10_readEither_1 ?_
  refine rx_iconst (0) dX10_readEither_2 (by decide) ?_
  refine rx_istore_3 rfl dX10_readEither_3 ?_
  refine rx_iconst (0) dX10_readEither_4 (by decide) ?_
  refine rx_istore_4 rfl dX10_readEither_5 ?_
  have loop : ∀ (r i : Nat) (jb je : Int32) (pe p1 : Nat) (cE cB : List TK) (S1 : SS), T.length < p1 + r → 2 * i ≤ p1 → HeadE T p 3 je pe cE → HeadB T pe 3 jb p1 cB → PrR y T S1 p1 (cs ++ (cE ++ cB)) → PrF y S S1 → Rx g 11 0 0 mX10_readEither SHC.length (fun r sh' S' L' => sh' = SHC ∧ ∃ x, r = some (.int x) ∧ (PQ y T cs (EithOK T p 3) (EithNo T p 3) S x S' ∧ L' = L)) 0 0 7 [some (.ref (11 + 6 * y)), some (.int 3), some (.int jb), some (.int je), some (.int (nI i))] [] SHC S1 L := by
    intro r
    induction r with
    | zero =>
      intro i jb je pe p1 cE cB S1 he hi hE hB hP1 hF1
      exact absurd hP1.2.2.2.2.1 (by omega)
    | succ r ih =>
      intro i jb je pe p1 cE cB S1 he hi hE hB hP1 hF1
      have hle := hP1.2.2.2.2.1
      have t71 : ∀ (jb' je' : Int32) (pe' p' : Nat) (cE' cB' : List TK) (S' : SS), p1 < p' → 2 * (i + 1) ≤ p' → HeadE T p 3 je' pe' cE' → HeadB T pe' 3 jb' p' cB' → PrR y T S' p' (cs ++ (cE' ++ cB')) → PrF y S S' → Rx g 11 0 0 mX10_readEither SHC.length (fun r sh' S' L' => sh' = SHC ∧ ∃ x, r = some (.int x) ∧ (PQ y T cs (EithOK T p 3) (EithNo T p 3) S x S' ∧ L' = L)) 0 0 71 [some (.ref (11 + 6 * y)), some (.int 3), some (.int jb'), some (.int je'), some (.int (nI i))] [] SHC S' L := by
        intro jb' je' pe' p' cE' cB' S' hp' hi' hE' hB' hP' hF'
        refine rx_iinc_4 (1) rfl dX10_readEither_71 (by decide) ?_
        refine rx_goto 7 dX10_readEither_74 (by decide) ?_
        rw [nI_1]
        exact ih (i + 1) _ _ _ _ _ _ S' (by omega) hi' hE' hB' hP' hF'
      have t58 : ∀ (x3 je' : Int32) (p2 : Nat) (c : List TK) (S3 : SS), x3 = 0 → p1 < p2 → EithP T p 3 p2 c → PrR y T S3 p2 (cs ++ c) → PrF y S S3 → Rx g 11 0 0 mX10_readEither SHC.length (fun r sh' S' L' => sh' = SHC ∧ ∃ x, r = some (.int x) ∧ (PQ y T cs (EithOK T p 3) (EithNo T p 3) S x S' ∧ L' = L)) 0 0 58 [some (.ref (11 + 6 * y)), some (.int 3), some (.int x3), some (.int je'), some (.int (nI i))] [] SHC S3 L := by
        intro x3 je' p2 c S3 hx3 hp2 hC hP3 hF3
        refine rx_aload_n dX10_readEither_58 rfl ?_
        refine rx_bipush (124) dX10_readEither_59 (by decide) ?_
        refine rx_cVi_1 clX10_57 dX10_readEither_61 (rcvo (syO hy) rfl) rfl (c_skip g hy T p2 (cs ++ c) 124 S3 L hP3 (by decide)) ?_
        rintro x4 S4 L4 ⟨⟨b4, y4, n4, F4⟩, hL4⟩
        rw [hL4]
        refine rx_istore_3 rfl dX10_readEither_64 ?_
        refine rx_iload_n dX10_readEither_65 rfl ?_
        refine rx_if_ne 71 dX10_readEither_66 (by decide) (fun h66 => ?_) (fun h66 => ?_)
        · obtain ⟨hb, hP4⟩ := y4 h66
          exact t71 x3 x4 (p2 + 1) (p2 + 1) c [] S4 (by omega) (by omega) (Or.inr ⟨h66, p2, rfl, hC, hb⟩) (Or.inl ⟨hx3, rfl, rfl⟩) (by rw [List.append_nil]; exact hP4) (hF3.trans F4)
        · refine rx_iconst (1) dX10_readEither_69 (by decide) ?_
          exact rx_zret dX10_readEither_70 rfl (by decide) ⟨Nat.le_refl _, Nat.le_refl _⟩ ⟨rfl, _, rfl, ⟨⟨Or.inr rfl, fun _ => ⟨p2, c, ⟨hC, (n4 h66).1⟩, by rw [(n4 h66).2]; exact hP3⟩, fun q => absurd q (by decide), hF3.trans F4⟩, rfl⟩⟩
      have t34 : ∀ (p2 : Nat) (c : List TK) (S2 : SS), p1 < p2 → BothP T pe 3 p2 c → PrR y T S2 p2 (cs ++ (cE ++ c)) → PrF y S S2 → Rx g 11 0 0 mX10_readEither SHC.length (fun r sh' S' L' => sh' = SHC ∧ ∃ x, r = some (.int x) ∧ (PQ y T cs (EithOK T p 3) (EithNo T p 3) S x S' ∧ L' = L)) 0 0 34 [some (.ref (11 + 6 * y)), some (.int 3), some (.int jb), some (.int je), some (.int (nI i))] [] SHC S2 L := by
        intro p2 c S2 hp2 hC hP2 hF2
        refine rx_aload_n dX10_readEither_34 rfl ?_
        refine rx_bipush (38) dX10_readEither_35 (by decide) ?_
        refine rx_cVi_1 clX10_57 dX10_readEither_37 (rcvo (syO hy) rfl) rfl (c_skip g hy T p2 (cs ++ (cE ++ c)) 38 S2 L hP2 (by decide)) ?_
        rintro x3 S3 L3 ⟨⟨b3, y3, n3, F3⟩, hL3⟩
        rw [hL3]
        refine rx_istore_2 rfl dX10_readEither_40 ?_
        refine rx_iload_n dX10_readEither_41 rfl ?_
        refine rx_if_eq 48 dX10_readEither_42 (by decide) (fun h42 => ?_) (fun h42 => ?_)
        · obtain ⟨hn, hS3⟩ := n3 h42
          have hO : BothOK T pe 3 p2 c := ⟨hC, hn⟩
          rw [hS3]
          refine rx_iload_n dX10_readEither_48 rfl ?_
          refine rx_if_eq 58 dX10_readEither_49 (by decide) (fun h49 => ?_) (fun h49 => ?_)
          · exact t58 x3 je p2 (cE ++ c) S2 h42 hp2 (hE.zero h49 hO) hP2 hF2
          · have hE2 := hE.one h49 hO
            have hl2 : (cs ++ (cE ++ c)).length + 1 ≤ p2 := by have := hE2.1.2.2; simp only [List.length_append, List.length_singleton] at this ⊢; omega
            refine rx_aload_n dX10_readEither_52 rfl ?_
            refine rx_bipush (-3) dX10_readEither_53 (by decide) ?_
            refine rx_cVv_1 clX10_116 dX10_readEither_55 (rcvo (syO hy) rfl) rfl (c_addCode g hy T p2 (cs ++ (cE ++ c)) (8, 0, 0) S2 L hP2 hl2) ?_
            rintro S4 L4 ⟨⟨hP4, F4⟩, hL4⟩
            rw [hL4]
            rw [List.append_assoc] at hP4
            exact t58 x3 je p2 (cE ++ c ++ [(8, 0, 0)]) S4 h42 hp2 hE2 hP4 (hF2.trans F4)
        · refine rx_goto 71 dX10_readEither_45 (by decide) ?_
          obtain ⟨hb, hP3⟩ := y3 h42
          exact t71 x3 je pe (p2 + 1) cE c S3 (by omega) (by omega) hE (Or.inr ⟨h42, p2, rfl, hC, hb⟩) hP3 (hF2.trans F3)
      refine rx_iload dX10_readEither_7 rfl ?_
      refine rx_bipush (100) dX10_readEither_9 (by decide) ?_
      refine rx_icmp_ge 77 dX10_readEither_11 (by decide) (fun h11 => absurd h11 (nI_ge (a := i) (b := 100) (by omega) (by omega))) (fun h11 => ?_)
      refine rx_aload_n dX10_readEither_14 rfl ?_
      refine rx_iload_n dX10_readEither_15 rfl ?_
      refine rx_cVi_1 clX10_113 dX10_readEither_16 (rcvo (syO hy) rfl) rfl (c_part_3 g hy T p1 (cs ++ (cE ++ cB)) S1 L hP1) ?_
      rintro x2 S2 L2 ⟨⟨b2, y2, n2, F2⟩, hL2⟩
      rw [hL2]
      refine rx_if_ne 24 dX10_readEither_19 (by decide) (fun h19 => ?_) (fun h19 => ?_)
      · obtain ⟨p2, c2, hO, hP2⟩ := y2 h19
        have hpp := hO.1.1
        refine rx_iload_n dX10_readEither_24 rfl ?_
        refine rx_if_eq 34 dX10_readEither_25 (by decide) (fun h25 => ?_) (fun h25 => ?_)
        · exact t34 p2 (cB ++ c2) S2 hpp (hB.zero h25 hO) (by rw [show cs ++ (cE ++ cB) ++ c2 = cs ++ (cE ++ (cB ++ c2)) from by simp only [List.append_assoc]] at hP2; exact hP2) (hF1.trans F2)
        · have hB2 := hB.one h25 hO
          have hl2 : (cs ++ (cE ++ cB) ++ c2).length + 1 ≤ p2 := by have h1 := hB2.1.2.2; have h2 := hE.len; simp only [List.length_append, List.length_singleton] at h1 ⊢; omega
          refine rx_aload_n dX10_readEither_28 rfl ?_
          refine rx_bipush (-2) dX10_readEither_29 (by decide) ?_
          refine rx_cVv_1 clX10_116 dX10_readEither_31 (rcvo (syO hy) rfl) rfl (c_addCode g hy T p2 (cs ++ (cE ++ cB) ++ c2) (7, 0, 0) S2 L hP2 hl2) ?_
          rintro S4 L4 ⟨⟨hP4, F4⟩, hL4⟩
          rw [hL4]
          rw [show cs ++ (cE ++ cB) ++ c2 ++ [((7, 0, 0) : TK)] = cs ++ (cE ++ (cB ++ c2 ++ [(7, 0, 0)])) from by simp only [List.append_assoc]] at hP4
          exact t34 p2 (cB ++ c2 ++ [(7, 0, 0)]) S4 hpp hB2 hP4 ((hF1.trans F2).trans F4)
      · refine rx_iconst (0) dX10_readEither_22 (by decide) ?_
        exact rx_zret dX10_readEither_23 rfl (by decide) ⟨Nat.le_refl _, Nat.le_refl _⟩ ⟨rfl, _, rfl, ⟨⟨Or.inl rfl, fun q => absurd rfl q, fun _ => by obtain ⟨q, a, b⟩ := n2 h19; exact ⟨q, hE.no (hB.no a), b⟩, hF1.trans F2⟩, rfl⟩⟩
  exact loop (T.length + 1) 0 0 0 p p [] [] S (by omega) (by omega) (Or.inl ⟨rfl, rfl, rfl⟩) (Or.inl ⟨rfl, rfl, rfl⟩) (by rw [List.append_nil, List.append_nil]; exact hP) PrF.refl
set_option maxRecDepth 20000 in
set_option maxHeartbeats 1000000 in
theorem c_part_2 (g : GG) {y : Nat} (hy : y < 7) (T : List Nat) (p : Nat) (cs : List TK)  (S : SS) (L : LL) (hP : PrR y T S p cs) : Ci g 12 mX10_readPart [.ref (11 + 6 * y), .int 2] SHC S L (fun x S' L' => PQ y T cs (PartOK T p 2) (PartNo T p 2) S x S' ∧ L' = L) := by
  obtain ⟨k1, k2, k3, k4, k5, k6, k7, k8, k9⟩ := id hP
  refine ct_of (ls := [some (.ref (11 + 6 * y)), some (.int 2), none]) 1 (by decide +kernel) rfl rfl ?_
  refine rx_aload_n dX10_readPart_0 rfl ?_
  refine rx_aload_n dX10_readPart_1 rfl ?_
  refine rx_getI dX10_readPart_2 flX10_44 (syO hy) rfl ?_
  rw [k4]
  refine rx_cVi_1 clX10_102 dX10_readPart_5 (rcvo (syO hy) rfl) rfl (c_signAt g hy T p S L (by omega) k1 k2 k3) ?_
  refine pur3 ?_
  refine rx_istore_2 rfl dX10_readPart_8 ?_
  refine rx_iload_n dX10_readPart_9 rfl ?_
  refine rx_bipush (33) dX10_readPart_10 (by decide) ?_
  refine rx_icmp_eq 26 dX10_readPart_12 (by decide) (fun h12 => ?_) (fun h12 => ?_)
  · have hb : chr T p = 33 ∨ chr T p = 40 := by first | exact Or.inl h12 | exact Or.inr h18
    refine rx_iload_n dX10_readPart_26 rfl ?_
    refine rx_iconst (4) dX10_readPart_27 (by decide) ?_
    refine rx_icmp_lt 33 dX10_readPart_28 (by decide) (fun h28 => ?_) (fun h28 => absurd (by decide) h28)
    have hpl : p < T.length := hb.elim (fun q => chr_in q (by decide)) (fun q => chr_in q (by decide))
    have hP1 := hP.put (p' := p + 1) (by omega) hpl hy
    refine rx_aload_n dX10_readPart_33 rfl ?_
    refine rx_dup dX10_readPart_34 rfl ?_
    refine rx_getI dX10_readPart_35 flX10_44 (syO hy) rfl ?_
    rw [k4]
    refine rx_iconst (1) dX10_readPart_38 (by decide) ?_
    refine rx_iadd dX10_readPart_39 ?_
    rw [nI_1]
    refine rx_putI dX10_readPart_40 flX10_44 (syO hy) rfl ?_
    refine rx_iload_n dX10_readPart_43 rfl ?_
    refine rx_bipush (40) dX10_readPart_44 (by decide) ?_
    refine rx_icmp_ne 74 dX10_readPart_46 (by decide) (fun h46 => ?_) (fun h46 => ?_)
    · have h33 : chr T p = 33 := by first | exact h12 | exact absurd h18 h46
      refine rx_aload_n dX10_readPart_74 rfl ?_
      refine rx_iload_n dX10_readPart_75 rfl ?_
      refine rx_iconst (1) dX10_readPart_76 (by decide) ?_
      refine rx_iadd dX10_readPart_77 ?_
      rw [show ((2 : Int32) + 1) = 3 from by decide]
      refine rx_cVi_1 clX10_113 dX10_readPart_78 (rcvo (syO hy) rfl) rfl (c_part_3 g hy T (p + 1) cs _ L hP1) ?_
      rintro x1 S1 L1 ⟨⟨b1, y1, n1, F1⟩, hL1⟩
      rw [hL1]
      refine rx_if_ne 86 dX10_readPart_81 (by decide) (fun h81 => ?_) (fun h81 => ?_)
      · obtain ⟨p1, c1, hE1, hP2⟩ := y1 h81
        have hl2 : (cs ++ c1).length + 1 ≤ p1 := by have := hE1.1.2.2; rw [List.length_append]; omega
        refine rx_aload_n dX10_readPart_86 rfl ?_
        refine rx_iconst (-1) dX10_readPart_87 (by decide) ?_
        refine rx_cVv_1 clX10_116 dX10_readPart_88 (rcvo (syO hy) rfl) rfl (c_addCode g hy T p1 (cs ++ c1) (6, 0, 0) S1 L hP2 hl2) ?_
        rintro S3 L3 ⟨⟨hP3, F3⟩, hL3⟩
        rw [hL3]
        rw [List.append_assoc] at hP3
        refine rx_iconst (1) dX10_readPart_91 (by decide) ?_
        exact rx_zret dX10_readPart_92 rfl (by decide) ⟨Nat.le_refl _, Nat.le_refl _⟩ ⟨rfl, _, rfl, ⟨⟨Or.inr rfl, fun _ => ⟨p1, _, PartOK.not (by decide) h33 hE1, hP3⟩, fun q => absurd q (by decide), (PrF.put.trans F1).trans F3⟩, rfl⟩⟩
      · refine rx_iconst (0) dX10_readPart_84 (by decide) ?_
        exact rx_zret dX10_readPart_85 rfl (by decide) ⟨Nat.le_refl _, Nat.le_refl _⟩ ⟨rfl, _, rfl, ⟨⟨Or.inl rfl, fun q => absurd rfl q, fun _ => by obtain ⟨q, a, b⟩ := n1 h81; exact ⟨q, PartNo.not (by decide) h33 a, b⟩, PrF.put.trans F1⟩, rfl⟩⟩
    · have h40 : chr T p = 40 := h46
      refine rx_aload_n dX10_readPart_49 rfl ?_
      refine rx_iload_n dX10_readPart_50 rfl ?_
      refine rx_iconst (1) dX10_readPart_51 (by decide) ?_
      refine rx_iadd dX10_readPart_52 ?_
      rw [show ((2 : Int32) + 1) = 3 from by decide]
      refine rx_cVi_1 clX10_68 dX10_readPart_53 (rcvo (syO hy) rfl) rfl (c_eith_3 g hy T (p + 1) cs _ L hP1) ?_
      rintro x1 S1 L1 ⟨⟨b1, y1, n1, F1⟩, hL1⟩
      rw [hL1]
      refine rx_if_eq 72 dX10_readPart_56 (by decide) (fun h56 => ?_) (fun h56 => ?_)
      · refine rx_iconst (0) dX10_readPart_72 (by decide) ?_
        exact rx_zret dX10_readPart_73 rfl (by decide) ⟨Nat.le_refl _, Nat.le_refl _⟩ ⟨rfl, _, rfl, ⟨⟨Or.inl rfl, fun q => absurd rfl q, fun _ => by obtain ⟨q, a, b⟩ := n1 h56; exact ⟨q, PartNo.par (by decide) h40 a, b⟩, PrF.put.trans F1⟩, rfl⟩⟩
      · obtain ⟨p1, c1, hE1, hP2⟩ := y1 h56
        refine rx_aload_n dX10_readPart_59 rfl ?_
        refine rx_bipush (41) dX10_readPart_60 (by decide) ?_
        refine rx_cVi_1 clX10_57 dX10_readPart_62 (rcvo (syO hy) rfl) rfl (c_skip g hy T p1 (cs ++ c1) 41 S1 L hP2 (by decide)) ?_
        rintro x2 S2 L2 ⟨⟨b2, y2, n2, F2⟩, hL2⟩
        rw [hL2]
        refine rx_if_eq 72 dX10_readPart_65 (by decide) (fun h65 => ?_) (fun h65 => ?_)
        · refine rx_iconst (0) dX10_readPart_72 (by decide) ?_
          exact rx_zret dX10_readPart_73 rfl (by decide) ⟨Nat.le_refl _, Nat.le_refl _⟩ ⟨rfl, _, rfl, ⟨⟨Or.inl rfl, fun q => absurd rfl q, fun _ => ⟨p1, PartNo.opn (by decide) h40 hE1 (n2 h65).1, by rw [(n2 h65).2]; exact hP2.2.2.2.1⟩, (PrF.put.trans F1).trans F2⟩, rfl⟩⟩
        · refine rx_iconst (1) dX10_readPart_68 (by decide) ?_
          refine rx_goto 73 dX10_readPart_69 (by decide) ?_
          exact rx_zret dX10_readPart_73 rfl (by decide) ⟨Nat.le_refl _, Nat.le_refl _⟩ ⟨rfl, _, rfl, ⟨⟨Or.inr rfl, fun _ => ⟨p1 + 1, c1, PartOK.par (by decide) h40 hE1 (y2 h65).1, (y2 h65).2⟩, fun q => absurd q (by decide), (PrF.put.trans F1).trans F2⟩, rfl⟩⟩
  · refine rx_iload_n dX10_readPart_15 rfl ?_
    refine rx_bipush (40) dX10_readPart_16 (by decide) ?_
    refine rx_icmp_eq 26 dX10_readPart_18 (by decide) (fun h18 => ?_) (fun h18 => ?_)
    · have hb : chr T p = 33 ∨ chr T p = 40 := by first | exact Or.inl h12 | exact Or.inr h18
      refine rx_iload_n dX10_readPart_26 rfl ?_
      refine rx_iconst (4) dX10_readPart_27 (by decide) ?_
      refine rx_icmp_lt 33 dX10_readPart_28 (by decide) (fun h28 => ?_) (fun h28 => absurd (by decide) h28)
      have hpl : p < T.length := hb.elim (fun q => chr_in q (by decide)) (fun q => chr_in q (by decide))
      have hP1 := hP.put (p' := p + 1) (by omega) hpl hy
      refine rx_aload_n dX10_readPart_33 rfl ?_
      refine rx_dup dX10_readPart_34 rfl ?_
      refine rx_getI dX10_readPart_35 flX10_44 (syO hy) rfl ?_
      rw [k4]
      refine rx_iconst (1) dX10_readPart_38 (by decide) ?_
      refine rx_iadd dX10_readPart_39 ?_
      rw [nI_1]
      refine rx_putI dX10_readPart_40 flX10_44 (syO hy) rfl ?_
      refine rx_iload_n dX10_readPart_43 rfl ?_
      refine rx_bipush (40) dX10_readPart_44 (by decide) ?_
      refine rx_icmp_ne 74 dX10_readPart_46 (by decide) (fun h46 => ?_) (fun h46 => ?_)
      · have h33 : chr T p = 33 := by first | exact h12 | exact absurd h18 h46
        refine rx_aload_n dX10_readPart_74 rfl ?_
        refine rx_iload_n dX10_readPart_75 rfl ?_
        refine rx_iconst (1) dX10_readPart_76 (by decide) ?_
        refine rx_iadd dX10_readPart_77 ?_
        rw [show ((2 : Int32) + 1) = 3 from by decide]
        refine rx_cVi_1 clX10_113 dX10_readPart_78 (rcvo (syO hy) rfl) rfl (c_part_3 g hy T (p + 1) cs _ L hP1) ?_
        rintro x1 S1 L1 ⟨⟨b1, y1, n1, F1⟩, hL1⟩
        rw [hL1]
        refine rx_if_ne 86 dX10_readPart_81 (by decide) (fun h81 => ?_) (fun h81 => ?_)
        · obtain ⟨p1, c1, hE1, hP2⟩ := y1 h81
          have hl2 : (cs ++ c1).length + 1 ≤ p1 := by have := hE1.1.2.2; rw [List.length_append]; omega
          refine rx_aload_n dX10_readPart_86 rfl ?_
          refine rx_iconst (-1) dX10_readPart_87 (by decide) ?_
          refine rx_cVv_1 clX10_116 dX10_readPart_88 (rcvo (syO hy) rfl) rfl (c_addCode g hy T p1 (cs ++ c1) (6, 0, 0) S1 L hP2 hl2) ?_
          rintro S3 L3 ⟨⟨hP3, F3⟩, hL3⟩
          rw [hL3]
          rw [List.append_assoc] at hP3
          refine rx_iconst (1) dX10_readPart_91 (by decide) ?_
          exact rx_zret dX10_readPart_92 rfl (by decide) ⟨Nat.le_refl _, Nat.le_refl _⟩ ⟨rfl, _, rfl, ⟨⟨Or.inr rfl, fun _ => ⟨p1, _, PartOK.not (by decide) h33 hE1, hP3⟩, fun q => absurd q (by decide), (PrF.put.trans F1).trans F3⟩, rfl⟩⟩
        · refine rx_iconst (0) dX10_readPart_84 (by decide) ?_
          exact rx_zret dX10_readPart_85 rfl (by decide) ⟨Nat.le_refl _, Nat.le_refl _⟩ ⟨rfl, _, rfl, ⟨⟨Or.inl rfl, fun q => absurd rfl q, fun _ => by obtain ⟨q, a, b⟩ := n1 h81; exact ⟨q, PartNo.not (by decide) h33 a, b⟩, PrF.put.trans F1⟩, rfl⟩⟩
      · have h40 : chr T p = 40 := h46
        refine rx_aload_n dX10_readPart_49 rfl ?_
        refine rx_iload_n dX10_readPart_50 rfl ?_
        refine rx_iconst (1) dX10_readPart_51 (by decide) ?_
        refine rx_iadd dX10_readPart_52 ?_
        rw [show ((2 : Int32) + 1) = 3 from by decide]
        refine rx_cVi_1 clX10_68 dX10_readPart_53 (rcvo (syO hy) rfl) rfl (c_eith_3 g hy T (p + 1) cs _ L hP1) ?_
        rintro x1 S1 L1 ⟨⟨b1, y1, n1, F1⟩, hL1⟩
        rw [hL1]
        refine rx_if_eq 72 dX10_readPart_56 (by decide) (fun h56 => ?_) (fun h56 => ?_)
        · refine rx_iconst (0) dX10_readPart_72 (by decide) ?_
          exact rx_zret dX10_readPart_73 rfl (by decide) ⟨Nat.le_refl _, Nat.le_refl _⟩ ⟨rfl, _, rfl, ⟨⟨Or.inl rfl, fun q => absurd rfl q, fun _ => by obtain ⟨q, a, b⟩ := n1 h56; exact ⟨q, PartNo.par (by decide) h40 a, b⟩, PrF.put.trans F1⟩, rfl⟩⟩
        · obtain ⟨p1, c1, hE1, hP2⟩ := y1 h56
          refine rx_aload_n dX10_readPart_59 rfl ?_
          refine rx_bipush (41) dX10_readPart_60 (by decide) ?_
          refine rx_cVi_1 clX10_57 dX10_readPart_62 (rcvo (syO hy) rfl) rfl (c_skip g hy T p1 (cs ++ c1) 41 S1 L hP2 (by decide)) ?_
          rintro x2 S2 L2 ⟨⟨b2, y2, n2, F2⟩, hL2⟩
          rw [hL2]
          refine rx_if_eq 72 dX10_readPart_65 (by decide) (fun h65 => ?_) (fun h65 => ?_)
          · refine rx_iconst (0) dX10_readPart_72 (by decide) ?_
            exact rx_zret dX10_readPart_73 rfl (by decide) ⟨Nat.le_refl _, Nat.le_refl _⟩ ⟨rfl, _, rfl, ⟨⟨Or.inl rfl, fun q => absurd rfl q, fun _ => ⟨p1, PartNo.opn (by decide) h40 hE1 (n2 h65).1, by rw [(n2 h65).2]; exact hP2.2.2.2.1⟩, (PrF.put.trans F1).trans F2⟩, rfl⟩⟩
          · refine rx_iconst (1) dX10_readPart_68 (by decide) ?_
            refine rx_goto 73 dX10_readPart_69 (by decide) ?_
            exact rx_zret dX10_readPart_73 rfl (by decide) ⟨Nat.le_refl _, Nat.le_refl _⟩ ⟨rfl, _, rfl, ⟨⟨Or.inr rfl, fun _ => ⟨p1 + 1, c1, PartOK.par (by decide) h40 hE1 (y2 h65).1, (y2 h65).2⟩, fun q => absurd q (by decide), (PrF.put.trans F1).trans F2⟩, rfl⟩⟩
    · refine rx_aload_n dX10_readPart_21 rfl ?_
      refine rx_cVi_0 clX10_120 dX10_readPart_22 (rcvo (syO hy) rfl) rfl (c_readTest g hy T p cs S L hP) ?_
      rintro x1 S1 L1 ⟨hq1, hL1⟩
      rw [hL1]
      have hb : ¬ (chr T p = 33 ∨ chr T p = 40) := fun q => q.elim h12 h18
      exact rx_zret dX10_readPart_25 rfl hq1.nar ⟨Nat.le_refl _, Nat.le_refl _⟩ ⟨rfl, _, rfl, ⟨hq1.mono (fun p' c' ⟨t, a1, a2, a3, a4⟩ => by rw [a2] at a3 ⊢; exact PartOK.tst (by decide) hb a1 a3 a4) (fun q a => PartNo.tst hb a k5), rfl⟩⟩
set_option maxRecDepth 20000 in
set_option maxHeartbeats 1000000 in
theorem c_eith_2 (g : GG) {y : Nat} (hy : y < 7) (T : List Nat) (p : Nat) (cs : List TK) (S : SS) (L : LL) (hP : PrR y T S p cs) : Ci g 14 mX10_readEither [.ref (11 + 6 * y), .int 2] SHC S L (fun x S' L' => PQ y T cs (EithOK T p 2) (EithNo T p 2) S x S' ∧ L' = L) := by
  obtain ⟨k1, k2, k3, k4, k5, k6, k7, k8, k9⟩ := id hP
  refine ct_of (ls := [some (.ref (11 + 6 * y)), some (.int 2), none, none, none]) 3 (by decide +kernel) rfl rfl ?_
  refine rx_iconst (0) dX10_readEither_0 (by decide) ?_
  refine rx_istore_2 rfl dX10_readEither_1 ?_
  refine rx_iconst (0) dX10_readEither_2 (by decide) ?_
  refine rx_istore_3 rfl dX10_readEither_3 ?_
  refine rx_iconst (0) dX10_readEither_4 (by decide) ?_
  refine rx_istore_4 rfl dX10_readEither_5 ?_
  have loop : ∀ (r i : Nat) (jb je : Int32) (pe p1 : Nat) (cE cB : List TK) (S1 : SS), T.length < p1 + r → 2 * i ≤ p1 → HeadE T p 2 je pe cE → HeadB T pe 2 jb p1 cB → PrR y T S1 p1 (cs ++ (cE ++ cB)) → PrF y S S1 → Rx g 14 0 0 mX10_readEither SHC.length (fun r sh' S' L' => sh' = SHC ∧ ∃ x, r = some (.int x) ∧ (PQ y T cs (EithOK T p 2) (EithNo T p 2) S x S' ∧ L' = L)) 0 0 7 [some (.ref (11 + 6 * y)), some (.int 2), some (.int jb), some (.int je), some (.int (nI i))] [] SHC S1 L := by
    intro r
    induction r with
    | zero =>
      intro i jb je pe p1 cE cB S1 he hi hE hB hP1 hF1
      exact absurd hP1.2.2.2.2.1 (by omega)
    | succ r ih =>
      intro i jb je pe p1 cE cB S1 he hi hE hB hP1 hF1
      have hle := hP1.2.2.2.2.1
      have t71 : ∀ (jb' je' : Int32) (pe' p' : Nat) (cE' cB' : List TK) (S' : SS), p1 < p' → 2 * (i + 1) ≤ p' → HeadE T p 2 je' pe' cE' → HeadB T pe' 2 jb' p' cB' → PrR y T S' p' (cs ++ (cE' ++ cB')) → PrF y S S' → Rx g 14 0 0 mX10_readEither SHC.length (fun r sh' S' L' => sh' = SHC ∧ ∃ x, r = some (.int x) ∧ (PQ y T cs (EithOK T p 2) (EithNo T p 2) S x S' ∧ L' = L)) 0 0 71 [some (.ref (11 + 6 * y)), some (.int 2), some (.int jb'), some (.int je'), some (.int (nI i))] [] SHC S' L := by
        intro jb' je' pe' p' cE' cB' S' hp' hi' hE' hB' hP' hF'
        refine rx_iinc_4 (1) rfl dX10_readEither_71 (by decide) ?_
        refine rx_goto 7 dX10_readEither_74 (by decide) ?_
        rw [nI_1]
        exact ih (i + 1) _ _ _ _ _ _ S' (by omega) hi' hE' hB' hP' hF'
      have t58 : ∀ (x3 je' : Int32) (p2 : Nat) (c : List TK) (S3 : SS), x3 = 0 → p1 < p2 → EithP T p 2 p2 c → PrR y T S3 p2 (cs ++ c) → PrF y S S3 → Rx g 14 0 0 mX10_readEither SHC.length (fun r sh' S' L' => sh' = SHC ∧ ∃ x, r = some (.int x) ∧ (PQ y T cs (EithOK T p 2) (EithNo T p 2) S x S' ∧ L' = L)) 0 0 58 [some (.ref (11 + 6 * y)), some (.int 2), some (.int x3), some (.int je'), some (.int (nI i))] [] SHC S3 L := by
        intro x3 je' p2 c S3 hx3 hp2 hC hP3 hF3
        refine rx_aload_n dX10_readEither_58 rfl ?_
        refine rx_bipush (124) dX10_readEither_59 (by decide) ?_
        refine rx_cVi_1 clX10_57 dX10_readEither_61 (rcvo (syO hy) rfl) rfl (c_skip g hy T p2 (cs ++ c) 124 S3 L hP3 (by decide)) ?_
        rintro x4 S4 L4 ⟨⟨b4, y4, n4, F4⟩, hL4⟩
        rw [hL4]
        refine rx_istore_3 rfl dX10_readEither_64 ?_
        refine rx_iload_n dX10_readEither_65 rfl ?_
        refine rx_if_ne 71 dX10_readEither_66 (by decide) (fun h66 => ?_) (fun h66 => ?_)
        · obtain ⟨hb, hP4⟩ := y4 h66
          exact t71 x3 x4 (p2 + 1) (p2 + 1) c [] S4 (by omega) (by omega) (Or.inr ⟨h66, p2, rfl, hC, hb⟩) (Or.inl ⟨hx3, rfl, rfl⟩) (by rw [List.append_nil]; exact hP4) (hF3.trans F4)
        · refine rx_iconst (1) dX10_readEither_69 (by decide) ?_
          exact rx_zret dX10_readEither_70 rfl (by decide) ⟨Nat.le_refl _, Nat.le_refl _⟩ ⟨rfl, _, rfl, ⟨⟨Or.inr rfl, fun _ => ⟨p2, c, ⟨hC, (n4 h66).1⟩, by rw [(n4 h66).2]; exact hP3⟩, fun q => absurd q (by decide), hF3.trans F4⟩, rfl⟩⟩
      have t34 : ∀ (p2 : Nat) (c : List TK) (S2 : SS), p1 < p2 → BothP T pe 2 p2 c → PrR y T S2 p2 (cs ++ (cE ++ c)) → PrF y S S2 → Rx g 14 0 0 mX10_readEither SHC.length (fun r sh' S' L' => sh' = SHC ∧ ∃ x, r = some (.int x) ∧ (PQ y T cs (EithOK T p 2) (EithNo T p 2) S x S' ∧ L' = L)) 0 0 34 [some (.ref (11 + 6 * y)), some (.int 2), some (.int jb), some (.int je), some (.int (nI i))] [] SHC S2 L := by
        intro p2 c S2 hp2 hC hP2 hF2
        refine rx_aload_n dX10_readEither_34 rfl ?_
        refine rx_bipush (38) dX10_readEither_35 (by decide) ?_
        refine rx_cVi_1 clX10_57 dX10_readEither_37 (rcvo (syO hy) rfl) rfl (c_skip g hy T p2 (cs ++ (cE ++ c)) 38 S2 L hP2 (by decide)) ?_
        rintro x3 S3 L3 ⟨⟨b3, y3, n3, F3⟩, hL3⟩
        rw [hL3]
        refine rx_istore_2 rfl dX10_readEither_40 ?_
        refine rx_iload_n dX10_readEither_41 rfl ?_
        refine rx_if_eq 48 dX10_readEither_42 (by decide) (fun h42 => ?_) (fun h42 => ?_)
        · obtain ⟨hn, hS3⟩ := n3 h42
          have hO : BothOK T pe 2 p2 c := ⟨hC, hn⟩
          rw [hS3]
          refine rx_iload_n dX10_readEither_48 rfl ?_
          refine rx_if_eq 58 dX10_readEither_49 (by decide) (fun h49 => ?_) (fun h49 => ?_)
          · exact t58 x3 je p2 (cE ++ c) S2 h42 hp2 (hE.zero h49 hO) hP2 hF2
          · have hE2 := hE.one h49 hO
            have hl2 : (cs ++ (cE ++ c)).length + 1 ≤ p2 := by have := hE2.1.2.2; simp only [List.length_append, List.length_singleton] at this ⊢; omega
            refine rx_aload_n dX10_readEither_52 rfl ?_
            refine rx_bipush (-3) dX10_readEither_53 (by decide) ?_
            refine rx_cVv_1 clX10_116 dX10_readEither_55 (rcvo (syO hy) rfl) rfl (c_addCode g hy T p2 (cs ++ (cE ++ c)) (8, 0, 0) S2 L hP2 hl2) ?_
            rintro S4 L4 ⟨⟨hP4, F4⟩, hL4⟩
            rw [hL4]
            rw [List.append_assoc] at hP4
            exact t58 x3 je p2 (cE ++ c ++ [(8, 0, 0)]) S4 h42 hp2 hE2 hP4 (hF2.trans F4)
        · refine rx_goto 71 dX10_readEither_45 (by decide) ?_
          obtain ⟨hb, hP3⟩ := y3 h42
          exact t71 x3 je pe (p2 + 1) cE c S3 (by omega) (by omega) hE (Or.inr ⟨h42, p2, rfl, hC, hb⟩) hP3 (hF2.trans F3)
      refine rx_iload dX10_readEither_7 rfl ?_
      refine rx_bipush (100) dX10_readEither_9 (by decide) ?_
      refine rx_icmp_ge 77 dX10_readEither_11 (by decide) (fun h11 => absurd h11 (nI_ge (a := i) (b := 100) (by omega) (by omega))) (fun h11 => ?_)
      refine rx_aload_n dX10_readEither_14 rfl ?_
      refine rx_iload_n dX10_readEither_15 rfl ?_
      refine rx_cVi_1 clX10_113 dX10_readEither_16 (rcvo (syO hy) rfl) rfl (c_part_2 g hy T p1 (cs ++ (cE ++ cB)) S1 L hP1) ?_
      rintro x2 S2 L2 ⟨⟨b2, y2, n2, F2⟩, hL2⟩
      rw [hL2]
      refine rx_if_ne 24 dX10_readEither_19 (by decide) (fun h19 => ?_) (fun h19 => ?_)
      · obtain ⟨p2, c2, hO, hP2⟩ := y2 h19
        have hpp := hO.1.1
        refine rx_iload_n dX10_readEither_24 rfl ?_
        refine rx_if_eq 34 dX10_readEither_25 (by decide) (fun h25 => ?_) (fun h25 => ?_)
        · exact t34 p2 (cB ++ c2) S2 hpp (hB.zero h25 hO) (by rw [show cs ++ (cE ++ cB) ++ c2 = cs ++ (cE ++ (cB ++ c2)) from by simp only [List.append_assoc]] at hP2; exact hP2) (hF1.trans F2)
        · have hB2 := hB.one h25 hO
          have hl2 : (cs ++ (cE ++ cB) ++ c2).length + 1 ≤ p2 := by have h1 := hB2.1.2.2; have h2 := hE.len; simp only [List.length_append, List.length_singleton] at h1 ⊢; omega
          refine rx_aload_n dX10_readEither_28 rfl ?_
          refine rx_bipush (-2) dX10_readEither_29 (by decide) ?_
          refine rx_cVv_1 clX10_116 dX10_readEither_31 (rcvo (syO hy) rfl) rfl (c_addCode g hy T p2 (cs ++ (cE ++ cB) ++ c2) (7, 0, 0) S2 L hP2 hl2) ?_
          rintro S4 L4 ⟨⟨hP4, F4⟩, hL4⟩
          rw [hL4]
          rw [show cs ++ (cE ++ cB) ++ c2 ++ [((7, 0, 0) : TK)] = cs ++ (cE ++ (cB ++ c2 ++ [(7, 0, 0)])) from by simp only [List.append_assoc]] at hP4
          exact t34 p2 (cB ++ c2 ++ [(7, 0, 0)]) S4 hpp hB2 hP4 ((hF1.trans F2).trans F4)
      · refine rx_iconst (0) dX10_readEither_22 (by decide) ?_
        exact rx_zret dX10_readEither_23 rfl (by decide) ⟨Nat.le_refl _, Nat.le_refl _⟩ ⟨rfl, _, rfl, ⟨⟨Or.inl rfl, fun q => absurd rfl q, fun _ => by obtain ⟨q, a, b⟩ := n2 h19; exact ⟨q, hE.no (hB.no a), b⟩, hF1.trans F2⟩, rfl⟩⟩
  exact loop (T.length + 1) 0 0 0 p p [] [] S (by omega) (by omega) (Or.inl ⟨rfl, rfl, rfl⟩) (Or.inl ⟨rfl, rfl, rfl⟩) (by rw [List.append_nil, List.append_nil]; exact hP) PrF.refl
set_option maxRecDepth 20000 in
set_option maxHeartbeats 1000000 in
theorem c_part_1 (g : GG) {y : Nat} (hy : y < 7) (T : List Nat) (p : Nat) (cs : List TK)  (S : SS) (L : LL) (hP : PrR y T S p cs) : Ci g 15 mX10_readPart [.ref (11 + 6 * y), .int 1] SHC S L (fun x S' L' => PQ y T cs (PartOK T p 1) (PartNo T p 1) S x S' ∧ L' = L) := by
  obtain ⟨k1, k2, k3, k4, k5, k6, k7, k8, k9⟩ := id hP
  refine ct_of (ls := [some (.ref (11 + 6 * y)), some (.int 1), none]) 1 (by decide +kernel) rfl rfl ?_
  refine rx_aload_n dX10_readPart_0 rfl ?_
  refine rx_aload_n dX10_readPart_1 rfl ?_
  refine rx_getI dX10_readPart_2 flX10_44 (syO hy) rfl ?_
  rw [k4]
  refine rx_cVi_1 clX10_102 dX10_readPart_5 (rcvo (syO hy) rfl) rfl (c_signAt g hy T p S L (by omega) k1 k2 k3) ?_
  refine pur3 ?_
  refine rx_istore_2 rfl dX10_readPart_8 ?_
  refine rx_iload_n dX10_readPart_9 rfl ?_
  refine rx_bipush (33) dX10_readPart_10 (by decide) ?_
  refine rx_icmp_eq 26 dX10_readPart_12 (by decide) (fun h12 => ?_) (fun h12 => ?_)
  · have hb : chr T p = 33 ∨ chr T p = 40 := by first | exact Or.inl h12 | exact Or.inr h18
    refine rx_iload_n dX10_readPart_26 rfl ?_
    refine rx_iconst (4) dX10_readPart_27 (by decide) ?_
    refine rx_icmp_lt 33 dX10_readPart_28 (by decide) (fun h28 => ?_) (fun h28 => absurd (by decide) h28)
    have hpl : p < T.length := hb.elim (fun q => chr_in q (by decide)) (fun q => chr_in q (by decide))
    have hP1 := hP.put (p' := p + 1) (by omega) hpl hy
    refine rx_aload_n dX10_readPart_33 rfl ?_
    refine rx_dup dX10_readPart_34 rfl ?_
    refine rx_getI dX10_readPart_35 flX10_44 (syO hy) rfl ?_
    rw [k4]
    refine rx_iconst (1) dX10_readPart_38 (by decide) ?_
    refine rx_iadd dX10_readPart_39 ?_
    rw [nI_1]
    refine rx_putI dX10_readPart_40 flX10_44 (syO hy) rfl ?_
    refine rx_iload_n dX10_readPart_43 rfl ?_
    refine rx_bipush (40) dX10_readPart_44 (by decide) ?_
    refine rx_icmp_ne 74 dX10_readPart_46 (by decide) (fun h46 => ?_) (fun h46 => ?_)
    · have h33 : chr T p = 33 := by first | exact h12 | exact absurd h18 h46
      refine rx_aload_n dX10_readPart_74 rfl ?_
      refine rx_iload_n dX10_readPart_75 rfl ?_
      refine rx_iconst (1) dX10_readPart_76 (by decide) ?_
      refine rx_iadd dX10_readPart_77 ?_
      rw [show ((1 : Int32) + 1) = 2 from by decide]
      refine rx_cVi_1 clX10_113 dX10_readPart_78 (rcvo (syO hy) rfl) rfl (c_part_2 g hy T (p + 1) cs _ L hP1) ?_
      rintro x1 S1 L1 ⟨⟨b1, y1, n1, F1⟩, hL1⟩
      rw [hL1]
      refine rx_if_ne 86 dX10_readPart_81 (by decide) (fun h81 => ?_) (fun h81 => ?_)
      · obtain ⟨p1, c1, hE1, hP2⟩ := y1 h81
        have hl2 : (cs ++ c1).length + 1 ≤ p1 := by have := hE1.1.2.2; rw [List.length_append]; omega
        refine rx_aload_n dX10_readPart_86 rfl ?_
        refine rx_iconst (-1) dX10_readPart_87 (by decide) ?_
        refine rx_cVv_1 clX10_116 dX10_readPart_88 (rcvo (syO hy) rfl) rfl (c_addCode g hy T p1 (cs ++ c1) (6, 0, 0) S1 L hP2 hl2) ?_
        rintro S3 L3 ⟨⟨hP3, F3⟩, hL3⟩
        rw [hL3]
        rw [List.append_assoc] at hP3
        refine rx_iconst (1) dX10_readPart_91 (by decide) ?_
        exact rx_zret dX10_readPart_92 rfl (by decide) ⟨Nat.le_refl _, Nat.le_refl _⟩ ⟨rfl, _, rfl, ⟨⟨Or.inr rfl, fun _ => ⟨p1, _, PartOK.not (by decide) h33 hE1, hP3⟩, fun q => absurd q (by decide), (PrF.put.trans F1).trans F3⟩, rfl⟩⟩
      · refine rx_iconst (0) dX10_readPart_84 (by decide) ?_
        exact rx_zret dX10_readPart_85 rfl (by decide) ⟨Nat.le_refl _, Nat.le_refl _⟩ ⟨rfl, _, rfl, ⟨⟨Or.inl rfl, fun q => absurd rfl q, fun _ => by obtain ⟨q, a, b⟩ := n1 h81; exact ⟨q, PartNo.not (by decide) h33 a, b⟩, PrF.put.trans F1⟩, rfl⟩⟩
    · have h40 : chr T p = 40 := h46
      refine rx_aload_n dX10_readPart_49 rfl ?_
      refine rx_iload_n dX10_readPart_50 rfl ?_
      refine rx_iconst (1) dX10_readPart_51 (by decide) ?_
      refine rx_iadd dX10_readPart_52 ?_
      rw [show ((1 : Int32) + 1) = 2 from by decide]
      refine rx_cVi_1 clX10_68 dX10_readPart_53 (rcvo (syO hy) rfl) rfl (c_eith_2 g hy T (p + 1) cs _ L hP1) ?_
      rintro x1 S1 L1 ⟨⟨b1, y1, n1, F1⟩, hL1⟩
      rw [hL1]
      refine rx_if_eq 72 dX10_readPart_56 (by decide) (fun h56 => ?_) (fun h56 => ?_)
      · refine rx_iconst (0) dX10_readPart_72 (by decide) ?_
        exact rx_zret dX10_readPart_73 rfl (by decide) ⟨Nat.le_refl _, Nat.le_refl _⟩ ⟨rfl, _, rfl, ⟨⟨Or.inl rfl, fun q => absurd rfl q, fun _ => by obtain ⟨q, a, b⟩ := n1 h56; exact ⟨q, PartNo.par (by decide) h40 a, b⟩, PrF.put.trans F1⟩, rfl⟩⟩
      · obtain ⟨p1, c1, hE1, hP2⟩ := y1 h56
        refine rx_aload_n dX10_readPart_59 rfl ?_
        refine rx_bipush (41) dX10_readPart_60 (by decide) ?_
        refine rx_cVi_1 clX10_57 dX10_readPart_62 (rcvo (syO hy) rfl) rfl (c_skip g hy T p1 (cs ++ c1) 41 S1 L hP2 (by decide)) ?_
        rintro x2 S2 L2 ⟨⟨b2, y2, n2, F2⟩, hL2⟩
        rw [hL2]
        refine rx_if_eq 72 dX10_readPart_65 (by decide) (fun h65 => ?_) (fun h65 => ?_)
        · refine rx_iconst (0) dX10_readPart_72 (by decide) ?_
          exact rx_zret dX10_readPart_73 rfl (by decide) ⟨Nat.le_refl _, Nat.le_refl _⟩ ⟨rfl, _, rfl, ⟨⟨Or.inl rfl, fun q => absurd rfl q, fun _ => ⟨p1, PartNo.opn (by decide) h40 hE1 (n2 h65).1, by rw [(n2 h65).2]; exact hP2.2.2.2.1⟩, (PrF.put.trans F1).trans F2⟩, rfl⟩⟩
        · refine rx_iconst (1) dX10_readPart_68 (by decide) ?_
          refine rx_goto 73 dX10_readPart_69 (by decide) ?_
          exact rx_zret dX10_readPart_73 rfl (by decide) ⟨Nat.le_refl _, Nat.le_refl _⟩ ⟨rfl, _, rfl, ⟨⟨Or.inr rfl, fun _ => ⟨p1 + 1, c1, PartOK.par (by decide) h40 hE1 (y2 h65).1, (y2 h65).2⟩, fun q => absurd q (by decide), (PrF.put.trans F1).trans F2⟩, rfl⟩⟩
  · refine rx_iload_n dX10_readPart_15 rfl ?_
    refine rx_bipush (40) dX10_readPart_16 (by decide) ?_
    refine rx_icmp_eq 26 dX10_readPart_18 (by decide) (fun h18 => ?_) (fun h18 => ?_)
    · have hb : chr T p = 33 ∨ chr T p = 40 := by first | exact Or.inl h12 | exact Or.inr h18
      refine rx_iload_n dX10_readPart_26 rfl ?_
      refine rx_iconst (4) dX10_readPart_27 (by decide) ?_
      refine rx_icmp_lt 33 dX10_readPart_28 (by decide) (fun h28 => ?_) (fun h28 => absurd (by decide) h28)
      have hpl : p < T.length := hb.elim (fun q => chr_in q (by decide)) (fun q => chr_in q (by decide))
      have hP1 := hP.put (p' := p + 1) (by omega) hpl hy
      refine rx_aload_n dX10_readPart_33 rfl ?_
      refine rx_dup dX10_readPart_34 rfl ?_
      refine rx_getI dX10_readPart_35 flX10_44 (syO hy) rfl ?_
      rw [k4]
      refine rx_iconst (1) dX10_readPart_38 (by decide) ?_
      refine rx_iadd dX10_readPart_39 ?_
      rw [nI_1]
      refine rx_putI dX10_readPart_40 flX10_44 (syO hy) rfl ?_
      refine rx_iload_n dX10_readPart_43 rfl ?_
      refine rx_bipush (40) dX10_readPart_44 (by decide) ?_
      refine rx_icmp_ne 74 dX10_readPart_46 (by decide) (fun h46 => ?_) (fun h46 => ?_)
      · have h33 : chr T p = 33 := by first | exact h12 | exact absurd h18 h46
        refine rx_aload_n dX10_readPart_74 rfl ?_
        refine rx_iload_n dX10_readPart_75 rfl ?_
        refine rx_iconst (1) dX10_readPart_76 (by decide) ?_
        refine rx_iadd dX10_readPart_77 ?_
        rw [show ((1 : Int32) + 1) = 2 from by decide]
        refine rx_cVi_1 clX10_113 dX10_readPart_78 (rcvo (syO hy) rfl) rfl (c_part_2 g hy T (p + 1) cs _ L hP1) ?_
        rintro x1 S1 L1 ⟨⟨b1, y1, n1, F1⟩, hL1⟩
        rw [hL1]
        refine rx_if_ne 86 dX10_readPart_81 (by decide) (fun h81 => ?_) (fun h81 => ?_)
        · obtain ⟨p1, c1, hE1, hP2⟩ := y1 h81
          have hl2 : (cs ++ c1).length + 1 ≤ p1 := by have := hE1.1.2.2; rw [List.length_append]; omega
          refine rx_aload_n dX10_readPart_86 rfl ?_
          refine rx_iconst (-1) dX10_readPart_87 (by decide) ?_
          refine rx_cVv_1 clX10_116 dX10_readPart_88 (rcvo (syO hy) rfl) rfl (c_addCode g hy T p1 (cs ++ c1) (6, 0, 0) S1 L hP2 hl2) ?_
          rintro S3 L3 ⟨⟨hP3, F3⟩, hL3⟩
          rw [hL3]
          rw [List.append_assoc] at hP3
          refine rx_iconst (1) dX10_readPart_91 (by decide) ?_
          exact rx_zret dX10_readPart_92 rfl (by decide) ⟨Nat.le_refl _, Nat.le_refl _⟩ ⟨rfl, _, rfl, ⟨⟨Or.inr rfl, fun _ => ⟨p1, _, PartOK.not (by decide) h33 hE1, hP3⟩, fun q => absurd q (by decide), (PrF.put.trans F1).trans F3⟩, rfl⟩⟩
        · refine rx_iconst (0) dX10_readPart_84 (by decide) ?_
          exact rx_zret dX10_readPart_85 rfl (by decide) ⟨Nat.le_refl _, Nat.le_refl _⟩ ⟨rfl, _, rfl, ⟨⟨Or.inl rfl, fun q => absurd rfl q, fun _ => by obtain ⟨q, a, b⟩ := n1 h81; exact ⟨q, PartNo.not (by decide) h33 a, b⟩, PrF.put.trans F1⟩, rfl⟩⟩
      · have h40 : chr T p = 40 := h46
        refine rx_aload_n dX10_readPart_49 rfl ?_
        refine rx_iload_n dX10_readPart_50 rfl ?_
        refine rx_iconst (1) dX10_readPart_51 (by decide) ?_
        refine rx_iadd dX10_readPart_52 ?_
        rw [show ((1 : Int32) + 1) = 2 from by decide]
        refine rx_cVi_1 clX10_68 dX10_readPart_53 (rcvo (syO hy) rfl) rfl (c_eith_2 g hy T (p + 1) cs _ L hP1) ?_
        rintro x1 S1 L1 ⟨⟨b1, y1, n1, F1⟩, hL1⟩
        rw [hL1]
        refine rx_if_eq 72 dX10_readPart_56 (by decide) (fun h56 => ?_) (fun h56 => ?_)
        · refine rx_iconst (0) dX10_readPart_72 (by decide) ?_
          exact rx_zret dX10_readPart_73 rfl (by decide) ⟨Nat.le_refl _, Nat.le_refl _⟩ ⟨rfl, _, rfl, ⟨⟨Or.inl rfl, fun q => absurd rfl q, fun _ => by obtain ⟨q, a, b⟩ := n1 h56; exact ⟨q, PartNo.par (by decide) h40 a, b⟩, PrF.put.trans F1⟩, rfl⟩⟩
        · obtain ⟨p1, c1, hE1, hP2⟩ := y1 h56
          refine rx_aload_n dX10_readPart_59 rfl ?_
          refine rx_bipush (41) dX10_readPart_60 (by decide) ?_
          refine rx_cVi_1 clX10_57 dX10_readPart_62 (rcvo (syO hy) rfl) rfl (c_skip g hy T p1 (cs ++ c1) 41 S1 L hP2 (by decide)) ?_
          rintro x2 S2 L2 ⟨⟨b2, y2, n2, F2⟩, hL2⟩
          rw [hL2]
          refine rx_if_eq 72 dX10_readPart_65 (by decide) (fun h65 => ?_) (fun h65 => ?_)
          · refine rx_iconst (0) dX10_readPart_72 (by decide) ?_
            exact rx_zret dX10_readPart_73 rfl (by decide) ⟨Nat.le_refl _, Nat.le_refl _⟩ ⟨rfl, _, rfl, ⟨⟨Or.inl rfl, fun q => absurd rfl q, fun _ => ⟨p1, PartNo.opn (by decide) h40 hE1 (n2 h65).1, by rw [(n2 h65).2]; exact hP2.2.2.2.1⟩, (PrF.put.trans F1).trans F2⟩, rfl⟩⟩
          · refine rx_iconst (1) dX10_readPart_68 (by decide) ?_
            refine rx_goto 73 dX10_readPart_69 (by decide) ?_
            exact rx_zret dX10_readPart_73 rfl (by decide) ⟨Nat.le_refl _, Nat.le_refl _⟩ ⟨rfl, _, rfl, ⟨⟨Or.inr rfl, fun _ => ⟨p1 + 1, c1, PartOK.par (by decide) h40 hE1 (y2 h65).1, (y2 h65).2⟩, fun q => absurd q (by decide), (PrF.put.trans F1).trans F2⟩, rfl⟩⟩
    · refine rx_aload_n dX10_readPart_21 rfl ?_
      refine rx_cVi_0 clX10_120 dX10_readPart_22 (rcvo (syO hy) rfl) rfl (c_readTest g hy T p cs S L hP) ?_
      rintro x1 S1 L1 ⟨hq1, hL1⟩
      rw [hL1]
      have hb : ¬ (chr T p = 33 ∨ chr T p = 40) := fun q => q.elim h12 h18
      exact rx_zret dX10_readPart_25 rfl hq1.nar ⟨Nat.le_refl _, Nat.le_refl _⟩ ⟨rfl, _, rfl, ⟨hq1.mono (fun p' c' ⟨t, a1, a2, a3, a4⟩ => by rw [a2] at a3 ⊢; exact PartOK.tst (by decide) hb a1 a3 a4) (fun q a => PartNo.tst hb a k5), rfl⟩⟩
set_option maxRecDepth 20000 in
set_option maxHeartbeats 1000000 in
theorem c_eith_1 (g : GG) {y : Nat} (hy : y < 7) (T : List Nat) (p : Nat) (cs : List TK) (S : SS) (L : LL) (hP : PrR y T S p cs) : Ci g 17 mX10_readEither [.ref (11 + 6 * y), .int 1] SHC S L (fun x S' L' => PQ y T cs (EithOK T p 1) (EithNo T p 1) S x S' ∧ L' = L) := by
  obtain ⟨k1, k2, k3, k4, k5, k6, k7, k8, k9⟩ := id hP
  refine ct_of (ls := [some (.ref (11 + 6 * y)), some (.int 1), none, none, none]) 3 (by decide +kernel) rfl rfl ?_
  refine rx_iconst (0) dX10_readEither_0 (by decide) ?_
  refine rx_istore_2 rfl dX10_readEither_1 ?_
  refine rx_iconst (0) dX10_readEither_2 (by decide) ?_
  refine rx_istore_3 rfl dX10_readEither_3 ?_
  refine rx_iconst (0) dX10_readEither_4 (by decide) ?_
  refine rx_istore_4 rfl dX10_readEither_5 ?_
  have loop : ∀ (r i : Nat) (jb je : Int32) (pe p1 : Nat) (cE cB : List TK) (S1 : SS), T.length < p1 + r → 2 * i ≤ p1 → HeadE T p 1 je pe cE → HeadB T pe 1 jb p1 cB → PrR y T S1 p1 (cs ++ (cE ++ cB)) → PrF y S S1 → Rx g 17 0 0 mX10_readEither SHC.length (fun r sh' S' L' => sh' = SHC ∧ ∃ x, r = some (.int x) ∧ (PQ y T cs (EithOK T p 1) (EithNo T p 1) S x S' ∧ L' = L)) 0 0 7 [some (.ref (11 + 6 * y)), some (.int 1), some (.int jb), some (.int je), some (.int (nI i))] [] SHC S1 L := by
    intro r
    induction r with
    | zero =>
      intro i jb je pe p1 cE cB S1 he hi hE hB hP1 hF1
      exact absurd hP1.2.2.2.2.1 (by omega)
    | succ r ih =>
      intro i jb je pe p1 cE cB S1 he hi hE hB hP1 hF1
      have hle := hP1.2.2.2.2.1
      have t71 : ∀ (jb' je' : Int32) (pe' p' : Nat) (cE' cB' : List TK) (S' : SS), p1 < p' → 2 * (i + 1) ≤ p' → HeadE T p 1 je' pe' cE' → HeadB T pe' 1 jb' p' cB' → PrR y T S' p' (cs ++ (cE' ++ cB')) → PrF y S S' → Rx g 17 0 0 mX10_readEither SHC.length (fun r sh' S' L' => sh' = SHC ∧ ∃ x, r = some (.int x) ∧ (PQ y T cs (EithOK T p 1) (EithNo T p 1) S x S' ∧ L' = L)) 0 0 71 [some (.ref (11 + 6 * y)), some (.int 1), some (.int jb'), some (.int je'), some (.int (nI i))] [] SHC S' L := by
        intro jb' je' pe' p' cE' cB' S' hp' hi' hE' hB' hP' hF'
        refine rx_iinc_4 (1) rfl dX10_readEither_71 (by decide) ?_
        refine rx_goto 7 dX10_readEither_74 (by decide) ?_
        rw [nI_1]
        exact ih (i + 1) _ _ _ _ _ _ S' (by omega) hi' hE' hB' hP' hF'
      have t58 : ∀ (x3 je' : Int32) (p2 : Nat) (c : List TK) (S3 : SS), x3 = 0 → p1 < p2 → EithP T p 1 p2 c → PrR y T S3 p2 (cs ++ c) → PrF y S S3 → Rx g 17 0 0 mX10_readEither SHC.length (fun r sh' S' L' => sh' = SHC ∧ ∃ x, r = some (.int x) ∧ (PQ y T cs (EithOK T p 1) (EithNo T p 1) S x S' ∧ L' = L)) 0 0 58 [some (.ref (11 + 6 * y)), some (.int 1), some (.int x3), some (.int je'), some (.int (nI i))] [] SHC S3 L := by
        intro x3 je' p2 c S3 hx3 hp2 hC hP3 hF3
        refine rx_aload_n dX10_readEither_58 rfl ?_
        refine rx_bipush (124) dX10_readEither_59 (by decide) ?_
        refine rx_cVi_1 clX10_57 dX10_readEither_61 (rcvo (syO hy) rfl) rfl (c_skip g hy T p2 (cs ++ c) 124 S3 L hP3 (by decide)) ?_
        rintro x4 S4 L4 ⟨⟨b4, y4, n4, F4⟩, hL4⟩
        rw [hL4]
        refine rx_istore_3 rfl dX10_readEither_64 ?_
        refine rx_iload_n dX10_readEither_65 rfl ?_
        refine rx_if_ne 71 dX10_readEither_66 (by decide) (fun h66 => ?_) (fun h66 => ?_)
        · obtain ⟨hb, hP4⟩ := y4 h66
          exact t71 x3 x4 (p2 + 1) (p2 + 1) c [] S4 (by omega) (by omega) (Or.inr ⟨h66, p2, rfl, hC, hb⟩) (Or.inl ⟨hx3, rfl, rfl⟩) (by rw [List.append_nil]; exact hP4) (hF3.trans F4)
        · refine rx_iconst (1) dX10_readEither_69 (by decide) ?_
          exact rx_zret dX10_readEither_70 rfl (by decide) ⟨Nat.le_refl _, Nat.le_refl _⟩ ⟨rfl, _, rfl, ⟨⟨Or.inr rfl, fun _ => ⟨p2, c, ⟨hC, (n4 h66).1⟩, by rw [(n4 h66).2]; exact hP3⟩, fun q => absurd q (by decide), hF3.trans F4⟩, rfl⟩⟩
      have t34 : ∀ (p2 : Nat) (c : List TK) (S2 : SS), p1 < p2 → BothP T pe 1 p2 c → PrR y T S2 p2 (cs ++ (cE ++ c)) → PrF y S S2 → Rx g 17 0 0 mX10_readEither SHC.length (fun r sh' S' L' => sh' = SHC ∧ ∃ x, r = some (.int x) ∧ (PQ y T cs (EithOK T p 1) (EithNo T p 1) S x S' ∧ L' = L)) 0 0 34 [some (.ref (11 + 6 * y)), some (.int 1), some (.int jb), some (.int je), some (.int (nI i))] [] SHC S2 L := by
        intro p2 c S2 hp2 hC hP2 hF2
        refine rx_aload_n dX10_readEither_34 rfl ?_
        refine rx_bipush (38) dX10_readEither_35 (by decide) ?_
        refine rx_cVi_1 clX10_57 dX10_readEither_37 (rcvo (syO hy) rfl) rfl (c_skip g hy T p2 (cs ++ (cE ++ c)) 38 S2 L hP2 (by decide)) ?_
        rintro x3 S3 L3 ⟨⟨b3, y3, n3, F3⟩, hL3⟩
        rw [hL3]
        refine rx_istore_2 rfl dX10_readEither_40 ?_
        refine rx_iload_n dX10_readEither_41 rfl ?_
        refine rx_if_eq 48 dX10_readEither_42 (by decide) (fun h42 => ?_) (fun h42 => ?_)
        · obtain ⟨hn, hS3⟩ := n3 h42
          have hO : BothOK T pe 1 p2 c := ⟨hC, hn⟩
          rw [hS3]
          refine rx_iload_n dX10_readEither_48 rfl ?_
          refine rx_if_eq 58 dX10_readEither_49 (by decide) (fun h49 => ?_) (fun h49 => ?_)
          · exact t58 x3 je p2 (cE ++ c) S2 h42 hp2 (hE.zero h49 hO) hP2 hF2
          · have hE2 := hE.one h49 hO
            have hl2 : (cs ++ (cE ++ c)).length + 1 ≤ p2 := by have := hE2.1.2.2; simp only [List.length_append, List.length_singleton] at this ⊢; omega
            refine rx_aload_n dX10_readEither_52 rfl ?_
            refine rx_bipush (-3) dX10_readEither_53 (by decide) ?_
            refine rx_cVv_1 clX10_116 dX10_readEither_55 (rcvo (syO hy) rfl) rfl (c_addCode g hy T p2 (cs ++ (cE ++ c)) (8, 0, 0) S2 L hP2 hl2) ?_
            rintro S4 L4 ⟨⟨hP4, F4⟩, hL4⟩
            rw [hL4]
            rw [List.append_assoc] at hP4
            exact t58 x3 je p2 (cE ++ c ++ [(8, 0, 0)]) S4 h42 hp2 hE2 hP4 (hF2.trans F4)
        · refine rx_goto 71 dX10_readEither_45 (by decide) ?_
          obtain ⟨hb, hP3⟩ := y3 h42
          exact t71 x3 je pe (p2 + 1) cE c S3 (by omega) (by omega) hE (Or.inr ⟨h42, p2, rfl, hC, hb⟩) hP3 (hF2.trans F3)
      refine rx_iload dX10_readEither_7 rfl ?_
      refine rx_bipush (100) dX10_readEither_9 (by decide) ?_
      refine rx_icmp_ge 77 dX10_readEither_11 (by decide) (fun h11 => absurd h11 (nI_ge (a := i) (b := 100) (by omega) (by omega))) (fun h11 => ?_)
      refine rx_aload_n dX10_readEither_14 rfl ?_
      refine rx_iload_n dX10_readEither_15 rfl ?_
      refine rx_cVi_1 clX10_113 dX10_readEither_16 (rcvo (syO hy) rfl) rfl (c_part_1 g hy T p1 (cs ++ (cE ++ cB)) S1 L hP1) ?_
      rintro x2 S2 L2 ⟨⟨b2, y2, n2, F2⟩, hL2⟩
      rw [hL2]
      refine rx_if_ne 24 dX10_readEither_19 (by decide) (fun h19 => ?_) (fun h19 => ?_)
      · obtain ⟨p2, c2, hO, hP2⟩ := y2 h19
        have hpp := hO.1.1
        refine rx_iload_n dX10_readEither_24 rfl ?_
        refine rx_if_eq 34 dX10_readEither_25 (by decide) (fun h25 => ?_) (fun h25 => ?_)
        · exact t34 p2 (cB ++ c2) S2 hpp (hB.zero h25 hO) (by rw [show cs ++ (cE ++ cB) ++ c2 = cs ++ (cE ++ (cB ++ c2)) from by simp only [List.append_assoc]] at hP2; exact hP2) (hF1.trans F2)
        · have hB2 := hB.one h25 hO
          have hl2 : (cs ++ (cE ++ cB) ++ c2).length + 1 ≤ p2 := by have h1 := hB2.1.2.2; have h2 := hE.len; simp only [List.length_append, List.length_singleton] at h1 ⊢; omega
          refine rx_aload_n dX10_readEither_28 rfl ?_
          refine rx_bipush (-2) dX10_readEither_29 (by decide) ?_
          refine rx_cVv_1 clX10_116 dX10_readEither_31 (rcvo (syO hy) rfl) rfl (c_addCode g hy T p2 (cs ++ (cE ++ cB) ++ c2) (7, 0, 0) S2 L hP2 hl2) ?_
          rintro S4 L4 ⟨⟨hP4, F4⟩, hL4⟩
          rw [hL4]
          rw [show cs ++ (cE ++ cB) ++ c2 ++ [((7, 0, 0) : TK)] = cs ++ (cE ++ (cB ++ c2 ++ [(7, 0, 0)])) from by simp only [List.append_assoc]] at hP4
          exact t34 p2 (cB ++ c2 ++ [(7, 0, 0)]) S4 hpp hB2 hP4 ((hF1.trans F2).trans F4)
      · refine rx_iconst (0) dX10_readEither_22 (by decide) ?_
        exact rx_zret dX10_readEither_23 rfl (by decide) ⟨Nat.le_refl _, Nat.le_refl _⟩ ⟨rfl, _, rfl, ⟨⟨Or.inl rfl, fun q => absurd rfl q, fun _ => by obtain ⟨q, a, b⟩ := n2 h19; exact ⟨q, hE.no (hB.no a), b⟩, hF1.trans F2⟩, rfl⟩⟩
  exact loop (T.length + 1) 0 0 0 p p [] [] S (by omega) (by omega) (Or.inl ⟨rfl, rfl, rfl⟩) (Or.inl ⟨rfl, rfl, rfl⟩) (by rw [List.append_nil, List.append_nil]; exact hP) PrF.refl
set_option maxRecDepth 20000 in
set_option maxHeartbeats 1000000 in
theorem c_part_0 (g : GG) {y : Nat} (hy : y < 7) (T : List Nat) (p : Nat) (cs : List TK)  (S : SS) (L : LL) (hP : PrR y T S p cs) : Ci g 18 mX10_readPart [.ref (11 + 6 * y), .int 0] SHC S L (fun x S' L' => PQ y T cs (PartOK T p 0) (PartNo T p 0) S x S' ∧ L' = L) := by
  obtain ⟨k1, k2, k3, k4, k5, k6, k7, k8, k9⟩ := id hP
  refine ct_of (ls := [some (.ref (11 + 6 * y)), some (.int 0), none]) 1 (by decide +kernel) rfl rfl ?_
  refine rx_aload_n dX10_readPart_0 rfl ?_
  refine rx_aload_n dX10_readPart_1 rfl ?_
  refine rx_getI dX10_readPart_2 flX10_44 (syO hy) rfl ?_
  rw [k4]
  refine rx_cVi_1 clX10_102 dX10_readPart_5 (rcvo (syO hy) rfl) rfl (c_signAt g hy T p S L (by omega) k1 k2 k3) ?_
  refine pur3 ?_
  refine rx_istore_2 rfl dX10_readPart_8 ?_
  refine rx_iload_n dX10_readPart_9 rfl ?_
  refine rx_bipush (33) dX10_readPart_10 (by decide) ?_
  refine rx_icmp_eq 26 dX10_readPart_12 (by decide) (fun h12 => ?_) (fun h12 => ?_)
  · have hb : chr T p = 33 ∨ chr T p = 40 := by first | exact Or.inl h12 | exact Or.inr h18
    refine rx_iload_n dX10_readPart_26 rfl ?_
    refine rx_iconst (4) dX10_readPart_27 (by decide) ?_
    refine rx_icmp_lt 33 dX10_readPart_28 (by decide) (fun h28 => ?_) (fun h28 => absurd (by decide) h28)
    have hpl : p < T.length := hb.elim (fun q => chr_in q (by decide)) (fun q => chr_in q (by decide))
    have hP1 := hP.put (p' := p + 1) (by omega) hpl hy
    refine rx_aload_n dX10_readPart_33 rfl ?_
    refine rx_dup dX10_readPart_34 rfl ?_
    refine rx_getI dX10_readPart_35 flX10_44 (syO hy) rfl ?_
    rw [k4]
    refine rx_iconst (1) dX10_readPart_38 (by decide) ?_
    refine rx_iadd dX10_readPart_39 ?_
    rw [nI_1]
    refine rx_putI dX10_readPart_40 flX10_44 (syO hy) rfl ?_
    refine rx_iload_n dX10_readPart_43 rfl ?_
    refine rx_bipush (40) dX10_readPart_44 (by decide) ?_
    refine rx_icmp_ne 74 dX10_readPart_46 (by decide) (fun h46 => ?_) (fun h46 => ?_)
    · have h33 : chr T p = 33 := by first | exact h12 | exact absurd h18 h46
      refine rx_aload_n dX10_readPart_74 rfl ?_
      refine rx_iload_n dX10_readPart_75 rfl ?_
      refine rx_iconst (1) dX10_readPart_76 (by decide) ?_
      refine rx_iadd dX10_readPart_77 ?_
      rw [show ((0 : Int32) + 1) = 1 from by decide]
      refine rx_cVi_1 clX10_113 dX10_readPart_78 (rcvo (syO hy) rfl) rfl (c_part_1 g hy T (p + 1) cs _ L hP1) ?_
      rintro x1 S1 L1 ⟨⟨b1, y1, n1, F1⟩, hL1⟩
      rw [hL1]
      refine rx_if_ne 86 dX10_readPart_81 (by decide) (fun h81 => ?_) (fun h81 => ?_)
      · obtain ⟨p1, c1, hE1, hP2⟩ := y1 h81
        have hl2 : (cs ++ c1).length + 1 ≤ p1 := by have := hE1.1.2.2; rw [List.length_append]; omega
        refine rx_aload_n dX10_readPart_86 rfl ?_
        refine rx_iconst (-1) dX10_readPart_87 (by decide) ?_
        refine rx_cVv_1 clX10_116 dX10_readPart_88 (rcvo (syO hy) rfl) rfl (c_addCode g hy T p1 (cs ++ c1) (6, 0, 0) S1 L hP2 hl2) ?_
        rintro S3 L3 ⟨⟨hP3, F3⟩, hL3⟩
        rw [hL3]
        rw [List.append_assoc] at hP3
        refine rx_iconst (1) dX10_readPart_91 (by decide) ?_
        exact rx_zret dX10_readPart_92 rfl (by decide) ⟨Nat.le_refl _, Nat.le_refl _⟩ ⟨rfl, _, rfl, ⟨⟨Or.inr rfl, fun _ => ⟨p1, _, PartOK.not (by decide) h33 hE1, hP3⟩, fun q => absurd q (by decide), (PrF.put.trans F1).trans F3⟩, rfl⟩⟩
      · refine rx_iconst (0) dX10_readPart_84 (by decide) ?_
        exact rx_zret dX10_readPart_85 rfl (by decide) ⟨Nat.le_refl _, Nat.le_refl _⟩ ⟨rfl, _, rfl, ⟨⟨Or.inl rfl, fun q => absurd rfl q, fun _ => by obtain ⟨q, a, b⟩ := n1 h81; exact ⟨q, PartNo.not (by decide) h33 a, b⟩, PrF.put.trans F1⟩, rfl⟩⟩
    · have h40 : chr T p = 40 := h46
      refine rx_aload_n dX10_readPart_49 rfl ?_
      refine rx_iload_n dX10_readPart_50 rfl ?_
      refine rx_iconst (1) dX10_readPart_51 (by decide) ?_
      refine rx_iadd dX10_readPart_52 ?_
      rw [show ((0 : Int32) + 1) = 1 from by decide]
      refine rx_cVi_1 clX10_68 dX10_readPart_53 (rcvo (syO hy) rfl) rfl (c_eith_1 g hy T (p + 1) cs _ L hP1) ?_
      rintro x1 S1 L1 ⟨⟨b1, y1, n1, F1⟩, hL1⟩
      rw [hL1]
      refine rx_if_eq 72 dX10_readPart_56 (by decide) (fun h56 => ?_) (fun h56 => ?_)
      · refine rx_iconst (0) dX10_readPart_72 (by decide) ?_
        exact rx_zret dX10_readPart_73 rfl (by decide) ⟨Nat.le_refl _, Nat.le_refl _⟩ ⟨rfl, _, rfl, ⟨⟨Or.inl rfl, fun q => absurd rfl q, fun _ => by obtain ⟨q, a, b⟩ := n1 h56; exact ⟨q, PartNo.par (by decide) h40 a, b⟩, PrF.put.trans F1⟩, rfl⟩⟩
      · obtain ⟨p1, c1, hE1, hP2⟩ := y1 h56
        refine rx_aload_n dX10_readPart_59 rfl ?_
        refine rx_bipush (41) dX10_readPart_60 (by decide) ?_
        refine rx_cVi_1 clX10_57 dX10_readPart_62 (rcvo (syO hy) rfl) rfl (c_skip g hy T p1 (cs ++ c1) 41 S1 L hP2 (by decide)) ?_
        rintro x2 S2 L2 ⟨⟨b2, y2, n2, F2⟩, hL2⟩
        rw [hL2]
        refine rx_if_eq 72 dX10_readPart_65 (by decide) (fun h65 => ?_) (fun h65 => ?_)
        · refine rx_iconst (0) dX10_readPart_72 (by decide) ?_
          exact rx_zret dX10_readPart_73 rfl (by decide) ⟨Nat.le_refl _, Nat.le_refl _⟩ ⟨rfl, _, rfl, ⟨⟨Or.inl rfl, fun q => absurd rfl q, fun _ => ⟨p1, PartNo.opn (by decide) h40 hE1 (n2 h65).1, by rw [(n2 h65).2]; exact hP2.2.2.2.1⟩, (PrF.put.trans F1).trans F2⟩, rfl⟩⟩
        · refine rx_iconst (1) dX10_readPart_68 (by decide) ?_
          refine rx_goto 73 dX10_readPart_69 (by decide) ?_
          exact rx_zret dX10_readPart_73 rfl (by decide) ⟨Nat.le_refl _, Nat.le_refl _⟩ ⟨rfl, _, rfl, ⟨⟨Or.inr rfl, fun _ => ⟨p1 + 1, c1, PartOK.par (by decide) h40 hE1 (y2 h65).1, (y2 h65).2⟩, fun q => absurd q (by decide), (PrF.put.trans F1).trans F2⟩, rfl⟩⟩
  · refine rx_iload_n dX10_readPart_15 rfl ?_
    refine rx_bipush (40) dX10_readPart_16 (by decide) ?_
    refine rx_icmp_eq 26 dX10_readPart_18 (by decide) (fun h18 => ?_) (fun h18 => ?_)
    · have hb : chr T p = 33 ∨ chr T p = 40 := by first | exact Or.inl h12 | exact Or.inr h18
      refine rx_iload_n dX10_readPart_26 rfl ?_
      refine rx_iconst (4) dX10_readPart_27 (by decide) ?_
      refine rx_icmp_lt 33 dX10_readPart_28 (by decide) (fun h28 => ?_) (fun h28 => absurd (by decide) h28)
      have hpl : p < T.length := hb.elim (fun q => chr_in q (by decide)) (fun q => chr_in q (by decide))
      have hP1 := hP.put (p' := p + 1) (by omega) hpl hy
      refine rx_aload_n dX10_readPart_33 rfl ?_
      refine rx_dup dX10_readPart_34 rfl ?_
      refine rx_getI dX10_readPart_35 flX10_44 (syO hy) rfl ?_
      rw [k4]
      refine rx_iconst (1) dX10_readPart_38 (by decide) ?_
      refine rx_iadd dX10_readPart_39 ?_
      rw [nI_1]
      refine rx_putI dX10_readPart_40 flX10_44 (syO hy) rfl ?_
      refine rx_iload_n dX10_readPart_43 rfl ?_
      refine rx_bipush (40) dX10_readPart_44 (by decide) ?_
      refine rx_icmp_ne 74 dX10_readPart_46 (by decide) (fun h46 => ?_) (fun h46 => ?_)
      · have h33 : chr T p = 33 := by first | exact h12 | exact absurd h18 h46
        refine rx_aload_n dX10_readPart_74 rfl ?_
        refine rx_iload_n dX10_readPart_75 rfl ?_
        refine rx_iconst (1) dX10_readPart_76 (by decide) ?_
        refine rx_iadd dX10_readPart_77 ?_
        rw [show ((0 : Int32) + 1) = 1 from by decide]
        refine rx_cVi_1 clX10_113 dX10_readPart_78 (rcvo (syO hy) rfl) rfl (c_part_1 g hy T (p + 1) cs _ L hP1) ?_
        rintro x1 S1 L1 ⟨⟨b1, y1, n1, F1⟩, hL1⟩
        rw [hL1]
        refine rx_if_ne 86 dX10_readPart_81 (by decide) (fun h81 => ?_) (fun h81 => ?_)
        · obtain ⟨p1, c1, hE1, hP2⟩ := y1 h81
          have hl2 : (cs ++ c1).length + 1 ≤ p1 := by have := hE1.1.2.2; rw [List.length_append]; omega
          refine rx_aload_n dX10_readPart_86 rfl ?_
          refine rx_iconst (-1) dX10_readPart_87 (by decide) ?_
          refine rx_cVv_1 clX10_116 dX10_readPart_88 (rcvo (syO hy) rfl) rfl (c_addCode g hy T p1 (cs ++ c1) (6, 0, 0) S1 L hP2 hl2) ?_
          rintro S3 L3 ⟨⟨hP3, F3⟩, hL3⟩
          rw [hL3]
          rw [List.append_assoc] at hP3
          refine rx_iconst (1) dX10_readPart_91 (by decide) ?_
          exact rx_zret dX10_readPart_92 rfl (by decide) ⟨Nat.le_refl _, Nat.le_refl _⟩ ⟨rfl, _, rfl, ⟨⟨Or.inr rfl, fun _ => ⟨p1, _, PartOK.not (by decide) h33 hE1, hP3⟩, fun q => absurd q (by decide), (PrF.put.trans F1).trans F3⟩, rfl⟩⟩
        · refine rx_iconst (0) dX10_readPart_84 (by decide) ?_
          exact rx_zret dX10_readPart_85 rfl (by decide) ⟨Nat.le_refl _, Nat.le_refl _⟩ ⟨rfl, _, rfl, ⟨⟨Or.inl rfl, fun q => absurd rfl q, fun _ => by obtain ⟨q, a, b⟩ := n1 h81; exact ⟨q, PartNo.not (by decide) h33 a, b⟩, PrF.put.trans F1⟩, rfl⟩⟩
      · have h40 : chr T p = 40 := h46
        refine rx_aload_n dX10_readPart_49 rfl ?_
        refine rx_iload_n dX10_readPart_50 rfl ?_
        refine rx_iconst (1) dX10_readPart_51 (by decide) ?_
        refine rx_iadd dX10_readPart_52 ?_
        rw [show ((0 : Int32) + 1) = 1 from by decide]
        refine rx_cVi_1 clX10_68 dX10_readPart_53 (rcvo (syO hy) rfl) rfl (c_eith_1 g hy T (p + 1) cs _ L hP1) ?_
        rintro x1 S1 L1 ⟨⟨b1, y1, n1, F1⟩, hL1⟩
        rw [hL1]
        refine rx_if_eq 72 dX10_readPart_56 (by decide) (fun h56 => ?_) (fun h56 => ?_)
        · refine rx_iconst (0) dX10_readPart_72 (by decide) ?_
          exact rx_zret dX10_readPart_73 rfl (by decide) ⟨Nat.le_refl _, Nat.le_refl _⟩ ⟨rfl, _, rfl, ⟨⟨Or.inl rfl, fun q => absurd rfl q, fun _ => by obtain ⟨q, a, b⟩ := n1 h56; exact ⟨q, PartNo.par (by decide) h40 a, b⟩, PrF.put.trans F1⟩, rfl⟩⟩
        · obtain ⟨p1, c1, hE1, hP2⟩ := y1 h56
          refine rx_aload_n dX10_readPart_59 rfl ?_
          refine rx_bipush (41) dX10_readPart_60 (by decide) ?_
          refine rx_cVi_1 clX10_57 dX10_readPart_62 (rcvo (syO hy) rfl) rfl (c_skip g hy T p1 (cs ++ c1) 41 S1 L hP2 (by decide)) ?_
          rintro x2 S2 L2 ⟨⟨b2, y2, n2, F2⟩, hL2⟩
          rw [hL2]
          refine rx_if_eq 72 dX10_readPart_65 (by decide) (fun h65 => ?_) (fun h65 => ?_)
          · refine rx_iconst (0) dX10_readPart_72 (by decide) ?_
            exact rx_zret dX10_readPart_73 rfl (by decide) ⟨Nat.le_refl _, Nat.le_refl _⟩ ⟨rfl, _, rfl, ⟨⟨Or.inl rfl, fun q => absurd rfl q, fun _ => ⟨p1, PartNo.opn (by decide) h40 hE1 (n2 h65).1, by rw [(n2 h65).2]; exact hP2.2.2.2.1⟩, (PrF.put.trans F1).trans F2⟩, rfl⟩⟩
          · refine rx_iconst (1) dX10_readPart_68 (by decide) ?_
            refine rx_goto 73 dX10_readPart_69 (by decide) ?_
            exact rx_zret dX10_readPart_73 rfl (by decide) ⟨Nat.le_refl _, Nat.le_refl _⟩ ⟨rfl, _, rfl, ⟨⟨Or.inr rfl, fun _ => ⟨p1 + 1, c1, PartOK.par (by decide) h40 hE1 (y2 h65).1, (y2 h65).2⟩, fun q => absurd q (by decide), (PrF.put.trans F1).trans F2⟩, rfl⟩⟩
    · refine rx_aload_n dX10_readPart_21 rfl ?_
      refine rx_cVi_0 clX10_120 dX10_readPart_22 (rcvo (syO hy) rfl) rfl (c_readTest g hy T p cs S L hP) ?_
      rintro x1 S1 L1 ⟨hq1, hL1⟩
      rw [hL1]
      have hb : ¬ (chr T p = 33 ∨ chr T p = 40) := fun q => q.elim h12 h18
      exact rx_zret dX10_readPart_25 rfl hq1.nar ⟨Nat.le_refl _, Nat.le_refl _⟩ ⟨rfl, _, rfl, ⟨hq1.mono (fun p' c' ⟨t, a1, a2, a3, a4⟩ => by rw [a2] at a3 ⊢; exact PartOK.tst (by decide) hb a1 a3 a4) (fun q a => PartNo.tst hb a k5), rfl⟩⟩
set_option maxRecDepth 20000 in
set_option maxHeartbeats 1000000 in
theorem c_eith_0 (g : GG) {y : Nat} (hy : y < 7) (T : List Nat) (p : Nat) (cs : List TK) (S : SS) (L : LL) (hP : PrR y T S p cs) : Ci g 20 mX10_readEither [.ref (11 + 6 * y), .int 0] SHC S L (fun x S' L' => PQ y T cs (EithOK T p 0) (EithNo T p 0) S x S' ∧ L' = L) := by
  obtain ⟨k1, k2, k3, k4, k5, k6, k7, k8, k9⟩ := id hP
  refine ct_of (ls := [some (.ref (11 + 6 * y)), some (.int 0), none, none, none]) 3 (by decide +kernel) rfl rfl ?_
  refine rx_iconst (0) dX10_readEither_0 (by decide) ?_
  refine rx_istore_2 rfl dX10_readEither_1 ?_
  refine rx_iconst (0) dX10_readEither_2 (by decide) ?_
  refine rx_istore_3 rfl dX10_readEither_3 ?_
  refine rx_iconst (0) dX10_readEither_4 (by decide) ?_
  refine rx_istore_4 rfl dX10_readEither_5 ?_
  have loop : ∀ (r i : Nat) (jb je : Int32) (pe p1 : Nat) (cE cB : List TK) (S1 : SS), T.length < p1 + r → 2 * i ≤ p1 → HeadE T p 0 je pe cE → HeadB T pe 0 jb p1 cB → PrR y T S1 p1 (cs ++ (cE ++ cB)) → PrF y S S1 → Rx g 20 0 0 mX10_readEither SHC.length (fun r sh' S' L' => sh' = SHC ∧ ∃ x, r = some (.int x) ∧ (PQ y T cs (EithOK T p 0) (EithNo T p 0) S x S' ∧ L' = L)) 0 0 7 [some (.ref (11 + 6 * y)), some (.int 0), some (.int jb), some (.int je), some (.int (nI i))] [] SHC S1 L := by
    intro r
    induction r with
    | zero =>
      intro i jb je pe p1 cE cB S1 he hi hE hB hP1 hF1
      exact absurd hP1.2.2.2.2.1 (by omega)
    | succ r ih =>
      intro i jb je pe p1 cE cB S1 he hi hE hB hP1 hF1
      have hle := hP1.2.2.2.2.1
      have t71 : ∀ (jb' je' : Int32) (pe' p' : Nat) (cE' cB' : List TK) (S' : SS), p1 < p' → 2 * (i + 1) ≤ p' → HeadE T p 0 je' pe' cE' → HeadB T pe' 0 jb' p' cB' → PrR y T S' p' (cs ++ (cE' ++ cB')) → PrF y S S' → Rx g 20 0 0 mX10_readEither SHC.length (fun r sh' S' L' => sh' = SHC ∧ ∃ x, r = some (.int x) ∧ (PQ y T cs (EithOK T p 0) (EithNo T p 0) S x S' ∧ L' = L)) 0 0 71 [some (.ref (11 + 6 * y)), some (.int 0), some (.int jb'), some (.int je'), some (.int (nI i))] [] SHC S' L := by
        intro jb' je' pe' p' cE' cB' S' hp' hi' hE' hB' hP' hF'
        refine rx_iinc_4 (1) rfl dX10_readEither_71 (by decide) ?_
        refine rx_goto 7 dX10_readEither_74 (by decide) ?_
        rw [nI_1]
        exact ih (i + 1) _ _ _ _ _ _ S' (by omega) hi' hE' hB' hP' hF'
      have t58 : ∀ (x3 je' : Int32) (p2 : Nat) (c : List TK) (S3 : SS), x3 = 0 → p1 < p2 → EithP T p 0 p2 c → PrR y T S3 p2 (cs ++ c) → PrF y S S3 → Rx g 20 0 0 mX10_readEither SHC.length (fun r sh' S' L' => sh' = SHC ∧ ∃ x, r = some (.int x) ∧ (PQ y T cs (EithOK T p 0) (EithNo T p 0) S x S' ∧ L' = L)) 0 0 58 [some (.ref (11 + 6 * y)), some (.int 0), some (.int x3), some (.int je'), some (.int (nI i))] [] SHC S3 L := by
        intro x3 je' p2 c S3 hx3 hp2 hC hP3 hF3
        refine rx_aload_n dX10_readEither_58 rfl ?_
        refine rx_bipush (124) dX10_readEither_59 (by decide) ?_
        refine rx_cVi_1 clX10_57 dX10_readEither_61 (rcvo (syO hy) rfl) rfl (c_skip g hy T p2 (cs ++ c) 124 S3 L hP3 (by decide)) ?_
        rintro x4 S4 L4 ⟨⟨b4, y4, n4, F4⟩, hL4⟩
        rw [hL4]
        refine rx_istore_3 rfl dX10_readEither_64 ?_
        refine rx_iload_n dX10_readEither_65 rfl ?_
        refine rx_if_ne 71 dX10_readEither_66 (by decide) (fun h66 => ?_) (fun h66 => ?_)
        · obtain ⟨hb, hP4⟩ := y4 h66
          exact t71 x3 x4 (p2 + 1) (p2 + 1) c [] S4 (by omega) (by omega) (Or.inr ⟨h66, p2, rfl, hC, hb⟩) (Or.inl ⟨hx3, rfl, rfl⟩) (by rw [List.append_nil]; exact hP4) (hF3.trans F4)
        · refine rx_iconst (1) dX10_readEither_69 (by decide) ?_
          exact rx_zret dX10_readEither_70 rfl (by decide) ⟨Nat.le_refl _, Nat.le_refl _⟩ ⟨rfl, _, rfl, ⟨⟨Or.inr rfl, fun _ => ⟨p2, c, ⟨hC, (n4 h66).1⟩, by rw [(n4 h66).2]; exact hP3⟩, fun q => absurd q (by decide), hF3.trans F4⟩, rfl⟩⟩
      have t34 : ∀ (p2 : Nat) (c : List TK) (S2 : SS), p1 < p2 → BothP T pe 0 p2 c → PrR y T S2 p2 (cs ++ (cE ++ c)) → PrF y S S2 → Rx g 20 0 0 mX10_readEither SHC.length (fun r sh' S' L' => sh' = SHC ∧ ∃ x, r = some (.int x) ∧ (PQ y T cs (EithOK T p 0) (EithNo T p 0) S x S' ∧ L' = L)) 0 0 34 [some (.ref (11 + 6 * y)), some (.int 0), some (.int jb), some (.int je), some (.int (nI i))] [] SHC S2 L := by
        intro p2 c S2 hp2 hC hP2 hF2
        refine rx_aload_n dX10_readEither_34 rfl ?_
        refine rx_bipush (38) dX10_readEither_35 (by decide) ?_
        refine rx_cVi_1 clX10_57 dX10_readEither_37 (rcvo (syO hy) rfl) rfl (c_skip g hy T p2 (cs ++ (cE ++ c)) 38 S2 L hP2 (by decide)) ?_
        rintro x3 S3 L3 ⟨⟨b3, y3, n3, F3⟩, hL3⟩
        rw [hL3]
        refine rx_istore_2 rfl dX10_readEither_40 ?_
        refine rx_iload_n dX10_readEither_41 rfl ?_
        refine rx_if_eq 48 dX10_readEither_42 (by decide) (fun h42 => ?_) (fun h42 => ?_)
        · obtain ⟨hn, hS3⟩ := n3 h42
          have hO : BothOK T pe 0 p2 c := ⟨hC, hn⟩
          rw [hS3]
          refine rx_iload_n dX10_readEither_48 rfl ?_
          refine rx_if_eq 58 dX10_readEither_49 (by decide) (fun h49 => ?_) (fun h49 => ?_)
          · exact t58 x3 je p2 (cE ++ c) S2 h42 hp2 (hE.zero h49 hO) hP2 hF2
          · have hE2 := hE.one h49 hO
            have hl2 : (cs ++ (cE ++ c)).length + 1 ≤ p2 := by have := hE2.1.2.2; simp only [List.length_append, List.length_singleton] at this ⊢; omega
            refine rx_aload_n dX10_readEither_52 rfl ?_
            refine rx_bipush (-3) dX10_readEither_53 (by decide) ?_
            refine rx_cVv_1 clX10_116 dX10_readEither_55 (rcvo (syO hy) rfl) rfl (c_addCode g hy T p2 (cs ++ (cE ++ c)) (8, 0, 0) S2 L hP2 hl2) ?_
            rintro S4 L4 ⟨⟨hP4, F4⟩, hL4⟩
            rw [hL4]
            rw [List.append_assoc] at hP4
            exact t58 x3 je p2 (cE ++ c ++ [(8, 0, 0)]) S4 h42 hp2 hE2 hP4 (hF2.trans F4)
        · refine rx_goto 71 dX10_readEither_45 (by decide) ?_
          obtain ⟨hb, hP3⟩ := y3 h42
          exact t71 x3 je pe (p2 + 1) cE c S3 (by omega) (by omega) hE (Or.inr ⟨h42, p2, rfl, hC, hb⟩) hP3 (hF2.trans F3)
      refine rx_iload dX10_readEither_7 rfl ?_
      refine rx_bipush (100) dX10_readEither_9 (by decide) ?_
      refine rx_icmp_ge 77 dX10_readEither_11 (by decide) (fun h11 => absurd h11 (nI_ge (a := i) (b := 100) (by omega) (by omega))) (fun h11 => ?_)
      refine rx_aload_n dX10_readEither_14 rfl ?_
      refine rx_iload_n dX10_readEither_15 rfl ?_
      refine rx_cVi_1 clX10_113 dX10_readEither_16 (rcvo (syO hy) rfl) rfl (c_part_0 g hy T p1 (cs ++ (cE ++ cB)) S1 L hP1) ?_
      rintro x2 S2 L2 ⟨⟨b2, y2, n2, F2⟩, hL2⟩
      rw [hL2]
      refine rx_if_ne 24 dX10_readEither_19 (by decide) (fun h19 => ?_) (fun h19 => ?_)
      · obtain ⟨p2, c2, hO, hP2⟩ := y2 h19
        have hpp := hO.1.1
        refine rx_iload_n dX10_readEither_24 rfl ?_
        refine rx_if_eq 34 dX10_readEither_25 (by decide) (fun h25 => ?_) (fun h25 => ?_)
        · exact t34 p2 (cB ++ c2) S2 hpp (hB.zero h25 hO) (by rw [show cs ++ (cE ++ cB) ++ c2 = cs ++ (cE ++ (cB ++ c2)) from by simp only [List.append_assoc]] at hP2; exact hP2) (hF1.trans F2)
        · have hB2 := hB.one h25 hO
          have hl2 : (cs ++ (cE ++ cB) ++ c2).length + 1 ≤ p2 := by have h1 := hB2.1.2.2; have h2 := hE.len; simp only [List.length_append, List.length_singleton] at h1 ⊢; omega
          refine rx_aload_n dX10_readEither_28 rfl ?_
          refine rx_bipush (-2) dX10_readEither_29 (by decide) ?_
          refine rx_cVv_1 clX10_116 dX10_readEither_31 (rcvo (syO hy) rfl) rfl (c_addCode g hy T p2 (cs ++ (cE ++ cB) ++ c2) (7, 0, 0) S2 L hP2 hl2) ?_
          rintro S4 L4 ⟨⟨hP4, F4⟩, hL4⟩
          rw [hL4]
          rw [show cs ++ (cE ++ cB) ++ c2 ++ [((7, 0, 0) : TK)] = cs ++ (cE ++ (cB ++ c2 ++ [(7, 0, 0)])) from by simp only [List.append_assoc]] at hP4
          exact t34 p2 (cB ++ c2 ++ [(7, 0, 0)]) S4 hpp hB2 hP4 ((hF1.trans F2).trans F4)
      · refine rx_iconst (0) dX10_readEither_22 (by decide) ?_
        exact rx_zret dX10_readEither_23 rfl (by decide) ⟨Nat.le_refl _, Nat.le_refl _⟩ ⟨rfl, _, rfl, ⟨⟨Or.inl rfl, fun q => absurd rfl q, fun _ => by obtain ⟨q, a, b⟩ := n2 h19; exact ⟨q, hE.no (hB.no a), b⟩, hF1.trans F2⟩, rfl⟩⟩
  exact loop (T.length + 1) 0 0 0 p p [] [] S (by omega) (by omega) (Or.inl ⟨rfl, rfl, rfl⟩) (Or.inl ⟨rfl, rfl, rfl⟩) (by rw [List.append_nil, List.append_nil]; exact hP) PrF.refl
