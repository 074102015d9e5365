-- FIRST
def otF (σ : SIG) : Int32 := ((1 <<< (nI (nN σ) &&& 31)) - 1) &&& (dW (gD σ) ^^^ (-1))
def fsU (σ : SIG) : Int32 × DY := untV (gE σ) (otF σ) 61 0 (gD σ)
def fsP (z : Int32) : Nat → Nat → Int32
  | 0, c => nI c
  | r + 1, c => if z &&& (1 <<< (nI c &&& 31)) = 0 then fsP z r (c + 1) else nI c
def aFirst (σ : SIG) : Int32 := if otF σ = 0 ∨ (fsU σ).1 = -5 then -5 else fsP (dW (fsU σ).2 &&& otF σ) (nN σ - 1) 0
theorem ot0 : ((1 <<< (nI 0 &&& 31)) - 1 : Int32) = 0 := by decide +kernel
-- ORDER
def plE (k i : Int32) : Int32 := (k >>> ((2 * (3 - i)) &&& 31)) &&& 3
def plN (k j : Nat) : Nat := k / 4 ^ (3 - j) % 4
theorem plN_lt (k j : Nat) : plN k j < 4 := Nat.mod_lt _ (by decide)
theorem plE_ok : ∀ k, k < 256 → ∀ j, j < 4 → plE (nI k) (nI j) = nI (plN k j) := by decide +kernel
def nepE (k : Nat) : Int32 := ((((0 : Int32) ||| ((1 : Int32) <<< (nI (plN k 0) &&& 31))) ||| ((1 : Int32) <<< (nI (plN k 1) &&& 31))) ||| ((1 : Int32) <<< (nI (plN k 2) &&& 31))) ||| ((1 : Int32) <<< (nI (plN k 3) &&& 31))
def orF (σ : SIG) (k : Nat) : Nat → Int32 := fun i => eC (gE σ) (plN k i)
def orT (σ : SIG) (m k : Nat) : Int32 := popc (dW (itD (setCn (gE σ) (orF σ k)) (seesE σ) (-1) m (gD σ)))
def orStep (σ : SIG) (m k : Nat) (p : Nat × Int32) : Nat × Int32 := if nepE k = 15 ∧ orT σ m k < p.2 then (k, orT σ m k) else p
def orC (σ : SIG) (m : Nat) : Nat → Nat × Int32
  | 0 => (0, 8)
  | k + 1 => orStep σ m k (orC σ m k)
theorem orC_lt (σ : SIG) (m : Nat) : ∀ k, k ≤ 256 → (orC σ m k).1 < 256
  | 0, _ => by
    show (0 : Nat) < 256
    omega
  | k + 1, h => by
    show (orStep σ m k (orC σ m k)).1 < 256
    unfold orStep
    by_cases q : nepE k = 15 ∧ orT σ m k < (orC σ m k).2
    · rw [if_pos q]; show k < 256; omega
    · rw [if_neg q]; exact orC_lt σ m k (by omega)
def aOrder (σ : SIG) (n k : Int32) : Int32 := if ¬ (-1 ≤ k ∧ k ≤ 3) then -1 else if ¬ (1 ≤ n ∧ n ≤ 20) then -2 else if 0 ≤ k then eC (gE σ) (plN (orC σ n.toNatClampNeg 256).1 k.toNatClampNeg) else (orC σ n.toNatClampNeg 256).2
theorem en_orF {σ : SIG} (h : EnOK (gE σ)) (k : Nat) : EnOK (setCn (gE σ) (orF σ k)) := h.setCn _ (fun c _ => h.2.2.2.2.2.1 (plN k c) (plN_lt k c))

set_option maxRecDepth 20000 in
set_option maxHeartbeats 1000000 in
theorem c_everybody (g : GG) {b : Nat} (hb : Sc b) (S : SS) (L : LL) : Ci g 0 mX5_everybody [.ref b] SHC S L (fun r S' L' => r = (1 <<< (S b 6 &&& 31)) - 1 ∧ S' = S ∧ L' = L) := by
  refine ct_of (ls := [some (.ref b)]) 0 (by decide +kernel) rfl rfl ?_
  refine rx_iconst (1) dX5_everybody_0 (by decide) ?_
  refine rx_aload_n dX5_everybody_1 rfl ?_
  refine rx_getI dX5_everybody_2 flX5_58 (scO hb) rfl ?_
  refine rx_ishl dX5_everybody_5 ?_
  refine rx_iconst (1) dX5_everybody_6 (by decide) ?_
  refine rx_isub dX5_everybody_7 ?_
  exact rx_iret dX5_everybody_8 rfl ⟨Nat.le_refl _, Nat.le_refl _⟩ ⟨rfl, _, rfl, ⟨rfl, rfl, rfl⟩⟩
set_option maxRecDepth 20000 in
set_option maxHeartbeats 400000 in
theorem cc_first (g : GG) (σ : SIG) (S : SS) (L : LL) (hr : CRel S L σ) : Ci g 7 mX11_first [.ref 0] SHC S L (fun r S' L' => r = aFirst σ ∧ CRel S' L' σ) := by
  refine ct_of (ls := [some (.ref 0), none, none]) 2 (by decide +kernel) rfl rfl ?_
  refine rx_aload_n dX11_first_0 rfl ?_
  refine rx_getR dX11_first_1 flX11_54 (sC_0) rfl ?_
  refine rx_cVi_0 clX11_193 dX11_first_4 (rcvo (sC_53) rfl) rfl (c_everybody g S53 S L) ?_
  refine pur3 ?_
  refine rx_aload_n dX11_first_7 rfl ?_
  refine rx_getR dX11_first_8 flX11_54 (sC_0) rfl ?_
  refine rx_getI dX11_first_11 flX11_175 (sC_53) rfl ?_
  rw [hr.sc.1, hr.sc.w]
  refine rx_iconst (-1) dX11_first_14 (by decide) ?_
  refine rx_ixor dX11_first_15 ?_
  refine rx_iand dX11_first_16 ?_
  rw [show (((1 <<< (nI (eN (gE σ)) &&& 31)) - 1) &&& (dW (gD σ) ^^^ (-1)) : Int32) = otF σ from rfl]
  refine rx_istore_1 rfl dX11_first_17 ?_
  refine rx_aload_n dX11_first_18 rfl ?_
  refine rx_getR dX11_first_19 flX11_58 (sC_0) rfl ?_
  refine rx_aload_n dX11_first_22 rfl ?_
  refine rx_getR dX11_first_23 flX11_54 (sC_0) rfl ?_
  refine rx_cVv_1 clX11_182 dX11_first_26 (rcvo (sC_66) rfl) rfl (c_copyFrom g S53 S66 (by decide) S L hr.y) ?_
  rintro S1 L1 ⟨hC1, hL1⟩
  rw [hL1]
  have hR1 := hr.sc.copy S53 S66 hC1
  have hr1 := hr.kp (Kp.cp hC1)
  refine rx_iload_n dX11_first_29 rfl ?_
  refine rx_if_eq 50 dX11_first_30 (by decide) (fun h30 => ?_) (fun h30 => ?_)
  · refine rx_bipush (-5) dX11_first_50 (by decide) ?_
    exact rx_iret dX11_first_52 rfl ⟨Nat.le_refl _, Nat.le_refl _⟩ ⟨rfl, _, rfl, ⟨(if_pos (Or.inl h30)).symm, hr1⟩⟩
  · refine rx_aload_n dX11_first_33 rfl ?_
    refine rx_getR dX11_first_34 flX11_69 (sC_0) rfl ?_
    refine rx_aload_n dX11_first_37 rfl ?_
    refine rx_getR dX11_first_38 flX11_58 (sC_0) rfl ?_
    refine rx_iload_n dX11_first_41 rfl ?_
    refine rx_cVi_2 clX11_190 dX11_first_42 (rcvo (sC_92) rfl) rfl (c_untilWall g S66 (gE σ) (gD σ) (otF σ) S1 L hr.en hR1 (by have := hr.t; omega)) ?_
    rintro x2 S2 L2 ⟨hx2, hR2, hF2, hL2⟩
    have hx3 : x2 = (fsU σ).1 := hx2
    rw [hL2, hx3]
    have hr2 := hr.kp ((Kp.cp hC1).trans (Kp.st hF2))
    refine rx_bipush (-5) dX11_first_45 (by decide) ?_
    refine rx_icmp_ne 53 dX11_first_47 (by decide) (fun h47 => ?_) (fun h47 => ?_)
    · refine rx_iconst (0) dX11_first_53 (by decide) ?_
      refine rx_istore_2 rfl dX11_first_54 ?_
      have hU : ¬ (otF σ = 0 ∨ (fsU σ).1 = -5) := by
        rintro (q | q)
        · exact h30 q
        · exact h47 q
      have ha : aFirst σ = fsP (dW (fsU σ).2 &&& otF σ) (nN σ - 1) 0 := if_neg hU
      have hn7 : nN σ ≤ 7 := hr.n7
      have hn1 : 1 ≤ nN σ := by
        rcases Nat.eq_zero_or_pos (nN σ) with q | q
        · exact absurd (by unfold otF; rw [q, ot0, Int32.zero_and]) h30
        · exact q
      have loop : ∀ (r c : Nat), c + r = nN σ - 1 → fsP (dW (fsU σ).2 &&& otF σ) r c = fsP (dW (fsU σ).2 &&& otF σ) (nN σ - 1) 0 → Rx g 7 0 0 mX11_first SHC.length (fun r sh' S' L' => sh' = SHC ∧ ∃ x, r = some (.int x) ∧ (x = aFirst σ ∧ CRel S' L' σ)) 0 0 55 [some (.ref 0), some (.int (otF σ)), some (.int (nI c))] [] SHC S2 L := by
        intro r
        induction r with
        | zero =>
          intro c hc hev
          refine rx_iload_n dX11_first_55 rfl ?_
          refine rx_aload_n dX11_first_56 rfl ?_
          refine rx_getR dX11_first_57 flX11_58 (sC_0) rfl ?_
          refine rx_getI dX11_first_60 flX11_96 (sC_66) rfl ?_
          refine rx_iconst (1) dX11_first_63 (by decide) ?_
          refine rx_isub dX11_first_64 ?_
          refine rx_icmp_ge 90 dX11_first_65 (by decide) (fun h65 => ?_) (fun h65 => absurd (by rw [hR2.1, show nI (eN (gE σ)) - 1 = nI (nN σ - 1) from pk_sub (b := 1) hn1]; exact nI_le (by omega) (by omega)) h65)
          refine rx_iload_n dX11_first_90 rfl ?_
          exact rx_iret dX11_first_91 rfl ⟨Nat.le_refl _, Nat.le_refl _⟩ ⟨rfl, _, rfl, ⟨by rw [ha, ← hev]; rfl, hr2⟩⟩
        | succ r ih =>
          intro c hc hev
          refine rx_iload_n dX11_first_55 rfl ?_
          refine rx_aload_n dX11_first_56 rfl ?_
          refine rx_getR dX11_first_57 flX11_58 (sC_0) rfl ?_
          refine rx_getI dX11_first_60 flX11_96 (sC_66) rfl ?_
          refine rx_iconst (1) dX11_first_63 (by decide) ?_
          refine rx_isub dX11_first_64 ?_
          refine rx_icmp_ge 90 dX11_first_65 (by decide) (fun h65 => absurd h65 (by rw [hR2.1, show nI (eN (gE σ)) - 1 = nI (nN σ - 1) from pk_sub (b := 1) hn1]; exact nI_ge (by omega) (by omega))) (fun h65 => ?_)
          refine rx_aload_n dX11_first_68 rfl ?_
          refine rx_getR dX11_first_69 flX11_58 (sC_0) rfl ?_
          refine rx_getI dX11_first_72 flX11_175 (sC_66) rfl ?_
          refine rx_iload_n dX11_first_75 rfl ?_
          rw [hR2.w]
          refine rx_iand dX11_first_76 ?_
          refine rx_iconst (1) dX11_first_77 (by decide) ?_
          refine rx_iload_n dX11_first_78 rfl ?_
          refine rx_ishl dX11_first_79 ?_
          refine rx_iand dX11_first_80 ?_
          refine rx_if_ne 90 dX11_first_81 (by decide) (fun h81 => ?_) (fun h81 => ?_)
          · refine rx_iload_n dX11_first_90 rfl ?_
            exact rx_iret dX11_first_91 rfl ⟨Nat.le_refl _, Nat.le_refl _⟩ ⟨rfl, _, rfl, ⟨by rw [ha, ← hev]; exact (if_neg h81).symm, hr2⟩⟩
          · refine rx_iinc_2 (1) rfl dX11_first_84 (by decide) ?_
            refine rx_goto 55 dX11_first_87 (by decide) ?_
            rw [nI_1]
            exact ih (c + 1) (by omega) (by rw [← hev]; exact (if_pos h81).symm)
      exact loop (nN σ - 1) 0 (by omega) rfl
    · refine rx_bipush (-5) dX11_first_50 (by decide) ?_
      exact rx_iret dX11_first_52 rfl ⟨Nat.le_refl _, Nat.le_refl _⟩ ⟨rfl, _, rfl, ⟨(if_pos (Or.inr h47)).symm, hr2⟩⟩
set_option maxRecDepth 20000 in
set_option maxHeartbeats 1000000 in
theorem c_placeIn (g : GG) {sh : List CS} (k i : Int32) (S : SS) (L : LL) : Ci g 0 mX11_placeIn [.int k, .int i] sh S L (fun r S' L' => r = plE k i ∧ S' = S ∧ L' = L) := by
  refine ct_of (ls := [some (.int k), some (.int i)]) 0 (by decide +kernel) rfl rfl ?_
  refine rx_iload_n dX11_placeIn_0 rfl ?_
  refine rx_iconst (2) dX11_placeIn_1 (by decide) ?_
  refine rx_iconst (3) dX11_placeIn_2 (by decide) ?_
  refine rx_iload_n dX11_placeIn_3 rfl ?_
  refine rx_isub dX11_placeIn_4 ?_
  refine rx_imul dX11_placeIn_5 ?_
  refine rx_ishr dX11_placeIn_6 ?_
  refine rx_iconst (3) dX11_placeIn_7 (by decide) ?_
  refine rx_iand dX11_placeIn_8 ?_
  exact rx_iret dX11_placeIn_9 rfl ⟨Nat.le_refl _, Nat.le_refl _⟩ ⟨rfl, _, rfl, ⟨rfl, rfl, rfl⟩⟩
set_option maxRecDepth 20000 in
set_option maxHeartbeats 1000000 in
theorem c_namesEachPlace (g : GG) {sh : List CS} (k : Nat) (S : SS) (L : LL) (hk : k < 256) : Ci g 1 mX11_namesEachPlace [.int (nI k)] sh S L (fun r S' L' => r = b2i (nepE k = 15) ∧ S' = S ∧ L' = L) := by
  have pl0 : plE (nI k) 0 = nI (plN k 0) := plE_ok k hk 0 (by decide)
  have pl1 : plE (nI k) 1 = nI (plN k 1) := plE_ok k hk 1 (by decide)
  have pl2 : plE (nI k) 2 = nI (plN k 2) := plE_ok k hk 2 (by decide)
  have pl3 : plE (nI k) 3 = nI (plN k 3) := plE_ok k hk 3 (by decide)
  refine ct_of (ls := [some (.int (nI k)), none, none]) 2 (by decide +kernel) rfl rfl ?_
  refine rx_iconst (0) dX11_namesEachPlace_0 (by decide) ?_
  refine rx_istore_1 rfl dX11_namesEachPlace_1 ?_
  refine rx_iconst (0) dX11_namesEachPlace_2 (by decide) ?_
  refine rx_istore_2 rfl dX11_namesEachPlace_3 ?_
  refine rx_iload_n dX11_namesEachPlace_4 rfl ?_
  refine rx_iconst (4) dX11_namesEachPlace_5 (by decide) ?_
  refine rx_icmp_ge 25 dX11_namesEachPlace_6 (by decide) (fun h6 => absurd h6 (by decide)) (fun h6 => ?_)
  refine rx_iload_n dX11_namesEachPlace_9 rfl ?_
  refine rx_iconst (1) dX11_namesEachPlace_10 (by decide) ?_
  refine rx_iload_n dX11_namesEachPlace_11 rfl ?_
  refine rx_iload_n dX11_namesEachPlace_12 rfl ?_
  refine rx_cSi_2 clX11_200 dX11_namesEachPlace_13 rfl (c_placeIn g _ _ S L) ?_
  refine pur3 ?_
  first | rw [pl0] | rw [pl1] | rw [pl2] | rw [pl3]
  refine rx_ishl dX11_namesEachPlace_16 ?_
  refine rx_ior dX11_namesEachPlace_17 ?_
  refine rx_istore_1 rfl dX11_namesEachPlace_18 ?_
  refine rx_iinc_2 (1) rfl dX11_namesEachPlace_19 (by decide) ?_
  rw [show ((0 : Int32) + 1) = 1 from by decide]
  refine rx_goto 4 dX11_namesEachPlace_22 (by decide) ?_
  refine rx_iload_n dX11_namesEachPlace_4 rfl ?_
  refine rx_iconst (4) dX11_namesEachPlace_5 (by decide) ?_
  refine rx_icmp_ge 25 dX11_namesEachPlace_6 (by decide) (fun h6 => absurd h6 (by decide)) (fun h6 => ?_)
  refine rx_iload_n dX11_namesEachPlace_9 rfl ?_
  refine rx_iconst (1) dX11_namesEachPlace_10 (by decide) ?_
  refine rx_iload_n dX11_namesEachPlace_11 rfl ?_
  refine rx_iload_n dX11_namesEachPlace_12 rfl ?_
  refine rx_cSi_2 clX11_200 dX11_namesEachPlace_13 rfl (c_placeIn g _ _ S L) ?_
  refine pur3 ?_
  first | rw [pl0] | rw [pl1] | rw [pl2] | rw [pl3]
  refine rx_ishl dX11_namesEachPlace_16 ?_
  refine rx_ior dX11_namesEachPlace_17 ?_
  refine rx_istore_1 rfl dX11_namesEachPlace_18 ?_
  refine rx_iinc_2 (1) rfl dX11_namesEachPlace_19 (by decide) ?_
  rw [show ((1 : Int32) + 1) = 2 from by decide]
  refine rx_goto 4 dX11_namesEachPlace_22 (by decide) ?_
  refine rx_iload_n dX11_namesEachPlace_4 rfl ?_
  refine rx_iconst (4) dX11_namesEachPlace_5 (by decide) ?_
  refine rx_icmp_ge 25 dX11_namesEachPlace_6 (by decide) (fun h6 => absurd h6 (by decide)) (fun h6 => ?_)
  refine rx_iload_n dX11_namesEachPlace_9 rfl ?_
  refine rx_iconst (1) dX11_namesEachPlace_10 (by decide) ?_
  refine rx_iload_n dX11_namesEachPlace_11 rfl ?_
  refine rx_iload_n dX11_namesEachPlace_12 rfl ?_
  refine rx_cSi_2 clX11_200 dX11_namesEachPlace_13 rfl (c_placeIn g _ _ S L) ?_
  refine pur3 ?_
  first | rw [pl0] | rw [pl1] | rw [pl2] | rw [pl3]
  refine rx_ishl dX11_namesEachPlace_16 ?_
  refine rx_ior dX11_namesEachPlace_17 ?_
  refine rx_istore_1 rfl dX11_namesEachPlace_18 ?_
  refine rx_iinc_2 (1) rfl dX11_namesEachPlace_19 (by decide) ?_
  rw [show ((2 : Int32) + 1) = 3 from by decide]
  refine rx_goto 4 dX11_namesEachPlace_22 (by decide) ?_
  refine rx_iload_n dX11_namesEachPlace_4 rfl ?_
  refine rx_iconst (4) dX11_namesEachPlace_5 (by decide) ?_
  refine rx_icmp_ge 25 dX11_namesEachPlace_6 (by decide) (fun h6 => absurd h6 (by decide)) (fun h6 => ?_)
  refine rx_iload_n dX11_namesEachPlace_9 rfl ?_
  refine rx_iconst (1) dX11_namesEachPlace_10 (by decide) ?_
  refine rx_iload_n dX11_namesEachPlace_11 rfl ?_
  refine rx_iload_n dX11_namesEachPlace_12 rfl ?_
  refine rx_cSi_2 clX11_200 dX11_namesEachPlace_13 rfl (c_placeIn g _ _ S L) ?_
  refine pur3 ?_
  first | rw [pl0] | rw [pl1] | rw [pl2] | rw [pl3]
  refine rx_ishl dX11_namesEachPlace_16 ?_
  refine rx_ior dX11_namesEachPlace_17 ?_
  refine rx_istore_1 rfl dX11_namesEachPlace_18 ?_
  refine rx_iinc_2 (1) rfl dX11_namesEachPlace_19 (by decide) ?_
  rw [show ((3 : Int32) + 1) = 4 from by decide]
  refine rx_goto 4 dX11_namesEachPlace_22 (by decide) ?_
  refine rx_iload_n dX11_namesEachPlace_4 rfl ?_
  refine rx_iconst (4) dX11_namesEachPlace_5 (by decide) ?_
  refine rx_icmp_ge 25 dX11_namesEachPlace_6 (by decide) (fun h6 => ?_) (fun h6 => absurd (by decide) h6)
  refine rx_iload_n dX11_namesEachPlace_25 rfl ?_
  refine rx_bipush (15) dX11_namesEachPlace_26 (by decide) ?_
  refine rx_icmp_ne 35 dX11_namesEachPlace_28 (by decide) (fun h28 => ?_) (fun h28 => ?_)
  · refine rx_iconst (0) dX11_namesEachPlace_35 (by decide) ?_
    exact rx_zret dX11_namesEachPlace_36 rfl (by decide) ⟨Nat.le_refl _, Nat.le_refl _⟩ ⟨rfl, _, rfl, ⟨by first | exact b2i_t h28 | exact b2i_f h28, rfl, rfl⟩⟩
  · refine rx_iconst (1) dX11_namesEachPlace_31 (by decide) ?_
    refine rx_goto 36 dX11_namesEachPlace_32 (by decide) ?_
    exact rx_zret dX11_namesEachPlace_36 rfl (by decide) ⟨Nat.le_refl _, Nat.le_refl _⟩ ⟨rfl, _, rfl, ⟨by first | exact b2i_t h28 | exact b2i_f h28, rfl, rfl⟩⟩
set_option maxRecDepth 20000 in
set_option maxHeartbeats 400000 in
theorem cc_order (g : GG) (σ : SIG) (n kk : Int32) (S : SS) (L : LL) (hr : CRel S L σ) : Ci g 7 mX11_order [.ref 0, .int n, .int kk] SHC S L (fun r S' L' => r = aOrder σ n kk ∧ CRel S' L' σ) := by
  refine ct_of (ls := [some (.ref 0), some (.int n), some (.int kk), none, none, none, none]) 4 (by decide +kernel) rfl rfl ?_
  refine rx_iload_n dX11_order_0 rfl ?_
  refine rx_iconst (-1) dX11_order_1 (by decide) ?_
  refine rx_iconst (3) dX11_order_2 (by decide) ?_
  refine rx_cSi_3 clX11_92 dX11_order_3 rfl (c_within g _ _ _ S L) ?_
  refine pur3 ?_
  refine rx_if_ne 11 dX11_order_6 (by decide) (fun h6 => ?_) (fun h6 => ?_)
  · refine rx_iload_n dX11_order_11 rfl ?_
    refine rx_iconst (1) dX11_order_12 (by decide) ?_
    refine rx_bipush (20) dX11_order_13 (by decide) ?_
    refine rx_cSi_3 clX11_92 dX11_order_15 rfl (c_within g _ _ _ S L) ?_
    refine pur3 ?_
    refine rx_if_ne 24 dX11_order_18 (by decide) (fun h18 => ?_) (fun h18 => ?_)
    · have hq1 := b2i_ne h6
      have hq2 := b2i_ne h18
      obtain ⟨m, hm, rfl⟩ := rngI 20 (by omega) (Int32.le_trans (by decide) hq2.1) hq2.2
      have hmc : (nI m).toNatClampNeg = m := nI_clamp (by omega)
      refine rx_iconst (0) dX11_order_24 (by decide) ?_
      refine rx_istore_3 rfl dX11_order_25 ?_
      refine rx_bipush (8) dX11_order_26 (by decide) ?_
      refine rx_istore_4 rfl dX11_order_28 ?_
      refine rx_iconst (0) dX11_order_30 (by decide) ?_
      refine rx_istore_5 rfl dX11_order_31 ?_
      have loop : ∀ (r k : Nat) (S1 : SS), k + r = 256 → CRel S1 L σ → Rx g 7 0 0 mX11_order SHC.length (fun r sh' S' L' => sh' = SHC ∧ ∃ x, r = some (.int x) ∧ (x = aOrder σ (nI m) kk ∧ CRel S' L' σ)) 0 0 33 [some (.ref 0), some (.int (nI m)), some (.int kk), some (.int (nI (orC σ m k).1)), some (.int (orC σ m k).2), some (.int (nI k)), none] [] SHC S1 L := by
        intro r
        induction r with
        | zero =>
          intro k S1 he hr1
          have hk256 : k = 256 := by omega
          subst hk256
          refine rx_iload dX11_order_33 rfl ?_
          refine rx_sipush (256) dX11_order_35 (by decide) ?_
          refine rx_icmp_ge 148 dX11_order_38 (by decide) (fun h38 => ?_) (fun h38 => absurd (nI_le (a := 256) (b := 256) (by omega) (by omega)) h38)
          refine rx_iload_n dX11_order_148 rfl ?_
          refine rx_if_ge 157 dX11_order_149 (by decide) (fun h149 => ?_) (fun h149 => ?_)
          · obtain ⟨j, hj, rfl⟩ := rngI 3 (by omega) h149 hq1.2
            have hjc : (nI j).toNatClampNeg = j := nI_clamp (by omega)
            have pl : plE (nI (orC σ m 256).1) (nI j) = nI (plN (orC σ m 256).1 j) := plE_ok _ (orC_lt σ m 256 (by omega)) j (by omega)
            refine rx_aload_n dX11_order_157 rfl ?_
            refine rx_getR dX11_order_158 flX11_54 (sC_0) rfl ?_
            refine rx_getR dX11_order_161 flX11_153 (sC_53) rfl ?_
            refine rx_iload_n dX11_order_164 rfl ?_
            refine rx_iload_n dX11_order_165 rfl ?_
            refine rx_cSi_2 clX11_200 dX11_order_166 rfl (c_placeIn g _ _ S1 L) ?_
            refine pur3 ?_
            rw [pl]
            refine rx_iaload dX11_order_169 (sC_60) (vp_in_nI (plN_lt _ _) (by decide)) ?_
            exact rx_iret dX11_order_170 rfl ⟨Nat.le_refl _, Nat.le_refl _⟩ ⟨rfl, _, rfl, ⟨by unfold aOrder; rw [if_neg (fun q => q hq1), if_neg (fun q => q hq2), hmc, if_pos h149, hjc, nI_clamp (Nat.lt_trans (plN_lt _ _) (by decide))]; exact hr1.sc.2.2.2.2.2.1 _ (plN_lt _ _), hr1⟩⟩
          · refine rx_iload dX11_order_152 rfl ?_
            refine rx_goto 170 dX11_order_154 (by decide) ?_
            exact rx_iret dX11_order_170 rfl ⟨Nat.le_refl _, Nat.le_refl _⟩ ⟨rfl, _, rfl, ⟨by unfold aOrder; rw [if_neg (fun q => q hq1), if_neg (fun q => q hq2), hmc, if_neg h149], hr1⟩⟩
        | succ r ih =>
          intro k S1 he hr1
          have hk : k < 256 := by omega
          have pl0 : plE (nI k) 0 = nI (plN k 0) := plE_ok k hk 0 (by decide)
          have pl1 : plE (nI k) 1 = nI (plN k 1) := plE_ok k hk 1 (by decide)
          have pl2 : plE (nI k) 2 = nI (plN k 2) := plE_ok k hk 2 (by decide)
          have pl3 : plE (nI k) 3 = nI (plN k 3) := plE_ok k hk 3 (by decide)
          refine rx_iload dX11_order_33 rfl ?_
          refine rx_sipush (256) dX11_order_35 (by decide) ?_
          refine rx_icmp_ge 148 dX11_order_38 (by decide) (fun h38 => absurd h38 (nI_ge (a := k) (b := 256) (by omega) (by omega))) (fun h38 => ?_)
          refine rx_iload dX11_order_41 rfl ?_
          refine rx_cSi_1 clX11_197 dX11_order_43 rfl (c_namesEachPlace g k S1 L hk) ?_
          refine pur3 ?_
          refine rx_if_ne 52 dX11_order_46 (by decide) (fun h46 => ?_) (fun h46 => ?_)
          · refine rx_aload_n dX11_order_52 rfl ?_
            refine rx_getR dX11_order_53 flX11_58 (sC_0) rfl ?_
            refine rx_aload_n dX11_order_56 rfl ?_
            refine rx_getR dX11_order_57 flX11_54 (sC_0) rfl ?_
            refine rx_cVv_1 clX11_182 dX11_order_60 (rcvo (sC_66) rfl) rfl (c_copyFrom g S53 S66 (by decide) S1 L hr1.y) ?_
            rintro S2 L2 ⟨hC1, hL2⟩
            rw [hL2]
            have hR1 := hr1.sc.copy S53 S66 hC1
            have h60 : ∀ j, j < 4 → S2 60 j = eC (gE σ) j := fun j hj => by rw [hC1.1 60 (by omega)]; exact hr1.sc.2.2.2.2.2.1 j hj
            refine rx_iconst (0) dX11_order_63 (by decide) ?_
            refine rx_istore_6 rfl dX11_order_64 ?_
            refine rx_iload dX11_order_66 rfl ?_
            refine rx_iconst (4) dX11_order_68 (by decide) ?_
            refine rx_icmp_ge 103 dX11_order_69 (by decide) (fun h69 => absurd h69 (by decide)) (fun h69 => ?_)
            refine rx_aload_n dX11_order_72 rfl ?_
            refine rx_getR dX11_order_73 flX11_58 (sC_0) rfl ?_
            refine rx_getR dX11_order_76 flX11_153 (sC_66) rfl ?_
            refine rx_iload dX11_order_79 rfl ?_
            refine rx_aload_n dX11_order_81 rfl ?_
            refine rx_getR dX11_order_82 flX11_54 (sC_0) rfl ?_
            refine rx_getR dX11_order_85 flX11_153 (sC_53) rfl ?_
            refine rx_iload dX11_order_88 rfl ?_
            refine rx_iload dX11_order_90 rfl ?_
            refine rx_cSi_2 clX11_200 dX11_order_92 rfl (c_placeIn g _ _ _ L) ?_
            refine pur3 ?_
            first | rw [pl0] | rw [pl1] | rw [pl2] | rw [pl3]
            refine rx_iaload dX11_order_95 (sC_60) (vp_in_nI (plN_lt k _) (by decide)) ?_
            simp (disch := omega) only [upS_off, nI_clamp (Nat.lt_trans (plN_lt k _) (by decide : 4 < 2 ^ 31)), h60 _ (plN_lt k _)]
            refine rx_iastore dX11_order_96 (sC_73) (vp_in_iff.mpr (by decide +kernel)) ?_
            refine rx_iinc_6 (1) rfl dX11_order_97 (by decide) ?_
            rw [show ((0 : Int32) + 1) = 1 from by decide]
            refine rx_goto 66 dX11_order_100 (by decide) ?_
            refine rx_iload dX11_order_66 rfl ?_
            refine rx_iconst (4) dX11_order_68 (by decide) ?_
            refine rx_icmp_ge 103 dX11_order_69 (by decide) (fun h69 => absurd h69 (by decide)) (fun h69 => ?_)
            refine rx_aload_n dX11_order_72 rfl ?_
            refine rx_getR dX11_order_73 flX11_58 (sC_0) rfl ?_
            refine rx_getR dX11_order_76 flX11_153 (sC_66) rfl ?_
            refine rx_iload dX11_order_79 rfl ?_
            refine rx_aload_n dX11_order_81 rfl ?_
            refine rx_getR dX11_order_82 flX11_54 (sC_0) rfl ?_
            refine rx_getR dX11_order_85 flX11_153 (sC_53) rfl ?_
            refine rx_iload dX11_order_88 rfl ?_
            refine rx_iload dX11_order_90 rfl ?_
            refine rx_cSi_2 clX11_200 dX11_order_92 rfl (c_placeIn g _ _ _ L) ?_
            refine pur3 ?_
            first | rw [pl0] | rw [pl1] | rw [pl2] | rw [pl3]
            refine rx_iaload dX11_order_95 (sC_60) (vp_in_nI (plN_lt k _) (by decide)) ?_
            simp (disch := omega) only [upS_off, nI_clamp (Nat.lt_trans (plN_lt k _) (by decide : 4 < 2 ^ 31)), h60 _ (plN_lt k _)]
            refine rx_iastore dX11_order_96 (sC_73) (vp_in_iff.mpr (by decide +kernel)) ?_
            refine rx_iinc_6 (1) rfl dX11_order_97 (by decide) ?_
            rw [show ((1 : Int32) + 1) = 2 from by decide]
            refine rx_goto 66 dX11_order_100 (by decide) ?_
            refine rx_iload dX11_order_66 rfl ?_
            refine rx_iconst (4) dX11_order_68 (by decide) ?_
            refine rx_icmp_ge 103 dX11_order_69 (by decide) (fun h69 => absurd h69 (by decide)) (fun h69 => ?_)
            refine rx_aload_n dX11_order_72 rfl ?_
            refine rx_getR dX11_order_73 flX11_58 (sC_0) rfl ?_
            refine rx_getR dX11_order_76 flX11_153 (sC_66) rfl ?_
            refine rx_iload dX11_order_79 rfl ?_
            refine rx_aload_n dX11_order_81 rfl ?_
            refine rx_getR dX11_order_82 flX11_54 (sC_0) rfl ?_
            refine rx_getR dX11_order_85 flX11_153 (sC_53) rfl ?_
            refine rx_iload dX11_order_88 rfl ?_
            refine rx_iload dX11_order_90 rfl ?_
            refine rx_cSi_2 clX11_200 dX11_order_92 rfl (c_placeIn g _ _ _ L) ?_
            refine pur3 ?_
            first | rw [pl0] | rw [pl1] | rw [pl2] | rw [pl3]
            refine rx_iaload dX11_order_95 (sC_60) (vp_in_nI (plN_lt k _) (by decide)) ?_
            simp (disch := omega) only [upS_off, nI_clamp (Nat.lt_trans (plN_lt k _) (by decide : 4 < 2 ^ 31)), h60 _ (plN_lt k _)]
            refine rx_iastore dX11_order_96 (sC_73) (vp_in_iff.mpr (by decide +kernel)) ?_
            refine rx_iinc_6 (1) rfl dX11_order_97 (by decide) ?_
            rw [show ((2 : Int32) + 1) = 3 from by decide]
            refine rx_goto 66 dX11_order_100 (by decide) ?_
            refine rx_iload dX11_order_66 rfl ?_
            refine rx_iconst (4) dX11_order_68 (by decide) ?_
            refine rx_icmp_ge 103 dX11_order_69 (by decide) (fun h69 => absurd h69 (by decide)) (fun h69 => ?_)
            refine rx_aload_n dX11_order_72 rfl ?_
            refine rx_getR dX11_order_73 flX11_58 (sC_0) rfl ?_
            refine rx_getR dX11_order_76 flX11_153 (sC_66) rfl ?_
            refine rx_iload dX11_order_79 rfl ?_
            refine rx_aload_n dX11_order_81 rfl ?_
            refine rx_getR dX11_order_82 flX11_54 (sC_0) rfl ?_
            refine rx_getR dX11_order_85 flX11_153 (sC_53) rfl ?_
            refine rx_iload dX11_order_88 rfl ?_
            refine rx_iload dX11_order_90 rfl ?_
            refine rx_cSi_2 clX11_200 dX11_order_92 rfl (c_placeIn g _ _ _ L) ?_
            refine pur3 ?_
            first | rw [pl0] | rw [pl1] | rw [pl2] | rw [pl3]
            refine rx_iaload dX11_order_95 (sC_60) (vp_in_nI (plN_lt k _) (by decide)) ?_
            simp (disch := omega) only [upS_off, nI_clamp (Nat.lt_trans (plN_lt k _) (by decide : 4 < 2 ^ 31)), h60 _ (plN_lt k _)]
            refine rx_iastore dX11_order_96 (sC_73) (vp_in_iff.mpr (by decide +kernel)) ?_
            refine rx_iinc_6 (1) rfl dX11_order_97 (by decide) ?_
            rw [show ((3 : Int32) + 1) = 4 from by decide]
            refine rx_goto 66 dX11_order_100 (by decide) ?_
            refine rx_iload dX11_order_66 rfl ?_
            refine rx_iconst (4) dX11_order_68 (by decide) ?_
            refine rx_icmp_ge 103 dX11_order_69 (by decide) (fun h69 => ?_) (fun h69 => absurd (by decide) h69)
            refine rx_aload_n dX11_order_103 rfl ?_
            refine rx_getR dX11_order_104 flX11_69 (sC_0) rfl ?_
            refine rx_aload_n dX11_order_107 rfl ?_
            refine rx_getR dX11_order_108 flX11_58 (sC_0) rfl ?_
            refine rx_iload_n dX11_order_111 rfl ?_
            refine rx_cVi_2 clX11_178 dX11_order_112 (rcvo (sC_92) rfl) rfl (c_pass g S66 (setCn (gE σ) (orF σ k)) (gD σ) m _ L (en_orF hr1.en k) (hR1.setCn S66 (orF σ k) (fun c hc => by rcases (show c = 0 ∨ c = 1 ∨ c = 2 ∨ c = 3 by omega) with rfl | rfl | rfl | rfl <;> simp [upS, orF, show (0 : Int32).toNatClampNeg = 0 from by decide +kernel, show (1 : Int32).toNatClampNeg = 1 from by decide +kernel, show (2 : Int32).toNatClampNeg = 2 from by decide +kernel, show (3 : Int32).toNatClampNeg = 3 from by decide +kernel]) (fun j hj => by simp (disch := omega) only [upS_off])) (by have := hr1.t; omega)) ?_
            rintro x2 S4 L4 ⟨hx2, hR4, hF4, hL4⟩
            rw [hL4]
            have hr4 := hr1.kp (((Kp.cp hC1).trans ((((Kp.up (by decide)).trans (Kp.up (by decide))).trans (Kp.up (by decide))).trans (Kp.up (by decide)))).trans (Kp.st hF4))
            refine rx_pop dX11_order_115 rfl ?_
            refine rx_aload_n dX11_order_116 rfl ?_
            refine rx_getR dX11_order_117 flX11_58 (sC_0) rfl ?_
            refine rx_getI dX11_order_120 flX11_175 (sC_66) rfl ?_
            rw [hR4.w]
            refine rx_cSi_1 clX11_185 dX11_order_123 rfl (c_bitCount g _ S4 L (by obtain ⟨W, hW, e⟩ := (DOK_it (en_orF hr1.en k) (seesE σ) (-1) hr1.dok m).1; exact ⟨W, Nat.lt_of_lt_of_le hW (pow7 hr1.n7), e⟩)) ?_
            rintro x5 S5 L5 ⟨hx5, hS5, hL5⟩
            have hx6 : x5 = orT σ m k := hx5
            rw [hS5, hL5, hx6]
            refine rx_istore_6 rfl dX11_order_126 ?_
            refine rx_iload dX11_order_128 rfl ?_
            refine rx_iload dX11_order_130 rfl ?_
            refine rx_icmp_ge 142 dX11_order_132 (by decide) (fun h132 => ?_) (fun h132 => ?_)
            · have e1 : orC σ m (k + 1) = orC σ m k := if_neg (fun q => Int32.not_lt.mpr h132 q.2)
              refine rx_iinc_5 (1) rfl dX11_order_142 (by decide) ?_
              refine rx_goto 33 dX11_order_145 (by decide) ?_
              refine rx_wk [some (.ref 0), some (.int (nI m)), some (.int kk), some (.int _), some (.int _), some (.int _), none] ⟨Or.inr rfl, Or.inr rfl, Or.inr rfl, Or.inr rfl, Or.inr rfl, Or.inr rfl, Or.inl rfl, trivial⟩ ?_
              rw [nI_1]
              have hg := ih (k + 1) S4 (by omega) hr4
              rw [e1] at hg
              exact hg
            · refine rx_iload dX11_order_135 rfl ?_
              refine rx_istore_4 rfl dX11_order_137 ?_
              refine rx_iload dX11_order_139 rfl ?_
              refine rx_istore_3 rfl dX11_order_141 ?_
              have e1 : orC σ m (k + 1) = (k, orT σ m k) := if_pos ⟨b2i_ne h46, Int32.not_le.mp h132⟩
              refine rx_iinc_5 (1) rfl dX11_order_142 (by decide) ?_
              refine rx_goto 33 dX11_order_145 (by decide) ?_
              refine rx_wk [some (.ref 0), some (.int (nI m)), some (.int kk), some (.int _), some (.int _), some (.int _), none] ⟨Or.inr rfl, Or.inr rfl, Or.inr rfl, Or.inr rfl, Or.inr rfl, Or.inr rfl, Or.inl rfl, trivial⟩ ?_
              rw [nI_1]
              have hg := ih (k + 1) S4 (by omega) hr4
              rw [e1] at hg
              exact hg
          · refine rx_goto 142 dX11_order_49 (by decide) ?_
            have e1 : orC σ m (k + 1) = orC σ m k := if_neg (fun q => b2i_eq h46 q.1)
            refine rx_iinc_5 (1) rfl dX11_order_142 (by decide) ?_
            refine rx_goto 33 dX11_order_145 (by decide) ?_
            refine rx_wk [some (.ref 0), some (.int (nI m)), some (.int kk), some (.int _), some (.int _), some (.int _), none] ⟨Or.inr rfl, Or.inr rfl, Or.inr rfl, Or.inr rfl, Or.inr rfl, Or.inr rfl, Or.inl rfl, trivial⟩ ?_
            rw [nI_1]
            have hg := ih (k + 1) S1 (by omega) hr1
            rw [e1] at hg
            exact hg
      exact loop 256 0 S (by omega) hr
    · refine rx_bipush (-2) dX11_order_21 (by decide) ?_
      exact rx_iret dX11_order_23 rfl ⟨Nat.le_refl _, Nat.le_refl _⟩ ⟨rfl, _, rfl, ⟨by unfold aOrder; rw [if_neg (fun q => q (b2i_ne h6)), if_pos (b2i_eq h18)], hr⟩⟩
  · refine rx_iconst (-1) dX11_order_9 (by decide) ?_
    exact rx_iret dX11_order_10 rfl ⟨Nat.le_refl _, Nat.le_refl _⟩ ⟨rfl, _, rfl, ⟨by unfold aOrder; rw [if_pos (b2i_eq h6)], hr⟩⟩
