-- IMAGE, UNDO
theorem CRel.image {S S1 : SS} {L : LL} {σ : SIG} (h : CRel S L σ) (hC : CpR 53 79 S S1) : CRel (upS S1 0 8 1) L (gN σ, true, gN σ, σ.2.2.2) := by
  have hl : (sSn (gN σ)).length ≤ 4 ∧ (sBk (gN σ)).length ≤ 8 := h.1.1.2.2.2.2.2
  have hz := ScN.copy S53 S79 h.2.1 hl hC
  obtain ⟨⟨k0, k1, k2, k3, k4, k5⟩, h1, h2, h3, h4, h5, h6, h7, h8, h9, h10⟩ := h
  have ho : ∀ j, j ≠ 0 → ¬ (79 ≤ j ∧ j ≤ 91) → upS S1 0 8 1 j = S j := fun j a b => by rw [upS_off _ _ _ _ a]; exact hC.1 j (by omega)
  have o0 : ∀ k, k ≠ 8 → upS S1 0 8 1 0 k = S 0 k := fun k a => by rw [upS_row, pk_un a, hC.1 0 (by omega)]
  refine ⟨⟨k0, fun _ => k0, k2, k3, fun _ => k3, k5⟩, h1.off (fun j hj => ho j (by omega) (by omega)), fun _ => hz.off (fun j hj => upS_off _ _ _ _ (by omega)), by rw [upS_at]; exact (if_pos rfl).symm, by rw [o0 4 (by decide)]; exact h4, fun y hy => (h5 y hy).off (by have : y ≤ gC σ := hy; omega) (fun j g1 g2 => ho j (by omega) (by omega)), by rw [o0 2 (by decide)]; exact h6, fun i q hq => ?_, ?_, fun i g1 g2 => ?_, fun t ht => ?_⟩
  · rw [ho 9 (by omega) (by omega)]; exact h7 i q hq
  · rw [ho 97 (by omega) (by omega)]; exact h8
  · rw [ho 98 (by omega) (by omega)]; exact h9 i g1 g2
  · rw [ho 106 (by omega) (by omega), ho 107 (by omega) (by omega)]; exact h10 t ht
theorem CRel.undo {S S1 : SS} {L : LL} {σ : SIG} (h : CRel S L σ) (hH : gH σ = true) (hC : CpR 79 53 S S1) : CRel S1 L (gI σ, σ.2) := by
  have hk := h.1.2.1 hH
  exact h.now (fun j h1 h2 => hC.1 j (by omega)) (ScN.copy S79 S53 (h.2.2.1 hH) hk.2.2.2.2.2 hC) hk (h.1.2.2.2.2.1 hH)
theorem CRel.iy {S : SS} {L : LL} {σ : SIG} (h : CRel S L σ) (hH : gH σ = true) : ∃ y, y < 7 ∧ S 79 10 = nI y := ⟨sY (gI σ), by have := h.1.2.2.1; have := h.1.2.2.2.2.1 hH; omega, (h.2.2.1 hH).2.1⟩
def aImage (σ : SIG) : Int32 := nI (nN σ)
def nImage (σ : SIG) : SIG := (gN σ, true, gN σ, σ.2.2.2)
def aUndo (σ : SIG) : Int32 := if gH σ = true then nI (gI σ).1 else -3
def nUndo (σ : SIG) : SIG := if gH σ = true then (gI σ, σ.2) else σ
-- COUNTS, ROW
theorem CRel.cell {S S' : SS} {L : LL} {σ : SIG} {s' : SCN} (h : CRel S L σ) (ho : ∀ j, ¬ (53 ≤ j ∧ j ≤ 60) → S' j = S j) (hk : ∀ k, k = 10 ∨ k = 14 ∨ k = 17 → S' 53 k = S 53 k) (hR : ScR 53 S' (enOf s' (gY σ)) (sD s')) (hOK : OKs s' (gY σ)) (e1 : sY s' = sY (gN σ)) (e2 : sSn s' = sSn (gN σ)) (e3 : sBk s' = sBk (gN σ)) : CRel S' L (s', σ.2) := by
  obtain ⟨a1, a2, ⟨a3, a4⟩, ⟨a5, a6⟩⟩ := h.2.1
  refine h.now (fun j h1 h2 => ho j (by omega)) ⟨hR, by rw [hk 10 (Or.inl rfl), e1]; exact a2, ⟨by rw [hk 14 (Or.inr (Or.inl rfl)), e2]; exact a3, fun i q hq => ?_⟩, ⟨by rw [hk 17 (Or.inr (Or.inr rfl)), e3]; exact a5, fun i q hq => ?_⟩⟩ hOK (by rw [e1]; exact h.1.2.2.2.1)
  · rw [e2] at hq
    rw [ho 61 (by omega), ho 62 (by omega), ho 63 (by omega)]; exact a4 i q hq
  · rw [e3] at hq
    rw [ho 64 (by omega), ho 65 (by omega)]; exact a6 i q hq
def wCn (s : SCN) (f : Nat → Int32) : SCN := (s.1, s.2.1, s.2.2.1, s.2.2.2.1, s.2.2.2.2.1, f, s.2.2.2.2.2.2)
def wRw (s : SCN) (f : Nat → Int32) : SCN := (s.1, s.2.1, s.2.2.1, s.2.2.2.1, f, s.2.2.2.2.2)
def aCounts (σ : SIG) (k v : Int32) : Int32 := if ¬ (0 ≤ k ∧ k ≤ 3) then -1 else if ¬ (1 ≤ v ∧ v ≤ 9) then -2 else eC (gE σ) k.toNatClampNeg
def nCounts (σ : SIG) (k v : Int32) : SIG := if ¬ (0 ≤ k ∧ k ≤ 3) then σ else if ¬ (1 ≤ v ∧ v ≤ 9) then σ else (wCn (gN σ) (upd (eC (gE σ)) k.toNatClampNeg v), σ.2)
theorem CRel.counts {S : SS} {L : LL} {σ : SIG} (h : CRel S L σ) (k v : Nat) (hk : k < 4) (hv1 : 1 ≤ v) (hv : v ≤ 9) : CRel (upS S 60 k (nI v)) L (wCn (gN σ) (upd (eC (gE σ)) k (nI v)), σ.2) := by
  obtain ⟨k0, k1, k2, k3, k4, k5, k6⟩ := h.1.1
  refine h.cell (fun j hj => upS_off _ _ _ _ (by omega)) (fun k _ => by rw [upS_off _ _ _ _ (by omega)]) (h.sc.setCn S53 _ (fun c hc => ?_) (fun j hj => upS_off _ _ _ _ hj)) ⟨h.en.setCn _ (fun c hc => ?_), k1, k2, k3, k4, k5, k6⟩ rfl rfl rfl
  · show upS S 60 k (nI v) 60 c = upd (eC (gE σ)) k (nI v) c
    rw [upS_row]
    by_cases q : c = k
    · rw [q, pk_us, pk_us]
    · rw [pk_un q, pk_un q]; exact h.sc.2.2.2.2.2.1 c hc
  · show ∃ x, 1 ≤ x ∧ x ≤ 9 ∧ upd (eC (gE σ)) k (nI v) c = nI x
    by_cases q : c = k
    · rw [q, pk_us]; exact ⟨v, hv1, hv, rfl⟩
    · rw [pk_un q]; exact h.en.2.2.2.2.2.1 c hc
def aRow (σ : SIG) (c k v : Int32) : Int32 := if ¬ (0 ≤ c ∧ c < nI (nN σ)) ∨ ¬ (0 ≤ k ∧ k ≤ 3) then -1 else if ¬ (0 ≤ v ∧ v ≤ 9) then -2 else if ¬ eK (gE σ) c.toNatClampNeg = 6 then -3 else eR (gE σ) (c.toNatClampNeg * 4 + k.toNatClampNeg)
def nRow (σ : SIG) (c k v : Int32) : SIG := if ¬ (0 ≤ c ∧ c < nI (nN σ)) ∨ ¬ (0 ≤ k ∧ k ≤ 3) then σ else if ¬ (0 ≤ v ∧ v ≤ 9) then σ else if ¬ eK (gE σ) c.toNatClampNeg = 6 then σ else (wRw (gN σ) (upd (eR (gE σ)) (c.toNatClampNeg * 4 + k.toNatClampNeg) v), σ.2)
theorem CRel.row {S : SS} {L : LL} {σ : SIG} (h : CRel S L σ) (i v : Nat) (hv : v ≤ 9) : CRel (upS S 59 i (nI v)) L (wRw (gN σ) (upd (eR (gE σ)) i (nI v)), σ.2) := by
  obtain ⟨⟨n1, n2, n3, n4, n5, n6⟩, k1, k2, k3, k4, k5, k6⟩ := h.1.1
  obtain ⟨a1, a2, a3, a4, a5, a6, ⟨y, hy, hyS, hY⟩, a8, a9, a10, a11, a12⟩ := h.sc
  have ho : ∀ j, j ≠ 59 → upS S 59 i (nI v) j = S j := fun j hj => upS_off _ _ _ _ hj
  refine h.cell (fun j hj => ho j (by omega)) (fun k _ => by rw [ho 53 (by omega)]) ⟨by rw [ho 53 (by omega)]; exact a1, fun c hc => by rw [ho _ (by omega)]; exact a2 c hc, fun c hc => by rw [ho _ (by omega)]; exact a3 c hc, fun c hc => by rw [ho _ (by omega)]; exact a4 c hc, fun c hc => ?_, fun c hc => by rw [ho _ (by omega)]; exact a6 c hc, ⟨y, hy, by rw [ho 53 (by omega)]; exact hyS, hY.off hy (fun j g1 g2 => ho j (by omega))⟩, fun c hc => by rw [ho _ (by omega)]; exact a8 c hc, by rw [ho 53 (by omega)]; exact a9, by rw [ho 53 (by omega)]; exact a10, a11, fun c hc => by rw [ho _ (by omega)]; exact a12 c hc⟩ ⟨⟨n1, n2, n3, n4, fun c hc => ?_, n6⟩, k1, k2, k3, k4, k5, k6⟩ rfl rfl rfl
  · show upS S 59 i (nI v) 59 c = upd (eR (gE σ)) i (nI v) c
    rw [upS_row]
    by_cases q : c = i
    · rw [q, pk_us, pk_us]
    · rw [pk_un q, pk_un q]; exact a5 c hc
  · show ∃ k, k ≤ 9 ∧ upd (eR (gE σ)) i (nI v) c = nI k
    by_cases q : c = i
    · rw [q, pk_us]; exact ⟨v, hv, rfl⟩
    · rw [pk_un q]; exact n5 c hc

set_option maxRecDepth 20000 in
set_option maxHeartbeats 1000000 in
theorem cc_image (g : GG) (σ : SIG)  (S : SS) (L : LL) (hr : CRel S L σ) : Ci g 2 mX11_image [.ref 0] SHC S L (fun r S' L' => r = aImage σ  ∧ CRel S' L' (nImage σ )) := by
  refine ct_of (ls := [some (.ref 0)]) 0 (by decide +kernel) rfl rfl ?_
  refine rx_aload_n dX11_image_0 rfl ?_
  refine rx_getR dX11_image_1 flX11_61 (sC_0) rfl ?_
  refine rx_aload_n dX11_image_4 rfl ?_
  refine rx_getR dX11_image_5 flX11_54 (sC_0) rfl ?_
  refine rx_cVv_1 clX11_182 dX11_image_8 (rcvo (sC_79) rfl) rfl (c_copyFrom g S53 S79 (by decide) S L hr.y) ?_
  rintro S1 L1 ⟨hC1, hL1⟩
  rw [hL1]
  have hr1 := hr.image hC1
  refine rx_aload_n dX11_image_11 rfl ?_
  refine rx_iconst (1) dX11_image_12 (by decide) ?_
  refine rx_putZ dX11_image_13 flX11_239 (sC_0) rfl (by decide) (by decide) ?_
  refine rx_aload_n dX11_image_16 rfl ?_
  refine rx_getR dX11_image_17 flX11_61 (sC_0) rfl ?_
  refine rx_getI dX11_image_20 flX11_96 (sC_79) rfl ?_
  have h79 : S1 79 6 = aImage σ := by have := (hr1.2.2.1 rfl).1.1; rw [upS_off _ _ _ _ (by decide)] at this; exact this
  exact rx_iret dX11_image_23 rfl ⟨Nat.le_refl _, Nat.le_refl _⟩ ⟨rfl, _, rfl, ⟨by rw [upS_off _ _ _ _ (by decide)]; exact (h79 : _), hr1⟩⟩
set_option maxRecDepth 20000 in
set_option maxHeartbeats 1000000 in
theorem cc_undo (g : GG) (σ : SIG)  (S : SS) (L : LL) (hr : CRel S L σ) : Ci g 2 mX11_undo [.ref 0] SHC S L (fun r S' L' => r = aUndo σ  ∧ CRel S' L' (nUndo σ )) := by
  refine ct_of (ls := [some (.ref 0)]) 0 (by decide +kernel) rfl rfl ?_
  refine rx_aload_n dX11_undo_0 rfl ?_
  refine rx_getI dX11_undo_1 flX11_239 (sC_0) rfl ?_
  rw [hr.2.2.2.1]
  refine rx_if_ne 10 dX11_undo_4 (by decide) (fun h4 => ?_) (fun h4 => ?_)
  · have hH : gH σ = true := Classical.byContradiction fun q => h4 (if_neg q)
    refine rx_aload_n dX11_undo_10 rfl ?_
    refine rx_getR dX11_undo_11 flX11_54 (sC_0) rfl ?_
    refine rx_aload_n dX11_undo_14 rfl ?_
    refine rx_getR dX11_undo_15 flX11_61 (sC_0) rfl ?_
    refine rx_cVv_1 clX11_182 dX11_undo_18 (rcvo (sC_53) rfl) rfl (c_copyFrom g S79 S53 (by decide) S L (hr.iy hH)) ?_
    rintro S1 L1 ⟨hC1, hL1⟩
    rw [hL1]
    have hr1 := hr.undo hH hC1
    refine rx_aload_n dX11_undo_21 rfl ?_
    refine rx_getR dX11_undo_22 flX11_54 (sC_0) rfl ?_
    refine rx_getI dX11_undo_25 flX11_96 (sC_53) rfl ?_
    exact rx_iret dX11_undo_28 rfl ⟨Nat.le_refl _, Nat.le_refl _⟩ ⟨rfl, _, rfl, ⟨by unfold aUndo; rw [if_pos hH]; exact hr1.sc.1, by rw [show nUndo σ = (gI σ, σ.2) from if_pos hH]; exact hr1⟩⟩
  · have hN : ¬ gH σ = true := fun q => by rw [if_pos q] at h4; exact absurd h4 (by decide)
    refine rx_bipush (-3) dX11_undo_7 (by decide) ?_
    exact rx_iret dX11_undo_9 rfl ⟨Nat.le_refl _, Nat.le_refl _⟩ ⟨rfl, _, rfl, ⟨(if_neg hN).symm, by rw [show nUndo σ = σ from if_neg hN]; exact hr⟩⟩
set_option maxRecDepth 20000 in
set_option maxHeartbeats 1000000 in
theorem cc_counts (g : GG) (σ : SIG) (k v : Int32) (S : SS) (L : LL) (hr : CRel S L σ) : Ci g 1 mX11_counts [.ref 0, .int k, .int v] SHC S L (fun r S' L' => r = aCounts σ k v ∧ CRel S' L' (nCounts σ k v)) := by
  refine ct_of (ls := [some (.ref 0), some (.int k), some (.int v), none]) 1 (by decide +kernel) rfl rfl ?_
  refine rx_iload_n dX11_counts_0 rfl ?_
  refine rx_iconst (0) dX11_counts_1 (by decide) ?_
  refine rx_iconst (3) dX11_counts_2 (by decide) ?_
  refine rx_cSi_3 clX11_92 dX11_counts_3 rfl (c_within g _ _ _ S L) ?_
  refine pur3 ?_
  refine rx_if_ne 11 dX11_counts_6 (by decide) (fun h6 => ?_) (fun h6 => ?_)
  · refine rx_iload_n dX11_counts_11 rfl ?_
    refine rx_iconst (1) dX11_counts_12 (by decide) ?_
    refine rx_bipush (9) dX11_counts_13 (by decide) ?_
    refine rx_cSi_3 clX11_92 dX11_counts_15 rfl (c_within g _ _ _ S L) ?_
    refine pur3 ?_
    refine rx_if_ne 24 dX11_counts_18 (by decide) (fun h18 => ?_) (fun h18 => ?_)
    · have hq1 := b2i_ne h6
      have hq2 := b2i_ne h18
      obtain ⟨k, hk, rfl⟩ := rngI 3 (by omega) hq1.1 hq1.2
      obtain ⟨v, hv, rfl⟩ := rngI 9 (by omega) (Int32.le_trans (by decide) hq2.1) hq2.2
      have hv1 : 1 ≤ v := (nI_leI (a := 1) (by omega) (by omega)).mp hq2.1
      have hkc : (nI k).toNatClampNeg = k := nI_clamp (by omega)
      have hvk : vp_in (nI k) 4 := vp_in_nI (by omega) (by omega)
      refine rx_aload_n dX11_counts_24 rfl ?_
      refine rx_getR dX11_counts_25 flX11_54 (sC_0) rfl ?_
      refine rx_getR dX11_counts_28 flX11_153 (sC_53) rfl ?_
      refine rx_iload_n dX11_counts_31 rfl ?_
      refine rx_iaload dX11_counts_32 (sC_60) hvk ?_
      rw [hkc]
      refine rx_istore_3 rfl dX11_counts_33 ?_
      refine rx_aload_n dX11_counts_34 rfl ?_
      refine rx_getR dX11_counts_35 flX11_54 (sC_0) rfl ?_
      refine rx_getR dX11_counts_38 flX11_153 (sC_53) rfl ?_
      refine rx_iload_n dX11_counts_41 rfl ?_
      refine rx_iload_n dX11_counts_42 rfl ?_
      refine rx_iastore dX11_counts_43 (sC_60) hvk ?_
      rw [hkc]
      refine rx_iload_n dX11_counts_44 rfl ?_
      exact rx_iret dX11_counts_45 rfl ⟨Nat.le_refl _, Nat.le_refl _⟩ ⟨rfl, _, rfl, ⟨by unfold aCounts; rw [if_neg (fun q => q hq1), if_neg (fun q => q hq2), hkc]; exact hr.sc.2.2.2.2.2.1 k (by omega), by unfold nCounts; rw [if_neg (fun q => q hq1), if_neg (fun q => q hq2), hkc]; exact hr.counts k v (by omega) hv1 hv⟩⟩
    · refine rx_bipush (-2) dX11_counts_21 (by decide) ?_
      exact rx_iret dX11_counts_23 rfl ⟨Nat.le_refl _, Nat.le_refl _⟩ ⟨rfl, _, rfl, ⟨by unfold aCounts; rw [if_neg (fun q => q (b2i_ne h6)), if_pos (b2i_eq h18)], by unfold nCounts; rw [if_neg (fun q => q (b2i_ne h6)), if_pos (b2i_eq h18)]; exact hr⟩⟩
  · refine rx_iconst (-1) dX11_counts_9 (by decide) ?_
    exact rx_iret dX11_counts_10 rfl ⟨Nat.le_refl _, Nat.le_refl _⟩ ⟨rfl, _, rfl, ⟨by unfold aCounts; rw [if_pos (b2i_eq h6)], by unfold nCounts; rw [if_pos (b2i_eq h6)]; exact hr⟩⟩
set_option maxRecDepth 20000 in
set_option maxHeartbeats 1000000 in
theorem cc_row (g : GG) (σ : SIG) (c k v : Int32) (S : SS) (L : LL) (hr : CRel S L σ) : Ci g 1 mX11_row [.ref 0, .int c, .int k, .int v] SHC S L (fun r S' L' => r = aRow σ c k v ∧ CRel S' L' (nRow σ c k v)) := by
  refine ct_of (ls := [some (.ref 0), some (.int c), some (.int k), some (.int v), none]) 1 (by decide +kernel) rfl rfl ?_
  refine rx_aload_n dX11_row_0 rfl ?_
  refine rx_getR dX11_row_1 flX11_54 (sC_0) rfl ?_
  refine rx_iload_n dX11_row_4 rfl ?_
  refine rx_cVi_1 clX11_104 dX11_row_5 (rcvo (sC_53) rfl) rfl (c_has g S53 _ S L) ?_
  refine pur3 ?_
  rw [show S 53 6 = nI (nN σ) from hr.sc.1]
  refine rx_if_eq 20 dX11_row_8 (by decide) (fun h8 => ?_) (fun h8 => ?_)
  · refine rx_iconst (-1) dX11_row_20 (by decide) ?_
    have hno : ¬ (0 ≤ c ∧ c < nI (nN σ)) ∨ ¬ (0 ≤ k ∧ k ≤ 3) := by first | exact Or.inl (b2i_eq h8) | exact Or.inr (b2i_eq h17)
    exact rx_iret dX11_row_21 rfl ⟨Nat.le_refl _, Nat.le_refl _⟩ ⟨rfl, _, rfl, ⟨by unfold aRow; rw [if_pos hno], by unfold nRow; rw [if_pos hno]; exact hr⟩⟩
  · refine rx_iload_n dX11_row_11 rfl ?_
    refine rx_iconst (0) dX11_row_12 (by decide) ?_
    refine rx_iconst (3) dX11_row_13 (by decide) ?_
    refine rx_cSi_3 clX11_92 dX11_row_14 rfl (c_within g _ _ _ S L) ?_
    refine pur3 ?_
    refine rx_if_ne 22 dX11_row_17 (by decide) (fun h17 => ?_) (fun h17 => ?_)
    · have hq1 := b2i_ne h8
      have hq2 := b2i_ne h17
      have hno : ¬ (¬ (0 ≤ c ∧ c < nI (nN σ)) ∨ ¬ (0 ≤ k ∧ k ≤ 3)) := fun q => q.elim (fun w => w hq1) (fun w => w hq2)
      refine rx_iload_n dX11_row_22 rfl ?_
      refine rx_iconst (0) dX11_row_23 (by decide) ?_
      refine rx_bipush (9) dX11_row_24 (by decide) ?_
      refine rx_cSi_3 clX11_92 dX11_row_26 rfl (c_within g _ _ _ S L) ?_
      refine pur3 ?_
      refine rx_if_ne 35 dX11_row_29 (by decide) (fun h29 => ?_) (fun h29 => ?_)
      · have hq3 := b2i_ne h29
        have hn7 : nN σ ≤ 7 := hr.n7
        obtain ⟨c, hc, rfl⟩ := rngL (nN σ) (by omega) hq1.1 hq1.2
        obtain ⟨k, hk, rfl⟩ := rngI 3 (by omega) hq2.1 hq2.2
        obtain ⟨v, hv, rfl⟩ := rngI 9 (by omega) hq3.1 hq3.2
        have e1 : (nI c).toNatClampNeg = c := nI_clamp (by omega)
        have e2 : (nI k).toNatClampNeg = k := nI_clamp (by omega)
        have e3 : (nI (c * 4 + k)).toNatClampNeg = c * 4 + k := nI_clamp (by omega)
        have hix : nI c * 4 + nI k = nI (c * 4 + k) := by rw [show (4 : Int32) = nI 4 from rfl, pk_mul, nI_add]
        have hvc : vp_in (nI c) 7 := vp_in_nI (by omega) (by omega)
        have hvx : vp_in (nI (c * 4 + k)) 28 := vp_in_nI (by omega) (by omega)
        refine rx_aload_n dX11_row_35 rfl ?_
        refine rx_getR dX11_row_36 flX11_54 (sC_0) rfl ?_
        refine rx_getR dX11_row_39 flX11_112 (sC_53) rfl ?_
        refine rx_iload_n dX11_row_42 rfl ?_
        refine rx_iaload dX11_row_43 (sC_54) hvc ?_
        rw [e1, hr.sc.2.1 c (by omega)]
        refine rx_bipush (6) dX11_row_44 (by decide) ?_
        refine rx_icmp_eq 52 dX11_row_46 (by decide) (fun h46 => ?_) (fun h46 => ?_)
        · refine rx_aload_n dX11_row_52 rfl ?_
          refine rx_getR dX11_row_53 flX11_54 (sC_0) rfl ?_
          refine rx_getR dX11_row_56 flX11_150 (sC_53) rfl ?_
          refine rx_iload_n dX11_row_59 rfl ?_
          refine rx_iconst (4) dX11_row_60 (by decide) ?_
          refine rx_imul dX11_row_61 ?_
          refine rx_iload_n dX11_row_62 rfl ?_
          refine rx_iadd dX11_row_63 ?_
          rw [hix]
          refine rx_iaload dX11_row_64 (sC_59) hvx ?_
          rw [e3]
          refine rx_istore_4 rfl dX11_row_65 ?_
          refine rx_aload_n dX11_row_67 rfl ?_
          refine rx_getR dX11_row_68 flX11_54 (sC_0) rfl ?_
          refine rx_getR dX11_row_71 flX11_150 (sC_53) rfl ?_
          refine rx_iload_n dX11_row_74 rfl ?_
          refine rx_iconst (4) dX11_row_75 (by decide) ?_
          refine rx_imul dX11_row_76 ?_
          refine rx_iload_n dX11_row_77 rfl ?_
          refine rx_iadd dX11_row_78 ?_
          rw [hix]
          refine rx_iload_n dX11_row_79 rfl ?_
          refine rx_iastore dX11_row_80 (sC_59) hvx ?_
          rw [e3]
          refine rx_iload dX11_row_81 rfl ?_
          exact rx_iret dX11_row_83 rfl ⟨Nat.le_refl _, Nat.le_refl _⟩ ⟨rfl, _, rfl, ⟨by unfold aRow; rw [if_neg hno, if_neg (fun q => q hq3), e1, e2, if_neg (fun q => q h46)]; exact hr.sc.2.2.2.2.1 _ (by omega), by unfold nRow; rw [if_neg hno, if_neg (fun q => q hq3), e1, e2, if_neg (fun q => q h46)]; exact hr.row _ v hv⟩⟩
        · refine rx_bipush (-3) dX11_row_49 (by decide) ?_
          exact rx_iret dX11_row_51 rfl ⟨Nat.le_refl _, Nat.le_refl _⟩ ⟨rfl, _, rfl, ⟨by unfold aRow; rw [if_neg hno, if_neg (fun q => q hq3), e1, if_pos h46], by unfold nRow; rw [if_neg hno, if_neg (fun q => q hq3), e1, if_pos h46]; exact hr⟩⟩
      · refine rx_bipush (-2) dX11_row_32 (by decide) ?_
        exact rx_iret dX11_row_34 rfl ⟨Nat.le_refl _, Nat.le_refl _⟩ ⟨rfl, _, rfl, ⟨by unfold aRow; rw [if_neg hno, if_pos (b2i_eq h29)], by unfold nRow; rw [if_neg hno, if_pos (b2i_eq h29)]; exact hr⟩⟩
    · refine rx_iconst (-1) dX11_row_20 (by decide) ?_
      have hno : ¬ (0 ≤ c ∧ c < nI (nN σ)) ∨ ¬ (0 ≤ k ∧ k ≤ 3) := by first | exact Or.inl (b2i_eq h8) | exact Or.inr (b2i_eq h17)
      exact rx_iret dX11_row_21 rfl ⟨Nat.le_refl _, Nat.le_refl _⟩ ⟨rfl, _, rfl, ⟨by unfold aRow; rw [if_pos hno], by unfold nRow; rw [if_pos hno]; exact hr⟩⟩
