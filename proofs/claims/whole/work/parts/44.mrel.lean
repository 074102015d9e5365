theorem MYd.off2 {y : Nat} {S S' : SS} {yd : YD} (h : MYd y S yd) (ho : ∀ j, 9 ≤ j → j ≤ 14 → S' j = S j) : MYd y S' yd := h.off ho
-- THE REFERENCE: its state
def MSe (S : SS) (l : List (Nat × Nat × Nat)) : Prop := S 0 42 = nI l.length ∧ ∀ i q, l[i]? = some q → S 25 i = nI q.1 ∧ S 26 i = nI q.2.1 ∧ S 27 i = nI q.2.2
def MBo (S : SS) (l : List (Nat × Nat)) : Prop := S 0 46 = nI l.length ∧ ∀ i q, l[i]? = some q → S 28 i = nI q.1 ∧ S 29 i = nI q.2
def MIm (S : SS) (s : SCN) : Prop := S 0 50 = thI (sY s) ∧ S 0 51 = nI s.1 ∧ S 0 52 = nI (dT (sD s)) ∧ S 0 53 = dW (sD s) ∧ S 0 54 = nI (sSn s).length ∧ S 0 55 = nI (sBk s).length ∧ (∀ c, c < 7 → S 30 c = s.2.1 c ∧ S 31 c = s.2.2.1 c ∧ S 32 c = dA (sD s) c ∧ S 33 c = s.2.2.2.1 c ∧ S 34 c = dS (sD s) c) ∧ (∀ c, c < 28 → S 35 c = s.2.2.2.2.1 c) ∧ (∀ c, c < 4 → S 36 c = s.2.2.2.2.2.1 c) ∧ (∀ i q, (sSn s)[i]? = some q → S 37 i = nI q.1 ∧ S 38 i = nI q.2.1 ∧ S 39 i = nI q.2.2) ∧ (∀ i q, (sBk s)[i]? = some q → S 40 i = nI q.1 ∧ S 41 i = nI q.2)
def MTp (S : SS) (L : LL) (σ : SIG) : Prop := ∀ t, t < 6 → S 43 t = gS σ t ∧ S 44 t = nI (gZ σ t) ∧ ∀ i, i < gZ σ t → L 45 (60 * t + i) = gL σ t i
def LTR : List Nat := [119, 111, 98, 98, 108, 101, 115, 116, 105, 108, 108, 102, 97, 114, 115, 104, 97, 114, 112, 115, 101, 101, 115]
def MLt (S : SS) : Prop := ∀ i, i < 23 → S 16 i = nI (LTR.getD i 0)
def MRst (S : SS) (L : LL) (σ : SIG) : Prop := S 0 11 = thI (sY (gN σ)) ∧ MSe S (sSn (gN σ)) ∧ MBo S (sBk (gN σ)) ∧ (gH σ = true → MIm S (gI σ)) ∧ S 0 49 = (if gH σ = true then 1 else 0) ∧ S 0 10 = nI (gC σ) ∧ (∀ y, y ≤ gC σ → MYd y S (gY σ y)) ∧ S 0 12 = nI (gT σ).length ∧ (∀ i q, (gT σ)[i]? = some q → S 8 i = nI q) ∧ S 0 68 = nI (gR σ) ∧ (∀ i, i < 20 → i < gR σ → S 42 i = gB σ i) ∧ MTp S L σ ∧ MLt S
def MRel (S : SS) (L : LL) (σ : SIG) : Prop := OKg σ ∧ MSc S (gE σ) (gD σ) ∧ (S 0 27 = -1 ∧ S 0 29 = 9999 ∧ S 0 30 = -1) ∧ MRst S L σ
def rkF (k : Nat) : Prop := k = 10 ∨ k = 11 ∨ k = 12 ∨ k = 42 ∨ k = 46 ∨ (49 ≤ k ∧ k ≤ 55) ∨ k = 68
theorem MIm.off {S S' : SS} {s : SCN} (h : MIm S s) (ho : ∀ j, 30 ≤ j → j ≤ 41 → S' j = S j) (h0 : ∀ k, 50 ≤ k → k ≤ 55 → S' 0 k = S 0 k) : MIm S' s := by
  unfold MIm at h ⊢
  rw [h0 50 (by decide) (by decide), h0 51 (by decide) (by decide), h0 52 (by decide) (by decide), h0 53 (by decide) (by decide), h0 54 (by decide) (by decide), h0 55 (by decide) (by decide), ho 30 (by decide) (by decide), ho 31 (by decide) (by decide), ho 32 (by decide) (by decide), ho 33 (by decide) (by decide), ho 34 (by decide) (by decide), ho 35 (by decide) (by decide), ho 36 (by decide) (by decide), ho 37 (by decide) (by decide), ho 38 (by decide) (by decide), ho 39 (by decide) (by decide), ho 40 (by decide) (by decide), ho 41 (by decide) (by decide)]
  exact h
theorem MSe.off {S S' : SS} {l : List (Nat × Nat × Nat)} (h : MSe S l) (h0 : S' 0 42 = S 0 42) (h1 : S' 25 = S 25) (h2 : S' 26 = S 26) (h3 : S' 27 = S 27) : MSe S' l := by
  unfold MSe at h ⊢
  rw [h0, h1, h2, h3]
  exact h
theorem MBo.off {S S' : SS} {l : List (Nat × Nat)} (h : MBo S l) (h0 : S' 0 46 = S 0 46) (h1 : S' 28 = S 28) (h2 : S' 29 = S 29) : MBo S' l := by
  unfold MBo at h ⊢
  rw [h0, h1, h2]
  exact h
theorem MRst.fr {S S' : SS} {L : LL} {σ : SIG} (h : MRst S L σ) (ho : ∀ j, (8 ≤ j ∧ j ≤ 16 ∧ j ≠ 15) ∨ 25 ≤ j → S' j = S j) (h0 : ∀ k, rkF k → S' 0 k = S 0 k) : MRst S' L σ := by
  obtain ⟨a1, a2, a3, a4, a5, a6, a7, a8, a9, a10, a11, a12, a13⟩ := h
  have q : ∀ j, (8 ≤ j ∧ j ≤ 16 ∧ j ≠ 15) ∨ 25 ≤ j → S' j = S j := ho
  refine ⟨by rw [h0 11 (by unfold rkF; decide)]; exact a1, a2.off (h0 42 (by unfold rkF; decide)) (q 25 (by decide)) (q 26 (by decide)) (q 27 (by decide)), a3.off (h0 46 (by unfold rkF; decide)) (q 28 (by decide)) (q 29 (by decide)), fun e => (a4 e).off (fun j h1 h2 => q j (by omega)) (fun k h1 h2 => h0 k (by unfold rkF; omega)), by rw [h0 49 (by unfold rkF; decide)]; exact a5, by rw [h0 10 (by unfold rkF; decide)]; exact a6, fun y hy => (MYd.off2 (a7 y hy) (fun j h1 h2 => q j (by omega))), by rw [h0 12 (by unfold rkF; decide)]; exact a8, by rw [q 8 (by decide)]; exact a9, by rw [h0 68 (by unfold rkF; decide)]; exact a10, by rw [q 42 (by decide)]; exact a11, ?_, by unfold MLt; rw [q 16 (by decide)]; exact a13⟩
  intro t ht
  rw [q 43 (by decide), q 44 (by decide)]
  exact a12 t ht
theorem MRel.rs {S S' : SS} {L : LL} {σ : SIG} (h : MRel S L σ) (hR : MRs (gE σ) (gD σ) S S') : MRel S' L σ := by
  obtain ⟨a1, a2, ⟨a3, a4, a5⟩, a6⟩ := h
  obtain ⟨b1, b2, b3, b4⟩ := hR
  refine ⟨a1, b1, ⟨by rw [b2.2 27 (by decide)]; exact a3, b3, b4⟩, a6.fr (fun j hj => b2.1 j (by omega) (by simp; omega)) (fun k hk => b2.2 k (by unfold rkF at hk; simp; omega))⟩
theorem MRel.pl {S S' : SS} {L : LL} {σ : SIG} (h : MRel S L σ) (hF : ∀ j, j ≠ 17 → S' j = S j) : MRel S' L σ := by
  obtain ⟨a1, a2, ⟨a3, a4, a5⟩, a6⟩ := h
  have h0 := hF 0 (by decide)
  exact ⟨a1, a2.off (fun j h _ _ => hF j h), ⟨by rw [h0]; exact a3, by rw [h0]; exact a4, by rw [h0]; exact a5⟩, a6.fr (fun j hj => hF j (by omega)) (fun k _ => by rw [h0])⟩
theorem MRel.en {S : SS} {L : LL} {σ : SIG} (h : MRel S L σ) : EnOK (gE σ) := h.1.1.1
theorem MRel.dok {S : SS} {L : LL} {σ : SIG} (h : MRel S L σ) : DOK (eN (gE σ)) (gD σ) := h.1.1.2.1
theorem MRel.t {S : SS} {L : LL} {σ : SIG} (h : MRel S L σ) : dT (gD σ) ≤ 9999 := h.1.1.2.2.1
theorem MRel.sc {S : SS} {L : LL} {σ : SIG} (h : MRel S L σ) : MSc S (gE σ) (gD σ) := h.2.1
theorem MRel.sm {S : SS} {L : LL} {σ : SIG} (h : MRel S L σ) : S 0 27 = -1 := h.2.2.1.1
theorem MRel.ms {S : SS} {L : LL} {σ : SIG} (h : MRel S L σ) : S 0 29 = 9999 := h.2.2.1.2.1
theorem MRel.id {S : SS} {L : LL} {σ : SIG} (h : MRel S L σ) : S 0 30 = -1 := h.2.2.1.2.2
theorem MRel.se {S : SS} {L : LL} {σ : SIG} (h : MRel S L σ) : SeM S (gE σ) (seesE σ) := Or.inl ⟨h.sm, rfl⟩
theorem MRel.n7 {S : SS} {L : LL} {σ : SIG} (h : MRel S L σ) : nN σ ≤ 7 := h.1.1.1.1
theorem MRel.sz {S : SS} {L : LL} {σ : SIG} (h : MRel S L σ) : S 0 0 = nI (nN σ) := h.2.1.1
theorem MRel.now {S S' : SS} {L : LL} {σ : SIG} {s' : SCN} (h : MRel S L σ) (hs : MSc S' (enOf s' (gY σ)) (sD s')) (hk : OKs s' (gY σ)) (hy : sY s' ≤ gC σ) (h3 : S' 0 27 = -1 ∧ S' 0 29 = 9999 ∧ S' 0 30 = -1) (hr : MRst S' L (s', σ.2)) : MRel S' L (s', σ.2) := by
  obtain ⟨⟨k0, k1, k2, k3, k4⟩, -⟩ := h
  exact ⟨⟨hk, k1, k2, hy, k4⟩, hs, h3, hr⟩
theorem MRel.turn {S S' : SS} {L : LL} {σ : SIG} {D' : DY} (h : MRel S L σ) (hR : MSc S' (gE σ) D') (hF : MF S S') (hD : DOK (nN σ) D') (ht : dT D' ≤ 9999) : MRel S' L (wD (gN σ) D', σ.2) := by
  obtain ⟨k0, k1, k2, k3, k4, k5, k6⟩ := h.1.1
  refine h.now hR ⟨k0, hD, ht, k3, k4, k5, k6⟩ h.1.2.2.2.1 ⟨by rw [hF.2 27 (by decide) (by decide)]; exact h.sm, by rw [hF.2 29 (by decide) (by decide)]; exact h.ms, by rw [hF.2 30 (by decide) (by decide)]; exact h.id⟩ ?_
  exact MRst.fr (σ := (wD (gN σ) D', σ.2)) (S := S) h.2.2.2 (fun j hj => hF.1 j (by omega) (by omega) (by omega) (by omega) (by omega) (by omega)) (fun k hk => hF.2 k (by unfold rkF at hk; omega) (by unfold rkF at hk; omega))
theorem on_iff {N : Nat} (hN : N ≤ 7) {w : Int32} : (10 ≤ w ∧ w ≤ 9 + nI N) ↔ ((10 ≤ w ∧ w ≤ 16) ∧ (0 ≤ w - 10 ∧ w - 10 < nI N)) := by
  rw [show (9 : Int32) + nI N = nI (9 + N) from nI_add 9 N]
  constructor
  · rintro ⟨h1, h2⟩
    obtain ⟨j, hj, rfl⟩ := rngI (9 + N) (by omega) (Int32.le_trans (by decide) h1) h2
    have h3 : 10 ≤ j := (nI_leI (a := 10) (by decide) (by omega)).mp h1
    rw [show nI j - 10 = nI (j - 10) from pk_sub (b := 10) h3]
    exact ⟨⟨h1, nI_le (b := 16) (by omega) (by omega)⟩, nI_pos' (by omega), nI_lt (by omega) (by omega)⟩
  · rintro ⟨⟨h1, h2⟩, h4, h5⟩
    obtain ⟨j, hj, rfl⟩ := rngI 16 (by omega) (Int32.le_trans (by decide) h1) h2
    have h3 : 10 ≤ j := (nI_leI (a := 10) (by decide) (by omega)).mp h1
    rw [show nI j - 10 = nI (j - 10) from pk_sub (b := 10) h3] at h5
    have h6 := (nI_ltI (by omega) (by omega)).mp h5
    exact ⟨h1, nI_le (by omega) (by omega)⟩
theorem q01 {x : Int32} (h : 0 ≤ x ∧ x ≤ 1) : x = 0 ∨ x = 1 := by
  obtain ⟨j, hj, rfl⟩ := rngI 1 (by omega) h.1 h.2
  rcases (show j = 0 ∨ j = 1 by omega) with rfl | rfl
  · exact Or.inl rfl
  · exact Or.inr rfl
theorem m_onesD (g : GG) {sh : List CS} (z n : Nat) (D : DY) (S : SS) (L : LL) (h : DOK n D) (hn : n ≤ 7) : Ci g 0 mX12_ones [.ref z, .int (dW D)] sh S L (fun r S' L' => r = popc (dW D) ∧ S' = S ∧ L' = L) := by
  obtain ⟨W, hW, e⟩ := h.1
  rw [e]
  exact m_ones g z W S L (Nat.lt_of_lt_of_le hW (pow7 hn))

set_option maxRecDepth 20000 in
set_option maxHeartbeats 1000000 in
theorem mc_of (g : GG) (σ : SIG) (c what : Int32) (S : SS) (L : LL) (hr : MRel S L σ) : Ci g 5 mX12_of [.ref 0, .int c, .int what] SHM S L (fun r S' L' => r = aOf σ c what ∧ MRel S' L' σ) := by
  refine ct_of (ls := [some (.ref 0), some (.int c), some (.int what)]) 0 (by decide +kernel) rfl rfl ?_
  refine rx_aload_n dX12_of_0 rfl ?_
  refine rx_iload_n dX12_of_1 rfl ?_
  refine rx_cVi_1 clX12_240 dX12_of_2 (rcvo (sM_0) rfl) rfl (m_isChild g (nN σ) c S L hr.n7 hr.sz) ?_
  refine pur3 ?_
  refine rx_if_ne 10 dX12_of_5 (by decide) (fun h5 => ?_) (fun h5 => ?_)
  · have hq := b2i_ne h5
    obtain ⟨c, hc, rfl⟩ := rngL (nN σ) (by have := hr.n7; omega) hq.1 hq.2
    have hc7 : c < 7 := by have := hr.n7; omega
    have hci : (nI c).toNatClampNeg = c := nI_clamp (by omega)
    have hvc : vp_in (nI c) 7 := vp_in_nI hc7 (by omega)
    refine rx_iload_n dX12_of_10 rfl ?_
    rcases swN 8 (by decide) what with hw | ⟨j, hj, rfl⟩
    · have hw : what.toInt < 0 ∨ 8 < what.toInt := hw
      refine rx_tableOut 131 dX12_of_11 hw (by decide) ?_
      refine rx_iconst (-1) dX12_of_131 (by decide) ?_
      exact rx_iret dX12_of_132 rfl ⟨Nat.le_refl _, Nat.le_refl _⟩ ⟨rfl, _, rfl, ⟨by unfold aOf; rw [if_pos hq, if_pos hw], hr⟩⟩
    · rcases (show j = 0 ∨ j = 1 ∨ j = 2 ∨ j = 3 ∨ j = 4 ∨ j = 5 ∨ j = 6 ∨ j = 7 ∨ j = 8 by omega) with rfl | rfl | rfl | rfl | rfl | rfl | rfl | rfl | rfl
      · refine rx_tableIn 60 dX12_of_11 (by decide) (by decide) (by rfl) (by decide) ?_
        refine rx_aload_n dX12_of_60 rfl ?_
        refine rx_getR dX12_of_61 flX12_19 (sM_0) rfl ?_
        refine rx_iload_n dX12_of_64 rfl ?_
        refine rx_iaload dX12_of_65 (sM_1) hvc ?_
        rw [hci]
        exact rx_iret dX12_of_66 rfl ⟨Nat.le_refl _, Nat.le_refl _⟩ ⟨rfl, _, rfl, ⟨by unfold aOf; rw [if_pos hq, if_neg (by decide), hci]; exact hr.sc.k hc7, hr⟩⟩
      · refine rx_tableIn 67 dX12_of_11 (by decide) (by decide) (by rfl) (by decide) ?_
        refine rx_aload_n dX12_of_67 rfl ?_
        refine rx_getR dX12_of_68 flX12_23 (sM_0) rfl ?_
        refine rx_iload_n dX12_of_71 rfl ?_
        refine rx_iaload dX12_of_72 (sM_2) hvc ?_
        rw [hci]
        exact rx_iret dX12_of_73 rfl ⟨Nat.le_refl _, Nat.le_refl _⟩ ⟨rfl, _, rfl, ⟨by unfold aOf; rw [if_pos hq, if_neg (by decide), hci]; exact hr.sc.v hc7, hr⟩⟩
      · refine rx_tableIn 74 dX12_of_11 (by decide) (by decide) (by rfl) (by decide) ?_
        refine rx_aload_n dX12_of_74 rfl ?_
        refine rx_getR dX12_of_75 flX12_26 (sM_0) rfl ?_
        refine rx_iload_n dX12_of_78 rfl ?_
        refine rx_iaload dX12_of_79 (sM_3) hvc ?_
        rw [hci]
        exact rx_iret dX12_of_80 rfl ⟨Nat.le_refl _, Nat.le_refl _⟩ ⟨rfl, _, rfl, ⟨by unfold aOf; rw [if_pos hq, if_neg (by decide), hci]; exact hr.sc.a hc7, hr⟩⟩
      · refine rx_tableIn 81 dX12_of_11 (by decide) (by decide) (by rfl) (by decide) ?_
        refine rx_aload_n dX12_of_81 rfl ?_
        refine rx_getR dX12_of_82 flX12_29 (sM_0) rfl ?_
        refine rx_iload_n dX12_of_85 rfl ?_
        refine rx_iaload dX12_of_86 (sM_4) hvc ?_
        rw [hci]
        exact rx_iret dX12_of_87 rfl ⟨Nat.le_refl _, Nat.le_refl _⟩ ⟨rfl, _, rfl, ⟨by unfold aOf; rw [if_pos hq, if_neg (by decide), hci]; exact hr.sc.e hc7, hr⟩⟩
      · refine rx_tableIn 88 dX12_of_11 (by decide) (by decide) (by rfl) (by decide) ?_
        refine rx_aload_n dX12_of_88 rfl ?_
        refine rx_getR dX12_of_89 flX12_32 (sM_0) rfl ?_
        refine rx_iload_n dX12_of_92 rfl ?_
        refine rx_iaload dX12_of_93 (sM_5) hvc ?_
        rw [hci]
        exact rx_iret dX12_of_94 rfl ⟨Nat.le_refl _, Nat.le_refl _⟩ ⟨rfl, _, rfl, ⟨by unfold aOf; rw [if_pos hq, if_neg (by decide), hci]; exact hr.sc.s hc7, hr⟩⟩
      · refine rx_tableIn 95 dX12_of_11 (by decide) (by decide) (by rfl) (by decide) ?_
        refine rx_aload_n dX12_of_95 rfl ?_
        refine rx_aload_n dX12_of_96 rfl ?_
        refine rx_getI dX12_of_97 flX12_16 (sM_0) rfl ?_
        refine rx_iload_n dX12_of_100 rfl ?_
        refine rx_cVi_2 clX12_328 dX12_of_101 (rcvo (sM_0) rfl) rfl (m_has g 0 _ _ S L) ?_
        refine pur3 ?_
        refine rx_if_eq 111 dX12_of_104 (by decide) (fun h104 => ?_) (fun h104 => ?_)
        · refine rx_iconst (0) dX12_of_111 (by decide) ?_
          exact rx_iret dX12_of_112 rfl ⟨Nat.le_refl _, Nat.le_refl _⟩ ⟨rfl, _, rfl, ⟨by unfold aOf; rw [if_pos hq, if_neg (by decide), hci]; show _ = b2i (¬ bitv (dW (gD σ)) (nI c) = 0); rw [show dW (gD σ) = S 0 2 from hr.sc.w.symm]; first | exact b2i_t (b2i_ne h104) | exact b2i_f (b2i_eq h104), hr⟩⟩
        · refine rx_iconst (1) dX12_of_107 (by decide) ?_
          refine rx_goto 112 dX12_of_108 (by decide) ?_
          exact rx_iret dX12_of_112 rfl ⟨Nat.le_refl _, Nat.le_refl _⟩ ⟨rfl, _, rfl, ⟨by unfold aOf; rw [if_pos hq, if_neg (by decide), hci]; show _ = b2i (¬ bitv (dW (gD σ)) (nI c) = 0); rw [show dW (gD σ) = S 0 2 from hr.sc.w.symm]; first | exact b2i_t (b2i_ne h104) | exact b2i_f (b2i_eq h104), hr⟩⟩
      · refine rx_tableIn 113 dX12_of_11 (by decide) (by decide) (by rfl) (by decide) ?_
        refine rx_aload_n dX12_of_113 rfl ?_
        refine rx_iload_n dX12_of_114 rfl ?_
        refine rx_cVi_1 clX12_316 dX12_of_115 (rcvo (sM_0) rfl) rfl (m_pace g _ _ c S L hr.sc hr.en hc) ?_
        refine pur3 ?_
        exact rx_iret dX12_of_118 rfl ⟨Nat.le_refl _, Nat.le_refl _⟩ ⟨rfl, _, rfl, ⟨by unfold aOf; rw [if_pos hq, if_neg (by decide), hci]; exact rfl, hr⟩⟩
      · refine rx_tableIn 119 dX12_of_11 (by decide) (by decide) (by rfl) (by decide) ?_
        refine rx_aload_n dX12_of_119 rfl ?_
        refine rx_iload_n dX12_of_120 rfl ?_
        refine rx_cVi_1 clX12_319 dX12_of_121 (rcvo (sM_0) rfl) rfl (m_goes g _ _ c S L hr.sc hr.en hc) ?_
        refine pur3 ?_
        exact rx_iret dX12_of_124 rfl ⟨Nat.le_refl _, Nat.le_refl _⟩ ⟨rfl, _, rfl, ⟨by unfold aOf; rw [if_pos hq, if_neg (by decide), hci]; exact rfl, hr⟩⟩
      · refine rx_tableIn 125 dX12_of_11 (by decide) (by decide) (by rfl) (by decide) ?_
        refine rx_aload_n dX12_of_125 rfl ?_
        refine rx_iload_n dX12_of_126 rfl ?_
        refine rx_cVi_1 clX12_331 dX12_of_127 (rcvo (sM_0) rfl) rfl (m_wobbles g _ _ c S L hr.sc hr.en hc) ?_
        rintro x2 S2 L2 ⟨hx2, hF2, hL2⟩
        rw [hL2, hx2]
        have hr2 := hr.pl hF2
        exact rx_iret dX12_of_130 rfl ⟨Nat.le_refl _, Nat.le_refl _⟩ ⟨rfl, _, rfl, ⟨by unfold aOf; rw [if_pos hq, if_neg (by decide), hci]; exact rfl, hr2⟩⟩
  · refine rx_iconst (-1) dX12_of_8 (by decide) ?_
    exact rx_iret dX12_of_9 rfl ⟨Nat.le_refl _, Nat.le_refl _⟩ ⟨rfl, _, rfl, ⟨(if_neg (b2i_eq h5)).symm, hr⟩⟩
set_option maxRecDepth 20000 in
set_option maxHeartbeats 1000000 in
theorem mc_told (g : GG) (σ : SIG) (what : Int32) (S : SS) (L : LL) (hr : MRel S L σ) : Ci g 3 mX12_told [.ref 0, .int what] SHM S L (fun r S' L' => r = aTold σ what ∧ MRel S' L' σ) := by
  refine ct_of (ls := [some (.ref 0), some (.int what)]) 0 (by decide +kernel) rfl rfl ?_
  refine rx_aload_n dX12_told_0 rfl ?_
  refine rx_iload_n dX12_told_1 rfl ?_
  refine rx_bipush (10) dX12_told_2 (by decide) ?_
  refine rx_bipush (13) dX12_told_4 (by decide) ?_
  refine rx_cVi_3 clX12_236 dX12_told_6 (rcvo (sM_0) rfl) rfl (m_in g 0 _ _ _ S L) ?_
  refine pur3 ?_
  refine rx_if_eq 22 dX12_told_9 (by decide) (fun h9 => ?_) (fun h9 => ?_)
  · refine rx_iload_n dX12_told_22 rfl ?_
    rcases swN 4 (by decide) what with hw | ⟨j, hj, rfl⟩
    · have hw : what.toInt < 0 ∨ 4 < what.toInt := hw
      refine rx_tableOut 81 dX12_told_23 hw (by decide) ?_
      refine rx_iconst (-1) dX12_told_81 (by decide) ?_
      exact rx_iret dX12_told_82 rfl ⟨Nat.le_refl _, Nat.le_refl _⟩ ⟨rfl, _, rfl, ⟨by unfold aTold; rw [if_pos hw, if_neg (b2i_eq h9)], hr⟩⟩
    · rcases (show j = 0 ∨ j = 1 ∨ j = 2 ∨ j = 3 ∨ j = 4 by omega) with rfl | rfl | rfl | rfl | rfl
      · refine rx_tableIn 56 dX12_told_23 (by decide) (by decide) (by rfl) (by decide) ?_
        refine rx_aload_n dX12_told_56 rfl ?_
        refine rx_getI dX12_told_57 flX12_13 (sM_0) rfl ?_
        exact rx_iret dX12_told_60 rfl ⟨Nat.le_refl _, Nat.le_refl _⟩ ⟨rfl, _, rfl, ⟨by unfold aTold; rw [if_neg (by decide)]; exact hr.sc.t, hr⟩⟩
      · refine rx_tableIn 61 dX12_told_23 (by decide) (by decide) (by rfl) (by decide) ?_
        refine rx_aload_n dX12_told_61 rfl ?_
        refine rx_cVi_0 clX12_244 dX12_told_62 (rcvo (sM_0) rfl) rfl (m_far g _ _ S L hr.sc) ?_
        refine pur3 ?_
        exact rx_iret dX12_told_65 rfl ⟨Nat.le_refl _, Nat.le_refl _⟩ ⟨rfl, _, rfl, ⟨by unfold aTold; rw [if_neg (by decide)]; exact rfl, hr⟩⟩
      · refine rx_tableIn 66 dX12_told_23 (by decide) (by decide) (by rfl) (by decide) ?_
        refine rx_aload_n dX12_told_66 rfl ?_
        refine rx_cVi_0 clX12_334 dX12_told_67 (rcvo (sM_0) rfl) rfl (m_sharp g _ _ S L hr.sc) ?_
        refine pur3 ?_
        exact rx_iret dX12_told_70 rfl ⟨Nat.le_refl _, Nat.le_refl _⟩ ⟨rfl, _, rfl, ⟨by unfold aTold; rw [if_neg (by decide)]; exact rfl, hr⟩⟩
      · refine rx_tableIn 71 dX12_told_23 (by decide) (by decide) (by rfl) (by decide) ?_
        refine rx_aload_n dX12_told_71 rfl ?_
        refine rx_cVi_0 clX12_337 dX12_told_72 (rcvo (sM_0) rfl) rfl (m_sees g _ _ _ S L hr.sc hr.se) ?_
        refine pur3 ?_
        exact rx_iret dX12_told_75 rfl ⟨Nat.le_refl _, Nat.le_refl _⟩ ⟨rfl, _, rfl, ⟨by unfold aTold; rw [if_neg (by decide)]; exact rfl, hr⟩⟩
      · refine rx_tableIn 76 dX12_told_23 (by decide) (by decide) (by rfl) (by decide) ?_
        refine rx_aload_n dX12_told_76 rfl ?_
        refine rx_getI dX12_told_77 flX12_16 (sM_0) rfl ?_
        exact rx_iret dX12_told_80 rfl ⟨Nat.le_refl _, Nat.le_refl _⟩ ⟨rfl, _, rfl, ⟨by unfold aTold; rw [if_neg (by decide)]; exact hr.sc.w, hr⟩⟩
  · have hq := b2i_ne h9
    obtain ⟨c, hc, ec⟩ := rngI 3 (x := what - 10) (by omega) (le_sub10 hq.1 hq.2).1 (le_sub10 hq.1 hq.2).2
    have hci : (nI c).toNatClampNeg = c := nI_clamp (by omega)
    have hvc : vp_in (nI c) 4 := vp_in_nI (by omega) (by omega)
    have hw : what.toInt < 0 ∨ 4 < what.toInt := Or.inr (by have := hq.1; rw [Int32.le_iff_toInt_le] at this; have e : (10 : Int32).toInt = 10 := by decide +kernel
                                                            omega)
    refine rx_aload_n dX12_told_12 rfl ?_
    refine rx_getR dX12_told_13 flX12_38 (sM_0) rfl ?_
    refine rx_iload_n dX12_told_16 rfl ?_
    refine rx_bipush (10) dX12_told_17 (by decide) ?_
    refine rx_isub dX12_told_19 ?_
    rw [ec]
    refine rx_iaload dX12_told_20 (sM_7) hvc ?_
    rw [hci]
    exact rx_iret dX12_told_21 rfl ⟨Nat.le_refl _, Nat.le_refl _⟩ ⟨rfl, _, rfl, ⟨by unfold aTold; rw [if_pos hw, if_pos hq, ec, hci]; exact hr.sc.2.2.2.2.2.1 c (by omega), hr⟩⟩
set_option maxRecDepth 20000 in
set_option maxHeartbeats 1000000 in
theorem mc_turn (g : GG) (σ : SIG)  (S : SS) (L : LL) (hr : MRel S L σ) : Ci g 6 mX12_turn [.ref 0] SHM S L (fun r S' L' => r = aTurn σ ∧ MRel S' L' (nTurn σ)) := by
  refine ct_of (ls := [some (.ref 0)]) 0 (by decide +kernel) rfl rfl ?_
  refine rx_aload_n dX12_turn_0 rfl ?_
  refine rx_getI dX12_turn_1 flX12_13 (sM_0) rfl ?_
  refine rx_sipush (9999) dX12_turn_4 (by decide) ?_
  rw [hr.sc.t]
  refine rx_icmp_ne 15 dX12_turn_7 (by decide) (fun h7 => ?_) (fun h7 => ?_)
  · have hlt : dT (gD σ) < 9999 := by
      rcases Nat.lt_or_ge (dT (gD σ)) 9999 with q | q
      · exact q
      · exact absurd (by rw [show dT (gD σ) = 9999 from Nat.le_antisymm hr.t q]; rfl) h7
    have hms : ∀ c, c < eN (gE σ) → dS (gD σ) c < S 0 29 := fun c hc => by
      obtain ⟨s, hs, e⟩ := hr.dok.2.2 c hc
      rw [e, hr.ms, show (9999 : Int32) = nI 9999 from rfl]
      exact nI_lt (by omega) (by omega)
    refine rx_aload_n dX12_turn_15 rfl ?_
    refine rx_cVi_0 clX12_343 dX12_turn_16 (rcvo (sM_0) rfl) rfl (m_goTurn g (gE σ) (gD σ) (seesE σ) (-1) S L hr.en (by omega) hms hr.sc hr.se hr.id) ?_
    rintro x2 S2 L2 ⟨hx2, hM2, hF2, hL2⟩
    rw [hL2, hx2]
    exact rx_iret dX12_turn_19 rfl ⟨Nat.le_refl _, Nat.le_refl _⟩ ⟨rfl, _, rfl, ⟨by unfold aTurn; rw [if_pos hlt], by unfold nTurn; rw [if_pos hlt]; exact hr.turn hM2 hF2 (DOK_step hr.en _ _ hr.dok) (by show dT (gD σ) + 1 ≤ 9999; omega)⟩⟩
  · have hn : ¬ dT (gD σ) < 9999 := fun q => absurd ((nI_eq (b := 9999) (by omega) (by omega)).mp h7) (by omega)
    refine rx_bipush (-3) dX12_turn_10 (by decide) ?_
    refine rx_goto 19 dX12_turn_12 (by decide) ?_
    exact rx_iret dX12_turn_19 rfl ⟨Nat.le_refl _, Nat.le_refl _⟩ ⟨rfl, _, rfl, ⟨by unfold aTurn; rw [if_neg hn], by unfold nTurn; rw [if_neg hn]; exact hr⟩⟩
set_option maxRecDepth 20000 in
set_option maxHeartbeats 1000000 in
theorem mc_risks (g : GG) (σ : SIG)  (S : SS) (L : LL) (hr : MRel S L σ) : Ci g 5 mX12_risks [.ref 0] SHM S L (fun r S' L' => r = rkP σ (nN σ) ∧ MRel S' L' σ) := by
  refine ct_of (ls := [some (.ref 0), none, none]) 2 (by decide +kernel) rfl rfl ?_
  have hn7 := hr.n7
  have loop : ∀ (r c : Nat) (S1 : SS), c + r = nN σ → (MRel S1 L σ) → Rx g 5 0 0 mX12_risks SHM.length (fun r sh' S' L' => sh' = SHM ∧ ∃ x, r = some (.int x) ∧ (x = rkP σ (nN σ) ∧ MRel S' L' σ)) 0 0 4 [some (.ref 0), some (.int (rkP σ c)), some (.int (nI c))] [] SHM S1 L := by
    intro r
    induction r with
    | zero =>
      intro c S1 hc hI
      have hcn : c = nN σ := by omega
      have hsz : S1 0 0 = nI (nN σ) := hI.sz
      refine rx_iload_n dX12_risks_4 rfl ?_
      refine rx_aload_n dX12_risks_5 rfl ?_
      refine rx_getI dX12_risks_6 flX12_7 (sM_0) rfl ?_
      refine rx_icmp_ge 52 dX12_risks_9 (by decide) (fun h9 => ?_) (fun h9 => absurd (by rw [hsz]; exact nI_le (by omega) (by omega)) h9)
      refine rx_iload_n dX12_risks_52 rfl ?_
      exact rx_iret dX12_risks_53 rfl ⟨Nat.le_refl _, Nat.le_refl _⟩ ⟨rfl, _, rfl, ⟨by rw [hcn], hI⟩⟩
    | succ r ih =>
      intro c S1 hc hI
      have hc7 : c < 7 := by omega
      have hci : (nI c).toNatClampNeg = c := nI_clamp (by omega)
      have hvc : vp_in (nI c) 7 := vp_in_nI hc7 (by omega)
      have hsz : S1 0 0 = nI (nN σ) := hI.sz
      refine rx_iload_n dX12_risks_4 rfl ?_
      refine rx_aload_n dX12_risks_5 rfl ?_
      refine rx_getI dX12_risks_6 flX12_7 (sM_0) rfl ?_
      refine rx_icmp_ge 52 dX12_risks_9 (by decide) (fun h9 => absurd h9 (by rw [hsz]; exact nI_ge (by omega) (by omega))) (fun h9 => ?_)
      refine rx_iload_n dX12_risks_12 rfl ?_
      refine rx_aload_n dX12_risks_13 rfl ?_
      refine rx_aload_n dX12_risks_14 rfl ?_
      refine rx_getI dX12_risks_15 flX12_16 (sM_0) rfl ?_
      rw [show S1 0 2 = dW (gD σ) from hI.sc.w]
      refine rx_iload_n dX12_risks_18 rfl ?_
      refine rx_cVi_2 clX12_328 dX12_risks_19 (rcvo (sM_0) rfl) rfl (m_has g 0 _ _ S1 L) ?_
      refine pur3 ?_
      refine rx_if_ne 43 dX12_risks_22 (by decide) (fun h22 => ?_) (fun h22 => ?_)
      · refine rx_iconst (0) dX12_risks_43 (by decide) ?_
        refine rx_ior dX12_risks_44 ?_
        refine rx_istore_1 rfl dX12_risks_45 ?_
        refine rx_iinc_2 (1) rfl dX12_risks_46 (by decide) ?_
        refine rx_goto 4 dX12_risks_49 (by decide) ?_
        rw [nI_1, Int32.or_zero, show rkP σ c = rkP σ (c + 1) from (if_neg (fun q => b2i_ne h22 q.1)).symm]
        exact ih (c + 1) S1 (by omega) hI
      · refine rx_aload_n dX12_risks_25 rfl ?_
        refine rx_iload_n dX12_risks_26 rfl ?_
        refine rx_cVi_1 clX12_331 dX12_risks_27 (rcvo (sM_0) rfl) rfl (m_wobbles g _ _ c S1 L hI.sc hI.en (show c < nN σ by omega)) ?_
        rintro x2 S2 L2 ⟨hx2, hF2, hL2⟩
        rw [hL2, hx2]
        have hr2 := hI.pl hF2
        refine rx_aload_n dX12_risks_30 rfl ?_
        refine rx_cVi_0 clX12_334 dX12_risks_31 (rcvo (sM_0) rfl) rfl (m_sharp g _ _ S2 L hr2.sc) ?_
        refine pur3 ?_
        refine rx_icmp_le 43 dX12_risks_34 (by decide) (fun h34 => ?_) (fun h34 => ?_)
        · refine rx_iconst (0) dX12_risks_43 (by decide) ?_
          refine rx_ior dX12_risks_44 ?_
          refine rx_istore_1 rfl dX12_risks_45 ?_
          refine rx_iinc_2 (1) rfl dX12_risks_46 (by decide) ?_
          refine rx_goto 4 dX12_risks_49 (by decide) ?_
          rw [nI_1, Int32.or_zero, show rkP σ c = rkP σ (c + 1) from (if_neg (fun q => Int32.not_lt.mpr h34 q.2)).symm]
          exact ih (c + 1) S2 (by omega) hr2
        · refine rx_iconst (1) dX12_risks_37 (by decide) ?_
          refine rx_iload_n dX12_risks_38 rfl ?_
          refine rx_ishl dX12_risks_39 ?_
          refine rx_goto 44 dX12_risks_40 (by decide) ?_
          refine rx_ior dX12_risks_44 ?_
          refine rx_istore_1 rfl dX12_risks_45 ?_
          refine rx_iinc_2 (1) rfl dX12_risks_46 (by decide) ?_
          refine rx_goto 4 dX12_risks_49 (by decide) ?_
          rw [nI_1, show rkP σ c ||| (1 <<< (nI c &&& 31)) = rkP σ (c + 1) from (if_pos ⟨Decidable.not_not.mp (b2i_eq h22), Int32.not_le.mp h34⟩).symm]
          exact ih (c + 1) S2 (by omega) hr2
  refine rx_iconst (0) dX12_risks_0 (by decide) ?_
  refine rx_istore_1 rfl dX12_risks_1 ?_
  refine rx_iconst (0) dX12_risks_2 (by decide) ?_
  refine rx_istore_2 rfl dX12_risks_3 ?_
  exact loop (nN σ) 0 S (by omega) hr
set_option maxRecDepth 20000 in
set_option maxHeartbeats 1000000 in
theorem mc_on (g : GG) (σ : SIG) (n what : Int32) (S : SS) (L : LL) (hr : MRel S L σ) : Ci g 7 mX12_on [.ref 0, .int n, .int what] SHM S L (fun r S' L' => r = aOn σ n what ∧ MRel S' L' σ) := by
  refine ct_of (ls := [some (.ref 0), some (.int n), some (.int what)]) 0 (by decide +kernel) rfl rfl ?_
  refine rx_aload_n dX12_on_0 rfl ?_
  refine rx_iload_n dX12_on_1 rfl ?_
  refine rx_iconst (0) dX12_on_2 (by decide) ?_
  refine rx_iconst (1) dX12_on_3 (by decide) ?_
  refine rx_cVi_3 clX12_236 dX12_on_4 (rcvo (sM_0) rfl) rfl (m_in g 0 _ _ _ S L) ?_
  refine pur3 ?_
  refine rx_if_ne 29 dX12_on_7 (by decide) (fun h7 => ?_) (fun h7 => ?_)
  · have hnn : ¬ (¬ ((10 ≤ what ∧ what ≤ 16) ∧ (0 ≤ what - 10 ∧ what - 10 < nI (nN σ))) ∧ ¬ (0 ≤ what ∧ what ≤ 1)) := by first | exact fun q => q.2 (b2i_ne h7) | exact fun q => q.1 ((on_iff hr.n7).mp (b2i_ne h24))
    refine rx_aload_n dX12_on_29 rfl ?_
    refine rx_iload_n dX12_on_30 rfl ?_
    refine rx_iconst (0) dX12_on_31 (by decide) ?_
    refine rx_bipush (40) dX12_on_32 (by decide) ?_
    refine rx_cVi_3 clX12_236 dX12_on_34 (rcvo (sM_0) rfl) rfl (m_in g 0 _ _ _ S L) ?_
    refine pur3 ?_
    refine rx_if_ne 43 dX12_on_37 (by decide) (fun h37 => ?_) (fun h37 => ?_)
    · have hnr := b2i_ne h37
      obtain ⟨m, hm, rfl⟩ := rngI 40 (by omega) (hnr.1) hnr.2
      have hmc : (nI m).toNatClampNeg = m := nI_clamp (by omega)
      refine rx_aload_n dX12_on_43 rfl ?_
      refine rx_iload_n dX12_on_44 rfl ?_
      refine rx_cVv_1 clX12_353 dX12_on_45 (rcvo (sM_0) rfl) rfl (m_lay g (gE σ) (gD σ) (seesE σ) m S L hr.en hr.dok (by have := hr.t; omega) hr.sc hr.se hr.id) ?_
      rintro S2 L2 ⟨⟨q1, q2, q3, q4⟩, hL2⟩
      rw [hL2]
      have hr2 := hr.rs q1
      refine rx_iload_n dX12_on_48 rfl ?_
      refine rx_if_ne 63 dX12_on_49 (by decide) (fun h49 => ?_) (fun h49 => ?_)
      · refine rx_iload_n dX12_on_63 rfl ?_
        refine rx_iconst (1) dX12_on_64 (by decide) ?_
        refine rx_icmp_ne 75 dX12_on_65 (by decide) (fun h65 => ?_) (fun h65 => ?_)
        · have hP : ((10 ≤ what ∧ what ≤ 16) ∧ (0 ≤ what - 10 ∧ what - 10 < nI (nN σ))) := Decidable.byContradiction (fun p => hnn ⟨p, fun q => (q01 q).elim h49 h65⟩)
          obtain ⟨c, hc, ec⟩ := rngL (nN σ) (by have := hr.n7; omega) hP.2.1 hP.2.2
          have hc7 : c < 7 := by have := hr.n7; omega
          have hvc : vp_in (nI c) 7 := vp_in_nI hc7 (by omega)
          have hci : (nI c).toNatClampNeg = c := nI_clamp (by omega)
          refine rx_aload_n dX12_on_75 rfl ?_
          refine rx_getR dX12_on_76 flX12_123 (sM_0) rfl ?_
          refine rx_iload_n dX12_on_79 rfl ?_
          refine rx_bipush (10) dX12_on_80 (by decide) ?_
          refine rx_isub dX12_on_82 ?_
          rw [ec]
          refine rx_iaload dX12_on_83 (sM_22) hvc ?_
          exact rx_iret dX12_on_84 rfl ⟨Nat.le_refl _, Nat.le_refl _⟩ ⟨rfl, _, rfl, ⟨by unfold aOn itQ; rw [if_neg hnn, if_neg (fun q => q hnr), if_pos hP, ec, hci, hmc]; exact q2 c hc7, hr2⟩⟩
        · refine rx_aload_n dX12_on_68 rfl ?_
          refine rx_getI dX12_on_69 flX12_129 (sM_0) rfl ?_
          refine rx_goto 84 dX12_on_72 (by decide) ?_
          exact rx_iret dX12_on_84 rfl ⟨Nat.le_refl _, Nat.le_refl _⟩ ⟨rfl, _, rfl, ⟨by unfold aOn itR; rw [if_neg hnn, if_neg (fun q => q hnr), if_neg (fun q => absurd q.1.1 (by rw [h65]; decide)), if_neg h49, hmc]; exact q4, hr2⟩⟩
      · refine rx_aload_n dX12_on_52 rfl ?_
        refine rx_aload_n dX12_on_53 rfl ?_
        refine rx_getI dX12_on_54 flX12_126 (sM_0) rfl ?_
        rw [q3]
        refine rx_cVi_1 clX12_356 dX12_on_57 (rcvo (sM_0) rfl) rfl (m_onesD g 0 (nN σ) _ S2 L (DOK_it hr.en (seesE σ) (-1) hr.dok m) hr.n7) ?_
        refine pur3 ?_
        refine rx_goto 84 dX12_on_60 (by decide) ?_
        exact rx_iret dX12_on_84 rfl ⟨Nat.le_refl _, Nat.le_refl _⟩ ⟨rfl, _, rfl, ⟨by unfold aOn itQ; rw [if_neg hnn, if_neg (fun q => q hnr), if_neg (fun q => absurd q.1.1 (by rw [h49]; decide)), if_pos h49, hmc], hr2⟩⟩
    · refine rx_bipush (-2) dX12_on_40 (by decide) ?_
      exact rx_iret dX12_on_42 rfl ⟨Nat.le_refl _, Nat.le_refl _⟩ ⟨rfl, _, rfl, ⟨by unfold aOn; rw [if_neg hnn, if_pos (b2i_eq h37)], hr⟩⟩
  · refine rx_aload_n dX12_on_10 rfl ?_
    refine rx_iload_n dX12_on_11 rfl ?_
    refine rx_bipush (10) dX12_on_12 (by decide) ?_
    refine rx_bipush (9) dX12_on_14 (by decide) ?_
    refine rx_aload_n dX12_on_16 rfl ?_
    refine rx_getI dX12_on_17 flX12_7 (sM_0) rfl ?_
    rw [hr.sz]
    refine rx_iadd dX12_on_20 ?_
    refine rx_cVi_3 clX12_236 dX12_on_21 (rcvo (sM_0) rfl) rfl (m_in g 0 _ _ _ S L) ?_
    refine pur3 ?_
    refine rx_if_ne 29 dX12_on_24 (by decide) (fun h24 => ?_) (fun h24 => ?_)
    · have hnn : ¬ (¬ ((10 ≤ what ∧ what ≤ 16) ∧ (0 ≤ what - 10 ∧ what - 10 < nI (nN σ))) ∧ ¬ (0 ≤ what ∧ what ≤ 1)) := by first | exact fun q => q.2 (b2i_ne h7) | exact fun q => q.1 ((on_iff hr.n7).mp (b2i_ne h24))
      refine rx_aload_n dX12_on_29 rfl ?_
      refine rx_iload_n dX12_on_30 rfl ?_
      refine rx_iconst (0) dX12_on_31 (by decide) ?_
      refine rx_bipush (40) dX12_on_32 (by decide) ?_
      refine rx_cVi_3 clX12_236 dX12_on_34 (rcvo (sM_0) rfl) rfl (m_in g 0 _ _ _ S L) ?_
      refine pur3 ?_
      refine rx_if_ne 43 dX12_on_37 (by decide) (fun h37 => ?_) (fun h37 => ?_)
      · have hnr := b2i_ne h37
        obtain ⟨m, hm, rfl⟩ := rngI 40 (by omega) (hnr.1) hnr.2
        have hmc : (nI m).toNatClampNeg = m := nI_clamp (by omega)
        refine rx_aload_n dX12_on_43 rfl ?_
        refine rx_iload_n dX12_on_44 rfl ?_
        refine rx_cVv_1 clX12_353 dX12_on_45 (rcvo (sM_0) rfl) rfl (m_lay g (gE σ) (gD σ) (seesE σ) m S L hr.en hr.dok (by have := hr.t; omega) hr.sc hr.se hr.id) ?_
        rintro S2 L2 ⟨⟨q1, q2, q3, q4⟩, hL2⟩
        rw [hL2]
        have hr2 := hr.rs q1
        refine rx_iload_n dX12_on_48 rfl ?_
        refine rx_if_ne 63 dX12_on_49 (by decide) (fun h49 => ?_) (fun h49 => ?_)
        · refine rx_iload_n dX12_on_63 rfl ?_
          refine rx_iconst (1) dX12_on_64 (by decide) ?_
          refine rx_icmp_ne 75 dX12_on_65 (by decide) (fun h65 => ?_) (fun h65 => ?_)
          · have hP : ((10 ≤ what ∧ what ≤ 16) ∧ (0 ≤ what - 10 ∧ what - 10 < nI (nN σ))) := Decidable.byContradiction (fun p => hnn ⟨p, fun q => (q01 q).elim h49 h65⟩)
            obtain ⟨c, hc, ec⟩ := rngL (nN σ) (by have := hr.n7; omega) hP.2.1 hP.2.2
            have hc7 : c < 7 := by have := hr.n7; omega
            have hvc : vp_in (nI c) 7 := vp_in_nI hc7 (by omega)
            have hci : (nI c).toNatClampNeg = c := nI_clamp (by omega)
            refine rx_aload_n dX12_on_75 rfl ?_
            refine rx_getR dX12_on_76 flX12_123 (sM_0) rfl ?_
            refine rx_iload_n dX12_on_79 rfl ?_
            refine rx_bipush (10) dX12_on_80 (by decide) ?_
            refine rx_isub dX12_on_82 ?_
            rw [ec]
            refine rx_iaload dX12_on_83 (sM_22) hvc ?_
            exact rx_iret dX12_on_84 rfl ⟨Nat.le_refl _, Nat.le_refl _⟩ ⟨rfl, _, rfl, ⟨by unfold aOn itQ; rw [if_neg hnn, if_neg (fun q => q hnr), if_pos hP, ec, hci, hmc]; exact q2 c hc7, hr2⟩⟩
          · refine rx_aload_n dX12_on_68 rfl ?_
            refine rx_getI dX12_on_69 flX12_129 (sM_0) rfl ?_
            refine rx_goto 84 dX12_on_72 (by decide) ?_
            exact rx_iret dX12_on_84 rfl ⟨Nat.le_refl _, Nat.le_refl _⟩ ⟨rfl, _, rfl, ⟨by unfold aOn itR; rw [if_neg hnn, if_neg (fun q => q hnr), if_neg (fun q => absurd q.1.1 (by rw [h65]; decide)), if_neg h49, hmc]; exact q4, hr2⟩⟩
        · refine rx_aload_n dX12_on_52 rfl ?_
          refine rx_aload_n dX12_on_53 rfl ?_
          refine rx_getI dX12_on_54 flX12_126 (sM_0) rfl ?_
          rw [q3]
          refine rx_cVi_1 clX12_356 dX12_on_57 (rcvo (sM_0) rfl) rfl (m_onesD g 0 (nN σ) _ S2 L (DOK_it hr.en (seesE σ) (-1) hr.dok m) hr.n7) ?_
          refine pur3 ?_
          refine rx_goto 84 dX12_on_60 (by decide) ?_
          exact rx_iret dX12_on_84 rfl ⟨Nat.le_refl _, Nat.le_refl _⟩ ⟨rfl, _, rfl, ⟨by unfold aOn itQ; rw [if_neg hnn, if_neg (fun q => q hnr), if_neg (fun q => absurd q.1.1 (by rw [h49]; decide)), if_pos h49, hmc], hr2⟩⟩
      · refine rx_bipush (-2) dX12_on_40 (by decide) ?_
        exact rx_iret dX12_on_42 rfl ⟨Nat.le_refl _, Nat.le_refl _⟩ ⟨rfl, _, rfl, ⟨by unfold aOn; rw [if_neg hnn, if_pos (b2i_eq h37)], hr⟩⟩
    · refine rx_iconst (-1) dX12_on_27 (by decide) ?_
      exact rx_iret dX12_on_28 rfl ⟨Nat.le_refl _, Nat.le_refl _⟩ ⟨rfl, _, rfl, ⟨(if_pos ⟨fun p => b2i_eq h24 ((on_iff hr.n7).mpr p), b2i_eq h7⟩).symm, hr⟩⟩
set_option maxRecDepth 20000 in
set_option maxHeartbeats 1000000 in
theorem mc_touches (g : GG) (σ : SIG) (c : Int32) (S : SS) (L : LL) (hr : MRel S L σ) : Ci g 7 mX12_touches [.ref 0, .int c] SHM S L (fun r S' L' => r = aTouches σ c ∧ MRel S' L' σ) := by
  refine ct_of (ls := [some (.ref 0), some (.int c)]) 0 (by decide +kernel) rfl rfl ?_
  refine rx_aload_n dX12_touches_0 rfl ?_
  refine rx_iload_n dX12_touches_1 rfl ?_
  refine rx_cVi_1 clX12_240 dX12_touches_2 (rcvo (sM_0) rfl) rfl (m_isChild g (nN σ) c S L hr.n7 hr.sz) ?_
  refine pur3 ?_
  refine rx_if_eq 16 dX12_touches_5 (by decide) (fun h5 => ?_) (fun h5 => ?_)
  · refine rx_iconst (-1) dX12_touches_16 (by decide) ?_
    exact rx_iret dX12_touches_17 rfl ⟨Nat.le_refl _, Nat.le_refl _⟩ ⟨rfl, _, rfl, ⟨(if_neg (b2i_eq h5)).symm, hr⟩⟩
  · have hq := b2i_ne h5
    obtain ⟨c, hc, rfl⟩ := rngL (nN σ) (by have := hr.n7; omega) hq.1 hq.2
    have hc7 : c < 7 := by have := hr.n7; omega
    have hci : (nI c).toNatClampNeg = c := nI_clamp (by omega)
    have hvc : vp_in (nI c) 7 := vp_in_nI hc7 (by omega)
    refine rx_aload_n dX12_touches_8 rfl ?_
    refine rx_iload_n dX12_touches_9 rfl ?_
    refine rx_cVi_1 clX12_359 dX12_touches_10 (rcvo (sM_0) rfl) rfl (m_touchesOf g (gE σ) (gD σ) c S L hr.en hr.dok (by have := hr.t; omega) hr.sc hr.sm hr.id hc7) ?_
    rintro x2 S2 L2 ⟨hx2, hR2, hL2⟩
    rw [hL2, hx2]
    have hr2 := hr.rs hR2
    refine rx_goto 17 dX12_touches_13 (by decide) ?_
    exact rx_iret dX12_touches_17 rfl ⟨Nat.le_refl _, Nat.le_refl _⟩ ⟨rfl, _, rfl, ⟨(if_pos hq).symm, hr2⟩⟩
set_option maxRecDepth 20000 in
set_option maxHeartbeats 1000000 in
theorem mc_who (g : GG) (σ : SIG) (n h : Int32) (S : SS) (L : LL) (hr : MRel S L σ) : Ci g 7 mX12_who [.ref 0, .int n, .int h] SHM S L (fun r S' L' => r = aWho σ n h ∧ MRel S' L' σ) := by
  refine ct_of (ls := [some (.ref 0), some (.int n), some (.int h), none, none]) 2 (by decide +kernel) rfl rfl ?_
  refine rx_aload_n dX12_who_0 rfl ?_
  refine rx_iload_n dX12_who_1 rfl ?_
  refine rx_iconst (0) dX12_who_2 (by decide) ?_
  refine rx_bipush (20) dX12_who_3 (by decide) ?_
  refine rx_cVi_3 clX12_236 dX12_who_5 (rcvo (sM_0) rfl) rfl (m_in g 0 _ _ _ S L) ?_
  refine pur3 ?_
  refine rx_if_eq 22 dX12_who_8 (by decide) (fun h8 => ?_) (fun h8 => ?_)
  · refine rx_bipush (-2) dX12_who_22 (by decide) ?_
    exact rx_iret dX12_who_24 rfl ⟨Nat.le_refl _, Nat.le_refl _⟩ ⟨rfl, _, rfl, ⟨(if_neg (by first | exact fun q => b2i_eq h8 q.1 | exact fun q => b2i_eq h19 q.2)).symm, hr⟩⟩
  · refine rx_aload_n dX12_who_11 rfl ?_
    refine rx_iload_n dX12_who_12 rfl ?_
    refine rx_iconst (0) dX12_who_13 (by decide) ?_
    refine rx_bipush (99) dX12_who_14 (by decide) ?_
    refine rx_cVi_3 clX12_236 dX12_who_16 (rcvo (sM_0) rfl) rfl (m_in g 0 _ _ _ S L) ?_
    refine pur3 ?_
    refine rx_if_ne 25 dX12_who_19 (by decide) (fun h19 => ?_) (fun h19 => ?_)
    · have hq2 := b2i_ne h19
      have hnr := b2i_ne h8
      obtain ⟨m, hm, rfl⟩ := rngI 20 (by omega) (hnr.1) hnr.2
      have hmc : (nI m).toNatClampNeg = m := nI_clamp (by omega)
      refine rx_aload_n dX12_who_25 rfl ?_
      refine rx_iload_n dX12_who_26 rfl ?_
      refine rx_cVv_1 clX12_353 dX12_who_27 (rcvo (sM_0) rfl) rfl (m_lay g (gE σ) (gD σ) (seesE σ) m S L hr.en hr.dok (by have := hr.t; omega) hr.sc hr.se hr.id) ?_
      rintro S2 L2 ⟨⟨q1, q2, q3, q4⟩, hL2⟩
      rw [hL2]
      have hr2 := hr.rs q1
      refine rx_iconst (0) dX12_who_30 (by decide) ?_
      refine rx_istore_3 rfl dX12_who_31 ?_
      refine rx_iconst (0) dX12_who_32 (by decide) ?_
      refine rx_istore_4 rfl dX12_who_33 ?_
      have hmc2 : itQ σ (nI m) = itD (gE σ) (seesE σ) (-1) m (gD σ) := by unfold itQ; rw [hmc]
      have hn7 := hr.n7
      have loop : ∀ (r c : Nat) (S1 : SS), c + r = nN σ → (S1 = S2) → Rx g 7 0 0 mX12_who SHM.length (fun r sh' S' L' => sh' = SHM ∧ ∃ x, r = some (.int x) ∧ (x = aWho σ (nI m) h ∧ MRel S' L' σ)) 0 0 35 [some (.ref 0), some (.int (nI m)), some (.int h), some (.int (whoP (dA (itQ σ (nI m))) h c)), some (.int (nI c))] [] SHM S1 L := by
        intro r
        induction r with
        | zero =>
          intro c S1 hc hI
          have hcn : c = nN σ := by omega
          have hsz : S1 0 0 = nI (nN σ) := by rw [hI]; exact hr2.sz
          refine rx_iload dX12_who_35 rfl ?_
          refine rx_aload_n dX12_who_37 rfl ?_
          refine rx_getI dX12_who_38 flX12_7 (sM_0) rfl ?_
          refine rx_icmp_ge 72 dX12_who_41 (by decide) (fun h41 => ?_) (fun h41 => absurd (by rw [hsz]; exact nI_le (by omega) (by omega)) h41)
          refine rx_iload_n dX12_who_72 rfl ?_
          exact rx_iret dX12_who_73 rfl ⟨Nat.le_refl _, Nat.le_refl _⟩ ⟨rfl, _, rfl, ⟨by unfold aWho; rw [if_pos ⟨hnr, hq2⟩, hcn], by rw [hI]; exact hr2⟩⟩
        | succ r ih =>
          intro c S1 hc hI
          have hc7 : c < 7 := by omega
          have hci : (nI c).toNatClampNeg = c := nI_clamp (by omega)
          have hvc : vp_in (nI c) 7 := vp_in_nI hc7 (by omega)
          have hsz : S1 0 0 = nI (nN σ) := by rw [hI]; exact hr2.sz
          refine rx_iload dX12_who_35 rfl ?_
          refine rx_aload_n dX12_who_37 rfl ?_
          refine rx_getI dX12_who_38 flX12_7 (sM_0) rfl ?_
          refine rx_icmp_ge 72 dX12_who_41 (by decide) (fun h41 => absurd h41 (by rw [hsz]; exact nI_ge (by omega) (by omega))) (fun h41 => ?_)
          refine rx_iload_n dX12_who_44 rfl ?_
          refine rx_aload_n dX12_who_45 rfl ?_
          refine rx_getR dX12_who_46 flX12_123 (sM_0) rfl ?_
          refine rx_iload dX12_who_49 rfl ?_
          refine rx_iaload dX12_who_51 (sM_22) hvc ?_
          rw [hci, show S1 22 c = dA (itQ σ (nI m)) c from by rw [hI, hmc2]; exact q2 c hc7]
          refine rx_iload_n dX12_who_52 rfl ?_
          refine rx_icmp_ne 63 dX12_who_53 (by decide) (fun h53 => ?_) (fun h53 => ?_)
          · refine rx_iconst (0) dX12_who_63 (by decide) ?_
            refine rx_ior dX12_who_64 ?_
            refine rx_istore_3 rfl dX12_who_65 ?_
            refine rx_iinc_4 (1) rfl dX12_who_66 (by decide) ?_
            refine rx_goto 35 dX12_who_69 (by decide) ?_
            rw [nI_1, Int32.or_zero, show whoP (dA (itQ σ (nI m))) h c = whoP (dA (itQ σ (nI m))) h (c + 1) from (if_neg h53).symm]
            exact ih (c + 1) S1 (by omega) hI
          · refine rx_iconst (1) dX12_who_56 (by decide) ?_
            refine rx_iload dX12_who_57 rfl ?_
            refine rx_ishl dX12_who_59 ?_
            refine rx_goto 64 dX12_who_60 (by decide) ?_
            refine rx_ior dX12_who_64 ?_
            refine rx_istore_3 rfl dX12_who_65 ?_
            refine rx_iinc_4 (1) rfl dX12_who_66 (by decide) ?_
            refine rx_goto 35 dX12_who_69 (by decide) ?_
            rw [nI_1, show whoP (dA (itQ σ (nI m))) h c ||| (1 <<< (nI c &&& 31)) = whoP (dA (itQ σ (nI m))) h (c + 1) from (if_pos h53).symm]
            exact ih (c + 1) S1 (by omega) hI
      exact loop (nN σ) 0 S2 (by omega) rfl
    · refine rx_bipush (-2) dX12_who_22 (by decide) ?_
      exact rx_iret dX12_who_24 rfl ⟨Nat.le_refl _, Nat.le_refl _⟩ ⟨rfl, _, rfl, ⟨(if_neg (by first | exact fun q => b2i_eq h8 q.1 | exact fun q => b2i_eq h19 q.2)).symm, hr⟩⟩
