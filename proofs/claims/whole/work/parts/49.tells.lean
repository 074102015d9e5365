theorem MRel.mk2 {S S' : SS} {L : LL} {σ : SIG} {s' : SCN} (h : MRel S L σ) (hok : OKg (s', σ.2)) (hM : MSc S' (enOf s' (gY σ)) (sD s')) (e1 : sY s' = sY (gN σ)) (e2 : sSn s' = sSn (gN σ)) (e3 : sBk s' = sBk (gN σ)) (hF : Fr [1, 2, 3, 4, 5, 6, 7] [0, 1, 2] S S') : MRel S' L (s', σ.2) := by
  obtain ⟨-, -, ⟨b1, b2, b3⟩, b4⟩ := h
  have hr : MRst S' L σ := b4.fr (fun j hj => hF.1 j (by omega) (by simp; omega)) (fun k hk => hF.2 k (by unfold rkF at hk; simp; omega))
  obtain ⟨a1, a2, a3, a4⟩ := hr
  refine ⟨hok, hM, ⟨by rw [hF.2 27 (by decide)]; exact b1, by rw [hF.2 29 (by decide)]; exact b2, by rw [hF.2 30 (by decide)]; exact b3⟩, ?_, ?_, ?_, a4⟩
  · show S' 0 11 = thI (sY s')
    rw [e1]; exact a1
  · show MSe S' (sSn s')
    rw [e2]; exact a2
  · show MBo S' (sBk s')
    rw [e3]; exact a3
def addM (S : SS) (n : Nat) (k v w : Int32) : SS := upS (upS (upS (upS (upS (upS (upS (upS (upS (upS (upS S 1 n k) 2 n v) 3 n 0) 4 n 1) 5 n 0) 0 2 w) 6 (n * 4 + 0) 0) 6 (n * 4 + 1) 0) 6 (n * 4 + 2) 0) 6 (n * 4 + 3) 0) 0 0 (nI (n + 1))
theorem addM_6 {S : SS} {n : Nat} {k v w : Int32} {c : Nat} : addM S n k v w 6 c = rw4 (S 6) n c := by
  have e : addM S n k v w 6 = upd (upd (upd (upd (S 6) (n * 4 + 0) 0) (n * 4 + 1) 0) (n * 4 + 2) 0) (n * 4 + 3) 0 := by unfold addM; simp (disch := omega) only [upS_off, upS_row]
  rw [e]
  unfold rw4
  by_cases h3 : c = n * 4 + 3
  · rw [h3, pk_us, if_pos (by omega)]
  · rw [pk_un h3]
    by_cases h2 : c = n * 4 + 2
    · rw [h2, pk_us, if_pos (by omega)]
    · rw [pk_un h2]
      by_cases h1 : c = n * 4 + 1
      · rw [h1, pk_us, if_pos (by omega)]
      · rw [pk_un h1]
        by_cases h0 : c = n * 4 + 0
        · rw [h0, pk_us, if_pos (by omega)]
        · rw [pk_un h0, if_neg (by omega)]
theorem addM_0 {S : SS} {n : Nat} {k v w : Int32} : addM S n k v w 0 = upd (upd (S 0) 2 w) 0 (nI (n + 1)) := by unfold addM; simp (disch := omega) only [upS_off, upS_row]
theorem addM_fr {S : SS} {n : Nat} {k v w : Int32} : Fr [1, 2, 3, 4, 5, 6, 7] [0, 1, 2] S (addM S n k v w) := by
  unfold addM
  exact ((((((((((Fr.refl.up (by decide) (by decide)).up (by decide) (by decide)).up (by decide) (by decide)).up (by decide) (by decide)).up (by decide) (by decide)).up0 (by decide)).up (by decide) (by decide)).up (by decide) (by decide)).up (by decide) (by decide)).up (by decide) (by decide)).up0 (by decide)
theorem MRel.child {S : SS} {L : LL} {σ : SIG} (h : MRel S L σ) (k v : Int32) (hok : OKg (addC (gN σ) k v, σ.2)) : MRel (addM S (nN σ) k v (dW (gD σ))) L (addC (gN σ) k v, σ.2) := by
  obtain ⟨a1, a2, a3, a4, a5, a6, ⟨y, hy, e, hY⟩, a8, a9, a10, a11, a12⟩ := h.sc
  refine h.mk2 hok ⟨by rw [addM_0, pk_us]; rfl, fun c hc => ?_, fun c hc => ?_, fun c hc => ?_, fun c hc => ?_, fun c hc => ?_, ⟨y, hy, by rw [addM_0, pk_un (by decide), pk_un (by decide)]; exact e, hY.off (fun j h1 h2 => addM_fr.1 j (by omega) (by simp; omega))⟩, fun c hc => ?_, ?_, ?_, a11, fun c hc => ?_⟩ rfl rfl rfl addM_fr
  · have e : addM S (nN σ) k v (dW (gD σ)) 1 = upd (S 1) (nN σ) k := by unfold addM; simp (disch := omega) only [upS_off, upS_row]
    rw [e]; exact upd_eq (a2 c hc)
  · have e : addM S (nN σ) k v (dW (gD σ)) 2 = upd (S 2) (nN σ) v := by unfold addM; simp (disch := omega) only [upS_off, upS_row]
    rw [e]; exact upd_eq (a3 c hc)
  · have e : addM S (nN σ) k v (dW (gD σ)) 4 = upd (S 4) (nN σ) 1 := by unfold addM; simp (disch := omega) only [upS_off, upS_row]
    rw [e]; exact upd_eq (a4 c hc)
  · rw [addM_6]
    show rw4 (S 6) (nN σ) c = rw4 (eR (gE σ)) (nN σ) c
    unfold rw4
    rw [a5 c hc]
  · have e : addM S (nN σ) k v (dW (gD σ)) 7 = S 7 := by unfold addM; simp (disch := omega) only [upS_off]
    rw [e]; exact a6 c hc
  · have e : addM S (nN σ) k v (dW (gD σ)) 3 = upd (S 3) (nN σ) 0 := by unfold addM; simp (disch := omega) only [upS_off, upS_row]
    rw [e]; exact upd_eq (a8 c hc)
  · rw [addM_0, pk_un (by decide), pk_us]; rfl
  · rw [addM_0, pk_un (by decide), pk_un (by decide)]; exact a10
  · have e : addM S (nN σ) k v (dW (gD σ)) 5 = upd (S 5) (nN σ) 0 := by unfold addM; simp (disch := omega) only [upS_off, upS_row]
    rw [e]; exact upd_eq (a12 c hc)
theorem clrN : ∀ n, n < 7 → ∀ W, W < 2 ^ n → nI W &&& ((1 <<< (nI n &&& 31)) ^^^ (-1)) = nI W := by decide +kernel
theorem MSc.row {S : SS} {E : EN} {D : DY} (h : MSc S E D) (i : Nat) (x : Int32) : MSc (upS S 6 i x) (eN E, eK E, eV E, eE E, upd (eR E) i x, eC E, eY E) D := by
  obtain ⟨a1, a2, a3, a4, a5, a6, ⟨y, hy, e, hY⟩, a8⟩ := h
  have ho : ∀ j, j ≠ 6 → upS S 6 i x j = S j := fun j h => upS_off S 6 i x h
  refine ⟨by rw [ho 0 (by decide)]; exact a1, by rw [ho 1 (by decide)]; exact a2, by rw [ho 2 (by decide)]; exact a3, by rw [ho 4 (by decide)]; exact a4, fun c' hc => by rw [upS_row]; exact upd_eq (a5 c' hc), by rw [ho 7 (by decide)]; exact a6, ⟨y, hy, by rw [ho 0 (by decide)]; exact e, hY.off (fun j h1 h2 => ho j (by omega))⟩, by rw [ho 0 (by decide), ho 3 (by decide), ho 5 (by decide)]; exact a8⟩
theorem MSc.cnt {S : SS} {E : EN} {D : DY} (h : MSc S E D) (i : Nat) (x : Int32) : MSc (upS S 7 i x) (setCn E (upd (eC E) i x)) D :=
  h.cn (upd (eC E) i x) (fun j _ hj => upS_off S 7 i x hj) (fun c hc => by rw [upS_row]; exact upd_eq (h.2.2.2.2.2.1 c hc))
theorem MSe.push {S : SS} {l : List (Nat × Nat × Nat)} (h : MSe S l) (c n a : Nat) : MSe (upS (upS (upS (upS S 25 l.length (nI c)) 26 l.length (nI n)) 27 l.length (nI a)) 0 42 (nI (l.length + 1))) (l ++ [(c, n, a)]) := by
  refine ⟨by rw [upS_at, List.length_append]; rfl, fun i q hq => ?_⟩
  simp (disch := omega) only [upS_off, upS_row]
  rcases get_push hq with ⟨h1, h2⟩ | ⟨h1, h2⟩
  · rw [pk_un (by omega), pk_un (by omega), pk_un (by omega)]; exact h.2 i q h2
  · rw [h1, h2, pk_us, pk_us, pk_us]; exact ⟨rfl, rfl, rfl⟩
theorem MBo.push {S : SS} {l : List (Nat × Nat)} (h : MBo S l) (c a : Nat) : MBo (upS (upS (upS S 28 l.length (nI c)) 29 l.length (nI a)) 0 46 (nI (l.length + 1))) (l ++ [(c, a)]) := by
  refine ⟨by rw [upS_at, List.length_append]; rfl, fun i q hq => ?_⟩
  simp (disch := omega) only [upS_off, upS_row]
  rcases get_push hq with ⟨h1, h2⟩ | ⟨h1, h2⟩
  · rw [pk_un (by omega), pk_un (by omega)]; exact h.2 i q h2
  · rw [h1, h2, pk_us, pk_us]; exact ⟨rfl, rfl⟩
theorem MRel.sn {S S' : SS} {L : LL} {σ : SIG} (h : MRel S L σ) (l : List (Nat × Nat × Nat)) (hok : OKg (wSn (gN σ) l, σ.2)) (hF : Fr [25, 26, 27] [42] S S') (hs : MSe S' l) : MRel S' L (wSn (gN σ) l, σ.2) := by
  obtain ⟨-, a2, ⟨a3, a4, a5⟩, ⟨b1, b2, b3, b4, b5, b6, b7, b8, b9, b10, b11, b12, b13⟩⟩ := h
  have o : ∀ j, j ≠ 0 → j ≠ 25 → j ≠ 26 → j ≠ 27 → S' j = S j := fun j h0 h1 h2 h3 => hF.1 j h0 (by simp; exact ⟨h1, h2, h3⟩)
  have o0 : ∀ k, k ≠ 42 → S' 0 k = S 0 k := fun k hk => hF.2 k (by simp; exact hk)
  exact ⟨hok, a2.ex (fun j h0 h1 => o j h0 (by omega) (by omega) (by omega)) (fun k hk => o0 k (by omega)), ⟨by rw [o0 27 (by decide)]; exact a3, by rw [o0 29 (by decide)]; exact a4, by rw [o0 30 (by decide)]; exact a5⟩, by rw [o0 11 (by decide)]; exact b1, hs, b3.off (o0 46 (by decide)) (o 28 (by decide) (by decide) (by decide) (by decide)) (o 29 (by decide) (by decide) (by decide) (by decide)), fun e => (b4 e).off (fun j h1 h2 => o j (by omega) (by omega) (by omega) (by omega)) (fun k h1 h2 => o0 k (by omega)), by rw [o0 49 (by decide)]; exact b5, by rw [o0 10 (by decide)]; exact b6, fun y hy => (b7 y hy).off (fun j h1 h2 => o j (by omega) (by omega) (by omega) (by omega)), by rw [o0 12 (by decide)]; exact b8, by rw [o 8 (by decide) (by decide) (by decide) (by decide)]; exact b9, by rw [o0 68 (by decide)]; exact b10, by rw [o 42 (by decide) (by decide) (by decide) (by decide)]; exact b11, fun t ht => by rw [o 43 (by decide) (by decide) (by decide) (by decide), o 44 (by decide) (by decide) (by decide) (by decide)]; exact b12 t ht, by unfold MLt; rw [o 16 (by decide) (by decide) (by decide) (by decide)]; exact b13⟩
theorem MRel.bk {S S' : SS} {L : LL} {σ : SIG} (h : MRel S L σ) (l : List (Nat × Nat)) (hok : OKg (wBk (gN σ) l, σ.2)) (hF : Fr [28, 29] [46] S S') (hs : MBo S' l) : MRel S' L (wBk (gN σ) l, σ.2) := by
  obtain ⟨-, a2, ⟨a3, a4, a5⟩, ⟨b1, b2, b3, b4, b5, b6, b7, b8, b9, b10, b11, b12, b13⟩⟩ := h
  have o : ∀ j, j ≠ 0 → j ≠ 28 → j ≠ 29 → S' j = S j := fun j h0 h1 h2 => hF.1 j h0 (by simp; exact ⟨h1, h2⟩)
  have o0 : ∀ k, k ≠ 46 → S' 0 k = S 0 k := fun k hk => hF.2 k (by simp; exact hk)
  exact ⟨hok, a2.ex (fun j h0 h1 => o j h0 (by omega) (by omega)) (fun k hk => o0 k (by omega)), ⟨by rw [o0 27 (by decide)]; exact a3, by rw [o0 29 (by decide)]; exact a4, by rw [o0 30 (by decide)]; exact a5⟩, by rw [o0 11 (by decide)]; exact b1, b2.off (o0 42 (by decide)) (o 25 (by decide) (by decide) (by decide)) (o 26 (by decide) (by decide) (by decide)) (o 27 (by decide) (by decide) (by decide)), hs, fun e => (b4 e).off (fun j h1 h2 => o j (by omega) (by omega) (by omega)) (fun k h1 h2 => o0 k (by omega)), by rw [o0 49 (by decide)]; exact b5, by rw [o0 10 (by decide)]; exact b6, fun y hy => (b7 y hy).off (fun j h1 h2 => o j (by omega) (by omega) (by omega)), by rw [o0 12 (by decide)]; exact b8, by rw [o 8 (by decide) (by decide) (by decide)]; exact b9, by rw [o0 68 (by decide)]; exact b10, by rw [o 42 (by decide) (by decide) (by decide)]; exact b11, fun t ht => by rw [o 43 (by decide) (by decide) (by decide), o 44 (by decide) (by decide) (by decide)]; exact b12 t ht, by unfold MLt; rw [o 16 (by decide) (by decide) (by decide)]; exact b13⟩
theorem tk_ok : ∀ j, j < 7 → ∀ d, d < 7 → (tkP (nI j) 7 (nI d) = true ↔ (nI j = 0 ∨ nI d = nI j ∨ (nI j = 1 ∧ nI d = 4) ∨ (nI j = 2 ∧ nI d = 5) ∨ (nI j = 3 ∧ nI d = 6))) := by decide +kernel

theorem MSc.ex2 {S S' : SS} {E : EN} {D : DY} (h : MSc S E D) (ho : ∀ j, j ≠ 0 → j ≠ 8 → S' j = S j) (h0 : ∀ k, k = 0 ∨ k = 1 ∨ k = 2 ∨ k = 11 → S' 0 k = S 0 k) : MSc S' E D := by
  obtain ⟨a1, a2, a3, a4, a5, a6, ⟨y, hy, e, hY⟩, a8, a9, a10, a11, a12⟩ := h
  refine ⟨by rw [h0 0 (by decide)]; exact a1, fun c hc => by rw [ho 1 (by decide) (by decide)]; exact a2 c hc, fun c hc => by rw [ho 2 (by decide) (by decide)]; exact a3 c hc, fun c hc => by rw [ho 4 (by decide) (by decide)]; exact a4 c hc, fun c hc => by rw [ho 6 (by decide) (by decide)]; exact a5 c hc, fun c hc => by rw [ho 7 (by decide) (by decide)]; exact a6 c hc, ⟨y, hy, by rw [h0 11 (by decide)]; exact e, hY.off (fun j h1 h2 => ho j (by omega) (by omega))⟩, fun c hc => by rw [ho 3 (by decide) (by decide)]; exact a8 c hc, by rw [h0 2 (by decide)]; exact a9, by rw [h0 1 (by decide)]; exact a10, a11, fun c hc => by rw [ho 5 (by decide) (by decide)]; exact a12 c hc⟩
set_option maxRecDepth 20000 in
set_option maxHeartbeats 1000000 in
theorem mc_child (g : GG) (σ : SIG) (k v : Int32) (S : SS) (L : LL) (hr : MRel S L σ) (hok : OKg (nChild σ k v)) : Ci g 1 mX12_child [.ref 0, .int k, .int v] SHM S L (fun r S' L' => r = aChild σ k v ∧ MRel S' L' (nChild σ k v)) := by
  obtain ⟨n, hn⟩ : ∃ n, n = nN σ := ⟨_, rfl⟩
  have hsz : S 0 0 = nI n := by rw [hn]; exact hr.sz
  have hnn : n ≤ 7 := by rw [hn]; exact hr.n7
  refine ct_of (ls := [some (.ref 0), some (.int k), some (.int v), none]) 1 (by decide +kernel) rfl rfl ?_
  refine rx_aload_n dX12_child_0 rfl ?_
  refine rx_iload_n dX12_child_1 rfl ?_
  refine rx_iconst (0) dX12_child_2 (by decide) ?_
  refine rx_bipush (6) dX12_child_3 (by decide) ?_
  refine rx_cVi_3 clX12_236 dX12_child_5 (rcvo (sM_0) rfl) rfl (m_in g 0 _ _ _ S L) ?_
  refine pur3 ?_
  refine rx_if_ne 13 dX12_child_8 (by decide) (fun h8 => ?_) (fun h8 => ?_)
  · refine rx_aload_n dX12_child_13 rfl ?_
    refine rx_iload_n dX12_child_14 rfl ?_
    refine rx_iconst (0) dX12_child_15 (by decide) ?_
    refine rx_bipush (9) dX12_child_16 (by decide) ?_
    refine rx_cVi_3 clX12_236 dX12_child_18 (rcvo (sM_0) rfl) rfl (m_in g 0 _ _ _ S L) ?_
    refine pur3 ?_
    refine rx_if_ne 27 dX12_child_21 (by decide) (fun h21 => ?_) (fun h21 => ?_)
    · refine rx_aload_n dX12_child_27 rfl ?_
      refine rx_getI dX12_child_28 flX12_7 (sM_0) rfl ?_
      rw [hsz]
      refine rx_bipush (7) dX12_child_31 (by decide) ?_
      refine rx_icmp_ne 39 dX12_child_33 (by decide) (fun h33 => ?_) (fun h33 => ?_)
      · have hn7 : n < 7 := by
          rcases Nat.lt_or_ge n 7 with q | q
          · exact q
          · exact absurd (by rw [show n = 7 by omega]; rfl) h33
        have hcn : (nI n).toNatClampNeg = n := nI_clamp (by omega)
        have hvn : vp_in (nI n) 7 := vp_in_nI hn7 (by omega)
        obtain ⟨W, hW, eW⟩ := hr.dok.1
        have hclr : dW (gD σ) &&& ((1 <<< (nI n &&& 31)) ^^^ (-1)) = dW (gD σ) := by rw [eW]; exact clrN n hn7 W (by rw [hn]; exact hW)
        have hx0 : 4 * nI n + 0 = nI (n * 4 + 0) := by rw [show (4 : Int32) = nI 4 from rfl, pk_mul, show (0 : Int32) = nI 0 from rfl, nI_add, Nat.mul_comm]
        have hq0 : (nI (n * 4 + 0)).toNatClampNeg = n * 4 + 0 := nI_clamp (by omega)
        have hv0 : vp_in (nI (n * 4 + 0)) 28 := vp_in_nI (by omega) (by omega)
        have hx1 : 4 * nI n + 1 = nI (n * 4 + 1) := by rw [show (4 : Int32) = nI 4 from rfl, pk_mul, show (1 : Int32) = nI 1 from rfl, nI_add, Nat.mul_comm]
        have hq1 : (nI (n * 4 + 1)).toNatClampNeg = n * 4 + 1 := nI_clamp (by omega)
        have hv1 : vp_in (nI (n * 4 + 1)) 28 := vp_in_nI (by omega) (by omega)
        have hx2 : 4 * nI n + 2 = nI (n * 4 + 2) := by rw [show (4 : Int32) = nI 4 from rfl, pk_mul, show (2 : Int32) = nI 2 from rfl, nI_add, Nat.mul_comm]
        have hq2 : (nI (n * 4 + 2)).toNatClampNeg = n * 4 + 2 := nI_clamp (by omega)
        have hv2 : vp_in (nI (n * 4 + 2)) 28 := vp_in_nI (by omega) (by omega)
        have hx3 : 4 * nI n + 3 = nI (n * 4 + 3) := by rw [show (4 : Int32) = nI 4 from rfl, pk_mul, show (3 : Int32) = nI 3 from rfl, nI_add, Nat.mul_comm]
        have hq3 : (nI (n * 4 + 3)).toNatClampNeg = n * 4 + 3 := nI_clamp (by omega)
        have hv3 : vp_in (nI (n * 4 + 3)) 28 := vp_in_nI (by omega) (by omega)
        have hsub : nI (n + 1) - 1 = nI n := by rw [show (1 : Int32) = nI 1 from rfl, pk_sub (by omega)]; rfl
        refine rx_aload_n dX12_child_39 rfl ?_
        refine rx_getR dX12_child_40 flX12_19 (sM_0) rfl ?_
        refine rx_aload_n dX12_child_43 rfl ?_
        refine rx_getI dX12_child_44 flX12_7 (sM_0) rfl ?_
        rw [hsz]
        refine rx_iload_n dX12_child_47 rfl ?_
        refine rx_iastore dX12_child_48 (sM_1) hvn ?_
        rw [hcn]
        refine rx_aload_n dX12_child_49 rfl ?_
        refine rx_getR dX12_child_50 flX12_23 (sM_0) rfl ?_
        refine rx_aload_n dX12_child_53 rfl ?_
        refine rx_getI dX12_child_54 flX12_7 (sM_0) rfl ?_
        simp (disch := omega) only [upS_off]
        rw [hsz]
        refine rx_iload_n dX12_child_57 rfl ?_
        refine rx_iastore dX12_child_58 (sM_2) hvn ?_
        rw [hcn]
        refine rx_aload_n dX12_child_59 rfl ?_
        refine rx_getR dX12_child_60 flX12_26 (sM_0) rfl ?_
        refine rx_aload_n dX12_child_63 rfl ?_
        refine rx_getI dX12_child_64 flX12_7 (sM_0) rfl ?_
        simp (disch := omega) only [upS_off]
        rw [hsz]
        refine rx_iconst (0) dX12_child_67 (by decide) ?_
        refine rx_iastore dX12_child_68 (sM_3) hvn ?_
        rw [hcn]
        refine rx_aload_n dX12_child_69 rfl ?_
        refine rx_getR dX12_child_70 flX12_29 (sM_0) rfl ?_
        refine rx_aload_n dX12_child_73 rfl ?_
        refine rx_getI dX12_child_74 flX12_7 (sM_0) rfl ?_
        simp (disch := omega) only [upS_off]
        rw [hsz]
        refine rx_iconst (1) dX12_child_77 (by decide) ?_
        refine rx_iastore dX12_child_78 (sM_4) hvn ?_
        rw [hcn]
        refine rx_aload_n dX12_child_79 rfl ?_
        refine rx_getR dX12_child_80 flX12_32 (sM_0) rfl ?_
        refine rx_aload_n dX12_child_83 rfl ?_
        refine rx_getI dX12_child_84 flX12_7 (sM_0) rfl ?_
        simp (disch := omega) only [upS_off]
        rw [hsz]
        refine rx_iconst (0) dX12_child_87 (by decide) ?_
        refine rx_iastore dX12_child_88 (sM_5) hvn ?_
        rw [hcn]
        refine rx_aload_n dX12_child_89 rfl ?_
        refine rx_dup dX12_child_90 rfl ?_
        refine rx_getI dX12_child_91 flX12_16 (sM_0) rfl ?_
        simp (disch := omega) only [upS_off]
        rw [hr.sc.w]
        refine rx_iconst (1) dX12_child_94 (by decide) ?_
        refine rx_aload_n dX12_child_95 rfl ?_
        refine rx_getI dX12_child_96 flX12_7 (sM_0) rfl ?_
        simp (disch := omega) only [upS_off]
        rw [hsz]
        refine rx_ishl dX12_child_99 ?_
        refine rx_iconst (-1) dX12_child_100 (by decide) ?_
        refine rx_ixor dX12_child_101 ?_
        refine rx_iand dX12_child_102 ?_
        rw [hclr]
        refine rx_putI dX12_child_103 flX12_16 (sM_0) rfl ?_
        refine rx_iconst (0) dX12_child_106 (by decide) ?_
        refine rx_istore_3 rfl dX12_child_107 ?_
        refine rx_iload_n dX12_child_108 rfl ?_
        refine rx_iconst (4) dX12_child_109 (by decide) ?_
        refine rx_icmp_ge 133 dX12_child_110 (by decide) (fun h110 => absurd h110 (by decide)) (fun h110 => ?_)
        refine rx_aload_n dX12_child_113 rfl ?_
        refine rx_getR dX12_child_114 flX12_35 (sM_0) rfl ?_
        refine rx_iconst (4) dX12_child_117 (by decide) ?_
        refine rx_aload_n dX12_child_118 rfl ?_
        refine rx_getI dX12_child_119 flX12_7 (sM_0) rfl ?_
        simp (disch := omega) only [upS_ne]
        rw [hsz]
        refine rx_imul dX12_child_122 ?_
        refine rx_iload_n dX12_child_123 rfl ?_
        refine rx_iadd dX12_child_124 ?_
        first | rw [hx0] | rw [hx1] | rw [hx2] | rw [hx3]
        refine rx_iconst (0) dX12_child_125 (by decide) ?_
        refine rx_iastore dX12_child_126 (sM_6) (by first | exact hv0 | exact hv1 | exact hv2 | exact hv3) ?_
        first | rw [hq0] | rw [hq1] | rw [hq2] | rw [hq3]
        refine rx_iinc_3 (1) rfl dX12_child_127 (by decide) ?_
        rw [show ((0 : Int32) + 1) = 1 from by decide]
        refine rx_goto 108 dX12_child_130 (by decide) ?_
        refine rx_iload_n dX12_child_108 rfl ?_
        refine rx_iconst (4) dX12_child_109 (by decide) ?_
        refine rx_icmp_ge 133 dX12_child_110 (by decide) (fun h110 => absurd h110 (by decide)) (fun h110 => ?_)
        refine rx_aload_n dX12_child_113 rfl ?_
        refine rx_getR dX12_child_114 flX12_35 (sM_0) rfl ?_
        refine rx_iconst (4) dX12_child_117 (by decide) ?_
        refine rx_aload_n dX12_child_118 rfl ?_
        refine rx_getI dX12_child_119 flX12_7 (sM_0) rfl ?_
        simp (disch := omega) only [upS_ne]
        rw [hsz]
        refine rx_imul dX12_child_122 ?_
        refine rx_iload_n dX12_child_123 rfl ?_
        refine rx_iadd dX12_child_124 ?_
        first | rw [hx0] | rw [hx1] | rw [hx2] | rw [hx3]
        refine rx_iconst (0) dX12_child_125 (by decide) ?_
        refine rx_iastore dX12_child_126 (sM_6) (by first | exact hv0 | exact hv1 | exact hv2 | exact hv3) ?_
        first | rw [hq0] | rw [hq1] | rw [hq2] | rw [hq3]
        refine rx_iinc_3 (1) rfl dX12_child_127 (by decide) ?_
        rw [show ((1 : Int32) + 1) = 2 from by decide]
        refine rx_goto 108 dX12_child_130 (by decide) ?_
        refine rx_iload_n dX12_child_108 rfl ?_
        refine rx_iconst (4) dX12_child_109 (by decide) ?_
        refine rx_icmp_ge 133 dX12_child_110 (by decide) (fun h110 => absurd h110 (by decide)) (fun h110 => ?_)
        refine rx_aload_n dX12_child_113 rfl ?_
        refine rx_getR dX12_child_114 flX12_35 (sM_0) rfl ?_
        refine rx_iconst (4) dX12_child_117 (by decide) ?_
        refine rx_aload_n dX12_child_118 rfl ?_
        refine rx_getI dX12_child_119 flX12_7 (sM_0) rfl ?_
        simp (disch := omega) only [upS_ne]
        rw [hsz]
        refine rx_imul dX12_child_122 ?_
        refine rx_iload_n dX12_child_123 rfl ?_
        refine rx_iadd dX12_child_124 ?_
        first | rw [hx0] | rw [hx1] | rw [hx2] | rw [hx3]
        refine rx_iconst (0) dX12_child_125 (by decide) ?_
        refine rx_iastore dX12_child_126 (sM_6) (by first | exact hv0 | exact hv1 | exact hv2 | exact hv3) ?_
        first | rw [hq0] | rw [hq1] | rw [hq2] | rw [hq3]
        refine rx_iinc_3 (1) rfl dX12_child_127 (by decide) ?_
        rw [show ((2 : Int32) + 1) = 3 from by decide]
        refine rx_goto 108 dX12_child_130 (by decide) ?_
        refine rx_iload_n dX12_child_108 rfl ?_
        refine rx_iconst (4) dX12_child_109 (by decide) ?_
        refine rx_icmp_ge 133 dX12_child_110 (by decide) (fun h110 => absurd h110 (by decide)) (fun h110 => ?_)
        refine rx_aload_n dX12_child_113 rfl ?_
        refine rx_getR dX12_child_114 flX12_35 (sM_0) rfl ?_
        refine rx_iconst (4) dX12_child_117 (by decide) ?_
        refine rx_aload_n dX12_child_118 rfl ?_
        refine rx_getI dX12_child_119 flX12_7 (sM_0) rfl ?_
        simp (disch := omega) only [upS_ne]
        rw [hsz]
        refine rx_imul dX12_child_122 ?_
        refine rx_iload_n dX12_child_123 rfl ?_
        refine rx_iadd dX12_child_124 ?_
        first | rw [hx0] | rw [hx1] | rw [hx2] | rw [hx3]
        refine rx_iconst (0) dX12_child_125 (by decide) ?_
        refine rx_iastore dX12_child_126 (sM_6) (by first | exact hv0 | exact hv1 | exact hv2 | exact hv3) ?_
        first | rw [hq0] | rw [hq1] | rw [hq2] | rw [hq3]
        refine rx_iinc_3 (1) rfl dX12_child_127 (by decide) ?_
        rw [show ((3 : Int32) + 1) = 4 from by decide]
        refine rx_goto 108 dX12_child_130 (by decide) ?_
        refine rx_iload_n dX12_child_108 rfl ?_
        refine rx_iconst (4) dX12_child_109 (by decide) ?_
        refine rx_icmp_ge 133 dX12_child_110 (by decide) (fun h110 => ?_) (fun h110 => absurd (by decide) h110)
        refine rx_aload_n dX12_child_133 rfl ?_
        refine rx_dup dX12_child_134 rfl ?_
        refine rx_getI dX12_child_135 flX12_7 (sM_0) rfl ?_
        simp (disch := omega) only [upS_ne]
        rw [hsz]
        refine rx_iconst (1) dX12_child_138 (by decide) ?_
        refine rx_iadd dX12_child_139 ?_
        rw [nI_1]
        refine rx_putI dX12_child_140 flX12_7 (sM_0) rfl ?_
        refine rx_aload_n dX12_child_143 rfl ?_
        refine rx_getI dX12_child_144 flX12_7 (sM_0) rfl ?_
        rw [upS_at]
        refine rx_iconst (1) dX12_child_147 (by decide) ?_
        refine rx_isub dX12_child_148 ?_
        rw [hsub]
        exact rx_iret dX12_child_149 rfl ⟨Nat.le_refl _, Nat.le_refl _⟩ ⟨rfl, _, rfl, ⟨by subst hn; unfold aChild; rw [if_neg (fun q => q (b2i_ne h8)), if_neg (fun q => q (b2i_ne h21)), if_pos hn7], by subst hn; have en : nChild σ k v = (addC (gN σ) k v, σ.2) := (by unfold nChild; rw [if_neg (fun q => q (b2i_ne h8)), if_neg (fun q => q (b2i_ne h21)), if_pos hn7]); rw [en] at hok ⊢; exact hr.child k v hok⟩⟩
      · refine rx_bipush (-4) dX12_child_36 (by decide) ?_
        exact rx_iret dX12_child_38 rfl ⟨Nat.le_refl _, Nat.le_refl _⟩ ⟨rfl, _, rfl, ⟨by subst hn; unfold aChild; rw [if_neg (fun q => q (b2i_ne h8)), if_neg (fun q => q (b2i_ne h21)), if_neg (fun q => absurd ((nI_eq (b := 7) (by omega) (by omega)).mp h33) (by omega))], by unfold nChild; rw [if_neg (fun q => q (b2i_ne h8)), if_neg (fun q => q (b2i_ne h21)), if_neg (fun q => absurd ((nI_eq (b := 7) (by omega) (by omega)).mp h33) (by omega))]; exact hr⟩⟩
    · refine rx_bipush (-2) dX12_child_24 (by decide) ?_
      exact rx_iret dX12_child_26 rfl ⟨Nat.le_refl _, Nat.le_refl _⟩ ⟨rfl, _, rfl, ⟨by subst hn; unfold aChild; rw [if_neg (fun q => q (b2i_ne h8)), if_pos (b2i_eq h21)], by unfold nChild; rw [if_neg (fun q => q (b2i_ne h8)), if_pos (b2i_eq h21)]; exact hr⟩⟩
  · refine rx_iconst (-1) dX12_child_11 (by decide) ?_
    exact rx_iret dX12_child_12 rfl ⟨Nat.le_refl _, Nat.le_refl _⟩ ⟨rfl, _, rfl, ⟨by subst hn; unfold aChild; rw [if_pos (b2i_eq h8)], by unfold nChild; rw [if_pos (b2i_eq h8)]; exact hr⟩⟩
set_option maxRecDepth 20000 in
set_option maxHeartbeats 1000000 in
theorem mc_set (g : GG) (σ : SIG) (c w v : Int32) (S : SS) (L : LL) (hr : MRel S L σ) (hok : OKg (nSet σ c w v)) : Ci g 3 mX12_set [.ref 0, .int c, .int w, .int v] SHM S L (fun r S' L' => r = aSet σ c w v ∧ MRel S' L' (nSet σ c w v)) := by
  refine ct_of (ls := [some (.ref 0), some (.int c), some (.int w), some (.int v), none]) 1 (by decide +kernel) rfl rfl ?_
  refine rx_aload_n dX12_set_0 rfl ?_
  refine rx_iload_n dX12_set_1 rfl ?_
  refine rx_cVi_1 clX12_240 dX12_set_2 (rcvo (sM_0) rfl) rfl (m_isChild g (nN σ) c S L hr.n7 hr.sz) ?_
  refine pur3 ?_
  refine rx_if_eq 18 dX12_set_5 (by decide) (fun h5 => ?_) (fun h5 => ?_)
  · refine rx_iconst (-1) dX12_set_18 (by decide) ?_
    exact rx_iret dX12_set_19 rfl ⟨Nat.le_refl _, Nat.le_refl _⟩ ⟨rfl, _, rfl, ⟨by unfold aSet; rw [if_pos (by first | exact Or.inl (b2i_eq h5) | exact Or.inr (b2i_eq h15))], by unfold nSet; rw [if_pos (by first | exact Or.inl (b2i_eq h5) | exact Or.inr (b2i_eq h15))]; exact hr⟩⟩
  · refine rx_aload_n dX12_set_8 rfl ?_
    refine rx_iload_n dX12_set_9 rfl ?_
    refine rx_iconst (0) dX12_set_10 (by decide) ?_
    refine rx_iconst (1) dX12_set_11 (by decide) ?_
    refine rx_cVi_3 clX12_236 dX12_set_12 (rcvo (sM_0) rfl) rfl (m_in g 0 _ _ _ S L) ?_
    refine pur3 ?_
    refine rx_if_ne 20 dX12_set_15 (by decide) (fun h15 => ?_) (fun h15 => ?_)
    · have hq := b2i_ne h5
      obtain ⟨c, hc, rfl⟩ := rngL (nN σ) (by have := hr.n7; omega) hq.1 hq.2
      have hc7 : c < 7 := by have := hr.n7; omega
      have hci : (nI c).toNatClampNeg = c := nI_clamp (by omega)
      have hvc : vp_in (nI c) 7 := vp_in_nI hc7 (by omega)
      have hw := b2i_ne h15
      refine rx_aload_n dX12_set_20 rfl ?_
      refine rx_iload_n dX12_set_21 rfl ?_
      refine rx_iconst (0) dX12_set_22 (by decide) ?_
      refine rx_iload_n dX12_set_23 rfl ?_
      refine rx_if_ne 36 dX12_set_24 (by decide) (fun h24 => ?_) (fun h24 => ?_)
      · refine rx_bipush (9) dX12_set_36 (by decide) ?_
        refine rx_cVi_3 clX12_236 dX12_set_38 (rcvo (sM_0) rfl) rfl (m_in g 0 _ _ _ S L) ?_
        refine pur3 ?_
        refine rx_if_ne 47 dX12_set_41 (by decide) (fun h41 => ?_) (fun h41 => ?_)
        · refine rx_iload_n dX12_set_47 rfl ?_
          refine rx_if_ne 60 dX12_set_48 (by decide) (fun h48 => ?_) (fun h48 => absurd h48 h24)
          refine rx_aload_n dX12_set_60 rfl ?_
          refine rx_getR dX12_set_61 flX12_29 (sM_0) rfl ?_
          refine rx_iload_n dX12_set_64 rfl ?_
          refine rx_iaload dX12_set_65 (sM_4) hvc ?_
          rw [hci, hr.sc.e hc7]
          refine rx_istore_4 rfl dX12_set_66 ?_
          refine rx_iload_n dX12_set_68 rfl ?_
          refine rx_if_ne 96 dX12_set_69 (by decide) (fun h69 => ?_) (fun h69 => absurd h69 h24)
          refine rx_aload_n dX12_set_96 rfl ?_
          refine rx_getR dX12_set_97 flX12_29 (sM_0) rfl ?_
          refine rx_iload_n dX12_set_100 rfl ?_
          refine rx_iload_n dX12_set_101 rfl ?_
          refine rx_iastore dX12_set_102 (sM_4) hvc ?_
          rw [hci]
          refine rx_iload dX12_set_103 rfl ?_
          exact rx_iret dX12_set_105 rfl ⟨Nat.le_refl _, Nat.le_refl _⟩ ⟨rfl, _, rfl, ⟨by unfold aSet; rw [if_neg (by rintro (q | q); exact q hq; exact q hw), if_neg h24, if_neg (fun q => q (b2i_ne h41)), hci], by have en : nSet σ (nI c) w v = (wEr (gN σ) (upd (eE (gE σ)) c v), σ.2) := (by unfold nSet; rw [if_neg (by rintro (q | q); exact q hq; exact q hw), if_neg h24, if_neg (fun q => q (b2i_ne h41)), hci]); rw [en] at hok ⊢; exact hr.mk2 hok (hr.sc.early c v) rfl rfl rfl (Fr.refl.up (by decide) (by decide))⟩⟩
        · refine rx_bipush (-2) dX12_set_44 (by decide) ?_
          exact rx_iret dX12_set_46 rfl ⟨Nat.le_refl _, Nat.le_refl _⟩ ⟨rfl, _, rfl, ⟨by unfold aSet; rw [if_neg (by rintro (q | q); exact q hq; exact q hw), if_neg h24, if_pos (b2i_eq h41)], by unfold nSet; rw [if_neg (by rintro (q | q); exact q hq; exact q hw), if_neg h24, if_pos (b2i_eq h41)]; exact hr⟩⟩
      · refine rx_aload_n dX12_set_27 rfl ?_
        refine rx_cVi_0 clX12_244 dX12_set_28 (rcvo (sM_0) rfl) rfl (m_far g _ _ S L hr.sc) ?_
        refine pur3 ?_
        refine rx_iconst (1) dX12_set_31 (by decide) ?_
        refine rx_isub dX12_set_32 ?_
        refine rx_goto 38 dX12_set_33 (by decide) ?_
        refine rx_cVi_3 clX12_236 dX12_set_38 (rcvo (sM_0) rfl) rfl (m_in g 0 _ _ _ S L) ?_
        refine pur3 ?_
        refine rx_if_ne 47 dX12_set_41 (by decide) (fun h41 => ?_) (fun h41 => ?_)
        · refine rx_iload_n dX12_set_47 rfl ?_
          refine rx_if_ne 60 dX12_set_48 (by decide) (fun h48 => absurd h24 h48) (fun h48 => ?_)
          refine rx_aload_n dX12_set_51 rfl ?_
          refine rx_getR dX12_set_52 flX12_26 (sM_0) rfl ?_
          refine rx_iload_n dX12_set_55 rfl ?_
          refine rx_iaload dX12_set_56 (sM_3) hvc ?_
          rw [hci, hr.sc.a hc7]
          refine rx_goto 66 dX12_set_57 (by decide) ?_
          refine rx_istore_4 rfl dX12_set_66 ?_
          refine rx_iload_n dX12_set_68 rfl ?_
          refine rx_if_ne 96 dX12_set_69 (by decide) (fun h69 => absurd h24 h69) (fun h69 => ?_)
          refine rx_aload_n dX12_set_72 rfl ?_
          refine rx_getR dX12_set_73 flX12_26 (sM_0) rfl ?_
          refine rx_iload_n dX12_set_76 rfl ?_
          refine rx_iload_n dX12_set_77 rfl ?_
          refine rx_iastore dX12_set_78 (sM_3) hvc ?_
          rw [hci]
          refine rx_aload_n dX12_set_79 rfl ?_
          refine rx_dup dX12_set_80 rfl ?_
          refine rx_getI dX12_set_81 flX12_16 (sM_0) rfl ?_
          simp (disch := omega) only [upS_off]
          rw [hr.sc.w]
          refine rx_iconst (1) dX12_set_84 (by decide) ?_
          refine rx_iload_n dX12_set_85 rfl ?_
          refine rx_ishl dX12_set_86 ?_
          refine rx_iconst (-1) dX12_set_87 (by decide) ?_
          refine rx_ixor dX12_set_88 ?_
          refine rx_iand dX12_set_89 ?_
          refine rx_putI dX12_set_90 flX12_16 (sM_0) rfl ?_
          refine rx_goto 103 dX12_set_93 (by decide) ?_
          skip
          refine rx_iload dX12_set_103 rfl ?_
          exact rx_iret dX12_set_105 rfl ⟨Nat.le_refl _, Nat.le_refl _⟩ ⟨rfl, _, rfl, ⟨by unfold aSet; rw [if_neg (by rintro (q | q); exact q hq; exact q hw), if_pos h24, if_neg (fun q => q (b2i_ne h41)), hci], by have en : nSet σ (nI c) w v = (wD (gN σ) (putW (gD σ) c v), σ.2) := (by unfold nSet; rw [if_neg (by rintro (q | q); exact q hq; exact q hw), if_pos h24, if_neg (fun q => q (b2i_ne h41)), hci]); rw [en] at hok ⊢; exact hr.mk2 hok ((hr.sc.come c v).wall _) rfl rfl rfl ((Fr.refl.up (by decide) (by decide)).up0 (by decide))⟩⟩
        · refine rx_bipush (-2) dX12_set_44 (by decide) ?_
          exact rx_iret dX12_set_46 rfl ⟨Nat.le_refl _, Nat.le_refl _⟩ ⟨rfl, _, rfl, ⟨by unfold aSet; rw [if_neg (by rintro (q | q); exact q hq; exact q hw), if_pos h24, if_pos (b2i_eq h41)], by unfold nSet; rw [if_neg (by rintro (q | q); exact q hq; exact q hw), if_pos h24, if_pos (b2i_eq h41)]; exact hr⟩⟩
    · refine rx_iconst (-1) dX12_set_18 (by decide) ?_
      exact rx_iret dX12_set_19 rfl ⟨Nat.le_refl _, Nat.le_refl _⟩ ⟨rfl, _, rfl, ⟨by unfold aSet; rw [if_pos (by first | exact Or.inl (b2i_eq h5) | exact Or.inr (b2i_eq h15))], by unfold nSet; rw [if_pos (by first | exact Or.inl (b2i_eq h5) | exact Or.inr (b2i_eq h15))]; exact hr⟩⟩
set_option maxRecDepth 20000 in
set_option maxHeartbeats 1000000 in
theorem mc_row (g : GG) (σ : SIG) (c k v : Int32) (S : SS) (L : LL) (hr : MRel S L σ) (hok : OKg (nRow σ c k v)) : Ci g 2 mX12_row [.ref 0, .int c, .int k, .int v] SHM S L (fun r S' L' => r = aRow σ c k v ∧ MRel S' L' (nRow σ c k v)) := by
  refine ct_of (ls := [some (.ref 0), some (.int c), some (.int k), some (.int v), none]) 1 (by decide +kernel) rfl rfl ?_
  refine rx_aload_n dX12_row_0 rfl ?_
  refine rx_iload_n dX12_row_1 rfl ?_
  refine rx_cVi_1 clX12_240 dX12_row_2 (rcvo (sM_0) rfl) rfl (m_isChild g (nN σ) c S L hr.n7 hr.sz) ?_
  refine pur3 ?_
  refine rx_if_eq 18 dX12_row_5 (by decide) (fun h5 => ?_) (fun h5 => ?_)
  · refine rx_iconst (-1) dX12_row_18 (by decide) ?_
    exact rx_iret dX12_row_19 rfl ⟨Nat.le_refl _, Nat.le_refl _⟩ ⟨rfl, _, rfl, ⟨by unfold aRow; rw [if_pos (by first | exact Or.inl (b2i_eq h5) | exact Or.inr (b2i_eq h15))], by unfold nRow; rw [if_pos (by first | exact Or.inl (b2i_eq h5) | exact Or.inr (b2i_eq h15))]; exact hr⟩⟩
  · refine rx_aload_n dX12_row_8 rfl ?_
    refine rx_iload_n dX12_row_9 rfl ?_
    refine rx_iconst (0) dX12_row_10 (by decide) ?_
    refine rx_iconst (3) dX12_row_11 (by decide) ?_
    refine rx_cVi_3 clX12_236 dX12_row_12 (rcvo (sM_0) rfl) rfl (m_in g 0 _ _ _ S L) ?_
    refine pur3 ?_
    refine rx_if_ne 20 dX12_row_15 (by decide) (fun h15 => ?_) (fun h15 => ?_)
    · have hq := b2i_ne h5
      obtain ⟨c, hc, rfl⟩ := rngL (nN σ) (by have := hr.n7; omega) hq.1 hq.2
      have hc7 : c < 7 := by have := hr.n7; omega
      have hci : (nI c).toNatClampNeg = c := nI_clamp (by omega)
      have hvc : vp_in (nI c) 7 := vp_in_nI hc7 (by omega)
      have hw := b2i_ne h15
      obtain ⟨k, hk, rfl⟩ := rngI 3 (by omega) hw.1 hw.2
      have hkc : (nI k).toNatClampNeg = k := nI_clamp (by omega)
      have hx : 4 * nI c + nI k = nI (c * 4 + k) := by rw [show (4 : Int32) = nI 4 from rfl, pk_mul, nI_add, Nat.mul_comm]
      have hqx : (nI (c * 4 + k)).toNatClampNeg = c * 4 + k := nI_clamp (by omega)
      have hvx : vp_in (nI (c * 4 + k)) 28 := vp_in_nI (by omega) (by omega)
      refine rx_aload_n dX12_row_20 rfl ?_
      refine rx_iload_n dX12_row_21 rfl ?_
      refine rx_iconst (0) dX12_row_22 (by decide) ?_
      refine rx_bipush (9) dX12_row_23 (by decide) ?_
      refine rx_cVi_3 clX12_236 dX12_row_25 (rcvo (sM_0) rfl) rfl (m_in g 0 _ _ _ S L) ?_
      refine pur3 ?_
      refine rx_if_ne 34 dX12_row_28 (by decide) (fun h28 => ?_) (fun h28 => ?_)
      · refine rx_aload_n dX12_row_34 rfl ?_
        refine rx_getR dX12_row_35 flX12_19 (sM_0) rfl ?_
        refine rx_iload_n dX12_row_38 rfl ?_
        refine rx_iaload dX12_row_39 (sM_1) hvc ?_
        rw [hci, hr.sc.k hc7]
        refine rx_bipush (6) dX12_row_40 (by decide) ?_
        refine rx_icmp_eq 48 dX12_row_42 (by decide) (fun h42 => ?_) (fun h42 => ?_)
        · refine rx_aload_n dX12_row_48 rfl ?_
          refine rx_getR dX12_row_49 flX12_35 (sM_0) rfl ?_
          refine rx_iconst (4) dX12_row_52 (by decide) ?_
          refine rx_iload_n dX12_row_53 rfl ?_
          refine rx_imul dX12_row_54 ?_
          refine rx_iload_n dX12_row_55 rfl ?_
          refine rx_iadd dX12_row_56 ?_
          rw [hx]
          refine rx_iaload dX12_row_57 (sM_6) hvx ?_
          rw [hqx, hr.sc.2.2.2.2.1 _ (by omega)]
          refine rx_istore_4 rfl dX12_row_58 ?_
          refine rx_aload_n dX12_row_60 rfl ?_
          refine rx_getR dX12_row_61 flX12_35 (sM_0) rfl ?_
          refine rx_iconst (4) dX12_row_64 (by decide) ?_
          refine rx_iload_n dX12_row_65 rfl ?_
          refine rx_imul dX12_row_66 ?_
          refine rx_iload_n dX12_row_67 rfl ?_
          refine rx_iadd dX12_row_68 ?_
          rw [hx]
          refine rx_iload_n dX12_row_69 rfl ?_
          refine rx_iastore dX12_row_70 (sM_6) hvx ?_
          rw [hqx]
          refine rx_iload dX12_row_71 rfl ?_
          exact rx_iret dX12_row_73 rfl ⟨Nat.le_refl _, Nat.le_refl _⟩ ⟨rfl, _, rfl, ⟨by unfold aRow; rw [if_neg (by rintro (q | q); exact q hq; exact q hw), if_neg (fun q => q (b2i_ne h28)), hci, if_neg (fun q => q h42), hkc], by have en : nRow σ (nI c) (nI k) v = (wRw (gN σ) (upd (eR (gE σ)) (c * 4 + k) v), σ.2) := (by unfold nRow; rw [if_neg (by rintro (q | q); exact q hq; exact q hw), if_neg (fun q => q (b2i_ne h28)), hci, if_neg (fun q => q h42), hkc]); rw [en] at hok ⊢; exact hr.mk2 hok (hr.sc.row _ v) rfl rfl rfl (Fr.refl.up (by decide) (by decide))⟩⟩
        · refine rx_bipush (-3) dX12_row_45 (by decide) ?_
          exact rx_iret dX12_row_47 rfl ⟨Nat.le_refl _, Nat.le_refl _⟩ ⟨rfl, _, rfl, ⟨by unfold aRow; rw [if_neg (by rintro (q | q); exact q hq; exact q hw), if_neg (fun q => q (b2i_ne h28)), hci, if_pos h42], by unfold nRow; rw [if_neg (by rintro (q | q); exact q hq; exact q hw), if_neg (fun q => q (b2i_ne h28)), hci, if_pos h42]; exact hr⟩⟩
      · refine rx_bipush (-2) dX12_row_31 (by decide) ?_
        exact rx_iret dX12_row_33 rfl ⟨Nat.le_refl _, Nat.le_refl _⟩ ⟨rfl, _, rfl, ⟨by unfold aRow; rw [if_neg (by rintro (q | q); exact q hq; exact q hw), if_pos (b2i_eq h28)], by unfold nRow; rw [if_neg (by rintro (q | q); exact q hq; exact q hw), if_pos (b2i_eq h28)]; exact hr⟩⟩
    · refine rx_iconst (-1) dX12_row_18 (by decide) ?_
      exact rx_iret dX12_row_19 rfl ⟨Nat.le_refl _, Nat.le_refl _⟩ ⟨rfl, _, rfl, ⟨by unfold aRow; rw [if_pos (by first | exact Or.inl (b2i_eq h5) | exact Or.inr (b2i_eq h15))], by unfold nRow; rw [if_pos (by first | exact Or.inl (b2i_eq h5) | exact Or.inr (b2i_eq h15))]; exact hr⟩⟩
set_option maxRecDepth 20000 in
set_option maxHeartbeats 1000000 in
theorem mc_counts (g : GG) (σ : SIG) (k v : Int32) (S : SS) (L : LL) (hr : MRel S L σ) (hok : OKg (nCounts σ k v)) : Ci g 1 mX12_counts [.ref 0, .int k, .int v] SHM S L (fun r S' L' => r = aCounts σ k v ∧ MRel S' L' (nCounts σ k v)) := by
  refine ct_of (ls := [some (.ref 0), some (.int k), some (.int v), none]) 1 (by decide +kernel) rfl rfl ?_
  refine rx_aload_n dX12_counts_0 rfl ?_
  refine rx_iload_n dX12_counts_1 rfl ?_
  refine rx_iconst (0) dX12_counts_2 (by decide) ?_
  refine rx_iconst (3) dX12_counts_3 (by decide) ?_
  refine rx_cVi_3 clX12_236 dX12_counts_4 (rcvo (sM_0) rfl) rfl (m_in g 0 _ _ _ S L) ?_
  refine pur3 ?_
  refine rx_if_ne 12 dX12_counts_7 (by decide) (fun h7 => ?_) (fun h7 => ?_)
  · refine rx_aload_n dX12_counts_12 rfl ?_
    refine rx_iload_n dX12_counts_13 rfl ?_
    refine rx_iconst (1) dX12_counts_14 (by decide) ?_
    refine rx_bipush (9) dX12_counts_15 (by decide) ?_
    refine rx_cVi_3 clX12_236 dX12_counts_17 (rcvo (sM_0) rfl) rfl (m_in g 0 _ _ _ S L) ?_
    refine pur3 ?_
    refine rx_if_ne 26 dX12_counts_20 (by decide) (fun h20 => ?_) (fun h20 => ?_)
    · have hw := b2i_ne h7
      obtain ⟨c, hk, rfl⟩ := rngI 3 (by omega) hw.1 hw.2
      have hkc : (nI c).toNatClampNeg = c := nI_clamp (by omega)
      have hv4 : vp_in (nI c) 4 := vp_in_nI (by omega) (by omega)
      refine rx_aload_n dX12_counts_26 rfl ?_
      refine rx_getR dX12_counts_27 flX12_38 (sM_0) rfl ?_
      refine rx_iload_n dX12_counts_30 rfl ?_
      refine rx_iaload dX12_counts_31 (sM_7) hv4 ?_
      rw [hkc, hr.sc.2.2.2.2.2.1 c (by omega)]
      refine rx_istore_3 rfl dX12_counts_32 ?_
      refine rx_aload_n dX12_counts_33 rfl ?_
      refine rx_getR dX12_counts_34 flX12_38 (sM_0) rfl ?_
      refine rx_iload_n dX12_counts_37 rfl ?_
      refine rx_iload_n dX12_counts_38 rfl ?_
      refine rx_iastore dX12_counts_39 (sM_7) hv4 ?_
      rw [hkc]
      refine rx_iload_n dX12_counts_40 rfl ?_
      exact rx_iret dX12_counts_41 rfl ⟨Nat.le_refl _, Nat.le_refl _⟩ ⟨rfl, _, rfl, ⟨by unfold aCounts; rw [if_neg (fun q => q hw), if_neg (fun q => q (b2i_ne h20)), hkc], by have en : nCounts σ (nI c) v = (wCn (gN σ) (upd (eC (gE σ)) c v), σ.2) := (by unfold nCounts; rw [if_neg (fun q => q hw), if_neg (fun q => q (b2i_ne h20)), hkc]); rw [en] at hok ⊢; exact hr.mk2 hok (hr.sc.cnt c v) rfl rfl rfl (Fr.refl.up (by decide) (by decide))⟩⟩
    · refine rx_bipush (-2) dX12_counts_23 (by decide) ?_
      exact rx_iret dX12_counts_25 rfl ⟨Nat.le_refl _, Nat.le_refl _⟩ ⟨rfl, _, rfl, ⟨by unfold aCounts; rw [if_neg (fun q => q (b2i_ne h7)), if_pos (b2i_eq h20)], by unfold nCounts; rw [if_neg (fun q => q (b2i_ne h7)), if_pos (b2i_eq h20)]; exact hr⟩⟩
  · refine rx_iconst (-1) dX12_counts_10 (by decide) ?_
    exact rx_iret dX12_counts_11 rfl ⟨Nat.le_refl _, Nat.le_refl _⟩ ⟨rfl, _, rfl, ⟨by unfold aCounts; rw [if_pos (b2i_eq h7)], by unfold nCounts; rw [if_pos (b2i_eq h7)]; exact hr⟩⟩
theorem MRel.feed {S : SS} {L : LL} {σ : SIG} (h : MRel S L σ) (q : Nat) (hok : OKg (σ.1, σ.2.1, σ.2.2.1, σ.2.2.2.1, σ.2.2.2.2.1, gT σ ++ [q], σ.2.2.2.2.2.2)) : MRel (upS (upS S 8 (gT σ).length (nI q)) 0 12 (nI ((gT σ).length + 1))) L (σ.1, σ.2.1, σ.2.2.1, σ.2.2.2.1, σ.2.2.2.2.1, gT σ ++ [q], σ.2.2.2.2.2.2) := by
  obtain ⟨-, a2, ⟨a3, a4, a5⟩, ⟨b1, b2, b3, b4, b5, b6, b7, b8, b9, b10, b11, b12, b13⟩⟩ := h
  have o : ∀ j, j ≠ 0 → j ≠ 8 → upS (upS S 8 (gT σ).length (nI q)) 0 12 (nI ((gT σ).length + 1)) j = S j := fun j h0 h1 => by rw [upS_off _ _ _ _ h0, upS_off _ _ _ _ h1]
  have o0 : ∀ k, k ≠ 12 → upS (upS S 8 (gT σ).length (nI q)) 0 12 (nI ((gT σ).length + 1)) 0 k = S 0 k := fun k hk => by rw [upS_row, pk_un hk, upS_off _ _ _ _ (by decide)]
  refine ⟨hok, a2.ex2 (fun j h0 h1 => o j h0 h1) (fun k hk => o0 k (by omega)), ⟨by rw [o0 27 (by decide)]; exact a3, by rw [o0 29 (by decide)]; exact a4, by rw [o0 30 (by decide)]; exact a5⟩, by rw [o0 11 (by decide)]; exact b1, b2.off (o0 42 (by decide)) (o 25 (by decide) (by decide)) (o 26 (by decide) (by decide)) (o 27 (by decide) (by decide)), b3.off (o0 46 (by decide)) (o 28 (by decide) (by decide)) (o 29 (by decide) (by decide)), fun e => (b4 e).off (fun j h1 h2 => o j (by omega) (by omega)) (fun k h1 h2 => o0 k (by omega)), by rw [o0 49 (by decide)]; exact b5, by rw [o0 10 (by decide)]; exact b6, fun y hy => (b7 y hy).off (fun j h1 h2 => o j (by omega) (by omega)), ?_, fun i p hp => ?_, by rw [o0 68 (by decide)]; exact b10, by rw [o 42 (by decide) (by decide)]; exact b11, fun t ht => by rw [o 43 (by decide) (by decide), o 44 (by decide) (by decide)]; exact b12 t ht, by unfold MLt; rw [o 16 (by decide) (by decide)]; exact b13⟩
  · rw [upS_at]
    show _ = nI (gT σ ++ [q]).length
    rw [List.length_append]; rfl
  · rw [upS_off _ _ _ _ (by decide), upS_row]
    rcases get_push hp with ⟨h1, h2⟩ | ⟨h1, h2⟩
    · rw [pk_un (by omega)]; exact b9 i p h2
    · rw [h1, h2, pk_us]
set_option maxRecDepth 20000 in
set_option maxHeartbeats 1000000 in
theorem mc_feed (g : GG) (σ : SIG) (q : Int32) (S : SS) (L : LL) (hr : MRel S L σ) (hok : OKg (nFeed σ q)) : Ci g 1 mX12_feed [.ref 0, .int q] SHM S L (fun r S' L' => r = aFeed σ q ∧ MRel S' L' (nFeed σ q)) := by
  have hft : S 0 12 = nI (gT σ).length := hr.2.2.2.2.2.2.2.2.2.2.1
  have hg100 : (gT σ).length ≤ 100 := hr.1.2.2.2.2.2.2.1
  refine ct_of (ls := [some (.ref 0), some (.int q)]) 0 (by decide +kernel) rfl rfl ?_
  refine rx_aload_n dX12_feed_0 rfl ?_
  refine rx_iload_n dX12_feed_1 rfl ?_
  refine rx_iconst (0) dX12_feed_2 (by decide) ?_
  refine rx_bipush (127) dX12_feed_3 (by decide) ?_
  refine rx_cVi_3 clX12_236 dX12_feed_5 (rcvo (sM_0) rfl) rfl (m_in g 0 _ _ _ S L) ?_
  refine pur3 ?_
  refine rx_if_ne 14 dX12_feed_8 (by decide) (fun h8 => ?_) (fun h8 => ?_)
  · refine rx_aload_n dX12_feed_14 rfl ?_
    refine rx_getI dX12_feed_15 flX12_47 (sM_0) rfl ?_
    rw [hft]
    refine rx_bipush (100) dX12_feed_18 (by decide) ?_
    refine rx_icmp_ne 26 dX12_feed_20 (by decide) (fun h20 => ?_) (fun h20 => ?_)
    · have hl : (gT σ).length < 100 := by
        rcases Nat.lt_or_ge (gT σ).length 100 with p | p
        · exact p
        · exact absurd (by rw [show (gT σ).length = 100 by omega]; rfl) h20
      have hq := b2i_ne h8
      obtain ⟨q, hq1, rfl⟩ := rngI 127 (by omega) hq.1 hq.2
      have hqc : (nI q).toNatClampNeg = q := nI_clamp (by omega)
      have hfc : (nI (gT σ).length).toNatClampNeg = (gT σ).length := nI_clamp (by omega)
      refine rx_aload_n dX12_feed_26 rfl ?_
      refine rx_getR dX12_feed_27 flX12_56 (sM_0) rfl ?_
      refine rx_aload_n dX12_feed_30 rfl ?_
      refine rx_getI dX12_feed_31 flX12_47 (sM_0) rfl ?_
      rw [hft]
      refine rx_iload_n dX12_feed_34 rfl ?_
      refine rx_iastore dX12_feed_35 (sM_8) (vp_in_nI hl (by omega)) ?_
      rw [hfc]
      refine rx_aload_n dX12_feed_36 rfl ?_
      refine rx_dup dX12_feed_37 rfl ?_
      refine rx_getI dX12_feed_38 flX12_47 (sM_0) rfl ?_
      simp (disch := omega) only [upS_off]
      rw [hft]
      refine rx_iconst (1) dX12_feed_41 (by decide) ?_
      refine rx_iadd dX12_feed_42 ?_
      rw [nI_1]
      refine rx_putI dX12_feed_43 flX12_47 (sM_0) rfl ?_
      refine rx_aload_n dX12_feed_46 rfl ?_
      refine rx_getI dX12_feed_47 flX12_47 (sM_0) rfl ?_
      rw [upS_at]
      exact rx_iret dX12_feed_50 rfl ⟨Nat.le_refl _, Nat.le_refl _⟩ ⟨rfl, _, rfl, ⟨by unfold aFeed; rw [if_neg (fun z => z hq), if_neg (fun z => z hl)], by have en : nFeed σ (nI q) = (σ.1, σ.2.1, σ.2.2.1, σ.2.2.2.1, σ.2.2.2.2.1, gT σ ++ [q], σ.2.2.2.2.2.2) := (by unfold nFeed; rw [if_neg (fun z => z hq), if_neg (fun z => z hl), hqc]); rw [en] at hok ⊢; exact hr.feed q hok⟩⟩
    · refine rx_bipush (-4) dX12_feed_23 (by decide) ?_
      exact rx_iret dX12_feed_25 rfl ⟨Nat.le_refl _, Nat.le_refl _⟩ ⟨rfl, _, rfl, ⟨by unfold aFeed; rw [if_neg (fun q => q (b2i_ne h8)), if_pos (fun z => absurd ((nI_eq (b := 100) (by omega) (by omega)).mp h20) (by omega))], by unfold nFeed; rw [if_neg (fun q => q (b2i_ne h8)), if_pos (fun z => absurd ((nI_eq (b := 100) (by omega) (by omega)).mp h20) (by omega))]; exact hr⟩⟩
  · refine rx_bipush (-2) dX12_feed_11 (by decide) ?_
    exact rx_iret dX12_feed_13 rfl ⟨Nat.le_refl _, Nat.le_refl _⟩ ⟨rfl, _, rfl, ⟨by unfold aFeed; rw [if_pos (b2i_eq h8)], by unfold nFeed; rw [if_pos (b2i_eq h8)]; exact hr⟩⟩
set_option maxRecDepth 20000 in
set_option maxHeartbeats 1000000 in
theorem mc_see (g : GG) (σ : SIG) (c n a : Int32) (S : SS) (L : LL) (hr : MRel S L σ) (hok : OKg (nSee σ c n a)) : Ci g 2 mX12_see [.ref 0, .int c, .int n, .int a] SHM S L (fun r S' L' => r = aSee σ c n a ∧ MRel S' L' (nSee σ c n a)) := by
  have hss : S 0 42 = nI (sSn (gN σ)).length := hr.2.2.2.2.1.1
  have hsl : (sSn (gN σ)).length ≤ 4 := hr.1.1.2.2.2.2.2.1
  refine ct_of (ls := [some (.ref 0), some (.int c), some (.int n), some (.int a)]) 0 (by decide +kernel) rfl rfl ?_
  refine rx_iload_n dX12_see_0 rfl ?_
  refine rx_iconst (-1) dX12_see_1 (by decide) ?_
  refine rx_icmp_ne 12 dX12_see_2 (by decide) (fun h2 => ?_) (fun h2 => ?_)
  · refine rx_aload_n dX12_see_12 rfl ?_
    refine rx_iload_n dX12_see_13 rfl ?_
    refine rx_cVi_1 clX12_240 dX12_see_14 (rcvo (sM_0) rfl) rfl (m_isChild g (nN σ) c S L hr.n7 hr.sz) ?_
    refine pur3 ?_
    refine rx_if_ne 22 dX12_see_17 (by decide) (fun h17 => ?_) (fun h17 => ?_)
    · have hq := b2i_ne h17
      obtain ⟨c, hc, rfl⟩ := rngL (nN σ) (by have := hr.n7; omega) hq.1 hq.2
      have hc7 : c < 7 := by have := hr.n7; omega
      have hci : (nI c).toNatClampNeg = c := nI_clamp (by omega)
      have hvc : vp_in (nI c) 7 := vp_in_nI hc7 (by omega)
      refine rx_aload_n dX12_see_22 rfl ?_
      refine rx_iload_n dX12_see_23 rfl ?_
      refine rx_iconst (0) dX12_see_24 (by decide) ?_
      refine rx_bipush (20) dX12_see_25 (by decide) ?_
      refine rx_cVi_3 clX12_236 dX12_see_27 (rcvo (sM_0) rfl) rfl (m_in g 0 _ _ _ S L) ?_
      refine pur3 ?_
      refine rx_if_eq 44 dX12_see_30 (by decide) (fun h30 => ?_) (fun h30 => ?_)
      · refine rx_bipush (-2) dX12_see_44 (by decide) ?_
        exact rx_iret dX12_see_46 rfl ⟨Nat.le_refl _, Nat.le_refl _⟩ ⟨rfl, _, rfl, ⟨by unfold aSee; rw [if_neg h2, if_neg (fun q => q hq), if_pos (by first | exact Or.inl (b2i_eq h30) | exact Or.inr (b2i_eq h41))], by unfold nSee; rw [if_neg h2, if_neg (fun q => q hq), if_pos (by first | exact Or.inl (b2i_eq h30) | exact Or.inr (b2i_eq h41))]; exact hr⟩⟩
      · refine rx_aload_n dX12_see_33 rfl ?_
        refine rx_iload_n dX12_see_34 rfl ?_
        refine rx_iconst (0) dX12_see_35 (by decide) ?_
        refine rx_bipush (99) dX12_see_36 (by decide) ?_
        refine rx_cVi_3 clX12_236 dX12_see_38 (rcvo (sM_0) rfl) rfl (m_in g 0 _ _ _ S L) ?_
        refine pur3 ?_
        refine rx_if_ne 47 dX12_see_41 (by decide) (fun h41 => ?_) (fun h41 => ?_)
        · have ha := b2i_ne h41
          have hnr := b2i_ne h30
          obtain ⟨m, hm, rfl⟩ := rngI 20 (by omega) (hnr.1) hnr.2
          have hmc : (nI m).toNatClampNeg = m := nI_clamp (by omega)
          obtain ⟨b, hb, rfl⟩ := rngI 99 (by omega) ha.1 ha.2
          have hbc : (nI b).toNatClampNeg = b := nI_clamp (by omega)
          refine rx_aload_n dX12_see_47 rfl ?_
          refine rx_getI dX12_see_48 flX12_138 (sM_0) rfl ?_
          rw [hss]
          refine rx_iconst (4) dX12_see_51 (by decide) ?_
          refine rx_icmp_ne 58 dX12_see_52 (by decide) (fun h52 => ?_) (fun h52 => ?_)
          · have hl : (sSn (gN σ)).length < 4 := by
              rcases Nat.lt_or_ge (sSn (gN σ)).length 4 with p | p
              · exact p
              · exact absurd (by rw [show (sSn (gN σ)).length = 4 by omega]; rfl) h52
            have hfc : (nI (sSn (gN σ)).length).toNatClampNeg = (sSn (gN σ)).length := nI_clamp (by omega)
            have hv4 : vp_in (nI (sSn (gN σ)).length) 4 := vp_in_nI hl (by omega)
            refine rx_aload_n dX12_see_58 rfl ?_
            refine rx_getR dX12_see_59 flX12_141 (sM_0) rfl ?_
            refine rx_aload_n dX12_see_62 rfl ?_
            refine rx_getI dX12_see_63 flX12_138 (sM_0) rfl ?_
            rw [hss]
            refine rx_iload_n dX12_see_66 rfl ?_
            refine rx_iastore dX12_see_67 (sM_25) hv4 ?_
            rw [hfc]
            refine rx_aload_n dX12_see_68 rfl ?_
            refine rx_getR dX12_see_69 flX12_144 (sM_0) rfl ?_
            refine rx_aload_n dX12_see_72 rfl ?_
            refine rx_getI dX12_see_73 flX12_138 (sM_0) rfl ?_
            simp (disch := omega) only [upS_off]
            rw [hss]
            refine rx_iload_n dX12_see_76 rfl ?_
            refine rx_iastore dX12_see_77 (sM_26) hv4 ?_
            rw [hfc]
            refine rx_aload_n dX12_see_78 rfl ?_
            refine rx_getR dX12_see_79 flX12_147 (sM_0) rfl ?_
            refine rx_aload_n dX12_see_82 rfl ?_
            refine rx_getI dX12_see_83 flX12_138 (sM_0) rfl ?_
            simp (disch := omega) only [upS_off]
            rw [hss]
            refine rx_iload_n dX12_see_86 rfl ?_
            refine rx_iastore dX12_see_87 (sM_27) hv4 ?_
            rw [hfc]
            refine rx_aload_n dX12_see_88 rfl ?_
            refine rx_dup dX12_see_89 rfl ?_
            refine rx_getI dX12_see_90 flX12_138 (sM_0) rfl ?_
            simp (disch := omega) only [upS_off]
            rw [hss]
            refine rx_iconst (1) dX12_see_93 (by decide) ?_
            refine rx_iadd dX12_see_94 ?_
            rw [nI_1]
            refine rx_putI dX12_see_95 flX12_138 (sM_0) rfl ?_
            refine rx_aload_n dX12_see_98 rfl ?_
            refine rx_getI dX12_see_99 flX12_138 (sM_0) rfl ?_
            rw [upS_at]
            exact rx_iret dX12_see_102 rfl ⟨Nat.le_refl _, Nat.le_refl _⟩ ⟨rfl, _, rfl, ⟨by unfold aSee; rw [if_neg h2, if_neg (fun q => q hq), if_neg (by rintro (q | q); exact q hnr; exact q ha), if_neg (fun q => q hl)], by have en : nSee σ (nI c) (nI m) (nI b) = (wSn (gN σ) (sSn (gN σ) ++ [(c, m, b)]), σ.2) := (by unfold nSee; rw [if_neg h2, if_neg (fun q => q hq), if_neg (by rintro (q | q); exact q hnr; exact q ha), if_neg (fun q => q hl), hci, hmc, hbc]); rw [en] at hok ⊢; exact hr.sn _ hok ((((Fr.refl.up (by decide) (by decide)).up (by decide) (by decide)).up (by decide) (by decide)).up0 (by decide)) (MSe.push hr.2.2.2.2.1 c m b)⟩⟩
          · refine rx_bipush (-4) dX12_see_55 (by decide) ?_
            exact rx_iret dX12_see_57 rfl ⟨Nat.le_refl _, Nat.le_refl _⟩ ⟨rfl, _, rfl, ⟨by unfold aSee; rw [if_neg h2, if_neg (fun q => q hq), if_neg (by rintro (q | q); exact q hnr; exact q ha), if_pos (show ¬ (sSn (gN σ)).length < 4 from fun q => absurd ((nI_eq (b := 4) (by omega) (by omega)).mp h52) (by omega))], by unfold nSee; rw [if_neg h2, if_neg (fun q => q hq), if_neg (by rintro (q | q); exact q hnr; exact q ha), if_pos (show ¬ (sSn (gN σ)).length < 4 from fun q => absurd ((nI_eq (b := 4) (by omega) (by omega)).mp h52) (by omega))]; exact hr⟩⟩
        · refine rx_bipush (-2) dX12_see_44 (by decide) ?_
          exact rx_iret dX12_see_46 rfl ⟨Nat.le_refl _, Nat.le_refl _⟩ ⟨rfl, _, rfl, ⟨by unfold aSee; rw [if_neg h2, if_neg (fun q => q hq), if_pos (by first | exact Or.inl (b2i_eq h30) | exact Or.inr (b2i_eq h41))], by unfold nSee; rw [if_neg h2, if_neg (fun q => q hq), if_pos (by first | exact Or.inl (b2i_eq h30) | exact Or.inr (b2i_eq h41))]; exact hr⟩⟩
    · refine rx_iconst (-1) dX12_see_20 (by decide) ?_
      exact rx_iret dX12_see_21 rfl ⟨Nat.le_refl _, Nat.le_refl _⟩ ⟨rfl, _, rfl, ⟨by unfold aSee; rw [if_neg h2, if_pos (b2i_eq h17)], by unfold nSee; rw [if_neg h2, if_pos (b2i_eq h17)]; exact hr⟩⟩
  · skip
    refine rx_aload_n dX12_see_5 rfl ?_
    refine rx_iconst (0) dX12_see_6 (by decide) ?_
    refine rx_putI dX12_see_7 flX12_138 (sM_0) rfl ?_
    refine rx_iconst (0) dX12_see_10 (by decide) ?_
    exact rx_iret dX12_see_11 rfl ⟨Nat.le_refl _, Nat.le_refl _⟩ ⟨rfl, _, rfl, ⟨by unfold aSee; rw [if_pos h2], by have en : nSee σ c n a = (wSn (gN σ) [], σ.2) := (by unfold nSee; rw [if_pos h2]); rw [en] at hok ⊢; exact hr.sn _ hok (Fr.refl.up0 (by decide)) ⟨by rw [upS_at]; rfl, fun i q hq => by simp at hq⟩⟩⟩
set_option maxRecDepth 20000 in
set_option maxHeartbeats 1000000 in
theorem mc_book (g : GG) (σ : SIG) (c a : Int32) (S : SS) (L : LL) (hr : MRel S L σ) (hok : OKg (nBook σ c a)) : Ci g 2 mX12_book [.ref 0, .int c, .int a] SHM S L (fun r S' L' => r = aBook σ c a ∧ MRel S' L' (nBook σ c a)) := by
  have hss : S 0 46 = nI (sBk (gN σ)).length := hr.2.2.2.2.2.1.1
  have hsl : (sBk (gN σ)).length ≤ 8 := hr.1.1.2.2.2.2.2.2
  refine ct_of (ls := [some (.ref 0), some (.int c), some (.int a)]) 0 (by decide +kernel) rfl rfl ?_
  refine rx_iload_n dX12_book_0 rfl ?_
  refine rx_iconst (-1) dX12_book_1 (by decide) ?_
  refine rx_icmp_ne 12 dX12_book_2 (by decide) (fun h2 => ?_) (fun h2 => ?_)
  · refine rx_aload_n dX12_book_12 rfl ?_
    refine rx_iload_n dX12_book_13 rfl ?_
    refine rx_cVi_1 clX12_240 dX12_book_14 (rcvo (sM_0) rfl) rfl (m_isChild g (nN σ) c S L hr.n7 hr.sz) ?_
    refine pur3 ?_
    refine rx_if_ne 22 dX12_book_17 (by decide) (fun h17 => ?_) (fun h17 => ?_)
    · have hq := b2i_ne h17
      obtain ⟨c, hc, rfl⟩ := rngL (nN σ) (by have := hr.n7; omega) hq.1 hq.2
      have hc7 : c < 7 := by have := hr.n7; omega
      have hci : (nI c).toNatClampNeg = c := nI_clamp (by omega)
      have hvc : vp_in (nI c) 7 := vp_in_nI hc7 (by omega)
      refine rx_aload_n dX12_book_22 rfl ?_
      refine rx_iload_n dX12_book_23 rfl ?_
      refine rx_iconst (0) dX12_book_24 (by decide) ?_
      refine rx_bipush (99) dX12_book_25 (by decide) ?_
      refine rx_cVi_3 clX12_236 dX12_book_27 (rcvo (sM_0) rfl) rfl (m_in g 0 _ _ _ S L) ?_
      refine pur3 ?_
      refine rx_if_ne 36 dX12_book_30 (by decide) (fun h30 => ?_) (fun h30 => ?_)
      · have ha := b2i_ne h30
        obtain ⟨b, hb, rfl⟩ := rngI 99 (by omega) ha.1 ha.2
        have hbc : (nI b).toNatClampNeg = b := nI_clamp (by omega)
        refine rx_aload_n dX12_book_36 rfl ?_
        refine rx_getI dX12_book_37 flX12_150 (sM_0) rfl ?_
        rw [hss]
        refine rx_bipush (8) dX12_book_40 (by decide) ?_
        refine rx_icmp_ne 48 dX12_book_42 (by decide) (fun h42 => ?_) (fun h42 => ?_)
        · have hl : (sBk (gN σ)).length < 8 := by
            rcases Nat.lt_or_ge (sBk (gN σ)).length 8 with p | p
            · exact p
            · exact absurd (by rw [show (sBk (gN σ)).length = 8 by omega]; rfl) h42
          have hfc : (nI (sBk (gN σ)).length).toNatClampNeg = (sBk (gN σ)).length := nI_clamp (by omega)
          have hv8 : vp_in (nI (sBk (gN σ)).length) 8 := vp_in_nI hl (by omega)
          refine rx_aload_n dX12_book_48 rfl ?_
          refine rx_getR dX12_book_49 flX12_153 (sM_0) rfl ?_
          refine rx_aload_n dX12_book_52 rfl ?_
          refine rx_getI dX12_book_53 flX12_150 (sM_0) rfl ?_
          rw [hss]
          refine rx_iload_n dX12_book_56 rfl ?_
          refine rx_iastore dX12_book_57 (sM_28) hv8 ?_
          rw [hfc]
          refine rx_aload_n dX12_book_58 rfl ?_
          refine rx_getR dX12_book_59 flX12_156 (sM_0) rfl ?_
          refine rx_aload_n dX12_book_62 rfl ?_
          refine rx_getI dX12_book_63 flX12_150 (sM_0) rfl ?_
          simp (disch := omega) only [upS_off]
          rw [hss]
          refine rx_iload_n dX12_book_66 rfl ?_
          refine rx_iastore dX12_book_67 (sM_29) hv8 ?_
          rw [hfc]
          refine rx_aload_n dX12_book_68 rfl ?_
          refine rx_dup dX12_book_69 rfl ?_
          refine rx_getI dX12_book_70 flX12_150 (sM_0) rfl ?_
          simp (disch := omega) only [upS_off]
          rw [hss]
          refine rx_iconst (1) dX12_book_73 (by decide) ?_
          refine rx_iadd dX12_book_74 ?_
          rw [nI_1]
          refine rx_putI dX12_book_75 flX12_150 (sM_0) rfl ?_
          refine rx_aload_n dX12_book_78 rfl ?_
          refine rx_getI dX12_book_79 flX12_150 (sM_0) rfl ?_
          rw [upS_at]
          exact rx_iret dX12_book_82 rfl ⟨Nat.le_refl _, Nat.le_refl _⟩ ⟨rfl, _, rfl, ⟨by unfold aBook; rw [if_neg h2, if_neg (fun q => q hq), if_neg (fun q => q ha), if_neg (fun q => q hl)], by have en : nBook σ (nI c) (nI b) = (wBk (gN σ) (sBk (gN σ) ++ [(c, b)]), σ.2) := (by unfold nBook; rw [if_neg h2, if_neg (fun q => q hq), if_neg (fun q => q ha), if_neg (fun q => q hl), hci, hbc]); rw [en] at hok ⊢; exact hr.bk _ hok (((Fr.refl.up (by decide) (by decide)).up (by decide) (by decide)).up0 (by decide)) (MBo.push hr.2.2.2.2.2.1 c b)⟩⟩
        · refine rx_bipush (-4) dX12_book_45 (by decide) ?_
          exact rx_iret dX12_book_47 rfl ⟨Nat.le_refl _, Nat.le_refl _⟩ ⟨rfl, _, rfl, ⟨by unfold aBook; rw [if_neg h2, if_neg (fun q => q hq), if_neg (fun q => q ha), if_pos (show ¬ (sBk (gN σ)).length < 8 from fun q => absurd ((nI_eq (b := 8) (by omega) (by omega)).mp h42) (by omega))], by unfold nBook; rw [if_neg h2, if_neg (fun q => q hq), if_neg (fun q => q ha), if_pos (show ¬ (sBk (gN σ)).length < 8 from fun q => absurd ((nI_eq (b := 8) (by omega) (by omega)).mp h42) (by omega))]; exact hr⟩⟩
      · refine rx_bipush (-2) dX12_book_33 (by decide) ?_
        exact rx_iret dX12_book_35 rfl ⟨Nat.le_refl _, Nat.le_refl _⟩ ⟨rfl, _, rfl, ⟨by unfold aBook; rw [if_neg h2, if_neg (fun q => q hq), if_pos (b2i_eq h30)], by unfold nBook; rw [if_neg h2, if_neg (fun q => q hq), if_pos (b2i_eq h30)]; exact hr⟩⟩
    · refine rx_iconst (-1) dX12_book_20 (by decide) ?_
      exact rx_iret dX12_book_21 rfl ⟨Nat.le_refl _, Nat.le_refl _⟩ ⟨rfl, _, rfl, ⟨by unfold aBook; rw [if_neg h2, if_pos (b2i_eq h17)], by unfold nBook; rw [if_neg h2, if_pos (b2i_eq h17)]; exact hr⟩⟩
  · refine rx_aload_n dX12_book_5 rfl ?_
    refine rx_iconst (0) dX12_book_6 (by decide) ?_
    refine rx_putI dX12_book_7 flX12_150 (sM_0) rfl ?_
    refine rx_iconst (0) dX12_book_10 (by decide) ?_
    exact rx_iret dX12_book_11 rfl ⟨Nat.le_refl _, Nat.le_refl _⟩ ⟨rfl, _, rfl, ⟨by unfold aBook; rw [if_pos h2], by have en : nBook σ c a = (wBk (gN σ) [], σ.2) := (by unfold nBook; rw [if_pos h2]); rw [en] at hok ⊢; exact hr.bk _ hok (Fr.refl.up0 (by decide)) ⟨by rw [upS_at]; rfl, fun i q hq => by simp at hq⟩⟩⟩
set_option maxRecDepth 20000 in
set_option maxHeartbeats 1000000 in
theorem mc_looked (g : GG) (σ : SIG)  (S : SS) (L : LL) (hr : MRel S L σ) : Ci g 1 mX12_looked [.ref 0] SHM S L (fun r S' L' => r = aLooked σ ∧ MRel S' L' σ) := by
  refine ct_of (ls := [some (.ref 0), none]) 1 (by decide +kernel) rfl rfl ?_
  refine rx_iconst (0) dX12_looked_0 (by decide) ?_
  refine rx_istore_1 rfl dX12_looked_1 ?_
  have hbo := hr.2.2.2.2.2.1
  have hss : S 0 46 = nI (sBk (gN σ)).length := hbo.1
  have hsl : (sBk (gN σ)).length ≤ 8 := hr.1.1.2.2.2.2.2.2
  have loop : ∀ (r i : Nat), i + r = (sBk (gN σ)).length → bkL (dA (gD σ)) ((sBk (gN σ)).drop i) i = aLooked σ → Rx g 1 0 0 mX12_looked SHM.length (fun r sh' S' L' => sh' = SHM ∧ ∃ x, r = some (.int x) ∧ (x = aLooked σ ∧ MRel S' L' σ)) 0 0 2 [some (.ref 0), some (.int (nI i))] [] SHM S L := by
    intro r
    induction r with
    | zero =>
      intro i hi hev
      refine rx_iload_n dX12_looked_2 rfl ?_
      refine rx_aload_n dX12_looked_3 rfl ?_
      refine rx_getI dX12_looked_4 flX12_150 (sM_0) rfl ?_
      refine rx_icmp_ge 38 dX12_looked_7 (by decide) (fun h7 => ?_) (fun h7 => absurd (by rw [hss]; exact nI_le (by omega) (by omega)) h7)
      refine rx_bipush (-5) dX12_looked_38 (by decide) ?_
      exact rx_iret dX12_looked_40 rfl ⟨Nat.le_refl _, Nat.le_refl _⟩ ⟨rfl, _, rfl, ⟨by rw [← hev, List.drop_of_length_le (by omega)]; rfl, hr⟩⟩
    | succ r ih =>
      intro i hi hev
      obtain ⟨q, hqi⟩ : ∃ q, (sBk (gN σ))[i]? = some q := ⟨_, List.getElem?_eq_getElem (by omega)⟩
      have hdr : (sBk (gN σ)).drop i = q :: (sBk (gN σ)).drop (i + 1) := by
        obtain ⟨g1, g2⟩ := List.getElem?_eq_some_iff.mp hqi
        rw [List.drop_eq_getElem_cons g1, g2]
      have hq1 : q.1 < nN σ := (hr.1.1.2.2.2.2.1 q (List.mem_of_getElem? hqi)).1
      have hn7 := hr.n7
      have hii : (nI i).toNatClampNeg = i := nI_clamp (by omega)
      have hv8 : vp_in (nI i) 8 := vp_in_nI (by omega) (by omega)
      refine rx_iload_n dX12_looked_2 rfl ?_
      refine rx_aload_n dX12_looked_3 rfl ?_
      refine rx_getI dX12_looked_4 flX12_150 (sM_0) rfl ?_
      refine rx_icmp_ge 38 dX12_looked_7 (by decide) (fun h7 => absurd h7 (by rw [hss]; exact nI_ge (by omega) (by omega))) (fun h7 => ?_)
      refine rx_aload_n dX12_looked_10 rfl ?_
      refine rx_getR dX12_looked_11 flX12_26 (sM_0) rfl ?_
      refine rx_aload_n dX12_looked_14 rfl ?_
      refine rx_getR dX12_looked_15 flX12_153 (sM_0) rfl ?_
      refine rx_iload_n dX12_looked_18 rfl ?_
      refine rx_iaload dX12_looked_19 (sM_28) hv8 ?_
      rw [hii, (hbo.2 i q hqi).1]
      refine rx_iaload dX12_looked_20 (sM_3) (vp_in_nI (show q.1 < 7 by omega) (by decide)) ?_
      rw [nI_clamp (by omega), hr.sc.a (by omega)]
      refine rx_aload_n dX12_looked_21 rfl ?_
      refine rx_getR dX12_looked_22 flX12_156 (sM_0) rfl ?_
      refine rx_iload_n dX12_looked_25 rfl ?_
      refine rx_iaload dX12_looked_26 (sM_29) hv8 ?_
      rw [hii, (hbo.2 i q hqi).2]
      refine rx_icmp_eq 32 dX12_looked_27 (by decide) (fun h27 => ?_) (fun h27 => ?_)
      · refine rx_iinc_1 (1) rfl dX12_looked_32 (by decide) ?_
        refine rx_goto 2 dX12_looked_35 (by decide) ?_
        rw [nI_1]
        exact ih (i + 1) (by omega) (by rw [← hev, hdr]; exact (if_pos h27).symm)
      · refine rx_iload_n dX12_looked_30 rfl ?_
        exact rx_iret dX12_looked_31 rfl ⟨Nat.le_refl _, Nat.le_refl _⟩ ⟨rfl, _, rfl, ⟨by rw [← hev, hdr]; exact (if_neg h27).symm, hr⟩⟩
  exact loop (sBk (gN σ)).length 0 (by omega) rfl
set_option maxRecDepth 20000 in
set_option maxHeartbeats 1000000 in
theorem mc_count (g : GG) (σ : SIG) (what : Int32) (S : SS) (L : LL) (hr : MRel S L σ) : Ci g 1 mX12_count [.ref 0, .int what] SHM S L (fun r S' L' => r = aCount σ what ∧ MRel S' L' σ) := by
  refine ct_of (ls := [some (.ref 0), some (.int what)]) 0 (by decide +kernel) rfl rfl ?_
  refine rx_iload_n dX12_count_0 rfl ?_
  rcases swN 5 (by decide) what with hw | ⟨j, hj, rfl⟩
  · have hw : what.toInt < 0 ∨ 5 < what.toInt := hw
    refine rx_tableOut 70 dX12_count_1 hw (by decide) ?_
    refine rx_bipush (-2) dX12_count_70 (by decide) ?_
    exact rx_iret dX12_count_72 rfl ⟨Nat.le_refl _, Nat.le_refl _⟩ ⟨rfl, _, rfl, ⟨by unfold aCount; rw [if_pos hw], hr⟩⟩
  · rcases (show j = 0 ∨ j = 1 ∨ j = 2 ∨ j = 3 ∨ j = 4 ∨ j = 5 by omega) with rfl | rfl | rfl | rfl | rfl | rfl
    · refine rx_tableIn 40 dX12_count_1 (by decide) (by decide) (by rfl) (by decide) ?_
      refine rx_aload_n dX12_count_40 rfl ?_
      refine rx_getI dX12_count_41 flX12_7 (sM_0) rfl ?_
      exact rx_iret dX12_count_44 rfl ⟨Nat.le_refl _, Nat.le_refl _⟩ ⟨rfl, _, rfl, ⟨by unfold aCount; rw [if_neg (by decide)]; exact hr.sz, hr⟩⟩
    · refine rx_tableIn 45 dX12_count_1 (by decide) (by decide) (by rfl) (by decide) ?_
      refine rx_aload_n dX12_count_45 rfl ?_
      refine rx_getI dX12_count_46 flX12_41 (sM_0) rfl ?_
      exact rx_iret dX12_count_49 rfl ⟨Nat.le_refl _, Nat.le_refl _⟩ ⟨rfl, _, rfl, ⟨by unfold aCount; rw [if_neg (by decide)]; exact hr.2.2.2.2.2.2.2.2.1, hr⟩⟩
    · refine rx_tableIn 50 dX12_count_1 (by decide) (by decide) (by rfl) (by decide) ?_
      refine rx_aload_n dX12_count_50 rfl ?_
      refine rx_getI dX12_count_51 flX12_138 (sM_0) rfl ?_
      exact rx_iret dX12_count_54 rfl ⟨Nat.le_refl _, Nat.le_refl _⟩ ⟨rfl, _, rfl, ⟨by unfold aCount; rw [if_neg (by decide)]; exact hr.2.2.2.2.1.1, hr⟩⟩
    · refine rx_tableIn 55 dX12_count_1 (by decide) (by decide) (by rfl) (by decide) ?_
      refine rx_aload_n dX12_count_55 rfl ?_
      refine rx_getI dX12_count_56 flX12_150 (sM_0) rfl ?_
      exact rx_iret dX12_count_59 rfl ⟨Nat.le_refl _, Nat.le_refl _⟩ ⟨rfl, _, rfl, ⟨by unfold aCount; rw [if_neg (by decide)]; exact hr.2.2.2.2.2.1.1, hr⟩⟩
    · refine rx_tableIn 60 dX12_count_1 (by decide) (by decide) (by rfl) (by decide) ?_
      refine rx_aload_n dX12_count_60 rfl ?_
      refine rx_getI dX12_count_61 flX12_47 (sM_0) rfl ?_
      exact rx_iret dX12_count_64 rfl ⟨Nat.le_refl _, Nat.le_refl _⟩ ⟨rfl, _, rfl, ⟨by unfold aCount; rw [if_neg (by decide)]; exact hr.2.2.2.2.2.2.2.2.2.2.1, hr⟩⟩
    · refine rx_tableIn 65 dX12_count_1 (by decide) (by decide) (by rfl) (by decide) ?_
      refine rx_aload_n dX12_count_65 rfl ?_
      refine rx_getI dX12_count_66 flX12_217 (sM_0) rfl ?_
      exact rx_iret dX12_count_69 rfl ⟨Nat.le_refl _, Nat.le_refl _⟩ ⟨rfl, _, rfl, ⟨by unfold aCount; rw [if_neg (by decide)]; exact hr.2.2.2.2.2.2.2.2.2.2.2.2.1, hr⟩⟩
theorem lt20 {x : Int32} (h : x < 20) : x ≤ 19 := by
  rw [Int32.lt_iff_toInt_lt] at h
  rw [Int32.le_iff_toInt_le]
  have e1 : (20 : Int32).toInt = 20 := by decide +kernel
  have e2 : (19 : Int32).toInt = 19 := by decide +kernel
  omega
set_option maxRecDepth 20000 in
set_option maxHeartbeats 1000000 in
theorem mc_trace (g : GG) (σ : SIG) (i : Int32) (S : SS) (L : LL) (hr : MRel S L σ) : Ci g 1 mX12_trace [.ref 0, .int i] SHM S L (fun r S' L' => r = aTrace σ i ∧ MRel S' L' σ) := by
  have hrn : S 0 68 = nI (gR σ) := hr.2.2.2.2.2.2.2.2.2.2.2.2.1
  refine ct_of (ls := [some (.ref 0), some (.int i)]) 0 (by decide +kernel) rfl rfl ?_
  refine rx_aload_n dX12_trace_0 rfl ?_
  refine rx_iload_n dX12_trace_1 rfl ?_
  refine rx_iconst (0) dX12_trace_2 (by decide) ?_
  refine rx_bipush (19) dX12_trace_3 (by decide) ?_
  refine rx_cVi_3 clX12_236 dX12_trace_5 (rcvo (sM_0) rfl) rfl (m_in g 0 _ _ _ S L) ?_
  refine pur3 ?_
  refine rx_if_eq 28 dX12_trace_8 (by decide) (fun h8 => ?_) (fun h8 => ?_)
  · refine rx_iconst (-1) dX12_trace_28 (by decide) ?_
    exact rx_iret dX12_trace_29 rfl ⟨Nat.le_refl _, Nat.le_refl _⟩ ⟨rfl, _, rfl, ⟨(if_neg (by first | exact fun q => b2i_eq h8 ⟨q.1, lt20 q.2.2⟩ | exact fun q => absurd q.2.1 (Int32.not_lt.mpr h16))).symm, hr⟩⟩
  · refine rx_iload_n dX12_trace_11 rfl ?_
    refine rx_aload_n dX12_trace_12 rfl ?_
    refine rx_getI dX12_trace_13 flX12_217 (sM_0) rfl ?_
    rw [hrn]
    refine rx_icmp_ge 28 dX12_trace_16 (by decide) (fun h16 => ?_) (fun h16 => ?_)
    · refine rx_iconst (-1) dX12_trace_28 (by decide) ?_
      exact rx_iret dX12_trace_29 rfl ⟨Nat.le_refl _, Nat.le_refl _⟩ ⟨rfl, _, rfl, ⟨(if_neg (by first | exact fun q => b2i_eq h8 ⟨q.1, lt20 q.2.2⟩ | exact fun q => absurd q.2.1 (Int32.not_lt.mpr h16))).symm, hr⟩⟩
    · have hq := b2i_ne h8
      obtain ⟨j, hj, rfl⟩ := rngI 19 (by omega) hq.1 hq.2
      have hjc : (nI j).toNatClampNeg = j := nI_clamp (by omega)
      refine rx_aload_n dX12_trace_19 rfl ?_
      refine rx_getR dX12_trace_20 flX12_220 (sM_0) rfl ?_
      refine rx_iload_n dX12_trace_23 rfl ?_
      refine rx_iaload dX12_trace_24 (sM_42) (vp_in_nI (show j < 20 by omega) (by omega)) ?_
      rw [hjc, hr.2.2.2.2.2.2.2.2.2.2.2.2.2.1 j (by omega) ((nI_ltI (by omega) (by have := hr.1.2.2.2.2.2.2.2.2.1; omega)).mp (Int32.not_le.mp h16))]
      refine rx_goto 29 dX12_trace_25 (by decide) ?_
      exact rx_iret dX12_trace_29 rfl ⟨Nat.le_refl _, Nat.le_refl _⟩ ⟨rfl, _, rfl, ⟨by unfold aTrace; rw [if_pos ⟨hq.1, Int32.not_le.mp h16, nI_lt (b := 20) (by omega) (by omega)⟩, hjc], hr⟩⟩
set_option maxRecDepth 20000 in
set_option maxHeartbeats 1000000 in
theorem mc_taken (g : GG) (σ : SIG) (c k : Int32) (S : SS) (L : LL) (hr : MRel S L σ) : Ci g 2 mX12_taken [.ref 0, .int c, .int k] SHM S L (fun r S' L' => r = aTaken σ c k ∧ MRel S' L' σ) := by
  refine ct_of (ls := [some (.ref 0), some (.int c), some (.int k), none]) 1 (by decide +kernel) rfl rfl ?_
  refine rx_aload_n dX12_taken_0 rfl ?_
  refine rx_iload_n dX12_taken_1 rfl ?_
  refine rx_iconst (0) dX12_taken_2 (by decide) ?_
  refine rx_bipush (6) dX12_taken_3 (by decide) ?_
  refine rx_cVi_3 clX12_236 dX12_taken_5 (rcvo (sM_0) rfl) rfl (m_in g 0 _ _ _ S L) ?_
  refine pur3 ?_
  refine rx_if_ne 14 dX12_taken_8 (by decide) (fun h8 => ?_) (fun h8 => ?_)
  · refine rx_aload_n dX12_taken_14 rfl ?_
    refine rx_iload_n dX12_taken_15 rfl ?_
    refine rx_cVi_1 clX12_240 dX12_taken_16 (rcvo (sM_0) rfl) rfl (m_isChild g (nN σ) c S L hr.n7 hr.sz) ?_
    refine pur3 ?_
    refine rx_if_ne 25 dX12_taken_19 (by decide) (fun h19 => ?_) (fun h19 => ?_)
    · have hq := b2i_ne h19
      obtain ⟨c, hc, rfl⟩ := rngL (nN σ) (by have := hr.n7; omega) hq.1 hq.2
      have hc7 : c < 7 := by have := hr.n7; omega
      have hci : (nI c).toNatClampNeg = c := nI_clamp (by omega)
      have hvc : vp_in (nI c) 7 := vp_in_nI hc7 (by omega)
      have hk8 := b2i_ne h8
      obtain ⟨j, hj, rfl⟩ := rngI 6 (by omega) hk8.1 hk8.2
      obtain ⟨d, hd, ed⟩ := hr.en.2.1 c hc
      have htk := tk_ok j (by omega) d hd
      refine rx_aload_n dX12_taken_25 rfl ?_
      refine rx_getR dX12_taken_26 flX12_19 (sM_0) rfl ?_
      refine rx_iload_n dX12_taken_29 rfl ?_
      refine rx_iaload dX12_taken_30 (sM_1) hvc ?_
      rw [hci, hr.sc.k hc7, ed]
      refine rx_istore_3 rfl dX12_taken_31 ?_
      refine rx_iload_n dX12_taken_32 rfl ?_
      refine rx_if_eq 72 dX12_taken_33 (by decide) (fun h33 => ?_) (fun h33 => ?_)
      · have hy := htk.mpr (by first | exact Or.inl h33 | exact Or.inr (Or.inl h38) | exact Or.inr (Or.inr (Or.inl ⟨h43, h48⟩)) | exact Or.inr (Or.inr (Or.inr (Or.inl ⟨h53, h58⟩))) | exact Or.inr (Or.inr (Or.inr (Or.inr ⟨h63, h69⟩))))
        refine rx_iload_n dX12_taken_72 rfl ?_
        refine rx_goto 78 dX12_taken_73 (by decide) ?_
        exact rx_iret dX12_taken_78 rfl ⟨Nat.le_refl _, Nat.le_refl _⟩ ⟨rfl, _, rfl, ⟨by unfold aTaken; rw [if_neg (fun q => q hk8), if_neg (fun q => q hq), hci, ed, if_pos hy], hr⟩⟩
      · refine rx_iload_n dX12_taken_36 rfl ?_
        refine rx_iload_n dX12_taken_37 rfl ?_
        refine rx_icmp_eq 72 dX12_taken_38 (by decide) (fun h38 => ?_) (fun h38 => ?_)
        · have hy := htk.mpr (by first | exact Or.inl h33 | exact Or.inr (Or.inl h38) | exact Or.inr (Or.inr (Or.inl ⟨h43, h48⟩)) | exact Or.inr (Or.inr (Or.inr (Or.inl ⟨h53, h58⟩))) | exact Or.inr (Or.inr (Or.inr (Or.inr ⟨h63, h69⟩))))
          refine rx_iload_n dX12_taken_72 rfl ?_
          refine rx_goto 78 dX12_taken_73 (by decide) ?_
          exact rx_iret dX12_taken_78 rfl ⟨Nat.le_refl _, Nat.le_refl _⟩ ⟨rfl, _, rfl, ⟨by unfold aTaken; rw [if_neg (fun q => q hk8), if_neg (fun q => q hq), hci, ed, if_pos hy], hr⟩⟩
        · refine rx_iload_n dX12_taken_41 rfl ?_
          refine rx_iconst (1) dX12_taken_42 (by decide) ?_
          refine rx_icmp_ne 51 dX12_taken_43 (by decide) (fun h43 => ?_) (fun h43 => ?_)
          · refine rx_iload_n dX12_taken_51 rfl ?_
            refine rx_iconst (2) dX12_taken_52 (by decide) ?_
            refine rx_icmp_ne 61 dX12_taken_53 (by decide) (fun h53 => ?_) (fun h53 => ?_)
            · refine rx_iload_n dX12_taken_61 rfl ?_
              refine rx_iconst (3) dX12_taken_62 (by decide) ?_
              refine rx_icmp_ne 76 dX12_taken_63 (by decide) (fun h63 => ?_) (fun h63 => ?_)
              · have hnn : ¬ tkP (nI j) 7 (nI d) = true := by
                  intro q
                  rcases htk.mp q with q | q | ⟨q1, q2⟩ | ⟨q1, q2⟩ | ⟨q1, q2⟩ <;> first | exact h33 q | exact h38 q | exact h43 q1 | exact h48 q2 | exact h53 q1 | exact h58 q2 | exact h63 q1 | exact h69 q2
                refine rx_bipush (-12) dX12_taken_76 (by decide) ?_
                exact rx_iret dX12_taken_78 rfl ⟨Nat.le_refl _, Nat.le_refl _⟩ ⟨rfl, _, rfl, ⟨by unfold aTaken; rw [if_neg (fun q => q hk8), if_neg (fun q => q hq), hci, ed, if_neg hnn], hr⟩⟩
              · refine rx_iload_n dX12_taken_66 rfl ?_
                refine rx_bipush (6) dX12_taken_67 (by decide) ?_
                refine rx_icmp_ne 76 dX12_taken_69 (by decide) (fun h69 => ?_) (fun h69 => ?_)
                · have hnn : ¬ tkP (nI j) 7 (nI d) = true := by
                    intro q
                    rcases htk.mp q with q | q | ⟨q1, q2⟩ | ⟨q1, q2⟩ | ⟨q1, q2⟩ <;> first | exact h33 q | exact h38 q | exact h43 q1 | exact h48 q2 | exact h53 q1 | exact h58 q2 | exact h63 q1 | exact h69 q2
                  refine rx_bipush (-12) dX12_taken_76 (by decide) ?_
                  exact rx_iret dX12_taken_78 rfl ⟨Nat.le_refl _, Nat.le_refl _⟩ ⟨rfl, _, rfl, ⟨by unfold aTaken; rw [if_neg (fun q => q hk8), if_neg (fun q => q hq), hci, ed, if_neg hnn], hr⟩⟩
                · have hy := htk.mpr (by first | exact Or.inl h33 | exact Or.inr (Or.inl h38) | exact Or.inr (Or.inr (Or.inl ⟨h43, h48⟩)) | exact Or.inr (Or.inr (Or.inr (Or.inl ⟨h53, h58⟩))) | exact Or.inr (Or.inr (Or.inr (Or.inr ⟨h63, h69⟩))))
                  refine rx_iload_n dX12_taken_72 rfl ?_
                  refine rx_goto 78 dX12_taken_73 (by decide) ?_
                  exact rx_iret dX12_taken_78 rfl ⟨Nat.le_refl _, Nat.le_refl _⟩ ⟨rfl, _, rfl, ⟨by unfold aTaken; rw [if_neg (fun q => q hk8), if_neg (fun q => q hq), hci, ed, if_pos hy], hr⟩⟩
            · refine rx_iload_n dX12_taken_56 rfl ?_
              refine rx_iconst (5) dX12_taken_57 (by decide) ?_
              refine rx_icmp_eq 72 dX12_taken_58 (by decide) (fun h58 => ?_) (fun h58 => ?_)
              · have hy := htk.mpr (by first | exact Or.inl h33 | exact Or.inr (Or.inl h38) | exact Or.inr (Or.inr (Or.inl ⟨h43, h48⟩)) | exact Or.inr (Or.inr (Or.inr (Or.inl ⟨h53, h58⟩))) | exact Or.inr (Or.inr (Or.inr (Or.inr ⟨h63, h69⟩))))
                refine rx_iload_n dX12_taken_72 rfl ?_
                refine rx_goto 78 dX12_taken_73 (by decide) ?_
                exact rx_iret dX12_taken_78 rfl ⟨Nat.le_refl _, Nat.le_refl _⟩ ⟨rfl, _, rfl, ⟨by unfold aTaken; rw [if_neg (fun q => q hk8), if_neg (fun q => q hq), hci, ed, if_pos hy], hr⟩⟩
              · refine rx_iload_n dX12_taken_61 rfl ?_
                refine rx_iconst (3) dX12_taken_62 (by decide) ?_
                refine rx_icmp_ne 76 dX12_taken_63 (by decide) (fun h63 => ?_) (fun h63 => ?_)
                · have hnn : ¬ tkP (nI j) 7 (nI d) = true := by
                    intro q
                    rcases htk.mp q with q | q | ⟨q1, q2⟩ | ⟨q1, q2⟩ | ⟨q1, q2⟩ <;> first | exact h33 q | exact h38 q | exact h43 q1 | exact h48 q2 | exact h53 q1 | exact h58 q2 | exact h63 q1 | exact h69 q2
                  refine rx_bipush (-12) dX12_taken_76 (by decide) ?_
                  exact rx_iret dX12_taken_78 rfl ⟨Nat.le_refl _, Nat.le_refl _⟩ ⟨rfl, _, rfl, ⟨by unfold aTaken; rw [if_neg (fun q => q hk8), if_neg (fun q => q hq), hci, ed, if_neg hnn], hr⟩⟩
                · refine rx_iload_n dX12_taken_66 rfl ?_
                  refine rx_bipush (6) dX12_taken_67 (by decide) ?_
                  refine rx_icmp_ne 76 dX12_taken_69 (by decide) (fun h69 => ?_) (fun h69 => ?_)
                  · have hnn : ¬ tkP (nI j) 7 (nI d) = true := by
                      intro q
                      rcases htk.mp q with q | q | ⟨q1, q2⟩ | ⟨q1, q2⟩ | ⟨q1, q2⟩ <;> first | exact h33 q | exact h38 q | exact h43 q1 | exact h48 q2 | exact h53 q1 | exact h58 q2 | exact h63 q1 | exact h69 q2
                    refine rx_bipush (-12) dX12_taken_76 (by decide) ?_
                    exact rx_iret dX12_taken_78 rfl ⟨Nat.le_refl _, Nat.le_refl _⟩ ⟨rfl, _, rfl, ⟨by unfold aTaken; rw [if_neg (fun q => q hk8), if_neg (fun q => q hq), hci, ed, if_neg hnn], hr⟩⟩
                  · have hy := htk.mpr (by first | exact Or.inl h33 | exact Or.inr (Or.inl h38) | exact Or.inr (Or.inr (Or.inl ⟨h43, h48⟩)) | exact Or.inr (Or.inr (Or.inr (Or.inl ⟨h53, h58⟩))) | exact Or.inr (Or.inr (Or.inr (Or.inr ⟨h63, h69⟩))))
                    refine rx_iload_n dX12_taken_72 rfl ?_
                    refine rx_goto 78 dX12_taken_73 (by decide) ?_
                    exact rx_iret dX12_taken_78 rfl ⟨Nat.le_refl _, Nat.le_refl _⟩ ⟨rfl, _, rfl, ⟨by unfold aTaken; rw [if_neg (fun q => q hk8), if_neg (fun q => q hq), hci, ed, if_pos hy], hr⟩⟩
          · refine rx_iload_n dX12_taken_46 rfl ?_
            refine rx_iconst (4) dX12_taken_47 (by decide) ?_
            refine rx_icmp_eq 72 dX12_taken_48 (by decide) (fun h48 => ?_) (fun h48 => ?_)
            · have hy := htk.mpr (by first | exact Or.inl h33 | exact Or.inr (Or.inl h38) | exact Or.inr (Or.inr (Or.inl ⟨h43, h48⟩)) | exact Or.inr (Or.inr (Or.inr (Or.inl ⟨h53, h58⟩))) | exact Or.inr (Or.inr (Or.inr (Or.inr ⟨h63, h69⟩))))
              refine rx_iload_n dX12_taken_72 rfl ?_
              refine rx_goto 78 dX12_taken_73 (by decide) ?_
              exact rx_iret dX12_taken_78 rfl ⟨Nat.le_refl _, Nat.le_refl _⟩ ⟨rfl, _, rfl, ⟨by unfold aTaken; rw [if_neg (fun q => q hk8), if_neg (fun q => q hq), hci, ed, if_pos hy], hr⟩⟩
            · refine rx_iload_n dX12_taken_51 rfl ?_
              refine rx_iconst (2) dX12_taken_52 (by decide) ?_
              refine rx_icmp_ne 61 dX12_taken_53 (by decide) (fun h53 => ?_) (fun h53 => ?_)
              · refine rx_iload_n dX12_taken_61 rfl ?_
                refine rx_iconst (3) dX12_taken_62 (by decide) ?_
                refine rx_icmp_ne 76 dX12_taken_63 (by decide) (fun h63 => ?_) (fun h63 => ?_)
                · have hnn : ¬ tkP (nI j) 7 (nI d) = true := by
                    intro q
                    rcases htk.mp q with q | q | ⟨q1, q2⟩ | ⟨q1, q2⟩ | ⟨q1, q2⟩ <;> first | exact h33 q | exact h38 q | exact h43 q1 | exact h48 q2 | exact h53 q1 | exact h58 q2 | exact h63 q1 | exact h69 q2
                  refine rx_bipush (-12) dX12_taken_76 (by decide) ?_
                  exact rx_iret dX12_taken_78 rfl ⟨Nat.le_refl _, Nat.le_refl _⟩ ⟨rfl, _, rfl, ⟨by unfold aTaken; rw [if_neg (fun q => q hk8), if_neg (fun q => q hq), hci, ed, if_neg hnn], hr⟩⟩
                · refine rx_iload_n dX12_taken_66 rfl ?_
                  refine rx_bipush (6) dX12_taken_67 (by decide) ?_
                  refine rx_icmp_ne 76 dX12_taken_69 (by decide) (fun h69 => ?_) (fun h69 => ?_)
                  · have hnn : ¬ tkP (nI j) 7 (nI d) = true := by
                      intro q
                      rcases htk.mp q with q | q | ⟨q1, q2⟩ | ⟨q1, q2⟩ | ⟨q1, q2⟩ <;> first | exact h33 q | exact h38 q | exact h43 q1 | exact h48 q2 | exact h53 q1 | exact h58 q2 | exact h63 q1 | exact h69 q2
                    refine rx_bipush (-12) dX12_taken_76 (by decide) ?_
                    exact rx_iret dX12_taken_78 rfl ⟨Nat.le_refl _, Nat.le_refl _⟩ ⟨rfl, _, rfl, ⟨by unfold aTaken; rw [if_neg (fun q => q hk8), if_neg (fun q => q hq), hci, ed, if_neg hnn], hr⟩⟩
                  · have hy := htk.mpr (by first | exact Or.inl h33 | exact Or.inr (Or.inl h38) | exact Or.inr (Or.inr (Or.inl ⟨h43, h48⟩)) | exact Or.inr (Or.inr (Or.inr (Or.inl ⟨h53, h58⟩))) | exact Or.inr (Or.inr (Or.inr (Or.inr ⟨h63, h69⟩))))
                    refine rx_iload_n dX12_taken_72 rfl ?_
                    refine rx_goto 78 dX12_taken_73 (by decide) ?_
                    exact rx_iret dX12_taken_78 rfl ⟨Nat.le_refl _, Nat.le_refl _⟩ ⟨rfl, _, rfl, ⟨by unfold aTaken; rw [if_neg (fun q => q hk8), if_neg (fun q => q hq), hci, ed, if_pos hy], hr⟩⟩
              · refine rx_iload_n dX12_taken_56 rfl ?_
                refine rx_iconst (5) dX12_taken_57 (by decide) ?_
                refine rx_icmp_eq 72 dX12_taken_58 (by decide) (fun h58 => ?_) (fun h58 => ?_)
                · have hy := htk.mpr (by first | exact Or.inl h33 | exact Or.inr (Or.inl h38) | exact Or.inr (Or.inr (Or.inl ⟨h43, h48⟩)) | exact Or.inr (Or.inr (Or.inr (Or.inl ⟨h53, h58⟩))) | exact Or.inr (Or.inr (Or.inr (Or.inr ⟨h63, h69⟩))))
                  refine rx_iload_n dX12_taken_72 rfl ?_
                  refine rx_goto 78 dX12_taken_73 (by decide) ?_
                  exact rx_iret dX12_taken_78 rfl ⟨Nat.le_refl _, Nat.le_refl _⟩ ⟨rfl, _, rfl, ⟨by unfold aTaken; rw [if_neg (fun q => q hk8), if_neg (fun q => q hq), hci, ed, if_pos hy], hr⟩⟩
                · refine rx_iload_n dX12_taken_61 rfl ?_
                  refine rx_iconst (3) dX12_taken_62 (by decide) ?_
                  refine rx_icmp_ne 76 dX12_taken_63 (by decide) (fun h63 => ?_) (fun h63 => ?_)
                  · have hnn : ¬ tkP (nI j) 7 (nI d) = true := by
                      intro q
                      rcases htk.mp q with q | q | ⟨q1, q2⟩ | ⟨q1, q2⟩ | ⟨q1, q2⟩ <;> first | exact h33 q | exact h38 q | exact h43 q1 | exact h48 q2 | exact h53 q1 | exact h58 q2 | exact h63 q1 | exact h69 q2
                    refine rx_bipush (-12) dX12_taken_76 (by decide) ?_
                    exact rx_iret dX12_taken_78 rfl ⟨Nat.le_refl _, Nat.le_refl _⟩ ⟨rfl, _, rfl, ⟨by unfold aTaken; rw [if_neg (fun q => q hk8), if_neg (fun q => q hq), hci, ed, if_neg hnn], hr⟩⟩
                  · refine rx_iload_n dX12_taken_66 rfl ?_
                    refine rx_bipush (6) dX12_taken_67 (by decide) ?_
                    refine rx_icmp_ne 76 dX12_taken_69 (by decide) (fun h69 => ?_) (fun h69 => ?_)
                    · have hnn : ¬ tkP (nI j) 7 (nI d) = true := by
                        intro q
                        rcases htk.mp q with q | q | ⟨q1, q2⟩ | ⟨q1, q2⟩ | ⟨q1, q2⟩ <;> first | exact h33 q | exact h38 q | exact h43 q1 | exact h48 q2 | exact h53 q1 | exact h58 q2 | exact h63 q1 | exact h69 q2
                      refine rx_bipush (-12) dX12_taken_76 (by decide) ?_
                      exact rx_iret dX12_taken_78 rfl ⟨Nat.le_refl _, Nat.le_refl _⟩ ⟨rfl, _, rfl, ⟨by unfold aTaken; rw [if_neg (fun q => q hk8), if_neg (fun q => q hq), hci, ed, if_neg hnn], hr⟩⟩
                    · have hy := htk.mpr (by first | exact Or.inl h33 | exact Or.inr (Or.inl h38) | exact Or.inr (Or.inr (Or.inl ⟨h43, h48⟩)) | exact Or.inr (Or.inr (Or.inr (Or.inl ⟨h53, h58⟩))) | exact Or.inr (Or.inr (Or.inr (Or.inr ⟨h63, h69⟩))))
                      refine rx_iload_n dX12_taken_72 rfl ?_
                      refine rx_goto 78 dX12_taken_73 (by decide) ?_
                      exact rx_iret dX12_taken_78 rfl ⟨Nat.le_refl _, Nat.le_refl _⟩ ⟨rfl, _, rfl, ⟨by unfold aTaken; rw [if_neg (fun q => q hk8), if_neg (fun q => q hq), hci, ed, if_pos hy], hr⟩⟩
    · refine rx_bipush (-11) dX12_taken_22 (by decide) ?_
      exact rx_iret dX12_taken_24 rfl ⟨Nat.le_refl _, Nat.le_refl _⟩ ⟨rfl, _, rfl, ⟨by unfold aTaken; rw [if_neg (fun q => q (b2i_ne h8)), if_pos (b2i_eq h19)], hr⟩⟩
  · refine rx_bipush (-2) dX12_taken_11 (by decide) ?_
    exact rx_iret dX12_taken_13 rfl ⟨Nat.le_refl _, Nat.le_refl _⟩ ⟨rfl, _, rfl, ⟨(if_pos (b2i_eq h8)).symm, hr⟩⟩
