theorem MRel.tp {S : SS} {L : LL} {σ : SIG} (h : MRel S L σ) : MTp S L σ := h.2.2.2.2.2.2.2.2.2.2.2.2.2.2.1
theorem MRel.tz {S : SS} {L : LL} {σ : SIG} (h : MRel S L σ) : ∀ t, t < 6 → (gS σ t = -1 ∧ gZ σ t = 0) ∨ ((∃ k, k ≤ 4 ∧ gS σ t = nI k) ∧ gZ σ t ≤ 60) := h.1.2.2.2.2.2.2.2.2.2
theorem MRel.tape {S S' : SS} {L L' : LL} {σ : SIG} (h : MRel S L σ) (t : Nat) (s : Int32) (z : Nat) (f : Nat → Int64) (hok : OKg (wTp σ t s z f)) (ho : ∀ j, j ≠ 43 → j ≠ 44 → S' j = S j) (h6 : ∀ q, q < 6 → S' 43 q = upd (S 43) t s q) (h7 : ∀ q, q < 6 → S' 44 q = upd (S 44) t (nI z) q) (hl : ∀ q, q < 6 → q ≠ t → ∀ i, i < 60 → L' 45 (60 * q + i) = L 45 (60 * q + i)) (hf : ∀ i, i < z → L' 45 (60 * t + i) = f i) : MRel S' L' (wTp σ t s z f) := by
  have htz := h.tz
  obtain ⟨-, a2, ⟨a3, a4, a5⟩, ⟨b1, b2, b3, b4, b5, b6, b7, b8, b9, b10, b11, b12, b13⟩⟩ := h
  have o0 : S' 0 = S 0 := ho 0 (by decide) (by decide)
  refine ⟨hok, a2.ex (fun j h0 h1 => ho j (by omega) (by omega)) (fun k hk => by rw [o0]), ⟨by rw [o0]; exact a3, by rw [o0]; exact a4, by rw [o0]; exact a5⟩, by rw [o0]; exact b1, b2.off (by rw [o0]) (ho 25 (by decide) (by decide)) (ho 26 (by decide) (by decide)) (ho 27 (by decide) (by decide)), b3.off (by rw [o0]) (ho 28 (by decide) (by decide)) (ho 29 (by decide) (by decide)), fun e => (b4 e).off (fun j h1 h2 => ho j (by omega) (by omega)) (fun k h1 h2 => by rw [o0]), by rw [o0]; exact b5, by rw [o0]; exact b6, fun y hy => (b7 y hy).off (fun j h1 h2 => ho j (by omega) (by omega)), by rw [o0]; exact b8, by rw [ho 8 (by decide) (by decide)]; exact b9, by rw [o0]; exact b10, by rw [ho 42 (by decide) (by decide)]; exact b11, fun q hq => ?_, by unfold MLt; rw [ho 16 (by decide) (by decide)]; exact b13⟩
  obtain ⟨g1, g2, g3⟩ := b12 q hq
  refine ⟨?_, ?_, ?_⟩
  · rw [h6 q hq]
    show upd (S 43) t s q = upd (gS σ) t s q
    by_cases e : q = t
    · rw [e, pk_us, pk_us]
    · rw [pk_un e, pk_un e]; exact g1
  · rw [h7 q hq]
    show upd (S 44) t (nI z) q = nI (if q = t then z else gZ σ q)
    by_cases e : q = t
    · rw [e, pk_us, if_pos rfl]
    · rw [pk_un e, if_neg e]; exact g2
  · show ∀ i, i < (if q = t then z else gZ σ q) → L' 45 (60 * q + i) = (if q = t then f else gL σ q) i
    by_cases e : q = t
    · rw [e, if_pos rfl, if_pos rfl]; exact hf
    · rw [if_neg e, if_neg e]
      intro i hi
      have h60 : gZ σ q ≤ 60 := by rcases htz q hq with ⟨_, p⟩ | ⟨_, p⟩ <;> omega
      rw [hl q hq e i (by omega)]
      exact g3 i hi
theorem le_mz {N : Nat} (hN : N ≤ 1000) {c : Int32} : c ≤ nI N - 1 ↔ c < nI N := by
  have h1 : (nI N - 1).toInt = (N : Int) - 1 := pk_sub_toInt (b := 1) (by omega) (by omega)
  rw [Int32.le_iff_toInt_le, Int32.lt_iff_toInt_lt, h1, nI_toInt (by omega)]
  omega
theorem sg_iff {x : Int32} (h : x = -1 ∨ ∃ k, k ≤ 4 ∧ x = nI k) : (0 ≤ x ↔ ¬ x = -1) := by
  rcases h with h | ⟨k, hk, h⟩
  · rw [h]; decide +kernel
  · rw [h]; exact ⟨fun _ => nI_m1 (by omega), fun _ => nI_pos' (by omega)⟩
theorem ix60 (t i : Nat) : 60 * nI t + nI i = nI (60 * t + i) := by rw [show (60 : Int32) = nI 60 from rfl, pk_mul, nI_add]
theorem le_sub {z : Nat} {i n : Int32} (hz : z ≤ 60) (hn : 0 ≤ n) : i ≤ nI z - n ↔ i.toInt + n.toInt ≤ z := by
  have h0 : 0 ≤ n.toInt := by rw [Int32.le_iff_toInt_le, Int32.toInt_zero] at hn; exact hn
  rw [Int32.le_iff_toInt_le, sub_tI (by omega) h0]
  omega
theorem jd_le {z c : Nat} {i : Int32} (hz : z ≤ 60) (hc : c ≤ 7) : i ≤ nI z - nI c - 1 ↔ i.toInt + c < z := by
  have e : nI z - nI c - 1 = nI z - nI (c + 1) := by
    rw [← nI_1, Int32.sub_eq_add_neg, Int32.sub_eq_add_neg, Int32.sub_eq_add_neg, Int32.neg_add, Int32.add_assoc, Int32.sub_eq_add_neg]
  rw [e, le_sub hz (nI_pos' (by omega)), nI_toInt (by omega)]
  omega

set_option maxRecDepth 20000 in
set_option maxHeartbeats 1000000 in
theorem m_isTape (g : GG) (t : Int32) (S : SS) (L : LL) : Ci g 1 mX12_isTape [.ref 0, .int t] SHM S L (fun r S' L' => r = b2i (0 ≤ t ∧ t ≤ 5) ∧ S' = S ∧ L' = L) := by
  refine ct_of (ls := [some (.ref 0), some (.int t)]) 0 (by decide +kernel) rfl rfl ?_
  refine rx_aload_n dX12_isTape_0 rfl ?_
  refine rx_iload_n dX12_isTape_1 rfl ?_
  refine rx_iconst (0) dX12_isTape_2 (by decide) ?_
  refine rx_iconst (5) dX12_isTape_3 (by decide) ?_
  refine rx_cVi_3 clX12_236 dX12_isTape_4 (rcvo (sM_0) rfl) rfl (m_in g 0 _ _ _ S L) ?_
  refine pur3 ?_
  exact rx_zret dX12_isTape_7 rfl (b2i_n _) ⟨Nat.le_refl _, Nat.le_refl _⟩ ⟨rfl, _, rfl, ⟨rfl, rfl, rfl⟩⟩
set_option maxRecDepth 20000 in
set_option maxHeartbeats 1000000 in
theorem m_narrow (g : GG) (k : Nat) (v : Int64) (S : SS) (L : LL) (hk : k ≤ 4) : Cl g 0 mX12_narrow [.ref 0, .int (nI k), .long v] SHM S L (fun x S' L' => x = asI k v ∧ S' = S ∧ L' = L) := by
  refine ct_of (ls := [some (.ref 0), some (.int (nI k)), some (.long v), none]) 0 (by decide +kernel) rfl rfl ?_
  skip
  refine rx_iload_n dX12_narrow_0 rfl ?_
  refine rx_if_ne 11 dX12_narrow_1 (by decide) (fun h1 => ?_) (fun h1 => ?_)
  · refine rx_iload_n dX12_narrow_11 rfl ?_
    refine rx_iconst (1) dX12_narrow_12 (by decide) ?_
    refine rx_icmp_ne 23 dX12_narrow_13 (by decide) (fun h13 => ?_) (fun h13 => ?_)
    · refine rx_iload_n dX12_narrow_23 rfl ?_
      refine rx_iconst (2) dX12_narrow_24 (by decide) ?_
      refine rx_icmp_ne 34 dX12_narrow_25 (by decide) (fun h25 => ?_) (fun h25 => ?_)
      · refine rx_iload_n dX12_narrow_34 rfl ?_
        refine rx_iconst (4) dX12_narrow_35 (by decide) ?_
        refine rx_icmp_ne 53 dX12_narrow_36 (by decide) (fun h36 => ?_) (fun h36 => ?_)
        · refine rx_lload_n dX12_narrow_53 rfl ?_
          exact rx_lret dX12_narrow_54 rfl ⟨Nat.le_refl _, Nat.le_refl _⟩ ⟨rfl, _, rfl, ⟨by rw [show k = 3 from by rcases (show k = 0 ∨ k = 1 ∨ k = 2 ∨ k = 3 ∨ k = 4 by omega) with q | q | q | q | q; exact absurd (by rw [q]; rfl) h1; exact absurd (by rw [q]; rfl) h13; exact absurd (by rw [q]; rfl) h25; exact q; exact absurd (by rw [q]; rfl) h36]; rfl, rfl, rfl⟩⟩
        · refine rx_lload_n dX12_narrow_39 rfl ?_
          refine rx_lconst (0) dX12_narrow_40 (by decide) ?_
          refine rx_lcmp dX12_narrow_41 ?_
          refine rx_if_eq 49 dX12_narrow_42 (by decide) (fun h42 => ?_) (fun h42 => ?_)
          · refine rx_lconst (0) dX12_narrow_49 (by decide) ?_
            refine rx_goto 54 dX12_narrow_50 (by decide) ?_
            exact rx_lret dX12_narrow_54 rfl ⟨Nat.le_refl _, Nat.le_refl _⟩ ⟨rfl, _, rfl, ⟨by rw [show k = 4 from (nI_eq (b := 4) (by omega) (by omega)).mp h36]; exact (if_pos ((lg_cmp_eq v 0).mp h42)).symm, rfl, rfl⟩⟩
          · refine rx_lconst (1) dX12_narrow_45 (by decide) ?_
            refine rx_goto 54 dX12_narrow_46 (by decide) ?_
            exact rx_lret dX12_narrow_54 rfl ⟨Nat.le_refl _, Nat.le_refl _⟩ ⟨rfl, _, rfl, ⟨by rw [show k = 4 from (nI_eq (b := 4) (by omega) (by omega)).mp h36]; exact (if_neg (fun q => h42 ((lg_cmp_eq v 0).mpr q))).symm, rfl, rfl⟩⟩
      · refine rx_lload_n dX12_narrow_28 rfl ?_
        refine rx_l2i dX12_narrow_29 ?_
        refine rx_i2l dX12_narrow_30 ?_
        refine rx_goto 54 dX12_narrow_31 (by decide) ?_
        exact rx_lret dX12_narrow_54 rfl ⟨Nat.le_refl _, Nat.le_refl _⟩ ⟨rfl, _, rfl, ⟨by rw [show k = 2 from (nI_eq (b := 2) (by omega) (by omega)).mp h25]; rfl, rfl, rfl⟩⟩
    · refine rx_lload_n dX12_narrow_16 rfl ?_
      refine rx_l2i dX12_narrow_17 ?_
      refine rx_i2s dX12_narrow_18 ?_
      refine rx_i2l dX12_narrow_19 ?_
      refine rx_goto 54 dX12_narrow_20 (by decide) ?_
      exact rx_lret dX12_narrow_54 rfl ⟨Nat.le_refl _, Nat.le_refl _⟩ ⟨rfl, _, rfl, ⟨by rw [show k = 1 from (nI_eq (b := 1) (by omega) (by omega)).mp h13]; rfl, rfl, rfl⟩⟩
  · refine rx_lload_n dX12_narrow_4 rfl ?_
    refine rx_l2i dX12_narrow_5 ?_
    refine rx_i2b dX12_narrow_6 ?_
    refine rx_i2l dX12_narrow_7 ?_
    refine rx_goto 54 dX12_narrow_8 (by decide) ?_
    exact rx_lret dX12_narrow_54 rfl ⟨Nat.le_refl _, Nat.le_refl _⟩ ⟨rfl, _, rfl, ⟨by rw [show k = 0 from (nI_eq (b := 0) (by omega) (by omega)).mp h1]; rfl, rfl, rfl⟩⟩
set_option maxRecDepth 20000 in
set_option maxHeartbeats 1000000 in
theorem mc_item (g : GG) (σ : SIG) (t i : Int32) (v : Int64) (S : SS) (L : LL) (hr : MRel S L σ) (hok : OKg (nItem σ t i v)) : Ci g 2 mX12_item [.ref 0, .int t, .int i, .long v] SHM S L (fun r S' L' => r = aItem σ t i v ∧ MRel S' L' (nItem σ t i v)) := by
  refine ct_of (ls := [some (.ref 0), some (.int t), some (.int i), some (.long v), none]) 0 (by decide +kernel) rfl rfl ?_
  refine rx_aload_n dX12_item_0 rfl ?_
  refine rx_iload_n dX12_item_1 rfl ?_
  refine rx_cVi_1 clX12_387 dX12_item_2 (rcvo (sM_0) rfl) rfl (m_isTape g _ S L) ?_
  refine pur3 ?_
  refine rx_if_ne 10 dX12_item_5 (by decide) (fun h5 => ?_) (fun h5 => ?_)
  · have hq1 := b2i_ne h5
    obtain ⟨t, ht5, rfl⟩ := rngI 5 (by omega) hq1.1 hq1.2
    have ht : t < 6 := by omega
    have e1 : (nI t).toNatClampNeg = t := nI_clamp (by omega)
    have hvt : vp_in (nI t) 6 := vp_in_nI ht (by omega)
    obtain ⟨hts, htz, htl⟩ := hr.tp t ht
    have hkz := hr.tz t ht
    have hz6 : gZ σ t ≤ 60 := by rcases hkz with ⟨_, q⟩ | ⟨_, q⟩ <;> omega
    have hsg := sg_iff (x := gS σ t) (by rcases hkz with ⟨q, _⟩ | ⟨q, _⟩; exact Or.inl q; exact Or.inr q)
    refine rx_aload_n dX12_item_10 rfl ?_
    refine rx_getR dX12_item_11 flX12_223 (sM_0) rfl ?_
    refine rx_iload_n dX12_item_14 rfl ?_
    refine rx_iaload dX12_item_15 (sM_43) hvt ?_
    rw [e1, hts]
    refine rx_if_ge 22 dX12_item_16 (by decide) (fun h16 => ?_) (fun h16 => ?_)
    · refine rx_aload_n dX12_item_22 rfl ?_
      refine rx_iload_n dX12_item_23 rfl ?_
      refine rx_iconst (0) dX12_item_24 (by decide) ?_
      refine rx_aload_n dX12_item_25 rfl ?_
      refine rx_getR dX12_item_26 flX12_226 (sM_0) rfl ?_
      refine rx_iload_n dX12_item_29 rfl ?_
      refine rx_iaload dX12_item_30 (sM_44) hvt ?_
      rw [e1, htz]
      refine rx_iconst (1) dX12_item_31 (by decide) ?_
      refine rx_isub dX12_item_32 ?_
      refine rx_cVi_3 clX12_236 dX12_item_33 (rcvo (sM_0) rfl) rfl (m_in g 0 _ _ _ S L) ?_
      refine pur3 ?_
      refine rx_if_ne 42 dX12_item_36 (by decide) (fun h36 => ?_) (fun h36 => ?_)
      · have hin := b2i_ne h36
        have hyes : 0 ≤ i ∧ i < nI (gZ σ t) := ⟨hin.1, (le_mz (by omega)).mp hin.2⟩
        obtain ⟨i, hi, rfl⟩ := rngL (gZ σ t) (by omega) hyes.1 hyes.2
        have e2 : (nI i).toNatClampNeg = i := nI_clamp (by omega)
        obtain ⟨kk, hkk, ek⟩ : ∃ k, k ≤ 4 ∧ gS σ t = nI k := by
          rcases hkz with ⟨q, _⟩ | ⟨q, _⟩
          · exact absurd q (hsg.mp h16)
          · exact q
        have ekc : (gS σ t).toNatClampNeg = kk := by rw [ek]; exact nI_clamp (by omega)
        have hvx : vp_in (nI (60 * t + i)) 360 := vp_in_nI (by omega) (by omega)
        have hxc : (nI (60 * t + i)).toNatClampNeg = 60 * t + i := nI_clamp (by omega)
        refine rx_aload_n dX12_item_42 rfl ?_
        refine rx_getR dX12_item_43 flX12_229 (sM_0) rfl ?_
        refine rx_bipush (60) dX12_item_46 (by decide) ?_
        refine rx_iload_n dX12_item_48 rfl ?_
        refine rx_imul dX12_item_49 ?_
        refine rx_iload_n dX12_item_50 rfl ?_
        refine rx_iadd dX12_item_51 ?_
        rw [ix60]
        refine rx_aload_n dX12_item_52 rfl ?_
        refine rx_aload_n dX12_item_53 rfl ?_
        refine rx_getR dX12_item_54 flX12_223 (sM_0) rfl ?_
        refine rx_iload_n dX12_item_57 rfl ?_
        refine rx_iaload dX12_item_58 (sM_43) hvt ?_
        rw [e1, hts, ek]
        refine rx_lload_n dX12_item_59 rfl ?_
        refine rx_cVl_2 clX12_414 dX12_item_60 (rcvo (sM_0) rfl) rfl (m_narrow g kk v S L hkk) ?_
        refine pur3 ?_
        refine rx_lastore dX12_item_63 (sM_45) hvx ?_
        rw [hxc]
        refine rx_iconst (1) dX12_item_64 (by decide) ?_
        exact rx_iret dX12_item_65 rfl ⟨Nat.le_refl _, Nat.le_refl _⟩ ⟨rfl, _, rfl, ⟨by unfold aItem; rw [if_neg (fun q => q hq1), e1, if_neg (hsg.mp h16), if_neg (fun q => q hyes)], by have en : nItem σ (nI t) (nI i) v = wTp σ t (gS σ t) (gZ σ t) (vp_updL (gL σ t) i (asI kk v)) := (by unfold nItem; rw [if_neg (fun q => q hq1), e1, if_neg (hsg.mp h16), if_neg (fun q => q hyes), e2, ekc]); rw [en] at hok ⊢; exact hr.tape t _ _ _ hok (fun _ _ _ => rfl) (fun q hq => by by_cases e : q = t; (rw [e, pk_us]; exact hts); (rw [pk_un e])) (fun q hq => by by_cases e : q = t; (rw [e, pk_us]; exact htz); (rw [pk_un e])) (fun q hq hn i2 hi2 => by rw [upL_row]; exact if_neg (by omega)) (fun i2 hi2 => by rw [upL_row]; unfold vp_updL; by_cases e : i2 = i; (rw [if_pos (by omega), if_pos e]); (rw [if_neg (by omega), if_neg e]; exact htl i2 hi2))⟩⟩
      · refine rx_bipush (-13) dX12_item_39 (by decide) ?_
        exact rx_iret dX12_item_41 rfl ⟨Nat.le_refl _, Nat.le_refl _⟩ ⟨rfl, _, rfl, ⟨by unfold aItem; rw [if_neg (fun q => q hq1), e1, if_neg (hsg.mp h16), if_pos (fun q => b2i_eq h36 ⟨q.1, (le_mz (by omega)).mpr q.2⟩)], by unfold nItem; rw [if_neg (fun q => q hq1), e1, if_neg (hsg.mp h16), if_pos (fun q => b2i_eq h36 ⟨q.1, (le_mz (by omega)).mpr q.2⟩)]; exact hr⟩⟩
    · refine rx_bipush (-11) dX12_item_19 (by decide) ?_
      exact rx_iret dX12_item_21 rfl ⟨Nat.le_refl _, Nat.le_refl _⟩ ⟨rfl, _, rfl, ⟨by unfold aItem; rw [if_neg (fun q => q hq1), e1, if_pos (Decidable.not_not.mp (fun q => h16 (hsg.mpr q)))], by unfold nItem; rw [if_neg (fun q => q hq1), e1, if_pos (Decidable.not_not.mp (fun q => h16 (hsg.mpr q)))]; exact hr⟩⟩
  · refine rx_iconst (-1) dX12_item_8 (by decide) ?_
    exact rx_iret dX12_item_9 rfl ⟨Nat.le_refl _, Nat.le_refl _⟩ ⟨rfl, _, rfl, ⟨by unfold aItem; rw [if_pos (b2i_eq h5)], by unfold nItem; rw [if_pos (b2i_eq h5)]; exact hr⟩⟩
set_option maxRecDepth 20000 in
set_option maxHeartbeats 1000000 in
theorem mc_read (g : GG) (σ : SIG) (t i : Int32) (S : SS) (L : LL) (hr : MRel S L σ) : Cl g 2 mX12_read [.ref 0, .int t, .int i] SHM S L (fun r S' L' => r = aRead σ t i ∧ MRel S' L' σ) := by
  refine ct_of (ls := [some (.ref 0), some (.int t), some (.int i)]) 0 (by decide +kernel) rfl rfl ?_
  refine rx_aload_n dX12_read_0 rfl ?_
  refine rx_iload_n dX12_read_1 rfl ?_
  refine rx_cVi_1 clX12_387 dX12_read_2 (rcvo (sM_0) rfl) rfl (m_isTape g _ S L) ?_
  refine pur3 ?_
  refine rx_if_eq 34 dX12_read_5 (by decide) (fun h5 => ?_) (fun h5 => ?_)
  · refine rx_ldc2 (-9223372036854775808) dX12_read_34 w_1399 ?_
    refine rx_goto 51 dX12_read_37 (by decide) ?_
    exact rx_lret dX12_read_51 rfl ⟨Nat.le_refl _, Nat.le_refl _⟩ ⟨rfl, _, rfl, ⟨(if_neg (fun q => b2i_eq h5 q.1)).symm, hr⟩⟩
  · have hq1 := b2i_ne h5
    obtain ⟨t, ht5, rfl⟩ := rngI 5 (by omega) hq1.1 hq1.2
    have ht : t < 6 := by omega
    have e1 : (nI t).toNatClampNeg = t := nI_clamp (by omega)
    have hvt : vp_in (nI t) 6 := vp_in_nI ht (by omega)
    obtain ⟨hts, htz, htl⟩ := hr.tp t ht
    have hkz := hr.tz t ht
    have hz6 : gZ σ t ≤ 60 := by rcases hkz with ⟨_, q⟩ | ⟨_, q⟩ <;> omega
    have hsg := sg_iff (x := gS σ t) (by rcases hkz with ⟨q, _⟩ | ⟨q, _⟩; exact Or.inl q; exact Or.inr q)
    refine rx_aload_n dX12_read_8 rfl ?_
    refine rx_getR dX12_read_9 flX12_223 (sM_0) rfl ?_
    refine rx_iload_n dX12_read_12 rfl ?_
    refine rx_iaload dX12_read_13 (sM_43) hvt ?_
    rw [e1, hts]
    refine rx_if_lt 34 dX12_read_14 (by decide) (fun h14 => ?_) (fun h14 => ?_)
    · refine rx_ldc2 (-9223372036854775808) dX12_read_34 w_1399 ?_
      refine rx_goto 51 dX12_read_37 (by decide) ?_
      exact rx_lret dX12_read_51 rfl ⟨Nat.le_refl _, Nat.le_refl _⟩ ⟨rfl, _, rfl, ⟨(if_neg (fun q => by
        rw [e1] at q
        have hz0 : gZ σ t = 0 := by
          rcases hkz with ⟨_, p⟩ | ⟨⟨k, hk, p⟩, _⟩
          · exact p
          · rw [p] at h14; exact absurd h14 (nI_pos (by omega))
        rw [hz0] at q
        exact absurd q.2.2 (Int32.not_lt.mpr q.2.1))).symm, hr⟩⟩
    · refine rx_aload_n dX12_read_17 rfl ?_
      refine rx_iload_n dX12_read_18 rfl ?_
      refine rx_iconst (0) dX12_read_19 (by decide) ?_
      refine rx_aload_n dX12_read_20 rfl ?_
      refine rx_getR dX12_read_21 flX12_226 (sM_0) rfl ?_
      refine rx_iload_n dX12_read_24 rfl ?_
      refine rx_iaload dX12_read_25 (sM_44) hvt ?_
      rw [e1, htz]
      refine rx_iconst (1) dX12_read_26 (by decide) ?_
      refine rx_isub dX12_read_27 ?_
      refine rx_cVi_3 clX12_236 dX12_read_28 (rcvo (sM_0) rfl) rfl (m_in g 0 _ _ _ S L) ?_
      refine pur3 ?_
      refine rx_if_ne 40 dX12_read_31 (by decide) (fun h31 => ?_) (fun h31 => ?_)
      · have hin := b2i_ne h31
        have hyes : 0 ≤ i ∧ i < nI (gZ σ t) := ⟨hin.1, (le_mz (by omega)).mp hin.2⟩
        obtain ⟨i, hi, rfl⟩ := rngL (gZ σ t) (by omega) hyes.1 hyes.2
        have e2 : (nI i).toNatClampNeg = i := nI_clamp (by omega)
        have hvx : vp_in (nI (60 * t + i)) 360 := vp_in_nI (by omega) (by omega)
        have hxc : (nI (60 * t + i)).toNatClampNeg = 60 * t + i := nI_clamp (by omega)
        refine rx_aload_n dX12_read_40 rfl ?_
        refine rx_getR dX12_read_41 flX12_229 (sM_0) rfl ?_
        refine rx_bipush (60) dX12_read_44 (by decide) ?_
        refine rx_iload_n dX12_read_46 rfl ?_
        refine rx_imul dX12_read_47 ?_
        refine rx_iload_n dX12_read_48 rfl ?_
        refine rx_iadd dX12_read_49 ?_
        rw [ix60]
        refine rx_laload dX12_read_50 (sM_45) hvx ?_
        rw [hxc, htl i hi]
        exact rx_lret dX12_read_51 rfl ⟨Nat.le_refl _, Nat.le_refl _⟩ ⟨rfl, _, rfl, ⟨by unfold aRead; rw [e1, e2, if_pos ⟨hq1, hyes⟩], hr⟩⟩
      · refine rx_ldc2 (-9223372036854775808) dX12_read_34 w_1399 ?_
        refine rx_goto 51 dX12_read_37 (by decide) ?_
        exact rx_lret dX12_read_51 rfl ⟨Nat.le_refl _, Nat.le_refl _⟩ ⟨rfl, _, rfl, ⟨(if_neg (fun q => b2i_eq h31 (by rw [e1] at q; exact ⟨q.2.1, (le_mz (by omega)).mpr q.2.2⟩))).symm, hr⟩⟩
set_option maxRecDepth 20000 in
set_option maxHeartbeats 400000 in
theorem tape_tail (g : GG) (σ : SIG) (t : Nat) (s n : Int32) (S1 : SS) (L : LL) (ht : t < 6) (hfin : ∀ L1 : LL, (∀ i, i < 60 → L1 45 (60 * t + i) = 0) → (∀ x, ¬ (60 * t ≤ x ∧ x < 60 * t + 60) → L1 45 x = L 45 x) → 1 = aTape σ (nI t) s n ∧ MRel S1 L1 (nTape σ (nI t) s n)) : Rx g 2 0 0 mX12_tape SHM.length (fun r sh' S' L' => sh' = SHM ∧ ∃ x, r = some (.int x) ∧ (x = aTape σ (nI t) s n ∧ MRel S' L' (nTape σ (nI t) s n))) 0 0 69 [some (.ref 0), some (.int (nI t)), some (.int s), some (.int n), some (.int 0)] [] SHM S1 L := by
  have loop : ∀ (r c : Nat) (L1 : LL), c + r = 60 → ((∀ i, i < c → L1 45 (60 * t + i) = 0) ∧ ∀ x, ¬ (60 * t ≤ x ∧ x < 60 * t + 60) → L1 45 x = L 45 x) → Rx g 2 0 0 mX12_tape SHM.length (fun r sh' S' L' => sh' = SHM ∧ ∃ x, r = some (.int x) ∧ (x = aTape σ (nI t) s n ∧ MRel S' L' (nTape σ (nI t) s n))) 0 0 69 [some (.ref 0), some (.int (nI t)), some (.int s), some (.int n), some (.int (nI c))] [] SHM S1 L1 := by
    intro r
    induction r with
    | zero =>
      intro c L1 hc hI
      have hcn : c = 60 := by omega
      subst hcn
      refine rx_iload dX12_tape_69 rfl ?_
      refine rx_bipush (60) dX12_tape_71 (by decide) ?_
      refine rx_icmp_ge 95 dX12_tape_73 (by decide) (fun h73 => ?_) (fun h73 => absurd (nI_le (a := 60) (b := _) (by omega) (by omega)) h73)
      refine rx_iconst (1) dX12_tape_95 (by decide) ?_
      exact rx_iret dX12_tape_96 rfl ⟨Nat.le_refl _, Nat.le_refl _⟩ ⟨rfl, _, rfl, hfin L1 hI.1 hI.2⟩
    | succ r ih =>
      intro c L1 hc hI
      have hvx : vp_in (nI (60 * t + c)) 360 := vp_in_nI (by omega) (by omega)
      have hxc : (nI (60 * t + c)).toNatClampNeg = 60 * t + c := nI_clamp (by omega)
      refine rx_iload dX12_tape_69 rfl ?_
      refine rx_bipush (60) dX12_tape_71 (by decide) ?_
      refine rx_icmp_ge 95 dX12_tape_73 (by decide) (fun h73 => absurd h73 (nI_ge (a := c) (b := 60) (by omega) (by omega))) (fun h73 => ?_)
      refine rx_aload_n dX12_tape_76 rfl ?_
      refine rx_getR dX12_tape_77 flX12_229 (sM_0) rfl ?_
      refine rx_bipush (60) dX12_tape_80 (by decide) ?_
      refine rx_iload_n dX12_tape_82 rfl ?_
      refine rx_imul dX12_tape_83 ?_
      refine rx_iload dX12_tape_84 rfl ?_
      refine rx_iadd dX12_tape_86 ?_
      rw [ix60]
      refine rx_lconst (0) dX12_tape_87 (by decide) ?_
      refine rx_lastore dX12_tape_88 (sM_45) hvx ?_
      rw [hxc]
      refine rx_iinc_4 (1) rfl dX12_tape_89 (by decide) ?_
      refine rx_goto 69 dX12_tape_92 (by decide) ?_
      rw [nI_1]
      refine ih (c + 1) _ (by omega) ⟨fun i hi => ?_, fun x hx => ?_⟩
      · rw [upL_row]; unfold vp_updL
        by_cases e : i = c
        · rw [if_pos (by omega)]
        · rw [if_neg (by omega)]; exact hI.1 i (by omega)
      · rw [upL_row]; unfold vp_updL; rw [if_neg (by omega)]; exact hI.2 x hx
  exact loop 60 0 L (by omega) ⟨fun i hi => absurd hi (by omega), fun _ _ => rfl⟩
set_option maxRecDepth 20000 in
set_option maxHeartbeats 1000000 in
theorem mc_tape (g : GG) (σ : SIG) (t s n : Int32) (S : SS) (L : LL) (hr : MRel S L σ) (hok : OKg (nTape σ t s n)) : Ci g 2 mX12_tape [.ref 0, .int t, .int s, .int n] SHM S L (fun r S' L' => r = aTape σ t s n ∧ MRel S' L' (nTape σ t s n)) := by
  refine ct_of (ls := [some (.ref 0), some (.int t), some (.int s), some (.int n), none]) 1 (by decide +kernel) rfl rfl ?_
  refine rx_aload_n dX12_tape_0 rfl ?_
  refine rx_iload_n dX12_tape_1 rfl ?_
  refine rx_cVi_1 clX12_387 dX12_tape_2 (rcvo (sM_0) rfl) rfl (m_isTape g _ S L) ?_
  refine pur3 ?_
  refine rx_if_ne 10 dX12_tape_5 (by decide) (fun h5 => ?_) (fun h5 => ?_)
  · have hq1 := b2i_ne h5
    obtain ⟨t, ht5, rfl⟩ := rngI 5 (by omega) hq1.1 hq1.2
    have ht : t < 6 := by omega
    have e1 : (nI t).toNatClampNeg = t := nI_clamp (by omega)
    have hvt : vp_in (nI t) 6 := vp_in_nI ht (by omega)
    obtain ⟨hts, htz, htl⟩ := hr.tp t ht
    have hkz := hr.tz t ht
    have hz6 : gZ σ t ≤ 60 := by rcases hkz with ⟨_, q⟩ | ⟨_, q⟩ <;> omega
    have hsg := sg_iff (x := gS σ t) (by rcases hkz with ⟨q, _⟩ | ⟨q, _⟩; exact Or.inl q; exact Or.inr q)
    refine rx_aload_n dX12_tape_10 rfl ?_
    refine rx_iload_n dX12_tape_11 rfl ?_
    refine rx_iconst (-1) dX12_tape_12 (by decide) ?_
    refine rx_iconst (4) dX12_tape_13 (by decide) ?_
    refine rx_cVi_3 clX12_236 dX12_tape_14 (rcvo (sM_0) rfl) rfl (m_in g 0 _ _ _ S L) ?_
    refine pur3 ?_
    refine rx_if_eq 30 dX12_tape_17 (by decide) (fun h17 => ?_) (fun h17 => ?_)
    · have hbad : ¬ (0 ≤ s ∧ s ≤ 4) ∨ ¬ n ≤ 60 := by first | exact Or.inl (fun q => b2i_eq h17 ⟨Int32.le_trans (by decide) q.1, q.2⟩) | exact Or.inr h27
      have hs1 : ¬ s = -1 := by first | exact fun q => b2i_eq h17 (by rw [q]; decide) | exact fun q => h21 (by rw [q]; decide)
      refine rx_bipush (-2) dX12_tape_30 (by decide) ?_
      exact rx_iret dX12_tape_32 rfl ⟨Nat.le_refl _, Nat.le_refl _⟩ ⟨rfl, _, rfl, ⟨by unfold aTape; rw [if_neg (fun q => q hq1), if_neg hs1, if_pos hbad], by unfold nTape; rw [if_neg (fun q => q hq1), if_neg hs1, if_pos hbad]; exact hr⟩⟩
    · refine rx_iload_n dX12_tape_20 rfl ?_
      refine rx_if_lt 33 dX12_tape_21 (by decide) (fun h21 => ?_) (fun h21 => ?_)
      · have hin := b2i_ne h17
        refine rx_iload_n dX12_tape_33 rfl ?_
        refine rx_if_lt 44 dX12_tape_34 (by decide) (fun h34 => ?_) (fun h34 => absurd h21 h34)
        refine rx_aload_n dX12_tape_44 rfl ?_
        refine rx_getR dX12_tape_45 flX12_223 (sM_0) rfl ?_
        refine rx_iload_n dX12_tape_48 rfl ?_
        refine rx_iload_n dX12_tape_49 rfl ?_
        refine rx_iastore dX12_tape_50 (sM_43) hvt ?_
        rw [e1]
        refine rx_aload_n dX12_tape_51 rfl ?_
        refine rx_getR dX12_tape_52 flX12_226 (sM_0) rfl ?_
        refine rx_iload_n dX12_tape_55 rfl ?_
        refine rx_iload_n dX12_tape_56 rfl ?_
        refine rx_if_ge 64 dX12_tape_57 (by decide) (fun h57 => absurd h57 (Int32.not_le.mpr h21)) (fun h57 => ?_)
        refine rx_iconst (0) dX12_tape_60 (by decide) ?_
        refine rx_goto 65 dX12_tape_61 (by decide) ?_
        refine rx_iastore dX12_tape_65 (sM_44) hvt ?_
        rw [e1]
        refine rx_iconst (0) dX12_tape_66 (by decide) ?_
        refine rx_istore_4 rfl dX12_tape_67 ?_
        have hs1 : s = -1 := by
          obtain ⟨p1, p2⟩ := hin
          have hx : s.toInt < 0 := by rw [Int32.lt_iff_toInt_lt, Int32.toInt_zero] at h21; exact h21
          have hy : -1 ≤ s.toInt := by rw [Int32.le_iff_toInt_le, tIm1] at p1; exact p1
          exact Int32.toInt_inj.mp (by rw [tIm1]; omega)
        subst hs1
        have hs1 : (-1 : Int32) = -1 := rfl
        have e0 : (0 : Int32) = nI 0 := rfl
        rw [show upS (upS S 43 t (-1)) 44 t 0 = upS (upS S 43 t (-1)) 44 t (nI 0) from rfl]
        exact tape_tail g σ t (-1) n (upS (upS S 43 t (-1)) 44 t (nI 0)) L ht (fun L1 hA hB => ⟨by unfold aTape; rw [if_neg (fun q => q hq1), if_pos hs1], by
          have en : nTape σ (nI t) (-1) n = wTp σ t (-1) 0 (fun _ => 0) := by unfold nTape; rw [if_neg (fun q => q hq1), if_pos hs1, e1]
          rw [en] at hok ⊢
          exact hr.tape t _ _ _ hok (fun j h1 h2 => by rw [upS_off _ _ _ _ h2, upS_off _ _ _ _ h1]) (fun q hq => by rw [upS_off _ _ _ _ (by decide), upS_row]) (fun q hq => by rw [upS_row, upS_off _ _ _ _ (by decide)]) (fun q hq hn i2 hi2 => hB _ (by omega)) (fun i2 hi2 => hA i2 (by omega))⟩)
      · refine rx_iload_n dX12_tape_24 rfl ?_
        refine rx_bipush (60) dX12_tape_25 (by decide) ?_
        refine rx_icmp_le 33 dX12_tape_27 (by decide) (fun h27 => ?_) (fun h27 => ?_)
        · have hin := b2i_ne h17
          refine rx_iload_n dX12_tape_33 rfl ?_
          refine rx_if_lt 44 dX12_tape_34 (by decide) (fun h34 => absurd h34 h21) (fun h34 => ?_)
          have hs1 : ¬ s = -1 := fun q => h21 (by rw [q]; decide)
          have hs2 : ¬ (¬ (0 ≤ s ∧ s ≤ 4) ∨ ¬ n ≤ 60) := fun q => q.elim (fun p => p ⟨Int32.not_lt.mp h21, hin.2⟩) (fun p => p h27)
          refine rx_iload_n dX12_tape_37 rfl ?_
          refine rx_if_ge 44 dX12_tape_38 (by decide) (fun h38 => ?_) (fun h38 => ?_)
          · refine rx_aload_n dX12_tape_44 rfl ?_
            refine rx_getR dX12_tape_45 flX12_223 (sM_0) rfl ?_
            refine rx_iload_n dX12_tape_48 rfl ?_
            refine rx_iload_n dX12_tape_49 rfl ?_
            refine rx_iastore dX12_tape_50 (sM_43) hvt ?_
            rw [e1]
            refine rx_aload_n dX12_tape_51 rfl ?_
            refine rx_getR dX12_tape_52 flX12_226 (sM_0) rfl ?_
            refine rx_iload_n dX12_tape_55 rfl ?_
            refine rx_iload_n dX12_tape_56 rfl ?_
            refine rx_if_ge 64 dX12_tape_57 (by decide) (fun h57 => ?_) (fun h57 => absurd (Int32.not_lt.mp h21) h57)
            refine rx_iload_n dX12_tape_64 rfl ?_
            refine rx_iastore dX12_tape_65 (sM_44) hvt ?_
            rw [e1]
            refine rx_iconst (0) dX12_tape_66 (by decide) ?_
            refine rx_istore_4 rfl dX12_tape_67 ?_
            obtain ⟨z, hz, rfl⟩ := rngI 60 (by omega) h38 h27
            have ez : (nI z).toNatClampNeg = z := nI_clamp (by omega)
            exact tape_tail g σ t s (nI z) (upS (upS S 43 t s) 44 t (nI z)) L ht (fun L1 hA hB => ⟨by unfold aTape; rw [if_neg (fun q => q hq1), if_neg hs1, if_neg hs2, if_neg (Int32.not_lt.mpr h38)], by
              have en : nTape σ (nI t) s (nI z) = wTp σ t s z (fun _ => 0) := by unfold nTape; rw [if_neg (fun q => q hq1), if_neg hs1, if_neg hs2, if_neg (Int32.not_lt.mpr h38), e1, ez]
              rw [en] at hok ⊢
              exact hr.tape t _ _ _ hok (fun j h1 h2 => by rw [upS_off _ _ _ _ h2, upS_off _ _ _ _ h1]) (fun q hq => by rw [upS_off _ _ _ _ (by decide), upS_row]) (fun q hq => by rw [upS_row, upS_off _ _ _ _ (by decide)]) (fun q hq hn i2 hi2 => hB _ (by omega)) (fun i2 hi2 => hA i2 (by omega))⟩)
          · refine rx_bipush (-14) dX12_tape_41 (by decide) ?_
            exact rx_iret dX12_tape_43 rfl ⟨Nat.le_refl _, Nat.le_refl _⟩ ⟨rfl, _, rfl, ⟨by unfold aTape; rw [if_neg (fun q => q hq1), if_neg hs1, if_neg hs2, if_pos (Int32.not_le.mp h38)], by unfold nTape; rw [if_neg (fun q => q hq1), if_neg hs1, if_neg hs2, if_pos (Int32.not_le.mp h38)]; exact hr⟩⟩
        · have hbad : ¬ (0 ≤ s ∧ s ≤ 4) ∨ ¬ n ≤ 60 := by first | exact Or.inl (fun q => b2i_eq h17 ⟨Int32.le_trans (by decide) q.1, q.2⟩) | exact Or.inr h27
          have hs1 : ¬ s = -1 := by first | exact fun q => b2i_eq h17 (by rw [q]; decide) | exact fun q => h21 (by rw [q]; decide)
          refine rx_bipush (-2) dX12_tape_30 (by decide) ?_
          exact rx_iret dX12_tape_32 rfl ⟨Nat.le_refl _, Nat.le_refl _⟩ ⟨rfl, _, rfl, ⟨by unfold aTape; rw [if_neg (fun q => q hq1), if_neg hs1, if_pos hbad], by unfold nTape; rw [if_neg (fun q => q hq1), if_neg hs1, if_pos hbad]; exact hr⟩⟩
  · refine rx_iconst (-1) dX12_tape_8 (by decide) ?_
    exact rx_iret dX12_tape_9 rfl ⟨Nat.le_refl _, Nat.le_refl _⟩ ⟨rfl, _, rfl, ⟨by unfold aTape; rw [if_pos (b2i_eq h5)], by unfold nTape; rw [if_pos (b2i_eq h5)]; exact hr⟩⟩
set_option maxRecDepth 20000 in
set_option maxHeartbeats 1000000 in
theorem mc_judge (g : GG) (σ : SIG) (t i : Int32) (S : SS) (L : LL) (hr : MRel S L σ) : Ci g 2 mX12_judge [.ref 0, .int t, .int i] SHM S L (fun r S' L' => r = aJudge σ t i ∧ MRel S' L' σ) := by
  refine ct_of (ls := [some (.ref 0), some (.int t), some (.int i), none]) 1 (by decide +kernel) rfl rfl ?_
  refine rx_aload_n dX12_judge_0 rfl ?_
  refine rx_iload_n dX12_judge_1 rfl ?_
  refine rx_cVi_1 clX12_387 dX12_judge_2 (rcvo (sM_0) rfl) rfl (m_isTape g _ S L) ?_
  refine pur3 ?_
  refine rx_if_ne 10 dX12_judge_5 (by decide) (fun h5 => ?_) (fun h5 => ?_)
  · have hq1 := b2i_ne h5
    obtain ⟨t, ht5, rfl⟩ := rngI 5 (by omega) hq1.1 hq1.2
    have ht : t < 6 := by omega
    have e1 : (nI t).toNatClampNeg = t := nI_clamp (by omega)
    have hvt : vp_in (nI t) 6 := vp_in_nI ht (by omega)
    obtain ⟨hts, htz, htl⟩ := hr.tp t ht
    have hkz := hr.tz t ht
    have hz6 : gZ σ t ≤ 60 := by rcases hkz with ⟨_, q⟩ | ⟨_, q⟩ <;> omega
    have hsg := sg_iff (x := gS σ t) (by rcases hkz with ⟨q, _⟩ | ⟨q, _⟩; exact Or.inl q; exact Or.inr q)
    refine rx_aload_n dX12_judge_10 rfl ?_
    refine rx_getR dX12_judge_11 flX12_223 (sM_0) rfl ?_
    refine rx_iload_n dX12_judge_14 rfl ?_
    refine rx_iaload dX12_judge_15 (sM_43) hvt ?_
    rw [e1, hts]
    refine rx_if_lt 32 dX12_judge_16 (by decide) (fun h16 => ?_) (fun h16 => ?_)
    · have hent0 : gS σ t = 1 ∨ gS σ t = -1 := by first | exact Or.inl h26 | exact Or.inr (Decidable.not_not.mp (fun q => Int32.not_le.mpr h16 (hsg.mpr q)))
      refine rx_iconst (0) dX12_judge_32 (by decide) ?_
      refine rx_istore_3 rfl dX12_judge_33 ?_
      have hsz := hr.sz
      have hn7 := hr.n7
      have hz0 : gS σ t < 0 → gZ σ t = 0 := fun h => by
        rcases hkz with ⟨_, p⟩ | ⟨⟨k, hk, p⟩, _⟩
        · exact p
        · rw [p] at h; exact absurd h (nI_pos (by omega))
      have hent : jdP σ t i (nN σ) 0 = aJudge σ (nI t) i := by
        unfold aJudge
        rw [if_neg (fun q => q hq1), e1, if_neg (fun q => q hent0)]
      have loop : ∀ (r c : Nat), c + r = nN σ → jdP σ t i r c = aJudge σ (nI t) i → Rx g 2 0 0 mX12_judge SHM.length (fun r sh' S' L' => sh' = SHM ∧ ∃ x, r = some (.int x) ∧ (x = aJudge σ (nI t) i ∧ MRel S' L' σ)) 0 0 34 [some (.ref 0), some (.int (nI t)), some (.int i), some (.int (nI c))] [] SHM S L := by
        intro r
        induction r with
        | zero =>
          intro c hc hev
          refine rx_iload_n dX12_judge_34 rfl ?_
          refine rx_aload_n dX12_judge_35 rfl ?_
          refine rx_getI dX12_judge_36 flX12_7 (sM_0) rfl ?_
          refine rx_icmp_ge 106 dX12_judge_39 (by decide) (fun h39 => ?_) (fun h39 => absurd (by rw [hsz]; exact nI_le (by omega) (by omega)) h39)
          refine rx_bipush (-5) dX12_judge_106 (by decide) ?_
          exact rx_iret dX12_judge_108 rfl ⟨Nat.le_refl _, Nat.le_refl _⟩ ⟨rfl, _, rfl, ⟨by rw [← hev]; rfl, hr⟩⟩
        | succ r ih =>
          intro c hc hev
          have hc7 : c < 7 := by omega
          have hci : (nI c).toNatClampNeg = c := nI_clamp (by omega)
          have hvc : vp_in (nI c) 7 := vp_in_nI hc7 (by omega)
          refine rx_iload_n dX12_judge_34 rfl ?_
          refine rx_aload_n dX12_judge_35 rfl ?_
          refine rx_getI dX12_judge_36 flX12_7 (sM_0) rfl ?_
          refine rx_icmp_ge 106 dX12_judge_39 (by decide) (fun h39 => absurd h39 (by rw [hsz]; exact nI_ge (by omega) (by omega))) (fun h39 => ?_)
          refine rx_aload_n dX12_judge_42 rfl ?_
          refine rx_getR dX12_judge_43 flX12_223 (sM_0) rfl ?_
          refine rx_iload_n dX12_judge_46 rfl ?_
          refine rx_iaload dX12_judge_47 (sM_43) hvt ?_
          rw [e1, hts]
          refine rx_if_lt 69 dX12_judge_48 (by decide) (fun h48 => ?_) (fun h48 => ?_)
          · refine rx_bipush (100) dX12_judge_69 (by decide) ?_
            refine rx_iload_n dX12_judge_71 rfl ?_
            refine rx_iadd dX12_judge_72 ?_
            rw [show (100 : Int32) = nI 100 from rfl, nI_add]
            exact rx_iret dX12_judge_73 rfl ⟨Nat.le_refl _, Nat.le_refl _⟩ ⟨rfl, _, rfl, ⟨by rw [← hev]; exact (if_pos (fun q => by rw [hz0 h48] at q; omega)).symm, hr⟩⟩
          · refine rx_iload_n dX12_judge_51 rfl ?_
            refine rx_if_lt 69 dX12_judge_52 (by decide) (fun h52 => ?_) (fun h52 => ?_)
            · refine rx_bipush (100) dX12_judge_69 (by decide) ?_
              refine rx_iload_n dX12_judge_71 rfl ?_
              refine rx_iadd dX12_judge_72 ?_
              rw [show (100 : Int32) = nI 100 from rfl, nI_add]
              exact rx_iret dX12_judge_73 rfl ⟨Nat.le_refl _, Nat.le_refl _⟩ ⟨rfl, _, rfl, ⟨by rw [← hev]; exact (if_pos (fun q => neg_no h52 q.1)).symm, hr⟩⟩
            · refine rx_iload_n dX12_judge_55 rfl ?_
              refine rx_aload_n dX12_judge_56 rfl ?_
              refine rx_getR dX12_judge_57 flX12_226 (sM_0) rfl ?_
              refine rx_iload_n dX12_judge_60 rfl ?_
              refine rx_iaload dX12_judge_61 (sM_44) hvt ?_
              rw [e1, htz]
              refine rx_iload_n dX12_judge_62 rfl ?_
              refine rx_isub dX12_judge_63 ?_
              refine rx_iconst (1) dX12_judge_64 (by decide) ?_
              refine rx_isub dX12_judge_65 ?_
              refine rx_icmp_le 74 dX12_judge_66 (by decide) (fun h66 => ?_) (fun h66 => ?_)
              · have hy : 0 ≤ i.toInt ∧ i.toInt + c < gZ σ t := ⟨nneg h52, (jd_le hz6 (by omega)).mp h66⟩
                have hyes : ¬ ¬ (0 ≤ i.toInt ∧ i.toInt + c < gZ σ t) := fun q => q hy
                obtain ⟨m, hm, ei, ei2, ei3⟩ := nI_ofN h52
                have hmz : m + c < gZ σ t := by have := hy.2; omega
                have hvx : vp_in (nI (60 * t + m + c)) 360 := vp_in_nI (by omega) (by omega)
                have hxc : (nI (60 * t + m + c)).toNatClampNeg = 60 * t + m + c := nI_clamp (by omega)
                refine rx_aload_n dX12_judge_74 rfl ?_
                refine rx_getR dX12_judge_75 flX12_229 (sM_0) rfl ?_
                refine rx_bipush (60) dX12_judge_78 (by decide) ?_
                refine rx_iload_n dX12_judge_80 rfl ?_
                refine rx_imul dX12_judge_81 ?_
                refine rx_iload_n dX12_judge_82 rfl ?_
                refine rx_iadd dX12_judge_83 ?_
                refine rx_iload_n dX12_judge_84 rfl ?_
                refine rx_iadd dX12_judge_85 ?_
                rw [show 60 * nI t + i + nI c = nI (60 * t + m + c) from by rw [ei, ix60, nI_add]]
                refine rx_laload dX12_judge_86 (sM_45) hvx ?_
                rw [hxc, show 60 * t + m + c = 60 * t + (m + c) from Nat.add_assoc _ _ _, htl (m + c) hmz]
                refine rx_aload_n dX12_judge_87 rfl ?_
                refine rx_getR dX12_judge_88 flX12_26 (sM_0) rfl ?_
                refine rx_iload_n dX12_judge_91 rfl ?_
                refine rx_iaload dX12_judge_92 (sM_3) hvc ?_
                rw [hci, hr.sc.a hc7]
                refine rx_i2l dX12_judge_93 ?_
                refine rx_lcmp dX12_judge_94 ?_
                refine rx_if_eq 100 dX12_judge_95 (by decide) (fun h95 => ?_) (fun h95 => ?_)
                · refine rx_iinc_3 (1) rfl dX12_judge_100 (by decide) ?_
                  refine rx_goto 34 dX12_judge_103 (by decide) ?_
                  rw [nI_1]
                  exact ih (c + 1) (by omega) (by rw [← hev]; exact ((if_neg hyes).trans (if_pos (by rw [ei3]; exact (lg_cmp_eq _ _).mp h95))).symm)
                · refine rx_iload_n dX12_judge_98 rfl ?_
                  exact rx_iret dX12_judge_99 rfl ⟨Nat.le_refl _, Nat.le_refl _⟩ ⟨rfl, _, rfl, ⟨by rw [← hev]; exact ((if_neg hyes).trans (if_neg (fun q => h95 ((lg_cmp_eq _ _).mpr (by rw [ei3] at q; exact q))))).symm, hr⟩⟩
              · refine rx_bipush (100) dX12_judge_69 (by decide) ?_
                refine rx_iload_n dX12_judge_71 rfl ?_
                refine rx_iadd dX12_judge_72 ?_
                rw [show (100 : Int32) = nI 100 from rfl, nI_add]
                exact rx_iret dX12_judge_73 rfl ⟨Nat.le_refl _, Nat.le_refl _⟩ ⟨rfl, _, rfl, ⟨by rw [← hev]; exact (if_pos (fun q => h66 ((jd_le hz6 (by omega)).mpr q.2))).symm, hr⟩⟩
      exact loop (nN σ) 0 (by omega) hent
    · refine rx_aload_n dX12_judge_19 rfl ?_
      refine rx_getR dX12_judge_20 flX12_223 (sM_0) rfl ?_
      refine rx_iload_n dX12_judge_23 rfl ?_
      refine rx_iaload dX12_judge_24 (sM_43) hvt ?_
      rw [e1, hts]
      refine rx_iconst (1) dX12_judge_25 (by decide) ?_
      refine rx_icmp_eq 32 dX12_judge_26 (by decide) (fun h26 => ?_) (fun h26 => ?_)
      · have hent0 : gS σ t = 1 ∨ gS σ t = -1 := by first | exact Or.inl h26 | exact Or.inr (Decidable.not_not.mp (fun q => Int32.not_le.mpr h16 (hsg.mpr q)))
        refine rx_iconst (0) dX12_judge_32 (by decide) ?_
        refine rx_istore_3 rfl dX12_judge_33 ?_
        have hsz := hr.sz
        have hn7 := hr.n7
        have hz0 : gS σ t < 0 → gZ σ t = 0 := fun h => by
          rcases hkz with ⟨_, p⟩ | ⟨⟨k, hk, p⟩, _⟩
          · exact p
          · rw [p] at h; exact absurd h (nI_pos (by omega))
        have hent : jdP σ t i (nN σ) 0 = aJudge σ (nI t) i := by
          unfold aJudge
          rw [if_neg (fun q => q hq1), e1, if_neg (fun q => q hent0)]
        have loop : ∀ (r c : Nat), c + r = nN σ → jdP σ t i r c = aJudge σ (nI t) i → Rx g 2 0 0 mX12_judge SHM.length (fun r sh' S' L' => sh' = SHM ∧ ∃ x, r = some (.int x) ∧ (x = aJudge σ (nI t) i ∧ MRel S' L' σ)) 0 0 34 [some (.ref 0), some (.int (nI t)), some (.int i), some (.int (nI c))] [] SHM S L := by
          intro r
          induction r with
          | zero =>
            intro c hc hev
            refine rx_iload_n dX12_judge_34 rfl ?_
            refine rx_aload_n dX12_judge_35 rfl ?_
            refine rx_getI dX12_judge_36 flX12_7 (sM_0) rfl ?_
            refine rx_icmp_ge 106 dX12_judge_39 (by decide) (fun h39 => ?_) (fun h39 => absurd (by rw [hsz]; exact nI_le (by omega) (by omega)) h39)
            refine rx_bipush (-5) dX12_judge_106 (by decide) ?_
            exact rx_iret dX12_judge_108 rfl ⟨Nat.le_refl _, Nat.le_refl _⟩ ⟨rfl, _, rfl, ⟨by rw [← hev]; rfl, hr⟩⟩
          | succ r ih =>
            intro c hc hev
            have hc7 : c < 7 := by omega
            have hci : (nI c).toNatClampNeg = c := nI_clamp (by omega)
            have hvc : vp_in (nI c) 7 := vp_in_nI hc7 (by omega)
            refine rx_iload_n dX12_judge_34 rfl ?_
            refine rx_aload_n dX12_judge_35 rfl ?_
            refine rx_getI dX12_judge_36 flX12_7 (sM_0) rfl ?_
            refine rx_icmp_ge 106 dX12_judge_39 (by decide) (fun h39 => absurd h39 (by rw [hsz]; exact nI_ge (by omega) (by omega))) (fun h39 => ?_)
            refine rx_aload_n dX12_judge_42 rfl ?_
            refine rx_getR dX12_judge_43 flX12_223 (sM_0) rfl ?_
            refine rx_iload_n dX12_judge_46 rfl ?_
            refine rx_iaload dX12_judge_47 (sM_43) hvt ?_
            rw [e1, hts]
            refine rx_if_lt 69 dX12_judge_48 (by decide) (fun h48 => ?_) (fun h48 => ?_)
            · refine rx_bipush (100) dX12_judge_69 (by decide) ?_
              refine rx_iload_n dX12_judge_71 rfl ?_
              refine rx_iadd dX12_judge_72 ?_
              rw [show (100 : Int32) = nI 100 from rfl, nI_add]
              exact rx_iret dX12_judge_73 rfl ⟨Nat.le_refl _, Nat.le_refl _⟩ ⟨rfl, _, rfl, ⟨by rw [← hev]; exact (if_pos (fun q => by rw [hz0 h48] at q; omega)).symm, hr⟩⟩
            · refine rx_iload_n dX12_judge_51 rfl ?_
              refine rx_if_lt 69 dX12_judge_52 (by decide) (fun h52 => ?_) (fun h52 => ?_)
              · refine rx_bipush (100) dX12_judge_69 (by decide) ?_
                refine rx_iload_n dX12_judge_71 rfl ?_
                refine rx_iadd dX12_judge_72 ?_
                rw [show (100 : Int32) = nI 100 from rfl, nI_add]
                exact rx_iret dX12_judge_73 rfl ⟨Nat.le_refl _, Nat.le_refl _⟩ ⟨rfl, _, rfl, ⟨by rw [← hev]; exact (if_pos (fun q => neg_no h52 q.1)).symm, hr⟩⟩
              · refine rx_iload_n dX12_judge_55 rfl ?_
                refine rx_aload_n dX12_judge_56 rfl ?_
                refine rx_getR dX12_judge_57 flX12_226 (sM_0) rfl ?_
                refine rx_iload_n dX12_judge_60 rfl ?_
                refine rx_iaload dX12_judge_61 (sM_44) hvt ?_
                rw [e1, htz]
                refine rx_iload_n dX12_judge_62 rfl ?_
                refine rx_isub dX12_judge_63 ?_
                refine rx_iconst (1) dX12_judge_64 (by decide) ?_
                refine rx_isub dX12_judge_65 ?_
                refine rx_icmp_le 74 dX12_judge_66 (by decide) (fun h66 => ?_) (fun h66 => ?_)
                · have hy : 0 ≤ i.toInt ∧ i.toInt + c < gZ σ t := ⟨nneg h52, (jd_le hz6 (by omega)).mp h66⟩
                  have hyes : ¬ ¬ (0 ≤ i.toInt ∧ i.toInt + c < gZ σ t) := fun q => q hy
                  obtain ⟨m, hm, ei, ei2, ei3⟩ := nI_ofN h52
                  have hmz : m + c < gZ σ t := by have := hy.2; omega
                  have hvx : vp_in (nI (60 * t + m + c)) 360 := vp_in_nI (by omega) (by omega)
                  have hxc : (nI (60 * t + m + c)).toNatClampNeg = 60 * t + m + c := nI_clamp (by omega)
                  refine rx_aload_n dX12_judge_74 rfl ?_
                  refine rx_getR dX12_judge_75 flX12_229 (sM_0) rfl ?_
                  refine rx_bipush (60) dX12_judge_78 (by decide) ?_
                  refine rx_iload_n dX12_judge_80 rfl ?_
                  refine rx_imul dX12_judge_81 ?_
                  refine rx_iload_n dX12_judge_82 rfl ?_
                  refine rx_iadd dX12_judge_83 ?_
                  refine rx_iload_n dX12_judge_84 rfl ?_
                  refine rx_iadd dX12_judge_85 ?_
                  rw [show 60 * nI t + i + nI c = nI (60 * t + m + c) from by rw [ei, ix60, nI_add]]
                  refine rx_laload dX12_judge_86 (sM_45) hvx ?_
                  rw [hxc, show 60 * t + m + c = 60 * t + (m + c) from Nat.add_assoc _ _ _, htl (m + c) hmz]
                  refine rx_aload_n dX12_judge_87 rfl ?_
                  refine rx_getR dX12_judge_88 flX12_26 (sM_0) rfl ?_
                  refine rx_iload_n dX12_judge_91 rfl ?_
                  refine rx_iaload dX12_judge_92 (sM_3) hvc ?_
                  rw [hci, hr.sc.a hc7]
                  refine rx_i2l dX12_judge_93 ?_
                  refine rx_lcmp dX12_judge_94 ?_
                  refine rx_if_eq 100 dX12_judge_95 (by decide) (fun h95 => ?_) (fun h95 => ?_)
                  · refine rx_iinc_3 (1) rfl dX12_judge_100 (by decide) ?_
                    refine rx_goto 34 dX12_judge_103 (by decide) ?_
                    rw [nI_1]
                    exact ih (c + 1) (by omega) (by rw [← hev]; exact ((if_neg hyes).trans (if_pos (by rw [ei3]; exact (lg_cmp_eq _ _).mp h95))).symm)
                  · refine rx_iload_n dX12_judge_98 rfl ?_
                    exact rx_iret dX12_judge_99 rfl ⟨Nat.le_refl _, Nat.le_refl _⟩ ⟨rfl, _, rfl, ⟨by rw [← hev]; exact ((if_neg hyes).trans (if_neg (fun q => h95 ((lg_cmp_eq _ _).mpr (by rw [ei3] at q; exact q))))).symm, hr⟩⟩
                · refine rx_bipush (100) dX12_judge_69 (by decide) ?_
                  refine rx_iload_n dX12_judge_71 rfl ?_
                  refine rx_iadd dX12_judge_72 ?_
                  rw [show (100 : Int32) = nI 100 from rfl, nI_add]
                  exact rx_iret dX12_judge_73 rfl ⟨Nat.le_refl _, Nat.le_refl _⟩ ⟨rfl, _, rfl, ⟨by rw [← hev]; exact (if_pos (fun q => h66 ((jd_le hz6 (by omega)).mpr q.2))).symm, hr⟩⟩
        exact loop (nN σ) 0 (by omega) hent
      · refine rx_bipush (-12) dX12_judge_29 (by decide) ?_
        exact rx_iret dX12_judge_31 rfl ⟨Nat.le_refl _, Nat.le_refl _⟩ ⟨rfl, _, rfl, ⟨by unfold aJudge; rw [if_neg (fun q => q hq1), e1, if_pos (by rintro (q | q); exact h26 q; exact hsg.mp (Int32.not_lt.mp h16) q)], hr⟩⟩
  · refine rx_iconst (-1) dX12_judge_8 (by decide) ?_
    exact rx_iret dX12_judge_9 rfl ⟨Nat.le_refl _, Nat.le_refl _⟩ ⟨rfl, _, rfl, ⟨(if_pos (b2i_eq h5)).symm, hr⟩⟩
set_option maxRecDepth 20000 in
set_option maxHeartbeats 1000000 in
theorem mc_shift (g : GG) (σ : SIG) (t i o j n : Int32) (S : SS) (L : LL) (hr : MRel S L σ) (hok : OKg (nShift σ t i o j n)) : Ci g 2 mX12_shift [.ref 0, .int t, .int i, .int o, .int j, .int n] SHM S L (fun r S' L' => r = aShift σ t i o j n ∧ MRel S' L' (nShift σ t i o j n)) := by
  refine ct_of (ls := [some (.ref 0), some (.int t), some (.int i), some (.int o), some (.int j), some (.int n), none]) 1 (by decide +kernel) rfl rfl ?_
  refine rx_aload_n dX12_shift_0 rfl ?_
  refine rx_iload_n dX12_shift_1 rfl ?_
  refine rx_cVi_1 clX12_387 dX12_shift_2 (rcvo (sM_0) rfl) rfl (m_isTape g _ S L) ?_
  refine pur3 ?_
  refine rx_if_eq 16 dX12_shift_5 (by decide) (fun h5 => ?_) (fun h5 => ?_)
  · refine rx_iconst (-1) dX12_shift_16 (by decide) ?_
    exact rx_iret dX12_shift_17 rfl ⟨Nat.le_refl _, Nat.le_refl _⟩ ⟨rfl, _, rfl, ⟨by unfold aShift; rw [if_pos (by first | exact fun q => b2i_eq h5 q.1 | exact fun q => b2i_eq h13 q.2)], by unfold nShift; rw [if_pos (by first | exact fun q => b2i_eq h5 q.1 | exact fun q => b2i_eq h13 q.2)]; exact hr⟩⟩
  · refine rx_aload_n dX12_shift_8 rfl ?_
    refine rx_iload_n dX12_shift_9 rfl ?_
    refine rx_cVi_1 clX12_387 dX12_shift_10 (rcvo (sM_0) rfl) rfl (m_isTape g _ S L) ?_
    refine pur3 ?_
    refine rx_if_ne 18 dX12_shift_13 (by decide) (fun h13 => ?_) (fun h13 => ?_)
    · have hq1 := b2i_ne h5
      obtain ⟨t, ht5, rfl⟩ := rngI 5 (by omega) hq1.1 hq1.2
      have ht : t < 6 := by omega
      have e1 : (nI t).toNatClampNeg = t := nI_clamp (by omega)
      have hvt : vp_in (nI t) 6 := vp_in_nI ht (by omega)
      obtain ⟨hts, htz, htl⟩ := hr.tp t ht
      have hkz := hr.tz t ht
      have hz6 : gZ σ t ≤ 60 := by rcases hkz with ⟨_, q⟩ | ⟨_, q⟩ <;> omega
      have hsg := sg_iff (x := gS σ t) (by rcases hkz with ⟨q, _⟩ | ⟨q, _⟩; exact Or.inl q; exact Or.inr q)
      have hq2 := b2i_ne h13
      obtain ⟨o, ho5, rfl⟩ := rngI 5 (by omega) hq2.1 hq2.2
      have ho : o < 6 := by omega
      have f1 : (nI o).toNatClampNeg = o := nI_clamp (by omega)
      have hvo : vp_in (nI o) 6 := vp_in_nI ho (by omega)
      obtain ⟨hos, hoz, hol⟩ := hr.tp o ho
      have hko := hr.tz o ho
      have hy6 : gZ σ o ≤ 60 := by rcases hko with ⟨_, q⟩ | ⟨_, q⟩ <;> omega
      have hog := sg_iff (x := gS σ o) (by rcases hko with ⟨q, _⟩ | ⟨q, _⟩; exact Or.inl q; exact Or.inr q)
      have hq3 : (0 ≤ nI t ∧ nI t ≤ 5) ∧ (0 ≤ nI o ∧ nI o ≤ 5) := ⟨hq1, hq2⟩
      refine rx_aload_n dX12_shift_18 rfl ?_
      refine rx_getR dX12_shift_19 flX12_223 (sM_0) rfl ?_
      refine rx_iload_n dX12_shift_22 rfl ?_
      refine rx_iaload dX12_shift_23 (sM_43) hvt ?_
      rw [e1, hts]
      refine rx_if_lt 36 dX12_shift_24 (by decide) (fun h24 => ?_) (fun h24 => ?_)
      · refine rx_bipush (-11) dX12_shift_36 (by decide) ?_
        exact rx_iret dX12_shift_38 rfl ⟨Nat.le_refl _, Nat.le_refl _⟩ ⟨rfl, _, rfl, ⟨by unfold aShift; rw [if_neg (fun q => q hq3), e1, f1, if_pos (by first | exact Or.inl (Decidable.not_not.mp (fun q => Int32.not_le.mpr h24 (hsg.mpr q))) | exact Or.inr (Decidable.not_not.mp (fun q => h33 (hog.mpr q))))], by unfold nShift; rw [if_neg (fun q => q hq3), e1, f1, if_pos (by first | exact Or.inl (Decidable.not_not.mp (fun q => Int32.not_le.mpr h24 (hsg.mpr q))) | exact Or.inr (Decidable.not_not.mp (fun q => h33 (hog.mpr q))))]; exact hr⟩⟩
      · refine rx_aload_n dX12_shift_27 rfl ?_
        refine rx_getR dX12_shift_28 flX12_223 (sM_0) rfl ?_
        refine rx_iload_n dX12_shift_31 rfl ?_
        refine rx_iaload dX12_shift_32 (sM_43) hvo ?_
        rw [f1, hos]
        refine rx_if_ge 39 dX12_shift_33 (by decide) (fun h33 => ?_) (fun h33 => ?_)
        · refine rx_aload_n dX12_shift_39 rfl ?_
          refine rx_getR dX12_shift_40 flX12_223 (sM_0) rfl ?_
          refine rx_iload_n dX12_shift_43 rfl ?_
          refine rx_iaload dX12_shift_44 (sM_43) hvt ?_
          rw [e1, hts]
          refine rx_aload_n dX12_shift_45 rfl ?_
          refine rx_getR dX12_shift_46 flX12_223 (sM_0) rfl ?_
          refine rx_iload_n dX12_shift_49 rfl ?_
          refine rx_iaload dX12_shift_50 (sM_43) hvo ?_
          rw [f1, hos]
          refine rx_icmp_eq 57 dX12_shift_51 (by decide) (fun h51 => ?_) (fun h51 => ?_)
          · refine rx_iload dX12_shift_57 rfl ?_
            refine rx_if_lt 98 dX12_shift_59 (by decide) (fun h59 => ?_) (fun h59 => ?_)
            · have hno : ¬ (0 ≤ n.toInt ∧ 0 ≤ i.toInt ∧ 0 ≤ j.toInt ∧ i.toInt + n.toInt ≤ gZ σ t ∧ j.toInt + n.toInt ≤ gZ σ o) := by
                rintro ⟨p1, p2, p3, p4, p5⟩
                first
                  | exact neg_no h59 p1
                  | exact neg_no h63 p2
                  | exact neg_no h68 p3
                  | exact absurd ((le_sub hz6 (Int32.not_lt.mp h59)).mpr p4) (Int32.not_le.mpr h81)
                  | exact h95 ((le_sub hy6 (Int32.not_lt.mp h59)).mpr p5)
              refine rx_bipush (-13) dX12_shift_98 (by decide) ?_
              exact rx_iret dX12_shift_100 rfl ⟨Nat.le_refl _, Nat.le_refl _⟩ ⟨rfl, _, rfl, ⟨by unfold aShift; rw [if_neg (fun q => q hq3), e1, f1, if_neg (by rintro (q | q); exact hsg.mp (Int32.not_lt.mp h24) q; exact hog.mp h33 q), if_neg (fun q => q h51), if_neg hno], by unfold nShift; rw [if_neg (fun q => q hq3), e1, f1, if_neg (by rintro (q | q); exact hsg.mp (Int32.not_lt.mp h24) q; exact hog.mp h33 q), if_neg (fun q => q h51), if_neg hno]; exact hr⟩⟩
            · refine rx_iload_n dX12_shift_62 rfl ?_
              refine rx_if_lt 98 dX12_shift_63 (by decide) (fun h63 => ?_) (fun h63 => ?_)
              · have hno : ¬ (0 ≤ n.toInt ∧ 0 ≤ i.toInt ∧ 0 ≤ j.toInt ∧ i.toInt + n.toInt ≤ gZ σ t ∧ j.toInt + n.toInt ≤ gZ σ o) := by
                  rintro ⟨p1, p2, p3, p4, p5⟩
                  first
                    | exact neg_no h59 p1
                    | exact neg_no h63 p2
                    | exact neg_no h68 p3
                    | exact absurd ((le_sub hz6 (Int32.not_lt.mp h59)).mpr p4) (Int32.not_le.mpr h81)
                    | exact h95 ((le_sub hy6 (Int32.not_lt.mp h59)).mpr p5)
                refine rx_bipush (-13) dX12_shift_98 (by decide) ?_
                exact rx_iret dX12_shift_100 rfl ⟨Nat.le_refl _, Nat.le_refl _⟩ ⟨rfl, _, rfl, ⟨by unfold aShift; rw [if_neg (fun q => q hq3), e1, f1, if_neg (by rintro (q | q); exact hsg.mp (Int32.not_lt.mp h24) q; exact hog.mp h33 q), if_neg (fun q => q h51), if_neg hno], by unfold nShift; rw [if_neg (fun q => q hq3), e1, f1, if_neg (by rintro (q | q); exact hsg.mp (Int32.not_lt.mp h24) q; exact hog.mp h33 q), if_neg (fun q => q h51), if_neg hno]; exact hr⟩⟩
              · refine rx_iload dX12_shift_66 rfl ?_
                refine rx_if_lt 98 dX12_shift_68 (by decide) (fun h68 => ?_) (fun h68 => ?_)
                · have hno : ¬ (0 ≤ n.toInt ∧ 0 ≤ i.toInt ∧ 0 ≤ j.toInt ∧ i.toInt + n.toInt ≤ gZ σ t ∧ j.toInt + n.toInt ≤ gZ σ o) := by
                    rintro ⟨p1, p2, p3, p4, p5⟩
                    first
                      | exact neg_no h59 p1
                      | exact neg_no h63 p2
                      | exact neg_no h68 p3
                      | exact absurd ((le_sub hz6 (Int32.not_lt.mp h59)).mpr p4) (Int32.not_le.mpr h81)
                      | exact h95 ((le_sub hy6 (Int32.not_lt.mp h59)).mpr p5)
                  refine rx_bipush (-13) dX12_shift_98 (by decide) ?_
                  exact rx_iret dX12_shift_100 rfl ⟨Nat.le_refl _, Nat.le_refl _⟩ ⟨rfl, _, rfl, ⟨by unfold aShift; rw [if_neg (fun q => q hq3), e1, f1, if_neg (by rintro (q | q); exact hsg.mp (Int32.not_lt.mp h24) q; exact hog.mp h33 q), if_neg (fun q => q h51), if_neg hno], by unfold nShift; rw [if_neg (fun q => q hq3), e1, f1, if_neg (by rintro (q | q); exact hsg.mp (Int32.not_lt.mp h24) q; exact hog.mp h33 q), if_neg (fun q => q h51), if_neg hno]; exact hr⟩⟩
                · refine rx_iload_n dX12_shift_71 rfl ?_
                  refine rx_aload_n dX12_shift_72 rfl ?_
                  refine rx_getR dX12_shift_73 flX12_226 (sM_0) rfl ?_
                  refine rx_iload_n dX12_shift_76 rfl ?_
                  refine rx_iaload dX12_shift_77 (sM_44) hvt ?_
                  rw [e1, htz]
                  refine rx_iload dX12_shift_78 rfl ?_
                  refine rx_isub dX12_shift_80 ?_
                  refine rx_icmp_gt 98 dX12_shift_81 (by decide) (fun h81 => ?_) (fun h81 => ?_)
                  · have hno : ¬ (0 ≤ n.toInt ∧ 0 ≤ i.toInt ∧ 0 ≤ j.toInt ∧ i.toInt + n.toInt ≤ gZ σ t ∧ j.toInt + n.toInt ≤ gZ σ o) := by
                      rintro ⟨p1, p2, p3, p4, p5⟩
                      first
                        | exact neg_no h59 p1
                        | exact neg_no h63 p2
                        | exact neg_no h68 p3
                        | exact absurd ((le_sub hz6 (Int32.not_lt.mp h59)).mpr p4) (Int32.not_le.mpr h81)
                        | exact h95 ((le_sub hy6 (Int32.not_lt.mp h59)).mpr p5)
                    refine rx_bipush (-13) dX12_shift_98 (by decide) ?_
                    exact rx_iret dX12_shift_100 rfl ⟨Nat.le_refl _, Nat.le_refl _⟩ ⟨rfl, _, rfl, ⟨by unfold aShift; rw [if_neg (fun q => q hq3), e1, f1, if_neg (by rintro (q | q); exact hsg.mp (Int32.not_lt.mp h24) q; exact hog.mp h33 q), if_neg (fun q => q h51), if_neg hno], by unfold nShift; rw [if_neg (fun q => q hq3), e1, f1, if_neg (by rintro (q | q); exact hsg.mp (Int32.not_lt.mp h24) q; exact hog.mp h33 q), if_neg (fun q => q h51), if_neg hno]; exact hr⟩⟩
                  · refine rx_iload dX12_shift_84 rfl ?_
                    refine rx_aload_n dX12_shift_86 rfl ?_
                    refine rx_getR dX12_shift_87 flX12_226 (sM_0) rfl ?_
                    refine rx_iload_n dX12_shift_90 rfl ?_
                    refine rx_iaload dX12_shift_91 (sM_44) hvo ?_
                    rw [f1, hoz]
                    refine rx_iload dX12_shift_92 rfl ?_
                    refine rx_isub dX12_shift_94 ?_
                    refine rx_icmp_le 101 dX12_shift_95 (by decide) (fun h95 => ?_) (fun h95 => ?_)
                    · have hyes : 0 ≤ n.toInt ∧ 0 ≤ i.toInt ∧ 0 ≤ j.toInt ∧ i.toInt + n.toInt ≤ gZ σ t ∧ j.toInt + n.toInt ≤ gZ σ o := ⟨nneg h59, nneg h63, nneg h68, (le_sub hz6 (Int32.not_lt.mp h59)).mp (Int32.not_lt.mp h81), (le_sub hy6 (Int32.not_lt.mp h59)).mp h95⟩
                      have ea : aShift σ (nI t) i (nI o) j n = n := by unfold aShift; rw [if_neg (fun q => q hq3), e1, f1, if_neg (by rintro (q | q); exact hsg.mp (Int32.not_lt.mp h24) q; exact hog.mp h33 q), if_neg (fun q => q h51), if_pos hyes]
                      have en : nShift σ (nI t) i (nI o) j n = wTp σ o (gS σ o) (gZ σ o) (va_cpy (gL σ t) (gL σ o) i.toNatClampNeg j.toNatClampNeg n.toNatClampNeg) := by unfold nShift; rw [if_neg (fun q => q hq3), e1, f1, if_neg (by rintro (q | q); exact hsg.mp (Int32.not_lt.mp h24) q; exact hog.mp h33 q), if_neg (fun q => q h51), if_pos hyes]
                      rw [en] at hok ⊢
                      rw [ea]
                      obtain ⟨m, hm, rfl, hm2, hm3⟩ := nI_ofN h59
                      obtain ⟨a, ha, rfl, ha2, ha3⟩ := nI_ofN h63
                      obtain ⟨b, hb, rfl, hb2, hb3⟩ := nI_ofN h68
                      rw [hm3, ha3, hb3] at hok ⊢
                      have hat : a + m ≤ gZ σ t := by have := hyes.2.2.2.1; omega
                      have hbo : b + m ≤ gZ σ o := by have := hyes.2.2.2.2; omega
                      refine rx_iconst (0) dX12_shift_101 (by decide) ?_
                      refine rx_istore_6 rfl dX12_shift_102 ?_
                      have loop1 : ∀ (r c : Nat) (L1 : LL), c + r = m → ((∀ k, k < c → L1 46 k = L 45 (60 * t + a + k)) ∧ ∀ j, j ≠ 46 → L1 j = L j) → Rx g 2 0 0 mX12_shift SHM.length (fun r sh' S' L' => sh' = SHM ∧ ∃ x, r = some (.int x) ∧ (x = (nI m) ∧ MRel S' L' (wTp σ o (gS σ o) (gZ σ o) (va_cpy (gL σ t) (gL σ o) a b m)))) 0 0 104 [some (.ref 0), some (.int (nI t)), some (.int (nI a)), some (.int (nI o)), some (.int (nI b)), some (.int (nI m)), some (.int (nI c))] [] SHM S L1 := by
                        intro r
                        induction r with
                        | zero =>
                          intro c L1 hc hI
                          refine rx_iload dX12_shift_104 rfl ?_
                          refine rx_iload dX12_shift_106 rfl ?_
                          refine rx_icmp_ge 138 dX12_shift_108 (by decide) (fun h108 => ?_) (fun h108 => absurd (nI_le (by omega) (by omega)) h108)
                          have hA : ∀ k, k < m → L1 46 k = L 45 (60 * t + a + k) := fun k hk => hI.1 k (by omega)
                          have hB : ∀ x, L1 45 x = L 45 x := fun x => by rw [hI.2 45 (by decide)]
                          have loop2 : ∀ (r c : Nat) (L2 : LL), c + r = m → ((∀ j, j ≠ 45 → L2 j = L1 j) ∧ ∀ x, L2 45 x = if 60 * o + b ≤ x ∧ x < 60 * o + b + c then L 45 (60 * t + a + (x - (60 * o + b))) else L1 45 x) → Rx g 2 0 0 mX12_shift SHM.length (fun r sh' S' L' => sh' = SHM ∧ ∃ x, r = some (.int x) ∧ (x = (nI m) ∧ MRel S' L' (wTp σ o (gS σ o) (gZ σ o) (va_cpy (gL σ t) (gL σ o) a b m)))) 0 0 141 [some (.ref 0), some (.int (nI t)), some (.int (nI a)), some (.int (nI o)), some (.int (nI b)), some (.int (nI m)), some (.int (nI c))] [] SHM S L2 := by
                            intro r
                            induction r with
                            | zero =>
                              intro c L2 hc hI
                              have hcm : m = c := by omega
                              subst hcm
                              refine rx_iload dX12_shift_141 rfl ?_
                              refine rx_iload dX12_shift_143 rfl ?_
                              refine rx_icmp_ge 176 dX12_shift_145 (by decide) (fun h145 => ?_) (fun h145 => absurd (nI_le (by omega) (by omega)) h145)
                              refine rx_iload dX12_shift_176 rfl ?_
                              exact rx_iret dX12_shift_178 rfl ⟨Nat.le_refl _, Nat.le_refl _⟩ ⟨rfl, _, rfl, ⟨rfl, hr.tape o _ _ _ hok (fun _ _ _ => rfl) (fun q hq => by by_cases e : q = o; (rw [e, pk_us]; exact hos); (rw [pk_un e])) (fun q hq => by by_cases e : q = o; (rw [e, pk_us]; exact hoz); (rw [pk_un e])) (fun q hq hn i2 hi2 => by rw [hI.2, if_neg (by omega)]; exact hB _) (fun i2 hi2 => by
                                rw [hI.2]
                                by_cases e : b ≤ i2 ∧ i2 < b + m
                                · rw [if_pos (by omega), pk_cpy_in e.1 e.2, ← htl (a + (i2 - b)) (by omega)]
                                  congr 1
                                  omega
                                · rw [if_neg (by omega), pk_cpy_out (by omega), hB]
                                  exact hol i2 hi2)⟩⟩
                            | succ r ih =>
                              intro c L2 hc hI
                              have hci : (nI c).toNatClampNeg = c := nI_clamp (by omega)
                              have hvc : vp_in (nI c) 60 := vp_in_nI (by omega) (by omega)
                              have hvx : vp_in (nI (60 * o + b + c)) 360 := vp_in_nI (by omega) (by omega)
                              have hxc : (nI (60 * o + b + c)).toNatClampNeg = 60 * o + b + c := nI_clamp (by omega)
                              refine rx_iload dX12_shift_141 rfl ?_
                              refine rx_iload dX12_shift_143 rfl ?_
                              refine rx_icmp_ge 176 dX12_shift_145 (by decide) (fun h145 => absurd h145 (nI_ge (by omega) (by omega))) (fun h145 => ?_)
                              refine rx_aload_n dX12_shift_148 rfl ?_
                              refine rx_getR dX12_shift_149 flX12_229 (sM_0) rfl ?_
                              refine rx_bipush (60) dX12_shift_152 (by decide) ?_
                              refine rx_iload_n dX12_shift_154 rfl ?_
                              refine rx_imul dX12_shift_155 ?_
                              refine rx_iload dX12_shift_156 rfl ?_
                              refine rx_iadd dX12_shift_158 ?_
                              refine rx_iload dX12_shift_159 rfl ?_
                              refine rx_iadd dX12_shift_161 ?_
                              rw [ix60, nI_add]
                              refine rx_aload_n dX12_shift_162 rfl ?_
                              refine rx_getR dX12_shift_163 flX12_233 (sM_0) rfl ?_
                              refine rx_iload dX12_shift_166 rfl ?_
                              refine rx_laload dX12_shift_168 (sM_46) hvc ?_
                              rw [hci, (congrFun (hI.1 46 (by decide)) c).trans (hA c (by omega))]
                              refine rx_lastore dX12_shift_169 (sM_45) hvx ?_
                              rw [hxc]
                              refine rx_iinc_6 (1) rfl dX12_shift_170 (by decide) ?_
                              refine rx_goto 141 dX12_shift_173 (by decide) ?_
                              rw [nI_1]
                              refine ih (c + 1) _ (by omega) ⟨fun j hj => (upL_off _ _ _ _ hj).trans (hI.1 j hj), fun x => ?_⟩
                              rw [upL_row]
                              unfold vp_updL
                              by_cases e : x = 60 * o + b + c
                              · rw [if_pos e, if_pos (by omega)]
                                congr 1
                                omega
                              · rw [if_neg e, hI.2 x]
                                by_cases e2 : 60 * o + b ≤ x ∧ x < 60 * o + b + c
                                · rw [if_pos e2, if_pos (by omega)]
                                · rw [if_neg e2, if_neg (by omega)]
                          refine rx_iconst (0) dX12_shift_138 (by decide) ?_
                          refine rx_istore_6 rfl dX12_shift_139 ?_
                          exact loop2 m 0 L1 (by omega) ⟨fun _ _ => rfl, fun x => by rw [if_neg (by omega)]⟩
                        | succ r ih =>
                          intro c L1 hc hI
                          have hci : (nI c).toNatClampNeg = c := nI_clamp (by omega)
                          have hvc : vp_in (nI c) 60 := vp_in_nI (by omega) (by omega)
                          have hvx : vp_in (nI (60 * t + a + c)) 360 := vp_in_nI (by omega) (by omega)
                          have hxc : (nI (60 * t + a + c)).toNatClampNeg = 60 * t + a + c := nI_clamp (by omega)
                          refine rx_iload dX12_shift_104 rfl ?_
                          refine rx_iload dX12_shift_106 rfl ?_
                          refine rx_icmp_ge 138 dX12_shift_108 (by decide) (fun h108 => absurd h108 (nI_ge (by omega) (by omega))) (fun h108 => ?_)
                          refine rx_aload_n dX12_shift_111 rfl ?_
                          refine rx_getR dX12_shift_112 flX12_233 (sM_0) rfl ?_
                          refine rx_iload dX12_shift_115 rfl ?_
                          refine rx_aload_n dX12_shift_117 rfl ?_
                          refine rx_getR dX12_shift_118 flX12_229 (sM_0) rfl ?_
                          refine rx_bipush (60) dX12_shift_121 (by decide) ?_
                          refine rx_iload_n dX12_shift_123 rfl ?_
                          refine rx_imul dX12_shift_124 ?_
                          refine rx_iload_n dX12_shift_125 rfl ?_
                          refine rx_iadd dX12_shift_126 ?_
                          refine rx_iload dX12_shift_127 rfl ?_
                          refine rx_iadd dX12_shift_129 ?_
                          rw [ix60, nI_add]
                          refine rx_laload dX12_shift_130 (sM_45) hvx ?_
                          rw [hxc, hI.2 45 (by decide)]
                          refine rx_lastore dX12_shift_131 (sM_46) hvc ?_
                          rw [hci]
                          refine rx_iinc_6 (1) rfl dX12_shift_132 (by decide) ?_
                          refine rx_goto 104 dX12_shift_135 (by decide) ?_
                          rw [nI_1]
                          refine ih (c + 1) _ (by omega) ⟨fun k hk => ?_, fun j hj => (upL_off _ _ _ _ hj).trans (hI.2 j hj)⟩
                          rw [upL_row]
                          unfold vp_updL
                          by_cases e : k = c
                          · rw [if_pos e, e]
                          · rw [if_neg e]; exact hI.1 k (by omega)
                      exact loop1 m 0 L (by omega) ⟨fun k hk => absurd hk (by omega), fun _ _ => rfl⟩
                    · have hno : ¬ (0 ≤ n.toInt ∧ 0 ≤ i.toInt ∧ 0 ≤ j.toInt ∧ i.toInt + n.toInt ≤ gZ σ t ∧ j.toInt + n.toInt ≤ gZ σ o) := by
                        rintro ⟨p1, p2, p3, p4, p5⟩
                        first
                          | exact neg_no h59 p1
                          | exact neg_no h63 p2
                          | exact neg_no h68 p3
                          | exact absurd ((le_sub hz6 (Int32.not_lt.mp h59)).mpr p4) (Int32.not_le.mpr h81)
                          | exact h95 ((le_sub hy6 (Int32.not_lt.mp h59)).mpr p5)
                      refine rx_bipush (-13) dX12_shift_98 (by decide) ?_
                      exact rx_iret dX12_shift_100 rfl ⟨Nat.le_refl _, Nat.le_refl _⟩ ⟨rfl, _, rfl, ⟨by unfold aShift; rw [if_neg (fun q => q hq3), e1, f1, if_neg (by rintro (q | q); exact hsg.mp (Int32.not_lt.mp h24) q; exact hog.mp h33 q), if_neg (fun q => q h51), if_neg hno], by unfold nShift; rw [if_neg (fun q => q hq3), e1, f1, if_neg (by rintro (q | q); exact hsg.mp (Int32.not_lt.mp h24) q; exact hog.mp h33 q), if_neg (fun q => q h51), if_neg hno]; exact hr⟩⟩
          · refine rx_bipush (-12) dX12_shift_54 (by decide) ?_
            exact rx_iret dX12_shift_56 rfl ⟨Nat.le_refl _, Nat.le_refl _⟩ ⟨rfl, _, rfl, ⟨by unfold aShift; rw [if_neg (fun q => q hq3), e1, f1, if_neg (by rintro (q | q); exact hsg.mp (Int32.not_lt.mp h24) q; exact hog.mp h33 q), if_pos h51], by unfold nShift; rw [if_neg (fun q => q hq3), e1, f1, if_neg (by rintro (q | q); exact hsg.mp (Int32.not_lt.mp h24) q; exact hog.mp h33 q), if_pos h51]; exact hr⟩⟩
        · refine rx_bipush (-11) dX12_shift_36 (by decide) ?_
          exact rx_iret dX12_shift_38 rfl ⟨Nat.le_refl _, Nat.le_refl _⟩ ⟨rfl, _, rfl, ⟨by unfold aShift; rw [if_neg (fun q => q hq3), e1, f1, if_pos (by first | exact Or.inl (Decidable.not_not.mp (fun q => Int32.not_le.mpr h24 (hsg.mpr q))) | exact Or.inr (Decidable.not_not.mp (fun q => h33 (hog.mpr q))))], by unfold nShift; rw [if_neg (fun q => q hq3), e1, f1, if_pos (by first | exact Or.inl (Decidable.not_not.mp (fun q => Int32.not_le.mpr h24 (hsg.mpr q))) | exact Or.inr (Decidable.not_not.mp (fun q => h33 (hog.mpr q))))]; exact hr⟩⟩
    · refine rx_iconst (-1) dX12_shift_16 (by decide) ?_
      exact rx_iret dX12_shift_17 rfl ⟨Nat.le_refl _, Nat.le_refl _⟩ ⟨rfl, _, rfl, ⟨by unfold aShift; rw [if_pos (by first | exact fun q => b2i_eq h5 q.1 | exact fun q => b2i_eq h13 q.2)], by unfold nShift; rw [if_pos (by first | exact fun q => b2i_eq h5 q.1 | exact fun q => b2i_eq h13 q.2)]; exact hr⟩⟩
