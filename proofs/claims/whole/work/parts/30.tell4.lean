-- TRACE, LOOKED
def aTrace (σ : SIG) (i : Int32) : Int32 := if 0 ≤ i ∧ i < nI (gR σ) ∧ i < 20 then gB σ i.toNatClampNeg else -1
def bkL (a : Nat → Int32) : List (Nat × Nat) → Nat → Int32
  | [], _ => -5
  | q :: l, i => if a q.1 = nI q.2 then bkL a l (i + 1) else nI i
def aLooked (σ : SIG) : Int32 := bkL (dA (gD σ)) (sBk (gN σ)) 0
-- COUNT
def aCount (σ : SIG) (w : Int32) : Int32 := if w.toInt < 0 ∨ 5 < w.toInt then -2 else (match w.toNatClampNeg with
  | 0 => nI (nN σ)
  | 1 => nI (gC σ)
  | 2 => nI (sSn (gN σ)).length
  | 3 => nI (sBk (gN σ)).length
  | 4 => nI (gT σ).length
  | _ => nI (gR σ))

set_option maxRecDepth 20000 in
set_option maxHeartbeats 1000000 in
theorem cc_trace (g : GG) (σ : SIG) (i : Int32) (S : SS) (L : LL) (hr : CRel S L σ) : Ci g 1 mX11_trace [.ref 0, .int i] SHC S L (fun r S' L' => r = aTrace σ i ∧ CRel S' L' σ) := by
  refine ct_of (ls := [some (.ref 0), some (.int i)]) 0 (by decide +kernel) rfl rfl ?_
  refine rx_iload_n dX11_trace_0 rfl ?_
  refine rx_if_lt 21 dX11_trace_1 (by decide) (fun h1 => ?_) (fun h1 => ?_)
  · refine rx_iconst (-1) dX11_trace_21 (by decide) ?_
    have hno : ¬ (0 ≤ i ∧ i < nI (gR σ) ∧ i < 20) := by first | exact fun q => Int32.not_lt.mpr q.1 h1 | exact fun q => Int32.not_lt.mpr h12 q.2.1 | exact fun q => h18 q.2.2
    exact rx_iret dX11_trace_22 rfl ⟨Nat.le_refl _, Nat.le_refl _⟩ ⟨rfl, _, rfl, ⟨(if_neg hno).symm, hr⟩⟩
  · refine rx_iload_n dX11_trace_4 rfl ?_
    refine rx_aload_n dX11_trace_5 rfl ?_
    refine rx_getR dX11_trace_6 flX11_76 (sC_0) rfl ?_
    refine rx_getI dX11_trace_9 flX11_243 (sC_97) rfl ?_
    rw [hr.2.2.2.2.2.2.2.2.1]
    refine rx_icmp_ge 21 dX11_trace_12 (by decide) (fun h12 => ?_) (fun h12 => ?_)
    · refine rx_iconst (-1) dX11_trace_21 (by decide) ?_
      have hno : ¬ (0 ≤ i ∧ i < nI (gR σ) ∧ i < 20) := by first | exact fun q => Int32.not_lt.mpr q.1 h1 | exact fun q => Int32.not_lt.mpr h12 q.2.1 | exact fun q => h18 q.2.2
      exact rx_iret dX11_trace_22 rfl ⟨Nat.le_refl _, Nat.le_refl _⟩ ⟨rfl, _, rfl, ⟨(if_neg hno).symm, hr⟩⟩
    · refine rx_iload_n dX11_trace_15 rfl ?_
      refine rx_bipush (20) dX11_trace_16 (by decide) ?_
      refine rx_icmp_lt 23 dX11_trace_18 (by decide) (fun h18 => ?_) (fun h18 => ?_)
      · have hyes : 0 ≤ i ∧ i < nI (gR σ) ∧ i < 20 := ⟨Int32.not_lt.mp h1, Int32.not_le.mp h12, h18⟩
        obtain ⟨k, hk, rfl⟩ := rngL 20 (by omega) hyes.1 hyes.2.2
        have e1 : (nI k).toNatClampNeg = k := nI_clamp (by omega)
        have hvk : vp_in (nI k) 20 := vp_in_nI hk (by omega)
        have hgr : gR σ ≤ 100 := hr.1.2.2.2.2.2.2.2.2.1
        refine rx_aload_n dX11_trace_23 rfl ?_
        refine rx_getR dX11_trace_24 flX11_76 (sC_0) rfl ?_
        refine rx_getR dX11_trace_27 flX11_261 (sC_97) rfl ?_
        refine rx_iload_n dX11_trace_30 rfl ?_
        refine rx_iaload dX11_trace_31 (sC_98) hvk ?_
        rw [e1]
        exact rx_iret dX11_trace_32 rfl ⟨Nat.le_refl _, Nat.le_refl _⟩ ⟨rfl, _, rfl, ⟨by unfold aTrace; rw [if_pos hyes, e1]; exact hr.2.2.2.2.2.2.2.2.2.1 k hk ((nI_ltI (by omega) (by omega)).mp hyes.2.1), hr⟩⟩
      · refine rx_iconst (-1) dX11_trace_21 (by decide) ?_
        have hno : ¬ (0 ≤ i ∧ i < nI (gR σ) ∧ i < 20) := by first | exact fun q => Int32.not_lt.mpr q.1 h1 | exact fun q => Int32.not_lt.mpr h12 q.2.1 | exact fun q => h18 q.2.2
        exact rx_iret dX11_trace_22 rfl ⟨Nat.le_refl _, Nat.le_refl _⟩ ⟨rfl, _, rfl, ⟨(if_neg hno).symm, hr⟩⟩
set_option maxRecDepth 20000 in
set_option maxHeartbeats 400000 in
theorem cc_looked (g : GG) (σ : SIG) (S : SS) (L : LL) (hr : CRel S L σ) : Ci g 1 mX11_looked [.ref 0] SHC S L (fun r S' L' => r = aLooked σ ∧ CRel S' L' σ) := by
  refine ct_of (ls := [some (.ref 0), none, none]) 2 (by decide +kernel) rfl rfl ?_
  refine rx_iconst (0) dX11_looked_0 (by decide) ?_
  refine rx_istore_1 rfl dX11_looked_1 ?_
  have hn7 : nN σ ≤ 7 := hr.n7
  have hbk : (sBk (gN σ)).length ≤ 8 := hr.1.1.2.2.2.2.2.2
  have hb17 : S 53 17 = nI (sBk (gN σ)).length := hr.2.1.2.2.2.1
  have loop : ∀ (r i : Nat), i + r = (sBk (gN σ)).length → bkL (dA (gD σ)) ((sBk (gN σ)).drop i) i = bkL (dA (gD σ)) (sBk (gN σ)) 0 → Rx g 1 0 0 mX11_looked SHC.length (fun r sh' S' L' => sh' = SHC ∧ ∃ x, r = some (.int x) ∧ (x = aLooked σ ∧ CRel S' L' σ)) 0 0 2 [some (.ref 0), some (.int (nI i)), none] [] SHC S L := by
    intro r
    induction r with
    | zero =>
      intro i he hev
      refine rx_iload_n dX11_looked_2 rfl ?_
      refine rx_aload_n dX11_looked_3 rfl ?_
      refine rx_getR dX11_looked_4 flX11_54 (sC_0) rfl ?_
      refine rx_getI dX11_looked_7 flX11_224 (sC_53) rfl ?_
      rw [hb17]
      refine rx_icmp_ge 63 dX11_looked_10 (by decide) (fun h10 => ?_) (fun h10 => absurd (nI_le (by omega) (by omega)) h10)
      refine rx_bipush (-5) dX11_looked_63 (by decide) ?_
      exact rx_iret dX11_looked_65 rfl ⟨Nat.le_refl _, Nat.le_refl _⟩ ⟨rfl, _, rfl, ⟨by unfold aLooked; rw [← hev, List.drop_of_length_le (by omega)]; rfl, hr⟩⟩
    | succ r ih =>
      intro i he hev
      have hic : (nI i).toNatClampNeg = i := nI_clamp (by omega)
      have hvi : vp_in (nI i) 8 := vp_in_nI (by omega) (by omega)
      obtain ⟨q0, hqi⟩ : ∃ q, (sBk (gN σ))[i]? = some q := ⟨_, List.getElem?_eq_getElem (by omega)⟩
      have hdr : (sBk (gN σ)).drop i = q0 :: (sBk (gN σ)).drop (i + 1) := by
        obtain ⟨g1, g2⟩ := List.getElem?_eq_some_iff.mp hqi
        rw [List.drop_eq_getElem_cons g1, g2]
      obtain ⟨hq1, hq2⟩ : S 64 i = nI q0.1 ∧ S 65 i = nI q0.2 := hr.2.1.2.2.2.2 i q0 hqi
      have hsq : q0.1 < nN σ ∧ q0.2 ≤ 99 := hr.1.1.2.2.2.2.1 q0 (List.mem_of_getElem? hqi)
      have hq7 : q0.1 < 7 := by omega
      have hqc : (nI q0.1).toNatClampNeg = q0.1 := nI_clamp (by omega)
      have hvq : vp_in (nI q0.1) 7 := vp_in_nI hq7 (by omega)
      refine rx_iload_n dX11_looked_2 rfl ?_
      refine rx_aload_n dX11_looked_3 rfl ?_
      refine rx_getR dX11_looked_4 flX11_54 (sC_0) rfl ?_
      refine rx_getI dX11_looked_7 flX11_224 (sC_53) rfl ?_
      rw [hb17]
      refine rx_icmp_ge 63 dX11_looked_10 (by decide) (fun h10 => absurd h10 (nI_ge (by omega) (by omega))) (fun h10 => ?_)
      refine rx_aload_n dX11_looked_13 rfl ?_
      refine rx_getR dX11_looked_14 flX11_54 (sC_0) rfl ?_
      refine rx_getR dX11_looked_17 flX11_230 (sC_53) rfl ?_
      refine rx_iload_n dX11_looked_20 rfl ?_
      refine rx_iaload dX11_looked_21 (sC_64) hvi ?_
      rw [hic, hq1]
      refine rx_istore_2 rfl dX11_looked_22 ?_
      refine rx_aload_n dX11_looked_23 rfl ?_
      refine rx_getR dX11_looked_24 flX11_54 (sC_0) rfl ?_
      refine rx_iload_n dX11_looked_27 rfl ?_
      refine rx_cVi_1 clX11_104 dX11_looked_28 (rcvo (sC_53) rfl) rfl (c_has g S53 _ S L) ?_
      refine pur3 ?_
      refine rx_if_eq 57 dX11_looked_31 (by decide) (fun h31 => absurd h31 (fun w => b2i_eq w ⟨nI_le (a := 0) (Nat.zero_le _) (by omega), by rw [show S 53 6 = nI (nN σ) from hr.sc.1]; exact nI_lt hsq.1 (by omega)⟩)) (fun h31 => ?_)
      refine rx_aload_n dX11_looked_34 rfl ?_
      refine rx_getR dX11_looked_35 flX11_54 (sC_0) rfl ?_
      refine rx_getR dX11_looked_38 flX11_118 (sC_53) rfl ?_
      refine rx_iload_n dX11_looked_41 rfl ?_
      refine rx_iaload dX11_looked_42 (sC_56) (by assumption) ?_
      rw [hqc, show S 56 q0.1 = dA (gD σ) q0.1 from hr.sc.a hq7]
      refine rx_aload_n dX11_looked_43 rfl ?_
      refine rx_getR dX11_looked_44 flX11_54 (sC_0) rfl ?_
      refine rx_getR dX11_looked_47 flX11_233 (sC_53) rfl ?_
      refine rx_iload_n dX11_looked_50 rfl ?_
      refine rx_iaload dX11_looked_51 (sC_65) hvi ?_
      rw [hic, hq2]
      refine rx_icmp_eq 57 dX11_looked_52 (by decide) (fun h52 => ?_) (fun h52 => ?_)
      · refine rx_iinc_1 (1) rfl dX11_looked_57 (by decide) ?_
        refine rx_goto 2 dX11_looked_60 (by decide) ?_
        refine rx_wk [some (.ref 0), some (.int _), none] ⟨Or.inr rfl, Or.inr rfl, Or.inl rfl, trivial⟩ ?_
        rw [nI_1]
        exact ih (i + 1) (by omega) (by rw [← hev, hdr]; exact (if_pos h52).symm)
      · refine rx_iload_n dX11_looked_55 rfl ?_
        exact rx_iret dX11_looked_56 rfl ⟨Nat.le_refl _, Nat.le_refl _⟩ ⟨rfl, _, rfl, ⟨by unfold aLooked; rw [← hev, hdr]; exact (if_neg h52).symm, hr⟩⟩
  exact loop (sBk (gN σ)).length 0 (by omega) rfl
set_option maxRecDepth 20000 in
set_option maxHeartbeats 1000000 in
theorem cc_count (g : GG) (σ : SIG) (what : Int32) (S : SS) (L : LL) (hr : CRel S L σ) : Ci g 1 mX11_count [.ref 0, .int what] SHC S L (fun r S' L' => r = aCount σ what ∧ CRel S' L' σ) := by
  refine ct_of (ls := [some (.ref 0), some (.int what)]) 0 (by decide +kernel) rfl rfl ?_
  refine rx_iload_n dX11_count_0 rfl ?_
  rcases swN 5 (by decide) what with hw | ⟨j, hj, rfl⟩
  · have hw : what.toInt < 0 ∨ 5 < what.toInt := hw
    refine rx_tableOut 82 dX11_count_1 hw (by decide) ?_
    refine rx_bipush (-2) dX11_count_82 (by decide) ?_
    exact rx_iret dX11_count_84 rfl ⟨Nat.le_refl _, Nat.le_refl _⟩ ⟨rfl, _, rfl, ⟨by unfold aCount; rw [if_pos hw], hr⟩⟩
  · rcases (show j = 0 ∨ j = 1 ∨ j = 2 ∨ j = 3 ∨ j = 4 ∨ j = 5 by omega) with rfl | rfl | rfl | rfl | rfl | rfl
    · refine rx_tableIn 40 dX11_count_1 (by decide) (by decide) (by rfl) (by decide) ?_
      refine rx_aload_n dX11_count_40 rfl ?_
      refine rx_getR dX11_count_41 flX11_54 (sC_0) rfl ?_
      refine rx_getI dX11_count_44 flX11_96 (sC_53) rfl ?_
      exact rx_iret dX11_count_47 rfl ⟨Nat.le_refl _, Nat.le_refl _⟩ ⟨rfl, _, rfl, ⟨by unfold aCount; rw [if_neg (by decide)]; exact hr.sc.1, hr⟩⟩
    · refine rx_tableIn 48 dX11_count_1 (by decide) (by decide) (by rfl) (by decide) ?_
      refine rx_aload_n dX11_count_48 rfl ?_
      refine rx_getI dX11_count_49 flX11_159 (sC_0) rfl ?_
      exact rx_iret dX11_count_52 rfl ⟨Nat.le_refl _, Nat.le_refl _⟩ ⟨rfl, _, rfl, ⟨by unfold aCount; rw [if_neg (by decide)]; exact hr.2.2.2.2.1, hr⟩⟩
    · refine rx_tableIn 53 dX11_count_1 (by decide) (by decide) (by rfl) (by decide) ?_
      refine rx_aload_n dX11_count_53 rfl ?_
      refine rx_getR dX11_count_54 flX11_54 (sC_0) rfl ?_
      refine rx_getI dX11_count_57 flX11_207 (sC_53) rfl ?_
      exact rx_iret dX11_count_60 rfl ⟨Nat.le_refl _, Nat.le_refl _⟩ ⟨rfl, _, rfl, ⟨by unfold aCount; rw [if_neg (by decide)]; exact hr.sn.1, hr⟩⟩
    · refine rx_tableIn 61 dX11_count_1 (by decide) (by decide) (by rfl) (by decide) ?_
      refine rx_aload_n dX11_count_61 rfl ?_
      refine rx_getR dX11_count_62 flX11_54 (sC_0) rfl ?_
      refine rx_getI dX11_count_65 flX11_224 (sC_53) rfl ?_
      exact rx_iret dX11_count_68 rfl ⟨Nat.le_refl _, Nat.le_refl _⟩ ⟨rfl, _, rfl, ⟨by unfold aCount; rw [if_neg (by decide)]; exact hr.2.1.2.2.2.1, hr⟩⟩
    · refine rx_tableIn 69 dX11_count_1 (by decide) (by decide) (by rfl) (by decide) ?_
      refine rx_aload_n dX11_count_69 rfl ?_
      refine rx_getI dX11_count_70 flX11_156 (sC_0) rfl ?_
      exact rx_iret dX11_count_73 rfl ⟨Nat.le_refl _, Nat.le_refl _⟩ ⟨rfl, _, rfl, ⟨by unfold aCount; rw [if_neg (by decide)]; exact hr.2.2.2.2.2.2.1, hr⟩⟩
    · refine rx_tableIn 74 dX11_count_1 (by decide) (by decide) (by rfl) (by decide) ?_
      refine rx_aload_n dX11_count_74 rfl ?_
      refine rx_getR dX11_count_75 flX11_76 (sC_0) rfl ?_
      refine rx_getI dX11_count_78 flX11_243 (sC_97) rfl ?_
      exact rx_iret dX11_count_81 rfl ⟨Nat.le_refl _, Nat.le_refl _⟩ ⟨rfl, _, rfl, ⟨by unfold aCount; rw [if_neg (by decide)]; exact hr.2.2.2.2.2.2.2.2.1, hr⟩⟩
