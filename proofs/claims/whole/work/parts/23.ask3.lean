def setEr (E : EN) (f : Nat → Int32) : EN := (eN E, eK E, eV E, f, eR E, eC E, eY E)
def setCn (E : EN) (f : Nat → Int32) : EN := (eN E, eK E, eV E, eE E, eR E, f, eY E)
def allCn (E : EN) (x : Int32) : EN := setCn E (fun _ => x)
theorem ScR.setEr {b : Nat} (hb : Sc b) {S : SS} {E : EN} {D : DY} (h : ScR b S E D) (c : Nat) (x : Int32) : ScR b (upS S (b + 4) c x) (setEr E (upd (eE E) c x)) D := by
  have hbl := hb.le
  obtain ⟨a1, a2, a3, a4, a5, a6, ⟨y, hy, hyS, hY⟩, a8, a9, a10, a11, a12⟩ := h
  refine ⟨by rw [upS_off _ _ _ _ (by omega)]; exact a1, fun c' hc => ?_, fun c' hc => ?_, fun c' hc => ?_, fun c' hc => ?_, fun c' hc => ?_, ⟨y, hy, by rw [upS_off _ _ _ _ (by omega)]; exact hyS, hY.off hy (fun j g1 g2 => upS_off _ _ _ _ (by omega))⟩, fun c' hc => ?_, by rw [upS_off _ _ _ _ (by omega)]; exact a9, by rw [upS_off _ _ _ _ (by omega)]; exact a10, a11, fun c' hc => ?_⟩
  · rw [upS_off _ _ _ _ (by omega)]; exact a2 c' hc
  · rw [upS_off _ _ _ _ (by omega)]; exact a3 c' hc
  · rw [upS_row]
    show upd (S (b + 4)) c x c' = upd (eE E) c x c'
    by_cases e : c' = c
    · rw [e, pk_us, pk_us]
    · rw [pk_un e, pk_un e]; exact a4 c' hc
  · rw [upS_off _ _ _ _ (by omega)]; exact a5 c' hc
  · rw [upS_off _ _ _ _ (by omega)]; exact a6 c' hc
  · rw [upS_off _ _ _ _ (by omega)]; exact a8 c' hc
  · rw [upS_off _ _ _ _ (by omega)]; exact a12 c' hc
theorem ScR.setCn {b : Nat} (hb : Sc b) {S S' : SS} {E : EN} {D : DY} (h : ScR b S E D) (f : Nat → Int32) (hf : ∀ c, c < 4 → S' (b + 7) c = f c) (ho : ∀ j, j ≠ b + 7 → S' j = S j) : ScR b S' (setCn E f) D := by
  have hbl := hb.le
  obtain ⟨a1, a2, a3, a4, a5, a6, ⟨y, hy, hyS, hY⟩, a8, a9, a10, a11, a12⟩ := h
  have hb0 : S' b = S b := ho b (by omega)
  refine ⟨by rw [hb0]; exact a1, fun c' hc => ?_, fun c' hc => ?_, fun c' hc => ?_, fun c' hc => ?_, hf, ⟨y, hy, by rw [hb0]; exact hyS, hY.off hy (fun j g1 g2 => ho j (by omega))⟩, fun c' hc => ?_, by rw [hb0]; exact a9, by rw [hb0]; exact a10, a11, fun c' hc => ?_⟩
  · rw [ho _ (by omega)]; exact a2 c' hc
  · rw [ho _ (by omega)]; exact a3 c' hc
  · rw [ho _ (by omega)]; exact a4 c' hc
  · rw [ho _ (by omega)]; exact a5 c' hc
  · rw [ho _ (by omega)]; exact a8 c' hc
  · rw [ho _ (by omega)]; exact a12 c' hc
theorem EnOK.setEr {E : EN} (h : EnOK E) (c e : Nat) (he : e ≤ 9) : EnOK (setEr E (upd (eE E) c (nI e))) := by
  obtain ⟨h1, h2, h3, h4, h5⟩ := h
  refine ⟨h1, h2, h3, fun c' hc => ?_, h5⟩
  show ∃ k, k ≤ 9 ∧ upd (eE E) c (nI e) c' = nI k
  by_cases q : c' = c
  · rw [q, pk_us]; exact ⟨e, he, rfl⟩
  · rw [pk_un q]; exact h4 c' hc
theorem EnOK.setCn {E : EN} (h : EnOK E) (f : Nat → Int32) (hf : ∀ c, c < 4 → ∃ k, 1 ≤ k ∧ k ≤ 9 ∧ f c = nI k) : EnOK (setCn E f) := by
  obtain ⟨h1, h2, h3, h4, h5, h6, h7⟩ := h
  exact ⟨h1, h2, h3, h4, h5, hf, h7⟩
-- STANDS
def stT (σ : SIG) (c e : Nat) : Int32 := (untV (setEr (gE σ) (upd (eE (gE σ)) c (nI e))) (1 <<< (nI c &&& 31)) 61 0 (gD σ)).1
def stStep (σ : SIG) (c e : Nat) (p : Int32 × Int32) : Int32 × Int32 := if ¬ stT σ c e = -5 ∧ stT σ c e ≤ p.2 then (nI e, stT σ c e) else p
def stC (σ : SIG) (c : Nat) : Nat → Int32 × Int32
  | 0 => (-5, 60)
  | e + 1 => stStep σ c e (stC σ c e)
def aStands (σ : SIG) (c : Int32) : Int32 := if 0 ≤ c ∧ c < nI (nN σ) then (stC σ c.toNatClampNeg 10).1 else -1
-- SLOW
def slT (σ : SIG) (m k : Nat) : Int32 := popc (dW (itD (allCn (gE σ) (nI k)) (seesE σ) (-1) m (gD σ)))
def slStep (σ : SIG) (m k : Nat) (p : Int32 × Int32) : Int32 × Int32 := if slT σ m k ≤ p.2 then (nI k, slT σ m k) else p
def slC (σ : SIG) (m : Nat) : Nat → Int32 × Int32
  | 0 => (0, 7)
  | k + 1 => slStep σ m (k + 1) (slC σ m k)
def aSlow (σ : SIG) (n what : Int32) : Int32 := if ¬ (0 ≤ what ∧ what ≤ 1) then -1 else if ¬ (1 ≤ n ∧ n ≤ 20) then -2 else if what = 0 then (slC σ n.toNatClampNeg 9).1 else (slC σ n.toNatClampNeg 9).2
-- LOOK
def lkC (σ : SIG) (m : Nat) : Nat → Nat → Int32
  | 0, _ => -5
  | r + 1, s => if dW (itD (gE σ) (nI s) (-1) m (gD σ)) = dW (gD σ) then nI s else lkC σ m r (s + 1)
def aLook (σ : SIG) (n : Int32) : Int32 := if 1 ≤ n ∧ n ≤ 20 then lkC σ n.toNatClampNeg 10 0 else -2

set_option maxRecDepth 20000 in
set_option maxHeartbeats 400000 in
theorem cc_stands (g : GG) (σ : SIG) (c : Int32) (S : SS) (L : LL) (hr : CRel S L σ) : Ci g 7 mX11_stands [.ref 0, .int c] SHC S L (fun r S' L' => r = aStands σ c ∧ CRel S' L' σ) := by
  have hsz : S 53 6 = nI (nN σ) := hr.sc.1
  refine ct_of (ls := [some (.ref 0), some (.int c), none, none, none, none]) 4 (by decide +kernel) rfl rfl ?_
  refine rx_aload_n dX11_stands_0 rfl ?_
  refine rx_getR dX11_stands_1 flX11_54 (sC_0) rfl ?_
  refine rx_iload_n dX11_stands_4 rfl ?_
  refine rx_cVi_1 clX11_104 dX11_stands_5 (rcvo (sC_53) rfl) rfl (c_has g S53 _ S L) ?_
  refine pur3 ?_
  rw [hsz]
  refine rx_if_ne 13 dX11_stands_8 (by decide) (fun h8 => ?_) (fun h8 => ?_)
  · have hq := b2i_ne h8
    obtain ⟨c, hc, rfl⟩ := rngL (nN σ) (by have := hr.n7; unfold nN; omega) hq.1 hq.2
    have hc7 : c < 7 := by have := hr.n7; unfold nN at hc; omega
    have hci : (nI c).toNatClampNeg = c := nI_clamp (by omega)
    have hvc : vp_in (nI c) 7 := vp_in_nI hc7 (by omega)
    refine rx_bipush (-5) dX11_stands_13 (by decide) ?_
    refine rx_istore_2 rfl dX11_stands_15 ?_
    refine rx_bipush (60) dX11_stands_16 (by decide) ?_
    refine rx_istore_3 rfl dX11_stands_18 ?_
    refine rx_iconst (0) dX11_stands_19 (by decide) ?_
    refine rx_istore_4 rfl dX11_stands_20 ?_
    have loop : ∀ (r e : Nat) (S1 : SS), e + r = 10 → CRel S1 L σ → Rx g 7 0 0 mX11_stands SHC.length (fun r sh' S' L' => sh' = SHC ∧ ∃ x, r = some (.int x) ∧ (x = aStands σ (nI c) ∧ CRel S' L' σ)) 0 0 22 [some (.ref 0), some (.int (nI c)), some (.int (stC σ c e).1), some (.int (stC σ c e).2), some (.int (nI e)), none] [] SHC S1 L := by
      intro r
      induction r with
      | zero =>
        intro e S1 he hr1
        obtain rfl : e = 10 := by omega
        refine rx_iload dX11_stands_22 rfl ?_
        refine rx_bipush (9) dX11_stands_24 (by decide) ?_
        refine rx_icmp_gt 92 dX11_stands_26 (by decide) (fun h26 => ?_) (fun h26 => absurd (nI_lt (a := 9) (b := 10) (by omega) (by omega)) h26)
        refine rx_iload_n dX11_stands_92 rfl ?_
        exact rx_iret dX11_stands_93 rfl ⟨Nat.le_refl _, Nat.le_refl _⟩ ⟨rfl, _, rfl, ⟨by unfold aStands; rw [if_pos hq, hci], hr1⟩⟩
      | succ r ih =>
        intro e S1 he hr1
        refine rx_iload dX11_stands_22 rfl ?_
        refine rx_bipush (9) dX11_stands_24 (by decide) ?_
        refine rx_icmp_gt 92 dX11_stands_26 (by decide) (fun h26 => absurd h26 (Int32.not_lt.mpr (nI_le (a := e) (b := 9) (by omega) (by omega)))) (fun h26 => ?_)
        refine rx_aload_n dX11_stands_29 rfl ?_
        refine rx_getR dX11_stands_30 flX11_58 (sC_0) rfl ?_
        refine rx_aload_n dX11_stands_33 rfl ?_
        refine rx_getR dX11_stands_34 flX11_54 (sC_0) rfl ?_
        refine rx_cVv_1 clX11_182 dX11_stands_37 (rcvo (sC_66) rfl) rfl (c_copyFrom g S53 S66 (by decide) S1 L hr1.y) ?_
        rintro S2 L2 ⟨hC1, hL2⟩
        rw [hL2]
        have hR1 := hr1.sc.copy S53 S66 hC1
        refine rx_aload_n dX11_stands_40 rfl ?_
        refine rx_getR dX11_stands_41 flX11_58 (sC_0) rfl ?_
        refine rx_getR dX11_stands_44 flX11_121 (sC_66) rfl ?_
        refine rx_iload_n dX11_stands_47 rfl ?_
        refine rx_iload dX11_stands_48 rfl ?_
        refine rx_iastore dX11_stands_50 (sC_70) hvc ?_
        rw [hci]
        refine rx_aload_n dX11_stands_51 rfl ?_
        refine rx_getR dX11_stands_52 flX11_69 (sC_0) rfl ?_
        refine rx_aload_n dX11_stands_55 rfl ?_
        refine rx_getR dX11_stands_56 flX11_58 (sC_0) rfl ?_
        refine rx_iconst (1) dX11_stands_59 (by decide) ?_
        refine rx_iload_n dX11_stands_60 rfl ?_
        refine rx_ishl dX11_stands_61 ?_
        refine rx_cVi_2 clX11_190 dX11_stands_62 (rcvo (sC_92) rfl) rfl (c_untilWall g S66 _ (gD σ) (1 <<< (nI c &&& 31)) _ L (hr1.en.setEr c e (by omega)) (hR1.setEr S66 c (nI e)) (by have := hr1.t; omega)) ?_
        rintro x2 S3 L3 ⟨hx2, hR2, hF2, hL3⟩
        have hx3 : x2 = stT σ c e := hx2
        rw [hL3, hx3]
        have hr3 := hr1.kp (((Kp.cp hC1).trans (Kp.up (by decide))).trans (Kp.st hF2))
        refine rx_istore_5 rfl dX11_stands_65 ?_
        refine rx_iload dX11_stands_67 rfl ?_
        refine rx_bipush (-5) dX11_stands_69 (by decide) ?_
        refine rx_icmp_eq 86 dX11_stands_71 (by decide) (fun h71 => ?_) (fun h71 => ?_)
        · have e1 : stC σ c (e + 1) = stC σ c e := if_neg (fun q => q.1 h71)
          refine rx_iinc_4 (1) rfl dX11_stands_86 (by decide) ?_
          refine rx_goto 22 dX11_stands_89 (by decide) ?_
          refine rx_wk [some (.ref 0), some (.int (nI c)), some (.int _), some (.int _), some (.int _), none] ⟨Or.inr rfl, Or.inr rfl, Or.inr rfl, Or.inr rfl, Or.inr rfl, Or.inl rfl, trivial⟩ ?_
          rw [nI_1]
          have hg := ih (e + 1) S3 (by omega) hr3
          rw [e1] at hg
          exact hg
        · refine rx_iload dX11_stands_74 rfl ?_
          refine rx_iload_n dX11_stands_76 rfl ?_
          refine rx_icmp_gt 86 dX11_stands_77 (by decide) (fun h77 => ?_) (fun h77 => ?_)
          · have e1 : stC σ c (e + 1) = stC σ c e := if_neg (fun q => Int32.not_le.mpr h77 q.2)
            refine rx_iinc_4 (1) rfl dX11_stands_86 (by decide) ?_
            refine rx_goto 22 dX11_stands_89 (by decide) ?_
            refine rx_wk [some (.ref 0), some (.int (nI c)), some (.int _), some (.int _), some (.int _), none] ⟨Or.inr rfl, Or.inr rfl, Or.inr rfl, Or.inr rfl, Or.inr rfl, Or.inl rfl, trivial⟩ ?_
            rw [nI_1]
            have hg := ih (e + 1) S3 (by omega) hr3
            rw [e1] at hg
            exact hg
          · refine rx_iload dX11_stands_80 rfl ?_
            refine rx_istore_3 rfl dX11_stands_82 ?_
            refine rx_iload dX11_stands_83 rfl ?_
            refine rx_istore_2 rfl dX11_stands_85 ?_
            have e1 : stC σ c (e + 1) = (nI e, stT σ c e) := if_pos ⟨h71, Int32.not_lt.mp h77⟩
            refine rx_iinc_4 (1) rfl dX11_stands_86 (by decide) ?_
            refine rx_goto 22 dX11_stands_89 (by decide) ?_
            refine rx_wk [some (.ref 0), some (.int (nI c)), some (.int _), some (.int _), some (.int _), none] ⟨Or.inr rfl, Or.inr rfl, Or.inr rfl, Or.inr rfl, Or.inr rfl, Or.inl rfl, trivial⟩ ?_
            rw [nI_1]
            have hg := ih (e + 1) S3 (by omega) hr3
            rw [e1] at hg
            exact hg
    exact loop 10 0 S (by omega) hr
  · refine rx_iconst (-1) dX11_stands_11 (by decide) ?_
    exact rx_iret dX11_stands_12 rfl ⟨Nat.le_refl _, Nat.le_refl _⟩ ⟨rfl, _, rfl, ⟨(if_neg (b2i_eq h8)).symm, hr⟩⟩
set_option maxRecDepth 20000 in
set_option maxHeartbeats 400000 in
theorem cc_slow (g : GG) (σ : SIG) (n what : Int32) (S : SS) (L : LL) (hr : CRel S L σ) : Ci g 7 mX11_slow [.ref 0, .int n, .int what] SHC S L (fun r S' L' => r = aSlow σ n what ∧ CRel S' L' σ) := by
  refine ct_of (ls := [some (.ref 0), some (.int n), some (.int what), none, none, none, none]) 4 (by decide +kernel) rfl rfl ?_
  refine rx_iload_n dX11_slow_0 rfl ?_
  refine rx_iconst (0) dX11_slow_1 (by decide) ?_
  refine rx_iconst (1) dX11_slow_2 (by decide) ?_
  refine rx_cSi_3 clX11_92 dX11_slow_3 rfl (c_within g _ _ _ S L) ?_
  refine pur3 ?_
  refine rx_if_ne 11 dX11_slow_6 (by decide) (fun h6 => ?_) (fun h6 => ?_)
  · refine rx_iload_n dX11_slow_11 rfl ?_
    refine rx_iconst (1) dX11_slow_12 (by decide) ?_
    refine rx_bipush (20) dX11_slow_13 (by decide) ?_
    refine rx_cSi_3 clX11_92 dX11_slow_15 rfl (c_within g _ _ _ S L) ?_
    refine pur3 ?_
    refine rx_if_ne 24 dX11_slow_18 (by decide) (fun h18 => ?_) (fun h18 => ?_)
    · have hq1 := b2i_ne h6
      have hq2 := b2i_ne h18
      obtain ⟨m, hm, rfl⟩ := rngI 20 (by omega) (Int32.le_trans (by decide) hq2.1) hq2.2
      have hmc : (nI m).toNatClampNeg = m := nI_clamp (by omega)
      refine rx_iconst (0) dX11_slow_24 (by decide) ?_
      refine rx_istore_3 rfl dX11_slow_25 ?_
      refine rx_bipush (7) dX11_slow_26 (by decide) ?_
      refine rx_istore_4 rfl dX11_slow_28 ?_
      refine rx_iconst (1) dX11_slow_30 (by decide) ?_
      refine rx_istore_5 rfl dX11_slow_31 ?_
      have loop : ∀ (r k : Nat) (S1 : SS), k + r = 9 → CRel S1 L σ → Rx g 7 0 0 mX11_slow SHC.length (fun r sh' S' L' => sh' = SHC ∧ ∃ x, r = some (.int x) ∧ (x = aSlow σ (nI m) what ∧ CRel S' L' σ)) 0 0 33 [some (.ref 0), some (.int (nI m)), some (.int what), some (.int (slC σ m k).1), some (.int (slC σ m k).2), some (.int (nI (k + 1))), none] [] SHC S1 L := by
        intro r
        induction r with
        | zero =>
          intro k S1 he hr1
          obtain rfl : k = 9 := by omega
          refine rx_iload dX11_slow_33 rfl ?_
          refine rx_bipush (9) dX11_slow_35 (by decide) ?_
          refine rx_icmp_gt 123 dX11_slow_37 (by decide) (fun h37 => ?_) (fun h37 => absurd (nI_lt (a := 9) (b := 10) (by omega) (by omega)) h37)
          refine rx_iload_n dX11_slow_123 rfl ?_
          refine rx_if_ne 131 dX11_slow_124 (by decide) (fun h124 => ?_) (fun h124 => ?_)
          · refine rx_iload dX11_slow_131 rfl ?_
            exact rx_iret dX11_slow_133 rfl ⟨Nat.le_refl _, Nat.le_refl _⟩ ⟨rfl, _, rfl, ⟨by unfold aSlow; rw [if_neg (fun q => q hq1), if_neg (fun q => q hq2), hmc]; first | exact (if_pos h124).symm | exact (if_neg h124).symm, hr1⟩⟩
          · refine rx_iload_n dX11_slow_127 rfl ?_
            refine rx_goto 133 dX11_slow_128 (by decide) ?_
            exact rx_iret dX11_slow_133 rfl ⟨Nat.le_refl _, Nat.le_refl _⟩ ⟨rfl, _, rfl, ⟨by unfold aSlow; rw [if_neg (fun q => q hq1), if_neg (fun q => q hq2), hmc]; first | exact (if_pos h124).symm | exact (if_neg h124).symm, hr1⟩⟩
        | succ r ih =>
          intro k S1 he hr1
          refine rx_iload dX11_slow_33 rfl ?_
          refine rx_bipush (9) dX11_slow_35 (by decide) ?_
          refine rx_icmp_gt 123 dX11_slow_37 (by decide) (fun h37 => absurd h37 (Int32.not_lt.mpr (nI_le (a := k + 1) (b := 9) (by omega) (by omega)))) (fun h37 => ?_)
          refine rx_aload_n dX11_slow_40 rfl ?_
          refine rx_getR dX11_slow_41 flX11_58 (sC_0) rfl ?_
          refine rx_aload_n dX11_slow_44 rfl ?_
          refine rx_getR dX11_slow_45 flX11_54 (sC_0) rfl ?_
          refine rx_cVv_1 clX11_182 dX11_slow_48 (rcvo (sC_66) rfl) rfl (c_copyFrom g S53 S66 (by decide) S1 L hr1.y) ?_
          rintro S2 L2 ⟨hC1, hL2⟩
          rw [hL2]
          have hR1 := hr1.sc.copy S53 S66 hC1
          refine rx_iconst (0) dX11_slow_51 (by decide) ?_
          refine rx_istore_6 rfl dX11_slow_52 ?_
          refine rx_iload dX11_slow_54 rfl ?_
          refine rx_iconst (4) dX11_slow_56 (by decide) ?_
          refine rx_icmp_ge 78 dX11_slow_57 (by decide) (fun h57 => absurd h57 (by decide)) (fun h57 => ?_)
          refine rx_aload_n dX11_slow_60 rfl ?_
          refine rx_getR dX11_slow_61 flX11_58 (sC_0) rfl ?_
          refine rx_getR dX11_slow_64 flX11_153 (sC_66) rfl ?_
          refine rx_iload dX11_slow_67 rfl ?_
          refine rx_iload dX11_slow_69 rfl ?_
          refine rx_iastore dX11_slow_71 (sC_73) (vp_in_iff.mpr (by decide +kernel)) ?_
          refine rx_iinc_6 (1) rfl dX11_slow_72 (by decide) ?_
          rw [show ((0 : Int32) + 1) = 1 from by decide]
          refine rx_goto 54 dX11_slow_75 (by decide) ?_
          refine rx_iload dX11_slow_54 rfl ?_
          refine rx_iconst (4) dX11_slow_56 (by decide) ?_
          refine rx_icmp_ge 78 dX11_slow_57 (by decide) (fun h57 => absurd h57 (by decide)) (fun h57 => ?_)
          refine rx_aload_n dX11_slow_60 rfl ?_
          refine rx_getR dX11_slow_61 flX11_58 (sC_0) rfl ?_
          refine rx_getR dX11_slow_64 flX11_153 (sC_66) rfl ?_
          refine rx_iload dX11_slow_67 rfl ?_
          refine rx_iload dX11_slow_69 rfl ?_
          refine rx_iastore dX11_slow_71 (sC_73) (vp_in_iff.mpr (by decide +kernel)) ?_
          refine rx_iinc_6 (1) rfl dX11_slow_72 (by decide) ?_
          rw [show ((1 : Int32) + 1) = 2 from by decide]
          refine rx_goto 54 dX11_slow_75 (by decide) ?_
          refine rx_iload dX11_slow_54 rfl ?_
          refine rx_iconst (4) dX11_slow_56 (by decide) ?_
          refine rx_icmp_ge 78 dX11_slow_57 (by decide) (fun h57 => absurd h57 (by decide)) (fun h57 => ?_)
          refine rx_aload_n dX11_slow_60 rfl ?_
          refine rx_getR dX11_slow_61 flX11_58 (sC_0) rfl ?_
          refine rx_getR dX11_slow_64 flX11_153 (sC_66) rfl ?_
          refine rx_iload dX11_slow_67 rfl ?_
          refine rx_iload dX11_slow_69 rfl ?_
          refine rx_iastore dX11_slow_71 (sC_73) (vp_in_iff.mpr (by decide +kernel)) ?_
          refine rx_iinc_6 (1) rfl dX11_slow_72 (by decide) ?_
          rw [show ((2 : Int32) + 1) = 3 from by decide]
          refine rx_goto 54 dX11_slow_75 (by decide) ?_
          refine rx_iload dX11_slow_54 rfl ?_
          refine rx_iconst (4) dX11_slow_56 (by decide) ?_
          refine rx_icmp_ge 78 dX11_slow_57 (by decide) (fun h57 => absurd h57 (by decide)) (fun h57 => ?_)
          refine rx_aload_n dX11_slow_60 rfl ?_
          refine rx_getR dX11_slow_61 flX11_58 (sC_0) rfl ?_
          refine rx_getR dX11_slow_64 flX11_153 (sC_66) rfl ?_
          refine rx_iload dX11_slow_67 rfl ?_
          refine rx_iload dX11_slow_69 rfl ?_
          refine rx_iastore dX11_slow_71 (sC_73) (vp_in_iff.mpr (by decide +kernel)) ?_
          refine rx_iinc_6 (1) rfl dX11_slow_72 (by decide) ?_
          rw [show ((3 : Int32) + 1) = 4 from by decide]
          refine rx_goto 54 dX11_slow_75 (by decide) ?_
          refine rx_iload dX11_slow_54 rfl ?_
          refine rx_iconst (4) dX11_slow_56 (by decide) ?_
          refine rx_icmp_ge 78 dX11_slow_57 (by decide) (fun h57 => ?_) (fun h57 => absurd (by decide) h57)
          refine rx_aload_n dX11_slow_78 rfl ?_
          refine rx_getR dX11_slow_79 flX11_69 (sC_0) rfl ?_
          refine rx_aload_n dX11_slow_82 rfl ?_
          refine rx_getR dX11_slow_83 flX11_58 (sC_0) rfl ?_
          refine rx_iload_n dX11_slow_86 rfl ?_
          refine rx_cVi_2 clX11_178 dX11_slow_87 (rcvo (sC_92) rfl) rfl (c_pass g S66 (allCn (gE σ) (nI (k + 1))) (gD σ) m _ L (hr1.en.setCn _ (fun _ _ => ⟨k + 1, by omega, by omega, rfl⟩)) (hR1.setCn S66 (fun _ => nI (k + 1)) (fun c hc => by rcases (show c = 0 ∨ c = 1 ∨ c = 2 ∨ c = 3 by omega) with rfl | rfl | rfl | rfl <;> simp [upS, show (0 : Int32).toNatClampNeg = 0 from by decide +kernel, show (1 : Int32).toNatClampNeg = 1 from by decide +kernel, show (2 : Int32).toNatClampNeg = 2 from by decide +kernel, show (3 : Int32).toNatClampNeg = 3 from by decide +kernel]) (fun j hj => by simp (disch := omega) only [upS_off])) (by have := hr1.t; omega)) ?_
          rintro x2 S4 L4 ⟨hx2, hR4, hF4, hL4⟩
          rw [hL4]
          have hr4 := hr1.kp (((Kp.cp hC1).trans ((((Kp.up (by decide)).trans (Kp.up (by decide))).trans (Kp.up (by decide))).trans (Kp.up (by decide)))).trans (Kp.st hF4))
          refine rx_pop dX11_slow_90 rfl ?_
          refine rx_aload_n dX11_slow_91 rfl ?_
          refine rx_getR dX11_slow_92 flX11_58 (sC_0) rfl ?_
          refine rx_getI dX11_slow_95 flX11_175 (sC_66) rfl ?_
          rw [hR4.w]
          refine rx_cSi_1 clX11_185 dX11_slow_98 rfl (c_bitCount g _ S4 L (by obtain ⟨W, hW, e⟩ := (DOK_it (hr1.en.setCn (fun _ => nI (k + 1)) (fun _ _ => ⟨k + 1, by omega, by omega, rfl⟩)) (seesE σ) (-1) hr1.dok m).1; exact ⟨W, Nat.lt_of_lt_of_le hW (pow7 hr1.n7), e⟩)) ?_
          rintro x5 S5 L5 ⟨hx5, hS5, hL5⟩
          have hx6 : x5 = slT σ m (k + 1) := hx5
          rw [hS5, hL5, hx6]
          refine rx_istore_6 rfl dX11_slow_101 ?_
          refine rx_iload dX11_slow_103 rfl ?_
          refine rx_iload dX11_slow_105 rfl ?_
          refine rx_icmp_gt 117 dX11_slow_107 (by decide) (fun h107 => ?_) (fun h107 => ?_)
          · have e1 : slC σ m (k + 1) = slC σ m k := if_neg (Int32.not_le.mpr h107)
            refine rx_iinc_5 (1) rfl dX11_slow_117 (by decide) ?_
            refine rx_goto 33 dX11_slow_120 (by decide) ?_
            refine rx_wk [some (.ref 0), some (.int (nI m)), some (.int what), some (.int _), some (.int _), some (.int _), none] ⟨Or.inr rfl, Or.inr rfl, Or.inr rfl, Or.inr rfl, Or.inr rfl, Or.inr rfl, Or.inl rfl, trivial⟩ ?_
            rw [nI_1]
            have hg := ih (k + 1) S4 (by omega) hr4
            rw [e1] at hg
            exact hg
          · refine rx_iload dX11_slow_110 rfl ?_
            refine rx_istore_4 rfl dX11_slow_112 ?_
            refine rx_iload dX11_slow_114 rfl ?_
            refine rx_istore_3 rfl dX11_slow_116 ?_
            have e1 : slC σ m (k + 1) = (nI (k + 1), slT σ m (k + 1)) := if_pos (Int32.not_lt.mp h107)
            refine rx_iinc_5 (1) rfl dX11_slow_117 (by decide) ?_
            refine rx_goto 33 dX11_slow_120 (by decide) ?_
            refine rx_wk [some (.ref 0), some (.int (nI m)), some (.int what), some (.int _), some (.int _), some (.int _), none] ⟨Or.inr rfl, Or.inr rfl, Or.inr rfl, Or.inr rfl, Or.inr rfl, Or.inr rfl, Or.inl rfl, trivial⟩ ?_
            rw [nI_1]
            have hg := ih (k + 1) S4 (by omega) hr4
            rw [e1] at hg
            exact hg
      exact loop 9 0 S (by omega) hr
    · refine rx_bipush (-2) dX11_slow_21 (by decide) ?_
      exact rx_iret dX11_slow_23 rfl ⟨Nat.le_refl _, Nat.le_refl _⟩ ⟨rfl, _, rfl, ⟨by unfold aSlow; rw [if_neg (fun q => q (b2i_ne h6)), if_pos (b2i_eq h18)], hr⟩⟩
  · refine rx_iconst (-1) dX11_slow_9 (by decide) ?_
    exact rx_iret dX11_slow_10 rfl ⟨Nat.le_refl _, Nat.le_refl _⟩ ⟨rfl, _, rfl, ⟨by unfold aSlow; rw [if_pos (b2i_eq h6)], hr⟩⟩
set_option maxRecDepth 20000 in
set_option maxHeartbeats 400000 in
theorem cc_look (g : GG) (σ : SIG) (n : Int32) (S : SS) (L : LL) (hr : CRel S L σ) : Ci g 7 mX11_look [.ref 0, .int n] SHC S L (fun r S' L' => r = aLook σ n ∧ CRel S' L' σ) := by
  refine ct_of (ls := [some (.ref 0), some (.int n), none, none]) 2 (by decide +kernel) rfl rfl ?_
  refine rx_iload_n dX11_look_0 rfl ?_
  refine rx_iconst (1) dX11_look_1 (by decide) ?_
  refine rx_bipush (20) dX11_look_2 (by decide) ?_
  refine rx_cSi_3 clX11_92 dX11_look_4 rfl (c_within g _ _ _ S L) ?_
  refine pur3 ?_
  refine rx_if_ne 13 dX11_look_7 (by decide) (fun h7 => ?_) (fun h7 => ?_)
  · have hq := b2i_ne h7
    obtain ⟨m, hm, rfl⟩ := rngI 20 (by omega) (Int32.le_trans (by decide) hq.1) hq.2
    have hmc : (nI m).toNatClampNeg = m := nI_clamp (by omega)
    refine rx_iconst (0) dX11_look_13 (by decide) ?_
    refine rx_istore_2 rfl dX11_look_14 ?_
    have loop : ∀ (r s : Nat) (S1 : SS), s + r = 10 → CRel S1 L σ → lkC σ m r s = lkC σ m 10 0 → Rx g 7 0 0 mX11_look SHC.length (fun r sh' S' L' => sh' = SHC ∧ ∃ x, r = some (.int x) ∧ (x = aLook σ (nI m) ∧ CRel S' L' σ)) 0 0 15 [some (.ref 0), some (.int (nI m)), some (.int (nI s)), none] [] SHC S1 L := by
      intro r
      induction r with
      | zero =>
        intro s S1 he hr1 hev
        refine rx_iload_n dX11_look_15 rfl ?_
        refine rx_bipush (9) dX11_look_16 (by decide) ?_
        refine rx_icmp_gt 84 dX11_look_18 (by decide) (fun h18 => ?_) (fun h18 => absurd (nI_lt (a := 9) (b := s) (by omega) (by omega)) h18)
        refine rx_bipush (-5) dX11_look_84 (by decide) ?_
        exact rx_iret dX11_look_86 rfl ⟨Nat.le_refl _, Nat.le_refl _⟩ ⟨rfl, _, rfl, ⟨by unfold aLook; rw [if_pos hq, hmc, ← hev]; rfl, hr1⟩⟩
      | succ r ih =>
        intro s S1 he hr1 hev
        refine rx_iload_n dX11_look_15 rfl ?_
        refine rx_bipush (9) dX11_look_16 (by decide) ?_
        refine rx_icmp_gt 84 dX11_look_18 (by decide) (fun h18 => absurd h18 (Int32.not_lt.mpr (nI_le (a := s) (b := 9) (by omega) (by omega)))) (fun h18 => ?_)
        refine rx_aload_n dX11_look_21 rfl ?_
        refine rx_getR dX11_look_22 flX11_58 (sC_0) rfl ?_
        refine rx_aload_n dX11_look_25 rfl ?_
        refine rx_getR dX11_look_26 flX11_54 (sC_0) rfl ?_
        refine rx_cVv_1 clX11_182 dX11_look_29 (rcvo (sC_66) rfl) rfl (c_copyFrom g S53 S66 (by decide) S1 L hr1.y) ?_
        rintro S2 L2 ⟨hC1, hL2⟩
        rw [hL2]
        have hR1 := hr1.sc.copy S53 S66 hC1
        refine rx_iconst (0) dX11_look_32 (by decide) ?_
        refine rx_istore_3 rfl dX11_look_33 ?_
        have inner : ∀ (q i : Nat) (S3 : SS), i + q = m → ScR 66 S3 (gE σ) (itD (gE σ) (nI s) (-1) i (gD σ)) → Kp S1 S3 → Rx g 7 0 0 mX11_look SHC.length (fun r sh' S' L' => sh' = SHC ∧ ∃ x, r = some (.int x) ∧ (x = aLook σ (nI m) ∧ CRel S' L' σ)) 0 0 34 [some (.ref 0), some (.int (nI m)), some (.int (nI s)), some (.int (nI i))] [] SHC S3 L := by
          intro q
          induction q with
          | zero =>
            intro i S3 hi hR3 hk3
            obtain rfl : m = i := by omega
            have hr3 := hr1.kp hk3
            refine rx_iload_n dX11_look_34 rfl ?_
            refine rx_iload_n dX11_look_35 rfl ?_
            refine rx_icmp_ge 59 dX11_look_36 (by decide) (fun h36 => ?_) (fun h36 => absurd (nI_le (by omega) (by omega)) h36)
            refine rx_aload_n dX11_look_59 rfl ?_
            refine rx_getR dX11_look_60 flX11_58 (sC_0) rfl ?_
            refine rx_getI dX11_look_63 flX11_175 (sC_66) rfl ?_
            refine rx_aload_n dX11_look_66 rfl ?_
            refine rx_getR dX11_look_67 flX11_54 (sC_0) rfl ?_
            refine rx_getI dX11_look_70 flX11_175 (sC_53) rfl ?_
            refine rx_icmp_ne 78 dX11_look_73 (by decide) (fun h73 => ?_) (fun h73 => ?_)
            · refine rx_iinc_2 (1) rfl dX11_look_78 (by decide) ?_
              refine rx_goto 15 dX11_look_81 (by decide) ?_
              rw [nI_1]
              refine rx_wk [some (.ref 0), some (.int (nI m)), some (.int _), none] ⟨Or.inr rfl, Or.inr rfl, Or.inr rfl, Or.inl rfl, trivial⟩ ?_
              exact ih (s + 1) S3 (by omega) hr3 (by rw [← hev]; exact (if_neg (fun q => h73 (by rw [hR3.w, hr3.sc.w]; exact q))).symm)
            · refine rx_iload_n dX11_look_76 rfl ?_
              exact rx_iret dX11_look_77 rfl ⟨Nat.le_refl _, Nat.le_refl _⟩ ⟨rfl, _, rfl, ⟨by unfold aLook; rw [if_pos hq, hmc, ← hev]; exact (if_pos (by rw [← hR3.w, ← hr3.sc.w]; exact h73)).symm, hr3⟩⟩
          | succ q ih2 =>
            intro i S3 hi hR3 hk3
            refine rx_iload_n dX11_look_34 rfl ?_
            refine rx_iload_n dX11_look_35 rfl ?_
            refine rx_icmp_ge 59 dX11_look_36 (by decide) (fun h36 => absurd h36 (nI_ge (by omega) (by omega))) (fun h36 => ?_)
            refine rx_aload_n dX11_look_39 rfl ?_
            refine rx_getR dX11_look_40 flX11_69 (sC_0) rfl ?_
            refine rx_aload_n dX11_look_43 rfl ?_
            refine rx_getR dX11_look_44 flX11_58 (sC_0) rfl ?_
            refine rx_iload_n dX11_look_47 rfl ?_
            refine rx_iconst (-1) dX11_look_48 (by decide) ?_
            refine rx_cVi_3 clX11_203 dX11_look_49 (rcvo (sC_92) rfl) rfl (c_step g S66 (gE σ) (itD (gE σ) (nI s) (-1) i (gD σ)) (nI s) (-1) S3 L hr1.en hR3 (by rw [itD_T]; have := hr1.t; omega) (Or.inl rfl)) ?_
            rintro x4 S4 L4 ⟨hx4, hR4, hF4, hL4⟩
            rw [hL4]
            refine rx_pop dX11_look_52 rfl ?_
            refine rx_iinc_3 (1) rfl dX11_look_53 (by decide) ?_
            refine rx_goto 34 dX11_look_56 (by decide) ?_
            rw [nI_1]
            exact ih2 (i + 1) S4 (by omega) hR4 (hk3.trans (Kp.st hF4))
        exact inner m 0 S2 (by omega) hR1 (Kp.cp hC1)
    exact loop 10 0 S (by omega) hr rfl
  · refine rx_bipush (-2) dX11_look_10 (by decide) ?_
    exact rx_iret dX11_look_12 rfl ⟨Nat.le_refl _, Nat.le_refl _⟩ ⟨rfl, _, rfl, ⟨(if_neg (b2i_eq h7)).symm, hr⟩⟩
