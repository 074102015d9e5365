def putW (D : DY) (c : Nat) (a : Int32) : DY := (upd (dA D) c a, dW D &&& ((1 <<< (nI c &&& 31)) ^^^ (-1)), dT D, dS D)
def orW (D : DY) (c : Nat) : DY := (dA D, dW D ||| (1 <<< (nI c &&& 31)), dT D, dS D)
-- NEEDS
def ndD (σ : SIG) (c m a : Nat) : DY := itD (gE σ) (seesE σ) (-1) m (putW (gD σ) c (nI a))
def ndC (σ : SIG) (c m : Nat) : Nat → Nat → Int32
  | 0, _ => -5
  | r + 1, a => if ¬ bitv (dW (ndD σ c m a)) (nI c) = 0 then nI a else ndC σ c m r (a + 1)
def aNeeds (σ : SIG) (c n : Int32) : Int32 := if ¬ (0 ≤ c ∧ c < nI (nN σ)) then -1 else if ¬ (1 ≤ n ∧ n ≤ 8) then -2 else ndC σ c.toNatClampNeg n.toNatClampNeg (eY (gE σ)).1.toNatClampNeg 0
-- HELD
def hlD (σ : SIG) (c k : Nat) : Nat → DY
  | 0 => gD σ
  | i + 1 => stepD (gE σ) (seesE σ) (if i < k then nI c else -1) (hlD σ c k i)
theorem hlD_T (σ : SIG) (c k : Nat) : ∀ i, dT (hlD σ c k i) = dT (gD σ) + i
  | 0 => rfl
  | i + 1 => by show dT (hlD σ c k i) + 1 = _; rw [hlD_T σ c k i]; omega
def hlStep (σ : SIG) (c m k : Nat) (p : Int32 × Int32) : Int32 × Int32 := if p.2 < dA (hlD σ c k m) c then (nI k, dA (hlD σ c k m) c) else p
def hlC (σ : SIG) (c m : Nat) : Nat → Int32 × Int32
  | 0 => (0, -1)
  | k + 1 => hlStep σ c m k (hlC σ c m k)
def aHeld (σ : SIG) (c n : Int32) : Int32 := if ¬ (0 ≤ c ∧ c < nI (nN σ)) then -1 else if ¬ (1 ≤ n ∧ n ≤ 20) then -2 else (hlC σ c.toNatClampNeg n.toNatClampNeg (n.toNatClampNeg + 1)).1
-- SHIELD
def aShield (σ : SIG) (a b n : Int32) : Int32 := if ¬ ((0 ≤ a ∧ a < nI (nN σ)) ∧ (0 ≤ b ∧ b < nI (nN σ))) then -1001 else if a = b ∨ ¬ (1 ≤ n ∧ n ≤ 20) then -1002 else dA (itQ σ n) a.toNatClampNeg - dA (itD (gE σ) (seesE σ) (-1) n.toNatClampNeg (orW (gD σ) b.toNatClampNeg)) a.toNatClampNeg
theorem StF.up7 {b : Nat} {S : SS} {x : Int32} : StF b S (upS S b 7 x) := ⟨fun j h1 _ _ _ => upS_off _ _ _ _ h1, fun k h1 _ => by rw [upS_row]; exact pk_un h1⟩
theorem StF.up3 {b : Nat} {S : SS} {c : Nat} {x : Int32} : StF b S (upS S (b + 3) c x) := ⟨fun j _ h2 _ _ => upS_off _ _ _ _ h2, fun k _ _ => by rw [upS_off _ _ _ _ (by omega)]⟩
theorem ScR.putW {b : Nat} (hb : Sc b) {S : SS} {E : EN} {D : DY} (h : ScR b S E D) (c : Nat) (x : Int32) : ScR b (upS (upS S (b + 3) c x) b 7 (dW D &&& ((1 <<< (nI c &&& 31)) ^^^ (-1)))) E (putW D c x) := by
  have hbl := hb.le
  refine h.step hb (StF.up3.trans StF.up7) (fun c' hc => ?_) (upS_at _ _ _ _) ?_ h.2.2.2.2.2.2.2.2.2.2.1 (fun c' hc => ?_)
  · rw [upS_off _ _ _ _ (by omega), upS_row]
    show upd (S (b + 3)) c x c' = upd (dA D) c x c'
    by_cases e : c' = c
    · rw [e, pk_us, pk_us]
    · rw [pk_un e, pk_un e]; exact h.a hc
  · rw [upS_row]
    show upd _ 7 _ 9 = _
    rw [pk_un (by decide), upS_off _ _ _ _ (by omega)]; exact h.2.2.2.2.2.2.2.2.2.1
  · rw [upS_off _ _ _ _ (by omega), upS_off _ _ _ _ (by omega)]; exact h.2.2.2.2.2.2.2.2.2.2.2 c' hc
theorem ScR.orW {b : Nat} (hb : Sc b) {S : SS} {E : EN} {D : DY} (h : ScR b S E D) (c : Nat) : ScR b (upS S b 7 (dW D ||| (1 <<< (nI c &&& 31)))) E (orW D c) := by
  have hbl := hb.le
  refine h.step hb StF.up7 (fun c' hc => ?_) (upS_at _ _ _ _) ?_ h.2.2.2.2.2.2.2.2.2.2.1 (fun c' hc => ?_)
  · rw [upS_off _ _ _ _ (by omega)]; exact h.a hc
  · rw [upS_row, pk_un (by decide)]; exact h.2.2.2.2.2.2.2.2.2.1
  · rw [upS_off _ _ _ _ (by omega)]; exact h.2.2.2.2.2.2.2.2.2.2.2 c' hc

set_option maxRecDepth 20000 in
set_option maxHeartbeats 1000000 in
theorem c_putOnTheWay (g : GG) {b : Nat} (hb : Sc b) (c : Nat) (x : Int32) (S : SS) (L : LL) (hc : c < 7) : Cv g 0 mX5_putOnTheWay [.ref b, .int (nI c), .int x] SHC S L (fun S' L' => S' = upS (upS S (b + 3) c x) b 7 (S b 7 &&& ((1 <<< (nI c &&& 31)) ^^^ (-1))) ∧ L' = L) := by
  have hbl := hb.le
  have hci : (nI c).toNatClampNeg = c := nI_clamp (by omega)
  have hvc : vp_in (nI c) 7 := vp_in_nI hc (by omega)
  refine ct_of (ls := [some (.ref b), some (.int (nI c)), some (.int x)]) 0 (by decide +kernel) rfl rfl ?_
  refine rx_aload_n dX5_putOnTheWay_0 rfl ?_
  refine rx_getR dX5_putOnTheWay_1 flX5_18 (scO hb) rfl ?_
  refine rx_iload_n dX5_putOnTheWay_4 rfl ?_
  refine rx_iload_n dX5_putOnTheWay_5 rfl ?_
  refine rx_iastore dX5_putOnTheWay_6 (scA3 hb) hvc ?_
  rw [hci]
  refine rx_aload_n dX5_putOnTheWay_7 rfl ?_
  refine rx_dup dX5_putOnTheWay_8 rfl ?_
  refine rx_getI dX5_putOnTheWay_9 flX5_62 (scO hb) rfl ?_
  simp (disch := omega) only [upS_off]
  refine rx_iconst (1) dX5_putOnTheWay_12 (by decide) ?_
  refine rx_iload_n dX5_putOnTheWay_13 rfl ?_
  refine rx_ishl dX5_putOnTheWay_14 ?_
  refine rx_iconst (-1) dX5_putOnTheWay_15 (by decide) ?_
  refine rx_ixor dX5_putOnTheWay_16 ?_
  refine rx_iand dX5_putOnTheWay_17 ?_
  refine rx_putI dX5_putOnTheWay_18 flX5_62 (scO hb) rfl ?_
  exact rx_vret dX5_putOnTheWay_21 rfl ⟨Nat.le_refl _, Nat.le_refl _⟩ ⟨rfl, rfl, ⟨rfl, rfl⟩⟩
set_option maxRecDepth 20000 in
set_option maxHeartbeats 400000 in
theorem cc_needs (g : GG) (σ : SIG) (c n : Int32) (S : SS) (L : LL) (hr : CRel S L σ) : Ci g 7 mX11_needs [.ref 0, .int c, .int n] SHC S L (fun r S' L' => r = aNeeds σ c n ∧ CRel S' L' σ) := by
  have hsz : S 53 6 = nI (nN σ) := hr.sc.1
  refine ct_of (ls := [some (.ref 0), some (.int c), some (.int n), none]) 1 (by decide +kernel) rfl rfl ?_
  refine rx_aload_n dX11_needs_0 rfl ?_
  refine rx_getR dX11_needs_1 flX11_54 (sC_0) rfl ?_
  refine rx_iload_n dX11_needs_4 rfl ?_
  refine rx_cVi_1 clX11_104 dX11_needs_5 (rcvo (sC_53) rfl) rfl (c_has g S53 _ S L) ?_
  refine pur3 ?_
  rw [hsz]
  refine rx_if_ne 13 dX11_needs_8 (by decide) (fun h8 => ?_) (fun h8 => ?_)
  · have hq := b2i_ne h8
    obtain ⟨c, hc, rfl⟩ := rngL (nN σ) (by have := hr.n7; unfold nN; omega) hq.1 hq.2
    have hc7 : c < 7 := by have := hr.n7; unfold nN at hc; omega
    have hci : (nI c).toNatClampNeg = c := nI_clamp (by omega)
    have hvc : vp_in (nI c) 7 := vp_in_nI hc7 (by omega)
    refine rx_iload_n dX11_needs_13 rfl ?_
    refine rx_iconst (1) dX11_needs_14 (by decide) ?_
    refine rx_bipush (8) dX11_needs_15 (by decide) ?_
    refine rx_cSi_3 clX11_92 dX11_needs_17 rfl (c_within g _ _ _ S L) ?_
    refine pur3 ?_
    refine rx_if_ne 26 dX11_needs_20 (by decide) (fun h20 => ?_) (fun h20 => ?_)
    · have hq2 := b2i_ne h20
      obtain ⟨m, hm, rfl⟩ := rngI 8 (by omega) (Int32.le_trans (by decide) hq2.1) hq2.2
      have hmc : (nI m).toNatClampNeg = m := nI_clamp (by omega)
      refine rx_iconst (0) dX11_needs_26 (by decide) ?_
      refine rx_istore_3 rfl dX11_needs_27 ?_
      obtain ⟨F, hF1, hF2, hF⟩ := hr.en.2.2.2.2.2.2.1
      have loop : ∀ (r a : Nat) (S1 : SS), a + r = F → CRel S1 L σ → ndC σ c m r a = ndC σ c m F 0 → Rx g 7 0 0 mX11_needs SHC.length (fun r sh' S' L' => sh' = SHC ∧ ∃ x, r = some (.int x) ∧ (x = aNeeds σ (nI c) (nI m) ∧ CRel S' L' σ)) 0 0 28 [some (.ref 0), some (.int (nI c)), some (.int (nI m)), some (.int (nI a))] [] SHC S1 L := by
        intro r
        induction r with
        | zero =>
          intro a S1 he hr1 hev
          obtain ⟨y, hy, hyS, hY⟩ := hr1.sc.2.2.2.2.2.2.1
          have hcy : (nI y).toNatClampNeg = y := nI_clamp (by omega)
          refine rx_iload_n dX11_needs_28 rfl ?_
          refine rx_aload_n dX11_needs_29 rfl ?_
          refine rx_getR dX11_needs_30 flX11_54 (sC_0) rfl ?_
          refine rx_getD dX11_needs_33 flX11_139 (sC_53) rfl ?_
          rw [hyS, hcy]
          refine rx_getI dX11_needs_36 flX11_143 (syO hy) rfl ?_
          rw [hY.2.2.2.1, hF]
          refine rx_icmp_ge 94 dX11_needs_39 (by decide) (fun h39 => ?_) (fun h39 => absurd (nI_le (by omega) (by omega)) h39)
          refine rx_bipush (-5) dX11_needs_94 (by decide) ?_
          exact rx_iret dX11_needs_96 rfl ⟨Nat.le_refl _, Nat.le_refl _⟩ ⟨rfl, _, rfl, ⟨by unfold aNeeds; rw [if_neg (fun q => q hq), if_neg (fun q => q hq2), hci, hmc, hF, nI_clamp (by omega), ← hev]; rfl, hr1⟩⟩
        | succ r ih =>
          intro a S1 he hr1 hev
          obtain ⟨y, hy, hyS, hY⟩ := hr1.sc.2.2.2.2.2.2.1
          have hcy : (nI y).toNatClampNeg = y := nI_clamp (by omega)
          refine rx_iload_n dX11_needs_28 rfl ?_
          refine rx_aload_n dX11_needs_29 rfl ?_
          refine rx_getR dX11_needs_30 flX11_54 (sC_0) rfl ?_
          refine rx_getD dX11_needs_33 flX11_139 (sC_53) rfl ?_
          rw [hyS, hcy]
          refine rx_getI dX11_needs_36 flX11_143 (syO hy) rfl ?_
          rw [hY.2.2.2.1, hF]
          refine rx_icmp_ge 94 dX11_needs_39 (by decide) (fun h39 => absurd h39 (nI_ge (by omega) (by omega))) (fun h39 => ?_)
          refine rx_aload_n dX11_needs_42 rfl ?_
          refine rx_getR dX11_needs_43 flX11_58 (sC_0) rfl ?_
          refine rx_aload_n dX11_needs_46 rfl ?_
          refine rx_getR dX11_needs_47 flX11_54 (sC_0) rfl ?_
          refine rx_cVv_1 clX11_182 dX11_needs_50 (rcvo (sC_66) rfl) rfl (c_copyFrom g S53 S66 (by decide) S1 L hr1.y) ?_
          rintro S2 L2 ⟨hC1, hL2⟩
          rw [hL2]
          have hR1 := hr1.sc.copy S53 S66 hC1
          refine rx_aload_n dX11_needs_53 rfl ?_
          refine rx_getR dX11_needs_54 flX11_58 (sC_0) rfl ?_
          refine rx_iload_n dX11_needs_57 rfl ?_
          refine rx_iload_n dX11_needs_58 rfl ?_
          refine rx_cVv_2 clX11_146 dX11_needs_59 (rcvo (sC_66) rfl) rfl (c_putOnTheWay g S66 c (nI a) S2 L hc7) ?_
          rintro S3 L3 ⟨hS3, hL3⟩
          rw [hL3]
          have hR3 : ScR 66 S3 (gE σ) (putW (gD σ) c (nI a)) := by rw [hS3, hR1.w]; exact hR1.putW S66 c (nI a)
          have hk3 : Kp S2 S3 := by rw [hS3]; exact (Kp.up (by decide)).trans (Kp.up (by decide))
          refine rx_aload_n dX11_needs_62 rfl ?_
          refine rx_getR dX11_needs_63 flX11_69 (sC_0) rfl ?_
          refine rx_aload_n dX11_needs_66 rfl ?_
          refine rx_getR dX11_needs_67 flX11_58 (sC_0) rfl ?_
          refine rx_iload_n dX11_needs_70 rfl ?_
          refine rx_cVi_2 clX11_178 dX11_needs_71 (rcvo (sC_92) rfl) rfl (c_pass g S66 (gE σ) (putW (gD σ) c (nI a)) m S3 L hr1.en hR3 (by show dT (gD σ) + m < 19999; have := hr1.t; omega)) ?_
          rintro x4 S4 L4 ⟨hx4, hR4, hF4, hL4⟩
          rw [hL4]
          have hr4 := hr1.kp (((Kp.cp hC1).trans hk3).trans (Kp.st hF4))
          refine rx_pop dX11_needs_74 rfl ?_
          refine rx_aload_n dX11_needs_75 rfl ?_
          refine rx_getR dX11_needs_76 flX11_58 (sC_0) rfl ?_
          refine rx_iload_n dX11_needs_79 rfl ?_
          refine rx_cVi_1 clX11_127 dX11_needs_80 (rcvo (sC_66) rfl) rfl (c_isAtWall g S66 (nI c) S4 L) ?_
          refine pur3 ?_
          refine rx_if_eq 88 dX11_needs_83 (by decide) (fun h83 => ?_) (fun h83 => ?_)
          · refine rx_iinc_3 (1) rfl dX11_needs_88 (by decide) ?_
            refine rx_goto 28 dX11_needs_91 (by decide) ?_
            rw [nI_1]
            exact ih (a + 1) S4 (by omega) hr4 (by rw [← hev]; exact (if_neg (fun q => b2i_eq h83 (by rw [hR4.w]; exact q))).symm)
          · refine rx_iload_n dX11_needs_86 rfl ?_
            exact rx_iret dX11_needs_87 rfl ⟨Nat.le_refl _, Nat.le_refl _⟩ ⟨rfl, _, rfl, ⟨by unfold aNeeds; rw [if_neg (fun q => q hq), if_neg (fun q => q hq2), hci, hmc, hF, nI_clamp (by omega), ← hev]; exact (if_pos (show ¬ bitv (dW (ndD σ c m a)) (nI c) = 0 from by rw [show dW (ndD σ c m a) = S4 66 7 from hR4.w.symm]; exact b2i_ne h83)).symm, hr4⟩⟩
      exact loop F 0 S (by omega) hr rfl
    · refine rx_bipush (-2) dX11_needs_23 (by decide) ?_
      exact rx_iret dX11_needs_25 rfl ⟨Nat.le_refl _, Nat.le_refl _⟩ ⟨rfl, _, rfl, ⟨by unfold aNeeds; rw [if_neg (fun q => q hq), if_pos (b2i_eq h20)], hr⟩⟩
  · refine rx_iconst (-1) dX11_needs_11 (by decide) ?_
    exact rx_iret dX11_needs_12 rfl ⟨Nat.le_refl _, Nat.le_refl _⟩ ⟨rfl, _, rfl, ⟨(if_pos (b2i_eq h8)).symm, hr⟩⟩
set_option maxRecDepth 20000 in
set_option maxHeartbeats 400000 in
theorem cc_held (g : GG) (σ : SIG) (c n : Int32) (S : SS) (L : LL) (hr : CRel S L σ) : Ci g 7 mX11_held [.ref 0, .int c, .int n] SHC S L (fun r S' L' => r = aHeld σ c n ∧ CRel S' L' σ) := by
  have hsz : S 53 6 = nI (nN σ) := hr.sc.1
  refine ct_of (ls := [some (.ref 0), some (.int c), some (.int n), none, none, none, none]) 4 (by decide +kernel) rfl rfl ?_
  refine rx_aload_n dX11_held_0 rfl ?_
  refine rx_getR dX11_held_1 flX11_54 (sC_0) rfl ?_
  refine rx_iload_n dX11_held_4 rfl ?_
  refine rx_cVi_1 clX11_104 dX11_held_5 (rcvo (sC_53) rfl) rfl (c_has g S53 _ S L) ?_
  refine pur3 ?_
  rw [hsz]
  refine rx_if_ne 13 dX11_held_8 (by decide) (fun h8 => ?_) (fun h8 => ?_)
  · have hq := b2i_ne h8
    obtain ⟨c, hc, rfl⟩ := rngL (nN σ) (by have := hr.n7; unfold nN; omega) hq.1 hq.2
    have hc7 : c < 7 := by have := hr.n7; unfold nN at hc; omega
    have hci : (nI c).toNatClampNeg = c := nI_clamp (by omega)
    have hvc : vp_in (nI c) 7 := vp_in_nI hc7 (by omega)
    refine rx_iload_n dX11_held_13 rfl ?_
    refine rx_iconst (1) dX11_held_14 (by decide) ?_
    refine rx_bipush (20) dX11_held_15 (by decide) ?_
    refine rx_cSi_3 clX11_92 dX11_held_17 rfl (c_within g _ _ _ S L) ?_
    refine pur3 ?_
    refine rx_if_ne 26 dX11_held_20 (by decide) (fun h20 => ?_) (fun h20 => ?_)
    · have hq2 := b2i_ne h20
      obtain ⟨m, hm, rfl⟩ := rngI 20 (by omega) (Int32.le_trans (by decide) hq2.1) hq2.2
      have hmc : (nI m).toNatClampNeg = m := nI_clamp (by omega)
      refine rx_iconst (0) dX11_held_26 (by decide) ?_
      refine rx_istore_3 rfl dX11_held_27 ?_
      refine rx_iconst (-1) dX11_held_28 (by decide) ?_
      refine rx_istore_4 rfl dX11_held_29 ?_
      refine rx_iconst (0) dX11_held_31 (by decide) ?_
      refine rx_istore_5 rfl dX11_held_32 ?_
      have loop : ∀ (r k : Nat) (S1 : SS), k + r = m + 1 → CRel S1 L σ → Rx g 7 0 0 mX11_held SHC.length (fun r sh' S' L' => sh' = SHC ∧ ∃ x, r = some (.int x) ∧ (x = aHeld σ (nI c) (nI m) ∧ CRel S' L' σ)) 0 0 34 [some (.ref 0), some (.int (nI c)), some (.int (nI m)), some (.int (hlC σ c m k).1), some (.int (hlC σ c m k).2), some (.int (nI k)), none] [] SHC S1 L := by
        intro r
        induction r with
        | zero =>
          intro k S1 he hr1
          refine rx_iload dX11_held_34 rfl ?_
          refine rx_iload_n dX11_held_36 rfl ?_
          refine rx_icmp_gt 134 dX11_held_37 (by decide) (fun h37 => ?_) (fun h37 => absurd (nI_lt (a := m) (b := k) (by omega) (by omega)) h37)
          refine rx_iload_n dX11_held_134 rfl ?_
          exact rx_iret dX11_held_135 rfl ⟨Nat.le_refl _, Nat.le_refl _⟩ ⟨rfl, _, rfl, ⟨by unfold aHeld; rw [if_neg (fun q => q hq), if_neg (fun q => q hq2), hci, hmc, show m + 1 = k by omega], hr1⟩⟩
        | succ r ih =>
          intro k S1 he hr1
          refine rx_iload dX11_held_34 rfl ?_
          refine rx_iload_n dX11_held_36 rfl ?_
          refine rx_icmp_gt 134 dX11_held_37 (by decide) (fun h37 => absurd h37 (Int32.not_lt.mpr (nI_le (a := k) (b := m) (by omega) (by omega)))) (fun h37 => ?_)
          refine rx_aload_n dX11_held_40 rfl ?_
          refine rx_getR dX11_held_41 flX11_58 (sC_0) rfl ?_
          refine rx_aload_n dX11_held_44 rfl ?_
          refine rx_getR dX11_held_45 flX11_54 (sC_0) rfl ?_
          refine rx_cVv_1 clX11_182 dX11_held_48 (rcvo (sC_66) rfl) rfl (c_copyFrom g S53 S66 (by decide) S1 L hr1.y) ?_
          rintro S2 L2 ⟨hC1, hL2⟩
          rw [hL2]
          have hR1 := hr1.sc.copy S53 S66 hC1
          refine rx_iconst (0) dX11_held_51 (by decide) ?_
          refine rx_istore_6 rfl dX11_held_52 ?_
          have inner : ∀ (q i : Nat) (S3 : SS), i + q = m → ScR 66 S3 (gE σ) (hlD σ c k i) → Kp S1 S3 → Rx g 7 0 0 mX11_held SHC.length (fun r sh' S' L' => sh' = SHC ∧ ∃ x, r = some (.int x) ∧ (x = aHeld σ (nI c) (nI m) ∧ CRel S' L' σ)) 0 0 54 [some (.ref 0), some (.int (nI c)), some (.int (nI m)), some (.int (hlC σ c m k).1), some (.int (hlC σ c m k).2), some (.int (nI k)), some (.int (nI i))] [] SHC S3 L := by
            intro q
            induction q with
            | zero =>
              intro i S3 hi hR3 hk3
              obtain rfl : m = i := by omega
              have hr3 := hr1.kp hk3
              refine rx_iload dX11_held_54 rfl ?_
              refine rx_iload_n dX11_held_56 rfl ?_
              refine rx_icmp_ge 100 dX11_held_57 (by decide) (fun h57 => ?_) (fun h57 => absurd (nI_le (by omega) (by omega)) h57)
              refine rx_aload_n dX11_held_100 rfl ?_
              refine rx_getR dX11_held_101 flX11_58 (sC_0) rfl ?_
              refine rx_getR dX11_held_104 flX11_118 (sC_66) rfl ?_
              refine rx_iload_n dX11_held_107 rfl ?_
              refine rx_iaload dX11_held_108 (sC_69) hvc ?_
              rw [hci, hR3.a hc7]
              refine rx_iload dX11_held_109 rfl ?_
              refine rx_icmp_le 128 dX11_held_111 (by decide) (fun h111 => ?_) (fun h111 => ?_)
              · have e1 : hlC σ c m (k + 1) = hlC σ c m k := if_neg (Int32.not_lt.mpr h111)
                refine rx_iinc_5 (1) rfl dX11_held_128 (by decide) ?_
                refine rx_goto 34 dX11_held_131 (by decide) ?_
                refine rx_wk [some (.ref 0), some (.int (nI c)), some (.int (nI m)), some (.int _), some (.int _), some (.int _), none] ⟨Or.inr rfl, Or.inr rfl, Or.inr rfl, Or.inr rfl, Or.inr rfl, Or.inr rfl, Or.inl rfl, trivial⟩ ?_
                rw [nI_1]
                have hg := ih (k + 1) S3 (by omega) hr3
                rw [e1] at hg
                exact hg
              · refine rx_aload_n dX11_held_114 rfl ?_
                refine rx_getR dX11_held_115 flX11_58 (sC_0) rfl ?_
                refine rx_getR dX11_held_118 flX11_118 (sC_66) rfl ?_
                refine rx_iload_n dX11_held_121 rfl ?_
                refine rx_iaload dX11_held_122 (sC_69) hvc ?_
                rw [hci, hR3.a hc7]
                refine rx_istore_4 rfl dX11_held_123 ?_
                refine rx_iload dX11_held_125 rfl ?_
                refine rx_istore_3 rfl dX11_held_127 ?_
                have e1 : hlC σ c m (k + 1) = (nI k, dA (hlD σ c k m) c) := if_pos (Int32.not_le.mp h111)
                refine rx_iinc_5 (1) rfl dX11_held_128 (by decide) ?_
                refine rx_goto 34 dX11_held_131 (by decide) ?_
                refine rx_wk [some (.ref 0), some (.int (nI c)), some (.int (nI m)), some (.int _), some (.int _), some (.int _), none] ⟨Or.inr rfl, Or.inr rfl, Or.inr rfl, Or.inr rfl, Or.inr rfl, Or.inr rfl, Or.inl rfl, trivial⟩ ?_
                rw [nI_1]
                have hg := ih (k + 1) S3 (by omega) hr3
                rw [e1] at hg
                exact hg
            | succ q ih2 =>
              intro i S3 hi hR3 hk3
              obtain ⟨y, hy, hyS, hY⟩ := hR3.2.2.2.2.2.2.1
              have hcy : (nI y).toNatClampNeg = y := nI_clamp (by omega)
              refine rx_iload dX11_held_54 rfl ?_
              refine rx_iload_n dX11_held_56 rfl ?_
              refine rx_icmp_ge 100 dX11_held_57 (by decide) (fun h57 => absurd h57 (nI_ge (by omega) (by omega))) (fun h57 => ?_)
              refine rx_aload_n dX11_held_60 rfl ?_
              refine rx_getR dX11_held_61 flX11_69 (sC_0) rfl ?_
              refine rx_aload_n dX11_held_64 rfl ?_
              refine rx_getR dX11_held_65 flX11_58 (sC_0) rfl ?_
              refine rx_aload_n dX11_held_68 rfl ?_
              refine rx_getR dX11_held_69 flX11_58 (sC_0) rfl ?_
              refine rx_getD dX11_held_72 flX11_139 (sC_66) rfl ?_
              rw [hyS, hcy]
              refine rx_getI dX11_held_75 flX11_172 (syO hy) rfl ?_
              rw [hY.2.2.2.2.2]
              refine rx_iload dX11_held_78 rfl ?_
              refine rx_iload dX11_held_80 rfl ?_
              refine rx_icmp_ge 89 dX11_held_82 (by decide) (fun h82 => ?_) (fun h82 => ?_)
              · have hik : ¬ i < k := fun q => nI_ge q (by omega) h82
                refine rx_iconst (-1) dX11_held_89 (by decide) ?_
                refine rx_cVi_3 clX11_203 dX11_held_90 (rcvo (sC_92) rfl) rfl (c_step g S66 (gE σ) (hlD σ c k i) (eY (gE σ)).2.2.1 _ S3 L hr1.en hR3 (by rw [hlD_T]; have := hr1.t; omega) (by first | exact Or.inl rfl | exact Or.inr ⟨c, hc, rfl⟩)) ?_
                rintro x4 S4 L4 ⟨hx4, hR4, hF4, hL4⟩
                rw [hL4]
                refine rx_pop dX11_held_93 rfl ?_
                refine rx_iinc_6 (1) rfl dX11_held_94 (by decide) ?_
                refine rx_goto 54 dX11_held_97 (by decide) ?_
                rw [nI_1]
                exact ih2 (i + 1) S4 (by omega) (show ScR 66 S4 (gE σ) (stepD (gE σ) (seesE σ) (if i < k then nI c else -1) (hlD σ c k i)) from by first | (rw [if_pos hik]; exact hR4) | (rw [if_neg hik]; exact hR4)) (hk3.trans (Kp.st hF4))
              · have hik : i < k := by
                  rcases Nat.lt_or_ge i k with q | q
                  · exact q
                  · exact absurd (nI_le q (by omega)) h82
                refine rx_iload_n dX11_held_85 rfl ?_
                refine rx_goto 90 dX11_held_86 (by decide) ?_
                refine rx_cVi_3 clX11_203 dX11_held_90 (rcvo (sC_92) rfl) rfl (c_step g S66 (gE σ) (hlD σ c k i) (eY (gE σ)).2.2.1 _ S3 L hr1.en hR3 (by rw [hlD_T]; have := hr1.t; omega) (by first | exact Or.inl rfl | exact Or.inr ⟨c, hc, rfl⟩)) ?_
                rintro x4 S4 L4 ⟨hx4, hR4, hF4, hL4⟩
                rw [hL4]
                refine rx_pop dX11_held_93 rfl ?_
                refine rx_iinc_6 (1) rfl dX11_held_94 (by decide) ?_
                refine rx_goto 54 dX11_held_97 (by decide) ?_
                rw [nI_1]
                exact ih2 (i + 1) S4 (by omega) (show ScR 66 S4 (gE σ) (stepD (gE σ) (seesE σ) (if i < k then nI c else -1) (hlD σ c k i)) from by first | (rw [if_pos hik]; exact hR4) | (rw [if_neg hik]; exact hR4)) (hk3.trans (Kp.st hF4))
          exact inner m 0 S2 (by omega) hR1 (Kp.cp hC1)
      exact loop (m + 1) 0 S (by omega) hr
    · refine rx_bipush (-2) dX11_held_23 (by decide) ?_
      exact rx_iret dX11_held_25 rfl ⟨Nat.le_refl _, Nat.le_refl _⟩ ⟨rfl, _, rfl, ⟨by unfold aHeld; rw [if_neg (fun q => q hq), if_pos (b2i_eq h20)], hr⟩⟩
  · refine rx_iconst (-1) dX11_held_11 (by decide) ?_
    exact rx_iret dX11_held_12 rfl ⟨Nat.le_refl _, Nat.le_refl _⟩ ⟨rfl, _, rfl, ⟨(if_pos (b2i_eq h8)).symm, hr⟩⟩
set_option maxRecDepth 20000 in
set_option maxHeartbeats 400000 in
theorem cc_shield (g : GG) (σ : SIG) (a b n : Int32) (S : SS) (L : LL) (hr : CRel S L σ) : Ci g 7 mX11_shield [.ref 0, .int a, .int b, .int n] SHC S L (fun r S' L' => r = aShield σ a b n ∧ CRel S' L' σ) := by
  have hsz : S 53 6 = nI (nN σ) := hr.sc.1
  refine ct_of (ls := [some (.ref 0), some (.int a), some (.int b), some (.int n), none]) 1 (by decide +kernel) rfl rfl ?_
  refine rx_aload_n dX11_shield_0 rfl ?_
  refine rx_getR dX11_shield_1 flX11_54 (sC_0) rfl ?_
  refine rx_iload_n dX11_shield_4 rfl ?_
  refine rx_cVi_1 clX11_104 dX11_shield_5 (rcvo (sC_53) rfl) rfl (c_has g S53 _ S L) ?_
  refine pur3 ?_
  rw [hsz]
  refine rx_if_eq 22 dX11_shield_8 (by decide) (fun h8 => ?_) (fun h8 => ?_)
  · refine rx_sipush (-1001) dX11_shield_22 (by decide) ?_
    exact rx_iret dX11_shield_25 rfl ⟨Nat.le_refl _, Nat.le_refl _⟩ ⟨rfl, _, rfl, ⟨by unfold aShield; rw [if_pos (by first | exact fun q => b2i_eq h8 q.1 | exact fun q => b2i_eq h19 q.2)], hr⟩⟩
  · refine rx_aload_n dX11_shield_11 rfl ?_
    refine rx_getR dX11_shield_12 flX11_54 (sC_0) rfl ?_
    refine rx_iload_n dX11_shield_15 rfl ?_
    refine rx_cVi_1 clX11_104 dX11_shield_16 (rcvo (sC_53) rfl) rfl (c_has g S53 _ S L) ?_
    refine pur3 ?_
    rw [hsz]
    refine rx_if_ne 26 dX11_shield_19 (by decide) (fun h19 => ?_) (fun h19 => ?_)
    · have hq : (0 ≤ a ∧ a < nI (nN σ)) ∧ (0 ≤ b ∧ b < nI (nN σ)) := ⟨b2i_ne h8, b2i_ne h19⟩
      refine rx_iload_n dX11_shield_26 rfl ?_
      refine rx_iload_n dX11_shield_27 rfl ?_
      refine rx_icmp_eq 41 dX11_shield_28 (by decide) (fun h28 => ?_) (fun h28 => ?_)
      · refine rx_sipush (-1002) dX11_shield_41 (by decide) ?_
        exact rx_iret dX11_shield_44 rfl ⟨Nat.le_refl _, Nat.le_refl _⟩ ⟨rfl, _, rfl, ⟨by unfold aShield; rw [if_neg (fun q => q hq), if_pos (by first | exact Or.inl h28 | exact Or.inr (b2i_eq h38))], hr⟩⟩
      · refine rx_iload_n dX11_shield_31 rfl ?_
        refine rx_iconst (1) dX11_shield_32 (by decide) ?_
        refine rx_bipush (20) dX11_shield_33 (by decide) ?_
        refine rx_cSi_3 clX11_92 dX11_shield_35 rfl (c_within g _ _ _ S L) ?_
        refine pur3 ?_
        refine rx_if_ne 45 dX11_shield_38 (by decide) (fun h38 => ?_) (fun h38 => ?_)
        · have hq2 := b2i_ne h38
          have hq3 := hq
          obtain ⟨m, hm, rfl⟩ := rngI 20 (by omega) (Int32.le_trans (by decide) hq2.1) hq2.2
          have hmc : (nI m).toNatClampNeg = m := nI_clamp (by omega)
          obtain ⟨a1, ha, rfl⟩ := rngL (nN σ) (by have := hr.n7; unfold nN; omega) hq.1.1 hq.1.2
          have ha7 : a1 < 7 := by have := hr.n7; unfold nN at ha; omega
          have hai : (nI a1).toNatClampNeg = a1 := nI_clamp (by omega)
          obtain ⟨b1, hb, rfl⟩ := rngL (nN σ) (by have := hr.n7; unfold nN; omega) hq3.2.1 hq3.2.2
          have hb7 : b1 < 7 := by have := hr.n7; unfold nN at hb; omega
          have hbi : (nI b1).toNatClampNeg = b1 := nI_clamp (by omega)
          have hva : vp_in (nI a1) 7 := vp_in_nI ha7 (by omega)
          refine rx_aload_n dX11_shield_45 rfl ?_
          refine rx_getR dX11_shield_46 flX11_58 (sC_0) rfl ?_
          refine rx_aload_n dX11_shield_49 rfl ?_
          refine rx_getR dX11_shield_50 flX11_54 (sC_0) rfl ?_
          refine rx_cVv_1 clX11_182 dX11_shield_53 (rcvo (sC_66) rfl) rfl (c_copyFrom g S53 S66 (by decide) S L hr.y) ?_
          rintro S1 L1 ⟨hC1, hL1⟩
          rw [hL1]
          have hR1 := hr.sc.copy S53 S66 hC1
          refine rx_aload_n dX11_shield_56 rfl ?_
          refine rx_getR dX11_shield_57 flX11_69 (sC_0) rfl ?_
          refine rx_aload_n dX11_shield_60 rfl ?_
          refine rx_getR dX11_shield_61 flX11_58 (sC_0) rfl ?_
          refine rx_iload_n dX11_shield_64 rfl ?_
          refine rx_cVi_2 clX11_178 dX11_shield_65 (rcvo (sC_92) rfl) rfl (c_pass g S66 (gE σ) (gD σ) m S1 L hr.en hR1 (by have := hr.t; omega)) ?_
          rintro x2 S2 L2 ⟨hx2, hR2, hF2, hL2⟩
          rw [hL2]
          have hr2 := hr.kp ((Kp.cp hC1).trans (Kp.st hF2))
          refine rx_pop dX11_shield_68 rfl ?_
          refine rx_aload_n dX11_shield_69 rfl ?_
          refine rx_getR dX11_shield_70 flX11_58 (sC_0) rfl ?_
          refine rx_getR dX11_shield_73 flX11_118 (sC_66) rfl ?_
          refine rx_iload_n dX11_shield_76 rfl ?_
          refine rx_iaload dX11_shield_77 (sC_69) hva ?_
          rw [hai, hR2.a ha7]
          refine rx_istore_4 rfl dX11_shield_78 ?_
          refine rx_aload_n dX11_shield_80 rfl ?_
          refine rx_getR dX11_shield_81 flX11_58 (sC_0) rfl ?_
          refine rx_aload_n dX11_shield_84 rfl ?_
          refine rx_getR dX11_shield_85 flX11_54 (sC_0) rfl ?_
          refine rx_cVv_1 clX11_182 dX11_shield_88 (rcvo (sC_66) rfl) rfl (c_copyFrom g S53 S66 (by decide) S2 L hr2.y) ?_
          rintro S3 L3 ⟨hC3, hL3⟩
          rw [hL3]
          have hR3 := hr2.sc.copy S53 S66 hC3
          refine rx_aload_n dX11_shield_91 rfl ?_
          refine rx_getR dX11_shield_92 flX11_58 (sC_0) rfl ?_
          refine rx_dup dX11_shield_95 rfl ?_
          refine rx_getI dX11_shield_96 flX11_175 (sC_66) rfl ?_
          rw [hR3.w]
          refine rx_iconst (1) dX11_shield_99 (by decide) ?_
          refine rx_iload_n dX11_shield_100 rfl ?_
          refine rx_ishl dX11_shield_101 ?_
          refine rx_ior dX11_shield_102 ?_
          refine rx_putI dX11_shield_103 flX11_175 (sC_66) rfl ?_
          refine rx_aload_n dX11_shield_106 rfl ?_
          refine rx_getR dX11_shield_107 flX11_69 (sC_0) rfl ?_
          refine rx_aload_n dX11_shield_110 rfl ?_
          refine rx_getR dX11_shield_111 flX11_58 (sC_0) rfl ?_
          refine rx_iload_n dX11_shield_114 rfl ?_
          refine rx_cVi_2 clX11_178 dX11_shield_115 (rcvo (sC_92) rfl) rfl (c_pass g S66 (gE σ) (orW (gD σ) b1) m _ L hr.en (hR3.orW S66 b1) (by show dT (gD σ) + m < 19999; have := hr.t; omega)) ?_
          rintro x5 S5 L5 ⟨hx5, hR5, hF5, hL5⟩
          rw [hL5]
          have hr5 := hr2.kp (((Kp.cp hC3).trans (Kp.up (by decide))).trans (Kp.st hF5))
          refine rx_pop dX11_shield_118 rfl ?_
          refine rx_iload dX11_shield_119 rfl ?_
          refine rx_aload_n dX11_shield_121 rfl ?_
          refine rx_getR dX11_shield_122 flX11_58 (sC_0) rfl ?_
          refine rx_getR dX11_shield_125 flX11_118 (sC_66) rfl ?_
          refine rx_iload_n dX11_shield_128 rfl ?_
          refine rx_iaload dX11_shield_129 (sC_69) hva ?_
          rw [hai, hR5.a ha7]
          refine rx_isub dX11_shield_130 ?_
          exact rx_iret dX11_shield_131 rfl ⟨Nat.le_refl _, Nat.le_refl _⟩ ⟨rfl, _, rfl, ⟨by unfold aShield itQ; rw [if_neg (fun q => q hq), if_neg (by rintro (q | q); exact h28 q; exact q hq2), hai, hbi, hmc]; rfl, hr5⟩⟩
        · refine rx_sipush (-1002) dX11_shield_41 (by decide) ?_
          exact rx_iret dX11_shield_44 rfl ⟨Nat.le_refl _, Nat.le_refl _⟩ ⟨rfl, _, rfl, ⟨by unfold aShield; rw [if_neg (fun q => q hq), if_pos (by first | exact Or.inl h28 | exact Or.inr (b2i_eq h38))], hr⟩⟩
    · refine rx_sipush (-1001) dX11_shield_22 (by decide) ?_
      exact rx_iret dX11_shield_25 rfl ⟨Nat.le_refl _, Nat.le_refl _⟩ ⟨rfl, _, rfl, ⟨by unfold aShield; rw [if_pos (by first | exact fun q => b2i_eq h8 q.1 | exact fun q => b2i_eq h19 q.2)], hr⟩⟩
