-- a TURN, purely
def goH (E : EN) (hd : Int32) (D : DY) (c : Nat) : Int32 := if nI c = hd then 0 else goeN E D c
def woH (E : EN) (hd : Int32) (D : DY) (c : Nat) : Int32 := if nI c = hd then 0 else wobN E D c
def stepG (E : EN) (hd : Int32) (D : DY) : (Nat → Int32) × Int32 := goOnP (eY E).1 (goH E hd D) (dA D) (dW D) (eN E)
def stepB (E : EN) (sees hd : Int32) (D : DY) : Int32 := backP (eN E) (stepG E hd D).1 (stepG E hd D).2 (woH E hd D) (eY E).2.1 sees (eN E)
def stepD (E : EN) (sees hd : Int32) (D : DY) : DY := ((sbP (stepB E sees hd D) (stepG E hd D).1 (dS D) (eN E)).1, (stepG E hd D).2, dT D + 1, (sbP (stepB E sees hd D) (stepG E hd D).1 (dS D) (eN E)).2)
/-- what a turn of the scene at b leaves as it was -/
def StF (b : Nat) (S S' : SS) : Prop := (∀ j, j ≠ b → j ≠ b + 3 → j ≠ b + 5 → ¬ (93 ≤ j ∧ j ≤ 96) → S' j = S j) ∧ ∀ k, k ≠ 7 → k ≠ 9 → S' b k = S b k
theorem StF.refl {b : Nat} {S : SS} : StF b S S := ⟨fun _ _ _ _ _ => rfl, fun _ _ _ => rfl⟩
theorem StF.trans {b : Nat} {S S1 S2 : SS} (h : StF b S S1) (h2 : StF b S1 S2) : StF b S S2 := ⟨fun j a1 a2 a3 a4 => (h2.1 j a1 a2 a3 a4).trans (h.1 j a1 a2 a3 a4), fun k a1 a2 => (h2.2 k a1 a2).trans (h.2 k a1 a2)⟩
theorem ScR.step {b : Nat} (hb : Sc b) {S S' : SS} {E : EN} {D D' : DY} (h : ScR b S E D) (hF : StF b S S') (h1 : ∀ c, c < 7 → S' (b + 3) c = dA D' c) (h2 : S' b 7 = dW D') (h3 : S' b 9 = nI (dT D')) (h4 : dT D' < 20000) (h5 : ∀ c, c < 7 → S' (b + 5) c = dS D' c) : ScR b S' E D' := by
  have hbl := hb.le
  obtain ⟨a1, a2, a3, a4, a5, a6, ⟨y, hy, hyS, hY⟩, -⟩ := h
  have off : ∀ j, j ≠ b → j ≠ b + 3 → j ≠ b + 5 → ¬ (93 ≤ j ∧ j ≤ 96) → S' j = S j := hF.1
  refine ⟨by rw [hF.2 6 (by decide) (by decide)]; exact a1, fun c hc => ?_, fun c hc => ?_, fun c hc => ?_, fun c hc => ?_, fun c hc => ?_, ⟨y, hy, by rw [hF.2 10 (by decide) (by decide)]; exact hyS, hY.off hy (fun j g1 g2 => off j (by omega) (by omega) (by omega) (by omega))⟩, h1, h2, h3, h4, h5⟩
  · rw [off _ (by omega) (by omega) (by omega) (by omega)]; exact a2 c hc
  · rw [off _ (by omega) (by omega) (by omega) (by omega)]; exact a3 c hc
  · rw [off _ (by omega) (by omega) (by omega) (by omega)]; exact a4 c hc
  · rw [off _ (by omega) (by omega) (by omega) (by omega)]; exact a5 c hc
  · rw [off _ (by omega) (by omega) (by omega) (by omega)]; exact a6 c hc
theorem goOnP_congr {far : Int32} {go go' : Nat → Int32} {a : Nat → Int32} {w : Int32} : ∀ (n : Nat), (∀ c, c < n → go c = go' c) → goOnP far go a w n = goOnP far go' a w n
  | 0, _ => rfl
  | n + 1, h => by
    show goStep far go (goOnP far go a w n) n = goStep far go' (goOnP far go' a w n) n
    rw [goOnP_congr n (fun c hc => h c (by omega))]
    unfold goStep
    rw [h n (by omega)]
theorem nI_m1 {n : Nat} (h : n < 2 ^ 31) : ¬ nI n = -1 := fun e => by
  have := congrArg Int32.toInt e
  rw [nI_toInt h] at this
  have h1 : (-1 : Int32).toInt = -1 := by decide +kernel
  omega

set_option maxRecDepth 20000 in
set_option maxHeartbeats 400000 in
theorem step_tail (g : GG) {b : Nat} (hb : Sc b) (E : EN) (D : DY) (sees hd bk w1 : Int32) (ga : Nat → Int32) (S S2 : SS) (L : LL) (hE : EnOK E) (hR : ScR b S E D) (hT : dT D < 19999) (hbk : bk = stepB E sees hd D) (hga : ga = (stepG E hd D).1) (hw1 : w1 = (stepG E hd D).2)
    (h3 : ∀ c, c < 7 → S2 (b + 3) c = ga c) (h7 : S2 b 7 = w1) (hF : StF b S S2) (h5 : S2 (b + 5) = S (b + 5)) (h9 : S2 b 9 = S b 9) :
    Rx g 5 0 0 mX9_step SHC.length (fun r sh' S' L' => sh' = SHC ∧ ∃ x, r = some (.int x) ∧ (x = stepB E sees hd D ∧ ScR b S' E (stepD E sees hd D) ∧ StF b S S' ∧ L' = L)) 0 0 43 [some (.ref 92), some (.ref b), some (.int sees), some (.int hd), some (.int bk), some (.int (nI 0))] [] SHC S2 L := by
  have hbl := hb.le
  have hn7 := hE.1
  have hsz2 : S2 b 6 = nI (eN E) := by rw [hF.2 6 (by decide) (by decide)]; exact hR.1
  have ht2 : S2 b 9 = nI (dT D) := by rw [h9]; exact hR.2.2.2.2.2.2.2.2.2.1
  have hfin : ∀ S1 : SS, ((∀ c', c' < 7 → S1 (b + 3) c' = (sbP bk ga (dS D) (eN E)).1 c') ∧ (∀ c', c' < 7 → S1 (b + 5) c' = (sbP bk ga (dS D) (eN E)).2 c') ∧ ∀ j, j ≠ b + 3 → j ≠ b + 5 → S1 j = S2 j) → (bk = stepB E sees hd D ∧ ScR b (upS S1 b 9 (nI (dT D + 1))) E (stepD E sees hd D) ∧ StF b S (upS S1 b 9 (nI (dT D + 1))) ∧ L = L) := by
    intro S1 hI
    have hF2 : StF b S (upS S1 b 9 (nI (dT D + 1))) := by
      refine ⟨fun j a1 a2 a3 a4 => ?_, fun k a1 a2 => ?_⟩
      · rw [upS_off _ _ _ _ a1, hI.2.2 j a2 a3]; exact hF.1 j a1 a2 a3 a4
      · rw [upS_row]; simp only [upd]; rw [if_neg a2, hI.2.2 b (by omega) (by omega)]; exact hF.2 k a1 a2
    refine ⟨hbk, hR.step hb hF2 (fun c hc => ?_) ?_ (upS_at _ _ _ _) (by show dT D + 1 < 20000; omega) (fun c hc => ?_), hF2, rfl⟩
    · rw [upS_off _ _ _ _ (by omega), hI.1 c hc, hbk, hga]; rfl
    · rw [upS_row]; simp only [upd]; rw [if_neg (by decide), hI.2.2 b (by omega) (by omega), h7, hw1]; rfl
    · rw [upS_off _ _ _ _ (by omega), hI.2.1 c hc, hbk, hga]; rfl
  have loop : ∀ (r c : Nat) (S1 : SS), c ≤ eN E → c + r = eN E → ((∀ c', c' < 7 → S1 (b + 3) c' = (sbP bk ga (dS D) c).1 c') ∧ (∀ c', c' < 7 → S1 (b + 5) c' = (sbP bk ga (dS D) c).2 c') ∧ ∀ j, j ≠ b + 3 → j ≠ b + 5 → S1 j = S2 j) → Rx g 5 0 0 mX9_step SHC.length (fun r sh' S' L' => sh' = SHC ∧ ∃ x, r = some (.int x) ∧ (x = stepB E sees hd D ∧ ScR b S' E (stepD E sees hd D) ∧ StF b S S' ∧ L' = L)) 0 0 43 [some (.ref 92), some (.ref b), some (.int sees), some (.int hd), some (.int bk), some (.int (nI c))] [] SHC S1 L := by
    intro r
    induction r with
    | zero =>
      intro c S1 hc1 hc2 hI
      have hcn : c = eN E := by omega
      have hI2 := hI
      rw [hcn] at hI2
      have hsz : S1 b 6 = nI (eN E) := by rw [hI.2.2 b (by omega) (by omega)]; exact hsz2
      have ht9 : S1 b 9 = nI (dT D) := by rw [hI.2.2 b (by omega) (by omega)]; exact ht2
      refine rx_iload dX9_step_43 rfl ?_
      refine rx_aload_n dX9_step_45 rfl ?_
      refine rx_getI dX9_step_46 flX9_46 (scO hb) rfl ?_
      refine rx_icmp_ge 87 dX9_step_49 (by decide) (fun h49 => ?_) (fun h49 => absurd (by rw [hsz]; exact nI_le (by omega) (by omega)) h49)
      refine rx_aload_n dX9_step_87 rfl ?_
      refine rx_dup dX9_step_88 rfl ?_
      refine rx_getI dX9_step_89 flX9_71 (scO hb) rfl ?_
      rw [ht9]
      refine rx_iconst (1) dX9_step_92 (by decide) ?_
      refine rx_iadd dX9_step_93 ?_
      rw [nI_1]
      refine rx_putI dX9_step_94 flX9_71 (scO hb) rfl ?_
      refine rx_iload dX9_step_97 rfl ?_
      exact rx_iret dX9_step_99 rfl ⟨Nat.le_refl _, Nat.le_refl _⟩ ⟨rfl, _, rfl, hfin _ hI2⟩
    | succ r ih =>
      intro c S1 hc1 hc2 hI
      have hc7 : c < 7 := by omega
      have hsz : S1 b 6 = nI (eN E) := by rw [hI.2.2 b (by omega) (by omega)]; exact hsz2
      have hci : (nI c).toNatClampNeg = c := nI_clamp (by omega)
      have hvc : vp_in (nI c) 7 := vp_in_nI hc7 (by omega)
      have hs5 : S1 (b + 5) c = (sbP bk ga (dS D) c).2 c := hI.2.1 c hc7
      refine rx_iload dX9_step_43 rfl ?_
      refine rx_aload_n dX9_step_45 rfl ?_
      refine rx_getI dX9_step_46 flX9_46 (scO hb) rfl ?_
      refine rx_icmp_ge 87 dX9_step_49 (by decide) (fun h49 => absurd h49 (by rw [hsz]; exact nI_ge (by omega) (by omega))) (fun h49 => ?_)
      refine rx_iload dX9_step_52 rfl ?_
      refine rx_iload dX9_step_54 rfl ?_
      refine rx_ishr dX9_step_56 ?_
      refine rx_iconst (1) dX9_step_57 (by decide) ?_
      refine rx_iand dX9_step_58 ?_
      refine rx_if_eq 81 dX9_step_59 (by decide) (fun h59 => ?_) (fun h59 => ?_)
      · skip
        refine rx_iinc_5 (1) rfl dX9_step_81 (by decide) ?_
        refine rx_goto 43 dX9_step_84 (by decide) ?_
        rw [nI_1]
        refine ih (c + 1) S1 (by omega) (by omega) ?_
        rw [show sbP bk ga (dS D) (c + 1) = _ from if_pos h59]
        exact hI
      · refine rx_aload_n dX9_step_62 rfl ?_
        refine rx_getR dX9_step_63 flX9_68 (scO hb) rfl ?_
        refine rx_iload dX9_step_66 rfl ?_
        refine rx_iconst (0) dX9_step_68 (by decide) ?_
        refine rx_iastore dX9_step_69 (scA3 hb) hvc ?_
        rw [hci]
        refine rx_aload_n dX9_step_70 rfl ?_
        refine rx_getR dX9_step_71 flX9_101 (scO hb) rfl ?_
        refine rx_iload dX9_step_74 rfl ?_
        refine rx_dup2 dX9_step_76 rfl rfl ?_
        refine rx_iaload dX9_step_77 (scA5 hb) hvc ?_
        simp (disch := omega) only [upS_off, hci, hs5]
        refine rx_iconst (1) dX9_step_78 (by decide) ?_
        refine rx_iadd dX9_step_79 ?_
        refine rx_iastore dX9_step_80 (scA5 hb) hvc ?_
        skip
        refine rx_iinc_5 (1) rfl dX9_step_81 (by decide) ?_
        refine rx_goto 43 dX9_step_84 (by decide) ?_
        rw [nI_1]
        refine ih (c + 1) _ (by omega) (by omega) ?_
        rw [show sbP bk ga (dS D) (c + 1) = _ from if_neg h59]
        refine ⟨fun c' hc' => ?_, fun c' hc' => ?_, fun j h1 h2 => ?_⟩
        · simp (disch := omega) only [upS_off, upS_row, upd, hci]
          by_cases e : c' = c
          · rw [if_pos e, if_pos e]
          · rw [if_neg e, if_neg e]; exact hI.1 c' hc'
        · simp (disch := omega) only [upS_off, upS_row, upd, hci]
          by_cases e : c' = c
          · rw [if_pos e, if_pos e]
          · rw [if_neg e, if_neg e]; exact hI.2.1 c' hc'
        · simp (disch := omega) only [upS_off]; exact hI.2.2 j h1 h2
  exact loop (eN E) 0 S2 (by omega) (by omega) ⟨h3, fun c hc => by rw [h5]; exact hR.2.2.2.2.2.2.2.2.2.2.2 c hc, fun _ _ _ => rfl⟩
set_option maxRecDepth 20000 in
set_option maxHeartbeats 400000 in
theorem step_mid (g : GG) {b : Nat} (hb : Sc b) (E : EN) (D : DY) (sees hd : Int32) (S S1 : SS) (L : LL) (hE : EnOK E) (hR : ScR b S E D) (hT : dT D < 19999) (hF1 : ∀ j, ¬ (93 ≤ j ∧ j ≤ 96) → S1 j = S j) (hgo : ∀ c, c < eN E → S1 94 c = goH E hd D c) (hwo : ∀ c, c < eN E → S1 95 c = woH E hd D c) :
    Rx g 5 0 0 mX9_step SHC.length (fun r sh' S' L' => sh' = SHC ∧ ∃ x, r = some (.int x) ∧ (x = stepB E sees hd D ∧ ScR b S' E (stepD E sees hd D) ∧ StF b S S' ∧ L' = L)) 0 0 27 [some (.ref 92), some (.ref b), some (.int sees), some (.int hd), none, none] [] SHC S1 L := by
  have hbl := hb.le
  have hn7 := hE.1
  obtain ⟨y, hy, hyS, hY⟩ := hR.2.2.2.2.2.2.1
  refine rx_aload_n dX9_step_27 rfl ?_
  refine rx_aload_n dX9_step_28 rfl ?_
  refine rx_cVv_1 clX9_94 dX9_step_29 (rcvo (sC_92) rfl) rfl (c_goOn g hb (eN E) y (eY E).1 (dW D) (goH E hd D) (dA D) S1 L hn7 (by rw [hF1 b (by omega)]; exact hR.1) (fun c hc => by rw [hF1 _ (by omega)]; exact hR.2.2.2.2.2.2.2.1 c hc) (by rw [hF1 b (by omega)]; exact hR.2.2.2.2.2.2.2.2.1) hy (by rw [hF1 b (by omega)]; exact hyS) (by rw [hF1 _ (by omega)]; exact hY.2.2.2.1) hgo) ?_
  rintro S2 L2 ⟨⟨g1, g2, g3, g4⟩, hL2⟩
  rw [hL2]
  refine rx_aload_n dX9_step_32 rfl ?_
  refine rx_aload_n dX9_step_33 rfl ?_
  refine rx_iload_n dX9_step_34 rfl ?_
  refine rx_cVi_2 clX9_97 dX9_step_35 (rcvo (sC_92) rfl) rfl (c_whoIsSentBack g hb (eN E) y (stepG E hd D).2 (eY E).2.1 sees (stepG E hd D).1 (woH E hd D) S2 L hn7 (by rw [g4 6 (by decide), hF1 b (by omega)]; exact hR.1) g1 g2 hy (by rw [g4 10 (by decide), hF1 b (by omega)]; exact hyS) (by rw [g3 _ (by omega) (by omega), hF1 _ (by omega)]; exact hY.2.2.2.2.1) (fun c hc => by rw [g3 _ (by omega) (by omega)]; exact hwo c hc)) ?_
  rintro x2 S3 L3 ⟨hx2, hS3, hL3⟩
  rw [hS3, hL3, hx2]
  refine rx_istore_4 rfl dX9_step_38 ?_
  refine rx_iconst (0) dX9_step_40 (by decide) ?_
  refine rx_istore_5 rfl dX9_step_41 ?_
  exact step_tail g hb E D sees hd _ _ _ S S2 L hE hR hT rfl rfl rfl g1 g2 ⟨fun j a1 a2 a3 a4 => by rw [g3 j a1 a2]; exact hF1 j a4, fun k a1 a2 => by rw [g4 k a1, hF1 b (by omega)]⟩ (by rw [g3 _ (by omega) (by omega), hF1 _ (by omega)]) (by rw [g4 9 (by decide), hF1 b (by omega)])
set_option maxRecDepth 20000 in
set_option maxHeartbeats 400000 in
theorem c_step (g : GG) {b : Nat} (hb : Sc b) (E : EN) (D : DY) (sees hd : Int32) (S : SS) (L : LL) (hE : EnOK E) (hR : ScR b S E D) (hT : dT D < 19999) (hhd : hd = -1 ∨ ∃ h, h < eN E ∧ hd = nI h) : Ci g 5 mX9_step [.ref 92, .ref b, .int sees, .int hd] SHC S L (fun r S' L' => r = stepB E sees hd D ∧ ScR b S' E (stepD E sees hd D) ∧ StF b S S' ∧ L' = L) := by
  refine ct_of (ls := [some (.ref 92), some (.ref b), some (.int sees), some (.int hd), none, none]) 2 (by decide +kernel) rfl rfl ?_
  have hbl := hb.le
  have hn7 := hE.1
  rcases hhd with rfl | ⟨h, hh, rfl⟩
  · skip
    refine rx_aload_n dX9_step_0 rfl ?_
    refine rx_aload_n dX9_step_1 rfl ?_
    refine rx_cVv_1 clX9_86 dX9_step_2 (rcvo (sC_92) rfl) rfl (c_foresee g hb E D S L hE hR) ?_
    rintro S1 L1 ⟨⟨f1, f2⟩, hL1⟩
    rw [hL1]
    refine rx_aload_n dX9_step_5 rfl ?_
    refine rx_iload_n dX9_step_6 rfl ?_
    refine rx_cVi_1 clX9_90 dX9_step_7 (rcvo (scO hb) rfl) rfl (c_has g hb _ S1 L) ?_
    rintro x2 S3 L3 ⟨hx2, hS3, hL3⟩
    rw [hS3, hL3, hx2]
    refine rx_if_eq 27 dX9_step_10 (by decide) (fun h10 => ?_) (fun h10 => absurd (b2i_f (fun q => absurd q.1 (by decide))).symm h10)
    exact step_mid g hb E D sees (-1) S S1 L hE hR hT f2 (fun c hc => by rw [(f1 c hc).2.1]; exact (if_neg (nI_m1 (by omega))).symm) (fun c hc => by rw [(f1 c hc).2.2]; exact (if_neg (nI_m1 (by omega))).symm)
  · have hhi : (nI h).toNatClampNeg = h := nI_clamp (by omega)
    have hvh : vp_in (nI h) 7 := vp_in_nI (by omega) (by omega)
    refine rx_aload_n dX9_step_0 rfl ?_
    refine rx_aload_n dX9_step_1 rfl ?_
    refine rx_cVv_1 clX9_86 dX9_step_2 (rcvo (sC_92) rfl) rfl (c_foresee g hb E D S L hE hR) ?_
    rintro S1 L1 ⟨⟨f1, f2⟩, hL1⟩
    rw [hL1]
    refine rx_aload_n dX9_step_5 rfl ?_
    refine rx_iload_n dX9_step_6 rfl ?_
    refine rx_cVi_1 clX9_90 dX9_step_7 (rcvo (scO hb) rfl) rfl (c_has g hb _ S1 L) ?_
    rintro x2 S3 L3 ⟨hx2, hS3, hL3⟩
    rw [hS3, hL3, hx2]
    refine rx_if_eq 27 dX9_step_10 (by decide) (fun h10 => absurd h10 (fun q => b2i_eq q ⟨nI_pos' (by omega), by rw [f2 b (by omega), hR.1]; exact nI_lt hh (by omega)⟩)) (fun h10 => ?_)
    refine rx_aload_n dX9_step_13 rfl ?_
    refine rx_getR dX9_step_14 flX9_15 (sC_92) rfl ?_
    refine rx_iload_n dX9_step_17 rfl ?_
    refine rx_iconst (0) dX9_step_18 (by decide) ?_
    refine rx_iastore dX9_step_19 (sC_94) hvh ?_
    refine rx_aload_n dX9_step_20 rfl ?_
    refine rx_getR dX9_step_21 flX9_18 (sC_92) rfl ?_
    refine rx_iload_n dX9_step_24 rfl ?_
    refine rx_iconst (0) dX9_step_25 (by decide) ?_
    refine rx_iastore dX9_step_26 (sC_95) hvh ?_
    refine step_mid g hb E D sees (nI h) S _ L hE hR hT (fun j hj => ?_) ?_ ?_
    · simp (disch := omega) only [upS_off]; exact f2 j hj
    · exact (fun c hc => by
      simp (disch := omega) only [upS_off, upS_row, upd, hhi]
      unfold goH
      by_cases e : c = h
      · rw [if_pos e, e, if_pos rfl]
      · rw [if_neg e, if_neg (fun q => e ((nI_eq (by omega) (by omega)).mp q))]; exact (f1 c hc).2.1)
    · exact (fun c hc => by
      simp (disch := omega) only [upS_off, upS_row, upd, hhi]
      unfold woH
      by_cases e : c = h
      · rw [if_pos e, e, if_pos rfl]
      · rw [if_neg e, if_neg (fun q => e ((nI_eq (by omega) (by omega)).mp q))]; exact (f1 c hc).2.2)
