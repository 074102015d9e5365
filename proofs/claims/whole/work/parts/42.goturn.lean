theorem upd_upd (f : Nat → Int32) (n : Nat) (x y : Int32) : upd (upd f n x) n y = upd f n y := by
  funext k
  unfold upd
  by_cases h : k = n
  · rw [if_pos h, if_pos h]
  · rw [if_neg h, if_neg h, if_neg h]
/-- what a turn leaves as it was -/
def MF (S S' : SS) : Prop := (∀ j, j ≠ 0 → j ≠ 3 → j ≠ 5 → j ≠ 17 → j ≠ 18 → j ≠ 19 → S' j = S j) ∧ ∀ k, k ≠ 1 → k ≠ 2 → S' 0 k = S 0 k
theorem MF.refl {S : SS} : MF S S := ⟨fun _ _ _ _ _ _ _ => rfl, fun _ _ _ => rfl⟩
theorem MF.trans {S S1 S2 : SS} (h : MF S S1) (h2 : MF S1 S2) : MF S S2 := ⟨fun j a b c d e f => (h2.1 j a b c d e f).trans (h.1 j a b c d e f), fun k a b => (h2.2 k a b).trans (h.2 k a b)⟩
theorem MF.up {S S1 : SS} {a k : Nat} {x : Int32} (h : MF S S1) (ha : a = 3 ∨ a = 5 ∨ a = 17 ∨ a = 18 ∨ a = 19) : MF S (upS S1 a k x) := ⟨fun j b c d e f g => (upS_off S1 a k x (by omega)).trans (h.1 j b c d e f g), fun k' b c => (congrFun (upS_off S1 a k x (by omega)) k').trans (h.2 k' b c)⟩
theorem MF.up0 {S S1 : SS} {k : Nat} {x : Int32} (h : MF S S1) (hk : k = 1 ∨ k = 2) : MF S (upS S1 0 k x) := ⟨fun j b c d e f g => (upS_off S1 0 k x b).trans (h.1 j b c d e f g), fun k' b c => by rw [upS_row]; unfold upd; rw [if_neg (by omega)]; exact h.2 k' b c⟩
theorem MSc.re {S S' : SS} {E : EN} {D D' : DY} (h : MSc S E D) (hF : MF S S') (h1 : ∀ c, c < 7 → S' 3 c = dA D' c) (h2 : S' 0 2 = dW D') (h3 : S' 0 1 = nI (dT D')) (h4 : dT D' < 20000) (h5 : ∀ c, c < 7 → S' 5 c = dS D' c) : MSc S' E D' := by
  obtain ⟨a1, a2, a3, a4, a5, a6, ⟨y, hy, e, hY⟩, -⟩ := h
  have ho : ∀ j, j ≠ 0 → j ≠ 3 → j ≠ 5 → j ≠ 17 → j ≠ 18 → j ≠ 19 → S' j = S j := hF.1
  refine ⟨by rw [hF.2 0 (by decide) (by decide)]; exact a1, fun c hc => ?_, fun c hc => ?_, fun c hc => ?_, fun c hc => ?_, fun c hc => ?_, ⟨y, hy, by rw [hF.2 11 (by decide) (by decide)]; exact e, hY.off (fun j g1 g2 => ho j (by omega) (by omega) (by omega) (by omega) (by omega) (by omega))⟩, h1, h2, h3, h4, h5⟩
  · rw [ho _ (by decide) (by decide) (by decide) (by decide) (by decide) (by decide)]; exact a2 c hc
  · rw [ho _ (by decide) (by decide) (by decide) (by decide) (by decide) (by decide)]; exact a3 c hc
  · rw [ho _ (by decide) (by decide) (by decide) (by decide) (by decide) (by decide)]; exact a4 c hc
  · rw [ho _ (by decide) (by decide) (by decide) (by decide) (by decide) (by decide)]; exact a5 c hc
  · rw [ho _ (by decide) (by decide) (by decide) (by decide) (by decide) (by decide)]; exact a6 c hc
theorem MSc.come {S : SS} {E : EN} {D : DY} (h : MSc S E D) (c : Nat) (x : Int32) : MSc (upS S 3 c x) E (upd (dA D) c x, dW D, dT D, dS D) :=
  h.re (MF.refl.up (by decide)) (fun c' hc' => by rw [upS_row]; exact upd_eq (h.a hc')) (by rw [upS_off S 3 c x (by decide)]; exact h.w) (by rw [upS_off S 3 c x (by decide)]; exact h.t) h.tl (fun c' hc' => by rw [upS_off S 3 c x (by decide)]; exact h.s hc')
theorem MSc.sent {S : SS} {E : EN} {D : DY} (h : MSc S E D) (c : Nat) (x : Int32) : MSc (upS S 5 c x) E (dA D, dW D, dT D, upd (dS D) c x) :=
  h.re (MF.refl.up (by decide)) (fun c' hc' => by rw [upS_off S 5 c x (by decide)]; exact h.a hc') (by rw [upS_off S 5 c x (by decide)]; exact h.w) (by rw [upS_off S 5 c x (by decide)]; exact h.t) h.tl (fun c' hc' => by rw [upS_row]; exact upd_eq (h.s hc'))
theorem MSc.wall {S : SS} {E : EN} {D : DY} (h : MSc S E D) (x : Int32) : MSc (upS S 0 2 x) E (dA D, x, dT D, dS D) :=
  h.re (MF.refl.up0 (by decide)) (fun c' hc' => by rw [upS_off S 0 2 x (by decide)]; exact h.a hc') (by rw [upS_at]; rfl) (by rw [upS_row]; exact h.t) h.tl (fun c' hc' => by rw [upS_off S 0 2 x (by decide)]; exact h.s hc')
theorem MSc.turn {S : SS} {E : EN} {D : DY} (h : MSc S E D) (t : Nat) (ht : t < 20000) : MSc (upS S 0 1 (nI t)) E (dA D, dW D, t, dS D) :=
  h.re (MF.refl.up0 (by decide)) (fun c' hc' => by rw [upS_off S 0 1 _ (by decide)]; exact h.a hc') (by rw [upS_row]; exact h.w) (by rw [upS_at]; rfl) ht (fun c' hc' => by rw [upS_off S 0 1 _ (by decide)]; exact h.s hc')
theorem MSc.come2 {S : SS} {E : EN} {D : DY} (h : MSc S E D) (c : Nat) (x y w : Int32) : MSc (upS (upS (upS S 3 c x) 3 c y) 0 2 w) E (upd (dA D) c y, w, dT D, dS D) := by
  rw [← upd_upd (dA D) c x y]
  exact ((h.come c x).come c y).wall w
theorem sbP_at {bk : Int32} {a s : Nat → Int32} : ∀ (c c' : Nat), c ≤ c' → (sbP bk a s c).2 c' = s c'
  | 0, _, _ => rfl
  | c + 1, c', h => by
    show (sbStep bk (sbP bk a s c) c).2 c' = _
    unfold sbStep
    by_cases e : bitv bk (nI c) = 0
    · rw [if_pos e]; exact sbP_at c c' (by omega)
    · rw [if_neg e]
      show upd (sbP bk a s c).2 c _ c' = _
      unfold upd
      rw [if_neg (by omega)]
      exact sbP_at c c' (by omega)

set_option maxRecDepth 20000 in
set_option maxHeartbeats 400000 in
theorem gt4 (g : GG) (E : EN) (D : DY) (sv hd bk w1 : Int32) (ga : Nat → Int32) (S S2 : SS) (L : LL) (hE : EnOK E) (hT : dT D < 19999) (hms : ∀ c, c < eN E → dS D c < S 0 29) (hbk : bk = stepB E sv hd D) (hst : stepD E sv hd D = ((sbP bk ga (dS D) (eN E)).1, w1, dT D + 1, (sbP bk ga (dS D) (eN E)).2)) (hM2 : MSc S2 E (ga, w1, dT D, dS D)) (hF2 : MF S S2) (l2 : Option Value) : Rx g 5 0 0 mX12_goTurn SHM.length (fun r sh' S' L' => sh' = SHM ∧ ∃ x, r = some (.int x) ∧ (x = stepB E sv hd D ∧ MSc S' E (stepD E sv hd D) ∧ MF S S' ∧ L' = L)) 0 0 211 [some (.ref 0), some (.int bk), l2] [] SHM S2 L := by
  have hn7 : eN E ≤ 7 := hE.1
  have fin : ∀ S1, MSc S1 E ((sbP bk ga (dS D) (eN E)).1, w1, dT D, (sbP bk ga (dS D) (eN E)).2) → MF S S1 → Rx g 5 0 0 mX12_goTurn SHM.length (fun r sh' S' L' => sh' = SHM ∧ ∃ x, r = some (.int x) ∧ (x = stepB E sv hd D ∧ MSc S' E (stepD E sv hd D) ∧ MF S S' ∧ L' = L)) 0 0 280 [some (.ref 0), some (.int bk), some (.int (nI (eN E)))] [] SHM S1 L := by
    intro S1 hM1 hF1
    refine rx_aload_n dX12_goTurn_280 rfl ?_
    refine rx_dup dX12_goTurn_281 rfl ?_
    refine rx_getI dX12_goTurn_282 flX12_13 (sM_0) rfl ?_
    rw [hM1.t]
    refine rx_iconst (1) dX12_goTurn_285 (by decide) ?_
    refine rx_iadd dX12_goTurn_286 ?_
    rw [nI_1]
    refine rx_putI dX12_goTurn_287 flX12_13 (sM_0) rfl ?_
    refine rx_iload_n dX12_goTurn_290 rfl ?_
    exact rx_iret dX12_goTurn_291 rfl ⟨Nat.le_refl _, Nat.le_refl _⟩ ⟨rfl, _, rfl, ⟨hbk, by rw [hst]; exact hM1.turn (dT D + 1) (by omega), hF1.up0 (by decide), rfl⟩⟩
  have loop : ∀ (r c : Nat) (S1 : SS), c + r = eN E → (MSc S1 E ((sbP bk ga (dS D) c).1, w1, dT D, (sbP bk ga (dS D) c).2) ∧ MF S S1) → Rx g 5 0 0 mX12_goTurn SHM.length (fun r sh' S' L' => sh' = SHM ∧ ∃ x, r = some (.int x) ∧ (x = stepB E sv hd D ∧ MSc S' E (stepD E sv hd D) ∧ MF S S' ∧ L' = L)) 0 0 213 [some (.ref 0), some (.int bk), some (.int (nI c))] [] SHM S1 L := by
    intro r
    induction r with
    | zero =>
      intro c S1 hc hI
      have hcn : c = eN E := by omega
      obtain ⟨hM1, hF1⟩ := hI
      have hsz : S1 0 0 = nI (eN E) := hM1.1
      refine rx_iload_n dX12_goTurn_213 rfl ?_
      refine rx_aload_n dX12_goTurn_214 rfl ?_
      refine rx_getI dX12_goTurn_215 flX12_7 (sM_0) rfl ?_
      refine rx_icmp_ge 280 dX12_goTurn_218 (by decide) (fun h218 => ?_) (fun h218 => absurd (by rw [hsz]; exact nI_le (by omega) (by omega)) h218)
      rw [hcn] at hM1 ⊢
      exact fin S1 hM1 hF1
    | succ r ih =>
      intro c S1 hc hI
      have hc7 : c < 7 := by omega
      have hci : (nI c).toNatClampNeg = c := nI_clamp (by omega)
      have hvc : vp_in (nI c) 7 := vp_in_nI hc7 (by omega)
      obtain ⟨hM1, hF1⟩ := hI
      have hsz : S1 0 0 = nI (eN E) := hM1.1
      have hms1 : S1 0 29 = S 0 29 := hF1.2 29 (by decide) (by decide)
      have hsc : S1 5 c = dS D c := (hM1.s hc7).trans (sbP_at c c (Nat.le_refl _))
      have hlt : dS D c < S 0 29 := hms c (by omega)
      have hpc : (sbP bk ga (dS D) c).2 c = dS D c := sbP_at c c (Nat.le_refl _)
      refine rx_iload_n dX12_goTurn_213 rfl ?_
      refine rx_aload_n dX12_goTurn_214 rfl ?_
      refine rx_getI dX12_goTurn_215 flX12_7 (sM_0) rfl ?_
      refine rx_icmp_ge 280 dX12_goTurn_218 (by decide) (fun h218 => absurd h218 (by rw [hsz]; exact nI_ge (by omega) (by omega))) (fun h218 => ?_)
      refine rx_aload_n dX12_goTurn_221 rfl ?_
      refine rx_iload_n dX12_goTurn_222 rfl ?_
      refine rx_iload_n dX12_goTurn_223 rfl ?_
      refine rx_cVi_2 clX12_328 dX12_goTurn_224 (rcvo (sM_0) rfl) rfl (m_has g 0 _ _ S1 L) ?_
      refine pur3 ?_
      refine rx_if_ne 233 dX12_goTurn_227 (by decide) (fun h227 => ?_) (fun h227 => ?_)
      · refine rx_aload_n dX12_goTurn_233 rfl ?_
        refine rx_getR dX12_goTurn_234 flX12_26 (sM_0) rfl ?_
        refine rx_iload_n dX12_goTurn_237 rfl ?_
        refine rx_iconst (0) dX12_goTurn_238 (by decide) ?_
        refine rx_iastore dX12_goTurn_239 (sM_3) hvc ?_
        rw [hci]
        refine rx_aload_n dX12_goTurn_240 rfl ?_
        refine rx_getR dX12_goTurn_241 flX12_32 (sM_0) rfl ?_
        refine rx_iload_n dX12_goTurn_244 rfl ?_
        refine rx_aload_n dX12_goTurn_245 rfl ?_
        refine rx_getR dX12_goTurn_246 flX12_32 (sM_0) rfl ?_
        refine rx_iload_n dX12_goTurn_249 rfl ?_
        refine rx_iaload dX12_goTurn_250 (sM_5) hvc ?_
        simp (disch := omega) only [upS_off, upS_at, hci, hsc, hms1]
        refine rx_aload_n dX12_goTurn_251 rfl ?_
        refine rx_getI dX12_goTurn_252 flX12_99 (sM_0) rfl ?_
        simp (disch := omega) only [upS_off, upS_at, hci, hsc, hms1]
        refine rx_icmp_ge 269 dX12_goTurn_255 (by decide) (fun h255 => absurd h255 (Int32.not_le.mpr hlt)) (fun h255 => ?_)
        refine rx_aload_n dX12_goTurn_258 rfl ?_
        refine rx_getR dX12_goTurn_259 flX12_32 (sM_0) rfl ?_
        refine rx_iload_n dX12_goTurn_262 rfl ?_
        refine rx_iaload dX12_goTurn_263 (sM_5) hvc ?_
        simp (disch := omega) only [upS_off, upS_at, hci, hsc, hms1]
        refine rx_iconst (1) dX12_goTurn_264 (by decide) ?_
        refine rx_iadd dX12_goTurn_265 ?_
        refine rx_goto 273 dX12_goTurn_266 (by decide) ?_
        refine rx_iastore dX12_goTurn_273 (sM_5) hvc ?_
        rw [hci]
        refine rx_iinc_2 (1) rfl dX12_goTurn_274 (by decide) ?_
        refine rx_goto 213 dX12_goTurn_277 (by decide) ?_
        rw [nI_1]
        refine ih (c + 1) _ (by omega) ⟨?_, (hF1.up (by decide)).up (by decide)⟩
        rw [show sbP bk ga (dS D) (c + 1) = _ from if_neg (b2i_ne h227), hpc]
        exact (hM1.come c 0).sent c _
      · refine rx_goto 274 dX12_goTurn_230 (by decide) ?_
        refine rx_iinc_2 (1) rfl dX12_goTurn_274 (by decide) ?_
        refine rx_goto 213 dX12_goTurn_277 (by decide) ?_
        rw [nI_1]
        exact ih (c + 1) S1 (by omega) ⟨by rw [show sbP bk ga (dS D) (c + 1) = _ from if_pos (Decidable.not_not.mp (b2i_eq h227))]; exact hM1, hF1⟩
  refine rx_iconst (0) dX12_goTurn_211 (by decide) ?_
  refine rx_istore_2 rfl dX12_goTurn_212 ?_
  exact loop (eN E) 0 S2 (by omega) ⟨hM2, hF2⟩
set_option maxRecDepth 20000 in
set_option maxHeartbeats 400000 in
theorem gt3 (g : GG) (E : EN) (D : DY) (sv hd w1 : Int32) (ga : Nat → Int32) (S S2 : SS) (L : LL) (hE : EnOK E) (hT : dT D < 19999) (hms : ∀ c, c < eN E → dS D c < S 0 29) (hbk : backP (eN E) ga w1 (woH E hd D) (eY E).2.1 sv (eN E) = stepB E sv hd D) (hst : stepD E sv hd D = ((sbP (stepB E sv hd D) ga (dS D) (eN E)).1, w1, dT D + 1, (sbP (stepB E sv hd D) ga (dS D) (eN E)).2)) (hM2 : MSc S2 E (ga, w1, dT D, dS D)) (hF2 : MF S S2) (hSe : SeM S2 E sv) (hwo : ∀ c, c < eN E → S2 19 c = woH E hd D c) (l1 : Option Value) : Rx g 5 0 0 mX12_goTurn SHM.length (fun r sh' S' L' => sh' = SHM ∧ ∃ x, r = some (.int x) ∧ (x = stepB E sv hd D ∧ MSc S' E (stepD E sv hd D) ∧ MF S S' ∧ L' = L)) 0 0 146 [some (.ref 0), l1, none] [] SHM S2 L := by
  have hn7 : eN E ≤ 7 := hE.1
  have loop : ∀ (r c : Nat) (S1 : SS), c + r = eN E → (S1 = S2) → Rx g 5 0 0 mX12_goTurn SHM.length (fun r sh' S' L' => sh' = SHM ∧ ∃ x, r = some (.int x) ∧ (x = stepB E sv hd D ∧ MSc S' E (stepD E sv hd D) ∧ MF S S' ∧ L' = L)) 0 0 150 [some (.ref 0), some (.int (backP (eN E) ga w1 (woH E hd D) (eY E).2.1 sv c)), some (.int (nI c))] [] SHM S1 L := by
    intro r
    induction r with
    | zero =>
      intro c S1 hc hI
      have hcn : c = eN E := by omega
      have hsz : S1 0 0 = nI (eN E) := by rw [hI]; exact hM2.1
      refine rx_iload_n dX12_goTurn_150 rfl ?_
      refine rx_aload_n dX12_goTurn_151 rfl ?_
      refine rx_getI dX12_goTurn_152 flX12_7 (sM_0) rfl ?_
      refine rx_icmp_ge 211 dX12_goTurn_155 (by decide) (fun h155 => ?_) (fun h155 => absurd (by rw [hsz]; exact nI_le (by omega) (by omega)) h155)
      subst hI
      exact gt4 g E D sv hd _ w1 ga S S1 L hE hT hms (by rw [hcn]; exact hbk) (by rw [hcn, hbk]; exact hst) hM2 hF2 _
    | succ r ih =>
      intro c S1 hc hI
      have hc7 : c < 7 := by omega
      have hci : (nI c).toNatClampNeg = c := nI_clamp (by omega)
      have hvc : vp_in (nI c) 7 := vp_in_nI hc7 (by omega)
      subst hI
      have hsz : S1 0 0 = nI (eN E) := hM2.1
      refine rx_iload_n dX12_goTurn_150 rfl ?_
      refine rx_aload_n dX12_goTurn_151 rfl ?_
      refine rx_getI dX12_goTurn_152 flX12_7 (sM_0) rfl ?_
      refine rx_icmp_ge 211 dX12_goTurn_155 (by decide) (fun h155 => absurd h155 (by rw [hsz]; exact nI_ge (by omega) (by omega))) (fun h155 => ?_)
      refine rx_iload_n dX12_goTurn_158 rfl ?_
      refine rx_aload_n dX12_goTurn_159 rfl ?_
      refine rx_aload_n dX12_goTurn_160 rfl ?_
      refine rx_getI dX12_goTurn_161 flX12_16 (sM_0) rfl ?_
      rw [show S1 0 2 = w1 from hM2.w]
      refine rx_iload_n dX12_goTurn_164 rfl ?_
      refine rx_cVi_2 clX12_328 dX12_goTurn_165 (rcvo (sM_0) rfl) rfl (m_has g 0 _ _ S1 L) ?_
      refine pur3 ?_
      refine rx_if_ne 202 dX12_goTurn_168 (by decide) (fun h168 => ?_) (fun h168 => ?_)
      · refine rx_iconst (0) dX12_goTurn_202 (by decide) ?_
        refine rx_ior dX12_goTurn_203 ?_
        refine rx_istore_1 rfl dX12_goTurn_204 ?_
        refine rx_iinc_2 (1) rfl dX12_goTurn_205 (by decide) ?_
        refine rx_goto 150 dX12_goTurn_208 (by decide) ?_
        rw [nI_1, Int32.or_zero, show backP (eN E) ga w1 (woH E hd D) (eY E).2.1 sv c = backP (eN E) ga w1 (woH E hd D) (eY E).2.1 sv (c + 1) from (if_neg (fun q => b2i_ne h168 q.1)).symm]
        exact ih (c + 1) S1 (by omega) rfl
      · refine rx_aload_n dX12_goTurn_171 rfl ?_
        refine rx_iload_n dX12_goTurn_172 rfl ?_
        refine rx_cVi_1 clX12_340 dX12_goTurn_173 (rcvo (sM_0) rfl) rfl (m_ahead g (eN E) c w1 ga S1 L hE.1 (by omega) hM2.1 (fun c hc => hM2.a hc) hM2.w) ?_
        refine pur3 ?_
        refine rx_aload_n dX12_goTurn_176 rfl ?_
        refine rx_cVi_0 clX12_337 dX12_goTurn_177 (rcvo (sM_0) rfl) rfl (m_sees g E _ sv S1 L hM2 hSe) ?_
        refine pur3 ?_
        refine rx_icmp_ge 202 dX12_goTurn_180 (by decide) (fun h180 => ?_) (fun h180 => ?_)
        · refine rx_iconst (0) dX12_goTurn_202 (by decide) ?_
          refine rx_ior dX12_goTurn_203 ?_
          refine rx_istore_1 rfl dX12_goTurn_204 ?_
          refine rx_iinc_2 (1) rfl dX12_goTurn_205 (by decide) ?_
          refine rx_goto 150 dX12_goTurn_208 (by decide) ?_
          rw [nI_1, Int32.or_zero, show backP (eN E) ga w1 (woH E hd D) (eY E).2.1 sv c = backP (eN E) ga w1 (woH E hd D) (eY E).2.1 sv (c + 1) from (if_neg (fun q => Int32.not_lt.mpr h180 q.2.2)).symm]
          exact ih (c + 1) S1 (by omega) rfl
        · refine rx_aload_n dX12_goTurn_183 rfl ?_
          refine rx_getR dX12_goTurn_184 flX12_108 (sM_0) rfl ?_
          refine rx_iload_n dX12_goTurn_187 rfl ?_
          refine rx_iaload dX12_goTurn_188 (sM_19) hvc ?_
          rw [hci, hwo c (by omega)]
          refine rx_aload_n dX12_goTurn_189 rfl ?_
          refine rx_cVi_0 clX12_334 dX12_goTurn_190 (rcvo (sM_0) rfl) rfl (m_sharp g E _ S1 L hM2) ?_
          refine pur3 ?_
          refine rx_icmp_le 202 dX12_goTurn_193 (by decide) (fun h193 => ?_) (fun h193 => ?_)
          · refine rx_iconst (0) dX12_goTurn_202 (by decide) ?_
            refine rx_ior dX12_goTurn_203 ?_
            refine rx_istore_1 rfl dX12_goTurn_204 ?_
            refine rx_iinc_2 (1) rfl dX12_goTurn_205 (by decide) ?_
            refine rx_goto 150 dX12_goTurn_208 (by decide) ?_
            rw [nI_1, Int32.or_zero, show backP (eN E) ga w1 (woH E hd D) (eY E).2.1 sv c = backP (eN E) ga w1 (woH E hd D) (eY E).2.1 sv (c + 1) from (if_neg (fun q => Int32.not_lt.mpr h193 q.2.1)).symm]
            exact ih (c + 1) S1 (by omega) rfl
          · refine rx_iconst (1) dX12_goTurn_196 (by decide) ?_
            refine rx_iload_n dX12_goTurn_197 rfl ?_
            refine rx_ishl dX12_goTurn_198 ?_
            refine rx_goto 203 dX12_goTurn_199 (by decide) ?_
            refine rx_ior dX12_goTurn_203 ?_
            refine rx_istore_1 rfl dX12_goTurn_204 ?_
            refine rx_iinc_2 (1) rfl dX12_goTurn_205 (by decide) ?_
            refine rx_goto 150 dX12_goTurn_208 (by decide) ?_
            rw [nI_1, show backP (eN E) ga w1 (woH E hd D) (eY E).2.1 sv c ||| (1 <<< (nI c &&& 31)) = backP (eN E) ga w1 (woH E hd D) (eY E).2.1 sv (c + 1) from (if_pos ⟨Decidable.not_not.mp (b2i_eq h168), Int32.not_le.mp h193, Int32.not_le.mp h180⟩).symm]
            exact ih (c + 1) S1 (by omega) rfl
  refine rx_iconst (0) dX12_goTurn_146 (by decide) ?_
  refine rx_istore_1 rfl dX12_goTurn_147 ?_
  refine rx_iconst (0) dX12_goTurn_148 (by decide) ?_
  refine rx_istore_2 rfl dX12_goTurn_149 ?_
  exact loop (eN E) 0 S2 (by omega) rfl
theorem SeM.of {S S' : SS} {E : EN} {sv : Int32} (h : SeM S E sv) (e : S' 0 27 = S 0 27) : SeM S' E sv := by
  unfold SeM at h ⊢
  rw [e]
  exact h
set_option maxRecDepth 20000 in
set_option maxHeartbeats 400000 in
theorem gt2 (g : GG) (E : EN) (D : DY) (sv hd : Int32) (S S2 : SS) (L : LL) (hE : EnOK E) (hT : dT D < 19999) (hms : ∀ c, c < eN E → dS D c < S 0 29) (hM2 : MSc S2 E D) (hF2 : MF S S2) (hSe : SeM S2 E sv) (hgo : ∀ c, c < eN E → S2 18 c = goH E hd D c) (hwo : ∀ c, c < eN E → S2 19 c = woH E hd D c) (l1 : Option Value) : Rx g 5 0 0 mX12_goTurn SHM.length (fun r sh' S' L' => sh' = SHM ∧ ∃ x, r = some (.int x) ∧ (x = stepB E sv hd D ∧ MSc S' E (stepD E sv hd D) ∧ MF S S' ∧ L' = L)) 0 0 62 [some (.ref 0), l1, none] [] SHM S2 L := by
  have hn7 : eN E ≤ 7 := hE.1
  have loop : ∀ (r c : Nat) (S1 : SS), c + r = eN E → (MSc S1 E ((goOnP (eY E).1 (goH E hd D) (dA D) (dW D) c).1, (goOnP (eY E).1 (goH E hd D) (dA D) (dW D) c).2, dT D, dS D) ∧ MF S2 S1 ∧ S1 18 = S2 18 ∧ S1 19 = S2 19) → Rx g 5 0 0 mX12_goTurn SHM.length (fun r sh' S' L' => sh' = SHM ∧ ∃ x, r = some (.int x) ∧ (x = stepB E sv hd D ∧ MSc S' E (stepD E sv hd D) ∧ MF S S' ∧ L' = L)) 0 0 64 [some (.ref 0), some (.int (nI c)), none] [] SHM S1 L := by
    intro r
    induction r with
    | zero =>
      intro c S1 hc hI
      have hcn : c = eN E := by omega
      obtain ⟨hM1, hF1, h18, h19⟩ := hI
      have hsz : S1 0 0 = nI (eN E) := hM1.1
      refine rx_iload_n dX12_goTurn_64 rfl ?_
      refine rx_aload_n dX12_goTurn_65 rfl ?_
      refine rx_getI dX12_goTurn_66 flX12_7 (sM_0) rfl ?_
      refine rx_icmp_ge 146 dX12_goTurn_69 (by decide) (fun h69 => ?_) (fun h69 => absurd (by rw [hsz]; exact nI_le (by omega) (by omega)) h69)
      have hz : ((goOnP (eY E).1 (goH E hd D) (dA D) (dW D) c).1, (goOnP (eY E).1 (goH E hd D) (dA D) (dW D) c).2, dT D, dS D) = ((stepG E hd D).1, (stepG E hd D).2, dT D, dS D) := by rw [hcn]; rfl
      rw [hz] at hM1
      exact gt3 g E D sv hd (stepG E hd D).2 (stepG E hd D).1 S S1 L hE hT hms rfl rfl hM1 (hF2.trans hF1) (hSe.of (hF1.2 27 (by decide) (by decide))) (fun c hc => by rw [h19]; exact hwo c hc) _
    | succ r ih =>
      intro c S1 hc hI
      have hc7 : c < 7 := by omega
      have hci : (nI c).toNatClampNeg = c := nI_clamp (by omega)
      have hvc : vp_in (nI c) 7 := vp_in_nI hc7 (by omega)
      obtain ⟨hM1, hF1, h18, h19⟩ := hI
      have hsz : S1 0 0 = nI (eN E) := hM1.1
      refine rx_iload_n dX12_goTurn_64 rfl ?_
      refine rx_aload_n dX12_goTurn_65 rfl ?_
      refine rx_getI dX12_goTurn_66 flX12_7 (sM_0) rfl ?_
      refine rx_icmp_ge 146 dX12_goTurn_69 (by decide) (fun h69 => absurd h69 (by rw [hsz]; exact nI_ge (by omega) (by omega))) (fun h69 => ?_)
      refine rx_aload_n dX12_goTurn_72 rfl ?_
      refine rx_aload_n dX12_goTurn_73 rfl ?_
      refine rx_getI dX12_goTurn_74 flX12_16 (sM_0) rfl ?_
      rw [show S1 0 2 = (goOnP (eY E).1 (goH E hd D) (dA D) (dW D) c).2 from hM1.w]
      refine rx_iload_n dX12_goTurn_77 rfl ?_
      refine rx_cVi_2 clX12_328 dX12_goTurn_78 (rcvo (sM_0) rfl) rfl (m_has g 0 _ _ S1 L) ?_
      refine pur3 ?_
      refine rx_if_eq 87 dX12_goTurn_81 (by decide) (fun h81 => ?_) (fun h81 => ?_)
      · refine rx_aload_n dX12_goTurn_87 rfl ?_
        refine rx_getR dX12_goTurn_88 flX12_26 (sM_0) rfl ?_
        refine rx_iload_n dX12_goTurn_91 rfl ?_
        refine rx_dup2 dX12_goTurn_92 rfl rfl ?_
        refine rx_iaload dX12_goTurn_93 (sM_3) hvc ?_
        rw [hci, show S1 3 c = (goOnP (eY E).1 (goH E hd D) (dA D) (dW D) c).1 c from hM1.a hc7]
        refine rx_aload_n dX12_goTurn_94 rfl ?_
        refine rx_getR dX12_goTurn_95 flX12_105 (sM_0) rfl ?_
        refine rx_iload_n dX12_goTurn_98 rfl ?_
        refine rx_iaload dX12_goTurn_99 (sM_18) hvc ?_
        rw [hci, h18, hgo c (by omega)]
        refine rx_iadd dX12_goTurn_100 ?_
        refine rx_iastore dX12_goTurn_101 (sM_3) hvc ?_
        rw [hci]
        have hM2 := hM1.come c ((goOnP (eY E).1 (goH E hd D) (dA D) (dW D) c).1 c + goH E hd D c)
        refine rx_aload_n dX12_goTurn_102 rfl ?_
        refine rx_getR dX12_goTurn_103 flX12_26 (sM_0) rfl ?_
        refine rx_iload_n dX12_goTurn_106 rfl ?_
        refine rx_iaload dX12_goTurn_107 (sM_3) hvc ?_
        rw [hci, upS_at]
        refine rx_aload_n dX12_goTurn_108 rfl ?_
        refine rx_cVi_0 clX12_244 dX12_goTurn_109 (rcvo (sM_0) rfl) rfl (m_far g E _ _ L hM2) ?_
        refine pur3 ?_
        refine rx_icmp_ge 118 dX12_goTurn_112 (by decide) (fun h112 => ?_) (fun h112 => ?_)
        · refine rx_aload_n dX12_goTurn_118 rfl ?_
          refine rx_getR dX12_goTurn_119 flX12_26 (sM_0) rfl ?_
          refine rx_iload_n dX12_goTurn_122 rfl ?_
          refine rx_aload_n dX12_goTurn_123 rfl ?_
          refine rx_cVi_0 clX12_244 dX12_goTurn_124 (rcvo (sM_0) rfl) rfl (m_far g E _ _ L hM2) ?_
          refine pur3 ?_
          refine rx_iastore dX12_goTurn_127 (sM_3) hvc ?_
          rw [hci]
          refine rx_aload_n dX12_goTurn_128 rfl ?_
          refine rx_dup dX12_goTurn_129 rfl ?_
          refine rx_getI dX12_goTurn_130 flX12_16 (sM_0) rfl ?_
          simp (disch := omega) only [upS_off]
          rw [show S1 0 2 = (goOnP (eY E).1 (goH E hd D) (dA D) (dW D) c).2 from hM1.w]
          refine rx_iconst (1) dX12_goTurn_133 (by decide) ?_
          refine rx_iload_n dX12_goTurn_134 rfl ?_
          refine rx_ishl dX12_goTurn_135 ?_
          refine rx_ior dX12_goTurn_136 ?_
          refine rx_putI dX12_goTurn_137 flX12_16 (sM_0) rfl ?_
          refine rx_iinc_1 (1) rfl dX12_goTurn_140 (by decide) ?_
          refine rx_goto 64 dX12_goTurn_143 (by decide) ?_
          rw [nI_1]
          refine ih (c + 1) _ (by omega) ⟨?_, ((hF1.up (by decide)).up (by decide)).up0 (by decide), ?_, ?_⟩
          · rw [show goOnP (eY E).1 (goH E hd D) (dA D) (dW D) (c + 1) = _ from (if_neg (b2i_eq h81)).trans (if_neg (Int32.not_lt.mpr h112))]
            exact hM1.come2 c _ _ _
          · simp (disch := omega) only [upS_off]; exact h18
          · simp (disch := omega) only [upS_off]; exact h19
        · refine rx_goto 140 dX12_goTurn_115 (by decide) ?_
          refine rx_iinc_1 (1) rfl dX12_goTurn_140 (by decide) ?_
          refine rx_goto 64 dX12_goTurn_143 (by decide) ?_
          rw [nI_1]
          refine ih (c + 1) _ (by omega) ⟨?_, hF1.up (by decide), (upS_off _ _ _ _ (by decide)).trans h18, (upS_off _ _ _ _ (by decide)).trans h19⟩
          rw [show goOnP (eY E).1 (goH E hd D) (dA D) (dW D) (c + 1) = _ from (if_neg (b2i_eq h81)).trans (if_pos (Int32.not_le.mp h112))]
          exact hM2
      · refine rx_goto 140 dX12_goTurn_84 (by decide) ?_
        refine rx_iinc_1 (1) rfl dX12_goTurn_140 (by decide) ?_
        refine rx_goto 64 dX12_goTurn_143 (by decide) ?_
        rw [nI_1]
        exact ih (c + 1) S1 (by omega) (by rw [show goOnP (eY E).1 (goH E hd D) (dA D) (dW D) (c + 1) = goOnP (eY E).1 (goH E hd D) (dA D) (dW D) c from if_pos (b2i_ne h81)]; exact ⟨hM1, hF1, h18, h19⟩)
  refine rx_iconst (0) dX12_goTurn_62 (by decide) ?_
  refine rx_istore_1 rfl dX12_goTurn_63 ?_
  exact loop (eN E) 0 S2 (by omega) ⟨hM2, MF.refl, rfl, rfl⟩
set_option maxRecDepth 20000 in
set_option maxHeartbeats 400000 in
theorem m_goTurn (g : GG) (E : EN) (D : DY) (sv hd : Int32) (S : SS) (L : LL) (hE : EnOK E) (hT : dT D < 19999) (hms : ∀ c, c < eN E → dS D c < S 0 29) (hM : MSc S E D) (hSe : SeM S E sv) (hidl : S 0 30 = hd) : Ci g 5 mX12_goTurn [.ref 0] SHM S L (fun r S' L' => r = stepB E sv hd D ∧ MSc S' E (stepD E sv hd D) ∧ MF S S' ∧ L' = L) := by
  refine ct_of (ls := [some (.ref 0), none, none]) 2 (by decide +kernel) rfl rfl ?_
  have hn7 : eN E ≤ 7 := hE.1
  have loop : ∀ (r c : Nat) (S1 : SS), c + r = eN E → ((∀ i, i < c → S1 18 i = goH E hd D i ∧ S1 19 i = woH E hd D i) ∧ ∀ j, j ≠ 17 → j ≠ 18 → j ≠ 19 → S1 j = S j) → Rx g 5 0 0 mX12_goTurn SHM.length (fun r sh' S' L' => sh' = SHM ∧ ∃ x, r = some (.int x) ∧ (x = stepB E sv hd D ∧ MSc S' E (stepD E sv hd D) ∧ MF S S' ∧ L' = L)) 0 0 2 [some (.ref 0), some (.int (nI c)), none] [] SHM S1 L := by
    intro r
    induction r with
    | zero =>
      intro c S1 hc hI
      have hcn : c = eN E := by omega
      have hM1 : MSc S1 E D := hM.off hI.2
      have hsz : S1 0 0 = nI (eN E) := hM1.1
      refine rx_iload_n dX12_goTurn_2 rfl ?_
      refine rx_aload_n dX12_goTurn_3 rfl ?_
      refine rx_getI dX12_goTurn_4 flX12_7 (sM_0) rfl ?_
      refine rx_icmp_ge 62 dX12_goTurn_7 (by decide) (fun h7 => ?_) (fun h7 => absurd (by rw [hsz]; exact nI_le (by omega) (by omega)) h7)
      exact gt2 g E D sv hd S S1 L hE hT hms hM1 ⟨fun j a b c d e f => hI.2 j d e f, fun k _ _ => by rw [hI.2 0 (by decide) (by decide) (by decide)]⟩ (hSe.of (by rw [hI.2 0 (by decide) (by decide) (by decide)])) (fun i hi => (hI.1 i (by omega)).1) (fun i hi => (hI.1 i (by omega)).2) _
    | succ r ih =>
      intro c S1 hc hI
      have hc7 : c < 7 := by omega
      have hci : (nI c).toNatClampNeg = c := nI_clamp (by omega)
      have hvc : vp_in (nI c) 7 := vp_in_nI hc7 (by omega)
      have hM1 : MSc S1 E D := hM.off hI.2
      have hsz : S1 0 0 = nI (eN E) := hM1.1
      have hid : S1 0 30 = hd := by rw [hI.2 0 (by decide) (by decide) (by decide)]; exact hidl
      refine rx_iload_n dX12_goTurn_2 rfl ?_
      refine rx_aload_n dX12_goTurn_3 rfl ?_
      refine rx_getI dX12_goTurn_4 flX12_7 (sM_0) rfl ?_
      refine rx_icmp_ge 62 dX12_goTurn_7 (by decide) (fun h7 => absurd h7 (by rw [hsz]; exact nI_ge (by omega) (by omega))) (fun h7 => ?_)
      refine rx_aload_n dX12_goTurn_10 rfl ?_
      refine rx_getR dX12_goTurn_11 flX12_105 (sM_0) rfl ?_
      refine rx_iload_n dX12_goTurn_14 rfl ?_
      refine rx_iload_n dX12_goTurn_15 rfl ?_
      refine rx_aload_n dX12_goTurn_16 rfl ?_
      refine rx_getI dX12_goTurn_17 flX12_102 (sM_0) rfl ?_
      rw [hid]
      refine rx_icmp_ne 27 dX12_goTurn_20 (by decide) (fun h20 => ?_) (fun h20 => ?_)
      · refine rx_aload_n dX12_goTurn_27 rfl ?_
        refine rx_iload_n dX12_goTurn_28 rfl ?_
        refine rx_cVi_1 clX12_319 dX12_goTurn_29 (rcvo (sM_0) rfl) rfl (m_goes g E D c S1 L hM1 hE (by omega)) ?_
        refine pur3 ?_
        refine rx_iastore dX12_goTurn_32 (sM_18) hvc ?_
        rw [hci]
        refine rx_aload_n dX12_goTurn_33 rfl ?_
        refine rx_getR dX12_goTurn_34 flX12_108 (sM_0) rfl ?_
        refine rx_iload_n dX12_goTurn_37 rfl ?_
        refine rx_iload_n dX12_goTurn_38 rfl ?_
        refine rx_aload_n dX12_goTurn_39 rfl ?_
        refine rx_getI dX12_goTurn_40 flX12_102 (sM_0) rfl ?_
        simp (disch := omega) only [upS_off]
        rw [hid]
        refine rx_icmp_ne 50 dX12_goTurn_43 (by decide) (fun h43 => ?_) (fun h43 => absurd h43 h20)
        refine rx_aload_n dX12_goTurn_50 rfl ?_
        refine rx_iload_n dX12_goTurn_51 rfl ?_
        refine rx_cVi_1 clX12_331 dX12_goTurn_52 (rcvo (sM_0) rfl) rfl (m_wobbles g E D c _ L (hM1.off (fun j _ b _ => upS_off _ _ _ _ b)) hE (by omega)) ?_
        rintro x2 S2 L2 ⟨hx2, hF2, hL2⟩
        rw [hL2, hx2]
        refine rx_iastore dX12_goTurn_55 (sM_19) hvc ?_
        refine rx_iinc_1 (1) rfl dX12_goTurn_56 (by decide) ?_
        refine rx_goto 2 dX12_goTurn_59 (by decide) ?_
        rw [nI_1]
        refine ih (c + 1) _ (by omega) ⟨fun i hi => ?_, fun j a b d => ?_⟩
        · simp (disch := omega) only [upS_off, upS_row, upd, hci, hF2 18 (by decide), hF2 19 (by decide)]
          by_cases e : i = c
          · rw [if_pos e, if_pos e, e, show goH E hd D c = goeN E D c from if_neg h20, show woH E hd D c = wobN E D c from if_neg h20]; exact ⟨rfl, rfl⟩
          · rw [if_neg e, if_neg e]; exact hI.1 i (by omega)
        · rw [upS_off _ _ _ _ d, hF2 j a, upS_off _ _ _ _ b]; exact hI.2 j a b d
      · refine rx_iconst (0) dX12_goTurn_23 (by decide) ?_
        refine rx_goto 32 dX12_goTurn_24 (by decide) ?_
        refine rx_iastore dX12_goTurn_32 (sM_18) hvc ?_
        rw [hci]
        refine rx_aload_n dX12_goTurn_33 rfl ?_
        refine rx_getR dX12_goTurn_34 flX12_108 (sM_0) rfl ?_
        refine rx_iload_n dX12_goTurn_37 rfl ?_
        refine rx_iload_n dX12_goTurn_38 rfl ?_
        refine rx_aload_n dX12_goTurn_39 rfl ?_
        refine rx_getI dX12_goTurn_40 flX12_102 (sM_0) rfl ?_
        simp (disch := omega) only [upS_off]
        rw [hid]
        refine rx_icmp_ne 50 dX12_goTurn_43 (by decide) (fun h43 => absurd h20 h43) (fun h43 => ?_)
        refine rx_iconst (0) dX12_goTurn_46 (by decide) ?_
        refine rx_goto 55 dX12_goTurn_47 (by decide) ?_
        refine rx_iastore dX12_goTurn_55 (sM_19) hvc ?_
        refine rx_iinc_1 (1) rfl dX12_goTurn_56 (by decide) ?_
        refine rx_goto 2 dX12_goTurn_59 (by decide) ?_
        rw [nI_1]
        refine ih (c + 1) _ (by omega) ⟨fun i hi => ?_, fun j a b d => ?_⟩
        · simp (disch := omega) only [upS_off, upS_row, upd, hci]
          by_cases e : i = c
          · rw [if_pos e, if_pos e, e, show goH E hd D c = 0 from if_pos h20, show woH E hd D c = 0 from if_pos h20]; exact ⟨rfl, rfl⟩
          · rw [if_neg e, if_neg e]; exact hI.1 i (by omega)
        · simp (disch := omega) only [upS_off]; exact hI.2 j a b d
  refine rx_iconst (0) dX12_goTurn_0 (by decide) ?_
  refine rx_istore_1 rfl dX12_goTurn_1 ?_
  exact loop (eN E) 0 S (by omega) ⟨fun i hi => absurd hi (by omega), fun _ _ _ _ => rfl⟩
