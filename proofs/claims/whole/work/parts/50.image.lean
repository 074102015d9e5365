def IMc (S S' : SS) : Prop := (∀ i, i < 7 → S' 30 i = S 1 i ∧ S' 31 i = S 2 i ∧ S' 32 i = S 3 i ∧ S' 33 i = S 4 i ∧ S' 34 i = S 5 i) ∧ (∀ i, i < 28 → S' 35 i = S 6 i) ∧ (∀ i, i < 4 → S' 36 i = S 7 i ∧ S' 37 i = S 25 i ∧ S' 38 i = S 26 i ∧ S' 39 i = S 27 i) ∧ ∀ i, i < 8 → S' 40 i = S 28 i ∧ S' 41 i = S 29 i
def IMu (S S' : SS) : Prop := (∀ i, i < 7 → S' 1 i = S 30 i ∧ S' 2 i = S 31 i ∧ S' 3 i = S 32 i ∧ S' 4 i = S 33 i ∧ S' 5 i = S 34 i) ∧ (∀ i, i < 28 → S' 6 i = S 35 i) ∧ (∀ i, i < 4 → S' 7 i = S 36 i ∧ S' 25 i = S 37 i ∧ S' 26 i = S 38 i ∧ S' 27 i = S 39 i) ∧ ∀ i, i < 8 → S' 28 i = S 40 i ∧ S' 29 i = S 41 i
theorem MRel.img {S S' : SS} {L : LL} {σ : SIG} (h : MRel S L σ) (hok : OKg (nImage σ)) (hc : IMc S S') (hF : Fr [30, 31, 32, 33, 34, 35, 36, 37, 38, 39, 40, 41] [49, 50, 51, 52, 53, 54, 55] S S') (h49 : S' 0 49 = 1) (h50 : S' 0 50 = S 0 11) (h51 : S' 0 51 = S 0 0) (h52 : S' 0 52 = S 0 1) (h53 : S' 0 53 = S 0 2) (h54 : S' 0 54 = S 0 42) (h55 : S' 0 55 = S 0 46) : MRel S' L (nImage σ) := by
  have hM := h.sc
  obtain ⟨hk, a2, ⟨a3, a4, a5⟩, ⟨b1, b2, b3, b4, b5, b6, b7, b8, b9, b10, b11, b12, b13⟩⟩ := h
  obtain ⟨c1, c2, c3, c4⟩ := hc
  have o : ∀ j, j ≠ 0 → ¬ (30 ≤ j ∧ j ≤ 41) → S' j = S j := fun j h0 h1 => hF.1 j h0 (by simp; omega)
  have o0 : ∀ k, ¬ (49 ≤ k ∧ k ≤ 55) → S' 0 k = S 0 k := fun k hk => hF.2 k (by simp; omega)
  have hl := hk.1.2.2.2.2.2
  refine ⟨hok, a2.ex (fun j h0 h1 => o j h0 (by omega)) (fun k hk => o0 k (by omega)), ⟨by rw [o0 27 (by decide)]; exact a3, by rw [o0 29 (by decide)]; exact a4, by rw [o0 30 (by decide)]; exact a5⟩, by rw [o0 11 (by decide)]; exact b1, b2.off (o0 42 (by decide)) (o 25 (by decide) (by decide)) (o 26 (by decide) (by decide)) (o 27 (by decide) (by decide)), b3.off (o0 46 (by decide)) (o 28 (by decide) (by decide)) (o 29 (by decide) (by decide)), fun _ => ⟨by rw [h50]; exact b1, by rw [h51]; exact hM.1, by rw [h52]; exact hM.t, by rw [h53]; exact hM.w, by rw [h54]; exact b2.1, by rw [h55]; exact b3.1, fun c hc => ?_, fun c hc => ?_, fun c hc => ?_, fun i q hq => ?_, fun i q hq => ?_⟩, h49, by rw [o0 10 (by decide)]; exact b6, fun y hy => (b7 y hy).off (fun j h1 h2 => o j (by omega) (by omega)), by rw [o0 12 (by decide)]; exact b8, by rw [o 8 (by decide) (by decide)]; exact b9, by rw [o0 68 (by decide)]; exact b10, by rw [o 42 (by decide) (by decide)]; exact b11, fun t ht => by rw [o 43 (by decide) (by decide), o 44 (by decide) (by decide)]; exact b12 t ht, by unfold MLt; rw [o 16 (by decide) (by decide)]; exact b13⟩
  · obtain ⟨d1, d2, d3, d4, d5⟩ := c1 c hc
    exact ⟨d1.trans (hM.k hc), d2.trans (hM.v hc), d3.trans (hM.a hc), d4.trans (hM.e hc), d5.trans (hM.s hc)⟩
  · exact (c2 c hc).trans (hM.2.2.2.2.1 c hc)
  · exact (c3 c hc).1.trans (hM.2.2.2.2.2.1 c hc)
  · have hi : i < 4 := by
      obtain ⟨p, -⟩ := List.getElem?_eq_some_iff.mp hq
      have : (sSn (gN σ)).length ≤ 4 := hl.1
      have p2 : i < (sSn (gN σ)).length := p
      omega
    obtain ⟨-, d1, d2, d3⟩ := c3 i hi
    obtain ⟨e1, e2, e3⟩ := b2.2 i q hq
    exact ⟨d1.trans e1, d2.trans e2, d3.trans e3⟩
  · have hi : i < 8 := by
      obtain ⟨p, -⟩ := List.getElem?_eq_some_iff.mp hq
      have : (sBk (gN σ)).length ≤ 8 := hl.2
      have p2 : i < (sBk (gN σ)).length := p
      omega
    obtain ⟨d1, d2⟩ := c4 i hi
    obtain ⟨e1, e2⟩ := b3.2 i q hq
    exact ⟨d1.trans e1, d2.trans e2⟩
theorem MRel.und {S S' : SS} {L : LL} {σ : SIG} (h : MRel S L σ) (hH : gH σ = true) (hok : OKg (gI σ, σ.2)) (hc : IMu S S') (hF : Fr [1, 2, 3, 4, 5, 6, 7, 25, 26, 27, 28, 29] [0, 1, 2, 11, 42, 46] S S') (h50 : S' 0 11 = S 0 50) (h51 : S' 0 0 = S 0 51) (h52 : S' 0 1 = S 0 52) (h53 : S' 0 2 = S 0 53) (h54 : S' 0 42 = S 0 54) (h55 : S' 0 46 = S 0 55) : MRel S' L (gI σ, σ.2) := by
  obtain ⟨hk, a2, ⟨a3, a4, a5⟩, ⟨b1, b2, b3, b4, b5, b6, b7, b8, b9, b10, b11, b12, b13⟩⟩ := h
  obtain ⟨c1, c2, c3, c4⟩ := hc
  obtain ⟨i1, i2, i3, i4, i5, i6, i7, i8, i9, i10, i11⟩ := b4 hH
  have hIK := hk.2.1 hH
  have hyl : sY (gI σ) ≤ gC σ := hk.2.2.2.2.1 hH
  have hgc : gC σ ≤ 6 := hk.2.2.1
  have o : ∀ j, (8 ≤ j ∧ j ≤ 24) ∨ 30 ≤ j → S' j = S j := fun j h0 => hF.1 j (by omega) (by simp; omega)
  have o0 : ∀ k, k ≠ 0 → k ≠ 1 → k ≠ 2 → k ≠ 11 → k ≠ 42 → k ≠ 46 → S' 0 k = S 0 k := fun k p1 p2 p3 p4 p5 p6 => hF.2 k (by simp; exact ⟨p1, p2, p3, p4, p5, p6⟩)
  refine ⟨hok, ⟨by rw [h51]; exact i2, fun c hc => (c1 c hc).1.trans (i7 c hc).1, fun c hc => (c1 c hc).2.1.trans (i7 c hc).2.1, fun c hc => (c1 c hc).2.2.2.1.trans (i7 c hc).2.2.2.1, fun c hc => (c2 c hc).trans (i8 c hc), fun c hc => (c3 c hc).1.trans (i9 c hc), ⟨sY (gI σ), by omega, by rw [h50]; exact i1, (b7 (sY (gI σ)) hyl).off (fun j h1 h2 => o j (by omega))⟩, fun c hc => (c1 c hc).2.2.1.trans (i7 c hc).2.2.1, by rw [h53]; exact i4, by rw [h52]; exact i3, Nat.lt_of_le_of_lt (show dT (sD (gI σ)) ≤ 9999 from hIK.2.2.1) (by decide), fun c hc => (c1 c hc).2.2.2.2.trans (i7 c hc).2.2.2.2⟩, ⟨by rw [o0 27 (by decide) (by decide) (by decide) (by decide) (by decide) (by decide)]; exact a3, by rw [o0 29 (by decide) (by decide) (by decide) (by decide) (by decide) (by decide)]; exact a4, by rw [o0 30 (by decide) (by decide) (by decide) (by decide) (by decide) (by decide)]; exact a5⟩, by rw [h50]; exact i1, ⟨by rw [h54]; exact i5, fun i q hq => ?_⟩, ⟨by rw [h55]; exact i6, fun i q hq => ?_⟩, fun e => (b4 e).off (fun j h1 h2 => o j (by omega)) (fun k h1 h2 => o0 k (by omega) (by omega) (by omega) (by omega) (by omega) (by omega)), by rw [o0 49 (by decide) (by decide) (by decide) (by decide) (by decide) (by decide)]; exact b5, by rw [o0 10 (by decide) (by decide) (by decide) (by decide) (by decide) (by decide)]; exact b6, fun y hy => (b7 y hy).off (fun j h1 h2 => o j (by omega)), by rw [o0 12 (by decide) (by decide) (by decide) (by decide) (by decide) (by decide)]; exact b8, by rw [o 8 (by decide)]; exact b9, by rw [o0 68 (by decide) (by decide) (by decide) (by decide) (by decide) (by decide)]; exact b10, by rw [o 42 (by decide)]; exact b11, fun t ht => by rw [o 43 (by decide), o 44 (by decide)]; exact b12 t ht, by unfold MLt; rw [o 16 (by decide)]; exact b13⟩
  · have hi : i < 4 := by
      obtain ⟨p, -⟩ := List.getElem?_eq_some_iff.mp hq
      have : (sSn (gI σ)).length ≤ 4 := hIK.2.2.2.2.2.1
      have p2 : i < (sSn (gI σ)).length := p
      omega
    obtain ⟨-, d1, d2, d3⟩ := c3 i hi
    obtain ⟨e1, e2, e3⟩ := i10 i q hq
    exact ⟨d1.trans e1, d2.trans e2, d3.trans e3⟩
  · have hi : i < 8 := by
      obtain ⟨p, -⟩ := List.getElem?_eq_some_iff.mp hq
      have : (sBk (gI σ)).length ≤ 8 := hIK.2.2.2.2.2.2
      have p2 : i < (sBk (gI σ)).length := p
      omega
    obtain ⟨d1, d2⟩ := c4 i hi
    obtain ⟨e1, e2⟩ := i11 i q hq
    exact ⟨d1.trans e1, d2.trans e2⟩

set_option maxRecDepth 20000 in
set_option maxHeartbeats 1000000 in
theorem mc_image (g : GG) (σ : SIG)  (S : SS) (L : LL) (hr : MRel S L σ) (hok : OKg (nImage σ )) : Ci g 0 mX12_image [.ref 0] SHM S L (fun r S' L' => r = aImage σ  ∧ MRel S' L' (nImage σ )) := by
  refine ct_of (ls := [some (.ref 0), none]) 1 (by decide +kernel) rfl rfl ?_
  have LD : ∀ (r c : Nat) (S1 : SS), c + r = 8 → ((∀ i, i < c → S1 40 i = S 28 i ∧ S1 41 i = S 29 i) ∧ (∀ i, i < 7 → S1 30 i = S 1 i ∧ S1 31 i = S 2 i ∧ S1 32 i = S 3 i ∧ S1 33 i = S 4 i ∧ S1 34 i = S 5 i) ∧ (∀ i, i < 28 → S1 35 i = S 6 i) ∧ (∀ i, i < 4 → S1 36 i = S 7 i ∧ S1 37 i = S 25 i ∧ S1 38 i = S 26 i ∧ S1 39 i = S 27 i) ∧ Fr [30, 31, 32, 33, 34, 35, 36, 37, 38, 39, 40, 41] [49, 50, 51, 52, 53, 54, 55] S S1 ∧ (S1 0 49 = 1 ∧ S1 0 50 = S 0 11 ∧ S1 0 51 = S 0 0 ∧ S1 0 52 = S 0 1 ∧ S1 0 53 = S 0 2 ∧ S1 0 54 = S 0 42 ∧ S1 0 55 = S 0 46)) → Rx g 0 0 0 mX12_image SHM.length (fun r sh' S' L' => sh' = SHM ∧ ∃ x, r = some (.int x) ∧ (x = aImage σ ∧ MRel S' L' (nImage σ))) 0 0 216 [some (.ref 0), some (.int (nI c))] [] SHM S1 L := by
    intro r
    induction r with
    | zero =>
      intro c S1 hc hI
      have hcn : c = 8 := by omega
      obtain ⟨h1, p0, p1, p2, hF, hz⟩ := hI
      refine rx_iload_n dX12_image_216 rfl ?_
      refine rx_bipush (8) dX12_image_217 (by decide) ?_
      refine rx_icmp_ge 252 dX12_image_219 (by decide) (fun h219 => ?_) (fun h219 => absurd (nI_le (a := 8) (b := _) (by omega) (by omega)) h219)
      subst hcn
      refine rx_aload_n dX12_image_252 rfl ?_
      refine rx_getI dX12_image_253 flX12_7 (sM_0) rfl ?_
      rw [hF.2 0 (by decide), hr.sz]
      exact rx_iret dX12_image_256 rfl ⟨Nat.le_refl _, Nat.le_refl _⟩ ⟨rfl, _, rfl, ⟨rfl, hr.img hok ⟨p0, p1, p2, h1⟩ hF hz.1 hz.2.1 hz.2.2.1 hz.2.2.2.1 hz.2.2.2.2.1 hz.2.2.2.2.2.1 hz.2.2.2.2.2.2⟩⟩
    | succ r ih =>
      intro c S1 hc hI
      have hc7 : c < 8 := by omega
      have hci : (nI c).toNatClampNeg = c := nI_clamp (by omega)
      have hvc : vp_in (nI c) 8 := vp_in_nI hc7 (by omega)
      obtain ⟨h1, p0, p1, p2, hF, hz⟩ := hI
      refine rx_iload_n dX12_image_216 rfl ?_
      refine rx_bipush (8) dX12_image_217 (by decide) ?_
      refine rx_icmp_ge 252 dX12_image_219 (by decide) (fun h219 => absurd h219 (nI_ge (a := c) (b := 8) (by omega) (by omega))) (fun h219 => ?_)
      refine rx_aload_n dX12_image_222 rfl ?_
      refine rx_getR dX12_image_223 flX12_211 (sM_0) rfl ?_
      refine rx_iload_n dX12_image_226 rfl ?_
      refine rx_aload_n dX12_image_227 rfl ?_
      refine rx_getR dX12_image_228 flX12_153 (sM_0) rfl ?_
      refine rx_iload_n dX12_image_231 rfl ?_
      refine rx_iaload dX12_image_232 (sM_28) hvc ?_
      refine rx_iastore dX12_image_233 (sM_40) hvc ?_
      refine rx_aload_n dX12_image_234 rfl ?_
      refine rx_getR dX12_image_235 flX12_214 (sM_0) rfl ?_
      refine rx_iload_n dX12_image_238 rfl ?_
      refine rx_aload_n dX12_image_239 rfl ?_
      refine rx_getR dX12_image_240 flX12_156 (sM_0) rfl ?_
      refine rx_iload_n dX12_image_243 rfl ?_
      refine rx_iaload dX12_image_244 (sM_29) hvc ?_
      refine rx_iastore dX12_image_245 (sM_41) hvc ?_
      refine rx_iinc_1 (1) rfl dX12_image_246 (by decide) ?_
      refine rx_goto 216 dX12_image_249 (by decide) ?_
      rw [nI_1]
      refine ih (c + 1) _ (by omega) ⟨fun i hi => ?_, ?_, ?_, ?_, ((hF.up (by decide) (by decide)).up (by decide) (by decide)), ?_⟩
      · simp (disch := omega) only [upS_off, upS_row, upd, hci]
        by_cases e : i = c
        · rw [if_pos e, if_pos e, e]; exact ⟨hF.1 28 (by decide) (by decide) ▸ rfl, hF.1 29 (by decide) (by decide) ▸ rfl⟩
        · rw [if_neg e, if_neg e]; exact h1 i (by omega)
      · simp (disch := omega) only [upS_off]; exact p0
      · simp (disch := omega) only [upS_off]; exact p1
      · simp (disch := omega) only [upS_off]; exact p2
      · simp (disch := omega) only [upS_off]; exact hz
  have LC : ∀ (r c : Nat) (S1 : SS), c + r = 4 → ((∀ i, i < c → S1 36 i = S 7 i ∧ S1 37 i = S 25 i ∧ S1 38 i = S 26 i ∧ S1 39 i = S 27 i) ∧ (∀ i, i < 7 → S1 30 i = S 1 i ∧ S1 31 i = S 2 i ∧ S1 32 i = S 3 i ∧ S1 33 i = S 4 i ∧ S1 34 i = S 5 i) ∧ (∀ i, i < 28 → S1 35 i = S 6 i) ∧ Fr [30, 31, 32, 33, 34, 35, 36, 37, 38, 39, 40, 41] [49, 50, 51, 52, 53, 54, 55] S S1 ∧ (S1 0 49 = 1 ∧ S1 0 50 = S 0 11 ∧ S1 0 51 = S 0 0 ∧ S1 0 52 = S 0 1 ∧ S1 0 53 = S 0 2 ∧ S1 0 54 = S 0 42 ∧ S1 0 55 = S 0 46)) → Rx g 0 0 0 mX12_image SHM.length (fun r sh' S' L' => sh' = SHM ∧ ∃ x, r = some (.int x) ∧ (x = aImage σ ∧ MRel S' L' (nImage σ))) 0 0 155 [some (.ref 0), some (.int (nI c))] [] SHM S1 L := by
    intro r
    induction r with
    | zero =>
      intro c S1 hc hI
      have hcn : c = 4 := by omega
      obtain ⟨h1, p0, p1, hF, hz⟩ := hI
      refine rx_iload_n dX12_image_155 rfl ?_
      refine rx_iconst (4) dX12_image_156 (by decide) ?_
      refine rx_icmp_ge 214 dX12_image_157 (by decide) (fun h157 => ?_) (fun h157 => absurd (nI_le (a := 4) (b := _) (by omega) (by omega)) h157)
      subst hcn
      refine rx_iconst (0) dX12_image_214 (by decide) ?_
      refine rx_istore_1 rfl dX12_image_215 ?_
      exact LD 8 0 S1 (by omega) ⟨fun i hi => absurd hi (by omega), p0, p1, h1, hF, hz⟩
    | succ r ih =>
      intro c S1 hc hI
      have hc7 : c < 4 := by omega
      have hci : (nI c).toNatClampNeg = c := nI_clamp (by omega)
      have hvc : vp_in (nI c) 4 := vp_in_nI hc7 (by omega)
      obtain ⟨h1, p0, p1, hF, hz⟩ := hI
      refine rx_iload_n dX12_image_155 rfl ?_
      refine rx_iconst (4) dX12_image_156 (by decide) ?_
      refine rx_icmp_ge 214 dX12_image_157 (by decide) (fun h157 => absurd h157 (nI_ge (a := c) (b := 4) (by omega) (by omega))) (fun h157 => ?_)
      refine rx_aload_n dX12_image_160 rfl ?_
      refine rx_getR dX12_image_161 flX12_199 (sM_0) rfl ?_
      refine rx_iload_n dX12_image_164 rfl ?_
      refine rx_aload_n dX12_image_165 rfl ?_
      refine rx_getR dX12_image_166 flX12_38 (sM_0) rfl ?_
      refine rx_iload_n dX12_image_169 rfl ?_
      refine rx_iaload dX12_image_170 (sM_7) hvc ?_
      refine rx_iastore dX12_image_171 (sM_36) hvc ?_
      refine rx_aload_n dX12_image_172 rfl ?_
      refine rx_getR dX12_image_173 flX12_202 (sM_0) rfl ?_
      refine rx_iload_n dX12_image_176 rfl ?_
      refine rx_aload_n dX12_image_177 rfl ?_
      refine rx_getR dX12_image_178 flX12_141 (sM_0) rfl ?_
      refine rx_iload_n dX12_image_181 rfl ?_
      refine rx_iaload dX12_image_182 (sM_25) hvc ?_
      refine rx_iastore dX12_image_183 (sM_37) hvc ?_
      refine rx_aload_n dX12_image_184 rfl ?_
      refine rx_getR dX12_image_185 flX12_205 (sM_0) rfl ?_
      refine rx_iload_n dX12_image_188 rfl ?_
      refine rx_aload_n dX12_image_189 rfl ?_
      refine rx_getR dX12_image_190 flX12_144 (sM_0) rfl ?_
      refine rx_iload_n dX12_image_193 rfl ?_
      refine rx_iaload dX12_image_194 (sM_26) hvc ?_
      refine rx_iastore dX12_image_195 (sM_38) hvc ?_
      refine rx_aload_n dX12_image_196 rfl ?_
      refine rx_getR dX12_image_197 flX12_208 (sM_0) rfl ?_
      refine rx_iload_n dX12_image_200 rfl ?_
      refine rx_aload_n dX12_image_201 rfl ?_
      refine rx_getR dX12_image_202 flX12_147 (sM_0) rfl ?_
      refine rx_iload_n dX12_image_205 rfl ?_
      refine rx_iaload dX12_image_206 (sM_27) hvc ?_
      refine rx_iastore dX12_image_207 (sM_39) hvc ?_
      refine rx_iinc_1 (1) rfl dX12_image_208 (by decide) ?_
      refine rx_goto 155 dX12_image_211 (by decide) ?_
      rw [nI_1]
      refine ih (c + 1) _ (by omega) ⟨fun i hi => ?_, ?_, ?_, ((((hF.up (by decide) (by decide)).up (by decide) (by decide)).up (by decide) (by decide)).up (by decide) (by decide)), ?_⟩
      · simp (disch := omega) only [upS_off, upS_row, upd, hci]
        by_cases e : i = c
        · rw [if_pos e, if_pos e, if_pos e, if_pos e, e]; exact ⟨hF.1 7 (by decide) (by decide) ▸ rfl, hF.1 25 (by decide) (by decide) ▸ rfl, hF.1 26 (by decide) (by decide) ▸ rfl, hF.1 27 (by decide) (by decide) ▸ rfl⟩
        · rw [if_neg e, if_neg e, if_neg e, if_neg e]; exact h1 i (by omega)
      · simp (disch := omega) only [upS_off]; exact p0
      · simp (disch := omega) only [upS_off]; exact p1
      · simp (disch := omega) only [upS_off]; exact hz
  have LB : ∀ (r c : Nat) (S1 : SS), c + r = 28 → ((∀ i, i < c → S1 35 i = S 6 i) ∧ (∀ i, i < 7 → S1 30 i = S 1 i ∧ S1 31 i = S 2 i ∧ S1 32 i = S 3 i ∧ S1 33 i = S 4 i ∧ S1 34 i = S 5 i) ∧ Fr [30, 31, 32, 33, 34, 35, 36, 37, 38, 39, 40, 41] [49, 50, 51, 52, 53, 54, 55] S S1 ∧ (S1 0 49 = 1 ∧ S1 0 50 = S 0 11 ∧ S1 0 51 = S 0 0 ∧ S1 0 52 = S 0 1 ∧ S1 0 53 = S 0 2 ∧ S1 0 54 = S 0 42 ∧ S1 0 55 = S 0 46)) → Rx g 0 0 0 mX12_image SHM.length (fun r sh' S' L' => sh' = SHM ∧ ∃ x, r = some (.int x) ∧ (x = aImage σ ∧ MRel S' L' (nImage σ))) 0 0 129 [some (.ref 0), some (.int (nI c))] [] SHM S1 L := by
    intro r
    induction r with
    | zero =>
      intro c S1 hc hI
      have hcn : c = 28 := by omega
      obtain ⟨h1, p0, hF, hz⟩ := hI
      refine rx_iload_n dX12_image_129 rfl ?_
      refine rx_bipush (28) dX12_image_130 (by decide) ?_
      refine rx_icmp_ge 153 dX12_image_132 (by decide) (fun h132 => ?_) (fun h132 => absurd (nI_le (a := 28) (b := _) (by omega) (by omega)) h132)
      subst hcn
      refine rx_iconst (0) dX12_image_153 (by decide) ?_
      refine rx_istore_1 rfl dX12_image_154 ?_
      exact LC 4 0 S1 (by omega) ⟨fun i hi => absurd hi (by omega), p0, h1, hF, hz⟩
    | succ r ih =>
      intro c S1 hc hI
      have hc7 : c < 28 := by omega
      have hci : (nI c).toNatClampNeg = c := nI_clamp (by omega)
      have hvc : vp_in (nI c) 28 := vp_in_nI hc7 (by omega)
      obtain ⟨h1, p0, hF, hz⟩ := hI
      refine rx_iload_n dX12_image_129 rfl ?_
      refine rx_bipush (28) dX12_image_130 (by decide) ?_
      refine rx_icmp_ge 153 dX12_image_132 (by decide) (fun h132 => absurd h132 (nI_ge (a := c) (b := 28) (by omega) (by omega))) (fun h132 => ?_)
      refine rx_aload_n dX12_image_135 rfl ?_
      refine rx_getR dX12_image_136 flX12_196 (sM_0) rfl ?_
      refine rx_iload_n dX12_image_139 rfl ?_
      refine rx_aload_n dX12_image_140 rfl ?_
      refine rx_getR dX12_image_141 flX12_35 (sM_0) rfl ?_
      refine rx_iload_n dX12_image_144 rfl ?_
      refine rx_iaload dX12_image_145 (sM_6) hvc ?_
      refine rx_iastore dX12_image_146 (sM_35) hvc ?_
      refine rx_iinc_1 (1) rfl dX12_image_147 (by decide) ?_
      refine rx_goto 129 dX12_image_150 (by decide) ?_
      rw [nI_1]
      refine ih (c + 1) _ (by omega) ⟨fun i hi => ?_, ?_, (hF.up (by decide) (by decide)), ?_⟩
      · simp (disch := omega) only [upS_off, upS_row, upd, hci]
        by_cases e : i = c
        · rw [if_pos e, e]; exact (hF.1 6 (by decide) (by decide) ▸ rfl)
        · rw [if_neg e]; exact h1 i (by omega)
      · simp (disch := omega) only [upS_off]; exact p0
      · simp (disch := omega) only [upS_off]; exact hz
  have LA : ∀ (r c : Nat) (S1 : SS), c + r = 7 → ((∀ i, i < c → S1 30 i = S 1 i ∧ S1 31 i = S 2 i ∧ S1 32 i = S 3 i ∧ S1 33 i = S 4 i ∧ S1 34 i = S 5 i) ∧ Fr [30, 31, 32, 33, 34, 35, 36, 37, 38, 39, 40, 41] [49, 50, 51, 52, 53, 54, 55] S S1 ∧ (S1 0 49 = 1 ∧ S1 0 50 = S 0 11 ∧ S1 0 51 = S 0 0 ∧ S1 0 52 = S 0 1 ∧ S1 0 53 = S 0 2 ∧ S1 0 54 = S 0 42 ∧ S1 0 55 = S 0 46)) → Rx g 0 0 0 mX12_image SHM.length (fun r sh' S' L' => sh' = SHM ∧ ∃ x, r = some (.int x) ∧ (x = aImage σ ∧ MRel S' L' (nImage σ))) 0 0 55 [some (.ref 0), some (.int (nI c))] [] SHM S1 L := by
    intro r
    induction r with
    | zero =>
      intro c S1 hc hI
      have hcn : c = 7 := by omega
      obtain ⟨h1, hF, hz⟩ := hI
      refine rx_iload_n dX12_image_55 rfl ?_
      refine rx_bipush (7) dX12_image_56 (by decide) ?_
      refine rx_icmp_ge 127 dX12_image_58 (by decide) (fun h58 => ?_) (fun h58 => absurd (nI_le (a := 7) (b := _) (by omega) (by omega)) h58)
      subst hcn
      refine rx_iconst (0) dX12_image_127 (by decide) ?_
      refine rx_istore_1 rfl dX12_image_128 ?_
      exact LB 28 0 S1 (by omega) ⟨fun i hi => absurd hi (by omega), h1, hF, hz⟩
    | succ r ih =>
      intro c S1 hc hI
      have hc7 : c < 7 := by omega
      have hci : (nI c).toNatClampNeg = c := nI_clamp (by omega)
      have hvc : vp_in (nI c) 7 := vp_in_nI hc7 (by omega)
      obtain ⟨h1, hF, hz⟩ := hI
      refine rx_iload_n dX12_image_55 rfl ?_
      refine rx_bipush (7) dX12_image_56 (by decide) ?_
      refine rx_icmp_ge 127 dX12_image_58 (by decide) (fun h58 => absurd h58 (nI_ge (a := c) (b := 7) (by omega) (by omega))) (fun h58 => ?_)
      refine rx_aload_n dX12_image_61 rfl ?_
      refine rx_getR dX12_image_62 flX12_181 (sM_0) rfl ?_
      refine rx_iload_n dX12_image_65 rfl ?_
      refine rx_aload_n dX12_image_66 rfl ?_
      refine rx_getR dX12_image_67 flX12_19 (sM_0) rfl ?_
      refine rx_iload_n dX12_image_70 rfl ?_
      refine rx_iaload dX12_image_71 (sM_1) hvc ?_
      refine rx_iastore dX12_image_72 (sM_30) hvc ?_
      refine rx_aload_n dX12_image_73 rfl ?_
      refine rx_getR dX12_image_74 flX12_184 (sM_0) rfl ?_
      refine rx_iload_n dX12_image_77 rfl ?_
      refine rx_aload_n dX12_image_78 rfl ?_
      refine rx_getR dX12_image_79 flX12_23 (sM_0) rfl ?_
      refine rx_iload_n dX12_image_82 rfl ?_
      refine rx_iaload dX12_image_83 (sM_2) hvc ?_
      refine rx_iastore dX12_image_84 (sM_31) hvc ?_
      refine rx_aload_n dX12_image_85 rfl ?_
      refine rx_getR dX12_image_86 flX12_187 (sM_0) rfl ?_
      refine rx_iload_n dX12_image_89 rfl ?_
      refine rx_aload_n dX12_image_90 rfl ?_
      refine rx_getR dX12_image_91 flX12_26 (sM_0) rfl ?_
      refine rx_iload_n dX12_image_94 rfl ?_
      refine rx_iaload dX12_image_95 (sM_3) hvc ?_
      refine rx_iastore dX12_image_96 (sM_32) hvc ?_
      refine rx_aload_n dX12_image_97 rfl ?_
      refine rx_getR dX12_image_98 flX12_190 (sM_0) rfl ?_
      refine rx_iload_n dX12_image_101 rfl ?_
      refine rx_aload_n dX12_image_102 rfl ?_
      refine rx_getR dX12_image_103 flX12_29 (sM_0) rfl ?_
      refine rx_iload_n dX12_image_106 rfl ?_
      refine rx_iaload dX12_image_107 (sM_4) hvc ?_
      refine rx_iastore dX12_image_108 (sM_33) hvc ?_
      refine rx_aload_n dX12_image_109 rfl ?_
      refine rx_getR dX12_image_110 flX12_193 (sM_0) rfl ?_
      refine rx_iload_n dX12_image_113 rfl ?_
      refine rx_aload_n dX12_image_114 rfl ?_
      refine rx_getR dX12_image_115 flX12_32 (sM_0) rfl ?_
      refine rx_iload_n dX12_image_118 rfl ?_
      refine rx_iaload dX12_image_119 (sM_5) hvc ?_
      refine rx_iastore dX12_image_120 (sM_34) hvc ?_
      refine rx_iinc_1 (1) rfl dX12_image_121 (by decide) ?_
      refine rx_goto 55 dX12_image_124 (by decide) ?_
      rw [nI_1]
      refine ih (c + 1) _ (by omega) ⟨fun i hi => ?_, (((((hF.up (by decide) (by decide)).up (by decide) (by decide)).up (by decide) (by decide)).up (by decide) (by decide)).up (by decide) (by decide)), ?_⟩
      · simp (disch := omega) only [upS_off, upS_row, upd, hci]
        by_cases e : i = c
        · rw [if_pos e, if_pos e, if_pos e, if_pos e, if_pos e, e]; exact ⟨hF.1 1 (by decide) (by decide) ▸ rfl, hF.1 2 (by decide) (by decide) ▸ rfl, hF.1 3 (by decide) (by decide) ▸ rfl, hF.1 4 (by decide) (by decide) ▸ rfl, hF.1 5 (by decide) (by decide) ▸ rfl⟩
        · rw [if_neg e, if_neg e, if_neg e, if_neg e, if_neg e]; exact h1 i (by omega)
      · simp (disch := omega) only [upS_off]; exact hz
  refine rx_aload_n dX12_image_0 rfl ?_
  refine rx_iconst (1) dX12_image_1 (by decide) ?_
  refine rx_putZ dX12_image_2 flX12_159 (sM_0) rfl (by decide) (by decide) ?_
  refine rx_aload_n dX12_image_5 rfl ?_
  refine rx_aload_n dX12_image_6 rfl ?_
  refine rx_getI dX12_image_7 flX12_44 (sM_0) rfl ?_
  refine rx_putI dX12_image_10 flX12_163 (sM_0) rfl ?_
  refine rx_aload_n dX12_image_13 rfl ?_
  refine rx_aload_n dX12_image_14 rfl ?_
  refine rx_getI dX12_image_15 flX12_7 (sM_0) rfl ?_
  refine rx_putI dX12_image_18 flX12_166 (sM_0) rfl ?_
  refine rx_aload_n dX12_image_21 rfl ?_
  refine rx_aload_n dX12_image_22 rfl ?_
  refine rx_getI dX12_image_23 flX12_13 (sM_0) rfl ?_
  refine rx_putI dX12_image_26 flX12_169 (sM_0) rfl ?_
  refine rx_aload_n dX12_image_29 rfl ?_
  refine rx_aload_n dX12_image_30 rfl ?_
  refine rx_getI dX12_image_31 flX12_16 (sM_0) rfl ?_
  refine rx_putI dX12_image_34 flX12_172 (sM_0) rfl ?_
  refine rx_aload_n dX12_image_37 rfl ?_
  refine rx_aload_n dX12_image_38 rfl ?_
  refine rx_getI dX12_image_39 flX12_138 (sM_0) rfl ?_
  refine rx_putI dX12_image_42 flX12_175 (sM_0) rfl ?_
  refine rx_aload_n dX12_image_45 rfl ?_
  refine rx_aload_n dX12_image_46 rfl ?_
  refine rx_getI dX12_image_47 flX12_150 (sM_0) rfl ?_
  refine rx_putI dX12_image_50 flX12_178 (sM_0) rfl ?_
  refine rx_iconst (0) dX12_image_53 (by decide) ?_
  refine rx_istore_1 rfl dX12_image_54 ?_
  exact LA 7 0 _ (by omega) ⟨fun i hi => absurd hi (by omega), (((((((Fr.refl.up0 (by decide)).up0 (by decide)).up0 (by decide)).up0 (by decide)).up0 (by decide)).up0 (by decide)).up0 (by decide)), by simp (disch := omega) only [upS_at, upS_ne, true_and, and_self]⟩
set_option maxRecDepth 20000 in
set_option maxHeartbeats 1000000 in
theorem mc_undo (g : GG) (σ : SIG)  (S : SS) (L : LL) (hr : MRel S L σ) (hok : OKg (nUndo σ )) : Ci g 0 mX12_undo [.ref 0] SHM S L (fun r S' L' => r = aUndo σ  ∧ MRel S' L' (nUndo σ )) := by
  refine ct_of (ls := [some (.ref 0), none]) 1 (by decide +kernel) rfl rfl ?_
  have h49 : S 0 49 = (if gH σ = true then 1 else 0) := hr.2.2.2.2.2.2.2.1
  refine rx_aload_n dX12_undo_0 rfl ?_
  refine rx_getI dX12_undo_1 flX12_159 (sM_0) rfl ?_
  refine rx_if_ne 10 dX12_undo_4 (by decide) (fun h4 => ?_) (fun h4 => ?_)
  · have hH : gH σ = true := by
      cases e : gH σ with
      | true => rfl
      | false => rw [e] at h49; exact absurd h49 h4
    have hn51 : S 0 51 = nI (gI σ).1 := (hr.2.2.2.2.2.2.1 hH).2.1
    have LD : ∀ (r c : Nat) (S1 : SS), c + r = 8 → ((∀ i, i < c → S1 28 i = S 40 i ∧ S1 29 i = S 41 i) ∧ (∀ i, i < 7 → S1 1 i = S 30 i ∧ S1 2 i = S 31 i ∧ S1 3 i = S 32 i ∧ S1 4 i = S 33 i ∧ S1 5 i = S 34 i) ∧ (∀ i, i < 28 → S1 6 i = S 35 i) ∧ (∀ i, i < 4 → S1 7 i = S 36 i ∧ S1 25 i = S 37 i ∧ S1 26 i = S 38 i ∧ S1 27 i = S 39 i) ∧ Fr [1, 2, 3, 4, 5, 6, 7, 25, 26, 27, 28, 29] [0, 1, 2, 11, 42, 46] S S1 ∧ (S1 0 11 = S 0 50 ∧ S1 0 0 = S 0 51 ∧ S1 0 1 = S 0 52 ∧ S1 0 2 = S 0 53 ∧ S1 0 42 = S 0 54 ∧ S1 0 46 = S 0 55)) → Rx g 0 0 0 mX12_undo SHM.length (fun r sh' S' L' => sh' = SHM ∧ ∃ x, r = some (.int x) ∧ (x = aUndo σ ∧ MRel S' L' (nUndo σ))) 0 0 221 [some (.ref 0), some (.int (nI c))] [] SHM S1 L := by
      intro r
      induction r with
      | zero =>
        intro c S1 hc hI
        have hcn : c = 8 := by omega
        obtain ⟨h1, p0, p1, p2, hF, hz⟩ := hI
        refine rx_iload_n dX12_undo_221 rfl ?_
        refine rx_bipush (8) dX12_undo_222 (by decide) ?_
        refine rx_icmp_ge 257 dX12_undo_224 (by decide) (fun h224 => ?_) (fun h224 => absurd (nI_le (a := 8) (b := _) (by omega) (by omega)) h224)
        subst hcn
        refine rx_aload_n dX12_undo_257 rfl ?_
        refine rx_getI dX12_undo_258 flX12_7 (sM_0) rfl ?_
        rw [hz.2.1, hn51]
        exact rx_iret dX12_undo_261 rfl ⟨Nat.le_refl _, Nat.le_refl _⟩ ⟨rfl, _, rfl, ⟨by unfold aUndo; rw [if_pos hH], by unfold nUndo at hok ⊢; rw [if_pos hH] at hok ⊢; exact hr.und hH hok ⟨p0, p1, p2, h1⟩ hF hz.1 hz.2.1 hz.2.2.1 hz.2.2.2.1 hz.2.2.2.2.1 hz.2.2.2.2.2⟩⟩
      | succ r ih =>
        intro c S1 hc hI
        have hc7 : c < 8 := by omega
        have hci : (nI c).toNatClampNeg = c := nI_clamp (by omega)
        have hvc : vp_in (nI c) 8 := vp_in_nI hc7 (by omega)
        obtain ⟨h1, p0, p1, p2, hF, hz⟩ := hI
        refine rx_iload_n dX12_undo_221 rfl ?_
        refine rx_bipush (8) dX12_undo_222 (by decide) ?_
        refine rx_icmp_ge 257 dX12_undo_224 (by decide) (fun h224 => absurd h224 (nI_ge (a := c) (b := 8) (by omega) (by omega))) (fun h224 => ?_)
        refine rx_aload_n dX12_undo_227 rfl ?_
        refine rx_getR dX12_undo_228 flX12_153 (sM_0) rfl ?_
        refine rx_iload_n dX12_undo_231 rfl ?_
        refine rx_aload_n dX12_undo_232 rfl ?_
        refine rx_getR dX12_undo_233 flX12_211 (sM_0) rfl ?_
        refine rx_iload_n dX12_undo_236 rfl ?_
        refine rx_iaload dX12_undo_237 (sM_40) hvc ?_
        refine rx_iastore dX12_undo_238 (sM_28) hvc ?_
        refine rx_aload_n dX12_undo_239 rfl ?_
        refine rx_getR dX12_undo_240 flX12_156 (sM_0) rfl ?_
        refine rx_iload_n dX12_undo_243 rfl ?_
        refine rx_aload_n dX12_undo_244 rfl ?_
        refine rx_getR dX12_undo_245 flX12_214 (sM_0) rfl ?_
        refine rx_iload_n dX12_undo_248 rfl ?_
        refine rx_iaload dX12_undo_249 (sM_41) hvc ?_
        refine rx_iastore dX12_undo_250 (sM_29) hvc ?_
        refine rx_iinc_1 (1) rfl dX12_undo_251 (by decide) ?_
        refine rx_goto 221 dX12_undo_254 (by decide) ?_
        rw [nI_1]
        refine ih (c + 1) _ (by omega) ⟨fun i hi => ?_, ?_, ?_, ?_, ((hF.up (by decide) (by decide)).up (by decide) (by decide)), ?_⟩
        · simp (disch := omega) only [upS_off, upS_row, upd, hci]
          by_cases e : i = c
          · rw [if_pos e, if_pos e, e]; exact ⟨hF.1 40 (by decide) (by decide) ▸ rfl, hF.1 41 (by decide) (by decide) ▸ rfl⟩
          · rw [if_neg e, if_neg e]; exact h1 i (by omega)
        · simp (disch := omega) only [upS_off]; exact p0
        · simp (disch := omega) only [upS_off]; exact p1
        · simp (disch := omega) only [upS_off]; exact p2
        · simp (disch := omega) only [upS_off]; exact hz
    have LC : ∀ (r c : Nat) (S1 : SS), c + r = 4 → ((∀ i, i < c → S1 7 i = S 36 i ∧ S1 25 i = S 37 i ∧ S1 26 i = S 38 i ∧ S1 27 i = S 39 i) ∧ (∀ i, i < 7 → S1 1 i = S 30 i ∧ S1 2 i = S 31 i ∧ S1 3 i = S 32 i ∧ S1 4 i = S 33 i ∧ S1 5 i = S 34 i) ∧ (∀ i, i < 28 → S1 6 i = S 35 i) ∧ Fr [1, 2, 3, 4, 5, 6, 7, 25, 26, 27, 28, 29] [0, 1, 2, 11, 42, 46] S S1 ∧ (S1 0 11 = S 0 50 ∧ S1 0 0 = S 0 51 ∧ S1 0 1 = S 0 52 ∧ S1 0 2 = S 0 53 ∧ S1 0 42 = S 0 54 ∧ S1 0 46 = S 0 55)) → Rx g 0 0 0 mX12_undo SHM.length (fun r sh' S' L' => sh' = SHM ∧ ∃ x, r = some (.int x) ∧ (x = aUndo σ ∧ MRel S' L' (nUndo σ))) 0 0 160 [some (.ref 0), some (.int (nI c))] [] SHM S1 L := by
      intro r
      induction r with
      | zero =>
        intro c S1 hc hI
        have hcn : c = 4 := by omega
        obtain ⟨h1, p0, p1, hF, hz⟩ := hI
        refine rx_iload_n dX12_undo_160 rfl ?_
        refine rx_iconst (4) dX12_undo_161 (by decide) ?_
        refine rx_icmp_ge 219 dX12_undo_162 (by decide) (fun h162 => ?_) (fun h162 => absurd (nI_le (a := 4) (b := _) (by omega) (by omega)) h162)
        subst hcn
        refine rx_iconst (0) dX12_undo_219 (by decide) ?_
        refine rx_istore_1 rfl dX12_undo_220 ?_
        exact LD 8 0 S1 (by omega) ⟨fun i hi => absurd hi (by omega), p0, p1, h1, hF, hz⟩
      | succ r ih =>
        intro c S1 hc hI
        have hc7 : c < 4 := by omega
        have hci : (nI c).toNatClampNeg = c := nI_clamp (by omega)
        have hvc : vp_in (nI c) 4 := vp_in_nI hc7 (by omega)
        obtain ⟨h1, p0, p1, hF, hz⟩ := hI
        refine rx_iload_n dX12_undo_160 rfl ?_
        refine rx_iconst (4) dX12_undo_161 (by decide) ?_
        refine rx_icmp_ge 219 dX12_undo_162 (by decide) (fun h162 => absurd h162 (nI_ge (a := c) (b := 4) (by omega) (by omega))) (fun h162 => ?_)
        refine rx_aload_n dX12_undo_165 rfl ?_
        refine rx_getR dX12_undo_166 flX12_38 (sM_0) rfl ?_
        refine rx_iload_n dX12_undo_169 rfl ?_
        refine rx_aload_n dX12_undo_170 rfl ?_
        refine rx_getR dX12_undo_171 flX12_199 (sM_0) rfl ?_
        refine rx_iload_n dX12_undo_174 rfl ?_
        refine rx_iaload dX12_undo_175 (sM_36) hvc ?_
        refine rx_iastore dX12_undo_176 (sM_7) hvc ?_
        refine rx_aload_n dX12_undo_177 rfl ?_
        refine rx_getR dX12_undo_178 flX12_141 (sM_0) rfl ?_
        refine rx_iload_n dX12_undo_181 rfl ?_
        refine rx_aload_n dX12_undo_182 rfl ?_
        refine rx_getR dX12_undo_183 flX12_202 (sM_0) rfl ?_
        refine rx_iload_n dX12_undo_186 rfl ?_
        refine rx_iaload dX12_undo_187 (sM_37) hvc ?_
        refine rx_iastore dX12_undo_188 (sM_25) hvc ?_
        refine rx_aload_n dX12_undo_189 rfl ?_
        refine rx_getR dX12_undo_190 flX12_144 (sM_0) rfl ?_
        refine rx_iload_n dX12_undo_193 rfl ?_
        refine rx_aload_n dX12_undo_194 rfl ?_
        refine rx_getR dX12_undo_195 flX12_205 (sM_0) rfl ?_
        refine rx_iload_n dX12_undo_198 rfl ?_
        refine rx_iaload dX12_undo_199 (sM_38) hvc ?_
        refine rx_iastore dX12_undo_200 (sM_26) hvc ?_
        refine rx_aload_n dX12_undo_201 rfl ?_
        refine rx_getR dX12_undo_202 flX12_147 (sM_0) rfl ?_
        refine rx_iload_n dX12_undo_205 rfl ?_
        refine rx_aload_n dX12_undo_206 rfl ?_
        refine rx_getR dX12_undo_207 flX12_208 (sM_0) rfl ?_
        refine rx_iload_n dX12_undo_210 rfl ?_
        refine rx_iaload dX12_undo_211 (sM_39) hvc ?_
        refine rx_iastore dX12_undo_212 (sM_27) hvc ?_
        refine rx_iinc_1 (1) rfl dX12_undo_213 (by decide) ?_
        refine rx_goto 160 dX12_undo_216 (by decide) ?_
        rw [nI_1]
        refine ih (c + 1) _ (by omega) ⟨fun i hi => ?_, ?_, ?_, ((((hF.up (by decide) (by decide)).up (by decide) (by decide)).up (by decide) (by decide)).up (by decide) (by decide)), ?_⟩
        · simp (disch := omega) only [upS_off, upS_row, upd, hci]
          by_cases e : i = c
          · rw [if_pos e, if_pos e, if_pos e, if_pos e, e]; exact ⟨hF.1 36 (by decide) (by decide) ▸ rfl, hF.1 37 (by decide) (by decide) ▸ rfl, hF.1 38 (by decide) (by decide) ▸ rfl, hF.1 39 (by decide) (by decide) ▸ rfl⟩
          · rw [if_neg e, if_neg e, if_neg e, if_neg e]; exact h1 i (by omega)
        · simp (disch := omega) only [upS_off]; exact p0
        · simp (disch := omega) only [upS_off]; exact p1
        · simp (disch := omega) only [upS_off]; exact hz
    have LB : ∀ (r c : Nat) (S1 : SS), c + r = 28 → ((∀ i, i < c → S1 6 i = S 35 i) ∧ (∀ i, i < 7 → S1 1 i = S 30 i ∧ S1 2 i = S 31 i ∧ S1 3 i = S 32 i ∧ S1 4 i = S 33 i ∧ S1 5 i = S 34 i) ∧ Fr [1, 2, 3, 4, 5, 6, 7, 25, 26, 27, 28, 29] [0, 1, 2, 11, 42, 46] S S1 ∧ (S1 0 11 = S 0 50 ∧ S1 0 0 = S 0 51 ∧ S1 0 1 = S 0 52 ∧ S1 0 2 = S 0 53 ∧ S1 0 42 = S 0 54 ∧ S1 0 46 = S 0 55)) → Rx g 0 0 0 mX12_undo SHM.length (fun r sh' S' L' => sh' = SHM ∧ ∃ x, r = some (.int x) ∧ (x = aUndo σ ∧ MRel S' L' (nUndo σ))) 0 0 134 [some (.ref 0), some (.int (nI c))] [] SHM S1 L := by
      intro r
      induction r with
      | zero =>
        intro c S1 hc hI
        have hcn : c = 28 := by omega
        obtain ⟨h1, p0, hF, hz⟩ := hI
        refine rx_iload_n dX12_undo_134 rfl ?_
        refine rx_bipush (28) dX12_undo_135 (by decide) ?_
        refine rx_icmp_ge 158 dX12_undo_137 (by decide) (fun h137 => ?_) (fun h137 => absurd (nI_le (a := 28) (b := _) (by omega) (by omega)) h137)
        subst hcn
        refine rx_iconst (0) dX12_undo_158 (by decide) ?_
        refine rx_istore_1 rfl dX12_undo_159 ?_
        exact LC 4 0 S1 (by omega) ⟨fun i hi => absurd hi (by omega), p0, h1, hF, hz⟩
      | succ r ih =>
        intro c S1 hc hI
        have hc7 : c < 28 := by omega
        have hci : (nI c).toNatClampNeg = c := nI_clamp (by omega)
        have hvc : vp_in (nI c) 28 := vp_in_nI hc7 (by omega)
        obtain ⟨h1, p0, hF, hz⟩ := hI
        refine rx_iload_n dX12_undo_134 rfl ?_
        refine rx_bipush (28) dX12_undo_135 (by decide) ?_
        refine rx_icmp_ge 158 dX12_undo_137 (by decide) (fun h137 => absurd h137 (nI_ge (a := c) (b := 28) (by omega) (by omega))) (fun h137 => ?_)
        refine rx_aload_n dX12_undo_140 rfl ?_
        refine rx_getR dX12_undo_141 flX12_35 (sM_0) rfl ?_
        refine rx_iload_n dX12_undo_144 rfl ?_
        refine rx_aload_n dX12_undo_145 rfl ?_
        refine rx_getR dX12_undo_146 flX12_196 (sM_0) rfl ?_
        refine rx_iload_n dX12_undo_149 rfl ?_
        refine rx_iaload dX12_undo_150 (sM_35) hvc ?_
        refine rx_iastore dX12_undo_151 (sM_6) hvc ?_
        refine rx_iinc_1 (1) rfl dX12_undo_152 (by decide) ?_
        refine rx_goto 134 dX12_undo_155 (by decide) ?_
        rw [nI_1]
        refine ih (c + 1) _ (by omega) ⟨fun i hi => ?_, ?_, (hF.up (by decide) (by decide)), ?_⟩
        · simp (disch := omega) only [upS_off, upS_row, upd, hci]
          by_cases e : i = c
          · rw [if_pos e, e]; exact (hF.1 35 (by decide) (by decide) ▸ rfl)
          · rw [if_neg e]; exact h1 i (by omega)
        · simp (disch := omega) only [upS_off]; exact p0
        · simp (disch := omega) only [upS_off]; exact hz
    have LA : ∀ (r c : Nat) (S1 : SS), c + r = 7 → ((∀ i, i < c → S1 1 i = S 30 i ∧ S1 2 i = S 31 i ∧ S1 3 i = S 32 i ∧ S1 4 i = S 33 i ∧ S1 5 i = S 34 i) ∧ Fr [1, 2, 3, 4, 5, 6, 7, 25, 26, 27, 28, 29] [0, 1, 2, 11, 42, 46] S S1 ∧ (S1 0 11 = S 0 50 ∧ S1 0 0 = S 0 51 ∧ S1 0 1 = S 0 52 ∧ S1 0 2 = S 0 53 ∧ S1 0 42 = S 0 54 ∧ S1 0 46 = S 0 55)) → Rx g 0 0 0 mX12_undo SHM.length (fun r sh' S' L' => sh' = SHM ∧ ∃ x, r = some (.int x) ∧ (x = aUndo σ ∧ MRel S' L' (nUndo σ))) 0 0 60 [some (.ref 0), some (.int (nI c))] [] SHM S1 L := by
      intro r
      induction r with
      | zero =>
        intro c S1 hc hI
        have hcn : c = 7 := by omega
        obtain ⟨h1, hF, hz⟩ := hI
        refine rx_iload_n dX12_undo_60 rfl ?_
        refine rx_bipush (7) dX12_undo_61 (by decide) ?_
        refine rx_icmp_ge 132 dX12_undo_63 (by decide) (fun h63 => ?_) (fun h63 => absurd (nI_le (a := 7) (b := _) (by omega) (by omega)) h63)
        subst hcn
        refine rx_iconst (0) dX12_undo_132 (by decide) ?_
        refine rx_istore_1 rfl dX12_undo_133 ?_
        exact LB 28 0 S1 (by omega) ⟨fun i hi => absurd hi (by omega), h1, hF, hz⟩
      | succ r ih =>
        intro c S1 hc hI
        have hc7 : c < 7 := by omega
        have hci : (nI c).toNatClampNeg = c := nI_clamp (by omega)
        have hvc : vp_in (nI c) 7 := vp_in_nI hc7 (by omega)
        obtain ⟨h1, hF, hz⟩ := hI
        refine rx_iload_n dX12_undo_60 rfl ?_
        refine rx_bipush (7) dX12_undo_61 (by decide) ?_
        refine rx_icmp_ge 132 dX12_undo_63 (by decide) (fun h63 => absurd h63 (nI_ge (a := c) (b := 7) (by omega) (by omega))) (fun h63 => ?_)
        refine rx_aload_n dX12_undo_66 rfl ?_
        refine rx_getR dX12_undo_67 flX12_19 (sM_0) rfl ?_
        refine rx_iload_n dX12_undo_70 rfl ?_
        refine rx_aload_n dX12_undo_71 rfl ?_
        refine rx_getR dX12_undo_72 flX12_181 (sM_0) rfl ?_
        refine rx_iload_n dX12_undo_75 rfl ?_
        refine rx_iaload dX12_undo_76 (sM_30) hvc ?_
        refine rx_iastore dX12_undo_77 (sM_1) hvc ?_
        refine rx_aload_n dX12_undo_78 rfl ?_
        refine rx_getR dX12_undo_79 flX12_23 (sM_0) rfl ?_
        refine rx_iload_n dX12_undo_82 rfl ?_
        refine rx_aload_n dX12_undo_83 rfl ?_
        refine rx_getR dX12_undo_84 flX12_184 (sM_0) rfl ?_
        refine rx_iload_n dX12_undo_87 rfl ?_
        refine rx_iaload dX12_undo_88 (sM_31) hvc ?_
        refine rx_iastore dX12_undo_89 (sM_2) hvc ?_
        refine rx_aload_n dX12_undo_90 rfl ?_
        refine rx_getR dX12_undo_91 flX12_26 (sM_0) rfl ?_
        refine rx_iload_n dX12_undo_94 rfl ?_
        refine rx_aload_n dX12_undo_95 rfl ?_
        refine rx_getR dX12_undo_96 flX12_187 (sM_0) rfl ?_
        refine rx_iload_n dX12_undo_99 rfl ?_
        refine rx_iaload dX12_undo_100 (sM_32) hvc ?_
        refine rx_iastore dX12_undo_101 (sM_3) hvc ?_
        refine rx_aload_n dX12_undo_102 rfl ?_
        refine rx_getR dX12_undo_103 flX12_29 (sM_0) rfl ?_
        refine rx_iload_n dX12_undo_106 rfl ?_
        refine rx_aload_n dX12_undo_107 rfl ?_
        refine rx_getR dX12_undo_108 flX12_190 (sM_0) rfl ?_
        refine rx_iload_n dX12_undo_111 rfl ?_
        refine rx_iaload dX12_undo_112 (sM_33) hvc ?_
        refine rx_iastore dX12_undo_113 (sM_4) hvc ?_
        refine rx_aload_n dX12_undo_114 rfl ?_
        refine rx_getR dX12_undo_115 flX12_32 (sM_0) rfl ?_
        refine rx_iload_n dX12_undo_118 rfl ?_
        refine rx_aload_n dX12_undo_119 rfl ?_
        refine rx_getR dX12_undo_120 flX12_193 (sM_0) rfl ?_
        refine rx_iload_n dX12_undo_123 rfl ?_
        refine rx_iaload dX12_undo_124 (sM_34) hvc ?_
        refine rx_iastore dX12_undo_125 (sM_5) hvc ?_
        refine rx_iinc_1 (1) rfl dX12_undo_126 (by decide) ?_
        refine rx_goto 60 dX12_undo_129 (by decide) ?_
        rw [nI_1]
        refine ih (c + 1) _ (by omega) ⟨fun i hi => ?_, (((((hF.up (by decide) (by decide)).up (by decide) (by decide)).up (by decide) (by decide)).up (by decide) (by decide)).up (by decide) (by decide)), ?_⟩
        · simp (disch := omega) only [upS_off, upS_row, upd, hci]
          by_cases e : i = c
          · rw [if_pos e, if_pos e, if_pos e, if_pos e, if_pos e, e]; exact ⟨hF.1 30 (by decide) (by decide) ▸ rfl, hF.1 31 (by decide) (by decide) ▸ rfl, hF.1 32 (by decide) (by decide) ▸ rfl, hF.1 33 (by decide) (by decide) ▸ rfl, hF.1 34 (by decide) (by decide) ▸ rfl⟩
          · rw [if_neg e, if_neg e, if_neg e, if_neg e, if_neg e]; exact h1 i (by omega)
        · simp (disch := omega) only [upS_off]; exact hz
    refine rx_aload_n dX12_undo_10 rfl ?_
    refine rx_aload_n dX12_undo_11 rfl ?_
    refine rx_getI dX12_undo_12 flX12_163 (sM_0) rfl ?_
    refine rx_putI dX12_undo_15 flX12_44 (sM_0) rfl ?_
    refine rx_aload_n dX12_undo_18 rfl ?_
    refine rx_aload_n dX12_undo_19 rfl ?_
    refine rx_getI dX12_undo_20 flX12_166 (sM_0) rfl ?_
    refine rx_putI dX12_undo_23 flX12_7 (sM_0) rfl ?_
    refine rx_aload_n dX12_undo_26 rfl ?_
    refine rx_aload_n dX12_undo_27 rfl ?_
    refine rx_getI dX12_undo_28 flX12_169 (sM_0) rfl ?_
    refine rx_putI dX12_undo_31 flX12_13 (sM_0) rfl ?_
    refine rx_aload_n dX12_undo_34 rfl ?_
    refine rx_aload_n dX12_undo_35 rfl ?_
    refine rx_getI dX12_undo_36 flX12_172 (sM_0) rfl ?_
    refine rx_putI dX12_undo_39 flX12_16 (sM_0) rfl ?_
    refine rx_aload_n dX12_undo_42 rfl ?_
    refine rx_aload_n dX12_undo_43 rfl ?_
    refine rx_getI dX12_undo_44 flX12_175 (sM_0) rfl ?_
    refine rx_putI dX12_undo_47 flX12_138 (sM_0) rfl ?_
    refine rx_aload_n dX12_undo_50 rfl ?_
    refine rx_aload_n dX12_undo_51 rfl ?_
    refine rx_getI dX12_undo_52 flX12_178 (sM_0) rfl ?_
    refine rx_putI dX12_undo_55 flX12_150 (sM_0) rfl ?_
    refine rx_iconst (0) dX12_undo_58 (by decide) ?_
    refine rx_istore_1 rfl dX12_undo_59 ?_
    exact LA 7 0 _ (by omega) ⟨fun i hi => absurd hi (by omega), ((((((Fr.refl.up0 (by decide)).up0 (by decide)).up0 (by decide)).up0 (by decide)).up0 (by decide)).up0 (by decide)), by simp (disch := omega) only [upS_at, upS_ne, true_and, and_self]⟩
  · refine rx_bipush (-3) dX12_undo_7 (by decide) ?_
    exact rx_iret dX12_undo_9 rfl ⟨Nat.le_refl _, Nat.le_refl _⟩ ⟨rfl, _, rfl, ⟨by unfold aUndo; rw [if_neg (fun q => by rw [q] at h49; rw [h49] at h4; exact absurd h4 (by decide))], by unfold nUndo; rw [if_neg (fun q => by rw [q] at h49; rw [h49] at h4; exact absurd h4 (by decide))]; exact hr⟩⟩
