/-- what is left as it was: cells outside J, fields of the first outside K -/
def Fr (J K : List Nat) (S S' : SS) : Prop := (∀ j, j ≠ 0 → j ∉ J → S' j = S j) ∧ ∀ k, k ∉ K → S' 0 k = S 0 k
theorem Fr.refl {J K : List Nat} {S : SS} : Fr J K S S := ⟨fun _ _ _ => rfl, fun _ _ => rfl⟩
theorem Fr.trans {J K : List Nat} {S S1 S2 : SS} (h : Fr J K S S1) (h2 : Fr J K S1 S2) : Fr J K S S2 := ⟨fun j a b => (h2.1 j a b).trans (h.1 j a b), fun k a => (h2.2 k a).trans (h.2 k a)⟩
theorem Fr.mono {J K J' K' : List Nat} {S S' : SS} (h : Fr J K S S') (hJ : ∀ j ∈ J, j ∈ J') (hK : ∀ k ∈ K, k ∈ K') : Fr J' K' S S' := ⟨fun j a b => h.1 j a (fun q => b (hJ j q)), fun k a => h.2 k (fun q => a (hK k q))⟩
theorem Fr.up {J K : List Nat} {S S1 : SS} {a k : Nat} {x : Int32} (h : Fr J K S S1) (ha : a ∈ J) (h0 : a ≠ 0) : Fr J K S (upS S1 a k x) := ⟨fun j b c => (upS_off S1 a k x (fun e => c (by rw [e]; exact ha))).trans (h.1 j b c), fun k' b => (congrFun (upS_off S1 a k x (Ne.symm h0)) k').trans (h.2 k' b)⟩
theorem Fr.up0 {J K : List Nat} {S S1 : SS} {k : Nat} {x : Int32} (h : Fr J K S S1) (hk : k ∈ K) : Fr J K S (upS S1 0 k x) := ⟨fun j b c => (upS_off S1 0 k x b).trans (h.1 j b c), fun k' b => by
  rw [upS_row]
  unfold upd
  rw [if_neg (fun e => b (by rw [e]; exact hk))]
  exact h.2 k' b⟩
abbrev JS : List Nat := [3, 5, 17, 18, 19, 20, 21, 22]
abbrev KS : List Nat := [1, 2, 29, 30, 33, 34, 38, 39]
theorem MF.fr {S S' : SS} (h : MF S S') : Fr JS KS S S' := ⟨fun j a b => by
  simp only [JS, List.mem_cons, not_or] at b
  exact h.1 j a b.1 b.2.1 b.2.2.1 b.2.2.2.1 b.2.2.2.2.1, fun k a => by
  simp only [KS, List.mem_cons, not_or] at a
  exact h.2 k a.1 a.2.1⟩
/-- the kept values -/
def KV (S : SS) (D : DY) : Prop := S 0 29 = 2000000000 ∧ S 0 33 = nI (dT D) ∧ S 0 34 = dW D ∧ (∀ c, c < 7 → S 20 c = dA D c) ∧ ∀ c, c < 7 → S 21 c = dS D c
theorem KV.of {S S' : SS} {D : DY} (h : KV S D) (h0 : ∀ k, k = 29 ∨ k = 33 ∨ k = 34 → S' 0 k = S 0 k) (h1 : S' 20 = S 20) (h2 : S' 21 = S 21) : KV S' D :=
  ⟨by rw [h0 29 (by decide)]; exact h.1, by rw [h0 33 (by decide)]; exact h.2.1, by rw [h0 34 (by decide)]; exact h.2.2.1, by rw [h1]; exact h.2.2.2.1, by rw [h2]; exact h.2.2.2.2⟩
theorem KV.mf {S S' : SS} {D : DY} (h : KV S D) (hF : MF S S') : KV S' D := h.of (fun k hk => hF.2 k (by omega) (by omega)) (hF.1 20 (by decide) (by decide) (by decide) (by decide) (by decide) (by decide)) (hF.1 21 (by decide) (by decide) (by decide) (by decide) (by decide) (by decide))
/-- all is as it was but what a laying uses -/
def MRs (E : EN) (D : DY) (S S' : SS) : Prop := MSc S' E D ∧ Fr JS KS S S' ∧ S' 0 29 = 9999 ∧ S' 0 30 = -1
theorem hms_of {E : EN} {D : DY} {x : Int32} (h : DOK (eN E) D) (hT : dT D < 20000) (hx : x = 2000000000) : ∀ c, c < eN E → dS D c < x := fun c hc => by
  obtain ⟨s, hs, e⟩ := h.2.2 c hc
  rw [e, hx, show (2000000000 : Int32) = nI 2000000000 from rfl]
  exact nI_lt (by omega) (by omega)
theorem MSc.ex {S S' : SS} {E : EN} {D : DY} (h : MSc S E D) (ho : ∀ j, j ≠ 0 → j ≤ 14 → S' j = S j) (h0 : ∀ k, k = 0 ∨ k = 1 ∨ k = 2 ∨ k = 11 → S' 0 k = S 0 k) : MSc S' E D := by
  obtain ⟨a1, a2, a3, a4, a5, a6, ⟨y, hy, e, hY⟩, a8, a9, a10, a11, a12⟩ := h
  refine ⟨by rw [h0 0 (by decide)]; exact a1, fun c hc => by rw [ho 1 (by decide) (by decide)]; exact a2 c hc, fun c hc => by rw [ho 2 (by decide) (by decide)]; exact a3 c hc, fun c hc => by rw [ho 4 (by decide) (by decide)]; exact a4 c hc, fun c hc => by rw [ho 6 (by decide) (by decide)]; exact a5 c hc, fun c hc => by rw [ho 7 (by decide) (by decide)]; exact a6 c hc, ⟨y, hy, by rw [h0 11 (by decide)]; exact e, hY.off (fun j h1 h2 => ho j (by omega) (by omega))⟩, fun c hc => by rw [ho 3 (by decide) (by decide)]; exact a8 c hc, by rw [h0 2 (by decide)]; exact a9, by rw [h0 1 (by decide)]; exact a10, a11, fun c hc => by rw [ho 5 (by decide) (by decide)]; exact a12 c hc⟩
theorem bit_and : ∀ W, W < 128 → ∀ c, c < 7 → (bitv (nI W) (nI c) = 0 ↔ nI W &&& (1 <<< (nI c &&& 31)) = 0) := by decide +kernel
theorem bit_andD {n : Nat} {D : DY} (h : DOK n D) (hn : n ≤ 7) {c : Nat} (hc : c < 7) : (bitv (dW D) (nI c) = 0 ↔ dW D &&& (1 <<< (nI c &&& 31)) = 0) := by
  obtain ⟨W, hW, e⟩ := h.1
  rw [e]
  exact bit_and W (Nat.lt_of_lt_of_le hW (pow7 hn)) c hc

set_option maxRecDepth 20000 in
set_option maxHeartbeats 400000 in
theorem m_save (g : GG) (E : EN) (D : DY) (S : SS) (L : LL) (hM : MSc S E D) : Cv g 0 mX12_save [.ref 0] SHM S L (fun S' L' => (KV S' D ∧ MSc S' E D ∧ Fr JS KS S S' ∧ S' 0 30 = S 0 30) ∧ L' = L) := by
  refine ct_of (ls := [some (.ref 0), none]) 1 (by decide +kernel) rfl rfl ?_
  have loop : ∀ (r c : Nat) (S1 : SS), c + r = 7 → ((∀ i, i < c → S1 20 i = dA D i ∧ S1 21 i = dS D i) ∧ MSc S1 E D ∧ S1 0 29 = 2000000000 ∧ S1 0 33 = nI (dT D) ∧ S1 0 34 = dW D ∧ Fr JS KS S S1 ∧ S1 0 30 = S 0 30) → Rx g 0 0 0 mX12_save SHM.length (fun r sh' S' L' => sh' = SHM ∧ r = none ∧ ((KV S' D ∧ MSc S' E D ∧ Fr JS KS S S' ∧ S' 0 30 = S 0 30) ∧ L' = L)) 0 0 25 [some (.ref 0), some (.int (nI c))] [] SHM S1 L := by
    intro r
    induction r with
    | zero =>
      intro c S1 hc hI
      have hcn : c = 7 := by omega
      obtain ⟨h1, h2, h3, h4, h5, h6, h7⟩ := hI
      subst hcn
      refine rx_iload_n dX12_save_25 rfl ?_
      refine rx_bipush (7) dX12_save_26 (by decide) ?_
      refine rx_icmp_ge 61 dX12_save_28 (by decide) (fun h28 => ?_) (fun h28 => absurd (nI_le (a := 7) (b := _) (by omega) (by omega)) h28)
      exact rx_vret dX12_save_61 rfl ⟨Nat.le_refl _, Nat.le_refl _⟩ ⟨rfl, rfl, ⟨⟨⟨h3, h4, h5, fun c hc => (h1 c hc).1, fun c hc => (h1 c hc).2⟩, h2, h6, h7⟩, rfl⟩⟩
    | succ r ih =>
      intro c S1 hc hI
      have hc7 : c < 7 := by omega
      have hci : (nI c).toNatClampNeg = c := nI_clamp (by omega)
      have hvc : vp_in (nI c) 7 := vp_in_nI hc7 (by omega)
      obtain ⟨h1, h2, h3, h4, h5, h6, h7⟩ := hI
      refine rx_iload_n dX12_save_25 rfl ?_
      refine rx_bipush (7) dX12_save_26 (by decide) ?_
      refine rx_icmp_ge 61 dX12_save_28 (by decide) (fun h28 => absurd h28 (nI_ge (a := c) (b := 7) (by omega) (by omega))) (fun h28 => ?_)
      refine rx_aload_n dX12_save_31 rfl ?_
      refine rx_getR dX12_save_32 flX12_117 (sM_0) rfl ?_
      refine rx_iload_n dX12_save_35 rfl ?_
      refine rx_aload_n dX12_save_36 rfl ?_
      refine rx_getR dX12_save_37 flX12_26 (sM_0) rfl ?_
      refine rx_iload_n dX12_save_40 rfl ?_
      refine rx_iaload dX12_save_41 (sM_3) hvc ?_
      refine rx_iastore dX12_save_42 (sM_20) hvc ?_
      refine rx_aload_n dX12_save_43 rfl ?_
      refine rx_getR dX12_save_44 flX12_120 (sM_0) rfl ?_
      refine rx_iload_n dX12_save_47 rfl ?_
      refine rx_aload_n dX12_save_48 rfl ?_
      refine rx_getR dX12_save_49 flX12_32 (sM_0) rfl ?_
      refine rx_iload_n dX12_save_52 rfl ?_
      refine rx_iaload dX12_save_53 (sM_5) hvc ?_
      simp (disch := omega) only [upS_off]
      refine rx_iastore dX12_save_54 (sM_21) hvc ?_
      refine rx_iinc_1 (1) rfl dX12_save_55 (by decide) ?_
      refine rx_goto 25 dX12_save_58 (by decide) ?_
      rw [nI_1]
      refine ih (c + 1) _ (by omega) ⟨fun i hi => ?_, ?_, ?_, ?_, ?_, (h6.up (by decide) (by decide)).up (by decide) (by decide), ?_⟩
      · simp (disch := omega) only [upS_off, upS_row, upd, hci]
        by_cases e : i = c
        · rw [if_pos e, if_pos e, e]; exact ⟨h2.a hc7, h2.s hc7⟩
        · rw [if_neg e, if_neg e]; exact h1 i (by omega)
      · exact h2.ex (fun j _ _ => by rw [upS_off _ _ _ _ (by omega), upS_off _ _ _ _ (by omega)]) (fun k _ => by rw [upS_off _ _ _ _ (by omega), upS_off _ _ _ _ (by omega)])
      · simp (disch := omega) only [upS_off]; exact h3
      · simp (disch := omega) only [upS_off]; exact h4
      · simp (disch := omega) only [upS_off]; exact h5
      · simp (disch := omega) only [upS_off]; exact h7
  refine rx_aload_n dX12_save_0 rfl ?_
  refine rx_ldcw (2000000000) dX12_save_1 w_1310 ?_
  refine rx_putI dX12_save_4 flX12_99 (sM_0) rfl ?_
  refine rx_aload_n dX12_save_7 rfl ?_
  refine rx_aload_n dX12_save_8 rfl ?_
  refine rx_getI dX12_save_9 flX12_13 (sM_0) rfl ?_
  refine rx_putI dX12_save_12 flX12_111 (sM_0) rfl ?_
  refine rx_aload_n dX12_save_15 rfl ?_
  refine rx_aload_n dX12_save_16 rfl ?_
  refine rx_getI dX12_save_17 flX12_16 (sM_0) rfl ?_
  refine rx_putI dX12_save_20 flX12_114 (sM_0) rfl ?_
  refine rx_iconst (0) dX12_save_23 (by decide) ?_
  refine rx_istore_1 rfl dX12_save_24 ?_
  refine loop 7 0 _ (by omega) ⟨fun i hi => absurd hi (by omega), ?_, ?_, ?_, ?_, ((Fr.refl.up0 (by decide)).up0 (by decide)).up0 (by decide), ?_⟩
  · exact hM.ex (fun j h _ => by rw [upS_off _ _ _ _ h, upS_off _ _ _ _ h, upS_off _ _ _ _ h]) (fun k hk => by simp only [upS_row, upd]; rw [if_neg (by omega), if_neg (by omega), if_neg (by omega)])
  · simp only [upS_row, upd]; simp
  · simp only [upS_row, upd]; simp; exact hM.t
  · simp only [upS_row, upd]; simp; exact hM.w
  · simp only [upS_row, upd]; simp
theorem MSc.pb {S S' : SS} {E : EN} {D1 D : DY} (h : MSc S E D1) (hF : Fr [3, 5] [1, 2, 29] S S') (h1 : ∀ c, c < 7 → S' 3 c = dA D c) (h2 : S' 0 2 = dW D) (h3 : S' 0 1 = nI (dT D)) (h4 : dT D < 20000) (h5 : ∀ c, c < 7 → S' 5 c = dS D c) : MSc S' E D := by
  obtain ⟨a1, a2, a3, a4, a5, a6, ⟨y, hy, e, hY⟩, -⟩ := h
  have ho : ∀ j, j ≠ 0 → j ≠ 3 → j ≠ 5 → S' j = S j := fun j a b c => hF.1 j a (by simp; exact ⟨b, c⟩)
  refine ⟨by rw [hF.2 0 (by decide)]; exact a1, fun c hc => ?_, fun c hc => ?_, fun c hc => ?_, fun c hc => ?_, fun c hc => ?_, ⟨y, hy, by rw [hF.2 11 (by decide)]; exact e, hY.off (fun j g1 g2 => ho j (by omega) (by omega) (by omega))⟩, h1, h2, h3, h4, h5⟩
  · rw [ho _ (by decide) (by decide) (by decide)]; exact a2 c hc
  · rw [ho _ (by decide) (by decide) (by decide)]; exact a3 c hc
  · rw [ho _ (by decide) (by decide) (by decide)]; exact a4 c hc
  · rw [ho _ (by decide) (by decide) (by decide)]; exact a5 c hc
  · rw [ho _ (by decide) (by decide) (by decide)]; exact a6 c hc
set_option maxRecDepth 20000 in
set_option maxHeartbeats 400000 in
theorem m_putBack (g : GG) (E : EN) (D1 D : DY) (S : SS) (L : LL) (hM : MSc S E D1) (hK : KV S D) (hT : dT D < 20000) : Cv g 0 mX12_putBack [.ref 0] SHM S L (fun S' L' => (MSc S' E D ∧ S' 0 29 = 9999 ∧ Fr [3, 5] [1, 2, 29] S S') ∧ L' = L) := by
  refine ct_of (ls := [some (.ref 0), none]) 1 (by decide +kernel) rfl rfl ?_
  have loop : ∀ (r c : Nat) (S1 : SS), c + r = 7 → ((∀ i, i < c → S1 3 i = dA D i ∧ S1 5 i = dS D i) ∧ S1 0 1 = nI (dT D) ∧ S1 0 2 = dW D ∧ S1 0 29 = 9999 ∧ Fr [3, 5] [1, 2, 29] S S1) → Rx g 0 0 0 mX12_putBack SHM.length (fun r sh' S' L' => sh' = SHM ∧ r = none ∧ ((MSc S' E D ∧ S' 0 29 = 9999 ∧ Fr [3, 5] [1, 2, 29] S S') ∧ L' = L)) 0 0 25 [some (.ref 0), some (.int (nI c))] [] SHM S1 L := by
    intro r
    induction r with
    | zero =>
      intro c S1 hc hI
      have hcn : c = 7 := by omega
      obtain ⟨h1, h2, h3, h4, h5⟩ := hI
      subst hcn
      refine rx_iload_n dX12_putBack_25 rfl ?_
      refine rx_bipush (7) dX12_putBack_26 (by decide) ?_
      refine rx_icmp_ge 61 dX12_putBack_28 (by decide) (fun h28 => ?_) (fun h28 => absurd (nI_le (a := 7) (b := _) (by omega) (by omega)) h28)
      exact rx_vret dX12_putBack_61 rfl ⟨Nat.le_refl _, Nat.le_refl _⟩ ⟨rfl, rfl, ⟨⟨hM.pb h5 (fun c hc => (h1 c hc).1) h3 h2 hT (fun c hc => (h1 c hc).2), h4, h5⟩, rfl⟩⟩
    | succ r ih =>
      intro c S1 hc hI
      have hc7 : c < 7 := by omega
      have hci : (nI c).toNatClampNeg = c := nI_clamp (by omega)
      have hvc : vp_in (nI c) 7 := vp_in_nI hc7 (by omega)
      obtain ⟨h1, h2, h3, h4, h5⟩ := hI
      refine rx_iload_n dX12_putBack_25 rfl ?_
      refine rx_bipush (7) dX12_putBack_26 (by decide) ?_
      refine rx_icmp_ge 61 dX12_putBack_28 (by decide) (fun h28 => absurd h28 (nI_ge (a := c) (b := 7) (by omega) (by omega))) (fun h28 => ?_)
      refine rx_aload_n dX12_putBack_31 rfl ?_
      refine rx_getR dX12_putBack_32 flX12_26 (sM_0) rfl ?_
      refine rx_iload_n dX12_putBack_35 rfl ?_
      refine rx_aload_n dX12_putBack_36 rfl ?_
      refine rx_getR dX12_putBack_37 flX12_117 (sM_0) rfl ?_
      refine rx_iload_n dX12_putBack_40 rfl ?_
      refine rx_iaload dX12_putBack_41 (sM_20) hvc ?_
      refine rx_iastore dX12_putBack_42 (sM_3) hvc ?_
      refine rx_aload_n dX12_putBack_43 rfl ?_
      refine rx_getR dX12_putBack_44 flX12_32 (sM_0) rfl ?_
      refine rx_iload_n dX12_putBack_47 rfl ?_
      refine rx_aload_n dX12_putBack_48 rfl ?_
      refine rx_getR dX12_putBack_49 flX12_120 (sM_0) rfl ?_
      refine rx_iload_n dX12_putBack_52 rfl ?_
      refine rx_iaload dX12_putBack_53 (sM_21) hvc ?_
      simp (disch := omega) only [upS_off]
      refine rx_iastore dX12_putBack_54 (sM_5) hvc ?_
      refine rx_iinc_1 (1) rfl dX12_putBack_55 (by decide) ?_
      refine rx_goto 25 dX12_putBack_58 (by decide) ?_
      rw [nI_1]
      refine ih (c + 1) _ (by omega) ⟨fun i hi => ?_, ?_, ?_, ?_, (h5.up (by decide) (by decide)).up (by decide) (by decide)⟩
      · simp (disch := omega) only [upS_off, upS_row, upd, hci]
        by_cases e : i = c
        · rw [if_pos e, if_pos e, e, h5.1 20 (by decide) (by decide), h5.1 21 (by decide) (by decide)]; exact ⟨hK.2.2.2.1 c hc7, hK.2.2.2.2 c hc7⟩
        · rw [if_neg e, if_neg e]; exact h1 i (by omega)
      · simp (disch := omega) only [upS_off]; exact h2
      · simp (disch := omega) only [upS_off]; exact h3
      · simp (disch := omega) only [upS_off]; exact h4
  refine rx_aload_n dX12_putBack_0 rfl ?_
  refine rx_sipush (9999) dX12_putBack_1 (by decide) ?_
  refine rx_putI dX12_putBack_4 flX12_99 (sM_0) rfl ?_
  refine rx_aload_n dX12_putBack_7 rfl ?_
  refine rx_aload_n dX12_putBack_8 rfl ?_
  refine rx_getI dX12_putBack_9 flX12_111 (sM_0) rfl ?_
  refine rx_putI dX12_putBack_12 flX12_13 (sM_0) rfl ?_
  refine rx_aload_n dX12_putBack_15 rfl ?_
  refine rx_aload_n dX12_putBack_16 rfl ?_
  refine rx_getI dX12_putBack_17 flX12_114 (sM_0) rfl ?_
  refine rx_putI dX12_putBack_20 flX12_16 (sM_0) rfl ?_
  refine rx_iconst (0) dX12_putBack_23 (by decide) ?_
  refine rx_istore_1 rfl dX12_putBack_24 ?_
  refine loop 7 0 _ (by omega) ⟨fun i hi => absurd hi (by omega), ?_, ?_, ?_, ((Fr.refl.up0 (by decide)).up0 (by decide)).up0 (by decide)⟩
  · simp only [upS_row, upd]; simp; exact hK.2.1
  · simp only [upS_row, upd]; simp; exact hK.2.2.1
  · simp only [upS_row, upd]; simp
set_option maxRecDepth 20000 in
set_option maxHeartbeats 400000 in
theorem lay2 (g : GG) (E : EN) (D D2 : DY) (sv : Int32) (m : Nat) (S S2 : SS) (L : LL) (hD2 : D2 = itD E sv (-1) m D) (hT : dT D < 20000) (hM2 : MSc S2 E D2) (hK2 : KV S2 D) (hF2 : Fr JS KS S S2) (hid : S2 0 30 = -1) (h39 : S2 0 39 = itB E sv (-1) m D) (l2 : Option Value) : Rx g 6 0 0 mX12_lay SHM.length (fun r sh' S' L' => sh' = SHM ∧ r = none ∧ ((MRs E D S S' ∧ (∀ c, c < 7 → S' 22 c = dA D2 c) ∧ S' 0 38 = dW D2 ∧ S' 0 39 = itB E sv (-1) m D) ∧ L' = L)) 0 0 35 [some (.ref 0), some (.int (nI m)), l2] [] SHM S2 L := by
  have loop : ∀ (r c : Nat) (S1 : SS), c + r = 7 → ((∀ i, i < c → S1 22 i = dA D2 i) ∧ Fr [22] [] S2 S1) → Rx g 6 0 0 mX12_lay SHM.length (fun r sh' S' L' => sh' = SHM ∧ r = none ∧ ((MRs E D S S' ∧ (∀ c, c < 7 → S' 22 c = dA D2 c) ∧ S' 0 38 = dW D2 ∧ S' 0 39 = itB E sv (-1) m D) ∧ L' = L)) 0 0 37 [some (.ref 0), some (.int (nI m)), some (.int (nI c))] [] SHM S1 L := by
    intro r
    induction r with
    | zero =>
      intro c S1 hc hI
      have hcn : c = 7 := by omega
      obtain ⟨h1, h2⟩ := hI
      subst hcn
      refine rx_iload_n dX12_lay_37 rfl ?_
      refine rx_bipush (7) dX12_lay_38 (by decide) ?_
      refine rx_icmp_ge 61 dX12_lay_40 (by decide) (fun h40 => ?_) (fun h40 => absurd (nI_le (a := 7) (b := _) (by omega) (by omega)) h40)
      have hM3 : MSc (upS S1 0 38 (S1 0 2)) E D2 := hM2.ex (fun j h _ => (upS_off S1 0 38 _ h).trans (h2.1 j h (by simp; omega))) (fun k hk => by rw [upS_row]; unfold upd; rw [if_neg (by omega)]; exact h2.2 k (by simp))
      have hK3 : KV (upS S1 0 38 (S1 0 2)) D := hK2.of (fun k hk => by rw [upS_row]; unfold upd; rw [if_neg (by omega)]; exact h2.2 k (by simp)) ((upS_off S1 0 38 _ (by decide)).trans (h2.1 20 (by decide) (by decide))) ((upS_off S1 0 38 _ (by decide)).trans (h2.1 21 (by decide) (by decide)))
      have hF3 : Fr JS KS S (upS S1 0 38 (S1 0 2)) := (hF2.trans (h2.mono (by decide) (by decide))).up0 (by decide)
      refine rx_aload_n dX12_lay_61 rfl ?_
      refine rx_aload_n dX12_lay_62 rfl ?_
      refine rx_getI dX12_lay_63 flX12_16 (sM_0) rfl ?_
      refine rx_putI dX12_lay_66 flX12_126 (sM_0) rfl ?_
      refine rx_aload_n dX12_lay_69 rfl ?_
      refine rx_cVv_0 clX12_350 dX12_lay_70 (rcvo (sM_0) rfl) rfl (m_putBack g E D2 D _ L hM3 hK3 hT) ?_
      rintro S4 L4 ⟨⟨p1, p2, p3⟩, hL4⟩
      rw [hL4]
      refine rx_vret dX12_lay_73 rfl ⟨Nat.le_refl _, Nat.le_refl _⟩ ⟨rfl, rfl, ⟨⟨⟨p1, hF3.trans (p3.mono (by decide) (by decide)), p2, ?_⟩, ?_, ?_, ?_⟩, rfl⟩⟩
      · rw [p3.2 30 (by decide), upS_row]; unfold upd; rw [if_neg (by decide), h2.2 30 (by decide)]; exact hid
      · intro c hc
        rw [p3.1 22 (by decide) (by decide), upS_off _ _ _ _ (by decide)]; exact h1 c hc
      · rw [p3.2 38 (by decide), upS_at, h2.2 2 (by decide)]; exact hM2.w
      · rw [p3.2 39 (by decide), upS_row]; unfold upd; rw [if_neg (by decide), h2.2 39 (by decide)]; exact h39
    | succ r ih =>
      intro c S1 hc hI
      have hc7 : c < 7 := by omega
      have hci : (nI c).toNatClampNeg = c := nI_clamp (by omega)
      have hvc : vp_in (nI c) 7 := vp_in_nI hc7 (by omega)
      obtain ⟨h1, h2⟩ := hI
      refine rx_iload_n dX12_lay_37 rfl ?_
      refine rx_bipush (7) dX12_lay_38 (by decide) ?_
      refine rx_icmp_ge 61 dX12_lay_40 (by decide) (fun h40 => absurd h40 (nI_ge (a := c) (b := 7) (by omega) (by omega))) (fun h40 => ?_)
      refine rx_aload_n dX12_lay_43 rfl ?_
      refine rx_getR dX12_lay_44 flX12_123 (sM_0) rfl ?_
      refine rx_iload_n dX12_lay_47 rfl ?_
      refine rx_aload_n dX12_lay_48 rfl ?_
      refine rx_getR dX12_lay_49 flX12_26 (sM_0) rfl ?_
      refine rx_iload_n dX12_lay_52 rfl ?_
      refine rx_iaload dX12_lay_53 (sM_3) hvc ?_
      refine rx_iastore dX12_lay_54 (sM_22) hvc ?_
      refine rx_iinc_2 (1) rfl dX12_lay_55 (by decide) ?_
      refine rx_goto 37 dX12_lay_58 (by decide) ?_
      rw [nI_1]
      refine ih (c + 1) _ (by omega) ⟨fun i hi => ?_, h2.up (by decide) (by decide)⟩
      simp (disch := omega) only [upS_off, upS_row, upd, hci]
      by_cases e : i = c
      · rw [if_pos e, e, h2.1 3 (by decide) (by decide)]; exact hM2.a hc7
      · rw [if_neg e]; exact h1 i (by omega)
  refine rx_iconst (0) dX12_lay_35 (by decide) ?_
  refine rx_istore_2 rfl dX12_lay_36 ?_
  exact loop 7 0 S2 (by omega) ⟨fun i hi => absurd hi (by omega), Fr.refl⟩
set_option maxRecDepth 20000 in
set_option maxHeartbeats 400000 in
theorem m_lay (g : GG) (E : EN) (D : DY) (sv : Int32) (m : Nat) (S : SS) (L : LL) (hE : EnOK E) (hD : DOK (eN E) D) (hT : dT D + m < 19999) (hM : MSc S E D) (hSe : SeM S E sv) (hid : S 0 30 = -1) : Cv g 6 mX12_lay [.ref 0, .int (nI m)] SHM S L (fun S' L' => (MRs E D S S' ∧ (∀ c, c < 7 → S' 22 c = dA (itD E sv (-1) m D) c) ∧ S' 0 38 = dW (itD E sv (-1) m D) ∧ S' 0 39 = itB E sv (-1) m D) ∧ L' = L) := by
  refine ct_of (ls := [some (.ref 0), some (.int (nI m)), none]) 1 (by decide +kernel) rfl rfl ?_
  have loop : ∀ (r c : Nat) (S1 : SS), c + r = m → MSc S1 E (itD E sv (-1) c D) ∧ KV S1 D ∧ Fr JS KS S S1 ∧ S1 0 30 = -1 ∧ S1 0 27 = S 0 27 ∧ S1 0 39 = itB E sv (-1) c D → Rx g 6 0 0 mX12_lay SHM.length (fun r sh' S' L' => sh' = SHM ∧ r = none ∧ ((MRs E D S S' ∧ (∀ c, c < 7 → S' 22 c = dA (itD E sv (-1) m D) c) ∧ S' 0 38 = dW (itD E sv (-1) m D) ∧ S' 0 39 = itB E sv (-1) m D) ∧ L' = L)) 0 0 11 [some (.ref 0), some (.int (nI m)), some (.int (nI c))] [] SHM S1 L := by
    intro r
    induction r with
    | zero =>
      intro c S1 hc hI
      have hcn : c = m := by omega
      subst hcn
      obtain ⟨h1, h2, h3, h4, h5, h6⟩ := hI
      refine rx_iload_n dX12_lay_11 rfl ?_
      refine rx_iload_n dX12_lay_12 rfl ?_
      refine rx_icmp_ge 35 dX12_lay_13 (by decide) (fun h13 => ?_) (fun h13 => absurd (nI_le (by omega) (by omega)) h13)
      exact lay2 g E D _ sv c S S1 L rfl (by omega) h1 h2 h3 h4 h6 _
    | succ r ih =>
      intro c S1 hc hI
      obtain ⟨h1, h2, h3, h4, h5, h6⟩ := hI
      refine rx_iload_n dX12_lay_11 rfl ?_
      refine rx_iload_n dX12_lay_12 rfl ?_
      refine rx_icmp_ge 35 dX12_lay_13 (by decide) (fun h13 => absurd h13 (nI_ge (by omega) (by omega))) (fun h13 => ?_)
      refine rx_aload_n dX12_lay_16 rfl ?_
      refine rx_dup dX12_lay_17 rfl ?_
      refine rx_getI dX12_lay_18 flX12_129 (sM_0) rfl ?_
      rw [h6]
      refine rx_aload_n dX12_lay_21 rfl ?_
      refine rx_cVi_0 clX12_343 dX12_lay_22 (rcvo (sM_0) rfl) rfl (m_goTurn g E (itD E sv (-1) c D) sv (-1) S1 L hE (by rw [itD_T]; omega) (hms_of (DOK_it hE sv (-1) hD c) (by rw [itD_T]; omega) h2.1) h1 (hSe.of h5) h4) ?_
      rintro x2 S2 L2 ⟨hx2, hM2, hF2, hL2⟩
      rw [hL2, hx2]
      refine rx_ior dX12_lay_25 ?_
      refine rx_putI dX12_lay_26 flX12_129 (sM_0) rfl ?_
      refine rx_iinc_2 (1) rfl dX12_lay_29 (by decide) ?_
      refine rx_goto 11 dX12_lay_32 (by decide) ?_
      rw [nI_1]
      refine ih (c + 1) _ (by omega) ⟨?_, ?_, (h3.trans hF2.fr).up0 (by decide), ?_, ?_, ?_⟩
      · exact hM2.ex (fun j h _ => upS_off _ _ _ _ h) (fun k hk => by rw [upS_row]; unfold upd; rw [if_neg (by omega)])
      · exact (h2.mf hF2).of (fun k hk => by rw [upS_row]; unfold upd; rw [if_neg (by omega)]) (upS_off _ _ _ _ (by decide)) (upS_off _ _ _ _ (by decide))
      · rw [upS_row]; unfold upd; rw [if_neg (by decide), hF2.2 30 (by decide) (by decide)]; exact h4
      · rw [upS_row]; unfold upd; rw [if_neg (by decide), hF2.2 27 (by decide) (by decide)]; exact h5
      · rw [upS_at]; rfl
  refine rx_aload_n dX12_lay_0 rfl ?_
  refine rx_cVv_0 clX12_347 dX12_lay_1 (rcvo (sM_0) rfl) rfl (m_save g E D S L hM) ?_
  rintro S1 L1 ⟨⟨k1, k2, k3, k30⟩, hL1⟩
  rw [hL1]
  refine rx_aload_n dX12_lay_4 rfl ?_
  refine rx_iconst (0) dX12_lay_5 (by decide) ?_
  refine rx_putI dX12_lay_6 flX12_129 (sM_0) rfl ?_
  refine rx_iconst (0) dX12_lay_9 (by decide) ?_
  refine rx_istore_2 rfl dX12_lay_10 ?_
  refine loop m 0 _ (by omega) ⟨?_, ?_, k3.up0 (by decide), ?_, ?_, ?_⟩
  · exact k2.ex (fun j h _ => upS_off _ _ _ _ h) (fun k hk => by rw [upS_row]; unfold upd; rw [if_neg (by omega)])
  · exact k1.of (fun k hk => by rw [upS_row]; unfold upd; rw [if_neg (by omega)]) (upS_off _ _ _ _ (by decide)) (upS_off _ _ _ _ (by decide))
  · rw [upS_row]; unfold upd; rw [if_neg (by decide)]; exact (by rw [k30]; exact hid)
  · rw [upS_row]; unfold upd; rw [if_neg (by decide), k3.2 27 (by decide)]
  · rw [upS_at]; rfl
set_option maxRecDepth 20000 in
set_option maxHeartbeats 400000 in
theorem m_touchesOf (g : GG) (E : EN) (D : DY) (c : Nat) (S : SS) (L : LL) (hE : EnOK E) (hD : DOK (eN E) D) (hT : dT D + 61 < 19999) (hM : MSc S E D) (hsm : S 0 27 = -1) (hid : S 0 30 = -1) (hc7 : c < 7) : Ci g 6 mX12_touchesOf [.ref 0, .int (nI c)] SHM S L (fun r S' L' => r = (untV E (1 <<< (nI c &&& 31)) 61 0 D).1 ∧ MRs E D S S' ∧ L' = L) := by
  refine ct_of (ls := [some (.ref 0), some (.int (nI c)), none, none]) 2 (by decide +kernel) rfl rfl ?_
  have loop : ∀ (r k : Nat) (S1 : SS) (D1 : DY), k + r = 61 → (MSc S1 E D1 ∧ KV S1 D ∧ Fr JS KS S S1 ∧ S1 0 30 = -1 ∧ S1 0 27 = S 0 27) → DOK (eN E) D1 → dT D1 + r < 19999 → untV E (1 <<< (nI c &&& 31)) r k D1 = untV E (1 <<< (nI c &&& 31)) 61 0 D → Rx g 6 0 0 mX12_touchesOf SHM.length (fun r sh' S' L' => sh' = SHM ∧ ∃ x, r = some (.int x) ∧ (x = (untV E (1 <<< (nI c &&& 31)) 61 0 D).1 ∧ MRs E D S S' ∧ L' = L)) 0 0 6 [some (.ref 0), some (.int (nI c)), some (.int (nI k)), none] [] SHM S1 L := by
    intro r
    induction r with
    | zero =>
      intro k S1 D1 hk hI hD1 hT1 hev
      obtain ⟨h1, h2, h3, h4, h5⟩ := hI
      refine rx_iload_n dX12_touchesOf_6 rfl ?_
      refine rx_bipush (61) dX12_touchesOf_7 (by decide) ?_
      refine rx_icmp_ge 35 dX12_touchesOf_9 (by decide) (fun h9 => ?_) (fun h9 => absurd (nI_le (a := 61) (b := k) (by omega) (by omega)) h9)
      refine rx_aload_n dX12_touchesOf_35 rfl ?_
      refine rx_cVv_0 clX12_350 dX12_touchesOf_36 (rcvo (sM_0) rfl) rfl (m_putBack g E D1 D S1 L h1 h2 (by omega)) ?_
      rintro S4 L4 ⟨⟨p1, p2, p3⟩, hL4⟩
      rw [hL4]
      refine rx_iload_n dX12_touchesOf_39 rfl ?_
      refine rx_bipush (61) dX12_touchesOf_40 (by decide) ?_
      refine rx_icmp_ge 49 dX12_touchesOf_42 (by decide) (fun h42 => ?_) (fun h42 => absurd (nI_le (a := 61) (b := k) (by omega) (by omega)) h42)
      refine rx_bipush (-5) dX12_touchesOf_49 (by decide) ?_
      exact rx_iret dX12_touchesOf_51 rfl ⟨Nat.le_refl _, Nat.le_refl _⟩ ⟨rfl, _, rfl, ⟨by rw [← hev]; rfl, ⟨p1, h3.trans (p3.mono (by decide) (by decide)), p2, by rw [p3.2 30 (by decide)]; exact h4⟩, rfl⟩⟩
    | succ r ih =>
      intro k S1 D1 hk hI hD1 hT1 hev
      obtain ⟨h1, h2, h3, h4, h5⟩ := hI
      refine rx_iload_n dX12_touchesOf_6 rfl ?_
      refine rx_bipush (61) dX12_touchesOf_7 (by decide) ?_
      refine rx_icmp_ge 35 dX12_touchesOf_9 (by decide) (fun h9 => absurd h9 (Int32.not_le.mpr (nI_lt (a := k) (b := 61) (by omega) (by omega)))) (fun h9 => ?_)
      refine rx_aload_n dX12_touchesOf_12 rfl ?_
      refine rx_aload_n dX12_touchesOf_13 rfl ?_
      refine rx_getI dX12_touchesOf_14 flX12_16 (sM_0) rfl ?_
      rw [show S1 0 2 = dW D1 from h1.w]
      refine rx_iload_n dX12_touchesOf_17 rfl ?_
      refine rx_cVi_2 clX12_328 dX12_touchesOf_18 (rcvo (sM_0) rfl) rfl (m_has g 0 _ _ S1 L) ?_
      refine pur3 ?_
      refine rx_if_ne 35 dX12_touchesOf_21 (by decide) (fun h21 => ?_) (fun h21 => ?_)
      · refine rx_aload_n dX12_touchesOf_35 rfl ?_
        refine rx_cVv_0 clX12_350 dX12_touchesOf_36 (rcvo (sM_0) rfl) rfl (m_putBack g E D1 D S1 L h1 h2 (by omega)) ?_
        rintro S4 L4 ⟨⟨p1, p2, p3⟩, hL4⟩
        rw [hL4]
        refine rx_iload_n dX12_touchesOf_39 rfl ?_
        refine rx_bipush (61) dX12_touchesOf_40 (by decide) ?_
        refine rx_icmp_ge 49 dX12_touchesOf_42 (by decide) (fun h42 => absurd h42 (Int32.not_le.mpr (nI_lt (a := k) (b := 61) (by omega) (by omega)))) (fun h42 => ?_)
        refine rx_iload_n dX12_touchesOf_45 rfl ?_
        refine rx_goto 51 dX12_touchesOf_46 (by decide) ?_
        exact rx_iret dX12_touchesOf_51 rfl ⟨Nat.le_refl _, Nat.le_refl _⟩ ⟨rfl, _, rfl, ⟨by rw [← hev]; exact (congrArg Prod.fst (if_neg (fun q => b2i_ne h21 ((bit_andD hD1 hE.1 hc7).mpr q)) : untV E (1 <<< (nI c &&& 31)) (r + 1) k D1 = (nI k, D1))).symm, ⟨p1, h3.trans (p3.mono (by decide) (by decide)), p2, by rw [p3.2 30 (by decide)]; exact h4⟩, rfl⟩⟩
      · refine rx_aload_n dX12_touchesOf_24 rfl ?_
        refine rx_cVi_0 clX12_343 dX12_touchesOf_25 (rcvo (sM_0) rfl) rfl (m_goTurn g E D1 (eY E).2.2.1 (-1) S1 L hE (by omega) (hms_of hD1 (by omega) h2.1) h1 (Or.inl ⟨h5.trans hsm, rfl⟩) h4) ?_
        rintro x2 S2 L2 ⟨hx2, hM2, hF2, hL2⟩
        rw [hL2, hx2]
        skip
        refine rx_istore_3 rfl dX12_touchesOf_28 ?_
        refine rx_iinc_2 (1) rfl dX12_touchesOf_29 (by decide) ?_
        refine rx_goto 6 dX12_touchesOf_32 (by decide) ?_
        refine rx_wk [some (.ref 0), some (.int (nI c)), some (.int _), none] ⟨Or.inr rfl, Or.inr rfl, Or.inr rfl, Or.inl rfl, trivial⟩ ?_
        rw [nI_1]
        exact ih (k + 1) S2 _ (by omega) ⟨hM2, h2.mf hF2, h3.trans hF2.fr, by rw [hF2.2 30 (by decide) (by decide)]; exact h4, by rw [hF2.2 27 (by decide) (by decide)]; exact h5⟩ (DOK_step hE _ _ hD1) (by show dT D1 + 1 + r < 19999; omega) (by rw [← hev]; exact (if_pos ((bit_andD hD1 hE.1 hc7).mp (Decidable.not_not.mp (b2i_eq h21)))).symm)
  refine rx_aload_n dX12_touchesOf_0 rfl ?_
  refine rx_cVv_0 clX12_347 dX12_touchesOf_1 (rcvo (sM_0) rfl) rfl (m_save g E D S L hM) ?_
  rintro S1 L1 ⟨⟨k1, k2, k3, k30⟩, hL1⟩
  rw [hL1]
  refine rx_iconst (0) dX12_touchesOf_4 (by decide) ?_
  refine rx_istore_2 rfl dX12_touchesOf_5 ?_
  exact loop 61 0 S1 D (by omega) ⟨k2, k1, k3, (by rw [k30]; exact hid), k3.2 27 (by decide)⟩ hD (by omega) rfl
theorem clr1' : ∀ V, V < 128 → 0 < V → nI V &&& (nI V - 1) = nI (V &&& (V - 1)) := by decide +kernel
theorem clr1 (V : Nat) (h : V < 128) (h0 : 0 < V) : nI V &&& (nI V - 1) = nI (V &&& (V - 1)) := clr1' V h h0
theorem pop1' : ∀ V, V < 128 → 0 < V → popN (V &&& (V - 1)) + 1 = popN V := by decide +kernel
theorem pop1 (V : Nat) (h : V < 128) (h0 : 0 < V) : popN (V &&& (V - 1)) + 1 = popN V := pop1' V h h0
theorem popN_z : ∀ V, V < 128 → popN V = 0 → V = 0 := by decide +kernel
theorem popN_le : ∀ V, V < 128 → popN V ≤ 7 := by decide +kernel
set_option maxRecDepth 20000 in
set_option maxHeartbeats 400000 in
theorem m_ones (g : GG) {sh : List CS} (z W : Nat) (S : SS) (L : LL) (hW : W < 128) : Ci g 0 mX12_ones [.ref z, .int (nI W)] sh S L (fun r S' L' => r = popc (nI W) ∧ S' = S ∧ L' = L) := by
  refine ct_of (ls := [some (.ref z), some (.int (nI W)), none, none]) 2 (by decide +kernel) rfl rfl ?_
  have hclW : (popc (nI W)) = nI (popN W) := by unfold popc; rw [nI_clamp (by omega)]
  have hnz : ∀ {V : Nat}, V < 128 → 0 < V → ¬ nI V = 0 := fun h1 h2 e => by
    have := (nI_eq (b := 0) (by omega) (by omega)).mp e
    omega
  have loop : ∀ (p V n : Nat), V < 128 → popN V = p → n + p = popN W → Rx g 0 0 0 mX12_ones sh.length (fun r sh' S' L' => sh' = sh ∧ ∃ x, r = some (.int x) ∧ (x = popc (nI W) ∧ S' = S ∧ L' = L)) 0 0 4 [some (.ref z), some (.int (nI W)), some (.int (nI n)), some (.int (nI V))] [] sh S L := by
    intro p
    induction p with
    | zero =>
      intro V n hV hp hn
      have hz : V = 0 := popN_z V hV hp
      have hnW : n = popN W := by omega
      refine rx_iload_n dX12_ones_4 rfl ?_
      refine rx_if_eq 20 dX12_ones_5 (by decide) (fun h5 => ?_) (fun h5 => absurd (by rw [hz]; rfl) h5)
      refine rx_iload_n dX12_ones_20 rfl ?_
      exact rx_iret dX12_ones_21 rfl ⟨Nat.le_refl _, Nat.le_refl _⟩ ⟨rfl, _, rfl, ⟨by rw [hnW, hclW], rfl, rfl⟩⟩
    | succ p ih =>
      intro V n hV hp hn
      have hpos : 0 < V := by
        rcases (show V = 0 ∨ 0 < V by omega) with e | e
        · rw [e] at hp; exact absurd hp (show ¬ (0 = p + 1) by omega)
        · exact e
      refine rx_iload_n dX12_ones_4 rfl ?_
      refine rx_if_eq 20 dX12_ones_5 (by decide) (fun h5 => absurd h5 (hnz (by omega) (by omega))) (fun h5 => ?_)
      refine rx_iinc_2 (1) rfl dX12_ones_8 (by decide) ?_
      refine rx_iload_n dX12_ones_11 rfl ?_
      refine rx_iload_n dX12_ones_12 rfl ?_
      refine rx_iconst (1) dX12_ones_13 (by decide) ?_
      refine rx_isub dX12_ones_14 ?_
      refine rx_iand dX12_ones_15 ?_
      refine rx_istore_3 rfl dX12_ones_16 ?_
      refine rx_goto 4 dX12_ones_17 (by decide) ?_
      rw [nI_1, clr1 V (by omega) hpos]
      exact ih (V &&& (V - 1)) (n + 1) (by have := Nat.and_le_left (n := V) (m := V - 1); omega) (by have := pop1 V (by omega) hpos; omega) (by have := pop1 V (by omega) hpos; omega)
  refine rx_iconst (0) dX12_ones_0 (by decide) ?_
  refine rx_istore_2 rfl dX12_ones_1 ?_
  refine rx_iload_n dX12_ones_2 rfl ?_
  refine rx_istore_3 rfl dX12_ones_3 ?_
  exact loop (popN W) W 0 hW rfl (by omega)
set_option maxRecDepth 20000 in
set_option maxHeartbeats 400000 in
theorem m_wallBehind (g : GG) (E : EN) (D : DY) (sv : Int32) (m : Nat) (S : SS) (L : LL) (hE : EnOK E) (hD : DOK (eN E) D) (hT : dT D + m < 19999) (hM : MSc S E D) (hSe : SeM S E sv) (hid : S 0 30 = -1) : Ci g 7 mX12_wallBehind [.ref 0, .int (nI m)] SHM S L (fun r S' L' => r = popc (dW (itD E sv (-1) m D)) ∧ MRs E D S S' ∧ L' = L) := by
  refine ct_of (ls := [some (.ref 0), some (.int (nI m))]) 0 (by decide +kernel) rfl rfl ?_
  obtain ⟨W, hW, eW⟩ := (DOK_it hE sv (-1) hD m).1
  have hW2 : W < 128 := Nat.lt_of_lt_of_le hW (pow7 hE.1)
  refine rx_aload_n dX12_wallBehind_0 rfl ?_
  refine rx_iload_n dX12_wallBehind_1 rfl ?_
  refine rx_cVv_1 clX12_353 dX12_wallBehind_2 (rcvo (sM_0) rfl) rfl (m_lay g E D sv m S L hE hD hT hM hSe hid) ?_
  rintro S2 L2 ⟨⟨q1, q2, q3, q4⟩, hL2⟩
  rw [hL2]
  refine rx_aload_n dX12_wallBehind_5 rfl ?_
  refine rx_aload_n dX12_wallBehind_6 rfl ?_
  refine rx_getI dX12_wallBehind_7 flX12_126 (sM_0) rfl ?_
  rw [q3, eW]
  refine rx_cVi_1 clX12_356 dX12_wallBehind_10 (rcvo (sM_0) rfl) rfl (m_ones g 0 W S2 L hW2) ?_
  refine pur3 ?_
  exact rx_iret dX12_wallBehind_13 rfl ⟨Nat.le_refl _, Nat.le_refl _⟩ ⟨rfl, _, rfl, ⟨rfl, q1, rfl⟩⟩
set_option maxRecDepth 20000 in
set_option maxHeartbeats 1000000 in
theorem m_in (g : GG) {sh : List CS} (z : Nat) (n lo hi : Int32) (S : SS) (L : LL) : Ci g 0 mX12_in [.ref z, .int n, .int lo, .int hi] sh S L (fun r S' L' => r = b2i (lo ≤ n ∧ n ≤ hi) ∧ S' = S ∧ L' = L) := by
  refine ct_of (ls := [some (.ref z), some (.int n), some (.int lo), some (.int hi)]) 0 (by decide +kernel) rfl rfl ?_
  refine rx_iload_n dX12_in_0 rfl ?_
  refine rx_iload_n dX12_in_1 rfl ?_
  refine rx_icmp_lt 14 dX12_in_2 (by decide) (fun h2 => ?_) (fun h2 => ?_)
  · refine rx_iconst (0) dX12_in_14 (by decide) ?_
    exact rx_zret dX12_in_15 rfl (by decide) ⟨Nat.le_refl _, Nat.le_refl _⟩ ⟨rfl, _, rfl, ⟨(by first | exact b2i_t (by simp only [Int32.le_iff_toInt_le, Int32.lt_iff_toInt_lt, Int32.toInt_zero, tIo, tIm1] at *; omega) | exact b2i_f (by simp only [Int32.le_iff_toInt_le, Int32.lt_iff_toInt_lt, Int32.toInt_zero, tIo, tIm1] at *; omega)), rfl, rfl⟩⟩
  · refine rx_iload_n dX12_in_5 rfl ?_
    refine rx_iload_n dX12_in_6 rfl ?_
    refine rx_icmp_gt 14 dX12_in_7 (by decide) (fun h7 => ?_) (fun h7 => ?_)
    · refine rx_iconst (0) dX12_in_14 (by decide) ?_
      exact rx_zret dX12_in_15 rfl (by decide) ⟨Nat.le_refl _, Nat.le_refl _⟩ ⟨rfl, _, rfl, ⟨(by first | exact b2i_t (by simp only [Int32.le_iff_toInt_le, Int32.lt_iff_toInt_lt, Int32.toInt_zero, tIo, tIm1] at *; omega) | exact b2i_f (by simp only [Int32.le_iff_toInt_le, Int32.lt_iff_toInt_lt, Int32.toInt_zero, tIo, tIm1] at *; omega)), rfl, rfl⟩⟩
    · refine rx_iconst (1) dX12_in_10 (by decide) ?_
      refine rx_goto 15 dX12_in_11 (by decide) ?_
      exact rx_zret dX12_in_15 rfl (by decide) ⟨Nat.le_refl _, Nat.le_refl _⟩ ⟨rfl, _, rfl, ⟨(by first | exact b2i_t (by simp only [Int32.le_iff_toInt_le, Int32.lt_iff_toInt_lt, Int32.toInt_zero, tIo, tIm1] at *; omega) | exact b2i_f (by simp only [Int32.le_iff_toInt_le, Int32.lt_iff_toInt_lt, Int32.toInt_zero, tIo, tIm1] at *; omega)), rfl, rfl⟩⟩
theorem le_m1 {N : Nat} (hN : N ≤ 7) {c : Int32} : c ≤ nI N - 1 ↔ c < nI N := by
  have h1 : (nI N - 1).toInt = (N : Int) - 1 := pk_sub_toInt (b := 1) (by omega) (by omega)
  rw [Int32.le_iff_toInt_le, Int32.lt_iff_toInt_lt, h1, nI_toInt (by omega)]
  omega
set_option maxRecDepth 20000 in
set_option maxHeartbeats 1000000 in
theorem m_isChild (g : GG) (N : Nat) (c : Int32) (S : SS) (L : LL) (hN : N ≤ 7) (hs : S 0 0 = nI N) : Ci g 1 mX12_isChild [.ref 0, .int c] SHM S L (fun r S' L' => r = b2i (0 ≤ c ∧ c < nI N) ∧ S' = S ∧ L' = L) := by
  have hx : c ≤ nI N - 1 ↔ c < nI N := le_m1 hN
  refine ct_of (ls := [some (.ref 0), some (.int c)]) 0 (by decide +kernel) rfl rfl ?_
  refine rx_aload_n dX12_isChild_0 rfl ?_
  refine rx_iload_n dX12_isChild_1 rfl ?_
  refine rx_iconst (0) dX12_isChild_2 (by decide) ?_
  refine rx_aload_n dX12_isChild_3 rfl ?_
  refine rx_getI dX12_isChild_4 flX12_7 (sM_0) rfl ?_
  rw [hs]
  refine rx_iconst (1) dX12_isChild_7 (by decide) ?_
  refine rx_isub dX12_isChild_8 ?_
  refine rx_cVi_3 clX12_236 dX12_isChild_9 (rcvo (sM_0) rfl) rfl (m_in g 0 c 0 (nI N - 1) S L) ?_
  refine pur3 ?_
  exact rx_zret dX12_isChild_12 rfl (b2i_n _) ⟨Nat.le_refl _, Nat.le_refl _⟩ ⟨rfl, _, rfl, ⟨by unfold b2i; simp only [hx], rfl, rfl⟩⟩
