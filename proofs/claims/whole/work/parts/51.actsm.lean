def AcM (B : List Int32) (S : SS) : Prop := S 0 68 = nI B.length ∧ ∀ k, k < 20 → k < B.length → S 42 k = B.getD k 0
theorem AcM.full {b : Int32} {B : List Int32} {S : SS} (h : AcM B S) (h20 : 20 ≤ B.length) : AcM (B ++ [b]) (upS S 0 68 (nI (B.length + 1))) := by
  refine ⟨by rw [upS_at, List.length_append]; rfl, fun k h1 h2 => ?_⟩
  rw [upS_off _ _ _ _ (by decide), gD1 (by omega)]
  exact h.2 k h1 (by omega)
theorem AcM.push {b : Int32} {B : List Int32} {S : SS} (h : AcM B S) : AcM (B ++ [b]) (upS (upS S 42 B.length b) 0 68 (nI (B.length + 1))) := by
  refine ⟨by rw [upS_at, List.length_append]; rfl, fun k h1 h2 => ?_⟩
  rw [upS_off _ _ _ _ (by decide), upS_row]
  by_cases e : k = B.length
  · rw [e, pk_us, gD2]
  · have h3 : k < B.length := by rw [List.length_append] at h2; have : k < B.length + 1 := h2; omega
    rw [pk_un e, gD1 h3]; exact h.2 k h1 h3
theorem run_l {k : Nat} (hk : k < 7) {i v x : Int32} : (runT k i v x).2.length ≤ 2 := by rcases y7 hk with rfl | rfl | rfl | rfl | rfl | rfl | rfl <;> exact Nat.le_of_ble_eq_true rfl
theorem stB_l {k : Nat} (hk : k < 7) {i v x : Int32} : (stB k i v x).2.length ≤ 3 := Nat.succ_le_succ (run_l hk)
theorem sta_l {k : Nat} (hk : k < 7) {i v x : Int32} : (staT k i v x).2.length ≤ 6 := by rcases y7 hk with rfl | rfl | rfl | rfl | rfl | rfl | rfl <;> exact Nat.le_of_ble_eq_true rfl
theorem telB_l {k : Nat} (hk : k < 7) {i v x : Int32} : (telB k i v x).2.length ≤ 7 := Nat.succ_le_succ (sta_l hk)
theorem a02 {a : Int32} : (0 ≤ a ∧ a ≤ 2) ↔ ¬ (a.toInt < 0 ∨ 2 < a.toInt) := by
  rw [Int32.le_iff_toInt_le, Int32.le_iff_toInt_le, Int32.toInt_zero, show (2 : Int32).toInt = 2 from by decide +kernel]
  omega
theorem MRel.act {S S' : SS} {L : LL} {σ : SIG} {B : List Int32} (h : MRel S L σ) (hok : OKg (wAc σ B)) (hA : AcM B S') (hF : Fr [42] [68] S S') : MRel S' L (wAc σ B) := by
  obtain ⟨-, a2, ⟨a3, a4, a5⟩, ⟨b1, b2, b3, b4, b5, b6, b7, b8, b9, b10, b11, b12, b13⟩⟩ := h
  have o : ∀ j, j ≠ 0 → j ≠ 42 → S' j = S j := fun j h0 h1 => hF.1 j h0 (by simp; exact h1)
  have o0 : ∀ k, k ≠ 68 → S' 0 k = S 0 k := fun k hk => hF.2 k (by simp; exact hk)
  exact ⟨hok, a2.ex (fun j h0 h1 => o j h0 (by omega)) (fun k hk => o0 k (by omega)), ⟨by rw [o0 27 (by decide)]; exact a3, by rw [o0 29 (by decide)]; exact a4, by rw [o0 30 (by decide)]; exact a5⟩, by rw [o0 11 (by decide)]; exact b1, b2.off (o0 42 (by decide)) (o 25 (by decide) (by decide)) (o 26 (by decide) (by decide)) (o 27 (by decide) (by decide)), b3.off (o0 46 (by decide)) (o 28 (by decide) (by decide)) (o 29 (by decide) (by decide)), fun e => (b4 e).off (fun j h1 h2 => o j (by omega) (by omega)) (fun k h1 h2 => o0 k (by omega)), by rw [o0 49 (by decide)]; exact b5, by rw [o0 10 (by decide)]; exact b6, fun y hy => (b7 y hy).off (fun j h1 h2 => o j (by omega) (by omega)), by rw [o0 12 (by decide)]; exact b8, by rw [o 8 (by decide) (by decide)]; exact b9, hA.1, hA.2, fun t ht => by rw [o 43 (by decide) (by decide), o 44 (by decide) (by decide)]; exact b12 t ht, by unfold MLt; rw [o 16 (by decide) (by decide)]; exact b13⟩

set_option maxRecDepth 20000 in
set_option maxHeartbeats 1000000 in
theorem m_body (g : GG) (B : List Int32) (b : Int32) (S : SS) (L : LL) (hA : AcM B S) (hB : B.length ≤ 100) : Cv g 0 mX12_body [.ref 0, .int b] SHM S L (fun S' L' => AcM (B ++ [b]) S' ∧ Fr [42] [68] S S' ∧ L' = L) := by
  have hbc : (nI B.length).toNatClampNeg = B.length := nI_clamp (by omega)
  refine ct_of (ls := [some (.ref 0), some (.int b)]) 0 (by decide +kernel) rfl rfl ?_
  refine rx_aload_n dX12_body_0 rfl ?_
  refine rx_getI dX12_body_1 flX12_217 (sM_0) rfl ?_
  rw [hA.1]
  refine rx_bipush (20) dX12_body_4 (by decide) ?_
  refine rx_icmp_ge 19 dX12_body_6 (by decide) (fun h6 => ?_) (fun h6 => ?_)
  · refine rx_aload_n dX12_body_19 rfl ?_
    refine rx_dup dX12_body_20 rfl ?_
    refine rx_getI dX12_body_21 flX12_217 (sM_0) rfl ?_
    rw [hA.1]
    refine rx_iconst (1) dX12_body_24 (by decide) ?_
    refine rx_iadd dX12_body_25 ?_
    rw [nI_1]
    refine rx_putI dX12_body_26 flX12_217 (sM_0) rfl ?_
    exact rx_vret dX12_body_29 rfl ⟨Nat.le_refl _, Nat.le_refl _⟩ ⟨rfl, rfl, ⟨hA.full ((nI_leI (a := 20) (by omega) (by omega)).mp h6), Fr.refl.up0 (by decide), rfl⟩⟩
  · refine rx_aload_n dX12_body_9 rfl ?_
    refine rx_getR dX12_body_10 flX12_220 (sM_0) rfl ?_
    refine rx_aload_n dX12_body_13 rfl ?_
    refine rx_getI dX12_body_14 flX12_217 (sM_0) rfl ?_
    rw [hA.1]
    refine rx_iload_n dX12_body_17 rfl ?_
    refine rx_iastore dX12_body_18 (sM_42) (vp_in_nI ((nI_ltI (b := 20) (by omega) (by omega)).mp (Int32.not_le.mp h6)) (by omega)) ?_
    refine rx_aload_n dX12_body_19 rfl ?_
    refine rx_dup dX12_body_20 rfl ?_
    refine rx_getI dX12_body_21 flX12_217 (sM_0) rfl ?_
    rw [hbc, upS_off _ _ _ _ (by decide : (0 : Nat) ≠ 42), hA.1]
    refine rx_iconst (1) dX12_body_24 (by decide) ?_
    refine rx_iadd dX12_body_25 ?_
    rw [nI_1]
    refine rx_putI dX12_body_26 flX12_217 (sM_0) rfl ?_
    exact rx_vret dX12_body_29 rfl ⟨Nat.le_refl _, Nat.le_refl _⟩ ⟨rfl, rfl, ⟨hA.push, (Fr.refl.up (by decide) (by decide)).up0 (by decide), rfl⟩⟩
set_option maxRecDepth 20000 in
set_option maxHeartbeats 1000000 in
theorem m_cRun (g : GG) (i x : Int32) (B : List Int32) (S : SS) (L : LL) (hA : AcM B S) (hB : B.length ≤ 99) : Ci g 1 mX12_childRuns [.ref 0, .int i, .int x] SHM S L (fun r S' L' => r = ((x + i, [(10 : Int32)])).1 ∧ AcM (B ++ ((x + i, [(10 : Int32)])).2) S' ∧ Fr [42] [68] S S' ∧ L' = L) := by
  refine ct_of (ls := [some (.ref 0), some (.int i), some (.int x)]) 0 (by decide +kernel) rfl rfl ?_
  refine rx_aload_n dX12_childRuns_0 rfl ?_
  refine rx_bipush (10) dX12_childRuns_1 (by decide) ?_
  refine rx_cVv_1 clX12_390 dX12_childRuns_3 (rcvo (sM_0) rfl) rfl (m_body g B 10 S L hA (by omega)) ?_
  rintro S1 L1 ⟨hA1, hF1, hL1⟩
  rw [hL1]
  refine rx_iload_n dX12_childRuns_6 rfl ?_
  refine rx_iload_n dX12_childRuns_7 rfl ?_
  refine rx_iadd dX12_childRuns_8 ?_
  exact rx_iret dX12_childRuns_9 rfl ⟨Nat.le_refl _, Nat.le_refl _⟩ ⟨rfl, _, rfl, ⟨rfl, hA1, hF1, rfl⟩⟩
set_option maxRecDepth 20000 in
set_option maxHeartbeats 1000000 in
theorem m_run (g : GG) (c k : Nat) (v x : Int32) (B : List Int32) (S : SS) (L : LL) (hk : k < 7) (hc7 : c < 7) (hK : S 1 c = nI k) (hV : S 2 c = v) (hA : AcM B S) (hB : B.length ≤ 98) : Ci g 2 mX12_runsAct [.ref 0, .int (nI c), .int x] SHM S L (fun r S' L' => r = (runT k (nI c) v x).1 ∧ AcM (B ++ (runT k (nI c) v x).2) S' ∧ Fr [42] [68] S S' ∧ L' = L) := by
  have hci : (nI c).toNatClampNeg = c := nI_clamp (by omega)
  have hvc : vp_in (nI c) 7 := vp_in_nI hc7 (by omega)
  refine ct_of (ls := [some (.ref 0), some (.int (nI c)), some (.int x)]) 0 (by decide +kernel) rfl rfl ?_
  refine rx_aload_n dX12_runsAct_0 rfl ?_
  refine rx_getR dX12_runsAct_1 flX12_19 (sM_0) rfl ?_
  refine rx_iload_n dX12_runsAct_4 rfl ?_
  refine rx_iaload dX12_runsAct_5 (sM_1) hvc ?_
  rw [hci, hK]
  rcases y7 hk with rfl | rfl | rfl | rfl | rfl | rfl | rfl
  · refine rx_tableOut 89 dX12_runsAct_6 (Or.inl (by decide)) (by decide) ?_
    refine rx_aload_n dX12_runsAct_89 rfl ?_
    refine rx_iload_n dX12_runsAct_90 rfl ?_
    refine rx_iload_n dX12_runsAct_91 rfl ?_
    refine rx_cVi_2 clX12_393 dX12_runsAct_92 (rcvo (sM_0) rfl) rfl (m_cRun g (nI c) x B S L hA (by omega)) ?_
    rintro x2 S2 L2 ⟨hx2, hA2, hF2, hL2⟩
    rw [hL2, hx2]
    exact rx_iret dX12_runsAct_95 rfl ⟨Nat.le_refl _, Nat.le_refl _⟩ ⟨rfl, _, rfl, ⟨rfl, hA2, hF2, rfl⟩⟩
  · refine rx_tableOut 89 dX12_runsAct_6 (Or.inl (by decide)) (by decide) ?_
    refine rx_aload_n dX12_runsAct_89 rfl ?_
    refine rx_iload_n dX12_runsAct_90 rfl ?_
    refine rx_iload_n dX12_runsAct_91 rfl ?_
    refine rx_cVi_2 clX12_393 dX12_runsAct_92 (rcvo (sM_0) rfl) rfl (m_cRun g (nI c) x B S L hA (by omega)) ?_
    rintro x2 S2 L2 ⟨hx2, hA2, hF2, hL2⟩
    rw [hL2, hx2]
    exact rx_iret dX12_runsAct_95 rfl ⟨Nat.le_refl _, Nat.le_refl _⟩ ⟨rfl, _, rfl, ⟨rfl, hA2, hF2, rfl⟩⟩
  · refine rx_tableIn 40 dX12_runsAct_6 (by decide) (by decide) (by rfl) (by decide) ?_
    refine rx_aload_n dX12_runsAct_40 rfl ?_
    refine rx_bipush (30) dX12_runsAct_41 (by decide) ?_
    refine rx_cVv_1 clX12_390 dX12_runsAct_43 (rcvo (sM_0) rfl) rfl (m_body g B 30 S L hA (by omega)) ?_
    rintro S1 L1 ⟨hA1, hF1, hL1⟩
    rw [hL1]
    have hl1 : (B ++ [30]).length = B.length + 1 := by rw [List.length_append]; rfl
    have hK1 := (congrFun (hF1.1 1 (by decide) (by decide)) c).trans hK
    have hV1 : S1 2 c = v := by rw [hF1.1 2 (by decide) (by decide)]; exact hV
    refine rx_aload_n dX12_runsAct_46 rfl ?_
    refine rx_iload_n dX12_runsAct_47 rfl ?_
    refine rx_iload_n dX12_runsAct_48 rfl ?_
    refine rx_iconst (3) dX12_runsAct_49 (by decide) ?_
    refine rx_imul dX12_runsAct_50 ?_
    refine rx_cVi_2 clX12_393 dX12_runsAct_51 (rcvo (sM_0) rfl) rfl (m_cRun g (nI c) (x * 3) (B ++ [30]) S1 L hA1 (by omega)) ?_
    rintro x2 S2 L2 ⟨hx2, hA2, hF2, hL2⟩
    rw [hL2, hx2]
    rw [List.append_assoc] at hA2
    have hV2 : S2 2 c = v := by rw [hF2.1 2 (by decide) (by decide)]; first | exact hV1 | exact hV
    exact rx_iret dX12_runsAct_54 rfl ⟨Nat.le_refl _, Nat.le_refl _⟩ ⟨rfl, _, rfl, ⟨rfl, hA2, hF1.trans hF2, rfl⟩⟩
  · refine rx_tableIn 89 dX12_runsAct_6 (by decide) (by decide) (by rfl) (by decide) ?_
    refine rx_aload_n dX12_runsAct_89 rfl ?_
    refine rx_iload_n dX12_runsAct_90 rfl ?_
    refine rx_iload_n dX12_runsAct_91 rfl ?_
    refine rx_cVi_2 clX12_393 dX12_runsAct_92 (rcvo (sM_0) rfl) rfl (m_cRun g (nI c) x B S L hA (by omega)) ?_
    rintro x2 S2 L2 ⟨hx2, hA2, hF2, hL2⟩
    rw [hL2, hx2]
    exact rx_iret dX12_runsAct_95 rfl ⟨Nat.le_refl _, Nat.le_refl _⟩ ⟨rfl, _, rfl, ⟨rfl, hA2, hF2, rfl⟩⟩
  · refine rx_tableIn 55 dX12_runsAct_6 (by decide) (by decide) (by rfl) (by decide) ?_
    refine rx_aload_n dX12_runsAct_55 rfl ?_
    refine rx_bipush (50) dX12_runsAct_56 (by decide) ?_
    refine rx_cVv_1 clX12_390 dX12_runsAct_58 (rcvo (sM_0) rfl) rfl (m_body g B 50 S L hA (by omega)) ?_
    rintro S1 L1 ⟨hA1, hF1, hL1⟩
    rw [hL1]
    have hl1 : (B ++ [50]).length = B.length + 1 := by rw [List.length_append]; rfl
    have hK1 := (congrFun (hF1.1 1 (by decide) (by decide)) c).trans hK
    have hV1 : S1 2 c = v := by rw [hF1.1 2 (by decide) (by decide)]; exact hV
    refine rx_aload_n dX12_runsAct_61 rfl ?_
    refine rx_iload_n dX12_runsAct_62 rfl ?_
    refine rx_iload_n dX12_runsAct_63 rfl ?_
    refine rx_cVi_2 clX12_393 dX12_runsAct_64 (rcvo (sM_0) rfl) rfl (m_cRun g (nI c) (x) (B ++ [50]) S1 L hA1 (by omega)) ?_
    rintro x2 S2 L2 ⟨hx2, hA2, hF2, hL2⟩
    rw [hL2, hx2]
    rw [List.append_assoc] at hA2
    have hV2 : S2 2 c = v := by rw [hF2.1 2 (by decide) (by decide)]; first | exact hV1 | exact hV
    refine rx_ineg dX12_runsAct_67 ?_
    exact rx_iret dX12_runsAct_68 rfl ⟨Nat.le_refl _, Nat.le_refl _⟩ ⟨rfl, _, rfl, ⟨rfl, hA2, hF1.trans hF2, rfl⟩⟩
  · refine rx_tableIn 40 dX12_runsAct_6 (by decide) (by decide) (by rfl) (by decide) ?_
    refine rx_aload_n dX12_runsAct_40 rfl ?_
    refine rx_bipush (30) dX12_runsAct_41 (by decide) ?_
    refine rx_cVv_1 clX12_390 dX12_runsAct_43 (rcvo (sM_0) rfl) rfl (m_body g B 30 S L hA (by omega)) ?_
    rintro S1 L1 ⟨hA1, hF1, hL1⟩
    rw [hL1]
    have hl1 : (B ++ [30]).length = B.length + 1 := by rw [List.length_append]; rfl
    have hK1 := (congrFun (hF1.1 1 (by decide) (by decide)) c).trans hK
    have hV1 : S1 2 c = v := by rw [hF1.1 2 (by decide) (by decide)]; exact hV
    refine rx_aload_n dX12_runsAct_46 rfl ?_
    refine rx_iload_n dX12_runsAct_47 rfl ?_
    refine rx_iload_n dX12_runsAct_48 rfl ?_
    refine rx_iconst (3) dX12_runsAct_49 (by decide) ?_
    refine rx_imul dX12_runsAct_50 ?_
    refine rx_cVi_2 clX12_393 dX12_runsAct_51 (rcvo (sM_0) rfl) rfl (m_cRun g (nI c) (x * 3) (B ++ [30]) S1 L hA1 (by omega)) ?_
    rintro x2 S2 L2 ⟨hx2, hA2, hF2, hL2⟩
    rw [hL2, hx2]
    rw [List.append_assoc] at hA2
    have hV2 : S2 2 c = v := by rw [hF2.1 2 (by decide) (by decide)]; first | exact hV1 | exact hV
    exact rx_iret dX12_runsAct_54 rfl ⟨Nat.le_refl _, Nat.le_refl _⟩ ⟨rfl, _, rfl, ⟨rfl, hA2, hF1.trans hF2, rfl⟩⟩
  · refine rx_tableIn 69 dX12_runsAct_6 (by decide) (by decide) (by rfl) (by decide) ?_
    refine rx_aload_n dX12_runsAct_69 rfl ?_
    refine rx_bipush (71) dX12_runsAct_70 (by decide) ?_
    refine rx_cVv_1 clX12_390 dX12_runsAct_72 (rcvo (sM_0) rfl) rfl (m_body g B 71 S L hA (by omega)) ?_
    rintro S1 L1 ⟨hA1, hF1, hL1⟩
    rw [hL1]
    have hl1 : (B ++ [71]).length = B.length + 1 := by rw [List.length_append]; rfl
    have hK1 := (congrFun (hF1.1 1 (by decide) (by decide)) c).trans hK
    have hV1 : S1 2 c = v := by rw [hF1.1 2 (by decide) (by decide)]; exact hV
    refine rx_aload_n dX12_runsAct_75 rfl ?_
    refine rx_iload_n dX12_runsAct_76 rfl ?_
    refine rx_iload_n dX12_runsAct_77 rfl ?_
    refine rx_cVi_2 clX12_393 dX12_runsAct_78 (rcvo (sM_0) rfl) rfl (m_cRun g (nI c) (x) (B ++ [71]) S1 L hA1 (by omega)) ?_
    rintro x2 S2 L2 ⟨hx2, hA2, hF2, hL2⟩
    rw [hL2, hx2]
    rw [List.append_assoc] at hA2
    have hV2 : S2 2 c = v := by rw [hF2.1 2 (by decide) (by decide)]; first | exact hV1 | exact hV
    refine rx_aload_n dX12_runsAct_81 rfl ?_
    refine rx_getR dX12_runsAct_82 flX12_23 (sM_0) rfl ?_
    refine rx_iload_n dX12_runsAct_85 rfl ?_
    refine rx_iaload dX12_runsAct_86 (sM_2) hvc ?_
    rw [hci, hV2]
    refine rx_ixor dX12_runsAct_87 ?_
    exact rx_iret dX12_runsAct_88 rfl ⟨Nat.le_refl _, Nat.le_refl _⟩ ⟨rfl, _, rfl, ⟨rfl, hA2, hF1.trans hF2, rfl⟩⟩
set_option maxRecDepth 20000 in
set_option maxHeartbeats 1000000 in
theorem m_stB (g : GG) (c k : Nat) (v x : Int32) (B : List Int32) (S : SS) (L : LL) (hk : k < 7) (hc7 : c < 7) (hK : S 1 c = nI k) (hV : S 2 c = v) (hA : AcM B S) (hB : B.length ≤ 95) : Ci g 3 mX12_childStands [.ref 0, .int (nI c), .int x] SHM S L (fun r S' L' => r = (stB k (nI c) v x).1 ∧ AcM (B ++ (stB k (nI c) v x).2) S' ∧ Fr [42] [68] S S' ∧ L' = L) := by
  have hci : (nI c).toNatClampNeg = c := nI_clamp (by omega)
  have hvc : vp_in (nI c) 7 := vp_in_nI hc7 (by omega)
  refine ct_of (ls := [some (.ref 0), some (.int (nI c)), some (.int x)]) 0 (by decide +kernel) rfl rfl ?_
  refine rx_aload_n dX12_childStands_0 rfl ?_
  refine rx_bipush (11) dX12_childStands_1 (by decide) ?_
  refine rx_cVv_1 clX12_390 dX12_childStands_3 (rcvo (sM_0) rfl) rfl (m_body g B 11 S L hA (by omega)) ?_
  rintro S1 L1 ⟨hA1, hF1, hL1⟩
  rw [hL1]
  have hl1 : (B ++ [11]).length = B.length + 1 := by rw [List.length_append]; rfl
  have hK1 := (congrFun (hF1.1 1 (by decide) (by decide)) c).trans hK
  have hV1 : S1 2 c = v := by rw [hF1.1 2 (by decide) (by decide)]; exact hV
  refine rx_aload_n dX12_childStands_6 rfl ?_
  refine rx_iload_n dX12_childStands_7 rfl ?_
  refine rx_iload_n dX12_childStands_8 rfl ?_
  refine rx_cVi_2 clX12_396 dX12_childStands_9 (rcvo (sM_0) rfl) rfl (m_run g c k v x (B ++ [11]) S1 L hk hc7 hK1 hV1 hA1 (by omega)) ?_
  rintro x2 S2 L2 ⟨hx2, hA2, hF2, hL2⟩
  rw [hL2, hx2]
  rw [List.append_assoc] at hA2
  have hV2 : S2 2 c = v := by rw [hF2.1 2 (by decide) (by decide)]; first | exact hV1 | exact hV
  refine rx_aload_n dX12_childStands_12 rfl ?_
  refine rx_getR dX12_childStands_13 flX12_23 (sM_0) rfl ?_
  refine rx_iload_n dX12_childStands_16 rfl ?_
  refine rx_iaload dX12_childStands_17 (sM_2) hvc ?_
  rw [hci, hV2]
  refine rx_isub dX12_childStands_18 ?_
  exact rx_iret dX12_childStands_19 rfl ⟨Nat.le_refl _, Nat.le_refl _⟩ ⟨rfl, _, rfl, ⟨rfl, hA2, hF1.trans hF2, rfl⟩⟩
set_option maxRecDepth 20000 in
set_option maxHeartbeats 1000000 in
theorem m_qSt (g : GG) (c k : Nat) (v x : Int32) (B : List Int32) (S : SS) (L : LL) (hk : k < 7) (hc7 : c < 7) (hK : S 1 c = nI k) (hV : S 2 c = v) (hA : AcM B S) (hB : B.length ≤ 90) : Ci g 4 mX12_quickStands [.ref 0, .int (nI c), .int x] SHM S L (fun r S' L' => r = (((stB k (nI c) v x).1 ^^^ 6, (20 : Int32) :: (stB k (nI c) v x).2)).1 ∧ AcM (B ++ (((stB k (nI c) v x).1 ^^^ 6, (20 : Int32) :: (stB k (nI c) v x).2)).2) S' ∧ Fr [42] [68] S S' ∧ L' = L) := by
  have hci : (nI c).toNatClampNeg = c := nI_clamp (by omega)
  have hvc : vp_in (nI c) 7 := vp_in_nI hc7 (by omega)
  refine ct_of (ls := [some (.ref 0), some (.int (nI c)), some (.int x)]) 0 (by decide +kernel) rfl rfl ?_
  refine rx_aload_n dX12_quickStands_0 rfl ?_
  refine rx_bipush (20) dX12_quickStands_1 (by decide) ?_
  refine rx_cVv_1 clX12_390 dX12_quickStands_3 (rcvo (sM_0) rfl) rfl (m_body g B 20 S L hA (by omega)) ?_
  rintro S1 L1 ⟨hA1, hF1, hL1⟩
  rw [hL1]
  have hl1 : (B ++ [20]).length = B.length + 1 := by rw [List.length_append]; rfl
  have hK1 := (congrFun (hF1.1 1 (by decide) (by decide)) c).trans hK
  have hV1 : S1 2 c = v := by rw [hF1.1 2 (by decide) (by decide)]; exact hV
  refine rx_aload_n dX12_quickStands_6 rfl ?_
  refine rx_iload_n dX12_quickStands_7 rfl ?_
  refine rx_iload_n dX12_quickStands_8 rfl ?_
  refine rx_cVi_2 clX12_399 dX12_quickStands_9 (rcvo (sM_0) rfl) rfl (m_stB g c k v x (B ++ [20]) S1 L hk hc7 hK1 hV1 hA1 (by omega)) ?_
  rintro x2 S2 L2 ⟨hx2, hA2, hF2, hL2⟩
  rw [hL2, hx2]
  rw [List.append_assoc] at hA2
  have hV2 : S2 2 c = v := by rw [hF2.1 2 (by decide) (by decide)]; first | exact hV1 | exact hV
  refine rx_bipush (6) dX12_quickStands_12 (by decide) ?_
  refine rx_ixor dX12_quickStands_14 ?_
  exact rx_iret dX12_quickStands_15 rfl ⟨Nat.le_refl _, Nat.le_refl _⟩ ⟨rfl, _, rfl, ⟨rfl, hA2, hF1.trans hF2, rfl⟩⟩
set_option maxRecDepth 20000 in
set_option maxHeartbeats 1000000 in
theorem m_sta (g : GG) (c k : Nat) (v x : Int32) (B : List Int32) (S : SS) (L : LL) (hk : k < 7) (hc7 : c < 7) (hK : S 1 c = nI k) (hV : S 2 c = v) (hA : AcM B S) (hB : B.length ≤ 80) : Ci g 5 mX12_standsAct [.ref 0, .int (nI c), .int x] SHM S L (fun r S' L' => r = (staT k (nI c) v x).1 ∧ AcM (B ++ (staT k (nI c) v x).2) S' ∧ Fr [42] [68] S S' ∧ L' = L) := by
  have hci : (nI c).toNatClampNeg = c := nI_clamp (by omega)
  have hvc : vp_in (nI c) 7 := vp_in_nI hc7 (by omega)
  refine ct_of (ls := [some (.ref 0), some (.int (nI c)), some (.int x), none]) 1 (by decide +kernel) rfl rfl ?_
  refine rx_aload_n dX12_standsAct_0 rfl ?_
  refine rx_getR dX12_standsAct_1 flX12_19 (sM_0) rfl ?_
  refine rx_iload_n dX12_standsAct_4 rfl ?_
  refine rx_iaload dX12_standsAct_5 (sM_1) hvc ?_
  rw [hci, hK]
  rcases y7 hk with rfl | rfl | rfl | rfl | rfl | rfl | rfl
  · refine rx_lookup 84 dX12_standsAct_6 (by decide) (show Op.lookupswitch.offset _ _ (nI 0).toInt = 78 from by decide +kernel) (by decide) ?_
    refine rx_aload_n dX12_standsAct_84 rfl ?_
    refine rx_iload_n dX12_standsAct_85 rfl ?_
    refine rx_iload_n dX12_standsAct_86 rfl ?_
    refine rx_cVi_2 clX12_399 dX12_standsAct_87 (rcvo (sM_0) rfl) rfl (m_stB g c _ v x B S L hk hc7 hK hV hA (by omega)) ?_
    rintro x2 S2 L2 ⟨hx2, hA2, hF2, hL2⟩
    rw [hL2, hx2]
    exact rx_iret dX12_standsAct_90 rfl ⟨Nat.le_refl _, Nat.le_refl _⟩ ⟨rfl, _, rfl, ⟨rfl, hA2, hF2, rfl⟩⟩
  · refine rx_lookup 40 dX12_standsAct_6 (by decide) (show Op.lookupswitch.offset _ _ (nI 1).toInt = 34 from by decide +kernel) (by decide) ?_
    refine rx_aload_n dX12_standsAct_40 rfl ?_
    refine rx_iload_n dX12_standsAct_41 rfl ?_
    refine rx_iload_n dX12_standsAct_42 rfl ?_
    refine rx_cVi_2 clX12_402 dX12_standsAct_43 (rcvo (sM_0) rfl) rfl (m_qSt g c 1 v x B S L (by decide) hc7 hK hV hA (by omega)) ?_
    rintro x2 S2 L2 ⟨hx2, hA2, hF2, hL2⟩
    rw [hL2, hx2]
    exact rx_iret dX12_standsAct_46 rfl ⟨Nat.le_refl _, Nat.le_refl _⟩ ⟨rfl, _, rfl, ⟨rfl, hA2, hF2, rfl⟩⟩
  · refine rx_lookup 84 dX12_standsAct_6 (by decide) (show Op.lookupswitch.offset _ _ (nI 2).toInt = 78 from by decide +kernel) (by decide) ?_
    refine rx_aload_n dX12_standsAct_84 rfl ?_
    refine rx_iload_n dX12_standsAct_85 rfl ?_
    refine rx_iload_n dX12_standsAct_86 rfl ?_
    refine rx_cVi_2 clX12_399 dX12_standsAct_87 (rcvo (sM_0) rfl) rfl (m_stB g c _ v x B S L hk hc7 hK hV hA (by omega)) ?_
    rintro x2 S2 L2 ⟨hx2, hA2, hF2, hL2⟩
    rw [hL2, hx2]
    exact rx_iret dX12_standsAct_90 rfl ⟨Nat.le_refl _, Nat.le_refl _⟩ ⟨rfl, _, rfl, ⟨rfl, hA2, hF2, rfl⟩⟩
  · refine rx_lookup 84 dX12_standsAct_6 (by decide) (show Op.lookupswitch.offset _ _ (nI 3).toInt = 78 from by decide +kernel) (by decide) ?_
    refine rx_aload_n dX12_standsAct_84 rfl ?_
    refine rx_iload_n dX12_standsAct_85 rfl ?_
    refine rx_iload_n dX12_standsAct_86 rfl ?_
    refine rx_cVi_2 clX12_399 dX12_standsAct_87 (rcvo (sM_0) rfl) rfl (m_stB g c _ v x B S L hk hc7 hK hV hA (by omega)) ?_
    rintro x2 S2 L2 ⟨hx2, hA2, hF2, hL2⟩
    rw [hL2, hx2]
    exact rx_iret dX12_standsAct_90 rfl ⟨Nat.le_refl _, Nat.le_refl _⟩ ⟨rfl, _, rfl, ⟨rfl, hA2, hF2, rfl⟩⟩
  · refine rx_lookup 47 dX12_standsAct_6 (by decide) (show Op.lookupswitch.offset _ _ (nI 4).toInt = 41 from by decide +kernel) (by decide) ?_
    refine rx_aload_n dX12_standsAct_47 rfl ?_
    refine rx_bipush (51) dX12_standsAct_48 (by decide) ?_
    refine rx_cVv_1 clX12_390 dX12_standsAct_50 (rcvo (sM_0) rfl) rfl (m_body g B 51 S L hA (by omega)) ?_
    rintro S1 L1 ⟨hA1, hF1, hL1⟩
    rw [hL1]
    have hl1 : (B ++ [51]).length = B.length + 1 := by rw [List.length_append]; rfl
    have hK1 := (congrFun (hF1.1 1 (by decide) (by decide)) c).trans hK
    have hV1 : S1 2 c = v := by rw [hF1.1 2 (by decide) (by decide)]; exact hV
    refine rx_aload_n dX12_standsAct_53 rfl ?_
    refine rx_iload_n dX12_standsAct_54 rfl ?_
    refine rx_iload_n dX12_standsAct_55 rfl ?_
    refine rx_iconst (1) dX12_standsAct_56 (by decide) ?_
    refine rx_iadd dX12_standsAct_57 ?_
    refine rx_cVi_2 clX12_402 dX12_standsAct_58 (rcvo (sM_0) rfl) rfl (m_qSt g c 4 v (x + 1) (B ++ [51]) S1 L (by decide) hc7 hK1 hV1 hA1 (by omega)) ?_
    rintro x2 S2 L2 ⟨hx2, hA2, hF2, hL2⟩
    rw [hL2, hx2]
    rw [List.append_assoc] at hA2
    have hV2 : S2 2 c = v := by rw [hF2.1 2 (by decide) (by decide)]; first | exact hV1 | exact hV
    exact rx_iret dX12_standsAct_61 rfl ⟨Nat.le_refl _, Nat.le_refl _⟩ ⟨rfl, _, rfl, ⟨rfl, hA2, hF1.trans hF2, rfl⟩⟩
  · refine rx_lookup 84 dX12_standsAct_6 (by decide) (show Op.lookupswitch.offset _ _ (nI 5).toInt = 78 from by decide +kernel) (by decide) ?_
    refine rx_aload_n dX12_standsAct_84 rfl ?_
    refine rx_iload_n dX12_standsAct_85 rfl ?_
    refine rx_iload_n dX12_standsAct_86 rfl ?_
    refine rx_cVi_2 clX12_399 dX12_standsAct_87 (rcvo (sM_0) rfl) rfl (m_stB g c _ v x B S L hk hc7 hK hV hA (by omega)) ?_
    rintro x2 S2 L2 ⟨hx2, hA2, hF2, hL2⟩
    rw [hL2, hx2]
    exact rx_iret dX12_standsAct_90 rfl ⟨Nat.le_refl _, Nat.le_refl _⟩ ⟨rfl, _, rfl, ⟨rfl, hA2, hF2, rfl⟩⟩
  · refine rx_lookup 62 dX12_standsAct_6 (by decide) (show Op.lookupswitch.offset _ _ (nI 6).toInt = 56 from by decide +kernel) (by decide) ?_
    refine rx_aload_n dX12_standsAct_62 rfl ?_
    refine rx_bipush (70) dX12_standsAct_63 (by decide) ?_
    refine rx_cVv_1 clX12_390 dX12_standsAct_65 (rcvo (sM_0) rfl) rfl (m_body g B 70 S L hA (by omega)) ?_
    rintro S1 L1 ⟨hA1, hF1, hL1⟩
    rw [hL1]
    have hl1 : (B ++ [70]).length = B.length + 1 := by rw [List.length_append]; rfl
    have hK1 := (congrFun (hF1.1 1 (by decide) (by decide)) c).trans hK
    have hV1 : S1 2 c = v := by rw [hF1.1 2 (by decide) (by decide)]; exact hV
    refine rx_aload_n dX12_standsAct_68 rfl ?_
    refine rx_iload_n dX12_standsAct_69 rfl ?_
    refine rx_iload_n dX12_standsAct_70 rfl ?_
    refine rx_cVi_2 clX12_399 dX12_standsAct_71 (rcvo (sM_0) rfl) rfl (m_stB g c 6 v x (B ++ [70]) S1 L (by decide) hc7 hK1 hV1 hA1 (by omega)) ?_
    rintro x2 S2 L2 ⟨hx2, hA2, hF2, hL2⟩
    rw [hL2, hx2]
    have hl2 : (B ++ [70] ++ (stB 6 (nI c) v x).2).length ≤ B.length + 4 := by
      have := stB_l (k := 6) (by decide) (i := nI c) (v := v) (x := x)
      rw [List.length_append, hl1]
      omega
    refine rx_istore_3 rfl dX12_standsAct_74 ?_
    refine rx_iload_n dX12_standsAct_75 rfl ?_
    refine rx_aload_n dX12_standsAct_76 rfl ?_
    refine rx_iload_n dX12_standsAct_77 rfl ?_
    refine rx_iconst (2) dX12_standsAct_78 (by decide) ?_
    refine rx_cVi_2 clX12_393 dX12_standsAct_79 (rcvo (sM_0) rfl) rfl (m_cRun g (nI c) 2 (B ++ [70] ++ (stB 6 (nI c) v x).2) S2 L hA2 (by omega)) ?_
    rintro x3 S3 L3 ⟨hx3, hA3, hF3, hL3⟩
    rw [hL3, hx3]
    rw [List.append_assoc, List.append_assoc] at hA3
    refine rx_iadd dX12_standsAct_82 ?_
    exact rx_iret dX12_standsAct_83 rfl ⟨Nat.le_refl _, Nat.le_refl _⟩ ⟨rfl, _, rfl, ⟨rfl, hA3, (hF1.trans hF2).trans hF3, rfl⟩⟩
set_option maxRecDepth 20000 in
set_option maxHeartbeats 1000000 in
theorem m_telB (g : GG) (c k : Nat) (v x : Int32) (B : List Int32) (S : SS) (L : LL) (hk : k < 7) (hc7 : c < 7) (hK : S 1 c = nI k) (hV : S 2 c = v) (hA : AcM B S) (hB : B.length ≤ 70) : Ci g 6 mX12_childTells [.ref 0, .int (nI c), .int x] SHM S L (fun r S' L' => r = (telB k (nI c) v x).1 ∧ AcM (B ++ (telB k (nI c) v x).2) S' ∧ Fr [42] [68] S S' ∧ L' = L) := by
  have hci : (nI c).toNatClampNeg = c := nI_clamp (by omega)
  have hvc : vp_in (nI c) 7 := vp_in_nI hc7 (by omega)
  refine ct_of (ls := [some (.ref 0), some (.int (nI c)), some (.int x)]) 0 (by decide +kernel) rfl rfl ?_
  refine rx_aload_n dX12_childTells_0 rfl ?_
  refine rx_bipush (12) dX12_childTells_1 (by decide) ?_
  refine rx_cVv_1 clX12_390 dX12_childTells_3 (rcvo (sM_0) rfl) rfl (m_body g B 12 S L hA (by omega)) ?_
  rintro S1 L1 ⟨hA1, hF1, hL1⟩
  rw [hL1]
  have hl1 : (B ++ [12]).length = B.length + 1 := by rw [List.length_append]; rfl
  have hK1 := (congrFun (hF1.1 1 (by decide) (by decide)) c).trans hK
  have hV1 : S1 2 c = v := by rw [hF1.1 2 (by decide) (by decide)]; exact hV
  refine rx_aload_n dX12_childTells_6 rfl ?_
  refine rx_iload_n dX12_childTells_7 rfl ?_
  refine rx_iload_n dX12_childTells_8 rfl ?_
  refine rx_cVi_2 clX12_405 dX12_childTells_9 (rcvo (sM_0) rfl) rfl (m_sta g c k v x (B ++ [12]) S1 L hk hc7 hK1 hV1 hA1 (by omega)) ?_
  rintro x2 S2 L2 ⟨hx2, hA2, hF2, hL2⟩
  rw [hL2, hx2]
  rw [List.append_assoc] at hA2
  have hV2 : S2 2 c = v := by rw [hF2.1 2 (by decide) (by decide)]; first | exact hV1 | exact hV
  refine rx_iconst (2) dX12_childTells_12 (by decide) ?_
  refine rx_imul dX12_childTells_13 ?_
  exact rx_iret dX12_childTells_14 rfl ⟨Nat.le_refl _, Nat.le_refl _⟩ ⟨rfl, _, rfl, ⟨rfl, hA2, hF1.trans hF2, rfl⟩⟩
set_option maxRecDepth 20000 in
set_option maxHeartbeats 1000000 in
theorem m_tel (g : GG) (c k : Nat) (v x : Int32) (B : List Int32) (S : SS) (L : LL) (hk : k < 7) (hc7 : c < 7) (hK : S 1 c = nI k) (hV : S 2 c = v) (hA : AcM B S) (hB : B.length ≤ 50) : Ci g 7 mX12_tellsAct [.ref 0, .int (nI c), .int x] SHM S L (fun r S' L' => r = (telT k (nI c) v x).1 ∧ AcM (B ++ (telT k (nI c) v x).2) S' ∧ Fr [42] [68] S S' ∧ L' = L) := by
  have hci : (nI c).toNatClampNeg = c := nI_clamp (by omega)
  have hvc : vp_in (nI c) 7 := vp_in_nI hc7 (by omega)
  refine ct_of (ls := [some (.ref 0), some (.int (nI c)), some (.int x), none]) 1 (by decide +kernel) rfl rfl ?_
  refine rx_aload_n dX12_tellsAct_0 rfl ?_
  refine rx_getR dX12_tellsAct_1 flX12_19 (sM_0) rfl ?_
  refine rx_iload_n dX12_tellsAct_4 rfl ?_
  refine rx_iaload dX12_tellsAct_5 (sM_1) hvc ?_
  rw [hci, hK]
  rcases y7 hk with rfl | rfl | rfl | rfl | rfl | rfl | rfl
  · refine rx_tableOut 73 dX12_tellsAct_6 (Or.inl (by decide)) (by decide) ?_
    refine rx_aload_n dX12_tellsAct_73 rfl ?_
    refine rx_iload_n dX12_tellsAct_74 rfl ?_
    refine rx_iload_n dX12_tellsAct_75 rfl ?_
    refine rx_cVi_2 clX12_408 dX12_tellsAct_76 (rcvo (sM_0) rfl) rfl (m_telB g c _ v x B S L hk hc7 hK hV hA (by omega)) ?_
    rintro x2 S2 L2 ⟨hx2, hA2, hF2, hL2⟩
    rw [hL2, hx2]
    exact rx_iret dX12_tellsAct_79 rfl ⟨Nat.le_refl _, Nat.le_refl _⟩ ⟨rfl, _, rfl, ⟨rfl, hA2, hF2, rfl⟩⟩
  · refine rx_tableOut 73 dX12_tellsAct_6 (Or.inl (by decide)) (by decide) ?_
    refine rx_aload_n dX12_tellsAct_73 rfl ?_
    refine rx_iload_n dX12_tellsAct_74 rfl ?_
    refine rx_iload_n dX12_tellsAct_75 rfl ?_
    refine rx_cVi_2 clX12_408 dX12_tellsAct_76 (rcvo (sM_0) rfl) rfl (m_telB g c _ v x B S L hk hc7 hK hV hA (by omega)) ?_
    rintro x2 S2 L2 ⟨hx2, hA2, hF2, hL2⟩
    rw [hL2, hx2]
    exact rx_iret dX12_tellsAct_79 rfl ⟨Nat.le_refl _, Nat.le_refl _⟩ ⟨rfl, _, rfl, ⟨rfl, hA2, hF2, rfl⟩⟩
  · refine rx_tableOut 73 dX12_tellsAct_6 (Or.inl (by decide)) (by decide) ?_
    refine rx_aload_n dX12_tellsAct_73 rfl ?_
    refine rx_iload_n dX12_tellsAct_74 rfl ?_
    refine rx_iload_n dX12_tellsAct_75 rfl ?_
    refine rx_cVi_2 clX12_408 dX12_tellsAct_76 (rcvo (sM_0) rfl) rfl (m_telB g c _ v x B S L hk hc7 hK hV hA (by omega)) ?_
    rintro x2 S2 L2 ⟨hx2, hA2, hF2, hL2⟩
    rw [hL2, hx2]
    exact rx_iret dX12_tellsAct_79 rfl ⟨Nat.le_refl _, Nat.le_refl _⟩ ⟨rfl, _, rfl, ⟨rfl, hA2, hF2, rfl⟩⟩
  · refine rx_tableIn 36 dX12_tellsAct_6 (by decide) (by decide) (by rfl) (by decide) ?_
    refine rx_aload_n dX12_tellsAct_36 rfl ?_
    refine rx_bipush (40) dX12_tellsAct_37 (by decide) ?_
    refine rx_cVv_1 clX12_390 dX12_tellsAct_39 (rcvo (sM_0) rfl) rfl (m_body g B 40 S L hA (by omega)) ?_
    rintro S1 L1 ⟨hA1, hF1, hL1⟩
    rw [hL1]
    have hl1 : (B ++ [40]).length = B.length + 1 := by rw [List.length_append]; rfl
    have hK1 := (congrFun (hF1.1 1 (by decide) (by decide)) c).trans hK
    have hV1 : S1 2 c = v := by rw [hF1.1 2 (by decide) (by decide)]; exact hV
    refine rx_aload_n dX12_tellsAct_42 rfl ?_
    refine rx_iload_n dX12_tellsAct_43 rfl ?_
    refine rx_iload_n dX12_tellsAct_44 rfl ?_
    refine rx_cVi_2 clX12_408 dX12_tellsAct_45 (rcvo (sM_0) rfl) rfl (m_telB g c _ v x (B ++ [40]) S1 L hk hc7 hK1 hV1 hA1 (by omega)) ?_
    rintro x2 S2 L2 ⟨hx2, hA2, hF2, hL2⟩
    rw [hL2, hx2]
    have hl2 := telB_l hk (i := nI c) (v := v) (x := x)
    have hK2 := (congrFun (hF2.1 1 (by decide) (by decide)) c).trans hK1
    have hV2 : S2 2 c = v := by rw [hF2.1 2 (by decide) (by decide)]; exact hV1
    refine rx_istore_3 rfl dX12_tellsAct_48 ?_
    refine rx_iload_n dX12_tellsAct_49 rfl ?_
    refine rx_aload_n dX12_tellsAct_50 rfl ?_
    refine rx_iload_n dX12_tellsAct_51 rfl ?_
    refine rx_iconst (1) dX12_tellsAct_52 (by decide) ?_
    refine rx_cVi_2 clX12_405 dX12_tellsAct_53 (rcvo (sM_0) rfl) rfl (m_sta g c _ v 1 _ S2 L hk hc7 hK2 hV2 hA2 (by rw [List.length_append, hl1]; omega)) ?_
    rintro x3 S3 L3 ⟨hx3, hA3, hF3, hL3⟩
    rw [hL3, hx3]
    rw [List.append_assoc, List.append_assoc] at hA3
    refine rx_iadd dX12_tellsAct_56 ?_
    exact rx_iret dX12_tellsAct_57 rfl ⟨Nat.le_refl _, Nat.le_refl _⟩ ⟨rfl, _, rfl, ⟨rfl, hA3, (hF1.trans hF2).trans hF3, rfl⟩⟩
  · refine rx_tableIn 73 dX12_tellsAct_6 (by decide) (by decide) (by rfl) (by decide) ?_
    refine rx_aload_n dX12_tellsAct_73 rfl ?_
    refine rx_iload_n dX12_tellsAct_74 rfl ?_
    refine rx_iload_n dX12_tellsAct_75 rfl ?_
    refine rx_cVi_2 clX12_408 dX12_tellsAct_76 (rcvo (sM_0) rfl) rfl (m_telB g c _ v x B S L hk hc7 hK hV hA (by omega)) ?_
    rintro x2 S2 L2 ⟨hx2, hA2, hF2, hL2⟩
    rw [hL2, hx2]
    exact rx_iret dX12_tellsAct_79 rfl ⟨Nat.le_refl _, Nat.le_refl _⟩ ⟨rfl, _, rfl, ⟨rfl, hA2, hF2, rfl⟩⟩
  · refine rx_tableIn 58 dX12_tellsAct_6 (by decide) (by decide) (by rfl) (by decide) ?_
    refine rx_aload_n dX12_tellsAct_58 rfl ?_
    refine rx_bipush (60) dX12_tellsAct_59 (by decide) ?_
    refine rx_cVv_1 clX12_390 dX12_tellsAct_61 (rcvo (sM_0) rfl) rfl (m_body g B 60 S L hA (by omega)) ?_
    rintro S1 L1 ⟨hA1, hF1, hL1⟩
    rw [hL1]
    have hl1 : (B ++ [60]).length = B.length + 1 := by rw [List.length_append]; rfl
    have hK1 := (congrFun (hF1.1 1 (by decide) (by decide)) c).trans hK
    have hV1 : S1 2 c = v := by rw [hF1.1 2 (by decide) (by decide)]; exact hV
    refine rx_aload_n dX12_tellsAct_64 rfl ?_
    refine rx_iload_n dX12_tellsAct_65 rfl ?_
    refine rx_iload_n dX12_tellsAct_66 rfl ?_
    refine rx_iload_n dX12_tellsAct_67 rfl ?_
    refine rx_isub dX12_tellsAct_68 ?_
    refine rx_cVi_2 clX12_408 dX12_tellsAct_69 (rcvo (sM_0) rfl) rfl (m_telB g c 5 v (x - nI c) (B ++ [60]) S1 L (by decide) hc7 hK1 hV1 hA1 (by omega)) ?_
    rintro x2 S2 L2 ⟨hx2, hA2, hF2, hL2⟩
    rw [hL2, hx2]
    rw [List.append_assoc] at hA2
    have hV2 : S2 2 c = v := by rw [hF2.1 2 (by decide) (by decide)]; first | exact hV1 | exact hV
    exact rx_iret dX12_tellsAct_72 rfl ⟨Nat.le_refl _, Nat.le_refl _⟩ ⟨rfl, _, rfl, ⟨rfl, hA2, hF1.trans hF2, rfl⟩⟩
  · refine rx_tableIn 36 dX12_tellsAct_6 (by decide) (by decide) (by rfl) (by decide) ?_
    refine rx_aload_n dX12_tellsAct_36 rfl ?_
    refine rx_bipush (40) dX12_tellsAct_37 (by decide) ?_
    refine rx_cVv_1 clX12_390 dX12_tellsAct_39 (rcvo (sM_0) rfl) rfl (m_body g B 40 S L hA (by omega)) ?_
    rintro S1 L1 ⟨hA1, hF1, hL1⟩
    rw [hL1]
    have hl1 : (B ++ [40]).length = B.length + 1 := by rw [List.length_append]; rfl
    have hK1 := (congrFun (hF1.1 1 (by decide) (by decide)) c).trans hK
    have hV1 : S1 2 c = v := by rw [hF1.1 2 (by decide) (by decide)]; exact hV
    refine rx_aload_n dX12_tellsAct_42 rfl ?_
    refine rx_iload_n dX12_tellsAct_43 rfl ?_
    refine rx_iload_n dX12_tellsAct_44 rfl ?_
    refine rx_cVi_2 clX12_408 dX12_tellsAct_45 (rcvo (sM_0) rfl) rfl (m_telB g c _ v x (B ++ [40]) S1 L hk hc7 hK1 hV1 hA1 (by omega)) ?_
    rintro x2 S2 L2 ⟨hx2, hA2, hF2, hL2⟩
    rw [hL2, hx2]
    have hl2 := telB_l hk (i := nI c) (v := v) (x := x)
    have hK2 := (congrFun (hF2.1 1 (by decide) (by decide)) c).trans hK1
    have hV2 : S2 2 c = v := by rw [hF2.1 2 (by decide) (by decide)]; exact hV1
    refine rx_istore_3 rfl dX12_tellsAct_48 ?_
    refine rx_iload_n dX12_tellsAct_49 rfl ?_
    refine rx_aload_n dX12_tellsAct_50 rfl ?_
    refine rx_iload_n dX12_tellsAct_51 rfl ?_
    refine rx_iconst (1) dX12_tellsAct_52 (by decide) ?_
    refine rx_cVi_2 clX12_405 dX12_tellsAct_53 (rcvo (sM_0) rfl) rfl (m_sta g c _ v 1 _ S2 L hk hc7 hK2 hV2 hA2 (by rw [List.length_append, hl1]; omega)) ?_
    rintro x3 S3 L3 ⟨hx3, hA3, hF3, hL3⟩
    rw [hL3, hx3]
    rw [List.append_assoc, List.append_assoc] at hA3
    refine rx_iadd dX12_tellsAct_56 ?_
    exact rx_iret dX12_tellsAct_57 rfl ⟨Nat.le_refl _, Nat.le_refl _⟩ ⟨rfl, _, rfl, ⟨rfl, hA3, (hF1.trans hF2).trans hF3, rfl⟩⟩
set_option maxRecDepth 20000 in
set_option maxHeartbeats 1000000 in
theorem mc_act (g : GG) (σ : SIG) (c a x : Int32) (S : SS) (L : LL) (hr : MRel S L σ) (hok : OKg (nAct σ c a x)) : Ci g 8 mX12_act [.ref 0, .int c, .int a, .int x] SHM S L (fun r S' L' => r = aAct σ c a x ∧ MRel S' L' (nAct σ c a x)) := by
  have hA0 : AcM [] (upS S 0 68 0) := ⟨by rw [upS_at]; rfl, fun k _ h => absurd h (by simp)⟩
  refine ct_of (ls := [some (.ref 0), some (.int c), some (.int a), some (.int x)]) 0 (by decide +kernel) rfl rfl ?_
  refine rx_aload_n dX12_act_0 rfl ?_
  refine rx_iconst (0) dX12_act_1 (by decide) ?_
  refine rx_putI dX12_act_2 flX12_217 (sM_0) rfl ?_
  refine rx_aload_n dX12_act_5 rfl ?_
  refine rx_iload_n dX12_act_6 rfl ?_
  refine rx_cVi_1 clX12_240 dX12_act_7 (rcvo (sM_0) rfl) rfl (m_isChild g (nN σ) c _ L hr.n7 (by rw [upS_row]; exact hr.sz)) ?_
  refine pur3 ?_
  refine rx_if_eq 23 dX12_act_10 (by decide) (fun h10 => ?_) (fun h10 => ?_)
  · have hQ : actQ σ c a x = (0, []) := if_pos (b2i_eq h10)
    refine rx_iconst (0) dX12_act_23 (by decide) ?_
    exact rx_iret dX12_act_24 rfl ⟨Nat.le_refl _, Nat.le_refl _⟩ ⟨rfl, _, rfl, ⟨by unfold aAct; rw [hQ], by unfold nAct at hok ⊢; rw [hQ] at hok ⊢; exact hr.act hok hA0 (Fr.refl.up0 (by decide))⟩⟩
  · have hq := b2i_ne h10
    obtain ⟨c, hc, rfl⟩ := rngL (nN σ) (by have := hr.n7; omega) hq.1 hq.2
    have hc7 : c < 7 := by have := hr.n7; omega
    have hci : (nI c).toNatClampNeg = c := nI_clamp (by omega)
    have hvc : vp_in (nI c) 7 := vp_in_nI hc7 (by omega)
    obtain ⟨k, hk, ek⟩ := hr.en.2.1 c hc
    have hkn : kN (gE σ) c = k := by unfold kN; rw [ek]; exact nI_clamp (by omega)
    refine rx_aload_n dX12_act_13 rfl ?_
    refine rx_iload_n dX12_act_14 rfl ?_
    refine rx_iconst (0) dX12_act_15 (by decide) ?_
    refine rx_iconst (2) dX12_act_16 (by decide) ?_
    refine rx_cVi_3 clX12_236 dX12_act_17 (rcvo (sM_0) rfl) rfl (m_in g 0 _ _ _ _ L) ?_
    refine pur3 ?_
    refine rx_if_ne 25 dX12_act_20 (by decide) (fun h20 => ?_) (fun h20 => ?_)
    · refine rx_iload_n dX12_act_25 rfl ?_
      refine rx_if_ne 38 dX12_act_26 (by decide) (fun h26 => ?_) (fun h26 => ?_)
      · refine rx_iload_n dX12_act_38 rfl ?_
        refine rx_iconst (1) dX12_act_39 (by decide) ?_
        refine rx_icmp_ne 52 dX12_act_40 (by decide) (fun h40 => ?_) (fun h40 => ?_)
        · have hj2 := b2i_ne h20
          obtain ⟨j, hj, ea⟩ := rngI 2 (by omega) hj2.1 hj2.2
          have h2 : a = nI 2 := by
            rcases (show j = 0 ∨ j = 1 ∨ j = 2 by omega) with e | e | e
            · rw [ea, e] at h26; exact absurd rfl h26
            · rw [ea, e] at h40; exact absurd rfl h40
            · rw [ea, e]
          have hQ : actQ σ (nI c) a x = actT 2 k (nI c) (eV (gE σ) c) x := by
            unfold actQ
            rw [if_neg (fun q => q hq), if_neg (a02.mp (b2i_ne h20)), hci, hkn]
            rw [h2]; rfl
          refine rx_aload_n dX12_act_52 rfl ?_
          refine rx_iload_n dX12_act_53 rfl ?_
          refine rx_iload_n dX12_act_54 rfl ?_
          refine rx_cVi_2 clX12_411 dX12_act_55 (rcvo (sM_0) rfl) rfl (m_tel g c k (eV (gE σ) c) x [] _ L hk hc7 ((congrFun (upS_off S 0 68 0 (by decide)) c).trans ((hr.sc.k hc7).trans ek)) ((congrFun (upS_off S 0 68 0 (by decide)) c).trans (hr.sc.v hc7)) hA0 (by decide)) ?_
          rintro x2 S2 L2 ⟨hx2, hA2, hF2, hL2⟩
          rw [hL2, hx2]
          exact rx_iret dX12_act_58 rfl ⟨Nat.le_refl _, Nat.le_refl _⟩ ⟨rfl, _, rfl, ⟨by unfold aAct; rw [hQ]; rfl, by unfold nAct at hok ⊢; rw [hQ] at hok ⊢; exact hr.act hok hA2 ((Fr.refl.up0 (by decide)).trans hF2)⟩⟩
        · have hQ : actQ σ (nI c) a x = actT 1 k (nI c) (eV (gE σ) c) x := by
            unfold actQ
            rw [if_neg (fun q => q hq), if_neg (a02.mp (b2i_ne h20)), hci, hkn]
            rw [h40]; rfl
          refine rx_aload_n dX12_act_43 rfl ?_
          refine rx_iload_n dX12_act_44 rfl ?_
          refine rx_iload_n dX12_act_45 rfl ?_
          refine rx_cVi_2 clX12_405 dX12_act_46 (rcvo (sM_0) rfl) rfl (m_sta g c k (eV (gE σ) c) x [] _ L hk hc7 ((congrFun (upS_off S 0 68 0 (by decide)) c).trans ((hr.sc.k hc7).trans ek)) ((congrFun (upS_off S 0 68 0 (by decide)) c).trans (hr.sc.v hc7)) hA0 (by decide)) ?_
          rintro x2 S2 L2 ⟨hx2, hA2, hF2, hL2⟩
          rw [hL2, hx2]
          refine rx_goto 58 dX12_act_49 (by decide) ?_
          exact rx_iret dX12_act_58 rfl ⟨Nat.le_refl _, Nat.le_refl _⟩ ⟨rfl, _, rfl, ⟨by unfold aAct; rw [hQ]; rfl, by unfold nAct at hok ⊢; rw [hQ] at hok ⊢; exact hr.act hok hA2 ((Fr.refl.up0 (by decide)).trans hF2)⟩⟩
      · have hQ : actQ σ (nI c) a x = actT 0 k (nI c) (eV (gE σ) c) x := by
          unfold actQ
          rw [if_neg (fun q => q hq), if_neg (a02.mp (b2i_ne h20)), hci, hkn]
          rw [h26]; rfl
        refine rx_aload_n dX12_act_29 rfl ?_
        refine rx_iload_n dX12_act_30 rfl ?_
        refine rx_iload_n dX12_act_31 rfl ?_
        refine rx_cVi_2 clX12_396 dX12_act_32 (rcvo (sM_0) rfl) rfl (m_run g c k (eV (gE σ) c) x [] _ L hk hc7 ((congrFun (upS_off S 0 68 0 (by decide)) c).trans ((hr.sc.k hc7).trans ek)) ((congrFun (upS_off S 0 68 0 (by decide)) c).trans (hr.sc.v hc7)) hA0 (by decide)) ?_
        rintro x2 S2 L2 ⟨hx2, hA2, hF2, hL2⟩
        rw [hL2, hx2]
        refine rx_goto 58 dX12_act_35 (by decide) ?_
        exact rx_iret dX12_act_58 rfl ⟨Nat.le_refl _, Nat.le_refl _⟩ ⟨rfl, _, rfl, ⟨by unfold aAct; rw [hQ]; rfl, by unfold nAct at hok ⊢; rw [hQ] at hok ⊢; exact hr.act hok hA2 ((Fr.refl.up0 (by decide)).trans hF2)⟩⟩
    · have hQ : actQ σ (nI c) a x = (0, []) := by unfold actQ; rw [if_neg (fun q => q hq), if_pos (Decidable.not_not.mp (fun q => b2i_eq h20 (a02.mpr q)))]
      refine rx_iconst (0) dX12_act_23 (by decide) ?_
      exact rx_iret dX12_act_24 rfl ⟨Nat.le_refl _, Nat.le_refl _⟩ ⟨rfl, _, rfl, ⟨by unfold aAct; rw [hQ], by unfold nAct at hok ⊢; rw [hQ] at hok ⊢; exact hr.act hok hA0 (Fr.refl.up0 (by decide))⟩⟩
