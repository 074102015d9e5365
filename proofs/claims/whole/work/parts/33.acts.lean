-- ACTS
def runT (k : Nat) (i v x : Int32) : Int32 × List Int32 := match k with
  | 2 => (x * 3 + i, [30, 10])
  | 5 => (x * 3 + i, [30, 10])
  | 4 => (-(x + i), [50, 10])
  | 6 => ((x + i) ^^^ v, [71, 10])
  | _ => (x + i, [10])
def stB (k : Nat) (i v x : Int32) : Int32 × List Int32 := ((runT k i v x).1 - v, 11 :: (runT k i v x).2)
def staT (k : Nat) (i v x : Int32) : Int32 × List Int32 := match k with
  | 1 => ((stB 1 i v x).1 ^^^ 6, 20 :: (stB 1 i v x).2)
  | 4 => ((stB 4 i v (x + 1)).1 ^^^ 6, 51 :: 20 :: (stB 4 i v (x + 1)).2)
  | 6 => ((stB 6 i v x).1 + (2 + i), 70 :: ((stB 6 i v x).2 ++ [10]))
  | k => stB k i v x
def telB (k : Nat) (i v x : Int32) : Int32 × List Int32 := ((staT k i v x).1 * 2, 12 :: (staT k i v x).2)
def telT (k : Nat) (i v x : Int32) : Int32 × List Int32 := match k with
  | 3 => ((telB 3 i v x).1 + (staT 3 i v 1).1, 40 :: ((telB 3 i v x).2 ++ (staT 3 i v 1).2))
  | 6 => ((telB 6 i v x).1 + (staT 6 i v 1).1, 40 :: ((telB 6 i v x).2 ++ (staT 6 i v 1).2))
  | 5 => ((telB 5 i v (x - i)).1, 60 :: (telB 5 i v (x - i)).2)
  | k => telB k i v x
def AcR (i v : Int32) (B : List Int32) (S : SS) : Prop := S 97 1 = nI B.length ∧ S 97 2 = i ∧ S 97 3 = v ∧ ∀ k, k < 20 → k < B.length → S 98 k = B.getD k 0
def AcF (S S' : SS) : Prop := ∀ j, j ≠ 97 → j ≠ 98 → S' j = S j
theorem AcF.trans {S S1 S2 : SS} (h : AcF S S1) (h2 : AcF S1 S2) : AcF S S2 := fun j a b => (h2 j a b).trans (h j a b)
theorem gD1 {B : List Int32} {b : Int32} {k : Nat} (h : k < B.length) : (B ++ [b]).getD k 0 = B.getD k 0 := by rw [List.getD_eq_getElem?_getD, List.getElem?_append_left h, ← List.getD_eq_getElem?_getD]
theorem gD2 {B : List Int32} {b : Int32} : (B ++ [b]).getD B.length 0 = b := by simp
theorem AcR.full {i v b : Int32} {B : List Int32} {S : SS} (h : AcR i v B S) (h20 : 20 ≤ B.length) : AcR i v (B ++ [b]) (upS S 97 1 (nI (B.length + 1))) := by
  refine ⟨by rw [upS_at, List.length_append]; rfl, by rw [upS_row, pk_un (by decide)]; exact h.2.1, by rw [upS_row, pk_un (by decide)]; exact h.2.2.1, fun k h1 h2 => ?_⟩
  rw [upS_off _ _ _ _ (by decide), gD1 (by omega)]
  exact h.2.2.2 k h1 (by omega)
theorem AcR.push {i v b : Int32} {B : List Int32} {S : SS} (h : AcR i v B S) : AcR i v (B ++ [b]) (upS (upS S 98 B.length b) 97 1 (nI (B.length + 1))) := by
  have o97 : ∀ k, k ≠ 1 → upS (upS S 98 B.length b) 97 1 (nI (B.length + 1)) 97 k = S 97 k := fun k hk => by rw [upS_row, pk_un hk, upS_off _ _ _ _ (by decide)]
  refine ⟨by rw [upS_at, List.length_append]; rfl, (o97 2 (by decide)).trans h.2.1, (o97 3 (by decide)).trans h.2.2.1, fun k h1 h2 => ?_⟩
  rw [upS_off _ _ _ _ (by decide), upS_row]
  by_cases e : k = B.length
  · rw [e, pk_us, gD2]
  · have h3 : k < B.length := by rw [List.length_append] at h2; have : k < B.length + 1 := h2; omega
    rw [pk_un e, gD1 h3]; exact h.2.2.2 k h1 h3

set_option maxRecDepth 20000 in
set_option maxHeartbeats 1000000 in
theorem c_begin (g : GG) (i v : Int32) (B : List Int32) (b : Int32) (S : SS) (L : LL) (hA : AcR i v B S) (hB : B.length ≤ 100) : Cv g 0 mX0_begin [.ref 97, .int b] SHC S L (fun S' L' => AcR i v (B ++ [b]) S' ∧ AcF S S' ∧ L' = L) := by
  have hbc : (nI B.length).toNatClampNeg = B.length := nI_clamp (by omega)
  refine ct_of (ls := [some (.ref 97), some (.int b)]) 0 (by decide +kernel) rfl rfl ?_
  refine rx_aload_n dX0_begin_0 rfl ?_
  refine rx_getI dX0_begin_1 flX0_13 (sC_97) rfl ?_
  rw [hA.1]
  refine rx_bipush (20) dX0_begin_4 (by decide) ?_
  refine rx_icmp_ge 19 dX0_begin_6 (by decide) (fun h6 => ?_) (fun h6 => ?_)
  · refine rx_aload_n dX0_begin_19 rfl ?_
    refine rx_dup dX0_begin_20 rfl ?_
    refine rx_getI dX0_begin_21 flX0_13 (sC_97) rfl ?_
    first | rw [upS_off _ _ _ _ (by decide : (97 : Nat) ≠ 98), hbc, hA.1] | rw [hA.1]
    refine rx_iconst (1) dX0_begin_24 (by decide) ?_
    refine rx_iadd dX0_begin_25 ?_
    rw [nI_1]
    refine rx_putI dX0_begin_26 flX0_13 (sC_97) rfl ?_
    exact rx_vret dX0_begin_29 rfl ⟨Nat.le_refl _, Nat.le_refl _⟩ ⟨rfl, rfl, ⟨hA.full ((nI_leI (a := 20) (by omega) (by omega)).mp h6), fun j h1 _ => upS_off _ _ _ _ h1, rfl⟩⟩
  · refine rx_aload_n dX0_begin_9 rfl ?_
    refine rx_getR dX0_begin_10 flX0_9 (sC_97) rfl ?_
    refine rx_aload_n dX0_begin_13 rfl ?_
    refine rx_getI dX0_begin_14 flX0_13 (sC_97) rfl ?_
    rw [hA.1]
    refine rx_iload_n dX0_begin_17 rfl ?_
    refine rx_iastore dX0_begin_18 (sC_98) (vp_in_nI ((nI_ltI (b := 20) (by omega) (by omega)).mp (Int32.not_le.mp h6)) (by omega)) ?_
    refine rx_aload_n dX0_begin_19 rfl ?_
    refine rx_dup dX0_begin_20 rfl ?_
    refine rx_getI dX0_begin_21 flX0_13 (sC_97) rfl ?_
    first | rw [upS_off _ _ _ _ (by decide : (97 : Nat) ≠ 98), hbc, hA.1] | rw [hA.1]
    refine rx_iconst (1) dX0_begin_24 (by decide) ?_
    refine rx_iadd dX0_begin_25 ?_
    rw [nI_1]
    refine rx_putI dX0_begin_26 flX0_13 (sC_97) rfl ?_
    exact rx_vret dX0_begin_29 rfl ⟨Nat.le_refl _, Nat.le_refl _⟩ ⟨rfl, rfl, ⟨hA.push, fun j h1 h2 => (upS_off _ _ _ _ h1).trans (upS_off _ _ _ _ h2), rfl⟩⟩
set_option maxRecDepth 20000 in
set_option maxHeartbeats 1000000 in
theorem c_run_Child (g : GG) {r : Nat} (i v x : Int32) (B : List Int32) (S : SS) (L : LL) (hA : AcR i v B S) (hB : B.length ≤ 99) : Ci g 1 mX2_running [.ref r, .ref 97, .int x] SHC S L (fun r S' L' => r = ((x + i, [(10 : Int32)])).1 ∧ AcR i v (B ++ ((x + i, [(10 : Int32)])).2) S' ∧ AcF S S' ∧ L' = L) := by
  refine ct_of (ls := [some (.ref r), some (.ref 97), some (.int x)]) 0 (by decide +kernel) rfl rfl ?_
  refine rx_aload_n dX2_running_0 rfl ?_
  refine rx_bipush (10) dX2_running_1 (by decide) ?_
  refine rx_cVv_1 clX2_13 dX2_running_3 (rcvo (sC_97) rfl) rfl (c_begin g i v B 10 S L hA (by omega)) ?_
  rintro S1 L1 ⟨hA1, hF1, hL1⟩
  rw [hL1]
  have hl1 : (B ++ [10]).length = B.length + 1 := by rw [List.length_append]; rfl
  refine rx_iload_n dX2_running_6 rfl ?_
  refine rx_aload_n dX2_running_7 rfl ?_
  refine rx_getI dX2_running_8 flX2_19 (sC_97) rfl ?_
  rw [hA1.2.1]
  refine rx_iadd dX2_running_11 ?_
  exact rx_iret dX2_running_12 rfl ⟨Nat.le_refl _, Nat.le_refl _⟩ ⟨rfl, _, rfl, ⟨rfl, hA1, hF1, rfl⟩⟩
set_option maxRecDepth 20000 in
set_option maxHeartbeats 1000000 in
theorem c_run_Steady (g : GG) {r ci N : Nat} {fs : List (Nat × Nat × Nat)} {Cn : String} {T : u_T} (hv : SHC[r]? = some (0, ci, fs)) (hv2 : vwCl[ci]? = some (Cn, T, N)) (i v x : Int32) (B : List Int32) (S : SS) (L : LL) (hA : AcR i v B S) (hB : B.length ≤ 98) : Ci g 2 mX7_running [.ref r, .ref 97, .int x] SHC S L (fun r S' L' => r = ((x * 3 + i, [(30 : Int32), 10])).1 ∧ AcR i v (B ++ ((x * 3 + i, [(30 : Int32), 10])).2) S' ∧ AcF S S' ∧ L' = L) := by
  refine ct_of (ls := [some (.ref r), some (.ref 97), some (.int x)]) 0 (by decide +kernel) rfl rfl ?_
  refine rx_aload_n dX7_running_0 rfl ?_
  refine rx_bipush (30) dX7_running_1 (by decide) ?_
  refine rx_cVv_1 clX7_17 dX7_running_3 (rcvo (sC_97) rfl) rfl (c_begin g i v B 30 S L hA (by omega)) ?_
  rintro S1 L1 ⟨hA1, hF1, hL1⟩
  rw [hL1]
  have hl1 : (B ++ [30]).length = B.length + 1 := by rw [List.length_append]; rfl
  refine rx_aload_n dX7_running_6 rfl ?_
  refine rx_aload_n dX7_running_7 rfl ?_
  refine rx_iload_n dX7_running_8 rfl ?_
  refine rx_iconst (3) dX7_running_9 (by decide) ?_
  refine rx_imul dX7_running_10 ?_
  refine rx_cUi_2 cuX7_23 dX7_running_11 (hv) hv2 rfl (c_run_Child g i v (x * 3) (B ++ [30]) S1 L hA1 (by omega)) ?_
  rintro x2 S2 L2 ⟨hx2, hA2, hF2, hL2⟩
  rw [hL2, hx2]
  rw [List.append_assoc] at hA2
  exact rx_iret dX7_running_14 rfl ⟨Nat.le_refl _, Nat.le_refl _⟩ ⟨rfl, _, rfl, ⟨rfl, hA2, hF1.trans hF2, rfl⟩⟩
set_option maxRecDepth 20000 in
set_option maxHeartbeats 1000000 in
theorem c_run_Reckless (g : GG) {r ci N : Nat} {fs : List (Nat × Nat × Nat)} {Cn : String} {T : u_T} (hv : SHC[r]? = some (0, ci, fs)) (hv2 : vwCl[ci]? = some (Cn, T, N)) (i v x : Int32) (B : List Int32) (S : SS) (L : LL) (hA : AcR i v B S) (hB : B.length ≤ 98) : Ci g 2 mX4_running [.ref r, .ref 97, .int x] SHC S L (fun r S' L' => r = ((-(x + i), [(50 : Int32), 10])).1 ∧ AcR i v (B ++ ((-(x + i), [(50 : Int32), 10])).2) S' ∧ AcF S S' ∧ L' = L) := by
  refine ct_of (ls := [some (.ref r), some (.ref 97), some (.int x)]) 0 (by decide +kernel) rfl rfl ?_
  refine rx_aload_n dX4_running_0 rfl ?_
  refine rx_bipush (50) dX4_running_1 (by decide) ?_
  refine rx_cVv_1 clX4_15 dX4_running_3 (rcvo (sC_97) rfl) rfl (c_begin g i v B 50 S L hA (by omega)) ?_
  rintro S1 L1 ⟨hA1, hF1, hL1⟩
  rw [hL1]
  have hl1 : (B ++ [50]).length = B.length + 1 := by rw [List.length_append]; rfl
  refine rx_aload_n dX4_running_6 rfl ?_
  refine rx_aload_n dX4_running_7 rfl ?_
  refine rx_iload_n dX4_running_8 rfl ?_
  refine rx_cUi_2 cuX4_21 dX4_running_9 (hv) hv2 rfl (c_run_Child g i v x (B ++ [50]) S1 L hA1 (by omega)) ?_
  rintro x2 S2 L2 ⟨hx2, hA2, hF2, hL2⟩
  rw [hL2, hx2]
  rw [List.append_assoc] at hA2
  refine rx_ineg dX4_running_12 ?_
  exact rx_iret dX4_running_13 rfl ⟨Nat.le_refl _, Nat.le_refl _⟩ ⟨rfl, _, rfl, ⟨rfl, hA2, hF1.trans hF2, rfl⟩⟩
set_option maxRecDepth 20000 in
set_option maxHeartbeats 1000000 in
theorem c_run_Told (g : GG) {r ci N : Nat} {fs : List (Nat × Nat × Nat)} {Cn : String} {T : u_T} (hv : SHC[r]? = some (0, ci, fs)) (hv2 : vwCl[ci]? = some (Cn, T, N)) (i v x : Int32) (B : List Int32) (S : SS) (L : LL) (hA : AcR i v B S) (hB : B.length ≤ 98) : Ci g 2 mX8_running [.ref r, .ref 97, .int x] SHC S L (fun r S' L' => r = (((x + i) ^^^ v, [(71 : Int32), 10])).1 ∧ AcR i v (B ++ (((x + i) ^^^ v, [(71 : Int32), 10])).2) S' ∧ AcF S S' ∧ L' = L) := by
  refine ct_of (ls := [some (.ref r), some (.ref 97), some (.int x)]) 0 (by decide +kernel) rfl rfl ?_
  refine rx_aload_n dX8_running_0 rfl ?_
  refine rx_bipush (71) dX8_running_1 (by decide) ?_
  refine rx_cVv_1 clX8_11 dX8_running_3 (rcvo (sC_97) rfl) rfl (c_begin g i v B 71 S L hA (by omega)) ?_
  rintro S1 L1 ⟨hA1, hF1, hL1⟩
  rw [hL1]
  have hl1 : (B ++ [71]).length = B.length + 1 := by rw [List.length_append]; rfl
  refine rx_aload_n dX8_running_6 rfl ?_
  refine rx_aload_n dX8_running_7 rfl ?_
  refine rx_iload_n dX8_running_8 rfl ?_
  refine rx_cUi_2 cuX8_17 dX8_running_9 (hv) hv2 rfl (c_run_Child g i v x (B ++ [71]) S1 L hA1 (by omega)) ?_
  rintro x2 S2 L2 ⟨hx2, hA2, hF2, hL2⟩
  rw [hL2, hx2]
  rw [List.append_assoc] at hA2
  refine rx_aload_n dX8_running_12 rfl ?_
  refine rx_getI dX8_running_13 flX8_21 (sC_97) rfl ?_
  rw [hA2.2.2.1]
  refine rx_ixor dX8_running_16 ?_
  exact rx_iret dX8_running_17 rfl ⟨Nat.le_refl _, Nat.le_refl _⟩ ⟨rfl, _, rfl, ⟨rfl, hA2, hF1.trans hF2, rfl⟩⟩
theorem sd_run (g : GG) {n0 : Nat} {Q : Option Value → List CS → SS → LL → Prop} {ls : List (Option Value)} {S : SS} {L : LL} {k : Nat} (hk : k < 7) {i v x : Int32} {B : List Int32} (hA : AcR i v B S) (hB : B.length ≤ 98) {rest : List Value} (hz : (rest.map fun v => v.category).sum ≤ 4) (kk : ∀ r S' L', (r = (runT k i v x).1 ∧ AcR i v (B ++ (runT k i v x).2) S' ∧ AcF S S' ∧ L' = L) → Rx g 3 0 0 mX2_standing n0 Q 0 0 12 ls (.int r :: rest) SHC S' L') : Rx g 3 0 0 mX2_standing n0 Q 0 0 9 ls (.int x :: .ref 97 :: .ref (2 + k) :: rest) SHC S L := by
  have hz8 : Nat.ble (rest.map fun v => v.category).sum 8 = true := Nat.ble_eq.mpr (by omega)
  rcases y7 hk with rfl | rfl | rfl | rfl | rfl | rfl | rfl
  · exact rx_cVi_2 clX2_23_X2 dX2_standing_9 (rcvo sC_2 rfl) (by rw [hz8]; rfl) (c_run_Child g i v x B S L hA (by omega)) kk
  · exact rx_cVi_2 clX2_23_X3 dX2_standing_9 (rcvo sC_3 rfl) (by rw [hz8]; rfl) (c_run_Child g i v x B S L hA (by omega)) kk
  · exact rx_cVi_2 clX2_23_X7 dX2_standing_9 (rcvo sC_4 rfl) (by rw [hz8]; rfl) (c_run_Steady g sC_4 rfl i v x B S L hA (by omega)) kk
  · exact rx_cVi_2 clX2_23_X6 dX2_standing_9 (rcvo sC_5 rfl) (by rw [hz8]; rfl) (c_run_Child g i v x B S L hA (by omega)) kk
  · exact rx_cVi_2 clX2_23_X4 dX2_standing_9 (rcvo sC_6 rfl) (by rw [hz8]; rfl) (c_run_Reckless g sC_6 rfl i v x B S L hA (by omega)) kk
  · exact rx_cVi_2 clX2_23_X1 dX2_standing_9 (rcvo sC_7 rfl) (by rw [hz8]; rfl) (c_run_Steady g sC_7 rfl i v x B S L hA (by omega)) kk
  · exact rx_cVi_2 clX2_23_X8 dX2_standing_9 (rcvo sC_8 rfl) (by rw [hz8]; rfl) (c_run_Told g sC_8 rfl i v x B S L hA (by omega)) kk
set_option maxRecDepth 20000 in
set_option maxHeartbeats 1000000 in
theorem c_stB (g : GG) {k : Nat} (hk : k < 7) (i v x : Int32) (B : List Int32) (S : SS) (L : LL) (hA : AcR i v B S) (hB : B.length ≤ 97) : Ci g 3 mX2_standing [.ref (2 + k), .ref 97, .int x] SHC S L (fun r S' L' => r = (stB k i v x).1 ∧ AcR i v (B ++ (stB k i v x).2) S' ∧ AcF S S' ∧ L' = L) := by
  refine ct_of (ls := [some (.ref (2 + k)), some (.ref 97), some (.int x)]) 0 (by decide +kernel) rfl rfl ?_
  refine rx_aload_n dX2_standing_0 rfl ?_
  refine rx_bipush (11) dX2_standing_1 (by decide) ?_
  refine rx_cVv_1 clX2_13 dX2_standing_3 (rcvo (sC_97) rfl) rfl (c_begin g i v B 11 S L hA (by omega)) ?_
  rintro S1 L1 ⟨hA1, hF1, hL1⟩
  rw [hL1]
  have hl1 : (B ++ [11]).length = B.length + 1 := by rw [List.length_append]; rfl
  refine rx_aload_n dX2_standing_6 rfl ?_
  refine rx_aload_n dX2_standing_7 rfl ?_
  refine rx_iload_n dX2_standing_8 rfl ?_
  refine sd_run g hk hA1 (by omega) (by decide) ?_
  rintro x2 S2 L2 ⟨hx2, hA2, hF2, hL2⟩
  rw [hL2, hx2]
  rw [List.append_assoc] at hA2
  refine rx_aload_n dX2_standing_12 rfl ?_
  refine rx_getI dX2_standing_13 flX2_29 (sC_97) rfl ?_
  rw [hA2.2.2.1]
  refine rx_isub dX2_standing_16 ?_
  exact rx_iret dX2_standing_17 rfl ⟨Nat.le_refl _, Nat.le_refl _⟩ ⟨rfl, _, rfl, ⟨rfl, hA2, hF1.trans hF2, rfl⟩⟩
set_option maxRecDepth 20000 in
set_option maxHeartbeats 1000000 in
theorem c_sta_Quick (g : GG) {k ci N : Nat} {fs : List (Nat × Nat × Nat)} {Cn : String} {T : u_T} (hk : k < 7) (hv : SHC[2 + k]? = some (0, ci, fs)) (hv2 : vwCl[ci]? = some (Cn, T, N)) (i v x : Int32) (B : List Int32) (S : SS) (L : LL) (hA : AcR i v B S) (hB : B.length ≤ 96) : Ci g 4 mX3_standing [.ref (2 + k), .ref 97, .int x] SHC S L (fun r S' L' => r = (((stB k i v x).1 ^^^ 6, (20 : Int32) :: (stB k i v x).2)).1 ∧ AcR i v (B ++ (((stB k i v x).1 ^^^ 6, (20 : Int32) :: (stB k i v x).2)).2) S' ∧ AcF S S' ∧ L' = L) := by
  refine ct_of (ls := [some (.ref (2 + k)), some (.ref 97), some (.int x)]) 0 (by decide +kernel) rfl rfl ?_
  refine rx_aload_n dX3_standing_0 rfl ?_
  refine rx_bipush (20) dX3_standing_1 (by decide) ?_
  refine rx_cVv_1 clX3_11 dX3_standing_3 (rcvo (sC_97) rfl) rfl (c_begin g i v B 20 S L hA (by omega)) ?_
  rintro S1 L1 ⟨hA1, hF1, hL1⟩
  rw [hL1]
  have hl1 : (B ++ [20]).length = B.length + 1 := by rw [List.length_append]; rfl
  refine rx_aload_n dX3_standing_6 rfl ?_
  refine rx_aload_n dX3_standing_7 rfl ?_
  refine rx_iload_n dX3_standing_8 rfl ?_
  refine rx_cUi_2 cuX3_17 dX3_standing_9 (hv) hv2 rfl (c_stB g hk i v x (B ++ [20]) S1 L hA1 (by omega)) ?_
  rintro x2 S2 L2 ⟨hx2, hA2, hF2, hL2⟩
  rw [hL2, hx2]
  rw [List.append_assoc] at hA2
  refine rx_bipush (6) dX3_standing_12 (by decide) ?_
  refine rx_ixor dX3_standing_14 ?_
  exact rx_iret dX3_standing_15 rfl ⟨Nat.le_refl _, Nat.le_refl _⟩ ⟨rfl, _, rfl, ⟨rfl, hA2, hF1.trans hF2, rfl⟩⟩
set_option maxRecDepth 20000 in
set_option maxHeartbeats 1000000 in
theorem c_sta_Reckless (g : GG) (i v x : Int32) (B : List Int32) (S : SS) (L : LL) (hA : AcR i v B S) (hB : B.length ≤ 95) : Ci g 5 mX4_standing [.ref 6, .ref 97, .int x] SHC S L (fun r S' L' => r = (staT 4 i v x).1 ∧ AcR i v (B ++ (staT 4 i v x).2) S' ∧ AcF S S' ∧ L' = L) := by
  refine ct_of (ls := [some (.ref 6), some (.ref 97), some (.int x)]) 0 (by decide +kernel) rfl rfl ?_
  refine rx_aload_n dX4_standing_0 rfl ?_
  refine rx_bipush (51) dX4_standing_1 (by decide) ?_
  refine rx_cVv_1 clX4_15 dX4_standing_3 (rcvo (sC_97) rfl) rfl (c_begin g i v B 51 S L hA (by omega)) ?_
  rintro S1 L1 ⟨hA1, hF1, hL1⟩
  rw [hL1]
  have hl1 : (B ++ [51]).length = B.length + 1 := by rw [List.length_append]; rfl
  refine rx_aload_n dX4_standing_6 rfl ?_
  refine rx_aload_n dX4_standing_7 rfl ?_
  refine rx_iload_n dX4_standing_8 rfl ?_
  refine rx_iconst (1) dX4_standing_9 (by decide) ?_
  refine rx_iadd dX4_standing_10 ?_
  refine rx_cUi_2 cuX4_25 dX4_standing_11 (sC_6) rfl rfl (c_sta_Quick g (k := 4) (by omega) sC_6 rfl i v (x + 1) (B ++ [51]) S1 L hA1 (by omega)) ?_
  rintro x2 S2 L2 ⟨hx2, hA2, hF2, hL2⟩
  rw [hL2, hx2]
  rw [List.append_assoc] at hA2
  exact rx_iret dX4_standing_14 rfl ⟨Nat.le_refl _, Nat.le_refl _⟩ ⟨rfl, _, rfl, ⟨rfl, hA2, hF1.trans hF2, rfl⟩⟩
set_option maxRecDepth 20000 in
set_option maxHeartbeats 1000000 in
theorem c_sta_Told (g : GG) (i v x : Int32) (B : List Int32) (S : SS) (L : LL) (hA : AcR i v B S) (hB : B.length ≤ 90) : Ci g 4 mX8_standing [.ref 8, .ref 97, .int x] SHC S L (fun r S' L' => r = (staT 6 i v x).1 ∧ AcR i v (B ++ (staT 6 i v x).2) S' ∧ AcF S S' ∧ L' = L) := by
  refine ct_of (ls := [some (.ref 8), some (.ref 97), some (.int x)]) 0 (by decide +kernel) rfl rfl ?_
  refine rx_aload_n dX8_standing_0 rfl ?_
  refine rx_bipush (70) dX8_standing_1 (by decide) ?_
  refine rx_cVv_1 clX8_11 dX8_standing_3 (rcvo (sC_97) rfl) rfl (c_begin g i v B 70 S L hA (by omega)) ?_
  rintro S1 L1 ⟨hA1, hF1, hL1⟩
  rw [hL1]
  have hl1 : (B ++ [70]).length = B.length + 1 := by rw [List.length_append]; rfl
  refine rx_aload_n dX8_standing_6 rfl ?_
  refine rx_aload_n dX8_standing_7 rfl ?_
  refine rx_iload_n dX8_standing_8 rfl ?_
  refine rx_cUi_2 cuX8_25 dX8_standing_9 (sC_8) rfl rfl (c_stB g (k := 6) (by omega) i v x (B ++ [70]) S1 L hA1 (by omega)) ?_
  rintro x2 S2 L2 ⟨hx2, hA2, hF2, hL2⟩
  rw [hL2, hx2]
  have hl2 : (B ++ [70] ++ (stB 6 i v x).2).length = B.length + 4 := by rw [List.length_append, List.length_append]; rfl
  refine rx_aload_n dX8_standing_12 rfl ?_
  refine rx_aload_n dX8_standing_13 rfl ?_
  refine rx_iconst (2) dX8_standing_14 (by decide) ?_
  refine rx_cUi_2 cuX8_17 dX8_standing_15 (sC_8) rfl rfl (c_run_Child g i v 2 (B ++ [70] ++ (stB 6 i v x).2) S2 L hA2 (by omega)) ?_
  rintro x3 S3 L3 ⟨hx3, hA3, hF3, hL3⟩
  rw [hL3, hx3]
  rw [List.append_assoc, List.append_assoc] at hA3
  refine rx_iadd dX8_standing_18 ?_
  exact rx_iret dX8_standing_19 rfl ⟨Nat.le_refl _, Nat.le_refl _⟩ ⟨rfl, _, rfl, ⟨rfl, hA3, (hF1.trans hF2).trans hF3, rfl⟩⟩
theorem td_sta (g : GG) {n0 : Nat} {Q : Option Value → List CS → SS → LL → Prop} {ls : List (Option Value)} {S : SS} {L : LL} {k : Nat} (hk : k < 7) {i v x : Int32} {B : List Int32} (hA : AcR i v B S) (hB : B.length ≤ 90) {rest : List Value} (hz : (rest.map fun v => v.category).sum ≤ 4) (kk : ∀ r S' L', (r = (staT k i v x).1 ∧ AcR i v (B ++ (staT k i v x).2) S' ∧ AcF S S' ∧ L' = L) → Rx g 6 0 0 mX2_telling n0 Q 0 0 12 ls (.int r :: rest) SHC S' L') : Rx g 6 0 0 mX2_telling n0 Q 0 0 9 ls (.int x :: .ref 97 :: .ref (2 + k) :: rest) SHC S L := by
  have hz8 : Nat.ble (rest.map fun v => v.category).sum 8 = true := Nat.ble_eq.mpr (by omega)
  rcases y7 hk with rfl | rfl | rfl | rfl | rfl | rfl | rfl
  · exact rx_cVi_2 clX2_32_X2 dX2_telling_9 (rcvo sC_2 rfl) (by rw [hz8]; rfl) (c_stB g (k := 0) (by omega) i v x B S L hA (by omega)) kk
  · exact rx_cVi_2 clX2_32_X3 dX2_telling_9 (rcvo sC_3 rfl) (by rw [hz8]; rfl) (c_sta_Quick g (k := 1) (by omega) sC_3 rfl i v x B S L hA (by omega)) kk
  · exact rx_cVi_2 clX2_32_X7 dX2_telling_9 (rcvo sC_4 rfl) (by rw [hz8]; rfl) (c_stB g (k := 2) (by omega) i v x B S L hA (by omega)) kk
  · exact rx_cVi_2 clX2_32_X6 dX2_telling_9 (rcvo sC_5 rfl) (by rw [hz8]; rfl) (c_stB g (k := 3) (by omega) i v x B S L hA (by omega)) kk
  · exact rx_cVi_2 clX2_32_X4 dX2_telling_9 (rcvo sC_6 rfl) (by rw [hz8]; rfl) (c_sta_Reckless g i v x B S L hA (by omega)) kk
  · exact rx_cVi_2 clX2_32_X1 dX2_telling_9 (rcvo sC_7 rfl) (by rw [hz8]; rfl) (c_stB g (k := 5) (by omega) i v x B S L hA (by omega)) kk
  · exact rx_cVi_2 clX2_32_X8 dX2_telling_9 (rcvo sC_8 rfl) (by rw [hz8]; rfl) (c_sta_Told g i v x B S L hA (by omega)) kk
set_option maxRecDepth 20000 in
set_option maxHeartbeats 1000000 in
theorem c_telB (g : GG) {k : Nat} (hk : k < 7) (i v x : Int32) (B : List Int32) (S : SS) (L : LL) (hA : AcR i v B S) (hB : B.length ≤ 80) : Ci g 6 mX2_telling [.ref (2 + k), .ref 97, .int x] SHC S L (fun r S' L' => r = (telB k i v x).1 ∧ AcR i v (B ++ (telB k i v x).2) S' ∧ AcF S S' ∧ L' = L) := by
  refine ct_of (ls := [some (.ref (2 + k)), some (.ref 97), some (.int x)]) 0 (by decide +kernel) rfl rfl ?_
  refine rx_aload_n dX2_telling_0 rfl ?_
  refine rx_bipush (12) dX2_telling_1 (by decide) ?_
  refine rx_cVv_1 clX2_13 dX2_telling_3 (rcvo (sC_97) rfl) rfl (c_begin g i v B 12 S L hA (by omega)) ?_
  rintro S1 L1 ⟨hA1, hF1, hL1⟩
  rw [hL1]
  have hl1 : (B ++ [12]).length = B.length + 1 := by rw [List.length_append]; rfl
  refine rx_aload_n dX2_telling_6 rfl ?_
  refine rx_aload_n dX2_telling_7 rfl ?_
  refine rx_iload_n dX2_telling_8 rfl ?_
  refine td_sta g hk hA1 (by omega) (by decide) ?_
  rintro x2 S2 L2 ⟨hx2, hA2, hF2, hL2⟩
  rw [hL2, hx2]
  rw [List.append_assoc] at hA2
  refine rx_iconst (2) dX2_telling_12 (by decide) ?_
  refine rx_imul dX2_telling_13 ?_
  exact rx_iret dX2_telling_14 rfl ⟨Nat.le_refl _, Nat.le_refl _⟩ ⟨rfl, _, rfl, ⟨rfl, hA2, hF1.trans hF2, rfl⟩⟩
set_option maxRecDepth 20000 in
set_option maxHeartbeats 1000000 in
theorem c_tel_Small (g : GG) (i v x : Int32) (B : List Int32) (S : SS) (L : LL) (hA : AcR i v B S) (hB : B.length ≤ 60) : Ci g 7 mX6_telling [.ref 5, .ref 97, .int x] SHC S L (fun r S' L' => r = (telT 3 i v x).1 ∧ AcR i v (B ++ (telT 3 i v x).2) S' ∧ AcF S S' ∧ L' = L) := by
  refine ct_of (ls := [some (.ref 5), some (.ref 97), some (.int x)]) 0 (by decide +kernel) rfl rfl ?_
  refine rx_aload_n dX6_telling_0 rfl ?_
  refine rx_bipush (40) dX6_telling_1 (by decide) ?_
  refine rx_cVv_1 clX6_17 dX6_telling_3 (rcvo (sC_97) rfl) rfl (c_begin g i v B 40 S L hA (by omega)) ?_
  rintro S1 L1 ⟨hA1, hF1, hL1⟩
  rw [hL1]
  have hl1 : (B ++ [40]).length = B.length + 1 := by rw [List.length_append]; rfl
  refine rx_aload_n dX6_telling_6 rfl ?_
  refine rx_aload_n dX6_telling_7 rfl ?_
  refine rx_iload_n dX6_telling_8 rfl ?_
  refine rx_cUi_2 cuX6_23 dX6_telling_9 (sC_5) rfl rfl (c_telB g (k := 3) (by omega) i v x (B ++ [40]) S1 L hA1 (by omega)) ?_
  rintro x2 S2 L2 ⟨hx2, hA2, hF2, hL2⟩
  rw [hL2, hx2]
  have hl2 : (B ++ [40] ++ (telB 3 i v x).2).length = B.length + 4 := by rw [List.length_append, List.length_append]; rfl
  refine rx_aload_n dX6_telling_12 rfl ?_
  refine rx_aload_n dX6_telling_13 rfl ?_
  refine rx_iconst (1) dX6_telling_14 (by decide) ?_
  refine rx_cVi_2 clX6_27_X6 dX6_telling_15 (rcvo (sC_5) rfl) rfl (c_stB g (k := 3) (by omega) i v 1 (B ++ [40] ++ (telB 3 i v x).2) S2 L hA2 (by omega)) ?_
  rintro x3 S3 L3 ⟨hx3, hA3, hF3, hL3⟩
  rw [hL3, hx3]
  rw [List.append_assoc, List.append_assoc] at hA3
  refine rx_iadd dX6_telling_18 ?_
  exact rx_iret dX6_telling_19 rfl ⟨Nat.le_refl _, Nat.le_refl _⟩ ⟨rfl, _, rfl, ⟨rfl, hA3, (hF1.trans hF2).trans hF3, rfl⟩⟩
set_option maxRecDepth 20000 in
set_option maxHeartbeats 1000000 in
theorem c_tel_Told (g : GG) (i v x : Int32) (B : List Int32) (S : SS) (L : LL) (hA : AcR i v B S) (hB : B.length ≤ 60) : Ci g 7 mX6_telling [.ref 8, .ref 97, .int x] SHC S L (fun r S' L' => r = (telT 6 i v x).1 ∧ AcR i v (B ++ (telT 6 i v x).2) S' ∧ AcF S S' ∧ L' = L) := by
  refine ct_of (ls := [some (.ref 8), some (.ref 97), some (.int x)]) 0 (by decide +kernel) rfl rfl ?_
  refine rx_aload_n dX6_telling_0 rfl ?_
  refine rx_bipush (40) dX6_telling_1 (by decide) ?_
  refine rx_cVv_1 clX6_17 dX6_telling_3 (rcvo (sC_97) rfl) rfl (c_begin g i v B 40 S L hA (by omega)) ?_
  rintro S1 L1 ⟨hA1, hF1, hL1⟩
  rw [hL1]
  have hl1 : (B ++ [40]).length = B.length + 1 := by rw [List.length_append]; rfl
  refine rx_aload_n dX6_telling_6 rfl ?_
  refine rx_aload_n dX6_telling_7 rfl ?_
  refine rx_iload_n dX6_telling_8 rfl ?_
  refine rx_cUi_2 cuX6_23 dX6_telling_9 (sC_8) rfl rfl (c_telB g (k := 6) (by omega) i v x (B ++ [40]) S1 L hA1 (by omega)) ?_
  rintro x2 S2 L2 ⟨hx2, hA2, hF2, hL2⟩
  rw [hL2, hx2]
  have hl2 : (B ++ [40] ++ (telB 6 i v x).2).length = B.length + 7 := by rw [List.length_append, List.length_append]; rfl
  refine rx_aload_n dX6_telling_12 rfl ?_
  refine rx_aload_n dX6_telling_13 rfl ?_
  refine rx_iconst (1) dX6_telling_14 (by decide) ?_
  refine rx_cVi_2 clX6_27_X8 dX6_telling_15 (rcvo (sC_8) rfl) rfl (c_sta_Told g i v 1 (B ++ [40] ++ (telB 6 i v x).2) S2 L hA2 (by omega)) ?_
  rintro x3 S3 L3 ⟨hx3, hA3, hF3, hL3⟩
  rw [hL3, hx3]
  rw [List.append_assoc, List.append_assoc] at hA3
  refine rx_iadd dX6_telling_18 ?_
  exact rx_iret dX6_telling_19 rfl ⟨Nat.le_refl _, Nat.le_refl _⟩ ⟨rfl, _, rfl, ⟨rfl, hA3, (hF1.trans hF2).trans hF3, rfl⟩⟩
set_option maxRecDepth 20000 in
set_option maxHeartbeats 1000000 in
theorem c_tel_Careful (g : GG) (i v x : Int32) (B : List Int32) (S : SS) (L : LL) (hA : AcR i v B S) (hB : B.length ≤ 60) : Ci g 7 mX1_telling [.ref 7, .ref 97, .int x] SHC S L (fun r S' L' => r = (telT 5 i v x).1 ∧ AcR i v (B ++ (telT 5 i v x).2) S' ∧ AcF S S' ∧ L' = L) := by
  refine ct_of (ls := [some (.ref 7), some (.ref 97), some (.int x)]) 0 (by decide +kernel) rfl rfl ?_
  refine rx_aload_n dX1_telling_0 rfl ?_
  refine rx_bipush (60) dX1_telling_1 (by decide) ?_
  refine rx_cVv_1 clX1_15 dX1_telling_3 (rcvo (sC_97) rfl) rfl (c_begin g i v B 60 S L hA (by omega)) ?_
  rintro S1 L1 ⟨hA1, hF1, hL1⟩
  rw [hL1]
  have hl1 : (B ++ [60]).length = B.length + 1 := by rw [List.length_append]; rfl
  refine rx_aload_n dX1_telling_6 rfl ?_
  refine rx_aload_n dX1_telling_7 rfl ?_
  refine rx_iload_n dX1_telling_8 rfl ?_
  refine rx_aload_n dX1_telling_9 rfl ?_
  refine rx_getI dX1_telling_10 flX1_21 (sC_97) rfl ?_
  rw [hA1.2.1]
  refine rx_isub dX1_telling_13 ?_
  refine rx_cUi_2 cuX1_25 dX1_telling_14 (sC_7) rfl rfl (c_telB g (k := 5) (by omega) i v (x - i) (B ++ [60]) S1 L hA1 (by omega)) ?_
  rintro x2 S2 L2 ⟨hx2, hA2, hF2, hL2⟩
  rw [hL2, hx2]
  rw [List.append_assoc] at hA2
  exact rx_iret dX1_telling_17 rfl ⟨Nat.le_refl _, Nat.le_refl _⟩ ⟨rfl, _, rfl, ⟨rfl, hA2, hF1.trans hF2, rfl⟩⟩
theorem ac_run (g : GG) {n0 : Nat} {Q : Option Value → List CS → SS → LL → Prop} {ls : List (Option Value)} {S : SS} {L : LL} {k : Nat} (hk : k < 7) {i v x : Int32} {B : List Int32} (hA : AcR i v B S) (hB : B.length ≤ 50) {rest : List Value} (hz : (rest.map fun v => v.category).sum ≤ 4) (kk : ∀ r S' L', (r = (runT k i v x).1 ∧ AcR i v (B ++ (runT k i v x).2) S' ∧ AcF S S' ∧ L' = L) → Rx g 8 0 0 mX11_act n0 Q 0 0 98 ls (.int r :: rest) SHC S' L') : Rx g 8 0 0 mX11_act n0 Q 0 0 95 ls (.int x :: .ref 97 :: .ref (2 + k) :: rest) SHC S L := by
  have hz8 : Nat.ble (rest.map fun v => v.category).sum 8 = true := Nat.ble_eq.mpr (by omega)
  rcases y7 hk with rfl | rfl | rfl | rfl | rfl | rfl | rfl
  · exact rx_cVi_2 clX11_251_X2 dX11_act_95 (rcvo sC_2 rfl) (by rw [hz8]; rfl) (c_run_Child g i v x B S L hA (by omega)) kk
  · exact rx_cVi_2 clX11_251_X3 dX11_act_95 (rcvo sC_3 rfl) (by rw [hz8]; rfl) (c_run_Child g i v x B S L hA (by omega)) kk
  · exact rx_cVi_2 clX11_251_X7 dX11_act_95 (rcvo sC_4 rfl) (by rw [hz8]; rfl) (c_run_Steady g sC_4 rfl i v x B S L hA (by omega)) kk
  · exact rx_cVi_2 clX11_251_X6 dX11_act_95 (rcvo sC_5 rfl) (by rw [hz8]; rfl) (c_run_Child g i v x B S L hA (by omega)) kk
  · exact rx_cVi_2 clX11_251_X4 dX11_act_95 (rcvo sC_6 rfl) (by rw [hz8]; rfl) (c_run_Reckless g sC_6 rfl i v x B S L hA (by omega)) kk
  · exact rx_cVi_2 clX11_251_X1 dX11_act_95 (rcvo sC_7 rfl) (by rw [hz8]; rfl) (c_run_Steady g sC_7 rfl i v x B S L hA (by omega)) kk
  · exact rx_cVi_2 clX11_251_X8 dX11_act_95 (rcvo sC_8 rfl) (by rw [hz8]; rfl) (c_run_Told g sC_8 rfl i v x B S L hA (by omega)) kk
theorem ac_sta (g : GG) {n0 : Nat} {Q : Option Value → List CS → SS → LL → Prop} {ls : List (Option Value)} {S : SS} {L : LL} {k : Nat} (hk : k < 7) {i v x : Int32} {B : List Int32} (hA : AcR i v B S) (hB : B.length ≤ 50) {rest : List Value} (hz : (rest.map fun v => v.category).sum ≤ 4) (kk : ∀ r S' L', (r = (staT k i v x).1 ∧ AcR i v (B ++ (staT k i v x).2) S' ∧ AcF S S' ∧ L' = L) → Rx g 8 0 0 mX11_act n0 Q 0 0 109 ls (.int r :: rest) SHC S' L') : Rx g 8 0 0 mX11_act n0 Q 0 0 106 ls (.int x :: .ref 97 :: .ref (2 + k) :: rest) SHC S L := by
  have hz8 : Nat.ble (rest.map fun v => v.category).sum 8 = true := Nat.ble_eq.mpr (by omega)
  rcases y7 hk with rfl | rfl | rfl | rfl | rfl | rfl | rfl
  · exact rx_cVi_2 clX11_255_X2 dX11_act_106 (rcvo sC_2 rfl) (by rw [hz8]; rfl) (c_stB g (k := 0) (by omega) i v x B S L hA (by omega)) kk
  · exact rx_cVi_2 clX11_255_X3 dX11_act_106 (rcvo sC_3 rfl) (by rw [hz8]; rfl) (c_sta_Quick g (k := 1) (by omega) sC_3 rfl i v x B S L hA (by omega)) kk
  · exact rx_cVi_2 clX11_255_X7 dX11_act_106 (rcvo sC_4 rfl) (by rw [hz8]; rfl) (c_stB g (k := 2) (by omega) i v x B S L hA (by omega)) kk
  · exact rx_cVi_2 clX11_255_X6 dX11_act_106 (rcvo sC_5 rfl) (by rw [hz8]; rfl) (c_stB g (k := 3) (by omega) i v x B S L hA (by omega)) kk
  · exact rx_cVi_2 clX11_255_X4 dX11_act_106 (rcvo sC_6 rfl) (by rw [hz8]; rfl) (c_sta_Reckless g i v x B S L hA (by omega)) kk
  · exact rx_cVi_2 clX11_255_X1 dX11_act_106 (rcvo sC_7 rfl) (by rw [hz8]; rfl) (c_stB g (k := 5) (by omega) i v x B S L hA (by omega)) kk
  · exact rx_cVi_2 clX11_255_X8 dX11_act_106 (rcvo sC_8 rfl) (by rw [hz8]; rfl) (c_sta_Told g i v x B S L hA (by omega)) kk
theorem ac_tel (g : GG) {n0 : Nat} {Q : Option Value → List CS → SS → LL → Prop} {ls : List (Option Value)} {S : SS} {L : LL} {k : Nat} (hk : k < 7) {i v x : Int32} {B : List Int32} (hA : AcR i v B S) (hB : B.length ≤ 50) {rest : List Value} (hz : (rest.map fun v => v.category).sum ≤ 4) (kk : ∀ r S' L', (r = (telT k i v x).1 ∧ AcR i v (B ++ (telT k i v x).2) S' ∧ AcF S S' ∧ L' = L) → Rx g 8 0 0 mX11_act n0 Q 0 0 120 ls (.int r :: rest) SHC S' L') : Rx g 8 0 0 mX11_act n0 Q 0 0 117 ls (.int x :: .ref 97 :: .ref (2 + k) :: rest) SHC S L := by
  have hz8 : Nat.ble (rest.map fun v => v.category).sum 8 = true := Nat.ble_eq.mpr (by omega)
  rcases y7 hk with rfl | rfl | rfl | rfl | rfl | rfl | rfl
  · exact rx_cVi_2 clX11_258_X2 dX11_act_117 (rcvo sC_2 rfl) (by rw [hz8]; rfl) (c_telB g (k := 0) (by omega) i v x B S L hA (by omega)) kk
  · exact rx_cVi_2 clX11_258_X3 dX11_act_117 (rcvo sC_3 rfl) (by rw [hz8]; rfl) (c_telB g (k := 1) (by omega) i v x B S L hA (by omega)) kk
  · exact rx_cVi_2 clX11_258_X7 dX11_act_117 (rcvo sC_4 rfl) (by rw [hz8]; rfl) (c_telB g (k := 2) (by omega) i v x B S L hA (by omega)) kk
  · exact rx_cVi_2 clX11_258_X6 dX11_act_117 (rcvo sC_5 rfl) (by rw [hz8]; rfl) (c_tel_Small g i v x B S L hA (by omega)) kk
  · exact rx_cVi_2 clX11_258_X4 dX11_act_117 (rcvo sC_6 rfl) (by rw [hz8]; rfl) (c_telB g (k := 4) (by omega) i v x B S L hA (by omega)) kk
  · exact rx_cVi_2 clX11_258_X1 dX11_act_117 (rcvo sC_7 rfl) (by rw [hz8]; rfl) (c_tel_Careful g i v x B S L hA (by omega)) kk
  · exact rx_cVi_2 clX11_258_X8 dX11_act_117 (rcvo sC_8 rfl) (by rw [hz8]; rfl) (c_tel_Told g i v x B S L hA (by omega)) kk
theorem runT_len : ∀ k, k < 7 → ∀ i v x, (runT k i v x).2.length ≤ 20 := fun k hk i v x => by rcases y7 hk with rfl | rfl | rfl | rfl | rfl | rfl | rfl <;> exact Nat.le_of_ble_eq_true rfl
theorem staT_len : ∀ k, k < 7 → ∀ i v x, (staT k i v x).2.length ≤ 20 := fun k hk i v x => by rcases y7 hk with rfl | rfl | rfl | rfl | rfl | rfl | rfl <;> exact Nat.le_of_ble_eq_true rfl
theorem telT_len : ∀ k, k < 7 → ∀ i v x, (telT k i v x).2.length ≤ 20 := fun k hk i v x => by rcases y7 hk with rfl | rfl | rfl | rfl | rfl | rfl | rfl <;> exact Nat.le_of_ble_eq_true rfl
def wAc (σ : SIG) (B : List Int32) : SIG := (σ.1, σ.2.1, σ.2.2.1, σ.2.2.2.1, σ.2.2.2.2.1, σ.2.2.2.2.2.1, B.length, fun k => B.getD k 0, σ.2.2.2.2.2.2.2.2)
theorem CRel.act {S S' : SS} {L : LL} {σ : SIG} (h : CRel S L σ) (B : List Int32) (hl : B.length ≤ 20) (hF : AcF S S') (h97 : S' 97 1 = nI B.length) (h98 : ∀ k, k < 20 → k < B.length → S' 98 k = B.getD k 0) : CRel S' L (wAc σ B) := by
  obtain ⟨⟨k0, k1, k2, k3, k4, k5, k6, k7, k8, k9⟩, h1, h2, h3, h4, h5, h6, h7, h8, h9, h10⟩ := h
  exact ⟨⟨k0, k1, k2, k3, k4, k5, k6, k7, by show B.length ≤ 100; omega, k9⟩, h1.off (fun j hj => hF j (by omega) (by omega)), fun e => (h2 e).off (fun j hj => hF j (by omega) (by omega)), by rw [hF 0 (by omega) (by omega)]; exact h3, by rw [hF 0 (by omega) (by omega)]; exact h4, fun y hy => (h5 y hy).off (by have : y ≤ gC σ := hy; omega) (fun j g1 g2 => hF j (by omega) (by omega)), by rw [hF 0 (by omega) (by omega)]; exact h6, fun i q hq => by rw [hF 9 (by omega) (by omega)]; exact h7 i q hq, h97, h98, fun t ht => by rw [hF 106 (by omega) (by omega), hF 107 (by omega) (by omega)]; exact h10 t ht⟩
def actT (a : Nat) (k : Nat) (i v x : Int32) : Int32 × List Int32 := match a with
  | 0 => runT k i v x
  | 1 => staT k i v x
  | _ => telT k i v x
def actQ (σ : SIG) (c a x : Int32) : Int32 × List Int32 := if ¬ (0 ≤ c ∧ c < nI (nN σ)) then (0, []) else if a.toInt < 0 ∨ 2 < a.toInt then (0, []) else actT a.toNatClampNeg (kN (gE σ) c.toNatClampNeg) c (eV (gE σ) c.toNatClampNeg) x
def aAct (σ : SIG) (c a x : Int32) : Int32 := (actQ σ c a x).1
def nAct (σ : SIG) (c a x : Int32) : SIG := wAc σ (actQ σ c a x).2

set_option maxRecDepth 20000 in
set_option maxHeartbeats 1000000 in
theorem cc_act (g : GG) (σ : SIG) (c a x : Int32) (S : SS) (L : LL) (hr : CRel S L σ) : Ci g 8 mX11_act [.ref 0, .int c, .int a, .int x] SHC S L (fun r S' L' => r = aAct σ c a x ∧ CRel S' L' (nAct σ c a x)) := by
  refine ct_of (ls := [some (.ref 0), some (.int c), some (.int a), some (.int x), none]) 1 (by decide +kernel) rfl rfl ?_
  refine rx_aload_n dX11_act_0 rfl ?_
  refine rx_getR dX11_act_1 flX11_76 (sC_0) rfl ?_
  refine rx_iconst (0) dX11_act_4 (by decide) ?_
  refine rx_putI dX11_act_5 flX11_243 (sC_97) rfl ?_
  refine rx_aload_n dX11_act_8 rfl ?_
  refine rx_getR dX11_act_9 flX11_54 (sC_0) rfl ?_
  refine rx_iload_n dX11_act_12 rfl ?_
  refine rx_cVi_1 clX11_104 dX11_act_13 (rcvo (sC_53) rfl) rfl (c_has g S53 _ _ L) ?_
  refine pur3 ?_
  rw [upS_off _ _ _ _ (by decide : (53 : Nat) ≠ 97), show S 53 6 = nI (nN σ) from hr.sc.1]
  refine rx_if_ne 21 dX11_act_16 (by decide) (fun h16 => ?_) (fun h16 => ?_)
  · have hq1 := b2i_ne h16
    have hn7 : nN σ ≤ 7 := hr.n7
    obtain ⟨c, hc, rfl⟩ := rngL (nN σ) (by omega) hq1.1 hq1.2
    have e1 : (nI c).toNatClampNeg = c := nI_clamp (by omega)
    have hvc : vp_in (nI c) 7 := vp_in_nI (by omega) (by omega)
    obtain ⟨k, hk, ek⟩ := hr.en.2.1 c hc
    have hkn : kN (gE σ) c = k := by unfold kN; rw [ek]; exact nI_clamp (by omega)
    have ekc : (nI k).toNatClampNeg = k := nI_clamp (by omega)
    have hvk : vp_in (nI k) 7 := vp_in_nI (by omega) (by omega)
    refine rx_aload_n dX11_act_21 rfl ?_
    refine rx_getR dX11_act_22 flX11_76 (sC_0) rfl ?_
    refine rx_iload_n dX11_act_25 rfl ?_
    refine rx_putI dX11_act_26 flX11_246 (sC_97) rfl ?_
    refine rx_aload_n dX11_act_29 rfl ?_
    refine rx_getR dX11_act_30 flX11_76 (sC_0) rfl ?_
    refine rx_aload_n dX11_act_33 rfl ?_
    refine rx_getR dX11_act_34 flX11_54 (sC_0) rfl ?_
    refine rx_getR dX11_act_37 flX11_115 (sC_53) rfl ?_
    refine rx_iload_n dX11_act_40 rfl ?_
    refine rx_iaload dX11_act_41 (sC_55) hvc ?_
    simp (disch := omega) only [upS_off]
    rw [e1, show S 55 c = eV (gE σ) c from hr.sc.2.2.1 c (by omega)]
    refine rx_putI dX11_act_42 flX11_249 (sC_97) rfl ?_
    have hA0 : AcR (nI c) (eV (gE σ) c) [] (upS (upS (upS S 97 1 0) 97 2 (nI c)) 97 3 (eV (gE σ) c)) := ⟨by simp (disch := omega) only [upS_row, pk_un, pk_us]; rfl, by simp (disch := omega) only [upS_row, pk_un, pk_us], by simp (disch := omega) only [upS_row, pk_us], fun k _ q => absurd q (by simp)⟩
    have hF0 : AcF S (upS (upS (upS S 97 1 0) 97 2 (nI c)) 97 3 (eV (gE σ) c)) := fun j h1 _ => by simp (disch := omega) only [upS_off]
    generalize upS (upS (upS S 97 1 0) 97 2 (nI c)) 97 3 (eV (gE σ) c) = S1 at hA0 hF0 ⊢
    refine rx_aload_n dX11_act_45 rfl ?_
    refine rx_getR dX11_act_46 flX11_30 (sC_0) rfl ?_
    refine rx_aload_n dX11_act_49 rfl ?_
    refine rx_getR dX11_act_50 flX11_54 (sC_0) rfl ?_
    refine rx_getR dX11_act_53 flX11_112 (sC_53) rfl ?_
    refine rx_iload_n dX11_act_56 rfl ?_
    refine rx_iaload dX11_act_57 (sC_54) hvc ?_
    rw [e1, hF0 54 (by decide) (by decide), show S 54 c = eK (gE σ) c from hr.sc.2.1 c (by omega), ek]
    refine rx_aaload5 dX11_act_58 (sC_1) hvk (by rw [ekc]; exact kE hk) ?_
    refine rx_astore_4 rfl dX11_act_59 ?_
    refine rx_iload_n dX11_act_61 rfl ?_
    rcases swN 2 (by decide) a with hw | ⟨j, hj, rfl⟩
    · have hw : a.toInt < 0 ∨ 2 < a.toInt := hw
      refine rx_tableOut 121 dX11_act_62 hw (by decide) ?_
      refine rx_iconst (0) dX11_act_121 (by decide) ?_
      exact rx_iret dX11_act_122 rfl ⟨Nat.le_refl _, Nat.le_refl _⟩ ⟨rfl, _, rfl, ⟨by unfold aAct actQ; rw [if_neg (fun q => q hq1), if_pos hw], by unfold nAct actQ; rw [if_neg (fun q => q hq1), if_pos hw]; exact hr.act [] (by decide) hF0 hA0.1 (fun k _ q => absurd q (Nat.not_lt_zero k))⟩⟩
    · rcases (show j = 0 ∨ j = 1 ∨ j = 2 by omega) with rfl | rfl | rfl
      · refine rx_tableIn 88 dX11_act_62 (by decide) (by decide) (by rfl) (by decide) ?_
        refine rx_aload dX11_act_88 rfl ?_
        refine rx_aload_n dX11_act_90 rfl ?_
        refine rx_getR dX11_act_91 flX11_76 (sC_0) rfl ?_
        refine rx_iload_n dX11_act_94 rfl ?_
        refine ac_run g hk hA0 (by decide) (by decide) ?_
        rintro x2 S2 L2 ⟨hx2, hA2, hF2, hL2⟩
        rw [hL2, hx2]
        exact rx_iret dX11_act_98 rfl ⟨Nat.le_refl _, Nat.le_refl _⟩ ⟨rfl, _, rfl, ⟨by unfold aAct actQ; rw [if_neg (fun q => q hq1), if_neg (by decide), e1, hkn]; rfl, by unfold nAct actQ; rw [if_neg (fun q => q hq1), if_neg (by decide), e1, hkn]; exact hr.act (runT k (nI c) (eV (gE σ) c) x).2 (runT_len k hk _ _ _) (hF0.trans hF2) hA2.1 hA2.2.2.2⟩⟩
      · refine rx_tableIn 99 dX11_act_62 (by decide) (by decide) (by rfl) (by decide) ?_
        refine rx_aload dX11_act_99 rfl ?_
        refine rx_aload_n dX11_act_101 rfl ?_
        refine rx_getR dX11_act_102 flX11_76 (sC_0) rfl ?_
        refine rx_iload_n dX11_act_105 rfl ?_
        refine ac_sta g hk hA0 (by decide) (by decide) ?_
        rintro x2 S2 L2 ⟨hx2, hA2, hF2, hL2⟩
        rw [hL2, hx2]
        exact rx_iret dX11_act_109 rfl ⟨Nat.le_refl _, Nat.le_refl _⟩ ⟨rfl, _, rfl, ⟨by unfold aAct actQ; rw [if_neg (fun q => q hq1), if_neg (by decide), e1, hkn]; rfl, by unfold nAct actQ; rw [if_neg (fun q => q hq1), if_neg (by decide), e1, hkn]; exact hr.act (staT k (nI c) (eV (gE σ) c) x).2 (staT_len k hk _ _ _) (hF0.trans hF2) hA2.1 hA2.2.2.2⟩⟩
      · refine rx_tableIn 110 dX11_act_62 (by decide) (by decide) (by rfl) (by decide) ?_
        refine rx_aload dX11_act_110 rfl ?_
        refine rx_aload_n dX11_act_112 rfl ?_
        refine rx_getR dX11_act_113 flX11_76 (sC_0) rfl ?_
        refine rx_iload_n dX11_act_116 rfl ?_
        refine ac_tel g hk hA0 (by decide) (by decide) ?_
        rintro x2 S2 L2 ⟨hx2, hA2, hF2, hL2⟩
        rw [hL2, hx2]
        exact rx_iret dX11_act_120 rfl ⟨Nat.le_refl _, Nat.le_refl _⟩ ⟨rfl, _, rfl, ⟨by unfold aAct actQ; rw [if_neg (fun q => q hq1), if_neg (by decide), e1, hkn]; rfl, by unfold nAct actQ; rw [if_neg (fun q => q hq1), if_neg (by decide), e1, hkn]; exact hr.act (telT k (nI c) (eV (gE σ) c) x).2 (telT_len k hk _ _ _) (hF0.trans hF2) hA2.1 hA2.2.2.2⟩⟩
  · refine rx_iconst (0) dX11_act_19 (by decide) ?_
    exact rx_iret dX11_act_20 rfl ⟨Nat.le_refl _, Nat.le_refl _⟩ ⟨rfl, _, rfl, ⟨by unfold aAct actQ; rw [if_pos (b2i_eq h16)], by unfold nAct actQ; rw [if_pos (b2i_eq h16)]; exact hr.act [] (by decide) (fun j h1 _ => upS_off _ _ _ _ h1) (by rw [upS_at]; rfl) (fun k _ q => absurd q (Nat.not_lt_zero k))⟩⟩
