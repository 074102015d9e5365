-- KINDS, purely
def mx0 (n : Int32) : Int32 := if 0 < n then n else 0
def mn3 (n : Int32) : Int32 := if n < 3 then n else 3
def paceK (k : Nat) (v more : Int32) : Int32 := match k with
  | 0 => 2 + v / 3
  | 1 => 2 + v / 3 + 2
  | 2 => 2 + v / 3
  | 3 => 1 + v / 4
  | 4 => 2 * (2 + v / 3 + 2)
  | 5 => 2 + v / 3 - 1
  | _ => 1 + v / 4 + more
def wobB (early pace goes shake : Int32) : Int32 := if goes = 0 then 0 else mx0 (pace + shake - 2 * early)
def wobK (k : Nat) (v early pace goes shake : Int32) : Int32 := match k with
  | 0 => wobB early pace goes shake
  | 1 => wobB early pace goes shake
  | 2 => mx0 (wobB early pace goes shake - v)
  | 3 => mn3 (wobB early pace goes shake)
  | 4 => wobB early pace goes shake + 1
  | 5 => if 2 ≤ early then 0 else mx0 (wobB early pace goes shake - v)
  | _ => mn3 (wobB early pace goes shake)

set_option maxRecDepth 20000 in
set_option maxHeartbeats 1000000 in
theorem c_pace_Child (g : GG) {sh : List CS} {r : Nat} (v m : Int32) (S : SS) (L : LL) : Ci g 0 mX2_paceOf [.ref r, .int v, .int m] sh S L (fun r S' L' => r = paceK 0 v m ∧ S' = S ∧ L' = L) := by
  refine ct_of (ls := [some (.ref r), some (.int v), some (.int m)]) 0 (by decide +kernel) rfl rfl ?_
  refine rx_iconst (2) dX2_paceOf_0 (by decide) ?_
  refine rx_iload_n dX2_paceOf_1 rfl ?_
  refine rx_iconst (3) dX2_paceOf_2 (by decide) ?_
  refine rx_idiv dX2_paceOf_3 (by decide) ?_
  refine rx_iadd dX2_paceOf_4 ?_
  exact rx_iret dX2_paceOf_5 rfl ⟨Nat.le_refl _, Nat.le_refl _⟩ ⟨rfl, _, rfl, ⟨rfl, rfl, rfl⟩⟩
set_option maxRecDepth 20000 in
set_option maxHeartbeats 1000000 in
theorem c_pace_Small (g : GG) {sh : List CS} {r : Nat} (v m : Int32) (S : SS) (L : LL) : Ci g 0 mX6_paceOf [.ref r, .int v, .int m] sh S L (fun r S' L' => r = paceK 3 v m ∧ S' = S ∧ L' = L) := by
  refine ct_of (ls := [some (.ref r), some (.int v), some (.int m)]) 0 (by decide +kernel) rfl rfl ?_
  refine rx_iconst (1) dX6_paceOf_0 (by decide) ?_
  refine rx_iload_n dX6_paceOf_1 rfl ?_
  refine rx_iconst (4) dX6_paceOf_2 (by decide) ?_
  refine rx_idiv dX6_paceOf_3 (by decide) ?_
  refine rx_iadd dX6_paceOf_4 ?_
  exact rx_iret dX6_paceOf_5 rfl ⟨Nat.le_refl _, Nat.le_refl _⟩ ⟨rfl, _, rfl, ⟨rfl, rfl, rfl⟩⟩
set_option maxRecDepth 20000 in
set_option maxHeartbeats 1000000 in
theorem c_pace_Quick (g : GG) {sh : List CS} {r ci N : Nat} {fs : List (Nat × Nat × Nat)} {Cn : String} {T : u_T} (hv : sh[r]? = some (0, ci, fs)) (hv2 : vwCl[ci]? = some (Cn, T, N)) (v m : Int32) (S : SS) (L : LL) : Ci g 1 mX3_paceOf [.ref r, .int v, .int m] sh S L (fun r S' L' => r = paceK 1 v m ∧ S' = S ∧ L' = L) := by
  refine ct_of (ls := [some (.ref r), some (.int v), some (.int m)]) 0 (by decide +kernel) rfl rfl ?_
  refine rx_aload_n dX3_paceOf_0 rfl ?_
  refine rx_iload_n dX3_paceOf_1 rfl ?_
  refine rx_iload_n dX3_paceOf_2 rfl ?_
  refine rx_cUi_2 cuX3_7 dX3_paceOf_3 (hv) hv2 rfl (c_pace_Child g v m S L) ?_
  refine pur3 ?_
  refine rx_iconst (2) dX3_paceOf_6 (by decide) ?_
  refine rx_iadd dX3_paceOf_7 ?_
  exact rx_iret dX3_paceOf_8 rfl ⟨Nat.le_refl _, Nat.le_refl _⟩ ⟨rfl, _, rfl, ⟨rfl, rfl, rfl⟩⟩
set_option maxRecDepth 20000 in
set_option maxHeartbeats 1000000 in
theorem c_pace_Careful (g : GG) {sh : List CS} {r ci N : Nat} {fs : List (Nat × Nat × Nat)} {Cn : String} {T : u_T} (hv : sh[r]? = some (0, ci, fs)) (hv2 : vwCl[ci]? = some (Cn, T, N)) (v m : Int32) (S : SS) (L : LL) : Ci g 1 mX1_paceOf [.ref r, .int v, .int m] sh S L (fun r S' L' => r = paceK 5 v m ∧ S' = S ∧ L' = L) := by
  refine ct_of (ls := [some (.ref r), some (.int v), some (.int m)]) 0 (by decide +kernel) rfl rfl ?_
  refine rx_aload_n dX1_paceOf_0 rfl ?_
  refine rx_iload_n dX1_paceOf_1 rfl ?_
  refine rx_iload_n dX1_paceOf_2 rfl ?_
  refine rx_cUi_2 cuX1_7 dX1_paceOf_3 (hv) hv2 rfl (c_pace_Child g v m S L) ?_
  refine pur3 ?_
  refine rx_iconst (1) dX1_paceOf_6 (by decide) ?_
  refine rx_isub dX1_paceOf_7 ?_
  exact rx_iret dX1_paceOf_8 rfl ⟨Nat.le_refl _, Nat.le_refl _⟩ ⟨rfl, _, rfl, ⟨rfl, rfl, rfl⟩⟩
set_option maxRecDepth 20000 in
set_option maxHeartbeats 1000000 in
theorem c_pace_Told (g : GG) {sh : List CS} {r ci N : Nat} {fs : List (Nat × Nat × Nat)} {Cn : String} {T : u_T} (hv : sh[r]? = some (0, ci, fs)) (hv2 : vwCl[ci]? = some (Cn, T, N)) (v m : Int32) (S : SS) (L : LL) : Ci g 1 mX8_paceOf [.ref r, .int v, .int m] sh S L (fun r S' L' => r = paceK 6 v m ∧ S' = S ∧ L' = L) := by
  refine ct_of (ls := [some (.ref r), some (.int v), some (.int m)]) 0 (by decide +kernel) rfl rfl ?_
  refine rx_aload_n dX8_paceOf_0 rfl ?_
  refine rx_iload_n dX8_paceOf_1 rfl ?_
  refine rx_iload_n dX8_paceOf_2 rfl ?_
  refine rx_cUi_2 cuX8_7 dX8_paceOf_3 (hv) hv2 rfl (c_pace_Small g v m S L) ?_
  refine pur3 ?_
  refine rx_iload_n dX8_paceOf_6 rfl ?_
  refine rx_iadd dX8_paceOf_7 ?_
  exact rx_iret dX8_paceOf_8 rfl ⟨Nat.le_refl _, Nat.le_refl _⟩ ⟨rfl, _, rfl, ⟨rfl, rfl, rfl⟩⟩
set_option maxRecDepth 20000 in
set_option maxHeartbeats 1000000 in
theorem c_pace_Reckless (g : GG) {sh : List CS} {r ci N : Nat} {fs : List (Nat × Nat × Nat)} {Cn : String} {T : u_T} (hv : sh[r]? = some (0, ci, fs)) (hv2 : vwCl[ci]? = some (Cn, T, N)) (v m : Int32) (S : SS) (L : LL) : Ci g 2 mX4_paceOf [.ref r, .int v, .int m] sh S L (fun r S' L' => r = paceK 4 v m ∧ S' = S ∧ L' = L) := by
  refine ct_of (ls := [some (.ref r), some (.int v), some (.int m)]) 0 (by decide +kernel) rfl rfl ?_
  refine rx_iconst (2) dX4_paceOf_0 (by decide) ?_
  refine rx_aload_n dX4_paceOf_1 rfl ?_
  refine rx_iload_n dX4_paceOf_2 rfl ?_
  refine rx_iload_n dX4_paceOf_3 rfl ?_
  refine rx_cUi_2 cuX4_7 dX4_paceOf_4 (hv) hv2 rfl (c_pace_Quick g hv hv2 v m S L) ?_
  refine pur3 ?_
  refine rx_imul dX4_paceOf_7 ?_
  exact rx_iret dX4_paceOf_8 rfl ⟨Nat.le_refl _, Nat.le_refl _⟩ ⟨rfl, _, rfl, ⟨rfl, rfl, rfl⟩⟩
set_option maxRecDepth 20000 in
set_option maxHeartbeats 1000000 in
theorem c_wob_Child (g : GG) {sh : List CS} {r : Nat} (v e p q s : Int32) (S : SS) (L : LL) : Ci g 1 mX2_wobblesOf [.ref r, .int v, .int e, .int p, .int q, .int s] sh S L (fun r S' L' => r = wobK 0 v e p q s ∧ S' = S ∧ L' = L) := by
  refine ct_of (ls := [some (.ref r), some (.int v), some (.int e), some (.int p), some (.int q), some (.int s)]) 0 (by decide +kernel) rfl rfl ?_
  refine rx_iload dX2_wobblesOf_0 rfl ?_
  refine rx_if_ne 7 dX2_wobblesOf_2 (by decide) (fun h2 => ?_) (fun h2 => ?_)
  · refine rx_iconst (0) dX2_wobblesOf_7 (by decide) ?_
    refine rx_iload_n dX2_wobblesOf_8 rfl ?_
    refine rx_iload dX2_wobblesOf_9 rfl ?_
    refine rx_iadd dX2_wobblesOf_11 ?_
    refine rx_iconst (2) dX2_wobblesOf_12 (by decide) ?_
    refine rx_iload_n dX2_wobblesOf_13 rfl ?_
    refine rx_imul dX2_wobblesOf_14 ?_
    refine rx_isub dX2_wobblesOf_15 ?_
    refine rx_max dX2_wobblesOf_16 w_428 w_409 w_15 w_410 (by decide) ⟨Nat.le_refl _, Nat.le_refl _⟩ (Nat.le_of_ble_eq_true rfl) ?_
    exact rx_iret dX2_wobblesOf_19 rfl ⟨Nat.le_refl _, Nat.le_refl _⟩ ⟨rfl, _, rfl, ⟨by simp [wobK, wobB, mx0, *], rfl, rfl⟩⟩
  · refine rx_iconst (0) dX2_wobblesOf_5 (by decide) ?_
    exact rx_iret dX2_wobblesOf_6 rfl ⟨Nat.le_refl _, Nat.le_refl _⟩ ⟨rfl, _, rfl, ⟨by simp [wobK, wobB, mx0, *], rfl, rfl⟩⟩
set_option maxRecDepth 20000 in
set_option maxHeartbeats 1000000 in
theorem c_wob_Steady (g : GG) {sh : List CS} {r ci N : Nat} {fs : List (Nat × Nat × Nat)} {Cn : String} {T : u_T} (hv : sh[r]? = some (0, ci, fs)) (hv2 : vwCl[ci]? = some (Cn, T, N)) (v e p q s : Int32) (S : SS) (L : LL) : Ci g 2 mX7_wobblesOf [.ref r, .int v, .int e, .int p, .int q, .int s] sh S L (fun r S' L' => r = wobK 2 v e p q s ∧ S' = S ∧ L' = L) := by
  refine ct_of (ls := [some (.ref r), some (.int v), some (.int e), some (.int p), some (.int q), some (.int s)]) 0 (by decide +kernel) rfl rfl ?_
  refine rx_iconst (0) dX7_wobblesOf_0 (by decide) ?_
  refine rx_aload_n dX7_wobblesOf_1 rfl ?_
  refine rx_iload_n dX7_wobblesOf_2 rfl ?_
  refine rx_iload_n dX7_wobblesOf_3 rfl ?_
  refine rx_iload_n dX7_wobblesOf_4 rfl ?_
  refine rx_iload dX7_wobblesOf_5 rfl ?_
  refine rx_iload dX7_wobblesOf_7 rfl ?_
  refine rx_cUi_5 cuX7_7 dX7_wobblesOf_9 (hv) hv2 rfl (c_wob_Child g v e p q s S L) ?_
  refine pur3 ?_
  refine rx_iload_n dX7_wobblesOf_12 rfl ?_
  refine rx_isub dX7_wobblesOf_13 ?_
  refine rx_max dX7_wobblesOf_14 w_408 w_409 w_15 w_410 (by decide) ⟨Nat.le_refl _, Nat.le_refl _⟩ (Nat.le_of_ble_eq_true rfl) ?_
  exact rx_iret dX7_wobblesOf_17 rfl ⟨Nat.le_refl _, Nat.le_refl _⟩ ⟨rfl, _, rfl, ⟨rfl, rfl, rfl⟩⟩
set_option maxRecDepth 20000 in
set_option maxHeartbeats 1000000 in
theorem c_wob_Small (g : GG) {sh : List CS} {r ci N : Nat} {fs : List (Nat × Nat × Nat)} {Cn : String} {T : u_T} (hv : sh[r]? = some (0, ci, fs)) (hv2 : vwCl[ci]? = some (Cn, T, N)) (v e p q s : Int32) (S : SS) (L : LL) : Ci g 2 mX6_wobblesOf [.ref r, .int v, .int e, .int p, .int q, .int s] sh S L (fun r S' L' => r = wobK 3 v e p q s ∧ S' = S ∧ L' = L) := by
  refine ct_of (ls := [some (.ref r), some (.int v), some (.int e), some (.int p), some (.int q), some (.int s)]) 0 (by decide +kernel) rfl rfl ?_
  refine rx_iconst (3) dX6_wobblesOf_0 (by decide) ?_
  refine rx_aload_n dX6_wobblesOf_1 rfl ?_
  refine rx_iload_n dX6_wobblesOf_2 rfl ?_
  refine rx_iload_n dX6_wobblesOf_3 rfl ?_
  refine rx_iload_n dX6_wobblesOf_4 rfl ?_
  refine rx_iload dX6_wobblesOf_5 rfl ?_
  refine rx_iload dX6_wobblesOf_7 rfl ?_
  refine rx_cUi_5 cuX6_7 dX6_wobblesOf_9 (hv) hv2 rfl (c_wob_Child g v e p q s S L) ?_
  refine pur3 ?_
  refine rx_min dX6_wobblesOf_12 w_422 w_423 w_15 w_424 (by decide) ⟨Nat.le_refl _, Nat.le_refl _⟩ (Nat.le_of_ble_eq_true rfl) ?_
  exact rx_iret dX6_wobblesOf_15 rfl ⟨Nat.le_refl _, Nat.le_refl _⟩ ⟨rfl, _, rfl, ⟨rfl, rfl, rfl⟩⟩
set_option maxRecDepth 20000 in
set_option maxHeartbeats 1000000 in
theorem c_wob_Careful (g : GG) {sh : List CS} {r ci N : Nat} {fs : List (Nat × Nat × Nat)} {Cn : String} {T : u_T} (hv : sh[r]? = some (0, ci, fs)) (hv2 : vwCl[ci]? = some (Cn, T, N)) (v e p q s : Int32) (S : SS) (L : LL) : Ci g 3 mX1_wobblesOf [.ref r, .int v, .int e, .int p, .int q, .int s] sh S L (fun r S' L' => r = wobK 5 v e p q s ∧ S' = S ∧ L' = L) := by
  refine ct_of (ls := [some (.ref r), some (.int v), some (.int e), some (.int p), some (.int q), some (.int s)]) 0 (by decide +kernel) rfl rfl ?_
  refine rx_iload_n dX1_wobblesOf_0 rfl ?_
  refine rx_iconst (2) dX1_wobblesOf_1 (by decide) ?_
  refine rx_icmp_lt 9 dX1_wobblesOf_2 (by decide) (fun h2 => ?_) (fun h2 => ?_)
  · refine rx_aload_n dX1_wobblesOf_9 rfl ?_
    refine rx_iload_n dX1_wobblesOf_10 rfl ?_
    refine rx_iload_n dX1_wobblesOf_11 rfl ?_
    refine rx_iload_n dX1_wobblesOf_12 rfl ?_
    refine rx_iload dX1_wobblesOf_13 rfl ?_
    refine rx_iload dX1_wobblesOf_15 rfl ?_
    refine rx_cUi_5 cuX1_11 dX1_wobblesOf_17 (hv) hv2 rfl (c_wob_Steady g hv hv2 v e p q s S L) ?_
    refine pur3 ?_
    exact rx_iret dX1_wobblesOf_20 rfl ⟨Nat.le_refl _, Nat.le_refl _⟩ ⟨rfl, _, rfl, ⟨by first | exact (if_pos (by simp only [Int32.le_iff_toInt_le, Int32.lt_iff_toInt_lt, Int32.toInt_zero, tIo, tIm1] at *; omega)).symm | exact (if_neg (by simp only [Int32.le_iff_toInt_le, Int32.lt_iff_toInt_lt, Int32.toInt_zero, tIo, tIm1] at *; omega)).symm, rfl, rfl⟩⟩
  · refine rx_iconst (0) dX1_wobblesOf_5 (by decide) ?_
    refine rx_goto 20 dX1_wobblesOf_6 (by decide) ?_
    exact rx_iret dX1_wobblesOf_20 rfl ⟨Nat.le_refl _, Nat.le_refl _⟩ ⟨rfl, _, rfl, ⟨by first | exact (if_pos (by simp only [Int32.le_iff_toInt_le, Int32.lt_iff_toInt_lt, Int32.toInt_zero, tIo, tIm1] at *; omega)).symm | exact (if_neg (by simp only [Int32.le_iff_toInt_le, Int32.lt_iff_toInt_lt, Int32.toInt_zero, tIo, tIm1] at *; omega)).symm, rfl, rfl⟩⟩
set_option maxRecDepth 20000 in
set_option maxHeartbeats 1000000 in
theorem c_wob_Reckless (g : GG) {sh : List CS} {r ci N : Nat} {fs : List (Nat × Nat × Nat)} {Cn : String} {T : u_T} (hv : sh[r]? = some (0, ci, fs)) (hv2 : vwCl[ci]? = some (Cn, T, N)) (v e p q s : Int32) (S : SS) (L : LL) : Ci g 2 mX4_wobblesOf [.ref r, .int v, .int e, .int p, .int q, .int s] sh S L (fun r S' L' => r = wobK 4 v e p q s ∧ S' = S ∧ L' = L) := by
  refine ct_of (ls := [some (.ref r), some (.int v), some (.int e), some (.int p), some (.int q), some (.int s)]) 0 (by decide +kernel) rfl rfl ?_
  refine rx_aload_n dX4_wobblesOf_0 rfl ?_
  refine rx_iload_n dX4_wobblesOf_1 rfl ?_
  refine rx_iload_n dX4_wobblesOf_2 rfl ?_
  refine rx_iload_n dX4_wobblesOf_3 rfl ?_
  refine rx_iload dX4_wobblesOf_4 rfl ?_
  refine rx_iload dX4_wobblesOf_6 rfl ?_
  refine rx_cUi_5 cuX4_11 dX4_wobblesOf_8 (hv) hv2 rfl (c_wob_Child g v e p q s S L) ?_
  refine pur3 ?_
  refine rx_iconst (1) dX4_wobblesOf_11 (by decide) ?_
  refine rx_iadd dX4_wobblesOf_12 ?_
  exact rx_iret dX4_wobblesOf_13 rfl ⟨Nat.le_refl _, Nat.le_refl _⟩ ⟨rfl, _, rfl, ⟨rfl, rfl, rfl⟩⟩
