def itD (E : EN) (sees hd : Int32) : Nat → DY → DY
  | 0, D => D
  | n + 1, D => stepD E sees hd (itD E sees hd n D)
def itB (E : EN) (sees hd : Int32) : Nat → DY → Int32
  | 0, _ => 0
  | n + 1, D => itB E sees hd n D ||| stepB E sees hd (itD E sees hd n D)
theorem itD_T (E : EN) (sees hd : Int32) (D : DY) : ∀ n, dT (itD E sees hd n D) = dT D + n
  | 0 => rfl
  | n + 1 => by show dT (itD E sees hd n D) + 1 = _; rw [itD_T E sees hd D n]; omega
/-- behind how many turns one of these is at the wall; how all is then -/
def untV (E : EN) (th : Int32) : Nat → Nat → DY → Int32 × DY
  | 0, _, D => (-5, D)
  | r + 1, k, D => if dW D &&& th = 0 then untV E th r (k + 1) (stepD E (eY E).2.2.1 (-1) D) else (nI k, D)
theorem rwS_off {S : SS} {a j : Nat} {f : Nat → Int32} (h : j ≠ a) : rwS S a f j = S j := if_neg h
theorem rwS_at {S : SS} {a : Nat} {f : Nat → Int32} : rwS S a f a = f := if_pos rfl
theorem cpy0 {f h : Nat → Int32} {n : Int32} {m i : Nat} (hm : n.toNatClampNeg = m) (hi : i < m) : va_cpy f h (0 : Int32).toNatClampNeg (0 : Int32).toNatClampNeg n.toNatClampNeg i = f i := by
  have h0 : (0 : Int32).toNatClampNeg = 0 := by decide +kernel
  rw [h0, hm, pk_cpy_in (by omega) (by omega)]
  congr 1
  omega

set_option maxRecDepth 20000 in
set_option maxHeartbeats 400000 in
theorem c_pass (g : GG) {b : Nat} (hb : Sc b) (E : EN) (D : DY) (m : Nat) (S : SS) (L : LL) (hE : EnOK E) (hR : ScR b S E D) (hT : dT D + m < 19999) : Ci g 6 mX9_pass [.ref 92, .ref b, .int (nI m)] SHC S L (fun r S' L' => r = itB E (eY E).2.2.1 (-1) m D ∧ ScR b S' E (itD E (eY E).2.2.1 (-1) m D) ∧ StF b S S' ∧ L' = L) := by
  refine ct_of (ls := [some (.ref 92), some (.ref b), some (.int (nI m)), none, none]) 2 (by decide +kernel) rfl rfl ?_
  have hbl := hb.le
  have loop : ∀ (r c : Nat) (S1 : SS), c ≤ m → c + r = m → ScR b S1 E (itD E (eY E).2.2.1 (-1) c D) → StF b S S1 → Rx g 6 0 0 mX9_pass SHC.length (fun r sh' S' L' => sh' = SHC ∧ ∃ x, r = some (.int x) ∧ (x = itB E (eY E).2.2.1 (-1) m D ∧ ScR b S' E (itD E (eY E).2.2.1 (-1) m D) ∧ StF b S S' ∧ L' = L)) 0 0 5 [some (.ref 92), some (.ref b), some (.int (nI m)), some (.int (itB E (eY E).2.2.1 (-1) c D)), some (.int (nI c))] [] SHC S1 L := by
    intro r
    induction r with
    | zero =>
      intro c S1 hc1 hc2 hR1 hF
      have hcn : c = m := by omega
      refine rx_iload dX9_pass_5 rfl ?_
      refine rx_iload_n dX9_pass_7 rfl ?_
      refine rx_icmp_ge 33 dX9_pass_8 (by decide) (fun h8 => ?_) (fun h8 => absurd (nI_le (by omega) (by omega)) h8)
      refine rx_iload_n dX9_pass_33 rfl ?_
      exact rx_iret dX9_pass_34 rfl ⟨Nat.le_refl _, Nat.le_refl _⟩ ⟨rfl, _, rfl, ⟨by rw [hcn], by rw [← hcn]; exact hR1, hF, rfl⟩⟩
    | succ r ih =>
      intro c S1 hc1 hc2 hR1 hF
      obtain ⟨y, hy, hyS, hY⟩ := hR1.2.2.2.2.2.2.1
      have hcy : (nI y).toNatClampNeg = y := nI_clamp (by omega)
      refine rx_iload dX9_pass_5 rfl ?_
      refine rx_iload_n dX9_pass_7 rfl ?_
      refine rx_icmp_ge 33 dX9_pass_8 (by decide) (fun h8 => absurd h8 (nI_ge (by omega) (by omega))) (fun h8 => ?_)
      refine rx_iload_n dX9_pass_11 rfl ?_
      refine rx_aload_n dX9_pass_12 rfl ?_
      refine rx_aload_n dX9_pass_13 rfl ?_
      refine rx_aload_n dX9_pass_14 rfl ?_
      refine rx_getD dX9_pass_15 flX9_74 (scO hb) rfl ?_
      rw [hyS, hcy]
      refine rx_getI dX9_pass_18 flX9_119 (syO hy) rfl ?_
      rw [hY.2.2.2.2.2]
      refine rx_iconst (-1) dX9_pass_21 (by decide) ?_
      refine rx_cVi_3 clX9_122 dX9_pass_22 (rcvo (sC_92) rfl) rfl (c_step g hb E (itD E (eY E).2.2.1 (-1) c D) (eY E).2.2.1 (-1) S1 L hE hR1 (by rw [itD_T]; omega) (Or.inl rfl)) ?_
      rintro x2 S2 L2 ⟨hx2, hR2, hF2, hL2⟩
      rw [hL2, hx2]
      refine rx_ior dX9_pass_25 ?_
      refine rx_istore_3 rfl dX9_pass_26 ?_
      refine rx_iinc_4 (1) rfl dX9_pass_27 (by decide) ?_
      refine rx_goto 5 dX9_pass_30 (by decide) ?_
      rw [nI_1]
      exact ih (c + 1) S2 (by omega) (by omega) hR2 (hF.trans hF2)
  refine rx_iconst (0) dX9_pass_0 (by decide) ?_
  refine rx_istore_3 rfl dX9_pass_1 ?_
  refine rx_iconst (0) dX9_pass_2 (by decide) ?_
  refine rx_istore_4 rfl dX9_pass_3 ?_
  exact loop m 0 S (by omega) (by omega) hR StF.refl
set_option maxRecDepth 20000 in
set_option maxHeartbeats 400000 in
theorem c_untilWall (g : GG) {b : Nat} (hb : Sc b) (E : EN) (D0 : DY) (th : Int32) (S : SS) (L : LL) (hE : EnOK E) (hR : ScR b S E D0) (hT : dT D0 + 61 < 19999) : Ci g 6 mX9_untilWall [.ref 92, .ref b, .int th] SHC S L (fun r S' L' => r = (untV E th 61 0 D0).1 ∧ ScR b S' E (untV E th 61 0 D0).2 ∧ StF b S S' ∧ L' = L) := by
  refine ct_of (ls := [some (.ref 92), some (.ref b), some (.int th), none]) 1 (by decide +kernel) rfl rfl ?_
  have hbl := hb.le
  have loop : ∀ (r k : Nat) (S1 : SS) (D : DY), k + r = 61 → ScR b S1 E D → untV E th r k D = untV E th 61 0 D0 → dT D + r < 19999 → StF b S S1 → Rx g 6 0 0 mX9_untilWall SHC.length (fun r sh' S' L' => sh' = SHC ∧ ∃ x, r = some (.int x) ∧ (x = (untV E th 61 0 D0).1 ∧ ScR b S' E (untV E th 61 0 D0).2 ∧ StF b S S' ∧ L' = L)) 0 0 2 [some (.ref 92), some (.ref b), some (.int th), some (.int (nI k))] [] SHC S1 L := by
    intro r
    induction r with
    | zero =>
      intro k S1 D hk hR1 hev hT1 hF
      refine rx_iload_n dX9_untilWall_2 rfl ?_
      refine rx_bipush (60) dX9_untilWall_3 (by decide) ?_
      refine rx_icmp_gt 39 dX9_untilWall_5 (by decide) (fun h5 => ?_) (fun h5 => absurd (nI_lt (a := 60) (b := k) (by omega) (by omega)) h5)
      refine rx_bipush (-5) dX9_untilWall_39 (by decide) ?_
      exact rx_iret dX9_untilWall_41 rfl ⟨Nat.le_refl _, Nat.le_refl _⟩ ⟨rfl, _, rfl, ⟨by rw [← hev]; rfl, by rw [← hev]; exact hR1, hF, rfl⟩⟩
    | succ r ih =>
      intro k S1 D hk hR1 hev hT1 hF
      obtain ⟨y, hy, hyS, hY⟩ := hR1.2.2.2.2.2.2.1
      have hcy : (nI y).toNatClampNeg = y := nI_clamp (by omega)
      have hwS : S1 b 7 = dW D := hR1.2.2.2.2.2.2.2.2.1
      refine rx_iload_n dX9_untilWall_2 rfl ?_
      refine rx_bipush (60) dX9_untilWall_3 (by decide) ?_
      refine rx_icmp_gt 39 dX9_untilWall_5 (by decide) (fun h5 => absurd h5 (Int32.not_lt.mpr (nI_le (a := k) (b := 60) (by omega) (by omega)))) (fun h5 => ?_)
      refine rx_aload_n dX9_untilWall_8 rfl ?_
      refine rx_getI dX9_untilWall_9 flX9_110 (scO hb) rfl ?_
      rw [hwS]
      refine rx_iload_n dX9_untilWall_12 rfl ?_
      refine rx_iand dX9_untilWall_13 ?_
      refine rx_if_eq 19 dX9_untilWall_14 (by decide) (fun h14 => ?_) (fun h14 => ?_)
      · refine rx_aload_n dX9_untilWall_19 rfl ?_
        refine rx_aload_n dX9_untilWall_20 rfl ?_
        refine rx_aload_n dX9_untilWall_21 rfl ?_
        refine rx_getD dX9_untilWall_22 flX9_74 (scO hb) rfl ?_
        rw [hyS, hcy]
        refine rx_getI dX9_untilWall_25 flX9_119 (syO hy) rfl ?_
        rw [hY.2.2.2.2.2]
        refine rx_iconst (-1) dX9_untilWall_28 (by decide) ?_
        refine rx_cVi_3 clX9_122 dX9_untilWall_29 (rcvo (sC_92) rfl) rfl (c_step g hb E D (eY E).2.2.1 (-1) S1 L hE hR1 (by omega) (Or.inl rfl)) ?_
        rintro x2 S2 L2 ⟨hx2, hR2, hF2, hL2⟩
        rw [hL2, hx2]
        refine rx_pop dX9_untilWall_32 rfl ?_
        refine rx_iinc_3 (1) rfl dX9_untilWall_33 (by decide) ?_
        refine rx_goto 2 dX9_untilWall_36 (by decide) ?_
        rw [nI_1]
        exact ih (k + 1) S2 _ (by omega) hR2 (by rw [← hev]; exact (if_pos h14).symm) (by show dT D + 1 + r < 19999; omega) (hF.trans hF2)
      · refine rx_iload_n dX9_untilWall_17 rfl ?_
        exact rx_iret dX9_untilWall_18 rfl ⟨Nat.le_refl _, Nat.le_refl _⟩ ⟨rfl, _, rfl, ⟨by rw [← hev]; exact (congrArg Prod.fst (if_neg h14 : untV E th (r + 1) k D = (nI k, D))).symm, by rw [← hev, show untV E th (r + 1) k D = (nI k, D) from if_neg h14]; exact hR1, hF, rfl⟩⟩
  refine rx_iconst (0) dX9_untilWall_0 (by decide) ?_
  refine rx_istore_3 rfl dX9_untilWall_1 ?_
  exact loop 61 0 S D0 (by omega) hR rfl (by omega) StF.refl
theorem clamp_lt (x : Int32) : x.toNatClampNeg < 2 ^ 31 := by
  have := Int32.toInt_lt x
  show x.toInt.toNat < _
  omega
/-- the scene at b is as that at a was -/
def CpR (a b : Nat) (S S' : SS) : Prop := (∀ j, j < b ∨ b + 12 < j → S' j = S j) ∧ (∀ i, i < 7 → S' (b + 1) i = S (a + 1) i) ∧ (∀ i, i < 7 → S' (b + 2) i = S (a + 2) i) ∧ (∀ i, i < 7 → S' (b + 3) i = S (a + 3) i) ∧ (∀ i, i < 7 → S' (b + 4) i = S (a + 4) i) ∧ (∀ i, i < 7 → S' (b + 5) i = S (a + 5) i) ∧ (∀ i, i < 28 → S' (b + 6) i = S (a + 6) i) ∧ (∀ i, i < 4 → S' (b + 7) i = S (a + 7) i) ∧ (∀ i, i < 4 → S' (b + 8) i = S (a + 8) i) ∧ (∀ i, i < 4 → S' (b + 9) i = S (a + 9) i) ∧ (∀ i, i < 4 → S' (b + 10) i = S (a + 10) i) ∧ (∀ i, i < 8 → S' (b + 11) i = S (a + 11) i) ∧ (∀ i, i < 8 → S' (b + 12) i = S (a + 12) i) ∧ S' b 6 = S a 6 ∧ S' b 7 = S a 7 ∧ S' b 9 = S a 9 ∧ S' b 10 = S a 10 ∧ S' b 14 = S a 14 ∧ S' b 17 = S a 17
set_option maxRecDepth 20000 in
set_option maxHeartbeats 400000 in
theorem c_copyFrom (g : GG) {a b : Nat} (ha : Sc a) (hb : Sc b) (hab : a ≠ b) (S : SS) (L : LL) (hy : ∃ y, y < 7 ∧ S a 10 = nI y) : Cv g 1 mX5_copyFrom [.ref b, .ref a] SHC S L (fun S' L' => CpR a b S S' ∧ L' = L) := by
  refine ct_of (ls := [some (.ref b), some (.ref a)]) 0 (by decide +kernel) rfl rfl ?_
  have hb1 : b = 53 ∨ b = 66 ∨ b = 79 := hb
  have ha1 : a = 53 ∨ a = 66 ∨ a = 79 := ha
  obtain ⟨y, hy, ha10⟩ := hy
  have hcy : (nI y).toNatClampNeg = y := nI_clamp (by omega)
  refine rx_aload_n dX5_copyFrom_0 rfl ?_
  refine rx_getR dX5_copyFrom_1 flX5_9 (scO ha) rfl ?_
  refine rx_iconst (0) dX5_copyFrom_4 (by decide) ?_
  refine rx_aload_n dX5_copyFrom_5 rfl ?_
  refine rx_getR dX5_copyFrom_6 flX5_9 (scO hb) rfl ?_
  refine rx_iconst (0) dX5_copyFrom_9 (by decide) ?_
  refine rx_bipush (7) dX5_copyFrom_10 (by decide) ?_
  refine rx_copyi dX5_copyFrom_12 w_656 w_658 w_657 w_20 (scA1 ha) (scA1 hb) (by decide) (by decide) (by decide) (by decide +kernel) (by decide +kernel) (by decide) (Nat.le_of_ble_eq_true rfl) ?_
  refine rx_aload_n dX5_copyFrom_15 rfl ?_
  refine rx_getR dX5_copyFrom_16 flX5_15 (scO ha) rfl ?_
  refine rx_iconst (0) dX5_copyFrom_19 (by decide) ?_
  refine rx_aload_n dX5_copyFrom_20 rfl ?_
  refine rx_getR dX5_copyFrom_21 flX5_15 (scO hb) rfl ?_
  refine rx_iconst (0) dX5_copyFrom_24 (by decide) ?_
  refine rx_bipush (7) dX5_copyFrom_25 (by decide) ?_
  refine rx_copyi dX5_copyFrom_27 w_656 w_658 w_657 w_20 (scA2 ha) (scA2 hb) (by decide) (by decide) (by decide) (by decide +kernel) (by decide +kernel) (by decide) (Nat.le_of_ble_eq_true rfl) ?_
  refine rx_aload_n dX5_copyFrom_30 rfl ?_
  refine rx_getR dX5_copyFrom_31 flX5_18 (scO ha) rfl ?_
  refine rx_iconst (0) dX5_copyFrom_34 (by decide) ?_
  refine rx_aload_n dX5_copyFrom_35 rfl ?_
  refine rx_getR dX5_copyFrom_36 flX5_18 (scO hb) rfl ?_
  refine rx_iconst (0) dX5_copyFrom_39 (by decide) ?_
  refine rx_bipush (7) dX5_copyFrom_40 (by decide) ?_
  refine rx_copyi dX5_copyFrom_42 w_656 w_658 w_657 w_20 (scA3 ha) (scA3 hb) (by decide) (by decide) (by decide) (by decide +kernel) (by decide +kernel) (by decide) (Nat.le_of_ble_eq_true rfl) ?_
  refine rx_aload_n dX5_copyFrom_45 rfl ?_
  refine rx_getR dX5_copyFrom_46 flX5_21 (scO ha) rfl ?_
  refine rx_iconst (0) dX5_copyFrom_49 (by decide) ?_
  refine rx_aload_n dX5_copyFrom_50 rfl ?_
  refine rx_getR dX5_copyFrom_51 flX5_21 (scO hb) rfl ?_
  refine rx_iconst (0) dX5_copyFrom_54 (by decide) ?_
  refine rx_bipush (7) dX5_copyFrom_55 (by decide) ?_
  refine rx_copyi dX5_copyFrom_57 w_656 w_658 w_657 w_20 (scA4 ha) (scA4 hb) (by decide) (by decide) (by decide) (by decide +kernel) (by decide +kernel) (by decide) (Nat.le_of_ble_eq_true rfl) ?_
  refine rx_aload_n dX5_copyFrom_60 rfl ?_
  refine rx_getR dX5_copyFrom_61 flX5_24 (scO ha) rfl ?_
  refine rx_iconst (0) dX5_copyFrom_64 (by decide) ?_
  refine rx_aload_n dX5_copyFrom_65 rfl ?_
  refine rx_getR dX5_copyFrom_66 flX5_24 (scO hb) rfl ?_
  refine rx_iconst (0) dX5_copyFrom_69 (by decide) ?_
  refine rx_bipush (7) dX5_copyFrom_70 (by decide) ?_
  refine rx_copyi dX5_copyFrom_72 w_656 w_658 w_657 w_20 (scA5 ha) (scA5 hb) (by decide) (by decide) (by decide) (by decide +kernel) (by decide +kernel) (by decide) (Nat.le_of_ble_eq_true rfl) ?_
  refine rx_aload_n dX5_copyFrom_75 rfl ?_
  refine rx_getR dX5_copyFrom_76 flX5_27 (scO ha) rfl ?_
  refine rx_iconst (0) dX5_copyFrom_79 (by decide) ?_
  refine rx_aload_n dX5_copyFrom_80 rfl ?_
  refine rx_getR dX5_copyFrom_81 flX5_27 (scO hb) rfl ?_
  refine rx_iconst (0) dX5_copyFrom_84 (by decide) ?_
  refine rx_bipush (28) dX5_copyFrom_85 (by decide) ?_
  refine rx_copyi dX5_copyFrom_87 w_656 w_658 w_657 w_20 (scA6 ha) (scA6 hb) (by decide) (by decide) (by decide) (by decide +kernel) (by decide +kernel) (by decide) (Nat.le_of_ble_eq_true rfl) ?_
  refine rx_aload_n dX5_copyFrom_90 rfl ?_
  refine rx_aload_n dX5_copyFrom_91 rfl ?_
  refine rx_getI dX5_copyFrom_92 flX5_58 (scO ha) rfl ?_
  skip
  refine rx_putI dX5_copyFrom_95 flX5_58 (scO hb) rfl ?_
  refine rx_aload_n dX5_copyFrom_98 rfl ?_
  refine rx_aload_n dX5_copyFrom_99 rfl ?_
  refine rx_getI dX5_copyFrom_100 flX5_62 (scO ha) rfl ?_
  skip
  refine rx_putI dX5_copyFrom_103 flX5_62 (scO hb) rfl ?_
  refine rx_aload_n dX5_copyFrom_106 rfl ?_
  refine rx_getR dX5_copyFrom_107 flX5_30 (scO ha) rfl ?_
  refine rx_iconst (0) dX5_copyFrom_110 (by decide) ?_
  refine rx_aload_n dX5_copyFrom_111 rfl ?_
  refine rx_getR dX5_copyFrom_112 flX5_30 (scO hb) rfl ?_
  refine rx_iconst (0) dX5_copyFrom_115 (by decide) ?_
  refine rx_iconst (4) dX5_copyFrom_116 (by decide) ?_
  refine rx_copyi dX5_copyFrom_117 w_656 w_658 w_657 w_20 (scA7 ha) (scA7 hb) (by decide) (by decide) (by decide) (by decide +kernel) (by decide +kernel) (by decide) (Nat.le_of_ble_eq_true rfl) ?_
  refine rx_aload_n dX5_copyFrom_120 rfl ?_
  refine rx_aload_n dX5_copyFrom_121 rfl ?_
  refine rx_getI dX5_copyFrom_122 flX5_65 (scO ha) rfl ?_
  skip
  refine rx_putI dX5_copyFrom_125 flX5_65 (scO hb) rfl ?_
  refine rx_aload_n dX5_copyFrom_128 rfl ?_
  refine rx_aload_n dX5_copyFrom_129 rfl ?_
  refine rx_getD dX5_copyFrom_130 flX5_48 (scO ha) rfl ?_
  simp (disch := omega) only [rwS_off, upS_off, ha10, hcy]
  refine rx_putD dX5_copyFrom_133 flX5_48 (scO hb) rfl (by omega) ?_
  refine rx_aload_n dX5_copyFrom_136 rfl ?_
  refine rx_getR dX5_copyFrom_137 flX5_33 (scO ha) rfl ?_
  refine rx_iconst (0) dX5_copyFrom_140 (by decide) ?_
  refine rx_aload_n dX5_copyFrom_141 rfl ?_
  refine rx_getR dX5_copyFrom_142 flX5_33 (scO hb) rfl ?_
  refine rx_iconst (0) dX5_copyFrom_145 (by decide) ?_
  refine rx_iconst (4) dX5_copyFrom_146 (by decide) ?_
  refine rx_copyi dX5_copyFrom_147 w_656 w_658 w_657 w_20 (scA8 ha) (scA8 hb) (by decide) (by decide) (by decide) (by decide +kernel) (by decide +kernel) (by decide) (Nat.le_of_ble_eq_true rfl) ?_
  refine rx_aload_n dX5_copyFrom_150 rfl ?_
  refine rx_getR dX5_copyFrom_151 flX5_36 (scO ha) rfl ?_
  refine rx_iconst (0) dX5_copyFrom_154 (by decide) ?_
  refine rx_aload_n dX5_copyFrom_155 rfl ?_
  refine rx_getR dX5_copyFrom_156 flX5_36 (scO hb) rfl ?_
  refine rx_iconst (0) dX5_copyFrom_159 (by decide) ?_
  refine rx_iconst (4) dX5_copyFrom_160 (by decide) ?_
  refine rx_copyi dX5_copyFrom_161 w_656 w_658 w_657 w_20 (scA9 ha) (scA9 hb) (by decide) (by decide) (by decide) (by decide +kernel) (by decide +kernel) (by decide) (Nat.le_of_ble_eq_true rfl) ?_
  refine rx_aload_n dX5_copyFrom_164 rfl ?_
  refine rx_getR dX5_copyFrom_165 flX5_39 (scO ha) rfl ?_
  refine rx_iconst (0) dX5_copyFrom_168 (by decide) ?_
  refine rx_aload_n dX5_copyFrom_169 rfl ?_
  refine rx_getR dX5_copyFrom_170 flX5_39 (scO hb) rfl ?_
  refine rx_iconst (0) dX5_copyFrom_173 (by decide) ?_
  refine rx_iconst (4) dX5_copyFrom_174 (by decide) ?_
  refine rx_copyi dX5_copyFrom_175 w_656 w_658 w_657 w_20 (scA10 ha) (scA10 hb) (by decide) (by decide) (by decide) (by decide +kernel) (by decide +kernel) (by decide) (Nat.le_of_ble_eq_true rfl) ?_
  refine rx_aload_n dX5_copyFrom_178 rfl ?_
  refine rx_aload_n dX5_copyFrom_179 rfl ?_
  refine rx_getI dX5_copyFrom_180 flX5_68 (scO ha) rfl ?_
  skip
  refine rx_putI dX5_copyFrom_183 flX5_68 (scO hb) rfl ?_
  refine rx_aload_n dX5_copyFrom_186 rfl ?_
  refine rx_getR dX5_copyFrom_187 flX5_42 (scO ha) rfl ?_
  refine rx_iconst (0) dX5_copyFrom_190 (by decide) ?_
  refine rx_aload_n dX5_copyFrom_191 rfl ?_
  refine rx_getR dX5_copyFrom_192 flX5_42 (scO hb) rfl ?_
  refine rx_iconst (0) dX5_copyFrom_195 (by decide) ?_
  refine rx_bipush (8) dX5_copyFrom_196 (by decide) ?_
  refine rx_copyi dX5_copyFrom_198 w_656 w_658 w_657 w_20 (scA11 ha) (scA11 hb) (by decide) (by decide) (by decide) (by decide +kernel) (by decide +kernel) (by decide) (Nat.le_of_ble_eq_true rfl) ?_
  refine rx_aload_n dX5_copyFrom_201 rfl ?_
  refine rx_getR dX5_copyFrom_202 flX5_45 (scO ha) rfl ?_
  refine rx_iconst (0) dX5_copyFrom_205 (by decide) ?_
  refine rx_aload_n dX5_copyFrom_206 rfl ?_
  refine rx_getR dX5_copyFrom_207 flX5_45 (scO hb) rfl ?_
  refine rx_iconst (0) dX5_copyFrom_210 (by decide) ?_
  refine rx_bipush (8) dX5_copyFrom_211 (by decide) ?_
  refine rx_copyi dX5_copyFrom_213 w_656 w_658 w_657 w_20 (scA12 ha) (scA12 hb) (by decide) (by decide) (by decide) (by decide +kernel) (by decide +kernel) (by decide) (Nat.le_of_ble_eq_true rfl) ?_
  refine rx_aload_n dX5_copyFrom_216 rfl ?_
  refine rx_aload_n dX5_copyFrom_217 rfl ?_
  refine rx_getI dX5_copyFrom_218 flX5_71 (scO ha) rfl ?_
  skip
  refine rx_putI dX5_copyFrom_221 flX5_71 (scO hb) rfl ?_
  refine rx_vret dX5_copyFrom_224 rfl ⟨Nat.le_refl _, Nat.le_refl _⟩ ⟨rfl, rfl, ⟨?_, ?_, ?_, ?_, ?_, ?_, ?_, ?_, ?_, ?_, ?_, ?_, ?_, ?_, ?_, ?_, ?_, ?_, ?_⟩, rfl⟩
  · intro j hj
    simp (disch := omega) only [rwS_off, upS_off]
  · intro i hi
    simp (disch := omega) only [rwS_off, upS_off, rwS_at]
    exact cpy0 (by decide +kernel) hi
  · intro i hi
    simp (disch := omega) only [rwS_off, upS_off, rwS_at]
    exact cpy0 (by decide +kernel) hi
  · intro i hi
    simp (disch := omega) only [rwS_off, upS_off, rwS_at]
    exact cpy0 (by decide +kernel) hi
  · intro i hi
    simp (disch := omega) only [rwS_off, upS_off, rwS_at]
    exact cpy0 (by decide +kernel) hi
  · intro i hi
    simp (disch := omega) only [rwS_off, upS_off, rwS_at]
    exact cpy0 (by decide +kernel) hi
  · intro i hi
    simp (disch := omega) only [rwS_off, upS_off, rwS_at]
    exact cpy0 (by decide +kernel) hi
  · intro i hi
    simp (disch := omega) only [rwS_off, upS_off, rwS_at]
    exact cpy0 (by decide +kernel) hi
  · intro i hi
    simp (disch := omega) only [rwS_off, upS_off, rwS_at]
    exact cpy0 (by decide +kernel) hi
  · intro i hi
    simp (disch := omega) only [rwS_off, upS_off, rwS_at]
    exact cpy0 (by decide +kernel) hi
  · intro i hi
    simp (disch := omega) only [rwS_off, upS_off, rwS_at]
    exact cpy0 (by decide +kernel) hi
  · intro i hi
    simp (disch := omega) only [rwS_off, upS_off, rwS_at]
    exact cpy0 (by decide +kernel) hi
  · intro i hi
    simp (disch := omega) only [rwS_off, upS_off, rwS_at]
    exact cpy0 (by decide +kernel) hi
  · simp (disch := omega) only [rwS_off, upS_off, rwS_at, upS_row, upd]
    simp
  · simp (disch := omega) only [rwS_off, upS_off, rwS_at, upS_row, upd]
    simp
  · simp (disch := omega) only [rwS_off, upS_off, rwS_at, upS_row, upd]
    simp
  · simp (disch := omega) only [rwS_off, upS_off, rwS_at, upS_row, upd]
    exact ha10.symm
  · simp (disch := omega) only [rwS_off, upS_off, rwS_at, upS_row, upd]
    simp
  · simp (disch := omega) only [rwS_off, upS_off, rwS_at, upS_row, upd]
    simp

