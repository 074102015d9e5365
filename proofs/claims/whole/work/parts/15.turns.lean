-- SCENES, purely
/-- far, sharp, sees, clauses -/
abbrev YD : Type := Int32 × Int32 × Int32 × List CLS
/-- how many; kind, number, early, rows, counts; the yard -/
abbrev EN : Type := Nat × (Nat → Int32) × (Nat → Int32) × (Nat → Int32) × (Nat → Int32) × (Nat → Int32) × YD
/-- at, wall, turn, sent -/
abbrev DY : Type := (Nat → Int32) × Int32 × Nat × (Nat → Int32)
def eN (E : EN) : Nat := E.1
def eK (E : EN) : Nat → Int32 := E.2.1
def eV (E : EN) : Nat → Int32 := E.2.2.1
def eE (E : EN) : Nat → Int32 := E.2.2.2.1
def eR (E : EN) : Nat → Int32 := E.2.2.2.2.1
def eC (E : EN) : Nat → Int32 := E.2.2.2.2.2.1
def eY (E : EN) : YD := E.2.2.2.2.2.2
def dA (D : DY) : Nat → Int32 := D.1
def dW (D : DY) : Int32 := D.2.1
def dT (D : DY) : Nat := D.2.2.1
def dS (D : DY) : Nat → Int32 := D.2.2.2
def kN (E : EN) (c : Nat) : Nat := (eK E c).toNatClampNeg
def cnN (E : EN) (D : DY) : Int32 := eC E (dT D % 4)
def pacN (E : EN) (D : DY) (c : Nat) : Int32 := paceK (kN E c) (eV E c) (eR E (c * 4 + dT D % 4))
def goeN (E : EN) (D : DY) (c : Nat) : Int32 := if eE E c < cnN E D then pacN E D c * (cnN E D - eE E c) else 0
def facN (E : EN) (D : DY) (c : Nat) : Nat → Int32 := fun k => match k with
  | 0 => nI c
  | 1 => eK E c
  | 2 => eE E c
  | 3 => cnN E D
  | 4 => dA D c / 5
  | _ => nI (dT D % 10)
def shkN (E : EN) (D : DY) (c : Nat) : Int32 := shakeP (facN E D c) (eY E).2.2.2 0
def wobN (E : EN) (D : DY) (c : Nat) : Int32 := wobK (kN E c) (eV E c) (eE E c) (pacN E D c) (goeN E D c) (shkN E D c)
theorem oneT_congr {F F' : Nat → Int32} (h : ∀ k, k < 6 → F k = F' k) (t : TK) (st : List Bool) : oneT F t st = oneT F' t st := by
  unfold oneT
  by_cases h6 : t.1 < 6
  · rw [if_pos h6, if_pos h6]
    unfold tstT
    rw [h _ h6]
  · rw [if_neg h6, if_neg h6]
theorem evT_congr {F F' : Nat → Int32} (h : ∀ k, k < 6 → F k = F' k) : ∀ (l : List TK) (st : List Bool), evT F l st = evT F' l st
  | [], st => rfl
  | t :: l, st => by
    show evT F l (oneT F t st) = evT F' l (oneT F' t st)
    rw [oneT_congr h, evT_congr h l]
theorem shakeP_congr {F F' : Nat → Int32} (h : ∀ k, k < 6 → F k = F' k) : ∀ (l : List CLS) (z : Int32), shakeP F l z = shakeP F' l z
  | [], z => rfl
  | c :: l, z => by
    have e : holdsP F c.2.2 = holdsP F' c.2.2 := by unfold holdsP; rw [evT_congr h]
    unfold shakeP
    rw [e, shakeP_congr h l]
-- what is right of a scene's numbers
def EnOK (E : EN) : Prop := eN E ≤ 7 ∧ (∀ c, c < eN E → ∃ k, k < 7 ∧ eK E c = nI k) ∧ (∀ c, c < eN E → ∃ k, k ≤ 9 ∧ eV E c = nI k) ∧ (∀ c, c < eN E → ∃ k, k ≤ 9 ∧ eE E c = nI k) ∧ (∀ c, c < 28 → ∃ k, k ≤ 9 ∧ eR E c = nI k) ∧ (∀ c, c < 4 → ∃ k, 1 ≤ k ∧ k ≤ 9 ∧ eC E c = nI k) ∧
  (∃ k, 1 ≤ k ∧ k ≤ 99 ∧ (eY E).1 = nI k) ∧ (∃ k, k ≤ 99 ∧ (eY E).2.1 = nI k) ∧ (∃ k, k ≤ 99 ∧ (eY E).2.2.1 = nI k)
/-- yard y of the class holds yd -/
def YdR (y : Nat) (S : SS) (yd : YD) : Prop := S (11 + 6 * y) 7 = nI yd.2.2.2.length ∧ yd.2.2.2.length ≤ 10 ∧ (∀ i c, yd.2.2.2[i]? = some c → ClR y S i c) ∧ S (11 + 6 * y) 10 = yd.1 ∧ S (11 + 6 * y) 11 = yd.2.1 ∧ S (11 + 6 * y) 12 = yd.2.2.1
theorem YdR.off {y : Nat} (hy : y < 7) {S S' : SS} {yd : YD} (h : YdR y S yd) (ho : ∀ j, 11 ≤ j → j < 53 → S' j = S j) : YdR y S' yd := by
  obtain ⟨h1, h2, h3, h4, h5, h6⟩ := h
  refine ⟨by rw [ho _ (by omega) (by omega)]; exact h1, h2, fun i c hc => ?_, by rw [ho _ (by omega) (by omega)]; exact h4, by rw [ho _ (by omega) (by omega)]; exact h5, by rw [ho _ (by omega) (by omega)]; exact h6⟩
  have := h3 i c hc
  unfold ClR at this ⊢
  rw [ho (11 + 6 * y + 1) (by omega) (by omega), ho (11 + 6 * y + 2) (by omega) (by omega), ho (11 + 6 * y + 3) (by omega) (by omega), ho (11 + 6 * y + 4) (by omega) (by omega), ho (11 + 6 * y + 5) (by omega) (by omega)]
  exact this
theorem c_shakeY (g : GG) {y : Nat} (hy : y < 7) (yd : YD) (S : SS) (L : LL) (hY : YdR y S yd) : Ci g 2 mX10_shakeFor [.ref (11 + 6 * y), .ref 96] SHC S L (fun r S' L' => r = shakeP (S 96) yd.2.2.2 0 ∧ S' = S ∧ L' = L) := c_shakeFor g hy yd.2.2.2 S L hY.1 hY.2.2.1 hY.2.1
/-- the scene at b holds E and D -/
def ScR (b : Nat) (S : SS) (E : EN) (D : DY) : Prop := S b 6 = nI (eN E) ∧ (∀ c, c < 7 → S (b + 1) c = eK E c) ∧ (∀ c, c < 7 → S (b + 2) c = eV E c) ∧ (∀ c, c < 7 → S (b + 4) c = eE E c) ∧ (∀ c, c < 28 → S (b + 6) c = eR E c) ∧ (∀ c, c < 4 → S (b + 7) c = eC E c) ∧
  (∃ y, y < 7 ∧ S b 10 = nI y ∧ YdR y S (eY E)) ∧ (∀ c, c < 7 → S (b + 3) c = dA D c) ∧ S b 7 = dW D ∧ S b 9 = nI (dT D) ∧ dT D < 20000 ∧ (∀ c, c < 7 → S (b + 5) c = dS D c)
theorem Sc.le {b : Nat} (h : Sc b) : 53 ≤ b ∧ b ≤ 79 := by unfold Sc at h; omega

theorem kE {k : Nat} (h : k < 7) : ([(2, 2, 0), (2, 3, 0), (2, 4, 0), (2, 5, 0), (2, 6, 0), (2, 7, 0), (2, 8, 0)] : List (Nat × Nat × Nat))[k]? = some (2, 2 + k, 0) := by rcases y7 h with rfl | rfl | rfl | rfl | rfl | rfl | rfl <;> rfl
theorem fs_pace (g : GG) {n0 : Nat} {Q : Option Value → List CS → SS → LL → Prop} {ls : List (Option Value)} {S : SS} {L : LL} {k : Nat} (hk : k < 7) {m v c : Int32} (kk : Rx g 4 0 0 mX9_foresee n0 Q 0 0 74 ls (.int (paceK k v m) :: .int c :: .ref 93 :: []) SHC S L) : Rx g 4 0 0 mX9_foresee n0 Q 0 0 71 ls (.int m :: .int v :: .ref (2 + k) :: .int c :: .ref 93 :: []) SHC S L := by
  rcases y7 hk with rfl | rfl | rfl | rfl | rfl | rfl | rfl
  · refine rx_cVi_2 clX9_62_X2 dX9_foresee_71 (rcvo sC_2 rfl) rfl (c_pace_Child g _ _ _ _) ?_
    exact pur3 kk
  · refine rx_cVi_2 clX9_62_X3 dX9_foresee_71 (rcvo sC_3 rfl) rfl (c_pace_Quick g sC_3 rfl _ _ _ _) ?_
    exact pur3 kk
  · refine rx_cVi_2 clX9_62_X7 dX9_foresee_71 (rcvo sC_4 rfl) rfl (c_pace_Child g _ _ _ _) ?_
    exact pur3 kk
  · refine rx_cVi_2 clX9_62_X6 dX9_foresee_71 (rcvo sC_5 rfl) rfl (c_pace_Small g _ _ _ _) ?_
    exact pur3 kk
  · refine rx_cVi_2 clX9_62_X4 dX9_foresee_71 (rcvo sC_6 rfl) rfl (c_pace_Reckless g sC_6 rfl _ _ _ _) ?_
    exact pur3 kk
  · refine rx_cVi_2 clX9_62_X1 dX9_foresee_71 (rcvo sC_7 rfl) rfl (c_pace_Careful g sC_7 rfl _ _ _ _) ?_
    exact pur3 kk
  · refine rx_cVi_2 clX9_62_X8 dX9_foresee_71 (rcvo sC_8 rfl) rfl (c_pace_Told g sC_8 rfl _ _ _ _) ?_
    exact pur3 kk
theorem fs_wob (g : GG) {n0 : Nat} {Q : Option Value → List CS → SS → LL → Prop} {ls : List (Option Value)} {S : SS} {L : LL} {k : Nat} (hk : k < 7) {v e p q s c : Int32} (kk : Rx g 4 0 0 mX9_foresee n0 Q 0 0 204 ls (.int (wobK k v e p q s) :: .int c :: .ref 95 :: []) SHC S L) : Rx g 4 0 0 mX9_foresee n0 Q 0 0 201 ls (.int s :: .int q :: .int p :: .int e :: .int v :: .ref (2 + k) :: .int c :: .ref 95 :: []) SHC S L := by
  rcases y7 hk with rfl | rfl | rfl | rfl | rfl | rfl | rfl
  · refine rx_cVi_5 clX9_82_X2 dX9_foresee_201 (rcvo sC_2 rfl) rfl (c_wob_Child g _ _ _ _ _ _ _) ?_
    exact pur3 kk
  · refine rx_cVi_5 clX9_82_X3 dX9_foresee_201 (rcvo sC_3 rfl) rfl (c_wob_Child g _ _ _ _ _ _ _) ?_
    exact pur3 kk
  · refine rx_cVi_5 clX9_82_X7 dX9_foresee_201 (rcvo sC_4 rfl) rfl (c_wob_Steady g sC_4 rfl _ _ _ _ _ _ _) ?_
    exact pur3 kk
  · refine rx_cVi_5 clX9_82_X6 dX9_foresee_201 (rcvo sC_5 rfl) rfl (c_wob_Small g sC_5 rfl _ _ _ _ _ _ _) ?_
    exact pur3 kk
  · refine rx_cVi_5 clX9_82_X4 dX9_foresee_201 (rcvo sC_6 rfl) rfl (c_wob_Reckless g sC_6 rfl _ _ _ _ _ _ _) ?_
    exact pur3 kk
  · refine rx_cVi_5 clX9_82_X1 dX9_foresee_201 (rcvo sC_7 rfl) rfl (c_wob_Careful g sC_7 rfl _ _ _ _ _ _ _) ?_
    exact pur3 kk
  · refine rx_cVi_5 clX9_82_X8 dX9_foresee_201 (rcvo sC_8 rfl) rfl (c_wob_Small g sC_8 rfl _ _ _ _ _ _ _) ?_
    exact pur3 kk
set_option maxRecDepth 20000 in
set_option maxHeartbeats 1000000 in
theorem c_placeNow (g : GG) {b : Nat} (hb : Sc b) (t : Nat) (S : SS) (L : LL) (ht : S b 9 = nI t) (h2 : t < 20000) : Ci g 0 mX5_placeNow [.ref b] SHC S L (fun r S' L' => r = nI (t % 4) ∧ S' = S ∧ L' = L) := by
  refine ct_of (ls := [some (.ref b)]) 0 (by decide +kernel) rfl rfl ?_
  refine rx_aload_n dX5_placeNow_0 rfl ?_
  refine rx_getI dX5_placeNow_1 flX5_65 (scO hb) rfl ?_
  refine rx_iconst (3) dX5_placeNow_4 (by decide) ?_
  refine rx_iand dX5_placeNow_5 ?_
  rw [ht, show nI t &&& 3 = nI (t % 4) from pk_andN (by omega) (k := 2) (by decide +kernel)]
  exact rx_iret dX5_placeNow_6 rfl ⟨Nat.le_refl _, Nat.le_refl _⟩ ⟨rfl, _, rfl, ⟨rfl, rfl, rfl⟩⟩
theorem k6 {k : Nat} (h : k < 6) : k = 0 ∨ k = 1 ∨ k = 2 ∨ k = 3 ∨ k = 4 ∨ k = 5 := by omega
set_option maxRecDepth 20000 in
set_option maxHeartbeats 2000000 in
theorem c_foresee (g : GG) {b : Nat} (hb : Sc b) (E : EN) (D : DY) (S : SS) (L : LL) (hE : EnOK E) (hR : ScR b S E D) : Cv g 4 mX9_foresee [.ref 92, .ref b] SHC S L (fun S' L' => ((∀ c, c < eN E → S' 93 c = pacN E D c ∧ S' 94 c = goeN E D c ∧ S' 95 c = wobN E D c) ∧ ∀ j, ¬ (93 ≤ j ∧ j ≤ 96) → S' j = S j) ∧ L' = L) := by
  refine ct_of (ls := [some (.ref 92), some (.ref b), none, none, none, none, none, none]) 6 (by decide +kernel) rfl rfl ?_
  have hbl := hb.le
  have hn7 := hE.1
  have hT : dT D < 20000 := hR.2.2.2.2.2.2.2.2.2.2.1
  have ht : S b 9 = nI (dT D) := hR.2.2.2.2.2.2.2.2.2.1
  obtain ⟨y, hy, hyS, hYd⟩ := hR.2.2.2.2.2.2.1
  have hv4 : vp_in (nI (dT D % 4)) 4 := vp_in_nI (by omega) (by omega)
  have hcy : (nI y).toNatClampNeg = y := nI_clamp (by omega)
  have loop : ∀ (r c : Nat) (S1 : SS), c ≤ eN E → c + r = eN E → ((∀ c', c' < c → S1 93 c' = pacN E D c' ∧ S1 94 c' = goeN E D c' ∧ S1 95 c' = wobN E D c') ∧ ∀ j, ¬ (93 ≤ j ∧ j ≤ 96) → S1 j = S j) → Rx g 4 0 0 mX9_foresee SHC.length (fun r sh' S' L' => sh' = SHC ∧ r = none ∧ (((∀ c, c < eN E → S' 93 c = pacN E D c ∧ S' 94 c = goeN E D c ∧ S' 95 c = wobN E D c) ∧ ∀ j, ¬ (93 ≤ j ∧ j ≤ 96) → S' j = S j) ∧ L' = L)) 0 0 12 [some (.ref 92), some (.ref b), some (.int (cnN E D)), some (.int (nI c)), none, none, none, none] [] SHC S1 L := by
    intro r
    induction r with
    | zero =>
      intro c S1 hc1 hc2 hI
      have hsz : S1 b 6 = nI (eN E) := by rw [hI.2 b (by omega)]; exact hR.1
      refine rx_iload_n dX9_foresee_12 rfl ?_
      refine rx_aload_n dX9_foresee_13 rfl ?_
      refine rx_getI dX9_foresee_14 flX9_46 (scO hb) rfl ?_
      refine rx_icmp_ge 211 dX9_foresee_17 (by decide) (fun h17 => ?_) (fun h17 => absurd (by rw [hsz]; exact nI_le (by omega) (by omega)) h17)
      exact rx_vret dX9_foresee_211 rfl ⟨Nat.le_refl _, Nat.le_refl _⟩ ⟨rfl, rfl, ⟨⟨fun c1 h1 => hI.1 c1 (by omega), hI.2⟩, rfl⟩⟩
    | succ r ih =>
      intro c S1 hc1 hc2 hI
      have hc7 : c < 7 := by omega
      have hsz : S1 b 6 = nI (eN E) := by rw [hI.2 b (by omega)]; exact hR.1
      have hci : (nI c).toNatClampNeg = c := nI_clamp (by omega)
      have hvc : vp_in (nI c) 7 := vp_in_nI hc7 (by omega)
      obtain ⟨k, hk, hkE⟩ := hE.2.1 c (by omega)
      have hck : (nI k).toNatClampNeg = k := nI_clamp (by omega)
      have hkn : kN E c = k := by unfold kN; rw [hkE]; exact hck
      have hvk : vp_in (nI k) 7 := vp_in_nI hk (by omega)
      have hk0 : S1 (b + 1) c = nI k := by rw [hI.2 _ (by omega), hR.2.1 c hc7]; exact hkE
      have hv0 : S1 (b + 2) c = eV E c := by rw [hI.2 _ (by omega)]; exact hR.2.2.1 c hc7
      have her : S1 (b + 4) c = eE E c := by rw [hI.2 _ (by omega)]; exact hR.2.2.2.1 c hc7
      have hat : S1 (b + 3) c = dA D c := by rw [hI.2 _ (by omega)]; exact hR.2.2.2.2.2.2.2.1 c hc7
      have hr28 : c * 4 + dT D % 4 < 28 := by omega
      have hcr : (nI (c * 4 + dT D % 4)).toNatClampNeg = c * 4 + dT D % 4 := nI_clamp (by omega)
      have hvr : vp_in (nI (c * 4 + dT D % 4)) 28 := vp_in_nI hr28 (by omega)
      have hrw : S1 (b + 6) (c * 4 + dT D % 4) = eR E (c * 4 + dT D % 4) := by rw [hI.2 _ (by omega)]; exact hR.2.2.2.2.1 _ hr28
      have ht : S1 b 9 = nI (dT D) := by rw [hI.2 b (by omega)]; exact ht
      have hy0 : S1 b 10 = nI y := by rw [hI.2 b (by omega)]; exact hyS
      have hpa : paceK k (eV E c) (eR E (c * 4 + dT D % 4)) = pacN E D c := by unfold pacN; rw [hkn]
      refine rx_iload_n dX9_foresee_12 rfl ?_
      refine rx_aload_n dX9_foresee_13 rfl ?_
      refine rx_getI dX9_foresee_14 flX9_46 (scO hb) rfl ?_
      refine rx_icmp_ge 211 dX9_foresee_17 (by decide) (fun h17 => absurd h17 (by rw [hsz]; exact nI_ge (by omega) (by omega))) (fun h17 => ?_)
      refine rx_aload_n dX9_foresee_20 rfl ?_
      refine rx_getR dX9_foresee_21 flX9_34 (sC_92) rfl ?_
      refine rx_aload_n dX9_foresee_24 rfl ?_
      refine rx_getR dX9_foresee_25 flX9_50 (scO hb) rfl ?_
      refine rx_iload_n dX9_foresee_28 rfl ?_
      refine rx_iaload dX9_foresee_29 (scA1 hb) hvc ?_
      rw [hci, hk0]
      refine rx_aaload5 dX9_foresee_30 (sC_1) hvk (by rw [hck]; exact kE hk) ?_
      refine rx_astore_4 rfl dX9_foresee_31 ?_
      refine rx_aload_n dX9_foresee_33 rfl ?_
      refine rx_getR dX9_foresee_34 flX9_53 (scO hb) rfl ?_
      refine rx_iload_n dX9_foresee_37 rfl ?_
      refine rx_iaload dX9_foresee_38 (scA4 hb) hvc ?_
      rw [hci, her]
      refine rx_istore_5 rfl dX9_foresee_39 ?_
      refine rx_aload_n dX9_foresee_41 rfl ?_
      refine rx_getR dX9_foresee_42 flX9_56 (scO hb) rfl ?_
      refine rx_iload_n dX9_foresee_45 rfl ?_
      refine rx_iaload dX9_foresee_46 (scA2 hb) hvc ?_
      rw [hci, hv0]
      refine rx_istore_6 rfl dX9_foresee_47 ?_
      refine rx_aload_n dX9_foresee_49 rfl ?_
      refine rx_getR dX9_foresee_50 flX9_9 (sC_92) rfl ?_
      refine rx_iload_n dX9_foresee_53 rfl ?_
      refine rx_aload dX9_foresee_54 rfl ?_
      refine rx_iload dX9_foresee_56 rfl ?_
      refine rx_aload_n dX9_foresee_58 rfl ?_
      refine rx_getR dX9_foresee_59 flX9_59 (scO hb) rfl ?_
      refine rx_iload_n dX9_foresee_62 rfl ?_
      refine rx_iconst (4) dX9_foresee_63 (by decide) ?_
      refine rx_imul dX9_foresee_64 ?_
      refine rx_aload_n dX9_foresee_65 rfl ?_
      refine rx_cVi_0 clX9_43 dX9_foresee_66 (rcvo (scO hb) rfl) rfl (c_placeNow g hb (dT D) _ L ht hT) ?_
      refine pur3 ?_
      skip
      refine rx_iadd dX9_foresee_69 ?_
      rw [show nI c * 4 + nI (dT D % 4) = nI (c * 4 + dT D % 4) from by rw [show (4 : Int32) = nI 4 from rfl, pk_mul, nI_add]]
      refine rx_iaload dX9_foresee_70 (scA6 hb) hvr ?_
      rw [hcr, hrw]
      refine fs_pace g hk ?_
      refine rx_iastore dX9_foresee_74 (sC_93) hvc ?_
      refine rx_aload_n dX9_foresee_75 rfl ?_
      refine rx_getR dX9_foresee_76 flX9_15 (sC_92) rfl ?_
      refine rx_iload_n dX9_foresee_79 rfl ?_
      refine rx_iload_n dX9_foresee_80 rfl ?_
      refine rx_iload dX9_foresee_81 rfl ?_
      refine rx_icmp_le 100 dX9_foresee_83 (by decide) (fun h83 => ?_) (fun h83 => ?_)
      · have hgo : goeN E D c = 0 := by
          unfold goeN
          rw [if_neg (Int32.not_lt.mpr h83)]
        refine rx_iconst (0) dX9_foresee_100 (by decide) ?_
        refine rx_iastore dX9_foresee_101 (sC_94) hvc ?_
        refine rx_aload_n dX9_foresee_102 rfl ?_
        refine rx_getR dX9_foresee_103 flX9_31 (sC_92) rfl ?_
        refine rx_iconst (0) dX9_foresee_106 (by decide) ?_
        refine rx_iload_n dX9_foresee_107 rfl ?_
        refine rx_iastore dX9_foresee_108 (sC_96) (vp_in_nI (n := 0) (by decide) (by decide)) ?_
        refine rx_aload_n dX9_foresee_109 rfl ?_
        refine rx_getR dX9_foresee_110 flX9_31 (sC_92) rfl ?_
        refine rx_iconst (1) dX9_foresee_113 (by decide) ?_
        refine rx_aload_n dX9_foresee_114 rfl ?_
        refine rx_getR dX9_foresee_115 flX9_50 (scO hb) rfl ?_
        refine rx_iload_n dX9_foresee_118 rfl ?_
        refine rx_iaload dX9_foresee_119 (scA1 hb) hvc ?_
        simp (disch := omega) only [upS_off, hci, hkE]
        refine rx_iastore dX9_foresee_120 (sC_96) (vp_in_nI (n := 1) (by decide) (by decide)) ?_
        refine rx_aload_n dX9_foresee_121 rfl ?_
        refine rx_getR dX9_foresee_122 flX9_31 (sC_92) rfl ?_
        refine rx_iconst (2) dX9_foresee_125 (by decide) ?_
        refine rx_iload dX9_foresee_126 rfl ?_
        refine rx_iastore dX9_foresee_128 (sC_96) (vp_in_nI (n := 2) (by decide) (by decide)) ?_
        refine rx_aload_n dX9_foresee_129 rfl ?_
        refine rx_getR dX9_foresee_130 flX9_31 (sC_92) rfl ?_
        refine rx_iconst (3) dX9_foresee_133 (by decide) ?_
        refine rx_iload_n dX9_foresee_134 rfl ?_
        refine rx_iastore dX9_foresee_135 (sC_96) (vp_in_nI (n := 3) (by decide) (by decide)) ?_
        refine rx_aload_n dX9_foresee_136 rfl ?_
        refine rx_getR dX9_foresee_137 flX9_31 (sC_92) rfl ?_
        refine rx_iconst (4) dX9_foresee_140 (by decide) ?_
        refine rx_aload_n dX9_foresee_141 rfl ?_
        refine rx_getR dX9_foresee_142 flX9_68 (scO hb) rfl ?_
        refine rx_iload_n dX9_foresee_145 rfl ?_
        refine rx_iaload dX9_foresee_146 (scA3 hb) hvc ?_
        simp (disch := omega) only [upS_off, hci, hat]
        refine rx_iconst (5) dX9_foresee_147 (by decide) ?_
        refine rx_idiv dX9_foresee_148 (by decide) ?_
        refine rx_iastore dX9_foresee_149 (sC_96) (vp_in_nI (n := 4) (by decide) (by decide)) ?_
        refine rx_aload_n dX9_foresee_150 rfl ?_
        refine rx_getR dX9_foresee_151 flX9_31 (sC_92) rfl ?_
        refine rx_iconst (5) dX9_foresee_154 (by decide) ?_
        refine rx_aload_n dX9_foresee_155 rfl ?_
        refine rx_getI dX9_foresee_156 flX9_71 (scO hb) rfl ?_
        simp (disch := omega) only [upS_off, ht]
        refine rx_bipush (10) dX9_foresee_159 (by decide) ?_
        skip
        refine rx_irem dX9_foresee_161 (by decide) ?_
        rw [show nI (dT D) - nI (dT D) / 10 * 10 = nI (dT D % 10) from pk_rem (d := 10) (by omega) (by omega) (by omega)]
        refine rx_iastore dX9_foresee_162 (sC_96) (vp_in_nI (n := 5) (by decide) (by decide)) ?_
        refine rx_aload_n dX9_foresee_163 rfl ?_
        refine rx_getD dX9_foresee_164 flX9_74 (scO hb) rfl ?_
        simp (disch := omega) only [upS_off, hy0, hcy]
        refine rx_aload_n dX9_foresee_167 rfl ?_
        refine rx_getR dX9_foresee_168 flX9_31 (sC_92) rfl ?_
        refine rx_cVi_1 clX9_78 dX9_foresee_171 (rcvo (syO hy) rfl) rfl (c_shakeY g hy (eY E) _ L (hYd.off hy (fun j h1 h2 => by simp (disch := omega) only [upS_off]; exact hI.2 j (by omega)))) ?_
        rintro x9 S9 L9 ⟨hx9, hS9, hL9⟩
        have hx9 : x9 = shkN E D c := by
          rw [hx9]
          refine shakeP_congr (fun k hk => ?_) _ _
          simp (disch := omega) only [upS_off, upS_row]
          rcases k6 hk with rfl | rfl | rfl | rfl | rfl | rfl <;> simp [upd, facN, hk0, hkE]
        rw [hS9, hL9, hx9]
        refine rx_istore_7 rfl dX9_foresee_174 ?_
        refine rx_aload_n dX9_foresee_176 rfl ?_
        refine rx_getR dX9_foresee_177 flX9_18 (sC_92) rfl ?_
        refine rx_iload_n dX9_foresee_180 rfl ?_
        refine rx_aload dX9_foresee_181 rfl ?_
        refine rx_iload dX9_foresee_183 rfl ?_
        refine rx_iload dX9_foresee_185 rfl ?_
        refine rx_aload_n dX9_foresee_187 rfl ?_
        refine rx_getR dX9_foresee_188 flX9_9 (sC_92) rfl ?_
        refine rx_iload_n dX9_foresee_191 rfl ?_
        refine rx_iaload dX9_foresee_192 (sC_93) hvc ?_
        refine rx_aload_n dX9_foresee_193 rfl ?_
        refine rx_getR dX9_foresee_194 flX9_15 (sC_92) rfl ?_
        refine rx_iload_n dX9_foresee_197 rfl ?_
        refine rx_iaload dX9_foresee_198 (sC_94) hvc ?_
        refine rx_iload dX9_foresee_199 rfl ?_
        refine fs_wob g hk ?_
        refine rx_iastore dX9_foresee_204 (sC_95) hvc ?_
        refine rx_iinc_3 (1) rfl dX9_foresee_205 (by decide) ?_
        refine rx_goto 12 dX9_foresee_208 (by decide) ?_
        refine rx_wk [some (.ref 92), some (.ref b), some (.int (cnN E D)), some (.int (nI c + 1)), none, none, none, none] ⟨Or.inr rfl, Or.inr rfl, Or.inr rfl, Or.inr rfl, Or.inl rfl, Or.inl rfl, Or.inl rfl, Or.inl rfl, trivial⟩ ?_
        rw [nI_1]
        refine ih (c + 1) _ (by omega) (by omega) ⟨fun c' hc' => ?_, fun j hj => ?_⟩
        · simp (disch := omega) only [upS_off, upS_row, hci]
          by_cases e : c' = c
          · subst e
            simp only [upd, if_true]
            exact ⟨hpa, hgo.symm, by unfold wobN; rw [hkn, hgo, ← hpa]⟩
          · simp only [upd, if_neg e]
            exact hI.1 c' (by omega)
        · simp (disch := omega) only [upS_off]
          exact hI.2 j hj
      · have hgo : goeN E D c = paceK k (eV E c) (eR E (c * 4 + dT D % 4)) * (cnN E D - eE E c) := by
          unfold goeN pacN
          rw [hkn, if_pos (Int32.not_le.mp h83)]
        refine rx_aload_n dX9_foresee_86 rfl ?_
        refine rx_getR dX9_foresee_87 flX9_9 (sC_92) rfl ?_
        refine rx_iload_n dX9_foresee_90 rfl ?_
        refine rx_iaload dX9_foresee_91 (sC_93) hvc ?_
        rw [hci, upS_row]
        simp only [upd, if_true]
        refine rx_iload_n dX9_foresee_92 rfl ?_
        refine rx_iload dX9_foresee_93 rfl ?_
        refine rx_isub dX9_foresee_95 ?_
        skip
        refine rx_imul dX9_foresee_96 ?_
        refine rx_goto 101 dX9_foresee_97 (by decide) ?_
        refine rx_iastore dX9_foresee_101 (sC_94) hvc ?_
        refine rx_aload_n dX9_foresee_102 rfl ?_
        refine rx_getR dX9_foresee_103 flX9_31 (sC_92) rfl ?_
        refine rx_iconst (0) dX9_foresee_106 (by decide) ?_
        refine rx_iload_n dX9_foresee_107 rfl ?_
        refine rx_iastore dX9_foresee_108 (sC_96) (vp_in_nI (n := 0) (by decide) (by decide)) ?_
        refine rx_aload_n dX9_foresee_109 rfl ?_
        refine rx_getR dX9_foresee_110 flX9_31 (sC_92) rfl ?_
        refine rx_iconst (1) dX9_foresee_113 (by decide) ?_
        refine rx_aload_n dX9_foresee_114 rfl ?_
        refine rx_getR dX9_foresee_115 flX9_50 (scO hb) rfl ?_
        refine rx_iload_n dX9_foresee_118 rfl ?_
        refine rx_iaload dX9_foresee_119 (scA1 hb) hvc ?_
        simp (disch := omega) only [upS_off, hci, hkE]
        refine rx_iastore dX9_foresee_120 (sC_96) (vp_in_nI (n := 1) (by decide) (by decide)) ?_
        refine rx_aload_n dX9_foresee_121 rfl ?_
        refine rx_getR dX9_foresee_122 flX9_31 (sC_92) rfl ?_
        refine rx_iconst (2) dX9_foresee_125 (by decide) ?_
        refine rx_iload dX9_foresee_126 rfl ?_
        refine rx_iastore dX9_foresee_128 (sC_96) (vp_in_nI (n := 2) (by decide) (by decide)) ?_
        refine rx_aload_n dX9_foresee_129 rfl ?_
        refine rx_getR dX9_foresee_130 flX9_31 (sC_92) rfl ?_
        refine rx_iconst (3) dX9_foresee_133 (by decide) ?_
        refine rx_iload_n dX9_foresee_134 rfl ?_
        refine rx_iastore dX9_foresee_135 (sC_96) (vp_in_nI (n := 3) (by decide) (by decide)) ?_
        refine rx_aload_n dX9_foresee_136 rfl ?_
        refine rx_getR dX9_foresee_137 flX9_31 (sC_92) rfl ?_
        refine rx_iconst (4) dX9_foresee_140 (by decide) ?_
        refine rx_aload_n dX9_foresee_141 rfl ?_
        refine rx_getR dX9_foresee_142 flX9_68 (scO hb) rfl ?_
        refine rx_iload_n dX9_foresee_145 rfl ?_
        refine rx_iaload dX9_foresee_146 (scA3 hb) hvc ?_
        simp (disch := omega) only [upS_off, hci, hat]
        refine rx_iconst (5) dX9_foresee_147 (by decide) ?_
        refine rx_idiv dX9_foresee_148 (by decide) ?_
        refine rx_iastore dX9_foresee_149 (sC_96) (vp_in_nI (n := 4) (by decide) (by decide)) ?_
        refine rx_aload_n dX9_foresee_150 rfl ?_
        refine rx_getR dX9_foresee_151 flX9_31 (sC_92) rfl ?_
        refine rx_iconst (5) dX9_foresee_154 (by decide) ?_
        refine rx_aload_n dX9_foresee_155 rfl ?_
        refine rx_getI dX9_foresee_156 flX9_71 (scO hb) rfl ?_
        simp (disch := omega) only [upS_off, ht]
        refine rx_bipush (10) dX9_foresee_159 (by decide) ?_
        skip
        refine rx_irem dX9_foresee_161 (by decide) ?_
        rw [show nI (dT D) - nI (dT D) / 10 * 10 = nI (dT D % 10) from pk_rem (d := 10) (by omega) (by omega) (by omega)]
        refine rx_iastore dX9_foresee_162 (sC_96) (vp_in_nI (n := 5) (by decide) (by decide)) ?_
        refine rx_aload_n dX9_foresee_163 rfl ?_
        refine rx_getD dX9_foresee_164 flX9_74 (scO hb) rfl ?_
        simp (disch := omega) only [upS_off, hy0, hcy]
        refine rx_aload_n dX9_foresee_167 rfl ?_
        refine rx_getR dX9_foresee_168 flX9_31 (sC_92) rfl ?_
        refine rx_cVi_1 clX9_78 dX9_foresee_171 (rcvo (syO hy) rfl) rfl (c_shakeY g hy (eY E) _ L (hYd.off hy (fun j h1 h2 => by simp (disch := omega) only [upS_off]; exact hI.2 j (by omega)))) ?_
        rintro x9 S9 L9 ⟨hx9, hS9, hL9⟩
        have hx9 : x9 = shkN E D c := by
          rw [hx9]
          refine shakeP_congr (fun k hk => ?_) _ _
          simp (disch := omega) only [upS_off, upS_row]
          rcases k6 hk with rfl | rfl | rfl | rfl | rfl | rfl <;> simp [upd, facN, hk0, hkE]
        rw [hS9, hL9, hx9]
        refine rx_istore_7 rfl dX9_foresee_174 ?_
        refine rx_aload_n dX9_foresee_176 rfl ?_
        refine rx_getR dX9_foresee_177 flX9_18 (sC_92) rfl ?_
        refine rx_iload_n dX9_foresee_180 rfl ?_
        refine rx_aload dX9_foresee_181 rfl ?_
        refine rx_iload dX9_foresee_183 rfl ?_
        refine rx_iload dX9_foresee_185 rfl ?_
        refine rx_aload_n dX9_foresee_187 rfl ?_
        refine rx_getR dX9_foresee_188 flX9_9 (sC_92) rfl ?_
        refine rx_iload_n dX9_foresee_191 rfl ?_
        refine rx_iaload dX9_foresee_192 (sC_93) hvc ?_
        refine rx_aload_n dX9_foresee_193 rfl ?_
        refine rx_getR dX9_foresee_194 flX9_15 (sC_92) rfl ?_
        refine rx_iload_n dX9_foresee_197 rfl ?_
        refine rx_iaload dX9_foresee_198 (sC_94) hvc ?_
        refine rx_iload dX9_foresee_199 rfl ?_
        refine fs_wob g hk ?_
        refine rx_iastore dX9_foresee_204 (sC_95) hvc ?_
        refine rx_iinc_3 (1) rfl dX9_foresee_205 (by decide) ?_
        refine rx_goto 12 dX9_foresee_208 (by decide) ?_
        refine rx_wk [some (.ref 92), some (.ref b), some (.int (cnN E D)), some (.int (nI c + 1)), none, none, none, none] ⟨Or.inr rfl, Or.inr rfl, Or.inr rfl, Or.inr rfl, Or.inl rfl, Or.inl rfl, Or.inl rfl, Or.inl rfl, trivial⟩ ?_
        rw [nI_1]
        refine ih (c + 1) _ (by omega) (by omega) ⟨fun c' hc' => ?_, fun j hj => ?_⟩
        · simp (disch := omega) only [upS_off, upS_row, hci]
          by_cases e : c' = c
          · subst e
            simp only [upd, if_true]
            exact ⟨hpa, hgo.symm, by unfold wobN; rw [hkn, hgo, ← hpa]⟩
          · simp only [upd, if_neg e]
            exact hI.1 c' (by omega)
        · simp (disch := omega) only [upS_off]
          exact hI.2 j hj
  refine rx_aload_n dX9_foresee_0 rfl ?_
  refine rx_getR dX9_foresee_1 flX9_38 (scO hb) rfl ?_
  refine rx_aload_n dX9_foresee_4 rfl ?_
  refine rx_cVi_0 clX9_43 dX9_foresee_5 (rcvo (scO hb) rfl) rfl (c_placeNow g hb (dT D) _ L ht hT) ?_
  refine pur3 ?_
  refine rx_iaload dX9_foresee_8 (scA7 hb) hv4 ?_
  rw [show (nI (dT D % 4)).toNatClampNeg = dT D % 4 from nI_clamp (by omega), hR.2.2.2.2.2.1 _ (by omega)]
  refine rx_istore_2 rfl dX9_foresee_9 ?_
  refine rx_iconst (0) dX9_foresee_10 (by decide) ?_
  refine rx_istore_3 rfl dX9_foresee_11 ?_
  exact loop (eN E) 0 S (by omega) (by omega) ⟨fun _ h => absurd h (by omega), fun _ _ => rfl⟩
