-- TAPES
theorem sTp {t : Nat} (h : t < 6) : SHC[100 + t]? = some (2, 60, []) := by rcases k6 h with rfl | rfl | rfl | rfl | rfl | rfl <;> rfl
theorem kTp {t : Nat} (h : t < 6) : ([(2, 100, 0), (2, 101, 0), (2, 102, 0), (2, 103, 0), (2, 104, 0), (2, 105, 0)] : List (Nat × Nat × Nat))[t]? = some (2, 100 + t, 0) := by rcases k6 h with rfl | rfl | rfl | rfl | rfl | rfl <;> rfl
def wTp (σ : SIG) (t : Nat) (s : Int32) (z : Nat) (f : Nat → Int64) : SIG := (σ.1, σ.2.1, σ.2.2.1, σ.2.2.2.1, σ.2.2.2.2.1, σ.2.2.2.2.2.1, σ.2.2.2.2.2.2.1, gB σ, upd (gS σ) t s, fun q => if q = t then z else gZ σ q, fun q => if q = t then f else gL σ q)
theorem CRel.tape {S S' : SS} {L L' : LL} {σ : SIG} (h : CRel S L σ) (t : Nat) (s : Int32) (z : Nat) (f : Nat → Int64) (ho : ∀ j, j ≠ 106 → j ≠ 107 → S' j = S j) (h6 : ∀ q, q < 6 → S' 106 q = upd (S 106) t s q) (h7 : ∀ q, q < 6 → S' 107 q = upd (S 107) t (nI z) q) (hl : ∀ q, q < 6 → q ≠ t → L' (100 + q) = L (100 + q)) (hf : ∀ i, i < z → L' (100 + t) i = f i) (hok : (s = -1 ∧ z = 0) ∨ ((∃ k, k ≤ 4 ∧ s = nI k) ∧ z ≤ 60)) : CRel S' L' (wTp σ t s z f) := by
  obtain ⟨⟨k0, k1, k2, k3, k4, k5, k6, k7, k8, k9⟩, h1, h2, h3, h4, h5, h6', h7', h8, h9, h10⟩ := h
  refine ⟨⟨k0, k1, k2, k3, k4, k5, k6, k7, k8, fun q hq => ?_⟩, h1.off (fun j hj => ho j (by omega) (by omega)), fun e => (h2 e).off (fun j hj => ho j (by omega) (by omega)), by rw [ho 0 (by omega) (by omega)]; exact h3, by rw [ho 0 (by omega) (by omega)]; exact h4, fun y hy => (h5 y hy).off (by have : y ≤ gC σ := hy; omega) (fun j g1 g2 => ho j (by omega) (by omega)), by rw [ho 0 (by omega) (by omega)]; exact h6', fun i q hq => by rw [ho 9 (by omega) (by omega)]; exact h7' i q hq, by rw [ho 97 (by omega) (by omega)]; exact h8, fun i g1 g2 => by rw [ho 98 (by omega) (by omega)]; exact h9 i g1 g2, fun q hq => ?_⟩
  · show (upd (gS σ) t s q = -1 ∧ (if q = t then z else gZ σ q) = 0) ∨ ((∃ k, k ≤ 4 ∧ upd (gS σ) t s q = nI k) ∧ (if q = t then z else gZ σ q) ≤ 60)
    by_cases e : q = t
    · rw [e, pk_us, if_pos rfl]; exact hok
    · rw [pk_un e, if_neg e]; exact k9 q hq
  · obtain ⟨g1, g2, g3⟩ := h10 q hq
    refine ⟨?_, ?_, ?_⟩
    · rw [h6 q hq]
      show upd (S 106) t s q = upd (gS σ) t s q
      by_cases e : q = t
      · rw [e, pk_us, pk_us]
      · rw [pk_un e, pk_un e]; exact g1
    · rw [h7 q hq]
      show upd (S 107) t (nI z) q = nI (if q = t then z else gZ σ q)
      by_cases e : q = t
      · rw [e, pk_us, if_pos rfl]
      · rw [pk_un e, if_neg e]; exact g2
    · show ∀ i, i < (if q = t then z else gZ σ q) → L' (100 + q) i = (if q = t then f else gL σ q) i
      by_cases e : q = t
      · rw [e, if_pos rfl, if_pos rfl]; exact hf
      · rw [if_neg e, if_neg e, hl q hq e]; exact g3
def asI (k : Nat) (v : Int64) : Int64 := match k with
  | 0 => v.toInt32.toInt8.toInt32.toInt64
  | 1 => v.toInt32.toInt16.toInt32.toInt64
  | 2 => v.toInt32.toInt64
  | 3 => v
  | _ => if v = 0 then 0 else 1
def aTape (σ : SIG) (t s n : Int32) : Int32 := if ¬ (0 ≤ t ∧ t ≤ 5) then -1 else if s = -1 then 1 else if ¬ (0 ≤ s ∧ s ≤ 4) ∨ ¬ n ≤ 60 then -2 else if n < 0 then -14 else 1
def nTape (σ : SIG) (t s n : Int32) : SIG := if ¬ (0 ≤ t ∧ t ≤ 5) then σ else if s = -1 then wTp σ t.toNatClampNeg (-1) 0 (fun _ => 0) else if ¬ (0 ≤ s ∧ s ≤ 4) ∨ ¬ n ≤ 60 then σ else if n < 0 then σ else wTp σ t.toNatClampNeg s n.toNatClampNeg (fun _ => 0)
def aItem (σ : SIG) (t i : Int32) (v : Int64) : Int32 := if ¬ (0 ≤ t ∧ t ≤ 5) then -1 else if gS σ t.toNatClampNeg = -1 then -11 else if ¬ (0 ≤ i ∧ i < nI (gZ σ t.toNatClampNeg)) then -13 else 1
def nItem (σ : SIG) (t i : Int32) (v : Int64) : SIG := if ¬ (0 ≤ t ∧ t ≤ 5) then σ else if gS σ t.toNatClampNeg = -1 then σ else if ¬ (0 ≤ i ∧ i < nI (gZ σ t.toNatClampNeg)) then σ else wTp σ t.toNatClampNeg (gS σ t.toNatClampNeg) (gZ σ t.toNatClampNeg) (vp_updL (gL σ t.toNatClampNeg) i.toNatClampNeg (asI (gS σ t.toNatClampNeg).toNatClampNeg v))
def aRead (σ : SIG) (t i : Int32) : Int64 := if (0 ≤ t ∧ t ≤ 5) ∧ (0 ≤ i ∧ i < nI (gZ σ t.toNatClampNeg)) then gL σ t.toNatClampNeg i.toNatClampNeg else -9223372036854775808
def shOK (σ : SIG) (t i o j n : Int32) : Prop := 0 ≤ n.toInt ∧ 0 ≤ i.toInt ∧ 0 ≤ j.toInt ∧ i.toInt + n.toInt ≤ gZ σ t.toNatClampNeg ∧ j.toInt + n.toInt ≤ gZ σ o.toNatClampNeg
abbrev shDec (σ : SIG) (t i o j n : Int32) : Decidable (shOK σ t i o j n) := by unfold shOK; exact inferInstance
def aShift (σ : SIG) (t i o j n : Int32) : Int32 := if ¬ ((0 ≤ t ∧ t ≤ 5) ∧ (0 ≤ o ∧ o ≤ 5)) then -1 else if gS σ t.toNatClampNeg = -1 ∨ gS σ o.toNatClampNeg = -1 then -11 else if ¬ gS σ t.toNatClampNeg = gS σ o.toNatClampNeg then -12 else if 0 ≤ n.toInt ∧ 0 ≤ i.toInt ∧ 0 ≤ j.toInt ∧ i.toInt + n.toInt ≤ gZ σ t.toNatClampNeg ∧ j.toInt + n.toInt ≤ gZ σ o.toNatClampNeg then n else -13
def nShift (σ : SIG) (t i o j n : Int32) : SIG := if ¬ ((0 ≤ t ∧ t ≤ 5) ∧ (0 ≤ o ∧ o ≤ 5)) then σ else if gS σ t.toNatClampNeg = -1 ∨ gS σ o.toNatClampNeg = -1 then σ else if ¬ gS σ t.toNatClampNeg = gS σ o.toNatClampNeg then σ else if 0 ≤ n.toInt ∧ 0 ≤ i.toInt ∧ 0 ≤ j.toInt ∧ i.toInt + n.toInt ≤ gZ σ t.toNatClampNeg ∧ j.toInt + n.toInt ≤ gZ σ o.toNatClampNeg then wTp σ o.toNatClampNeg (gS σ o.toNatClampNeg) (gZ σ o.toNatClampNeg) (va_cpy (gL σ t.toNatClampNeg) (gL σ o.toNatClampNeg) i.toNatClampNeg j.toNatClampNeg n.toNatClampNeg) else σ
def jdP (σ : SIG) (t : Nat) (i : Int32) : Nat → Nat → Int32
  | 0, _ => -5
  | r + 1, c => if ¬ (0 ≤ i.toInt ∧ i.toInt + c < gZ σ t) then nI (100 + c) else if gL σ t (i.toNatClampNeg + c) = (dA (gD σ) c).toInt64 then jdP σ t i r (c + 1) else nI c
def aJudge (σ : SIG) (t i : Int32) : Int32 := if ¬ (0 ≤ t ∧ t ≤ 5) then -1 else if ¬ (gS σ t.toNatClampNeg = 1 ∨ gS σ t.toNatClampNeg = -1) then -12 else jdP σ t.toNatClampNeg i (nN σ) 0
theorem neg_no {x : Int32} (h : x < 0) : ¬ 0 ≤ x.toInt := by rw [Int32.lt_iff_toInt_lt, Int32.toInt_zero] at h; omega
theorem nneg {x : Int32} (h : ¬ x < 0) : 0 ≤ x.toInt := by rw [Int32.lt_iff_toInt_lt, Int32.toInt_zero] at h; omega
theorem nneg' {x : Int32} (h : ¬ x < 0) : 0 ≤ x := Int32.not_lt.mp h
theorem sub_tI {z : Nat} {i : Int32} (hz : z ≤ 1000) (hi : 0 ≤ i.toInt) : (nI z - i).toInt = z - i.toInt := by
  have h1 := i.toInt_lt
  rw [Int32.toInt_sub, nI_toInt (by omega)]
  exact Int.bmod_eq_of_le (by omega) (by omega)
theorem shG {z : Nat} {i n : Int32} (hz : z ≤ 60) (hi : ¬ i < 0) (h : nI z - i < n) : ¬ i.toInt + n.toInt ≤ z := by
  rw [Int32.lt_iff_toInt_lt, sub_tI (by omega) (nneg hi)] at h; omega
theorem shG' {z : Nat} {i n : Int32} (hz : z ≤ 60) (hi : ¬ i < 0) (h : ¬ nI z - i < n) : i.toInt + n.toInt ≤ z := by
  rw [Int32.lt_iff_toInt_lt, sub_tI (by omega) (nneg hi)] at h; omega
theorem nI_ofN {x : Int32} (h : ¬ x < 0) : ∃ k : Nat, k < 2 ^ 31 ∧ x = nI k ∧ x.toInt = k ∧ x.toNatClampNeg = k := by
  obtain ⟨k, hk, e⟩ := nI_of h
  exact ⟨k, hk, e, by rw [e]; exact nI_toInt hk, by rw [e]; exact nI_clamp hk⟩

set_option maxRecDepth 20000 in
set_option maxHeartbeats 1000000 in
theorem c_isTape (g : GG) {sh : List CS} (t : Int32) (S : SS) (L : LL) : Ci g 1 mX11_isTape [.int t] sh S L (fun r S' L' => r = b2i (0 ≤ t ∧ t ≤ 5) ∧ S' = S ∧ L' = L) := by
  refine ct_of (ls := [some (.int t)]) 0 (by decide +kernel) rfl rfl ?_
  refine rx_iload_n dX11_isTape_0 rfl ?_
  refine rx_iconst (0) dX11_isTape_1 (by decide) ?_
  refine rx_iconst (5) dX11_isTape_2 (by decide) ?_
  refine rx_cSi_3 clX11_92 dX11_isTape_3 rfl (c_within g _ _ _ S L) ?_
  refine pur3 ?_
  exact rx_zret dX11_isTape_6 rfl (b2i_n _) ⟨Nat.le_refl _, Nat.le_refl _⟩ ⟨rfl, _, rfl, ⟨rfl, rfl, rfl⟩⟩
set_option maxRecDepth 20000 in
set_option maxHeartbeats 1000000 in
theorem c_asItem (g : GG) {sh : List CS} (k : Nat) (v : Int64) (S : SS) (L : LL) (hk : k ≤ 4) : Cl g 0 mX11_asItem [.int (nI k), .long v] sh S L (fun x S' L' => x = asI k v ∧ S' = S ∧ L' = L) := by
  refine ct_of (ls := [some (.int (nI k)), some (.long v), none]) 0 (by decide +kernel) rfl rfl ?_
  refine rx_iload_n dX11_asItem_0 rfl ?_
  rcases (show k = 0 ∨ k = 1 ∨ k = 2 ∨ k = 3 ∨ k = 4 by omega) with rfl | rfl | rfl | rfl | rfl
  · refine rx_tableIn 32 dX11_asItem_1 (by decide) (by decide) (by rfl) (by decide) ?_
    refine rx_lload_n dX11_asItem_32 rfl ?_
    refine rx_l2i dX11_asItem_33 ?_
    refine rx_i2b dX11_asItem_34 ?_
    refine rx_i2l dX11_asItem_35 ?_
    exact rx_lret dX11_asItem_36 rfl ⟨Nat.le_refl _, Nat.le_refl _⟩ ⟨rfl, _, rfl, ⟨rfl, rfl, rfl⟩⟩
  · refine rx_tableIn 37 dX11_asItem_1 (by decide) (by decide) (by rfl) (by decide) ?_
    refine rx_lload_n dX11_asItem_37 rfl ?_
    refine rx_l2i dX11_asItem_38 ?_
    refine rx_i2s dX11_asItem_39 ?_
    refine rx_i2l dX11_asItem_40 ?_
    exact rx_lret dX11_asItem_41 rfl ⟨Nat.le_refl _, Nat.le_refl _⟩ ⟨rfl, _, rfl, ⟨rfl, rfl, rfl⟩⟩
  · refine rx_tableIn 42 dX11_asItem_1 (by decide) (by decide) (by rfl) (by decide) ?_
    refine rx_lload_n dX11_asItem_42 rfl ?_
    refine rx_l2i dX11_asItem_43 ?_
    refine rx_i2l dX11_asItem_44 ?_
    exact rx_lret dX11_asItem_45 rfl ⟨Nat.le_refl _, Nat.le_refl _⟩ ⟨rfl, _, rfl, ⟨rfl, rfl, rfl⟩⟩
  · refine rx_tableIn 46 dX11_asItem_1 (by decide) (by decide) (by rfl) (by decide) ?_
    refine rx_lload_n dX11_asItem_46 rfl ?_
    exact rx_lret dX11_asItem_47 rfl ⟨Nat.le_refl _, Nat.le_refl _⟩ ⟨rfl, _, rfl, ⟨rfl, rfl, rfl⟩⟩
  · refine rx_tableOut 48 dX11_asItem_1 (Or.inr (by decide)) (by decide) ?_
    refine rx_lload_n dX11_asItem_48 rfl ?_
    refine rx_lconst (0) dX11_asItem_49 (by decide) ?_
    refine rx_lcmp dX11_asItem_50 ?_
    refine rx_if_eq 58 dX11_asItem_51 (by decide) (fun h51 => ?_) (fun h51 => ?_)
    · refine rx_lconst (0) dX11_asItem_58 (by decide) ?_
      exact rx_lret dX11_asItem_59 rfl ⟨Nat.le_refl _, Nat.le_refl _⟩ ⟨rfl, _, rfl, ⟨by first | exact (if_pos ((lg_cmp_eq v 0).mp h51)).symm | exact (if_neg (fun q => h51 ((lg_cmp_eq v 0).mpr q))).symm, rfl, rfl⟩⟩
    · refine rx_lconst (1) dX11_asItem_54 (by decide) ?_
      refine rx_goto 59 dX11_asItem_55 (by decide) ?_
      exact rx_lret dX11_asItem_59 rfl ⟨Nat.le_refl _, Nat.le_refl _⟩ ⟨rfl, _, rfl, ⟨by first | exact (if_pos ((lg_cmp_eq v 0).mp h51)).symm | exact (if_neg (fun q => h51 ((lg_cmp_eq v 0).mpr q))).symm, rfl, rfl⟩⟩
set_option maxRecDepth 20000 in
set_option maxHeartbeats 1000000 in
theorem cc_item (g : GG) (σ : SIG) (t i : Int32) (v : Int64) (S : SS) (L : LL) (hr : CRel S L σ) : Ci g 2 mX11_item [.ref 0, .int t, .int i, .long v] SHC S L (fun r S' L' => r = aItem σ t i v ∧ CRel S' L' (nItem σ t i v)) := by
  refine ct_of (ls := [some (.ref 0), some (.int t), some (.int i), some (.long v), none]) 0 (by decide +kernel) rfl rfl ?_
  refine rx_iload_n dX11_item_0 rfl ?_
  refine rx_cSi_1 clX11_236 dX11_item_1 rfl (c_isTape g _ S L) ?_
  refine pur3 ?_
  refine rx_if_ne 9 dX11_item_4 (by decide) (fun h4 => ?_) (fun h4 => ?_)
  · have hq1 := b2i_ne h4
    obtain ⟨t, ht5, rfl⟩ := rngI 5 (by omega) hq1.1 hq1.2
    have ht : t < 6 := by omega
    have e1 : (nI t).toNatClampNeg = t := nI_clamp (by omega)
    have hvt : vp_in (nI t) 6 := vp_in_nI ht (by omega)
    obtain ⟨hts, htz, htl⟩ := hr.2.2.2.2.2.2.2.2.2.2 t ht
    have hok := hr.1.2.2.2.2.2.2.2.2.2 t ht
    have hz6 : gZ σ t ≤ 60 := by rcases hok with ⟨_, q⟩ | ⟨_, q⟩ <;> omega
    refine rx_aload_n dX11_item_9 rfl ?_
    refine rx_getR dX11_item_10 flX11_85 (sC_0) rfl ?_
    refine rx_iload_n dX11_item_13 rfl ?_
    refine rx_iaload dX11_item_14 (sC_106) hvt ?_
    rw [e1, hts]
    refine rx_iconst (-1) dX11_item_15 (by decide) ?_
    refine rx_icmp_ne 22 dX11_item_16 (by decide) (fun h16 => ?_) (fun h16 => ?_)
    · refine rx_iload_n dX11_item_22 rfl ?_
      refine rx_if_lt 36 dX11_item_23 (by decide) (fun h23 => ?_) (fun h23 => ?_)
      · have hno : ¬ (0 ≤ i ∧ i < nI (gZ σ t)) := by first | exact fun q => absurd h23 (Int32.not_lt.mpr q.1) | exact fun q => h33 q.2
        refine rx_bipush (-13) dX11_item_36 (by decide) ?_
        exact rx_iret dX11_item_38 rfl ⟨Nat.le_refl _, Nat.le_refl _⟩ ⟨rfl, _, rfl, ⟨by unfold aItem; rw [if_neg (fun q => q hq1), e1, if_neg h16, if_pos hno], by unfold nItem; rw [if_neg (fun q => q hq1), e1, if_neg h16, if_pos hno]; exact hr⟩⟩
      · refine rx_iload_n dX11_item_26 rfl ?_
        refine rx_aload_n dX11_item_27 rfl ?_
        refine rx_getR dX11_item_28 flX11_89 (sC_0) rfl ?_
        refine rx_iload_n dX11_item_31 rfl ?_
        refine rx_iaload dX11_item_32 (sC_107) hvt ?_
        rw [e1, htz]
        refine rx_icmp_lt 39 dX11_item_33 (by decide) (fun h33 => ?_) (fun h33 => ?_)
        · have hyes : 0 ≤ i ∧ i < nI (gZ σ t) := ⟨Int32.not_lt.mp h23, h33⟩
          obtain ⟨i, hi, rfl⟩ := rngL (gZ σ t) (by omega) hyes.1 hyes.2
          have e2 : (nI i).toNatClampNeg = i := nI_clamp (by omega)
          have hvi : vp_in (nI i) 60 := vp_in_nI (by omega) (by omega)
          obtain ⟨kk, hkk, ek⟩ : ∃ k, k ≤ 4 ∧ gS σ t = nI k := by
            rcases hok with q | q
            · exact absurd q.1 h16
            · exact q.1
          have ekc : (gS σ t).toNatClampNeg = kk := by rw [ek]; exact nI_clamp (by omega)
          refine rx_aload_n dX11_item_39 rfl ?_
          refine rx_getR dX11_item_40 flX11_82 (sC_0) rfl ?_
          refine rx_iload_n dX11_item_43 rfl ?_
          refine rx_aaload7 dX11_item_44 (sC_99) hvt (by rw [e1]; exact kTp ht) ?_
          refine rx_iload_n dX11_item_45 rfl ?_
          refine rx_aload_n dX11_item_46 rfl ?_
          refine rx_getR dX11_item_47 flX11_85 (sC_0) rfl ?_
          refine rx_iload_n dX11_item_50 rfl ?_
          refine rx_iaload dX11_item_51 (sC_106) hvt ?_
          rw [e1, hts, ek]
          refine rx_lload_n dX11_item_52 rfl ?_
          refine rx_cSl_2 clX11_267 dX11_item_53 rfl (c_asItem g kk v S L hkk) ?_
          refine pur3 ?_
          refine rx_lastore dX11_item_56 (sTp ht) hvi ?_
          refine rx_iconst (1) dX11_item_57 (by decide) ?_
          exact rx_iret dX11_item_58 rfl ⟨Nat.le_refl _, Nat.le_refl _⟩ ⟨rfl, _, rfl, ⟨by unfold aItem; rw [if_neg (fun q => q hq1), e1, if_neg h16, if_neg (fun q => q hyes)], by unfold nItem; rw [if_neg (fun q => q hq1), e1, if_neg h16, if_neg (fun q => q hyes), e2, ekc]; exact hr.tape t _ _ _ (fun _ _ _ => rfl) (fun q hq => by by_cases e : q = t; (rw [e, pk_us]; exact hts); (rw [pk_un e])) (fun q hq => by by_cases e : q = t; (rw [e, pk_us]; exact htz); (rw [pk_un e])) (fun q hq e => upL_off _ _ _ _ (by omega)) (fun j hj => by rw [upL_row]; by_cases e : j = i; (rw [e, pk_uLs, pk_uLs]); (rw [pk_uLn e, pk_uLn e]; exact htl j hj)) hok⟩⟩
        · have hno : ¬ (0 ≤ i ∧ i < nI (gZ σ t)) := by first | exact fun q => absurd h23 (Int32.not_lt.mpr q.1) | exact fun q => h33 q.2
          refine rx_bipush (-13) dX11_item_36 (by decide) ?_
          exact rx_iret dX11_item_38 rfl ⟨Nat.le_refl _, Nat.le_refl _⟩ ⟨rfl, _, rfl, ⟨by unfold aItem; rw [if_neg (fun q => q hq1), e1, if_neg h16, if_pos hno], by unfold nItem; rw [if_neg (fun q => q hq1), e1, if_neg h16, if_pos hno]; exact hr⟩⟩
    · refine rx_bipush (-11) dX11_item_19 (by decide) ?_
      exact rx_iret dX11_item_21 rfl ⟨Nat.le_refl _, Nat.le_refl _⟩ ⟨rfl, _, rfl, ⟨by unfold aItem; rw [if_neg (fun q => q hq1), e1, if_pos h16], by unfold nItem; rw [if_neg (fun q => q hq1), e1, if_pos h16]; exact hr⟩⟩
  · refine rx_iconst (-1) dX11_item_7 (by decide) ?_
    exact rx_iret dX11_item_8 rfl ⟨Nat.le_refl _, Nat.le_refl _⟩ ⟨rfl, _, rfl, ⟨by unfold aItem; rw [if_pos (b2i_eq h4)], by unfold nItem; rw [if_pos (b2i_eq h4)]; exact hr⟩⟩
set_option maxRecDepth 20000 in
set_option maxHeartbeats 1000000 in
theorem cc_read (g : GG) (σ : SIG) (t i : Int32) (S : SS) (L : LL) (hr : CRel S L σ) : Cl g 2 mX11_read [.ref 0, .int t, .int i] SHC S L (fun r S' L' => r = aRead σ t i ∧ CRel S' L' σ) := by
  refine ct_of (ls := [some (.ref 0), some (.int t), some (.int i)]) 0 (by decide +kernel) rfl rfl ?_
  refine rx_iload_n dX11_read_0 rfl ?_
  refine rx_cSi_1 clX11_236 dX11_read_1 rfl (c_isTape g _ S L) ?_
  refine pur3 ?_
  refine rx_if_eq 21 dX11_read_4 (by decide) (fun h4 => ?_) (fun h4 => ?_)
  · refine rx_ldc2 (-9223372036854775808) dX11_read_21 w_744 ?_
    exact rx_lret dX11_read_24 rfl ⟨Nat.le_refl _, Nat.le_refl _⟩ ⟨rfl, _, rfl, ⟨(if_neg (fun q => b2i_eq h4 q.1)).symm, hr⟩⟩
  · have hq1 := b2i_ne h4
    obtain ⟨t, ht5, rfl⟩ := rngI 5 (by omega) hq1.1 hq1.2
    have ht : t < 6 := by omega
    have e1 : (nI t).toNatClampNeg = t := nI_clamp (by omega)
    have hvt : vp_in (nI t) 6 := vp_in_nI ht (by omega)
    obtain ⟨hts, htz, htl⟩ := hr.2.2.2.2.2.2.2.2.2.2 t ht
    have hok := hr.1.2.2.2.2.2.2.2.2.2 t ht
    have hz6 : gZ σ t ≤ 60 := by rcases hok with ⟨_, q⟩ | ⟨_, q⟩ <;> omega
    refine rx_iload_n dX11_read_7 rfl ?_
    refine rx_if_lt 21 dX11_read_8 (by decide) (fun h8 => ?_) (fun h8 => ?_)
    · refine rx_ldc2 (-9223372036854775808) dX11_read_21 w_744 ?_
      exact rx_lret dX11_read_24 rfl ⟨Nat.le_refl _, Nat.le_refl _⟩ ⟨rfl, _, rfl, ⟨(if_neg (fun q => absurd h8 (Int32.not_lt.mpr q.2.1))).symm, hr⟩⟩
    · refine rx_iload_n dX11_read_11 rfl ?_
      refine rx_aload_n dX11_read_12 rfl ?_
      refine rx_getR dX11_read_13 flX11_89 (sC_0) rfl ?_
      refine rx_iload_n dX11_read_16 rfl ?_
      refine rx_iaload dX11_read_17 (sC_107) hvt ?_
      rw [e1, htz]
      refine rx_icmp_lt 25 dX11_read_18 (by decide) (fun h18 => ?_) (fun h18 => ?_)
      · have hyes : 0 ≤ i ∧ i < nI (gZ σ t) := ⟨Int32.not_lt.mp h8, h18⟩
        obtain ⟨i, hi, rfl⟩ := rngL (gZ σ t) (by omega) hyes.1 hyes.2
        have e2 : (nI i).toNatClampNeg = i := nI_clamp (by omega)
        have hvi : vp_in (nI i) 60 := vp_in_nI (by omega) (by omega)
        refine rx_aload_n dX11_read_25 rfl ?_
        refine rx_getR dX11_read_26 flX11_82 (sC_0) rfl ?_
        refine rx_iload_n dX11_read_29 rfl ?_
        refine rx_aaload7 dX11_read_30 (sC_99) hvt (by rw [e1]; exact kTp ht) ?_
        refine rx_iload_n dX11_read_31 rfl ?_
        refine rx_laload dX11_read_32 (sTp ht) hvi ?_
        rw [e2, htl i hi]
        exact rx_lret dX11_read_33 rfl ⟨Nat.le_refl _, Nat.le_refl _⟩ ⟨rfl, _, rfl, ⟨by unfold aRead; rw [e1, e2, if_pos ⟨hq1, hyes⟩], hr⟩⟩
      · refine rx_ldc2 (-9223372036854775808) dX11_read_21 w_744 ?_
        exact rx_lret dX11_read_24 rfl ⟨Nat.le_refl _, Nat.le_refl _⟩ ⟨rfl, _, rfl, ⟨(if_neg (fun q => h18 (by rw [e1] at q; exact q.2.2))).symm, hr⟩⟩
set_option maxRecDepth 20000 in
set_option maxHeartbeats 1000000 in
theorem cc_shift (g : GG) (σ : SIG) (t i o j n : Int32) (S : SS) (L : LL) (hr : CRel S L σ) : Ci g 2 mX11_shift [.ref 0, .int t, .int i, .int o, .int j, .int n] SHC S L (fun r S' L' => r = aShift σ t i o j n ∧ CRel S' L' (nShift σ t i o j n)) := by
  refine ct_of (ls := [some (.ref 0), some (.int t), some (.int i), some (.int o), some (.int j), some (.int n)]) 0 (by decide +kernel) rfl rfl ?_
  refine rx_iload_n dX11_shift_0 rfl ?_
  refine rx_cSi_1 clX11_236 dX11_shift_1 rfl (c_isTape g _ S L) ?_
  refine pur3 ?_
  refine rx_if_eq 14 dX11_shift_4 (by decide) (fun h4 => ?_) (fun h4 => ?_)
  · have hno : ¬ ((0 ≤ t ∧ t ≤ 5) ∧ (0 ≤ o ∧ o ≤ 5)) := by first | exact fun q => b2i_eq h4 q.1 | exact fun q => b2i_eq h11 q.2
    refine rx_iconst (-1) dX11_shift_14 (by decide) ?_
    exact rx_iret dX11_shift_15 rfl ⟨Nat.le_refl _, Nat.le_refl _⟩ ⟨rfl, _, rfl, ⟨by unfold aShift; rw [if_pos hno], by unfold nShift; rw [if_pos hno]; exact hr⟩⟩
  · refine rx_iload_n dX11_shift_7 rfl ?_
    refine rx_cSi_1 clX11_236 dX11_shift_8 rfl (c_isTape g _ S L) ?_
    refine pur3 ?_
    refine rx_if_ne 16 dX11_shift_11 (by decide) (fun h11 => ?_) (fun h11 => ?_)
    · have hq1 := b2i_ne h4
      have hq2 := b2i_ne h11
      have hq3 : (0 ≤ t ∧ t ≤ 5) ∧ (0 ≤ o ∧ o ≤ 5) := ⟨hq1, hq2⟩
      obtain ⟨t, ht5, rfl⟩ := rngI 5 (by omega) hq1.1 hq1.2
      obtain ⟨o, ho5, rfl⟩ := rngI 5 (by omega) hq2.1 hq2.2
      have ht : t < 6 := by omega
      have ho : o < 6 := by omega
      have e1 : (nI t).toNatClampNeg = t := nI_clamp (by omega)
      have e2 : (nI o).toNatClampNeg = o := nI_clamp (by omega)
      have hvt : vp_in (nI t) 6 := vp_in_nI ht (by omega)
      have hvo : vp_in (nI o) 6 := vp_in_nI ho (by omega)
      obtain ⟨hts, htz, htl⟩ := hr.2.2.2.2.2.2.2.2.2.2 t ht
      obtain ⟨hos, hoz, hol⟩ := hr.2.2.2.2.2.2.2.2.2.2 o ho
      have hok := hr.1.2.2.2.2.2.2.2.2.2 t ht
      have hoo := hr.1.2.2.2.2.2.2.2.2.2 o ho
      have hz6 : gZ σ t ≤ 60 := by rcases hok with ⟨_, q⟩ | ⟨_, q⟩ <;> omega
      have ho6 : gZ σ o ≤ 60 := by rcases hoo with ⟨_, q⟩ | ⟨_, q⟩ <;> omega
      refine rx_aload_n dX11_shift_16 rfl ?_
      refine rx_getR dX11_shift_17 flX11_85 (sC_0) rfl ?_
      refine rx_iload_n dX11_shift_20 rfl ?_
      refine rx_iaload dX11_shift_21 (sC_106) hvt ?_
      rw [e1, hts]
      refine rx_iconst (-1) dX11_shift_22 (by decide) ?_
      refine rx_icmp_eq 36 dX11_shift_23 (by decide) (fun h23 => ?_) (fun h23 => ?_)
      · have hor : gS σ t = -1 ∨ gS σ o = -1 := by first | exact Or.inl h23 | exact Or.inr h33
        refine rx_bipush (-11) dX11_shift_36 (by decide) ?_
        exact rx_iret dX11_shift_38 rfl ⟨Nat.le_refl _, Nat.le_refl _⟩ ⟨rfl, _, rfl, ⟨by unfold aShift; rw [if_neg (fun q => q hq3), e1, e2, if_pos hor], by unfold nShift; rw [if_neg (fun q => q hq3), e1, e2, if_pos hor]; exact hr⟩⟩
      · refine rx_aload_n dX11_shift_26 rfl ?_
        refine rx_getR dX11_shift_27 flX11_85 (sC_0) rfl ?_
        refine rx_iload_n dX11_shift_30 rfl ?_
        refine rx_iaload dX11_shift_31 (sC_106) hvo ?_
        rw [e2, hos]
        refine rx_iconst (-1) dX11_shift_32 (by decide) ?_
        refine rx_icmp_ne 39 dX11_shift_33 (by decide) (fun h33 => ?_) (fun h33 => ?_)
        · have hnr : ¬ (gS σ t = -1 ∨ gS σ o = -1) := fun q => q.elim h23 h33
          refine rx_aload_n dX11_shift_39 rfl ?_
          refine rx_getR dX11_shift_40 flX11_85 (sC_0) rfl ?_
          refine rx_iload_n dX11_shift_43 rfl ?_
          refine rx_iaload dX11_shift_44 (sC_106) hvt ?_
          rw [e1, hts]
          refine rx_aload_n dX11_shift_45 rfl ?_
          refine rx_getR dX11_shift_46 flX11_85 (sC_0) rfl ?_
          refine rx_iload_n dX11_shift_49 rfl ?_
          refine rx_iaload dX11_shift_50 (sC_106) hvo ?_
          rw [e2, hos]
          refine rx_icmp_eq 57 dX11_shift_51 (by decide) (fun h51 => ?_) (fun h51 => ?_)
          · refine rx_iload dX11_shift_57 rfl ?_
            refine rx_if_lt 98 dX11_shift_59 (by decide) (fun h59 => ?_) (fun h59 => ?_)
            · have hno : ¬ (0 ≤ n.toInt ∧ 0 ≤ i.toInt ∧ 0 ≤ j.toInt ∧ i.toInt + n.toInt ≤ gZ σ t ∧ j.toInt + n.toInt ≤ gZ σ o) := by first | exact fun q => neg_no h59 q.1 | exact fun q => neg_no h63 q.2.1 | exact fun q => neg_no h68 q.2.2.1 | exact fun q => shG hz6 h63 h81 q.2.2.2.1 | exact fun q => shG ho6 h68 (Int32.not_le.mp h95) q.2.2.2.2
              refine rx_bipush (-13) dX11_shift_98 (by decide) ?_
              exact rx_iret dX11_shift_100 rfl ⟨Nat.le_refl _, Nat.le_refl _⟩ ⟨rfl, _, rfl, ⟨by unfold aShift; rw [if_neg (fun q => q hq3), e1, e2, if_neg hnr, if_neg (fun q => q h51), if_neg hno], by unfold nShift; rw [if_neg (fun q => q hq3), e1, e2, if_neg hnr, if_neg (fun q => q h51), if_neg hno]; exact hr⟩⟩
            · refine rx_iload_n dX11_shift_62 rfl ?_
              refine rx_if_lt 98 dX11_shift_63 (by decide) (fun h63 => ?_) (fun h63 => ?_)
              · have hno : ¬ (0 ≤ n.toInt ∧ 0 ≤ i.toInt ∧ 0 ≤ j.toInt ∧ i.toInt + n.toInt ≤ gZ σ t ∧ j.toInt + n.toInt ≤ gZ σ o) := by first | exact fun q => neg_no h59 q.1 | exact fun q => neg_no h63 q.2.1 | exact fun q => neg_no h68 q.2.2.1 | exact fun q => shG hz6 h63 h81 q.2.2.2.1 | exact fun q => shG ho6 h68 (Int32.not_le.mp h95) q.2.2.2.2
                refine rx_bipush (-13) dX11_shift_98 (by decide) ?_
                exact rx_iret dX11_shift_100 rfl ⟨Nat.le_refl _, Nat.le_refl _⟩ ⟨rfl, _, rfl, ⟨by unfold aShift; rw [if_neg (fun q => q hq3), e1, e2, if_neg hnr, if_neg (fun q => q h51), if_neg hno], by unfold nShift; rw [if_neg (fun q => q hq3), e1, e2, if_neg hnr, if_neg (fun q => q h51), if_neg hno]; exact hr⟩⟩
              · refine rx_iload dX11_shift_66 rfl ?_
                refine rx_if_lt 98 dX11_shift_68 (by decide) (fun h68 => ?_) (fun h68 => ?_)
                · have hno : ¬ (0 ≤ n.toInt ∧ 0 ≤ i.toInt ∧ 0 ≤ j.toInt ∧ i.toInt + n.toInt ≤ gZ σ t ∧ j.toInt + n.toInt ≤ gZ σ o) := by first | exact fun q => neg_no h59 q.1 | exact fun q => neg_no h63 q.2.1 | exact fun q => neg_no h68 q.2.2.1 | exact fun q => shG hz6 h63 h81 q.2.2.2.1 | exact fun q => shG ho6 h68 (Int32.not_le.mp h95) q.2.2.2.2
                  refine rx_bipush (-13) dX11_shift_98 (by decide) ?_
                  exact rx_iret dX11_shift_100 rfl ⟨Nat.le_refl _, Nat.le_refl _⟩ ⟨rfl, _, rfl, ⟨by unfold aShift; rw [if_neg (fun q => q hq3), e1, e2, if_neg hnr, if_neg (fun q => q h51), if_neg hno], by unfold nShift; rw [if_neg (fun q => q hq3), e1, e2, if_neg hnr, if_neg (fun q => q h51), if_neg hno]; exact hr⟩⟩
                · refine rx_iload dX11_shift_71 rfl ?_
                  refine rx_aload_n dX11_shift_73 rfl ?_
                  refine rx_getR dX11_shift_74 flX11_89 (sC_0) rfl ?_
                  refine rx_iload_n dX11_shift_77 rfl ?_
                  refine rx_iaload dX11_shift_78 (sC_107) hvt ?_
                  rw [e1, htz]
                  refine rx_iload_n dX11_shift_79 rfl ?_
                  refine rx_isub dX11_shift_80 ?_
                  refine rx_icmp_gt 98 dX11_shift_81 (by decide) (fun h81 => ?_) (fun h81 => ?_)
                  · have hno : ¬ (0 ≤ n.toInt ∧ 0 ≤ i.toInt ∧ 0 ≤ j.toInt ∧ i.toInt + n.toInt ≤ gZ σ t ∧ j.toInt + n.toInt ≤ gZ σ o) := by first | exact fun q => neg_no h59 q.1 | exact fun q => neg_no h63 q.2.1 | exact fun q => neg_no h68 q.2.2.1 | exact fun q => shG hz6 h63 h81 q.2.2.2.1 | exact fun q => shG ho6 h68 (Int32.not_le.mp h95) q.2.2.2.2
                    refine rx_bipush (-13) dX11_shift_98 (by decide) ?_
                    exact rx_iret dX11_shift_100 rfl ⟨Nat.le_refl _, Nat.le_refl _⟩ ⟨rfl, _, rfl, ⟨by unfold aShift; rw [if_neg (fun q => q hq3), e1, e2, if_neg hnr, if_neg (fun q => q h51), if_neg hno], by unfold nShift; rw [if_neg (fun q => q hq3), e1, e2, if_neg hnr, if_neg (fun q => q h51), if_neg hno]; exact hr⟩⟩
                  · refine rx_iload dX11_shift_84 rfl ?_
                    refine rx_aload_n dX11_shift_86 rfl ?_
                    refine rx_getR dX11_shift_87 flX11_89 (sC_0) rfl ?_
                    refine rx_iload_n dX11_shift_90 rfl ?_
                    refine rx_iaload dX11_shift_91 (sC_107) hvo ?_
                    rw [e2, hoz]
                    refine rx_iload dX11_shift_92 rfl ?_
                    refine rx_isub dX11_shift_94 ?_
                    refine rx_icmp_le 101 dX11_shift_95 (by decide) (fun h95 => ?_) (fun h95 => ?_)
                    · have hyes : 0 ≤ n.toInt ∧ 0 ≤ i.toInt ∧ 0 ≤ j.toInt ∧ i.toInt + n.toInt ≤ gZ σ t ∧ j.toInt + n.toInt ≤ gZ σ o := ⟨nneg h59, nneg h63, nneg h68, shG' hz6 h63 h81, shG' ho6 h68 (Int32.not_lt.mpr h95)⟩
                      obtain ⟨i', hi1, hi2, hi3, hi4⟩ := nI_ofN h63
                      obtain ⟨j', hj1, hj2, hj3, hj4⟩ := nI_ofN h68
                      obtain ⟨n', hn1, hn2, hn3, hn4⟩ := nI_ofN h59
                      have hA : i.toNatClampNeg + n.toNatClampNeg ≤ 60 := by omega
                      have hB : j.toNatClampNeg + n.toNatClampNeg ≤ 60 := by omega
                      refine rx_aload_n dX11_shift_101 rfl ?_
                      refine rx_getR dX11_shift_102 flX11_82 (sC_0) rfl ?_
                      refine rx_iload_n dX11_shift_105 rfl ?_
                      refine rx_aaload7 dX11_shift_106 (sC_99) hvt (by rw [e1]; exact kTp ht) ?_
                      refine rx_iload_n dX11_shift_107 rfl ?_
                      refine rx_aload_n dX11_shift_108 rfl ?_
                      refine rx_getR dX11_shift_109 flX11_82 (sC_0) rfl ?_
                      refine rx_iload_n dX11_shift_112 rfl ?_
                      refine rx_aaload7 dX11_shift_113 (sC_99) hvo (by rw [e2]; exact kTp ho) ?_
                      refine rx_iload dX11_shift_114 rfl ?_
                      refine rx_iload dX11_shift_116 rfl ?_
                      refine rx_copyl dX11_shift_118 w_895 w_658 w_657 w_20 (sTp ht) (sTp ho) h63 h68 h59 hA hB (by decide) (Nat.le_of_ble_eq_true rfl) ?_
                      refine rx_iload dX11_shift_121 rfl ?_
                      exact rx_iret dX11_shift_123 rfl ⟨Nat.le_refl _, Nat.le_refl _⟩ ⟨rfl, _, rfl, ⟨by unfold aShift; rw [if_neg (fun q => q hq3), e1, e2, if_neg hnr, if_neg (fun q => q h51), if_pos hyes], by unfold nShift; rw [if_neg (fun q => q hq3), e1, e2, if_neg hnr, if_neg (fun q => q h51), if_pos hyes]; exact hr.tape o _ _ _ (fun _ _ _ => rfl) (fun q hq => by by_cases e : q = o; (rw [e, pk_us]; exact hos); (rw [pk_un e])) (fun q hq => by by_cases e : q = o; (rw [e, pk_us]; exact hoz); (rw [pk_un e])) (fun q hq e => if_neg (by omega)) (fun k hk => by rw [show rwL L (100 + o) (va_cpy (L (100 + t)) (L (100 + o)) i.toNatClampNeg j.toNatClampNeg n.toNatClampNeg) (100 + o) = va_cpy (L (100 + t)) (L (100 + o)) i.toNatClampNeg j.toNatClampNeg n.toNatClampNeg from if_pos rfl]; by_cases e : j.toNatClampNeg ≤ k ∧ k < j.toNatClampNeg + n.toNatClampNeg; (rw [pk_cpy_in e.1 e.2, pk_cpy_in e.1 e.2]; exact htl _ (by omega)); (rw [pk_cpy_out (by omega), pk_cpy_out (by omega)]; exact hol k hk)) hoo⟩⟩
                    · have hno : ¬ (0 ≤ n.toInt ∧ 0 ≤ i.toInt ∧ 0 ≤ j.toInt ∧ i.toInt + n.toInt ≤ gZ σ t ∧ j.toInt + n.toInt ≤ gZ σ o) := by first | exact fun q => neg_no h59 q.1 | exact fun q => neg_no h63 q.2.1 | exact fun q => neg_no h68 q.2.2.1 | exact fun q => shG hz6 h63 h81 q.2.2.2.1 | exact fun q => shG ho6 h68 (Int32.not_le.mp h95) q.2.2.2.2
                      refine rx_bipush (-13) dX11_shift_98 (by decide) ?_
                      exact rx_iret dX11_shift_100 rfl ⟨Nat.le_refl _, Nat.le_refl _⟩ ⟨rfl, _, rfl, ⟨by unfold aShift; rw [if_neg (fun q => q hq3), e1, e2, if_neg hnr, if_neg (fun q => q h51), if_neg hno], by unfold nShift; rw [if_neg (fun q => q hq3), e1, e2, if_neg hnr, if_neg (fun q => q h51), if_neg hno]; exact hr⟩⟩
          · refine rx_bipush (-12) dX11_shift_54 (by decide) ?_
            exact rx_iret dX11_shift_56 rfl ⟨Nat.le_refl _, Nat.le_refl _⟩ ⟨rfl, _, rfl, ⟨by unfold aShift; rw [if_neg (fun q => q hq3), e1, e2, if_neg hnr, if_pos h51], by unfold nShift; rw [if_neg (fun q => q hq3), e1, e2, if_neg hnr, if_pos h51]; exact hr⟩⟩
        · have hor : gS σ t = -1 ∨ gS σ o = -1 := by first | exact Or.inl h23 | exact Or.inr h33
          refine rx_bipush (-11) dX11_shift_36 (by decide) ?_
          exact rx_iret dX11_shift_38 rfl ⟨Nat.le_refl _, Nat.le_refl _⟩ ⟨rfl, _, rfl, ⟨by unfold aShift; rw [if_neg (fun q => q hq3), e1, e2, if_pos hor], by unfold nShift; rw [if_neg (fun q => q hq3), e1, e2, if_pos hor]; exact hr⟩⟩
    · have hno : ¬ ((0 ≤ t ∧ t ≤ 5) ∧ (0 ≤ o ∧ o ≤ 5)) := by first | exact fun q => b2i_eq h4 q.1 | exact fun q => b2i_eq h11 q.2
      refine rx_iconst (-1) dX11_shift_14 (by decide) ?_
      exact rx_iret dX11_shift_15 rfl ⟨Nat.le_refl _, Nat.le_refl _⟩ ⟨rfl, _, rfl, ⟨by unfold aShift; rw [if_pos hno], by unfold nShift; rw [if_pos hno]; exact hr⟩⟩
set_option maxRecDepth 20000 in
set_option maxHeartbeats 400000 in
theorem cc_tape (g : GG) (σ : SIG) (t s n : Int32) (S : SS) (L : LL) (hr : CRel S L σ) : Ci g 2 mX11_tape [.ref 0, .int t, .int s, .int n] SHC S L (fun r S' L' => r = aTape σ t s n ∧ CRel S' L' (nTape σ t s n)) := by
  refine ct_of (ls := [some (.ref 0), some (.int t), some (.int s), some (.int n), none]) 1 (by decide +kernel) rfl rfl ?_
  refine rx_iload_n dX11_tape_0 rfl ?_
  refine rx_cSi_1 clX11_236 dX11_tape_1 rfl (c_isTape g _ S L) ?_
  refine pur3 ?_
  refine rx_if_ne 9 dX11_tape_4 (by decide) (fun h4 => ?_) (fun h4 => ?_)
  · have hq1 := b2i_ne h4
    obtain ⟨t, ht5, rfl⟩ := rngI 5 (by omega) hq1.1 hq1.2
    have ht : t < 6 := by omega
    have e1 : (nI t).toNatClampNeg = t := nI_clamp (by omega)
    have hvt : vp_in (nI t) 6 := vp_in_nI ht (by omega)
    obtain ⟨hts, htz, htl⟩ := hr.2.2.2.2.2.2.2.2.2.2 t ht
    have hok := hr.1.2.2.2.2.2.2.2.2.2 t ht
    have hz6 : gZ σ t ≤ 60 := by rcases hok with ⟨_, q⟩ | ⟨_, q⟩ <;> omega
    refine rx_iload_n dX11_tape_9 rfl ?_
    refine rx_iconst (-1) dX11_tape_10 (by decide) ?_
    refine rx_icmp_ne 30 dX11_tape_11 (by decide) (fun h11 => ?_) (fun h11 => ?_)
    · refine rx_iload_n dX11_tape_30 rfl ?_
      refine rx_iconst (0) dX11_tape_31 (by decide) ?_
      refine rx_iconst (4) dX11_tape_32 (by decide) ?_
      refine rx_cSi_3 clX11_92 dX11_tape_33 rfl (c_within g _ _ _ S L) ?_
      refine pur3 ?_
      refine rx_if_eq 45 dX11_tape_36 (by decide) (fun h36 => ?_) (fun h36 => ?_)
      · have hno : ¬ (0 ≤ s ∧ s ≤ 4) ∨ ¬ n ≤ 60 := by first | exact Or.inl (b2i_eq h36) | exact Or.inr h42
        refine rx_bipush (-2) dX11_tape_45 (by decide) ?_
        exact rx_iret dX11_tape_47 rfl ⟨Nat.le_refl _, Nat.le_refl _⟩ ⟨rfl, _, rfl, ⟨by unfold aTape; rw [if_neg (fun q => q hq1), if_neg h11, if_pos hno], by unfold nTape; rw [if_neg (fun q => q hq1), if_neg h11, if_pos hno]; exact hr⟩⟩
      · refine rx_iload_n dX11_tape_39 rfl ?_
        refine rx_bipush (60) dX11_tape_40 (by decide) ?_
        refine rx_icmp_le 48 dX11_tape_42 (by decide) (fun h42 => ?_) (fun h42 => ?_)
        · have hq2 := b2i_ne h36
          have hnn : ¬ (¬ (0 ≤ s ∧ s ≤ 4) ∨ ¬ n ≤ 60) := fun q => q.elim (fun w => w hq2) (fun w => w h42)
          refine rx_iload_n dX11_tape_48 rfl ?_
          refine rx_if_ge 55 dX11_tape_49 (by decide) (fun h49 => ?_) (fun h49 => ?_)
          · obtain ⟨n, hn, rfl⟩ := rngI 60 (by omega) h49 h42
            obtain ⟨s', hs', es'⟩ := rngI 4 (by omega) hq2.1 hq2.2
            have e2 : (nI n).toNatClampNeg = n := nI_clamp (by omega)
            have hs1 : ¬ s = -1 := h11
            refine rx_aload_n dX11_tape_55 rfl ?_
            refine rx_getR dX11_tape_56 flX11_85 (sC_0) rfl ?_
            refine rx_iload_n dX11_tape_59 rfl ?_
            refine rx_iload_n dX11_tape_60 rfl ?_
            refine rx_iastore dX11_tape_61 (sC_106) hvt ?_
            refine rx_aload_n dX11_tape_62 rfl ?_
            refine rx_getR dX11_tape_63 flX11_89 (sC_0) rfl ?_
            refine rx_iload_n dX11_tape_66 rfl ?_
            refine rx_iload_n dX11_tape_67 rfl ?_
            refine rx_iastore dX11_tape_68 (sC_107) hvt ?_
            refine rx_iconst (0) dX11_tape_69 (by decide) ?_
            refine rx_istore_4 rfl dX11_tape_70 ?_
            rw [e1]
            generalize hS2 : upS (upS S 106 t s) 107 t (nI n) = S2
            have loop : ∀ (r i : Nat) (L1 : LL), i + r = n → (∀ q, q < 6 → q ≠ t → L1 (100 + q) = L (100 + q)) → (∀ j, j < i → L1 (100 + t) j = 0) → Rx g 2 0 0 mX11_tape SHC.length (fun r sh' S' L' => sh' = SHC ∧ ∃ x, r = some (.int x) ∧ (x = aTape σ (nI t) s (nI n) ∧ CRel S' L' (nTape σ (nI t) s (nI n)))) 0 0 72 [some (.ref 0), some (.int (nI t)), some (.int s), some (.int (nI n)), some (.int (nI i))] [] SHC S2 L1 := by
              intro r
              induction r with
              | zero =>
                intro i L1 he hI1 hI2
                refine rx_iload dX11_tape_72 rfl ?_
                refine rx_iload_n dX11_tape_74 rfl ?_
                refine rx_icmp_ge 94 dX11_tape_75 (by decide) (fun h75 => ?_) (fun h75 => absurd (nI_le (by omega) (by omega)) h75)
                refine rx_iconst (1) dX11_tape_94 (by decide) ?_
                exact rx_iret dX11_tape_95 rfl ⟨Nat.le_refl _, Nat.le_refl _⟩ ⟨rfl, _, rfl, ⟨by unfold aTape; rw [if_neg (fun q => q hq1), if_neg hs1, if_neg hnn, if_neg (nI_pos (by omega))], by unfold nTape; rw [if_neg (fun q => q hq1), if_neg hs1, if_neg hnn, if_neg (nI_pos (by omega)), e1, e2]; exact hr.tape t s n _ (fun j g1 g2 => by rw [← hS2, upS_off _ _ _ _ g2, upS_off _ _ _ _ g1]) (fun q hq => by rw [← hS2, upS_off _ _ _ _ (by decide), upS_row]) (fun q hq => by rw [← hS2, upS_row, upS_off _ _ _ _ (by decide)]) (fun q hq e => hI1 q hq e) (fun j hj => hI2 j (by omega)) (Or.inr ⟨⟨s', hs', es'⟩, by omega⟩)⟩⟩
              | succ r ih =>
                intro i L1 he hI1 hI2
                have hic : (nI i).toNatClampNeg = i := nI_clamp (by omega)
                have hvi : vp_in (nI i) 60 := vp_in_nI (by omega) (by omega)
                refine rx_iload dX11_tape_72 rfl ?_
                refine rx_iload_n dX11_tape_74 rfl ?_
                refine rx_icmp_ge 94 dX11_tape_75 (by decide) (fun h75 => absurd h75 (nI_ge (by omega) (by omega))) (fun h75 => ?_)
                refine rx_aload_n dX11_tape_78 rfl ?_
                refine rx_getR dX11_tape_79 flX11_82 (sC_0) rfl ?_
                refine rx_iload_n dX11_tape_82 rfl ?_
                refine rx_aaload7 dX11_tape_83 (sC_99) hvt (by rw [e1]; exact kTp ht) ?_
                refine rx_iload dX11_tape_84 rfl ?_
                refine rx_lconst (0) dX11_tape_86 (by decide) ?_
                refine rx_lastore dX11_tape_87 (sTp ht) hvi ?_
                refine rx_iinc_4 (1) rfl dX11_tape_88 (by decide) ?_
                refine rx_goto 72 dX11_tape_91 (by decide) ?_
                rw [nI_1]
                refine ih (i + 1) _ (by omega) (fun q hq e => ?_) (fun j hj => ?_)
                · rw [upL_off _ _ _ _ (by omega)]; exact hI1 q hq e
                · rw [upL_row, hic]
                  by_cases e : j = i
                  · rw [e, pk_uLs]
                  · rw [pk_uLn e]; exact hI2 j (by omega)
            exact loop n 0 L (by omega) (fun _ _ _ => rfl) (fun j hj => absurd hj (by omega))
          · refine rx_bipush (-14) dX11_tape_52 (by decide) ?_
            exact rx_iret dX11_tape_54 rfl ⟨Nat.le_refl _, Nat.le_refl _⟩ ⟨rfl, _, rfl, ⟨by unfold aTape; rw [if_neg (fun q => q hq1), if_neg h11, if_neg hnn, if_pos (Int32.not_le.mp h49)], by unfold nTape; rw [if_neg (fun q => q hq1), if_neg h11, if_neg hnn, if_pos (Int32.not_le.mp h49)]; exact hr⟩⟩
        · have hno : ¬ (0 ≤ s ∧ s ≤ 4) ∨ ¬ n ≤ 60 := by first | exact Or.inl (b2i_eq h36) | exact Or.inr h42
          refine rx_bipush (-2) dX11_tape_45 (by decide) ?_
          exact rx_iret dX11_tape_47 rfl ⟨Nat.le_refl _, Nat.le_refl _⟩ ⟨rfl, _, rfl, ⟨by unfold aTape; rw [if_neg (fun q => q hq1), if_neg h11, if_pos hno], by unfold nTape; rw [if_neg (fun q => q hq1), if_neg h11, if_pos hno]; exact hr⟩⟩
    · refine rx_aload_n dX11_tape_14 rfl ?_
      refine rx_getR dX11_tape_15 flX11_85 (sC_0) rfl ?_
      refine rx_iload_n dX11_tape_18 rfl ?_
      refine rx_iconst (-1) dX11_tape_19 (by decide) ?_
      refine rx_iastore dX11_tape_20 (sC_106) hvt ?_
      refine rx_aload_n dX11_tape_21 rfl ?_
      refine rx_getR dX11_tape_22 flX11_89 (sC_0) rfl ?_
      refine rx_iload_n dX11_tape_25 rfl ?_
      refine rx_iconst (0) dX11_tape_26 (by decide) ?_
      refine rx_iastore dX11_tape_27 (sC_107) hvt ?_
      refine rx_iconst (1) dX11_tape_28 (by decide) ?_
      exact rx_iret dX11_tape_29 rfl ⟨Nat.le_refl _, Nat.le_refl _⟩ ⟨rfl, _, rfl, ⟨by unfold aTape; rw [if_neg (fun q => q hq1), if_pos h11], by unfold nTape; rw [if_neg (fun q => q hq1), if_pos h11, e1]; exact hr.tape t (-1) 0 _ (fun j g1 g2 => by rw [upS_off _ _ _ _ g2, upS_off _ _ _ _ g1]) (fun q hq => by rw [upS_off _ _ _ _ (by decide), upS_row]) (fun q hq => by rw [upS_row, upS_off _ _ _ _ (by decide)]; rfl) (fun q hq e => rfl) (fun j hj => absurd hj (by omega)) (Or.inl ⟨rfl, rfl⟩)⟩⟩
  · refine rx_iconst (-1) dX11_tape_7 (by decide) ?_
    exact rx_iret dX11_tape_8 rfl ⟨Nat.le_refl _, Nat.le_refl _⟩ ⟨rfl, _, rfl, ⟨by unfold aTape; rw [if_pos (b2i_eq h4)], by unfold nTape; rw [if_pos (b2i_eq h4)]; exact hr⟩⟩
set_option maxRecDepth 20000 in
set_option maxHeartbeats 400000 in
theorem cc_judge (g : GG) (σ : SIG) (t i : Int32) (S : SS) (L : LL) (hr : CRel S L σ) : Ci g 2 mX11_judge [.ref 0, .int t, .int i] SHC S L (fun r S' L' => r = aJudge σ t i ∧ CRel S' L' σ) := by
  refine ct_of (ls := [some (.ref 0), some (.int t), some (.int i), none]) 1 (by decide +kernel) rfl rfl ?_
  refine rx_iload_n dX11_judge_0 rfl ?_
  refine rx_cSi_1 clX11_236 dX11_judge_1 rfl (c_isTape g _ S L) ?_
  refine pur3 ?_
  refine rx_if_ne 9 dX11_judge_4 (by decide) (fun h4 => ?_) (fun h4 => ?_)
  · have hq1 := b2i_ne h4
    obtain ⟨t, ht5, rfl⟩ := rngI 5 (by omega) hq1.1 hq1.2
    have ht : t < 6 := by omega
    have e1 : (nI t).toNatClampNeg = t := nI_clamp (by omega)
    have hvt : vp_in (nI t) 6 := vp_in_nI ht (by omega)
    obtain ⟨hts, htz, htl⟩ := hr.2.2.2.2.2.2.2.2.2.2 t ht
    have hok := hr.1.2.2.2.2.2.2.2.2.2 t ht
    have hz6 : gZ σ t ≤ 60 := by rcases hok with ⟨_, q⟩ | ⟨_, q⟩ <;> omega
    refine rx_aload_n dX11_judge_9 rfl ?_
    refine rx_getR dX11_judge_10 flX11_85 (sC_0) rfl ?_
    refine rx_iload_n dX11_judge_13 rfl ?_
    refine rx_iaload dX11_judge_14 (sC_106) hvt ?_
    rw [e1, hts]
    refine rx_iconst (1) dX11_judge_15 (by decide) ?_
    refine rx_icmp_eq 32 dX11_judge_16 (by decide) (fun h16 => ?_) (fun h16 => ?_)
    · have hkd : gS σ t = 1 ∨ gS σ t = -1 := by first | exact Or.inl h16 | exact Or.inr h26
      refine rx_iconst (0) dX11_judge_32 (by decide) ?_
      refine rx_istore_3 rfl dX11_judge_33 ?_
      have hsz : S 53 6 = nI (nN σ) := hr.sc.1
      have hn7 : nN σ ≤ 7 := hr.n7
      have hev0 : jdP σ t i (nN σ) 0 = aJudge σ (nI t) i := by unfold aJudge; rw [if_neg (fun q => q hq1), e1, if_neg (fun q => q hkd)]
      have loop : ∀ (r c : Nat), c + r = nN σ → jdP σ t i r c = aJudge σ (nI t) i → Rx g 2 0 0 mX11_judge SHC.length (fun r sh' S' L' => sh' = SHC ∧ ∃ x, r = some (.int x) ∧ (x = aJudge σ (nI t) i ∧ CRel S' L' σ)) 0 0 34 [some (.ref 0), some (.int (nI t)), some (.int i), some (.int (nI c))] [] SHC S L := by
        intro r
        induction r with
        | zero =>
          intro c he hev
          refine rx_iload_n dX11_judge_34 rfl ?_
          refine rx_aload_n dX11_judge_35 rfl ?_
          refine rx_getR dX11_judge_36 flX11_54 (sC_0) rfl ?_
          refine rx_getI dX11_judge_39 flX11_96 (sC_53) rfl ?_
          rw [hsz]
          refine rx_icmp_ge 98 dX11_judge_42 (by decide) (fun h42 => ?_) (fun h42 => absurd (nI_le (by omega) (by omega)) h42)
          refine rx_bipush (-5) dX11_judge_98 (by decide) ?_
          exact rx_iret dX11_judge_100 rfl ⟨Nat.le_refl _, Nat.le_refl _⟩ ⟨rfl, _, rfl, ⟨hev, hr⟩⟩
        | succ r ih =>
          intro c he hev
          have hci : (nI c).toNatClampNeg = c := nI_clamp (by omega)
          have hvc : vp_in (nI c) 7 := vp_in_nI (by omega) (by omega)
          have hac : S 56 c = dA (gD σ) c := hr.sc.a (by omega)
          refine rx_iload_n dX11_judge_34 rfl ?_
          refine rx_aload_n dX11_judge_35 rfl ?_
          refine rx_getR dX11_judge_36 flX11_54 (sC_0) rfl ?_
          refine rx_getI dX11_judge_39 flX11_96 (sC_53) rfl ?_
          rw [hsz]
          refine rx_icmp_ge 98 dX11_judge_42 (by decide) (fun h42 => absurd h42 (nI_ge (by omega) (by omega))) (fun h42 => ?_)
          refine rx_iload_n dX11_judge_45 rfl ?_
          refine rx_if_lt 61 dX11_judge_46 (by decide) (fun h46 => ?_) (fun h46 => ?_)
          · have hno : ¬ (0 ≤ i.toInt ∧ i.toInt + c < gZ σ t) := by first | exact fun q => neg_no h46 q.1 | exact fun q => h58 (by rw [Int32.lt_iff_toInt_lt, pk_sub_toInt (by omega) (by omega)]; omega)
            refine rx_bipush (100) dX11_judge_61 (by decide) ?_
            refine rx_iload_n dX11_judge_63 rfl ?_
            refine rx_iadd dX11_judge_64 ?_
            exact rx_iret dX11_judge_65 rfl ⟨Nat.le_refl _, Nat.le_refl _⟩ ⟨rfl, _, rfl, ⟨by rw [← hev, show (100 : Int32) + nI c = nI (100 + c) from nI_add 100 c]; exact (if_pos hno).symm, hr⟩⟩
          · refine rx_iload_n dX11_judge_49 rfl ?_
            refine rx_aload_n dX11_judge_50 rfl ?_
            refine rx_getR dX11_judge_51 flX11_89 (sC_0) rfl ?_
            refine rx_iload_n dX11_judge_54 rfl ?_
            refine rx_iaload dX11_judge_55 (sC_107) hvt ?_
            rw [e1, htz]
            refine rx_iload_n dX11_judge_56 rfl ?_
            refine rx_isub dX11_judge_57 ?_
            refine rx_icmp_lt 66 dX11_judge_58 (by decide) (fun h58 => ?_) (fun h58 => ?_)
            · obtain ⟨i', hi1, hi2, hi3, hi4⟩ := nI_ofN h46
              have hlt : i.toInt + c < gZ σ t := by rw [Int32.lt_iff_toInt_lt, pk_sub_toInt (by omega) (by omega)] at h58; omega
              have hyes : 0 ≤ i.toInt ∧ i.toInt + c < gZ σ t := ⟨nneg h46, hlt⟩
              have hvx : vp_in (nI (i' + c)) 60 := vp_in_nI (by omega) (by omega)
              have e3 : (nI (i' + c)).toNatClampNeg = i' + c := nI_clamp (by omega)
              refine rx_aload_n dX11_judge_66 rfl ?_
              refine rx_getR dX11_judge_67 flX11_82 (sC_0) rfl ?_
              refine rx_iload_n dX11_judge_70 rfl ?_
              refine rx_aaload7 dX11_judge_71 (sC_99) hvt (by rw [e1]; exact kTp ht) ?_
              refine rx_iload_n dX11_judge_72 rfl ?_
              refine rx_iload_n dX11_judge_73 rfl ?_
              refine rx_iadd dX11_judge_74 ?_
              rw [show i + nI c = nI (i' + c) from by rw [hi2, nI_add]]
              refine rx_laload dX11_judge_75 (sTp ht) hvx ?_
              rw [e3, htl _ (by omega)]
              refine rx_aload_n dX11_judge_76 rfl ?_
              refine rx_getR dX11_judge_77 flX11_54 (sC_0) rfl ?_
              refine rx_getR dX11_judge_80 flX11_118 (sC_53) rfl ?_
              refine rx_iload_n dX11_judge_83 rfl ?_
              refine rx_iaload dX11_judge_84 (sC_56) hvc ?_
              rw [hci, hac]
              refine rx_i2l dX11_judge_85 ?_
              refine rx_lcmp dX11_judge_86 ?_
              refine rx_if_eq 92 dX11_judge_87 (by decide) (fun h87 => ?_) (fun h87 => ?_)
              · refine rx_iinc_3 (1) rfl dX11_judge_92 (by decide) ?_
                refine rx_goto 34 dX11_judge_95 (by decide) ?_
                rw [nI_1]
                refine ih (c + 1) (by omega) ?_
                rw [← hev]
                exact ((if_neg (fun q => q hyes)).trans (if_pos (by rw [hi4]; exact (lg_cmp_eq _ _).mp h87))).symm
              · refine rx_iload_n dX11_judge_90 rfl ?_
                exact rx_iret dX11_judge_91 rfl ⟨Nat.le_refl _, Nat.le_refl _⟩ ⟨rfl, _, rfl, ⟨by rw [← hev]; exact ((if_neg (fun q => q hyes)).trans (if_neg (fun q => h87 ((lg_cmp_eq _ _).mpr (by rw [← hi4]; exact q))))).symm, hr⟩⟩
            · have hno : ¬ (0 ≤ i.toInt ∧ i.toInt + c < gZ σ t) := by first | exact fun q => neg_no h46 q.1 | exact fun q => h58 (by rw [Int32.lt_iff_toInt_lt, pk_sub_toInt (by omega) (by omega)]; omega)
              refine rx_bipush (100) dX11_judge_61 (by decide) ?_
              refine rx_iload_n dX11_judge_63 rfl ?_
              refine rx_iadd dX11_judge_64 ?_
              exact rx_iret dX11_judge_65 rfl ⟨Nat.le_refl _, Nat.le_refl _⟩ ⟨rfl, _, rfl, ⟨by rw [← hev, show (100 : Int32) + nI c = nI (100 + c) from nI_add 100 c]; exact (if_pos hno).symm, hr⟩⟩
      exact loop (nN σ) 0 (by omega) hev0
    · refine rx_aload_n dX11_judge_19 rfl ?_
      refine rx_getR dX11_judge_20 flX11_85 (sC_0) rfl ?_
      refine rx_iload_n dX11_judge_23 rfl ?_
      refine rx_iaload dX11_judge_24 (sC_106) hvt ?_
      rw [e1, hts]
      refine rx_iconst (-1) dX11_judge_25 (by decide) ?_
      refine rx_icmp_eq 32 dX11_judge_26 (by decide) (fun h26 => ?_) (fun h26 => ?_)
      · have hkd : gS σ t = 1 ∨ gS σ t = -1 := by first | exact Or.inl h16 | exact Or.inr h26
        refine rx_iconst (0) dX11_judge_32 (by decide) ?_
        refine rx_istore_3 rfl dX11_judge_33 ?_
        have hsz : S 53 6 = nI (nN σ) := hr.sc.1
        have hn7 : nN σ ≤ 7 := hr.n7
        have hev0 : jdP σ t i (nN σ) 0 = aJudge σ (nI t) i := by unfold aJudge; rw [if_neg (fun q => q hq1), e1, if_neg (fun q => q hkd)]
        have loop : ∀ (r c : Nat), c + r = nN σ → jdP σ t i r c = aJudge σ (nI t) i → Rx g 2 0 0 mX11_judge SHC.length (fun r sh' S' L' => sh' = SHC ∧ ∃ x, r = some (.int x) ∧ (x = aJudge σ (nI t) i ∧ CRel S' L' σ)) 0 0 34 [some (.ref 0), some (.int (nI t)), some (.int i), some (.int (nI c))] [] SHC S L := by
          intro r
          induction r with
          | zero =>
            intro c he hev
            refine rx_iload_n dX11_judge_34 rfl ?_
            refine rx_aload_n dX11_judge_35 rfl ?_
            refine rx_getR dX11_judge_36 flX11_54 (sC_0) rfl ?_
            refine rx_getI dX11_judge_39 flX11_96 (sC_53) rfl ?_
            rw [hsz]
            refine rx_icmp_ge 98 dX11_judge_42 (by decide) (fun h42 => ?_) (fun h42 => absurd (nI_le (by omega) (by omega)) h42)
            refine rx_bipush (-5) dX11_judge_98 (by decide) ?_
            exact rx_iret dX11_judge_100 rfl ⟨Nat.le_refl _, Nat.le_refl _⟩ ⟨rfl, _, rfl, ⟨hev, hr⟩⟩
          | succ r ih =>
            intro c he hev
            have hci : (nI c).toNatClampNeg = c := nI_clamp (by omega)
            have hvc : vp_in (nI c) 7 := vp_in_nI (by omega) (by omega)
            have hac : S 56 c = dA (gD σ) c := hr.sc.a (by omega)
            refine rx_iload_n dX11_judge_34 rfl ?_
            refine rx_aload_n dX11_judge_35 rfl ?_
            refine rx_getR dX11_judge_36 flX11_54 (sC_0) rfl ?_
            refine rx_getI dX11_judge_39 flX11_96 (sC_53) rfl ?_
            rw [hsz]
            refine rx_icmp_ge 98 dX11_judge_42 (by decide) (fun h42 => absurd h42 (nI_ge (by omega) (by omega))) (fun h42 => ?_)
            refine rx_iload_n dX11_judge_45 rfl ?_
            refine rx_if_lt 61 dX11_judge_46 (by decide) (fun h46 => ?_) (fun h46 => ?_)
            · have hno : ¬ (0 ≤ i.toInt ∧ i.toInt + c < gZ σ t) := by first | exact fun q => neg_no h46 q.1 | exact fun q => h58 (by rw [Int32.lt_iff_toInt_lt, pk_sub_toInt (by omega) (by omega)]; omega)
              refine rx_bipush (100) dX11_judge_61 (by decide) ?_
              refine rx_iload_n dX11_judge_63 rfl ?_
              refine rx_iadd dX11_judge_64 ?_
              exact rx_iret dX11_judge_65 rfl ⟨Nat.le_refl _, Nat.le_refl _⟩ ⟨rfl, _, rfl, ⟨by rw [← hev, show (100 : Int32) + nI c = nI (100 + c) from nI_add 100 c]; exact (if_pos hno).symm, hr⟩⟩
            · refine rx_iload_n dX11_judge_49 rfl ?_
              refine rx_aload_n dX11_judge_50 rfl ?_
              refine rx_getR dX11_judge_51 flX11_89 (sC_0) rfl ?_
              refine rx_iload_n dX11_judge_54 rfl ?_
              refine rx_iaload dX11_judge_55 (sC_107) hvt ?_
              rw [e1, htz]
              refine rx_iload_n dX11_judge_56 rfl ?_
              refine rx_isub dX11_judge_57 ?_
              refine rx_icmp_lt 66 dX11_judge_58 (by decide) (fun h58 => ?_) (fun h58 => ?_)
              · obtain ⟨i', hi1, hi2, hi3, hi4⟩ := nI_ofN h46
                have hlt : i.toInt + c < gZ σ t := by rw [Int32.lt_iff_toInt_lt, pk_sub_toInt (by omega) (by omega)] at h58; omega
                have hyes : 0 ≤ i.toInt ∧ i.toInt + c < gZ σ t := ⟨nneg h46, hlt⟩
                have hvx : vp_in (nI (i' + c)) 60 := vp_in_nI (by omega) (by omega)
                have e3 : (nI (i' + c)).toNatClampNeg = i' + c := nI_clamp (by omega)
                refine rx_aload_n dX11_judge_66 rfl ?_
                refine rx_getR dX11_judge_67 flX11_82 (sC_0) rfl ?_
                refine rx_iload_n dX11_judge_70 rfl ?_
                refine rx_aaload7 dX11_judge_71 (sC_99) hvt (by rw [e1]; exact kTp ht) ?_
                refine rx_iload_n dX11_judge_72 rfl ?_
                refine rx_iload_n dX11_judge_73 rfl ?_
                refine rx_iadd dX11_judge_74 ?_
                rw [show i + nI c = nI (i' + c) from by rw [hi2, nI_add]]
                refine rx_laload dX11_judge_75 (sTp ht) hvx ?_
                rw [e3, htl _ (by omega)]
                refine rx_aload_n dX11_judge_76 rfl ?_
                refine rx_getR dX11_judge_77 flX11_54 (sC_0) rfl ?_
                refine rx_getR dX11_judge_80 flX11_118 (sC_53) rfl ?_
                refine rx_iload_n dX11_judge_83 rfl ?_
                refine rx_iaload dX11_judge_84 (sC_56) hvc ?_
                rw [hci, hac]
                refine rx_i2l dX11_judge_85 ?_
                refine rx_lcmp dX11_judge_86 ?_
                refine rx_if_eq 92 dX11_judge_87 (by decide) (fun h87 => ?_) (fun h87 => ?_)
                · refine rx_iinc_3 (1) rfl dX11_judge_92 (by decide) ?_
                  refine rx_goto 34 dX11_judge_95 (by decide) ?_
                  rw [nI_1]
                  refine ih (c + 1) (by omega) ?_
                  rw [← hev]
                  exact ((if_neg (fun q => q hyes)).trans (if_pos (by rw [hi4]; exact (lg_cmp_eq _ _).mp h87))).symm
                · refine rx_iload_n dX11_judge_90 rfl ?_
                  exact rx_iret dX11_judge_91 rfl ⟨Nat.le_refl _, Nat.le_refl _⟩ ⟨rfl, _, rfl, ⟨by rw [← hev]; exact ((if_neg (fun q => q hyes)).trans (if_neg (fun q => h87 ((lg_cmp_eq _ _).mpr (by rw [← hi4]; exact q))))).symm, hr⟩⟩
              · have hno : ¬ (0 ≤ i.toInt ∧ i.toInt + c < gZ σ t) := by first | exact fun q => neg_no h46 q.1 | exact fun q => h58 (by rw [Int32.lt_iff_toInt_lt, pk_sub_toInt (by omega) (by omega)]; omega)
                refine rx_bipush (100) dX11_judge_61 (by decide) ?_
                refine rx_iload_n dX11_judge_63 rfl ?_
                refine rx_iadd dX11_judge_64 ?_
                exact rx_iret dX11_judge_65 rfl ⟨Nat.le_refl _, Nat.le_refl _⟩ ⟨rfl, _, rfl, ⟨by rw [← hev, show (100 : Int32) + nI c = nI (100 + c) from nI_add 100 c]; exact (if_pos hno).symm, hr⟩⟩
        exact loop (nN σ) 0 (by omega) hev0
      · refine rx_bipush (-12) dX11_judge_29 (by decide) ?_
        exact rx_iret dX11_judge_31 rfl ⟨Nat.le_refl _, Nat.le_refl _⟩ ⟨rfl, _, rfl, ⟨by unfold aJudge; rw [if_neg (fun q => q hq1), e1, if_pos (fun q => q.elim h16 h26)], hr⟩⟩
  · refine rx_iconst (-1) dX11_judge_7 (by decide) ?_
    exact rx_iret dX11_judge_8 rfl ⟨Nat.le_refl _, Nat.le_refl _⟩ ⟨rfl, _, rfl, ⟨by unfold aJudge; rw [if_pos (b2i_eq h4)], hr⟩⟩
