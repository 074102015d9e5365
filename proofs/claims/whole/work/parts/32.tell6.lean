-- CHILD, TAKEN
def addS (S : SS) (n : Nat) (k v : Int32) : SS := upS (upS (upS (upS (upS (upS (upS (upS (upS (upS S 54 n k) 55 n v) 56 n 0) 57 n 1) 58 n 0) 59 (n * 4 + 0) 0) 59 (n * 4 + 1) 0) 59 (n * 4 + 2) 0) 59 (n * 4 + 3) 0) 53 6 (nI (n + 1))
theorem addS_off {S : SS} {n : Nat} {k v : Int32} {j : Nat} (h : j < 53 ∨ 59 < j) : addS S n k v j = S j := by unfold addS; simp (disch := omega) only [upS_off]
theorem addS_53 {S : SS} {n : Nat} {k v : Int32} : addS S n k v 53 = upd (S 53) 6 (nI (n + 1)) := by unfold addS; rw [upS_row]; simp (disch := omega) only [upS_off]
theorem addS_54 {S : SS} {n : Nat} {k v : Int32} : addS S n k v 54 = upd (S 54) n k := by unfold addS; simp (disch := omega) only [upS_off, upS_row]
theorem addS_55 {S : SS} {n : Nat} {k v : Int32} : addS S n k v 55 = upd (S 55) n v := by unfold addS; simp (disch := omega) only [upS_off, upS_row]
theorem addS_56 {S : SS} {n : Nat} {k v : Int32} : addS S n k v 56 = upd (S 56) n 0 := by unfold addS; simp (disch := omega) only [upS_off, upS_row]
theorem addS_57 {S : SS} {n : Nat} {k v : Int32} : addS S n k v 57 = upd (S 57) n 1 := by unfold addS; simp (disch := omega) only [upS_off, upS_row]
theorem addS_58 {S : SS} {n : Nat} {k v : Int32} : addS S n k v 58 = upd (S 58) n 0 := by unfold addS; simp (disch := omega) only [upS_off, upS_row]
def rw4 (f : Nat → Int32) (n : Nat) : Nat → Int32 := fun c => if n * 4 ≤ c ∧ c < n * 4 + 4 then 0 else f c
theorem addS_59 {S : SS} {n : Nat} {k v : Int32} {c : Nat} : addS S n k v 59 c = rw4 (S 59) n c := by
  have e : addS S n k v 59 = upd (upd (upd (upd (S 59) (n * 4 + 0) 0) (n * 4 + 1) 0) (n * 4 + 2) 0) (n * 4 + 3) 0 := by unfold addS; simp (disch := omega) only [upS_off, upS_row]
  rw [e]
  unfold rw4
  by_cases h3 : c = n * 4 + 3
  · rw [h3, pk_us, if_pos (by omega)]
  · rw [pk_un h3]
    by_cases h2 : c = n * 4 + 2
    · rw [h2, pk_us, if_pos (by omega)]
    · rw [pk_un h2]
      by_cases h1 : c = n * 4 + 1
      · rw [h1, pk_us, if_pos (by omega)]
      · rw [pk_un h1]
        by_cases h0 : c = n * 4 + 0
        · rw [h0, pk_us, if_pos (by omega)]
        · rw [pk_un h0, if_neg (by omega)]
def addC (s : SCN) (k v : Int32) : SCN := (s.1 + 1, upd s.2.1 s.1 k, upd s.2.2.1 s.1 v, upd s.2.2.2.1 s.1 1, rw4 s.2.2.2.2.1 s.1, s.2.2.2.2.2.1, (upd (dA (sD s)) s.1 0, dW (sD s), dT (sD s), upd (dS (sD s)) s.1 0), sY s, sSn s, sBk s)
def aChild (σ : SIG) (k v : Int32) : Int32 := if ¬ (0 ≤ k ∧ k ≤ 6) then -1 else if ¬ (0 ≤ v ∧ v ≤ 9) then -2 else if nN σ < 7 then nI (nN σ) else -4
def nChild (σ : SIG) (k v : Int32) : SIG := if ¬ (0 ≤ k ∧ k ≤ 6) then σ else if ¬ (0 ≤ v ∧ v ≤ 9) then σ else if nN σ < 7 then (addC (gN σ) k v, σ.2) else σ
theorem ex_upd {P : Int32 → Prop} {f : Nat → Int32} {n : Nat} {x : Int32} (h : ∀ c, c < n → P (f c)) (hx : P x) : ∀ c, c < n + 1 → P (upd f n x c) := fun c hc => by
  by_cases e : c = n
  · rw [e, pk_us]; exact hx
  · rw [pk_un e]; exact h c (by omega)
theorem upd_eq {f g : Nat → Int32} {n : Nat} {x : Int32} {c : Nat} (h : f c = g c) : upd f n x c = upd g n x c := by
  by_cases e : c = n
  · rw [e, pk_us, pk_us]
  · rw [pk_un e, pk_un e]; exact h
theorem OKs.add {s : SCN} {yd : Nat → YD} (h : OKs s yd) (hn : s.1 < 7) (k v : Nat) (hk : k < 7) (hv : v ≤ 9) : OKs (addC s (nI k) (nI v)) yd := by
  obtain ⟨⟨n1, n2, n3, n4, n5, n6⟩, ⟨⟨W, hW, eW⟩, d2, d3⟩, k2, k3, k4, k5, k6⟩ := h
  refine ⟨⟨hn, ex_upd (P := fun x => ∃ k, k < 7 ∧ x = nI k) n2 ⟨k, hk, rfl⟩, ex_upd (P := fun x => ∃ k, k ≤ 9 ∧ x = nI k) n3 ⟨v, hv, rfl⟩, ex_upd (P := fun x => ∃ k, k ≤ 9 ∧ x = nI k) n4 ⟨1, by omega, rfl⟩, fun c hc => ?_, n6⟩, ⟨⟨W, Nat.lt_of_lt_of_le hW (Nat.pow_le_pow_right (by decide) (Nat.le_succ _)), eW⟩, ex_upd (P := fun x => ∃ a, a ≤ 99 ∧ x = nI a) d2 ⟨0, by omega, rfl⟩, ex_upd (P := fun x => ∃ q, q ≤ dT (sD s) ∧ x = nI q) d3 ⟨0, by omega, rfl⟩⟩, k2, fun q hq => ⟨Nat.lt_succ_of_lt (k3 q hq).1, (k3 q hq).2⟩, fun q hq => ⟨Nat.lt_succ_of_lt (k4 q hq).1, (k4 q hq).2⟩, k5, k6⟩
  show ∃ k, k ≤ 9 ∧ rw4 s.2.2.2.2.1 s.1 c = nI k
  unfold rw4
  by_cases e : s.1 * 4 ≤ c ∧ c < s.1 * 4 + 4
  · rw [if_pos e]; exact ⟨0, by omega, rfl⟩
  · rw [if_neg e]; exact n5 c hc
theorem CRel.child {S : SS} {L : LL} {σ : SIG} (h : CRel S L σ) (hn : nN σ < 7) (k v : Nat) (hk : k < 7) (hv : v ≤ 9) : CRel (addS S (nN σ) (nI k) (nI v)) L (addC (gN σ) (nI k) (nI v), σ.2) := by
  obtain ⟨⟨a1, a2, a3, a4, a5, a6, ⟨y, hy, hyS, hY⟩, a8, a9, a10, a11, a12⟩, b2, ⟨b3, b4⟩, ⟨b5, b6⟩⟩ := h.2.1
  have o53 : ∀ q, q ≠ 6 → addS S (nN σ) (nI k) (nI v) 53 q = S 53 q := fun q hq => by rw [addS_53, pk_un hq]
  refine h.now (fun j h1 h2 => addS_off (by omega)) ⟨⟨?_, fun c hc => ?_, fun c hc => ?_, fun c hc => ?_, fun c hc => ?_, fun c hc => ?_, ⟨y, hy, by rw [o53 10 (by decide)]; exact hyS, hY.off hy (fun j g1 g2 => addS_off (by omega))⟩, fun c hc => ?_, by rw [o53 7 (by decide)]; exact a9, by rw [o53 9 (by decide)]; exact a10, a11, fun c hc => ?_⟩, by rw [o53 10 (by decide)]; exact b2, ⟨by rw [o53 14 (by decide)]; exact b3, fun i q hq => by rw [addS_off (by omega), addS_off (by omega), addS_off (by omega)]; exact b4 i q hq⟩, ⟨by rw [o53 17 (by decide)]; exact b5, fun i q hq => by rw [addS_off (by omega), addS_off (by omega)]; exact b6 i q hq⟩⟩ (h.1.1.add hn k v hk hv) h.1.2.2.2.1
  · rw [addS_53, pk_us]; rfl
  · show addS S (nN σ) (nI k) (nI v) 54 c = _
    rw [addS_54]; exact upd_eq (a2 c hc)
  · show addS S (nN σ) (nI k) (nI v) 55 c = _
    rw [addS_55]; exact upd_eq (a3 c hc)
  · show addS S (nN σ) (nI k) (nI v) 57 c = _
    rw [addS_57]; exact upd_eq (a4 c hc)
  · show addS S (nN σ) (nI k) (nI v) 59 c = rw4 _ _ c
    rw [addS_59]
    unfold rw4
    by_cases e : nN σ * 4 ≤ c ∧ c < nN σ * 4 + 4
    · rw [if_pos e]; exact (if_pos e).symm
    · rw [if_neg e]; exact (a5 c hc).trans (if_neg e).symm
  · show addS S (nN σ) (nI k) (nI v) 60 c = _
    rw [addS_off (by omega)]; exact a6 c hc
  · show addS S (nN σ) (nI k) (nI v) 56 c = _
    rw [addS_56]; exact upd_eq (a8 c hc)
  · show addS S (nN σ) (nI k) (nI v) 58 c = _
    rw [addS_58]; exact upd_eq (a12 c hc)
def tkP (k : Int32) : Nat → Int32 → Bool
  | 0, _ => false
  | r + 1, a => if 0 ≤ a ∧ a ≤ 6 then (if a = k then true else tkP k r (kaTab.getD a.toNatClampNeg 0)) else false
def aTaken (σ : SIG) (c k : Int32) : Int32 := if ¬ (0 ≤ k ∧ k ≤ 6) then -2 else if ¬ (0 ≤ c ∧ c < nI (nN σ)) then -11 else if tkP k 7 (eK (gE σ) c.toNatClampNeg) = true then eK (gE σ) c.toNatClampNeg else -12

set_option maxRecDepth 20000 in
set_option maxHeartbeats 1000000 in
theorem c_addChild (g : GG) (n : Nat) (k v : Int32) (S : SS) (L : LL) (hn7 : n < 7) (hn : S 53 6 = nI n) : Ci g 0 mX5_addChild [.ref 53, .int k, .int v] SHC S L (fun r S' L' => r = nI n ∧ S' = addS S n k v ∧ L' = L) := by
  have hnc : (nI n).toNatClampNeg = n := nI_clamp (by omega)
  have hvn : vp_in (nI n) 7 := vp_in_nI hn7 (by omega)
  have hx0 : nI n * 4 + 0 = nI (n * 4 + 0) := by rw [show (4 : Int32) = nI 4 from rfl, pk_mul]; exact nI_add _ 0
  have hc0 : (nI (n * 4 + 0)).toNatClampNeg = n * 4 + 0 := nI_clamp (by omega)
  have hv0 : vp_in (nI (n * 4 + 0)) 28 := vp_in_nI (by omega) (by omega)
  have hx1 : nI n * 4 + 1 = nI (n * 4 + 1) := by rw [show (4 : Int32) = nI 4 from rfl, pk_mul]; exact nI_add _ 1
  have hc1 : (nI (n * 4 + 1)).toNatClampNeg = n * 4 + 1 := nI_clamp (by omega)
  have hv1 : vp_in (nI (n * 4 + 1)) 28 := vp_in_nI (by omega) (by omega)
  have hx2 : nI n * 4 + 2 = nI (n * 4 + 2) := by rw [show (4 : Int32) = nI 4 from rfl, pk_mul]; exact nI_add _ 2
  have hc2 : (nI (n * 4 + 2)).toNatClampNeg = n * 4 + 2 := nI_clamp (by omega)
  have hv2 : vp_in (nI (n * 4 + 2)) 28 := vp_in_nI (by omega) (by omega)
  have hx3 : nI n * 4 + 3 = nI (n * 4 + 3) := by rw [show (4 : Int32) = nI 4 from rfl, pk_mul]; exact nI_add _ 3
  have hc3 : (nI (n * 4 + 3)).toNatClampNeg = n * 4 + 3 := nI_clamp (by omega)
  have hv3 : vp_in (nI (n * 4 + 3)) 28 := vp_in_nI (by omega) (by omega)
  refine ct_of (ls := [some (.ref 53), some (.int k), some (.int v), none, none]) 2 (by decide +kernel) rfl rfl ?_
  refine rx_aload_n dX5_addChild_0 rfl ?_
  refine rx_getI dX5_addChild_1 flX5_58 (sC_53) rfl ?_
  rw [hn]
  refine rx_istore_3 rfl dX5_addChild_4 ?_
  refine rx_aload_n dX5_addChild_5 rfl ?_
  refine rx_getR dX5_addChild_6 flX5_9 (sC_53) rfl ?_
  refine rx_iload_n dX5_addChild_9 rfl ?_
  refine rx_iload_n dX5_addChild_10 rfl ?_
  refine rx_iastore dX5_addChild_11 (sC_54) hvn ?_
  refine rx_aload_n dX5_addChild_12 rfl ?_
  refine rx_getR dX5_addChild_13 flX5_15 (sC_53) rfl ?_
  refine rx_iload_n dX5_addChild_16 rfl ?_
  refine rx_iload_n dX5_addChild_17 rfl ?_
  refine rx_iastore dX5_addChild_18 (sC_55) hvn ?_
  refine rx_aload_n dX5_addChild_19 rfl ?_
  refine rx_getR dX5_addChild_20 flX5_18 (sC_53) rfl ?_
  refine rx_iload_n dX5_addChild_23 rfl ?_
  refine rx_iconst (0) dX5_addChild_24 (by decide) ?_
  refine rx_iastore dX5_addChild_25 (sC_56) hvn ?_
  refine rx_aload_n dX5_addChild_26 rfl ?_
  refine rx_getR dX5_addChild_27 flX5_21 (sC_53) rfl ?_
  refine rx_iload_n dX5_addChild_30 rfl ?_
  refine rx_iconst (1) dX5_addChild_31 (by decide) ?_
  refine rx_iastore dX5_addChild_32 (sC_57) hvn ?_
  refine rx_aload_n dX5_addChild_33 rfl ?_
  refine rx_getR dX5_addChild_34 flX5_24 (sC_53) rfl ?_
  refine rx_iload_n dX5_addChild_37 rfl ?_
  refine rx_iconst (0) dX5_addChild_38 (by decide) ?_
  refine rx_iastore dX5_addChild_39 (sC_58) hvn ?_
  refine rx_iconst (0) dX5_addChild_40 (by decide) ?_
  refine rx_istore_4 rfl dX5_addChild_41 ?_
  refine rx_iload dX5_addChild_43 rfl ?_
  refine rx_iconst (4) dX5_addChild_45 (by decide) ?_
  refine rx_icmp_ge 67 dX5_addChild_46 (by decide) (fun h46 => absurd h46 (by decide)) (fun h46 => ?_)
  refine rx_aload_n dX5_addChild_49 rfl ?_
  refine rx_getR dX5_addChild_50 flX5_27 (sC_53) rfl ?_
  refine rx_iload_n dX5_addChild_53 rfl ?_
  refine rx_iconst (4) dX5_addChild_54 (by decide) ?_
  refine rx_imul dX5_addChild_55 ?_
  refine rx_iload dX5_addChild_56 rfl ?_
  refine rx_iadd dX5_addChild_58 ?_
  refine rx_iconst (0) dX5_addChild_59 (by decide) ?_
  first | rw [hx0] | rw [hx1] | rw [hx2] | rw [hx3]
  refine rx_iastore dX5_addChild_60 (sC_59) (by first | exact hv0 | exact hv1 | exact hv2 | exact hv3) ?_
  refine rx_iinc_4 (1) rfl dX5_addChild_61 (by decide) ?_
  rw [show ((0 : Int32) + 1) = 1 from by decide]
  refine rx_goto 43 dX5_addChild_64 (by decide) ?_
  refine rx_iload dX5_addChild_43 rfl ?_
  refine rx_iconst (4) dX5_addChild_45 (by decide) ?_
  refine rx_icmp_ge 67 dX5_addChild_46 (by decide) (fun h46 => absurd h46 (by decide)) (fun h46 => ?_)
  refine rx_aload_n dX5_addChild_49 rfl ?_
  refine rx_getR dX5_addChild_50 flX5_27 (sC_53) rfl ?_
  refine rx_iload_n dX5_addChild_53 rfl ?_
  refine rx_iconst (4) dX5_addChild_54 (by decide) ?_
  refine rx_imul dX5_addChild_55 ?_
  refine rx_iload dX5_addChild_56 rfl ?_
  refine rx_iadd dX5_addChild_58 ?_
  refine rx_iconst (0) dX5_addChild_59 (by decide) ?_
  first | rw [hx0] | rw [hx1] | rw [hx2] | rw [hx3]
  refine rx_iastore dX5_addChild_60 (sC_59) (by first | exact hv0 | exact hv1 | exact hv2 | exact hv3) ?_
  refine rx_iinc_4 (1) rfl dX5_addChild_61 (by decide) ?_
  rw [show ((1 : Int32) + 1) = 2 from by decide]
  refine rx_goto 43 dX5_addChild_64 (by decide) ?_
  refine rx_iload dX5_addChild_43 rfl ?_
  refine rx_iconst (4) dX5_addChild_45 (by decide) ?_
  refine rx_icmp_ge 67 dX5_addChild_46 (by decide) (fun h46 => absurd h46 (by decide)) (fun h46 => ?_)
  refine rx_aload_n dX5_addChild_49 rfl ?_
  refine rx_getR dX5_addChild_50 flX5_27 (sC_53) rfl ?_
  refine rx_iload_n dX5_addChild_53 rfl ?_
  refine rx_iconst (4) dX5_addChild_54 (by decide) ?_
  refine rx_imul dX5_addChild_55 ?_
  refine rx_iload dX5_addChild_56 rfl ?_
  refine rx_iadd dX5_addChild_58 ?_
  refine rx_iconst (0) dX5_addChild_59 (by decide) ?_
  first | rw [hx0] | rw [hx1] | rw [hx2] | rw [hx3]
  refine rx_iastore dX5_addChild_60 (sC_59) (by first | exact hv0 | exact hv1 | exact hv2 | exact hv3) ?_
  refine rx_iinc_4 (1) rfl dX5_addChild_61 (by decide) ?_
  rw [show ((2 : Int32) + 1) = 3 from by decide]
  refine rx_goto 43 dX5_addChild_64 (by decide) ?_
  refine rx_iload dX5_addChild_43 rfl ?_
  refine rx_iconst (4) dX5_addChild_45 (by decide) ?_
  refine rx_icmp_ge 67 dX5_addChild_46 (by decide) (fun h46 => absurd h46 (by decide)) (fun h46 => ?_)
  refine rx_aload_n dX5_addChild_49 rfl ?_
  refine rx_getR dX5_addChild_50 flX5_27 (sC_53) rfl ?_
  refine rx_iload_n dX5_addChild_53 rfl ?_
  refine rx_iconst (4) dX5_addChild_54 (by decide) ?_
  refine rx_imul dX5_addChild_55 ?_
  refine rx_iload dX5_addChild_56 rfl ?_
  refine rx_iadd dX5_addChild_58 ?_
  refine rx_iconst (0) dX5_addChild_59 (by decide) ?_
  first | rw [hx0] | rw [hx1] | rw [hx2] | rw [hx3]
  refine rx_iastore dX5_addChild_60 (sC_59) (by first | exact hv0 | exact hv1 | exact hv2 | exact hv3) ?_
  refine rx_iinc_4 (1) rfl dX5_addChild_61 (by decide) ?_
  rw [show ((3 : Int32) + 1) = 4 from by decide]
  refine rx_goto 43 dX5_addChild_64 (by decide) ?_
  refine rx_iload dX5_addChild_43 rfl ?_
  refine rx_iconst (4) dX5_addChild_45 (by decide) ?_
  refine rx_icmp_ge 67 dX5_addChild_46 (by decide) (fun h46 => ?_) (fun h46 => absurd (by decide) h46)
  refine rx_aload_n dX5_addChild_67 rfl ?_
  refine rx_dup dX5_addChild_68 rfl ?_
  refine rx_getI dX5_addChild_69 flX5_58 (sC_53) rfl ?_
  rw [hnc, hc0, hc1, hc2, hc3]; simp (disch := omega) only [upS_off]; rw [hn]
  refine rx_iconst (1) dX5_addChild_72 (by decide) ?_
  refine rx_iadd dX5_addChild_73 ?_
  rw [nI_1]
  refine rx_putI dX5_addChild_74 flX5_58 (sC_53) rfl ?_
  refine rx_iload_n dX5_addChild_77 rfl ?_
  exact rx_iret dX5_addChild_78 rfl ⟨Nat.le_refl _, Nat.le_refl _⟩ ⟨rfl, _, rfl, ⟨rfl, rfl, rfl⟩⟩
set_option maxRecDepth 20000 in
set_option maxHeartbeats 1000000 in
theorem cc_child (g : GG) (σ : SIG) (k v : Int32) (S : SS) (L : LL) (hr : CRel S L σ) : Ci g 1 mX11_child [.ref 0, .int k, .int v] SHC S L (fun r S' L' => r = aChild σ k v ∧ CRel S' L' (nChild σ k v)) := by
  refine ct_of (ls := [some (.ref 0), some (.int k), some (.int v)]) 0 (by decide +kernel) rfl rfl ?_
  refine rx_iload_n dX11_child_0 rfl ?_
  refine rx_iconst (0) dX11_child_1 (by decide) ?_
  refine rx_bipush (6) dX11_child_2 (by decide) ?_
  refine rx_cSi_3 clX11_92 dX11_child_4 rfl (c_within g _ _ _ S L) ?_
  refine pur3 ?_
  refine rx_if_ne 12 dX11_child_7 (by decide) (fun h7 => ?_) (fun h7 => ?_)
  · refine rx_iload_n dX11_child_12 rfl ?_
    refine rx_iconst (0) dX11_child_13 (by decide) ?_
    refine rx_bipush (9) dX11_child_14 (by decide) ?_
    refine rx_cSi_3 clX11_92 dX11_child_16 rfl (c_within g _ _ _ S L) ?_
    refine pur3 ?_
    refine rx_if_ne 25 dX11_child_19 (by decide) (fun h19 => ?_) (fun h19 => ?_)
    · have hq1 := b2i_ne h7
      have hq2 := b2i_ne h19
      obtain ⟨k, hk, rfl⟩ := rngI 6 (by omega) hq1.1 hq1.2
      obtain ⟨v, hv, rfl⟩ := rngI 9 (by omega) hq2.1 hq2.2
      have hn7 : nN σ ≤ 7 := hr.n7
      have hsz : S 53 6 = nI (nN σ) := hr.sc.1
      refine rx_aload_n dX11_child_25 rfl ?_
      refine rx_getR dX11_child_26 flX11_54 (sC_0) rfl ?_
      refine rx_getI dX11_child_29 flX11_96 (sC_53) rfl ?_
      rw [hsz]
      refine rx_bipush (7) dX11_child_32 (by decide) ?_
      refine rx_icmp_lt 40 dX11_child_34 (by decide) (fun h34 => ?_) (fun h34 => ?_)
      · have hf : nN σ < 7 := (nI_ltI (b := 7) (by omega) (by omega)).mp h34
        refine rx_aload_n dX11_child_40 rfl ?_
        refine rx_getR dX11_child_41 flX11_54 (sC_0) rfl ?_
        refine rx_iload_n dX11_child_44 rfl ?_
        refine rx_iload_n dX11_child_45 rfl ?_
        refine rx_cVi_2 clX11_100 dX11_child_46 (rcvo (sC_53) rfl) rfl (c_addChild g (nN σ) (nI k) (nI v) S L hf hsz) ?_
        refine pur3 ?_
        exact rx_iret dX11_child_49 rfl ⟨Nat.le_refl _, Nat.le_refl _⟩ ⟨rfl, _, rfl, ⟨by unfold aChild; rw [if_neg (fun q => q hq1), if_neg (fun q => q hq2), if_pos hf], by unfold nChild; rw [if_neg (fun q => q hq1), if_neg (fun q => q hq2), if_pos hf]; exact hr.child hf k v (by omega) hv⟩⟩
      · have hf : ¬ nN σ < 7 := fun q => h34 (nI_lt (b := 7) q (by omega))
        refine rx_bipush (-4) dX11_child_37 (by decide) ?_
        exact rx_iret dX11_child_39 rfl ⟨Nat.le_refl _, Nat.le_refl _⟩ ⟨rfl, _, rfl, ⟨by unfold aChild; rw [if_neg (fun q => q hq1), if_neg (fun q => q hq2), if_neg hf], by unfold nChild; rw [if_neg (fun q => q hq1), if_neg (fun q => q hq2), if_neg hf]; exact hr⟩⟩
    · refine rx_bipush (-2) dX11_child_22 (by decide) ?_
      exact rx_iret dX11_child_24 rfl ⟨Nat.le_refl _, Nat.le_refl _⟩ ⟨rfl, _, rfl, ⟨by unfold aChild; rw [if_neg (fun q => q (b2i_ne h7)), if_pos (b2i_eq h19)], by unfold nChild; rw [if_neg (fun q => q (b2i_ne h7)), if_pos (b2i_eq h19)]; exact hr⟩⟩
  · refine rx_iconst (-1) dX11_child_10 (by decide) ?_
    exact rx_iret dX11_child_11 rfl ⟨Nat.le_refl _, Nat.le_refl _⟩ ⟨rfl, _, rfl, ⟨by unfold aChild; rw [if_pos (b2i_eq h7)], by unfold nChild; rw [if_pos (b2i_eq h7)]; exact hr⟩⟩
set_option maxRecDepth 20000 in
set_option maxHeartbeats 400000 in
theorem cc_taken (g : GG) (σ : SIG) (c k : Int32) (S : SS) (L : LL) (hr : CRel S L σ) : Ci g 1 mX11_taken [.ref 0, .int c, .int k] SHC S L (fun r S' L' => r = aTaken σ c k ∧ CRel S' L' σ) := by
  refine ct_of (ls := [some (.ref 0), some (.int c), some (.int k), none, none]) 2 (by decide +kernel) rfl rfl ?_
  refine rx_iload_n dX11_taken_0 rfl ?_
  refine rx_iconst (0) dX11_taken_1 (by decide) ?_
  refine rx_bipush (6) dX11_taken_2 (by decide) ?_
  refine rx_cSi_3 clX11_92 dX11_taken_4 rfl (c_within g _ _ _ S L) ?_
  refine pur3 ?_
  refine rx_if_ne 13 dX11_taken_7 (by decide) (fun h7 => ?_) (fun h7 => ?_)
  · refine rx_aload_n dX11_taken_13 rfl ?_
    refine rx_getR dX11_taken_14 flX11_54 (sC_0) rfl ?_
    refine rx_iload_n dX11_taken_17 rfl ?_
    refine rx_cVi_1 clX11_104 dX11_taken_18 (rcvo (sC_53) rfl) rfl (c_has g S53 _ S L) ?_
    refine pur3 ?_
    rw [show S 53 6 = nI (nN σ) from hr.sc.1]
    refine rx_if_ne 27 dX11_taken_21 (by decide) (fun h21 => ?_) (fun h21 => ?_)
    · have hq1 := b2i_ne h7
      have hq2 := b2i_ne h21
      have hn7 : nN σ ≤ 7 := hr.n7
      obtain ⟨c, hc, rfl⟩ := rngL (nN σ) (by omega) hq2.1 hq2.2
      have hci : (nI c).toNatClampNeg = c := nI_clamp (by omega)
      have hvc : vp_in (nI c) 7 := vp_in_nI (by omega) (by omega)
      have hkc : S 54 c = eK (gE σ) c := hr.sc.2.1 c (by omega)
      refine rx_aload_n dX11_taken_27 rfl ?_
      refine rx_getR dX11_taken_28 flX11_54 (sC_0) rfl ?_
      refine rx_getR dX11_taken_31 flX11_112 (sC_53) rfl ?_
      refine rx_iload_n dX11_taken_34 rfl ?_
      refine rx_iaload dX11_taken_35 (sC_54) hvc ?_
      rw [hci, hkc]
      refine rx_istore_3 rfl dX11_taken_36 ?_
      refine rx_iconst (0) dX11_taken_37 (by decide) ?_
      refine rx_istore_4 rfl dX11_taken_38 ?_
      have htk : aTaken σ (nI c) k = if tkP k 7 (eK (gE σ) c) = true then eK (gE σ) c else -12 := by unfold aTaken; rw [if_neg (fun q => q hq1), if_neg (fun q => q hq2), hci]
      have loop : ∀ (r i : Nat) (a : Int32), i + r = 7 → tkP k r a = tkP k 7 (eK (gE σ) c) → Rx g 1 0 0 mX11_taken SHC.length (fun r sh' S' L' => sh' = SHC ∧ ∃ x, r = some (.int x) ∧ (x = aTaken σ (nI c) k ∧ CRel S' L' σ)) 0 0 40 [some (.ref 0), some (.int (nI c)), some (.int k), some (.int a), some (.int (nI i))] [] SHC S L := by
        intro r
        induction r with
        | zero =>
          intro i a he hev
          refine rx_iload dX11_taken_40 rfl ?_
          refine rx_bipush (7) dX11_taken_42 (by decide) ?_
          refine rx_icmp_ge 84 dX11_taken_44 (by decide) (fun h44 => ?_) (fun h44 => absurd (nI_le (a := 7) (b := i) (by omega) (by omega)) h44)
          refine rx_bipush (-12) dX11_taken_84 (by decide) ?_
          exact rx_iret dX11_taken_86 rfl ⟨Nat.le_refl _, Nat.le_refl _⟩ ⟨rfl, _, rfl, ⟨by rw [htk]; exact (if_neg (by rw [← hev]; exact Bool.false_ne_true)).symm, hr⟩⟩
        | succ r ih =>
          intro i a he hev
          refine rx_iload dX11_taken_40 rfl ?_
          refine rx_bipush (7) dX11_taken_42 (by decide) ?_
          refine rx_icmp_ge 84 dX11_taken_44 (by decide) (fun h44 => absurd h44 (nI_ge (a := i) (b := 7) (by omega) (by omega))) (fun h44 => ?_)
          refine rx_iload_n dX11_taken_47 rfl ?_
          refine rx_iconst (0) dX11_taken_48 (by decide) ?_
          refine rx_bipush (6) dX11_taken_49 (by decide) ?_
          refine rx_cSi_3 clX11_92 dX11_taken_51 rfl (c_within g _ _ _ S L) ?_
          refine pur3 ?_
          refine rx_if_eq 84 dX11_taken_54 (by decide) (fun h54 => ?_) (fun h54 => ?_)
          · skip
            refine rx_bipush (-12) dX11_taken_84 (by decide) ?_
            exact rx_iret dX11_taken_86 rfl ⟨Nat.le_refl _, Nat.le_refl _⟩ ⟨rfl, _, rfl, ⟨by rw [htk]; exact (if_neg (by rw [← hev]; exact fun q => absurd ((if_neg (b2i_eq h54)).symm.trans q) (by decide))).symm, hr⟩⟩
          · have hin := b2i_ne h54
            obtain ⟨a', ha', ea'⟩ := rngI 6 (by omega) hin.1 hin.2
            have hva : vp_in a 7 := by rw [ea']; exact vp_in_nI (by omega) (by omega)
            refine rx_iload_n dX11_taken_57 rfl ?_
            refine rx_iload_n dX11_taken_58 rfl ?_
            refine rx_icmp_ne 72 dX11_taken_59 (by decide) (fun h59 => ?_) (fun h59 => ?_)
            · refine rx_getKA dX11_taken_72 w_870 ?_
              refine rx_iload_n dX11_taken_75 rfl ?_
              refine rx_ldKA dX11_taken_76 hva ?_
              refine rx_istore_3 rfl dX11_taken_77 ?_
              refine rx_iinc_4 (1) rfl dX11_taken_78 (by decide) ?_
              refine rx_goto 40 dX11_taken_81 (by decide) ?_
              rw [nI_1]
              exact ih (i + 1) _ (by omega) (by rw [← hev]; exact ((if_pos hin).trans (if_neg h59)).symm)
            · refine rx_aload_n dX11_taken_62 rfl ?_
              refine rx_getR dX11_taken_63 flX11_54 (sC_0) rfl ?_
              refine rx_getR dX11_taken_66 flX11_112 (sC_53) rfl ?_
              refine rx_iload_n dX11_taken_69 rfl ?_
              refine rx_iaload dX11_taken_70 (sC_54) hvc ?_
              rw [hci, hkc]
              exact rx_iret dX11_taken_71 rfl ⟨Nat.le_refl _, Nat.le_refl _⟩ ⟨rfl, _, rfl, ⟨by rw [htk]; exact (if_pos (by rw [← hev]; exact (if_pos hin).trans (if_pos h59))).symm, hr⟩⟩
      exact loop 7 0 (eK (gE σ) c) (by omega) rfl
    · refine rx_bipush (-11) dX11_taken_24 (by decide) ?_
      exact rx_iret dX11_taken_26 rfl ⟨Nat.le_refl _, Nat.le_refl _⟩ ⟨rfl, _, rfl, ⟨by unfold aTaken; rw [if_neg (fun q => q (b2i_ne h7)), if_pos (b2i_eq h21)], hr⟩⟩
  · refine rx_bipush (-2) dX11_taken_10 (by decide) ?_
    exact rx_iret dX11_taken_12 rfl ⟨Nat.le_refl _, Nat.le_refl _⟩ ⟨rfl, _, rfl, ⟨by unfold aTaken; rw [if_pos (b2i_eq h7)], hr⟩⟩
