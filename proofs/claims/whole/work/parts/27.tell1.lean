-- WHAT IS WRITTEN
def wSn (s : SCN) (l : List (Nat × Nat × Nat)) : SCN := (s.1, s.2.1, s.2.2.1, s.2.2.2.1, s.2.2.2.2.1, s.2.2.2.2.2.1, sD s, sY s, l, sBk s)
def wBk (s : SCN) (l : List (Nat × Nat)) : SCN := (s.1, s.2.1, s.2.2.1, s.2.2.2.1, s.2.2.2.2.1, s.2.2.2.2.2.1, sD s, sY s, sSn s, l)
theorem ScR.fr {b : Nat} {S S' : SS} {E : EN} {D : DY} (h : ScR b S E D) (ho : ∀ j, (11 ≤ j ∧ j < 53) ∨ (b + 1 ≤ j ∧ j ≤ b + 7) → S' j = S j) (hk : ∀ k, k ≠ 14 → k ≠ 17 → S' b k = S b k) : ScR b S' E D := by
  obtain ⟨a1, a2, a3, a4, a5, a6, ⟨y, hy, hyS, hY⟩, a8, a9, a10, a11, a12⟩ := h
  refine ⟨by rw [hk 6 (by decide) (by decide)]; exact a1, fun c hc => ?_, fun c hc => ?_, fun c hc => ?_, fun c hc => ?_, fun c hc => ?_, ⟨y, hy, by rw [hk 10 (by decide) (by decide)]; exact hyS, hY.off hy (fun j g1 g2 => ho j (Or.inl ⟨g1, g2⟩))⟩, fun c hc => ?_, by rw [hk 7 (by decide) (by decide)]; exact a9, by rw [hk 9 (by decide) (by decide)]; exact a10, a11, fun c hc => ?_⟩
  · rw [ho _ (Or.inr (by omega))]; exact a2 c hc
  · rw [ho _ (Or.inr (by omega))]; exact a3 c hc
  · rw [ho _ (Or.inr (by omega))]; exact a4 c hc
  · rw [ho _ (Or.inr (by omega))]; exact a5 c hc
  · rw [ho _ (Or.inr (by omega))]; exact a6 c hc
  · rw [ho _ (Or.inr (by omega))]; exact a8 c hc
  · rw [ho _ (Or.inr (by omega))]; exact a12 c hc
theorem CRel.seen {S S' : SS} {L : LL} {σ : SIG} (h : CRel S L σ) (l : List (Nat × Nat × Nat)) (hl : l.length ≤ 4) (hq : ∀ q ∈ l, q.1 < nN σ ∧ q.2.1 ≤ 20 ∧ q.2.2 ≤ 99) (ho : ∀ j, j ≠ 53 → j ≠ 61 → j ≠ 62 → j ≠ 63 → S' j = S j) (hk : ∀ k, k ≠ 14 → S' 53 k = S 53 k) (hs : SeR 53 S' l) : CRel S' L (wSn (gN σ) l, σ.2) := by
  obtain ⟨k0, k1, k2, k3, k4, k5, k6⟩ := h.1.1
  obtain ⟨a1, a2, a3, ⟨a5, a6⟩⟩ := h.2.1
  refine h.now (fun j h1 h2 => ho j (by omega) (by omega) (by omega) (by omega)) ⟨a1.fr (fun j hj => ho j (by omega) (by omega) (by omega) (by omega)) (fun k e _ => hk k e), by rw [hk 10 (by decide)]; exact a2, hs, by rw [hk 17 (by decide)]; exact a5, fun i q hq => ?_⟩ ⟨k0, k1, k2, hq, k4, hl, k6⟩ h.1.2.2.2.1
  rw [ho 64 (by omega) (by omega) (by omega) (by omega), ho 65 (by omega) (by omega) (by omega) (by omega)]; exact a6 i q hq
theorem CRel.book {S S' : SS} {L : LL} {σ : SIG} (h : CRel S L σ) (l : List (Nat × Nat)) (hl : l.length ≤ 8) (hq : ∀ q ∈ l, q.1 < nN σ ∧ q.2 ≤ 99) (ho : ∀ j, j ≠ 53 → j ≠ 64 → j ≠ 65 → S' j = S j) (hk : ∀ k, k ≠ 17 → S' 53 k = S 53 k) (hs : BoR 53 S' l) : CRel S' L (wBk (gN σ) l, σ.2) := by
  obtain ⟨k0, k1, k2, k3, k4, k5, k6⟩ := h.1.1
  obtain ⟨a1, a2, ⟨a3, a4⟩, a5⟩ := h.2.1
  refine h.now (fun j h1 h2 => ho j (by omega) (by omega) (by omega)) ⟨a1.fr (fun j hj => ho j (by omega) (by omega) (by omega)) (fun k _ e => hk k e), by rw [hk 10 (by decide)]; exact a2, ⟨by rw [hk 14 (by decide)]; exact a3, fun i q hq => ?_⟩, hs⟩ ⟨k0, k1, k2, k3, hq, k5, hl⟩ h.1.2.2.2.1
  rw [ho 61 (by omega) (by omega) (by omega), ho 62 (by omega) (by omega) (by omega), ho 63 (by omega) (by omega) (by omega)]; exact a4 i q hq
theorem mem_push {α : Type} {P : α → Prop} {l : List α} {x : α} (h : ∀ q ∈ l, P q) (hx : P x) : ∀ q ∈ l ++ [x], P q := by
  intro q hq
  rcases List.mem_append.mp hq with w | w
  · exact h q w
  · rw [List.mem_singleton.mp w]; exact hx
theorem get_push {α : Type} {l : List α} {x q : α} {i : Nat} (h : (l ++ [x])[i]? = some q) : (i < l.length ∧ l[i]? = some q) ∨ (i = l.length ∧ q = x) := by
  rcases Nat.lt_or_ge i l.length with w | w
  · left
    rw [List.getElem?_append_left w] at h
    exact ⟨w, h⟩
  · right
    rw [List.getElem?_append_right w] at h
    have h1 := (List.getElem?_eq_some_iff.mp h).1
    simp at h1
    have hi : i = l.length := by omega
    subst hi
    simp at h
    exact ⟨rfl, h.symm⟩
theorem SeR.push {S : SS} {l : List (Nat × Nat × Nat)} (h : SeR 53 S l) (c n a : Nat) : SeR 53 (upS (upS (upS (upS S 61 l.length (nI c)) 62 l.length (nI n)) 63 l.length (nI a)) 53 14 (nI (l.length + 1))) (l ++ [(c, n, a)]) := by
  refine ⟨by rw [upS_at, List.length_append]; rfl, fun i q hq => ?_⟩
  show upS _ 53 14 _ 61 i = _ ∧ upS _ 53 14 _ 62 i = _ ∧ upS _ 53 14 _ 63 i = _
  rw [upS_off _ _ _ _ (by omega : (61 : Nat) ≠ 53), upS_off _ _ _ _ (by omega : (61 : Nat) ≠ 63), upS_off _ _ _ _ (by omega : (61 : Nat) ≠ 62), upS_row, upS_off _ _ _ _ (by omega : (62 : Nat) ≠ 53), upS_off _ _ _ _ (by omega : (62 : Nat) ≠ 63), upS_row, upS_off _ _ _ _ (by omega : (62 : Nat) ≠ 61), upS_off _ _ _ _ (by omega : (63 : Nat) ≠ 53), upS_row, upS_off _ _ _ _ (by omega : (63 : Nat) ≠ 62), upS_off _ _ _ _ (by omega : (63 : Nat) ≠ 61)]
  rcases get_push hq with ⟨w, e⟩ | ⟨w, e⟩
  · rw [pk_un (by omega), pk_un (by omega), pk_un (by omega)]; exact h.2 i q e
  · rw [w, e, pk_us, pk_us, pk_us]; exact ⟨rfl, rfl, rfl⟩
theorem BoR.push {S : SS} {l : List (Nat × Nat)} (h : BoR 53 S l) (c a : Nat) : BoR 53 (upS (upS (upS S 64 l.length (nI c)) 65 l.length (nI a)) 53 17 (nI (l.length + 1))) (l ++ [(c, a)]) := by
  refine ⟨by rw [upS_at, List.length_append]; rfl, fun i q hq => ?_⟩
  show upS _ 53 17 _ 64 i = _ ∧ upS _ 53 17 _ 65 i = _
  rw [upS_off _ _ _ _ (by omega : (64 : Nat) ≠ 53), upS_off _ _ _ _ (by omega : (64 : Nat) ≠ 65), upS_row, upS_off _ _ _ _ (by omega : (65 : Nat) ≠ 53), upS_row, upS_off _ _ _ _ (by omega : (65 : Nat) ≠ 64)]
  rcases get_push hq with ⟨w, e⟩ | ⟨w, e⟩
  · rw [pk_un (by omega), pk_un (by omega)]; exact h.2 i q e
  · rw [w, e, pk_us, pk_us]; exact ⟨rfl, rfl⟩
-- SEE, BOOK
def aSee (σ : SIG) (c n a : Int32) : Int32 := if c = -1 then 0 else if ¬ (0 ≤ c ∧ c < nI (nN σ)) then -1 else if ¬ (0 ≤ n ∧ n ≤ 20) ∨ ¬ (0 ≤ a ∧ a ≤ 99) then -2 else if ¬ (sSn (gN σ)).length < 4 then -4 else nI ((sSn (gN σ)).length + 1)
def nSee (σ : SIG) (c n a : Int32) : SIG := if c = -1 then (wSn (gN σ) [], σ.2) else if ¬ (0 ≤ c ∧ c < nI (nN σ)) then σ else if ¬ (0 ≤ n ∧ n ≤ 20) ∨ ¬ (0 ≤ a ∧ a ≤ 99) then σ else if ¬ (sSn (gN σ)).length < 4 then σ else (wSn (gN σ) (sSn (gN σ) ++ [(c.toNatClampNeg, n.toNatClampNeg, a.toNatClampNeg)]), σ.2)
def aBook (σ : SIG) (c a : Int32) : Int32 := if c = -1 then 0 else if ¬ (0 ≤ c ∧ c < nI (nN σ)) then -1 else if ¬ (0 ≤ a ∧ a ≤ 99) then -2 else if ¬ (sBk (gN σ)).length < 8 then -4 else nI ((sBk (gN σ)).length + 1)
def nBook (σ : SIG) (c a : Int32) : SIG := if c = -1 then (wBk (gN σ) [], σ.2) else if ¬ (0 ≤ c ∧ c < nI (nN σ)) then σ else if ¬ (0 ≤ a ∧ a ≤ 99) then σ else if ¬ (sBk (gN σ)).length < 8 then σ else (wBk (gN σ) (sBk (gN σ) ++ [(c.toNatClampNeg, a.toNatClampNeg)]), σ.2)

set_option maxRecDepth 20000 in
set_option maxHeartbeats 1000000 in
theorem c_addSeen (g : GG) {b : Nat} (hb : Sc b) (k : Nat) (c n a : Int32) (S : SS) (L : LL) (hk : S b 14 = nI k) (hk4 : k < 4) : Ci g 0 mX5_addSeen [.ref b, .int c, .int n, .int a] SHC S L (fun r S' L' => r = nI (k + 1) ∧ S' = upS (upS (upS (upS S (b + 8) k c) (b + 9) k n) (b + 10) k a) b 14 (nI (k + 1)) ∧ L' = L) := by
  have hbl := hb.le
  have hki : (nI k).toNatClampNeg = k := nI_clamp (by omega)
  have hvk : vp_in (nI k) 4 := vp_in_nI hk4 (by omega)
  refine ct_of (ls := [some (.ref b), some (.int c), some (.int n), some (.int a)]) 0 (by decide +kernel) rfl rfl ?_
  refine rx_aload_n dX5_addSeen_0 rfl ?_
  refine rx_getR dX5_addSeen_1 flX5_33 (scO hb) rfl ?_
  refine rx_aload_n dX5_addSeen_4 rfl ?_
  refine rx_getI dX5_addSeen_5 flX5_68 (scO hb) rfl ?_
  simp (disch := omega) only [upS_off, hk]
  refine rx_iload_n dX5_addSeen_8 rfl ?_
  refine rx_iastore dX5_addSeen_9 (scA8 hb) hvk ?_
  rw [hki]
  refine rx_aload_n dX5_addSeen_10 rfl ?_
  refine rx_getR dX5_addSeen_11 flX5_36 (scO hb) rfl ?_
  refine rx_aload_n dX5_addSeen_14 rfl ?_
  refine rx_getI dX5_addSeen_15 flX5_68 (scO hb) rfl ?_
  simp (disch := omega) only [upS_off, hk]
  refine rx_iload_n dX5_addSeen_18 rfl ?_
  refine rx_iastore dX5_addSeen_19 (scA9 hb) hvk ?_
  rw [hki]
  refine rx_aload_n dX5_addSeen_20 rfl ?_
  refine rx_getR dX5_addSeen_21 flX5_39 (scO hb) rfl ?_
  refine rx_aload_n dX5_addSeen_24 rfl ?_
  refine rx_getI dX5_addSeen_25 flX5_68 (scO hb) rfl ?_
  simp (disch := omega) only [upS_off, hk]
  refine rx_iload_n dX5_addSeen_28 rfl ?_
  refine rx_iastore dX5_addSeen_29 (scA10 hb) hvk ?_
  rw [hki]
  refine rx_aload_n dX5_addSeen_30 rfl ?_
  refine rx_dup dX5_addSeen_31 rfl ?_
  refine rx_getI dX5_addSeen_32 flX5_68 (scO hb) rfl ?_
  simp (disch := omega) only [upS_off, hk]
  refine rx_iconst (1) dX5_addSeen_35 (by decide) ?_
  refine rx_iadd dX5_addSeen_36 ?_
  rw [nI_1]
  refine rx_putI dX5_addSeen_37 flX5_68 (scO hb) rfl ?_
  refine rx_aload_n dX5_addSeen_40 rfl ?_
  refine rx_getI dX5_addSeen_41 flX5_68 (scO hb) rfl ?_
  rw [upS_at]
  exact rx_iret dX5_addSeen_44 rfl ⟨Nat.le_refl _, Nat.le_refl _⟩ ⟨rfl, _, rfl, ⟨rfl, rfl, rfl⟩⟩
set_option maxRecDepth 20000 in
set_option maxHeartbeats 1000000 in
theorem cc_see (g : GG) (σ : SIG) (c n a : Int32) (S : SS) (L : LL) (hr : CRel S L σ) : Ci g 1 mX11_see [.ref 0, .int c, .int n, .int a] SHC S L (fun r S' L' => r = aSee σ c n a ∧ CRel S' L' (nSee σ c n a)) := by
  refine ct_of (ls := [some (.ref 0), some (.int c), some (.int n), some (.int a)]) 0 (by decide +kernel) rfl rfl ?_
  refine rx_iload_n dX11_see_0 rfl ?_
  refine rx_iconst (-1) dX11_see_1 (by decide) ?_
  refine rx_icmp_ne 15 dX11_see_2 (by decide) (fun h2 => ?_) (fun h2 => ?_)
  · refine rx_aload_n dX11_see_15 rfl ?_
    refine rx_getR dX11_see_16 flX11_54 (sC_0) rfl ?_
    refine rx_iload_n dX11_see_19 rfl ?_
    refine rx_cVi_1 clX11_104 dX11_see_20 (rcvo (sC_53) rfl) rfl (c_has g S53 _ S L) ?_
    refine pur3 ?_
    rw [show S 53 6 = nI (nN σ) from hr.sc.1]
    refine rx_if_ne 28 dX11_see_23 (by decide) (fun h23 => ?_) (fun h23 => ?_)
    · refine rx_iload_n dX11_see_28 rfl ?_
      refine rx_iconst (0) dX11_see_29 (by decide) ?_
      refine rx_bipush (20) dX11_see_30 (by decide) ?_
      refine rx_cSi_3 clX11_92 dX11_see_32 rfl (c_within g _ _ _ S L) ?_
      refine pur3 ?_
      refine rx_if_eq 48 dX11_see_35 (by decide) (fun h35 => ?_) (fun h35 => ?_)
      · refine rx_bipush (-2) dX11_see_48 (by decide) ?_
        have hno : ¬ (0 ≤ n ∧ n ≤ 20) ∨ ¬ (0 ≤ a ∧ a ≤ 99) := by first | exact Or.inl (b2i_eq h35) | exact Or.inr (b2i_eq h45)
        exact rx_iret dX11_see_50 rfl ⟨Nat.le_refl _, Nat.le_refl _⟩ ⟨rfl, _, rfl, ⟨by unfold aSee; rw [if_neg h2, if_neg (fun q => q (b2i_ne h23)), if_pos hno], by unfold nSee; rw [if_neg h2, if_neg (fun q => q (b2i_ne h23)), if_pos hno]; exact hr⟩⟩
      · refine rx_iload_n dX11_see_38 rfl ?_
        refine rx_iconst (0) dX11_see_39 (by decide) ?_
        refine rx_bipush (99) dX11_see_40 (by decide) ?_
        refine rx_cSi_3 clX11_92 dX11_see_42 rfl (c_within g _ _ _ S L) ?_
        refine pur3 ?_
        refine rx_if_ne 51 dX11_see_45 (by decide) (fun h45 => ?_) (fun h45 => ?_)
        · have hq1 := b2i_ne h23
          have hq2 := b2i_ne h35
          have hq3 := b2i_ne h45
          have hn7 : nN σ ≤ 7 := hr.n7
          obtain ⟨c, hc, rfl⟩ := rngL (nN σ) (by omega) hq1.1 hq1.2
          obtain ⟨n, hn, rfl⟩ := rngI 20 (by omega) hq2.1 hq2.2
          obtain ⟨a, ha, rfl⟩ := rngI 99 (by omega) hq3.1 hq3.2
          have e1 : (nI c).toNatClampNeg = c := nI_clamp (by omega)
          have e2 : (nI n).toNatClampNeg = n := nI_clamp (by omega)
          have e3 : (nI a).toNatClampNeg = a := nI_clamp (by omega)
          have hno : ¬ (¬ (0 ≤ nI n ∧ nI n ≤ 20) ∨ ¬ (0 ≤ nI a ∧ nI a ≤ 99)) := fun q => q.elim (fun w => w hq2) (fun w => w hq3)
          have hsl := hr.sl
          refine rx_aload_n dX11_see_51 rfl ?_
          refine rx_getR dX11_see_52 flX11_54 (sC_0) rfl ?_
          refine rx_getI dX11_see_55 flX11_207 (sC_53) rfl ?_
          rw [hr.sn.1]
          refine rx_iconst (4) dX11_see_58 (by decide) ?_
          refine rx_icmp_lt 65 dX11_see_59 (by decide) (fun h59 => ?_) (fun h59 => ?_)
          · have hf : (sSn (gN σ)).length < 4 := by
              rcases Nat.lt_or_ge (sSn (gN σ)).length 4 with q | q
              · exact q
              · exact absurd h59 (Int32.not_lt.mpr (nI_le (a := 4) q (by omega)))
            refine rx_aload_n dX11_see_65 rfl ?_
            refine rx_getR dX11_see_66 flX11_54 (sC_0) rfl ?_
            refine rx_iload_n dX11_see_69 rfl ?_
            refine rx_iload_n dX11_see_70 rfl ?_
            refine rx_iload_n dX11_see_71 rfl ?_
            refine rx_cVi_3 clX11_210 dX11_see_72 (rcvo (sC_53) rfl) rfl (c_addSeen g S53 (sSn (gN σ)).length (nI c) (nI n) (nI a) S L hr.sn.1 hf) ?_
            refine pur3 ?_
            exact rx_iret dX11_see_75 rfl ⟨Nat.le_refl _, Nat.le_refl _⟩ ⟨rfl, _, rfl, ⟨by unfold aSee; rw [if_neg h2, if_neg (fun q => q hq1), if_neg hno, if_neg (fun q => q hf)], by unfold nSee; rw [if_neg h2, if_neg (fun q => q hq1), if_neg hno, if_neg (fun q => q hf), e1, e2, e3]; exact hr.seen _ (by rw [List.length_append]; exact hf) (mem_push hr.sq ⟨hc, hn, ha⟩) (fun j h1 h2 h3 h4 => by rw [upS_off _ _ _ _ h1, upS_off _ _ _ _ h4, upS_off _ _ _ _ h3, upS_off _ _ _ _ h2]) (fun k e => by rw [upS_row, pk_un e]; rfl) (SeR.push hr.2.1.2.2.1 c n a)⟩⟩
          · refine rx_bipush (-4) dX11_see_62 (by decide) ?_
            have hf : ¬ (sSn (gN σ)).length < 4 := fun q => h59 (nI_lt (b := 4) q (by omega))
            exact rx_iret dX11_see_64 rfl ⟨Nat.le_refl _, Nat.le_refl _⟩ ⟨rfl, _, rfl, ⟨by unfold aSee; rw [if_neg h2, if_neg (fun q => q hq1), if_neg hno, if_pos hf], by unfold nSee; rw [if_neg h2, if_neg (fun q => q hq1), if_neg hno, if_pos hf]; exact hr⟩⟩
        · refine rx_bipush (-2) dX11_see_48 (by decide) ?_
          have hno : ¬ (0 ≤ n ∧ n ≤ 20) ∨ ¬ (0 ≤ a ∧ a ≤ 99) := by first | exact Or.inl (b2i_eq h35) | exact Or.inr (b2i_eq h45)
          exact rx_iret dX11_see_50 rfl ⟨Nat.le_refl _, Nat.le_refl _⟩ ⟨rfl, _, rfl, ⟨by unfold aSee; rw [if_neg h2, if_neg (fun q => q (b2i_ne h23)), if_pos hno], by unfold nSee; rw [if_neg h2, if_neg (fun q => q (b2i_ne h23)), if_pos hno]; exact hr⟩⟩
    · refine rx_iconst (-1) dX11_see_26 (by decide) ?_
      exact rx_iret dX11_see_27 rfl ⟨Nat.le_refl _, Nat.le_refl _⟩ ⟨rfl, _, rfl, ⟨by unfold aSee; rw [if_neg h2, if_pos (b2i_eq h23)], by unfold nSee; rw [if_neg h2, if_pos (b2i_eq h23)]; exact hr⟩⟩
  · refine rx_aload_n dX11_see_5 rfl ?_
    refine rx_getR dX11_see_6 flX11_54 (sC_0) rfl ?_
    refine rx_iconst (0) dX11_see_9 (by decide) ?_
    refine rx_putI dX11_see_10 flX11_207 (sC_53) rfl ?_
    refine rx_iconst (0) dX11_see_13 (by decide) ?_
    exact rx_iret dX11_see_14 rfl ⟨Nat.le_refl _, Nat.le_refl _⟩ ⟨rfl, _, rfl, ⟨(if_pos h2).symm, by rw [show nSee σ c n a = (wSn (gN σ) [], σ.2) from if_pos h2]; exact hr.seen [] (by decide) (fun q hq => absurd hq (by simp)) (fun j h1 _ _ _ => upS_off _ _ _ _ h1) (fun k e => by rw [upS_row]; exact pk_un e) ⟨upS_at _ _ _ _, fun i q hq => absurd hq (by simp)⟩⟩⟩
set_option maxRecDepth 20000 in
set_option maxHeartbeats 1000000 in
theorem c_addToBook (g : GG) {b : Nat} (hb : Sc b) (k : Nat) (c a : Int32) (S : SS) (L : LL) (hk : S b 17 = nI k) (hk4 : k < 8) : Ci g 0 mX5_addToBook [.ref b, .int c, .int a] SHC S L (fun r S' L' => r = nI (k + 1) ∧ S' = upS (upS (upS S (b + 11) k c) (b + 12) k a) b 17 (nI (k + 1)) ∧ L' = L) := by
  have hbl := hb.le
  have hki : (nI k).toNatClampNeg = k := nI_clamp (by omega)
  have hvk : vp_in (nI k) 8 := vp_in_nI hk4 (by omega)
  refine ct_of (ls := [some (.ref b), some (.int c), some (.int a)]) 0 (by decide +kernel) rfl rfl ?_
  refine rx_aload_n dX5_addToBook_0 rfl ?_
  refine rx_getR dX5_addToBook_1 flX5_42 (scO hb) rfl ?_
  refine rx_aload_n dX5_addToBook_4 rfl ?_
  refine rx_getI dX5_addToBook_5 flX5_71 (scO hb) rfl ?_
  simp (disch := omega) only [upS_off, hk]
  refine rx_iload_n dX5_addToBook_8 rfl ?_
  refine rx_iastore dX5_addToBook_9 (scA11 hb) hvk ?_
  rw [hki]
  refine rx_aload_n dX5_addToBook_10 rfl ?_
  refine rx_getR dX5_addToBook_11 flX5_45 (scO hb) rfl ?_
  refine rx_aload_n dX5_addToBook_14 rfl ?_
  refine rx_getI dX5_addToBook_15 flX5_71 (scO hb) rfl ?_
  simp (disch := omega) only [upS_off, hk]
  refine rx_iload_n dX5_addToBook_18 rfl ?_
  refine rx_iastore dX5_addToBook_19 (scA12 hb) hvk ?_
  rw [hki]
  refine rx_aload_n dX5_addToBook_20 rfl ?_
  refine rx_dup dX5_addToBook_21 rfl ?_
  refine rx_getI dX5_addToBook_22 flX5_71 (scO hb) rfl ?_
  simp (disch := omega) only [upS_off, hk]
  refine rx_iconst (1) dX5_addToBook_25 (by decide) ?_
  refine rx_iadd dX5_addToBook_26 ?_
  rw [nI_1]
  refine rx_putI dX5_addToBook_27 flX5_71 (scO hb) rfl ?_
  refine rx_aload_n dX5_addToBook_30 rfl ?_
  refine rx_getI dX5_addToBook_31 flX5_71 (scO hb) rfl ?_
  rw [upS_at]
  exact rx_iret dX5_addToBook_34 rfl ⟨Nat.le_refl _, Nat.le_refl _⟩ ⟨rfl, _, rfl, ⟨rfl, rfl, rfl⟩⟩
set_option maxRecDepth 20000 in
set_option maxHeartbeats 1000000 in
theorem cc_book (g : GG) (σ : SIG) (c a : Int32) (S : SS) (L : LL) (hr : CRel S L σ) : Ci g 1 mX11_book [.ref 0, .int c, .int a] SHC S L (fun r S' L' => r = aBook σ c a ∧ CRel S' L' (nBook σ c a)) := by
  refine ct_of (ls := [some (.ref 0), some (.int c), some (.int a)]) 0 (by decide +kernel) rfl rfl ?_
  refine rx_iload_n dX11_book_0 rfl ?_
  refine rx_iconst (-1) dX11_book_1 (by decide) ?_
  refine rx_icmp_ne 15 dX11_book_2 (by decide) (fun h2 => ?_) (fun h2 => ?_)
  · refine rx_aload_n dX11_book_15 rfl ?_
    refine rx_getR dX11_book_16 flX11_54 (sC_0) rfl ?_
    refine rx_iload_n dX11_book_19 rfl ?_
    refine rx_cVi_1 clX11_104 dX11_book_20 (rcvo (sC_53) rfl) rfl (c_has g S53 _ S L) ?_
    refine pur3 ?_
    rw [show S 53 6 = nI (nN σ) from hr.sc.1]
    refine rx_if_ne 28 dX11_book_23 (by decide) (fun h23 => ?_) (fun h23 => ?_)
    · refine rx_iload_n dX11_book_28 rfl ?_
      refine rx_iconst (0) dX11_book_29 (by decide) ?_
      refine rx_bipush (99) dX11_book_30 (by decide) ?_
      refine rx_cSi_3 clX11_92 dX11_book_32 rfl (c_within g _ _ _ S L) ?_
      refine pur3 ?_
      refine rx_if_ne 41 dX11_book_35 (by decide) (fun h35 => ?_) (fun h35 => ?_)
      · have hq1 := b2i_ne h23
        have hq3 := b2i_ne h35
        have hn7 : nN σ ≤ 7 := hr.n7
        obtain ⟨c, hc, rfl⟩ := rngL (nN σ) (by omega) hq1.1 hq1.2
        obtain ⟨a, ha, rfl⟩ := rngI 99 (by omega) hq3.1 hq3.2
        have e1 : (nI c).toNatClampNeg = c := nI_clamp (by omega)
        have e3 : (nI a).toNatClampNeg = a := nI_clamp (by omega)
        have hbk : (sBk (gN σ)).length ≤ 8 := hr.1.1.2.2.2.2.2.2
        have hb17 : S 53 17 = nI (sBk (gN σ)).length := hr.2.1.2.2.2.1
        refine rx_aload_n dX11_book_41 rfl ?_
        refine rx_getR dX11_book_42 flX11_54 (sC_0) rfl ?_
        refine rx_getI dX11_book_45 flX11_224 (sC_53) rfl ?_
        refine rx_bipush (8) dX11_book_48 (by decide) ?_
        rw [hb17]
        refine rx_icmp_lt 56 dX11_book_50 (by decide) (fun h50 => ?_) (fun h50 => ?_)
        · have hf : (sBk (gN σ)).length < 8 := by
            rcases Nat.lt_or_ge (sBk (gN σ)).length 8 with q | q
            · exact q
            · exact absurd h50 (Int32.not_lt.mpr (nI_le (a := 8) q (by omega)))
          refine rx_aload_n dX11_book_56 rfl ?_
          refine rx_getR dX11_book_57 flX11_54 (sC_0) rfl ?_
          refine rx_iload_n dX11_book_60 rfl ?_
          refine rx_iload_n dX11_book_61 rfl ?_
          refine rx_cVi_2 clX11_227 dX11_book_62 (rcvo (sC_53) rfl) rfl (c_addToBook g S53 (sBk (gN σ)).length (nI c) (nI a) S L hb17 hf) ?_
          refine pur3 ?_
          exact rx_iret dX11_book_65 rfl ⟨Nat.le_refl _, Nat.le_refl _⟩ ⟨rfl, _, rfl, ⟨by unfold aBook; rw [if_neg h2, if_neg (fun q => q hq1), if_neg (fun q => q hq3), if_neg (fun q => q hf)], by unfold nBook; rw [if_neg h2, if_neg (fun q => q hq1), if_neg (fun q => q hq3), if_neg (fun q => q hf), e1, e3]; exact hr.book _ (by rw [List.length_append]; exact hf) (mem_push hr.1.1.2.2.2.2.1 ⟨hc, ha⟩) (fun j h1 h2 h3 => by rw [upS_off _ _ _ _ h1, upS_off _ _ _ _ h3, upS_off _ _ _ _ h2]) (fun k e => by rw [upS_row, pk_un e]; rfl) (BoR.push hr.2.1.2.2.2 c a)⟩⟩
        · refine rx_bipush (-4) dX11_book_53 (by decide) ?_
          have hf : ¬ (sBk (gN σ)).length < 8 := fun q => h50 (nI_lt (b := 8) q (by omega))
          exact rx_iret dX11_book_55 rfl ⟨Nat.le_refl _, Nat.le_refl _⟩ ⟨rfl, _, rfl, ⟨by unfold aBook; rw [if_neg h2, if_neg (fun q => q hq1), if_neg (fun q => q hq3), if_pos hf], by unfold nBook; rw [if_neg h2, if_neg (fun q => q hq1), if_neg (fun q => q hq3), if_pos hf]; exact hr⟩⟩
      · refine rx_bipush (-2) dX11_book_38 (by decide) ?_
        exact rx_iret dX11_book_40 rfl ⟨Nat.le_refl _, Nat.le_refl _⟩ ⟨rfl, _, rfl, ⟨by unfold aBook; rw [if_neg h2, if_neg (fun q => q (b2i_ne h23)), if_pos (b2i_eq h35)], by unfold nBook; rw [if_neg h2, if_neg (fun q => q (b2i_ne h23)), if_pos (b2i_eq h35)]; exact hr⟩⟩
    · refine rx_iconst (-1) dX11_book_26 (by decide) ?_
      exact rx_iret dX11_book_27 rfl ⟨Nat.le_refl _, Nat.le_refl _⟩ ⟨rfl, _, rfl, ⟨by unfold aBook; rw [if_neg h2, if_pos (b2i_eq h23)], by unfold nBook; rw [if_neg h2, if_pos (b2i_eq h23)]; exact hr⟩⟩
  · refine rx_aload_n dX11_book_5 rfl ?_
    refine rx_getR dX11_book_6 flX11_54 (sC_0) rfl ?_
    refine rx_iconst (0) dX11_book_9 (by decide) ?_
    refine rx_putI dX11_book_10 flX11_224 (sC_53) rfl ?_
    refine rx_iconst (0) dX11_book_13 (by decide) ?_
    exact rx_iret dX11_book_14 rfl ⟨Nat.le_refl _, Nat.le_refl _⟩ ⟨rfl, _, rfl, ⟨(if_pos h2).symm, by rw [show nBook σ c a = (wBk (gN σ) [], σ.2) from if_pos h2]; exact hr.book [] (by decide) (fun q hq => absurd hq (by simp)) (fun j h1 _ _ => upS_off _ _ _ _ h1) (fun k e => by rw [upS_row]; exact pk_un e) ⟨upS_at _ _ _ _, fun i q hq => absurd hq (by simp)⟩⟩⟩
