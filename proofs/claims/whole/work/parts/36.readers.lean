-- THE CLASS'S READERS
def PrR (y : Nat) (T : List Nat) (S : SS) (p : Nat) (cs : List TK) : Prop := S (11 + 6 * y) 1 = nI T.length ∧ (∀ i q, T[i]? = some q → S 9 i = nI q) ∧ T.length ≤ 100 ∧ S (11 + 6 * y) 2 = nI p ∧ p ≤ T.length ∧ S (11 + 6 * y) 9 = nI cs.length ∧ (∀ j t, cs[j]? = some t → S (11 + 6 * y + 5) j = encC t) ∧ cs.length ≤ p ∧ ∀ q ∈ T, q < 128
def PrF (y : Nat) (S S' : SS) : Prop := (∀ j, j ≠ 11 + 6 * y → j ≠ 11 + 6 * y + 5 → S' j = S j) ∧ ∀ k, k ≠ 2 → k ≠ 9 → S' (11 + 6 * y) k = S (11 + 6 * y) k
theorem PrF.refl {y : Nat} {S : SS} : PrF y S S := ⟨fun _ _ _ => rfl, fun _ _ _ => rfl⟩
theorem PrF.trans {y : Nat} {S S1 S2 : SS} (h : PrF y S S1) (h2 : PrF y S1 S2) : PrF y S S2 := ⟨fun j a b => (h2.1 j a b).trans (h.1 j a b), fun k a b => (h2.2 k a b).trans (h.2 k a b)⟩
theorem PrF.put {y : Nat} {S : SS} {x : Int32} : PrF y S (upS S (11 + 6 * y) 2 x) := ⟨fun j a _ => upS_off _ _ _ _ a, fun k a _ => by rw [upS_row, pk_un a]⟩
theorem PrF.code {y : Nat} {S : SS} {a : Nat} {x z : Int32} : PrF y S (upS (upS S (11 + 6 * y + 5) a x) (11 + 6 * y) 9 z) := ⟨fun j a b => by rw [upS_off _ _ _ _ a, upS_off _ _ _ _ b], fun k _ b => by rw [upS_row, pk_un b, upS_off _ _ _ _ (by omega)]⟩
theorem PrR.put {y p p' : Nat} {T : List Nat} {S : SS} {cs : List TK} (h : PrR y T S p cs) (hp : p ≤ p') (hp' : p' ≤ T.length) (hy : y < 7) : PrR y T (upS S (11 + 6 * y) 2 (nI p')) p' cs := by
  obtain ⟨k1, k2, k3, k4, k5, k6, k7, k8, k9⟩ := h
  exact ⟨by rw [upS_row, pk_un (by decide)]; exact k1, fun i q hq => by rw [upS_off _ _ _ _ (by omega)]; exact k2 i q hq, k3, upS_at _ _ _ _, hp', by rw [upS_row, pk_un (by decide)]; exact k6, fun j t ht => by rw [upS_off _ _ _ _ (by omega)]; exact k7 j t ht, by omega, k9⟩
theorem PrR.code {y p : Nat} {T : List Nat} {S : SS} {cs : List TK} (h : PrR y T S p cs) (t : TK) (hl : cs.length + 1 ≤ p) (hy : y < 7) : PrR y T (upS (upS S (11 + 6 * y + 5) cs.length (encC t)) (11 + 6 * y) 9 (nI (cs.length + 1))) p (cs ++ [t]) := by
  obtain ⟨k1, k2, k3, k4, k5, k6, k7, k8, k9⟩ := h
  have oY : ∀ k, k ≠ 9 → upS (upS S (11 + 6 * y + 5) cs.length (encC t)) (11 + 6 * y) 9 (nI (cs.length + 1)) (11 + 6 * y) k = S (11 + 6 * y) k := fun k hk => by rw [upS_row, pk_un hk, upS_off _ _ _ _ (by omega)]
  refine ⟨by rw [oY 1 (by decide)]; exact k1, fun i q hq => by rw [upS_off _ _ _ _ (by omega), upS_off _ _ _ _ (by omega)]; exact k2 i q hq, k3, by rw [oY 2 (by decide)]; exact k4, k5, by rw [upS_at, List.length_append]; rfl, fun j t' ht => ?_, by rw [List.length_append]; exact hl, k9⟩
  rw [upS_off _ _ _ _ (by omega), upS_row]
  rcases get_push ht with ⟨w, e⟩ | ⟨w, e⟩
  · rw [pk_un (by omega)]; exact k7 j t' e
  · rw [w, e, pk_us]
theorem chr_q {T : List Nat} {p : Nat} (k9 : ∀ q ∈ T, q < 128) (h : 0 ≤ chr T p) : ∃ q, q < 128 ∧ T[p]? = some q ∧ chr T p = nI q ∧ p < T.length := by
  rcases Nat.lt_or_ge p T.length with w | w
  · obtain ⟨q, h1, h2⟩ := chr_lt w
    exact ⟨q, k9 q (List.mem_of_getElem? h1), h1, h2, w⟩
  · rw [chr_ge w] at h
    exact absurd h (by decide)
theorem chr_neg {T : List Nat} {p : Nat} (k9 : ∀ q ∈ T, q < 128) (h : ¬ 0 ≤ chr T p) : chr T p = -1 := by
  rcases Nat.lt_or_ge p T.length with w | w
  · obtain ⟨q, h1, h2⟩ := chr_lt w
    have := k9 q (List.mem_of_getElem? h1)
    exact absurd (by rw [h2]; exact nI_pos' (by omega)) h
  · exact chr_ge w
theorem dg_val {T : List Nat} {p : Nat} (k9 : ∀ q ∈ T, q < 128) (h : digI (chr T p)) : p < T.length ∧ chr T p - 48 = nI (dgN T p) ∧ dgN T p ≤ 9 ∧ chr T p = nI (dgN T p + 48) := by
  obtain ⟨q, h1, h2, h3, h4⟩ := chr_q k9 (Int32.le_trans (by decide) h.1)
  unfold digI at h
  rw [h3] at h ⊢
  have g1 : 48 ≤ q := (nI_leI (a := 48) (by omega) (by omega)).mp h.1
  have g2 : q ≤ 57 := (nI_leI (b := 57) (by omega) (by omega)).mp h.2
  have e : dgN T p = q - 48 := by unfold dgN; rw [List.getD_eq_getElem?_getD, h2]; rfl
  rw [e]
  exact ⟨h4, pk_sub (b := 48) g1, by omega, by congr 1; omega⟩
theorem dg_two {T : List Nat} {p : Nat} (k9 : ∀ q ∈ T, q < 128) (h : digI (chr T p)) (h2 : digI (chr T (p + 1))) : (chr T p - 48) * 10 + chr T (p + 1) - 48 = nI (dgN T p * 10 + dgN T (p + 1)) := by
  obtain ⟨a1, a2, a3, a4⟩ := dg_val k9 h
  obtain ⟨b1, b2, b3, b4⟩ := dg_val k9 h2
  rw [a2, b4, show (10 : Int32) = nI 10 from rfl, show (48 : Int32) = nI 48 from rfl, pk_mul, nI_add, pk_sub (by omega)]
  congr 1
theorem c16 : ∀ q, q < 128 → ((nI q).toUInt32 % 65536).toInt32 = nI q := by decide +kernel
theorem ix_let : ∀ q, q < 128 → ixP (nI q) (strByt.getD 0 []) 0 = if letN (nI q) = 6 then -1 else nI (letN (nI q)) := by decide +kernel
theorem ix_sgn : ∀ q, q < 128 → ixP (nI q) (strByt.getD 6 []) 0 = if sgnN (nI q) = 3 then -1 else nI (sgnN (nI q)) := by decide +kernel
theorem letN_le (c : Int32) : letN c ≤ 6 := by
  unfold letN
  split
  · omega
  split
  · omega
  split
  · omega
  split
  · omega
  split
  · omega
  split
  · omega
  omega
theorem sgnN_le (c : Int32) : sgnN c ≤ 3 := by
  unfold sgnN
  split
  · omega
  split
  · omega
  split
  · omega
  omega
def PQ (y : Nat) (T : List Nat) (cs : List TK) (ok : Nat → List TK → Prop) (no : Nat → Prop) (S : SS) (x : Int32) (S' : SS) : Prop := (x = 0 ∨ x = 1) ∧ (¬ x = 0 → ∃ p' c', ok p' c' ∧ PrR y T S' p' (cs ++ c')) ∧ (x = 0 → ∃ q, no q ∧ S' (11 + 6 * y) 2 = nI q) ∧ PrF y S S'
theorem PQ.nar {y : Nat} {T : List Nat} {cs : List TK} {ok : Nat → List TK → Prop} {no : Nat → Prop} {S S' : SS} {x : Int32} (h : PQ y T cs ok no S x S') : narrow .boolean (.int x) = .int x := by
  rcases h.1 with rfl | rfl <;> rfl
theorem PQ.mono {y : Nat} {T : List Nat} {cs : List TK} {ok ok' : Nat → List TK → Prop} {no no' : Nat → Prop} {S S' : SS} {x : Int32} (h : PQ y T cs ok no S x S') (h1 : ∀ p c, ok p c → ok' p c) (h2 : ∀ q, no q → no' q) : PQ y T cs ok' no' S x S' :=
  ⟨h.1, fun w => by obtain ⟨p', c', a, b⟩ := h.2.1 w; exact ⟨p', c', h1 _ _ a, b⟩, fun w => by obtain ⟨q, a, b⟩ := h.2.2.1 w; exact ⟨q, h2 _ a, b⟩, h.2.2.2⟩
def TstOK (T : List Nat) (p p' : Nat) (c : List TK) : Prop := ∃ t, tstQ T p = (some t, p') ∧ c = [t] ∧ Sz T p p' c ∧ t.1 < 6 ∧ t.2.1 < 3 ∧ t.2.2 < 100
theorem enc_val {l s n : Nat} (h : l < 6) : (nI l * 3 + nI s) * 100 + nI n = encC (l, s, n) := by
  unfold encC
  rw [if_pos h, show (3 : Int32) = nI 3 from rfl, show (100 : Int32) = nI 100 from rfl, pk_mul, nI_add, pk_mul, nI_add]

set_option maxRecDepth 20000 in
set_option maxHeartbeats 1000000 in
theorem c_signAt (g : GG) {y : Nat} (hy : y < 7) (T : List Nat) (p : Nat)  (S : SS) (L : LL) (hp : p < 1000) (z1 : S (11 + 6 * y) 1 = nI T.length) (z2 : ∀ i q, T[i]? = some q → S 9 i = nI q) (z3 : T.length ≤ 100) : Ci g 0 mX10_signAt [.ref (11 + 6 * y), .int (nI p)] SHC S L (fun r S' L' => r = chr T p ∧ S' = S ∧ L' = L) := by
  have hpc : (nI p).toNatClampNeg = p := nI_clamp (by omega)
  refine ct_of (ls := [some (.ref (11 + 6 * y)), some (.int (nI p))]) 0 (by decide +kernel) rfl rfl ?_
  refine rx_iload_n dX10_signAt_0 rfl ?_
  refine rx_if_lt 30 dX10_signAt_1 (by decide) (fun h1 => absurd h1 (nI_pos (by omega))) (fun h1 => ?_)
  refine rx_iload_n dX10_signAt_4 rfl ?_
  refine rx_aload_n dX10_signAt_5 rfl ?_
  refine rx_getI dX10_signAt_6 flX10_41 (syO hy) rfl ?_
  rw [z1]
  refine rx_icmp_ge 30 dX10_signAt_9 (by decide) (fun h9 => ?_) (fun h9 => ?_)
  · refine rx_iconst (-1) dX10_signAt_30 (by decide) ?_
    exact rx_iret dX10_signAt_31 rfl ⟨Nat.le_refl _, Nat.le_refl _⟩ ⟨rfl, _, rfl, ⟨(chr_ge ((nI_leI (by omega) (by omega)).mp h9)).symm, rfl, rfl⟩⟩
  · have hpl : p < T.length := Nat.lt_of_not_le fun q => h9 (nI_le q (by omega))
    obtain ⟨q, hq, ec⟩ := chr_lt hpl
    refine rx_iload_n dX10_signAt_12 rfl ?_
    refine rx_aload_n dX10_signAt_13 rfl ?_
    refine rx_getR dX10_signAt_14 flX10_37 (syO hy) rfl ?_
    refine rx_alen dX10_signAt_17 (sC_9) (by decide) ?_
    refine rx_icmp_ge 30 dX10_signAt_18 (by decide) (fun h18 => absurd h18 (nI_ge (a := p) (b := 100) (by omega) (by omega))) (fun h18 => ?_)
    refine rx_aload_n dX10_signAt_21 rfl ?_
    refine rx_getR dX10_signAt_22 flX10_37 (syO hy) rfl ?_
    refine rx_iload_n dX10_signAt_25 rfl ?_
    refine rx_baload dX10_signAt_26 (sC_9) (vp_in_nI (by omega) (by omega)) ?_
    rw [hpc, z2 p q hq]
    refine rx_goto 31 dX10_signAt_27 (by decide) ?_
    exact rx_iret dX10_signAt_31 rfl ⟨Nat.le_refl _, Nat.le_refl _⟩ ⟨rfl, _, rfl, ⟨ec.symm, rfl, rfl⟩⟩
set_option maxRecDepth 20000 in
set_option maxHeartbeats 1000000 in
theorem c_skip (g : GG) {y : Nat} (hy : y < 7) (T : List Nat) (p : Nat) (cs : List TK) (c : Int32) (S : SS) (L : LL) (hP : PrR y T S p cs) (hc : ¬ c = -1) : Ci g 1 mX10_skip [.ref (11 + 6 * y), .int c] SHC S L (fun x S' L' => ((x = 0 ∨ x = 1) ∧ (¬ x = 0 → chr T p = c ∧ PrR y T S' (p + 1) cs) ∧ (x = 0 → ¬ chr T p = c ∧ S' = S) ∧ PrF y S S') ∧ L' = L) := by
  obtain ⟨k1, k2, k3, k4, k5, k6, k7, k8, k9⟩ := id hP
  refine ct_of (ls := [some (.ref (11 + 6 * y)), some (.int c)]) 0 (by decide +kernel) rfl rfl ?_
  refine rx_aload_n dX10_skip_0 rfl ?_
  refine rx_aload_n dX10_skip_1 rfl ?_
  refine rx_getI dX10_skip_2 flX10_44 (syO hy) rfl ?_
  rw [k4]
  refine rx_cVi_1 clX10_102 dX10_skip_5 (rcvo (syO hy) rfl) rfl (c_signAt g hy T p S L (by omega) k1 k2 k3) ?_
  refine pur3 ?_
  refine rx_iload_n dX10_skip_8 rfl ?_
  refine rx_icmp_eq 14 dX10_skip_9 (by decide) (fun h9 => ?_) (fun h9 => ?_)
  · refine rx_aload_n dX10_skip_14 rfl ?_
    refine rx_dup dX10_skip_15 rfl ?_
    refine rx_getI dX10_skip_16 flX10_44 (syO hy) rfl ?_
    rw [k4]
    refine rx_iconst (1) dX10_skip_19 (by decide) ?_
    refine rx_iadd dX10_skip_20 ?_
    rw [nI_1]
    refine rx_putI dX10_skip_21 flX10_44 (syO hy) rfl ?_
    refine rx_iconst (1) dX10_skip_24 (by decide) ?_
    exact rx_zret dX10_skip_25 rfl (by decide) ⟨Nat.le_refl _, Nat.le_refl _⟩ ⟨rfl, _, rfl, ⟨⟨Or.inr rfl, fun _ => ⟨h9, hP.put (by omega) (chr_in h9 hc) hy⟩, fun q => absurd q (by decide), PrF.put⟩, rfl⟩⟩
  · refine rx_iconst (0) dX10_skip_12 (by decide) ?_
    exact rx_zret dX10_skip_13 rfl (by decide) ⟨Nat.le_refl _, Nat.le_refl _⟩ ⟨rfl, _, rfl, ⟨⟨Or.inl rfl, fun q => absurd rfl q, fun _ => ⟨h9, rfl⟩, PrF.refl⟩, rfl⟩⟩
set_option maxRecDepth 20000 in
set_option maxHeartbeats 1000000 in
theorem c_isDigit (g : GG) {sh : List CS} (c : Int32) (S : SS) (L : LL) : Ci g 0 mX10_isDigit [.int c] sh S L (fun r S' L' => r = b2i (digI c) ∧ S' = S ∧ L' = L) := by
  refine ct_of (ls := [some (.int c)]) 0 (by decide +kernel) rfl rfl ?_
  refine rx_iload_n dX10_isDigit_0 rfl ?_
  refine rx_bipush (48) dX10_isDigit_1 (by decide) ?_
  refine rx_icmp_lt 16 dX10_isDigit_3 (by decide) (fun h3 => ?_) (fun h3 => ?_)
  · refine rx_iconst (0) dX10_isDigit_16 (by decide) ?_
    exact rx_zret dX10_isDigit_17 rfl (by decide) ⟨Nat.le_refl _, Nat.le_refl _⟩ ⟨rfl, _, rfl, ⟨by first | exact b2i_t ⟨Int32.not_lt.mp h3, Int32.not_lt.mp h9⟩ | exact b2i_f (fun q => absurd h3 (Int32.not_lt.mpr q.1)) | exact b2i_f (fun q => absurd h9 (Int32.not_lt.mpr q.2)), rfl, rfl⟩⟩
  · refine rx_iload_n dX10_isDigit_6 rfl ?_
    refine rx_bipush (57) dX10_isDigit_7 (by decide) ?_
    refine rx_icmp_gt 16 dX10_isDigit_9 (by decide) (fun h9 => ?_) (fun h9 => ?_)
    · refine rx_iconst (0) dX10_isDigit_16 (by decide) ?_
      exact rx_zret dX10_isDigit_17 rfl (by decide) ⟨Nat.le_refl _, Nat.le_refl _⟩ ⟨rfl, _, rfl, ⟨by first | exact b2i_t ⟨Int32.not_lt.mp h3, Int32.not_lt.mp h9⟩ | exact b2i_f (fun q => absurd h3 (Int32.not_lt.mpr q.1)) | exact b2i_f (fun q => absurd h9 (Int32.not_lt.mpr q.2)), rfl, rfl⟩⟩
    · refine rx_iconst (1) dX10_isDigit_12 (by decide) ?_
      refine rx_goto 17 dX10_isDigit_13 (by decide) ?_
      exact rx_zret dX10_isDigit_17 rfl (by decide) ⟨Nat.le_refl _, Nat.le_refl _⟩ ⟨rfl, _, rfl, ⟨by first | exact b2i_t ⟨Int32.not_lt.mp h3, Int32.not_lt.mp h9⟩ | exact b2i_f (fun q => absurd h3 (Int32.not_lt.mpr q.1)) | exact b2i_f (fun q => absurd h9 (Int32.not_lt.mpr q.2)), rfl, rfl⟩⟩
set_option maxRecDepth 20000 in
set_option maxHeartbeats 1000000 in
theorem c_readNumber (g : GG) {y : Nat} (hy : y < 7) (T : List Nat) (p : Nat) (cs : List TK)  (S : SS) (L : LL) (hP : PrR y T S p cs) : Ci g 1 mX10_readNumber [.ref (11 + 6 * y)] SHC S L (fun x S' L' => ((0 ≤ x → ∃ n p', numP T p = some (n, p') ∧ n < 100 ∧ x = nI n ∧ p < p' ∧ p' ≤ T.length ∧ PrR y T S' p' cs) ∧ (¬ 0 ≤ x → numP T p = none ∧ S' = S) ∧ PrF y S S') ∧ L' = L) := by
  obtain ⟨k1, k2, k3, k4, k5, k6, k7, k8, k9⟩ := id hP
  refine ct_of (ls := [some (.ref (11 + 6 * y)), none, none]) 2 (by decide +kernel) rfl rfl ?_
  refine rx_aload_n dX10_readNumber_0 rfl ?_
  refine rx_aload_n dX10_readNumber_1 rfl ?_
  refine rx_getI dX10_readNumber_2 flX10_44 (syO hy) rfl ?_
  rw [k4]
  refine rx_cVi_1 clX10_102 dX10_readNumber_5 (rcvo (syO hy) rfl) rfl (c_signAt g hy T p S L (by omega) k1 k2 k3) ?_
  refine pur3 ?_
  refine rx_istore_1 rfl dX10_readNumber_8 ?_
  refine rx_iload_n dX10_readNumber_9 rfl ?_
  refine rx_cSi_1 clX10_110 dX10_readNumber_10 rfl (c_isDigit g _ _ L) ?_
  refine pur3 ?_
  refine rx_if_ne 18 dX10_readNumber_13 (by decide) (fun h13 => ?_) (fun h13 => ?_)
  · have hd1 := b2i_ne h13
    obtain ⟨hp1, hv1, hn1, hw1⟩ := dg_val k9 hd1
    refine rx_aload_n dX10_readNumber_18 rfl ?_
    refine rx_dup dX10_readNumber_19 rfl ?_
    refine rx_getI dX10_readNumber_20 flX10_44 (syO hy) rfl ?_
    rw [k4]
    refine rx_iconst (1) dX10_readNumber_23 (by decide) ?_
    refine rx_iadd dX10_readNumber_24 ?_
    rw [nI_1]
    refine rx_putI dX10_readNumber_25 flX10_44 (syO hy) rfl ?_
    have hP1 := hP.put (p' := p + 1) (by omega) hp1 hy
    refine rx_aload_n dX10_readNumber_28 rfl ?_
    refine rx_aload_n dX10_readNumber_29 rfl ?_
    refine rx_getI dX10_readNumber_30 flX10_44 (syO hy) rfl ?_
    rw [upS_at]
    refine rx_cVi_1 clX10_102 dX10_readNumber_33 (rcvo (syO hy) rfl) rfl (c_signAt g hy T (p + 1) _ L (by omega) hP1.1 hP1.2.1 hP1.2.2.1) ?_
    refine pur3 ?_
    refine rx_istore_2 rfl dX10_readNumber_36 ?_
    refine rx_iload_n dX10_readNumber_37 rfl ?_
    refine rx_cSi_1 clX10_110 dX10_readNumber_38 rfl (c_isDigit g _ _ L) ?_
    refine pur3 ?_
    refine rx_if_ne 49 dX10_readNumber_41 (by decide) (fun h41 => ?_) (fun h41 => ?_)
    · have hd2 := b2i_ne h41
      obtain ⟨hp2, hv2, hn2, hw2⟩ := dg_val k9 hd2
      refine rx_aload_n dX10_readNumber_49 rfl ?_
      refine rx_dup dX10_readNumber_50 rfl ?_
      refine rx_getI dX10_readNumber_51 flX10_44 (syO hy) rfl ?_
      rw [upS_at]
      refine rx_iconst (1) dX10_readNumber_54 (by decide) ?_
      refine rx_iadd dX10_readNumber_55 ?_
      rw [nI_1]
      refine rx_putI dX10_readNumber_56 flX10_44 (syO hy) rfl ?_
      refine rx_iload_n dX10_readNumber_59 rfl ?_
      refine rx_bipush (48) dX10_readNumber_60 (by decide) ?_
      refine rx_isub dX10_readNumber_62 ?_
      refine rx_bipush (10) dX10_readNumber_63 (by decide) ?_
      refine rx_imul dX10_readNumber_65 ?_
      refine rx_iload_n dX10_readNumber_66 rfl ?_
      refine rx_iadd dX10_readNumber_67 ?_
      refine rx_bipush (48) dX10_readNumber_68 (by decide) ?_
      refine rx_isub dX10_readNumber_70 ?_
      rw [dg_two k9 hd1 hd2]
      exact rx_iret dX10_readNumber_71 rfl ⟨Nat.le_refl _, Nat.le_refl _⟩ ⟨rfl, _, rfl, ⟨⟨fun _ => ⟨dgN T p * 10 + dgN T (p + 1), p + 2, by unfold numP; rw [if_pos hd1, if_pos hd2], by omega, rfl, by omega, hp2, hP1.put (by omega) hp2 hy⟩, fun q => absurd (nI_pos' (by omega)) q, PrF.put.trans PrF.put⟩, rfl⟩⟩
    · refine rx_iload_n dX10_readNumber_44 rfl ?_
      refine rx_bipush (48) dX10_readNumber_45 (by decide) ?_
      refine rx_isub dX10_readNumber_47 ?_
      rw [hv1]
      exact rx_iret dX10_readNumber_48 rfl ⟨Nat.le_refl _, Nat.le_refl _⟩ ⟨rfl, _, rfl, ⟨⟨fun _ => ⟨dgN T p, p + 1, by unfold numP; rw [if_pos hd1, if_neg (b2i_eq h41)], by omega, rfl, by omega, hp1, hP1⟩, fun q => absurd (nI_pos' (by omega)) q, PrF.put⟩, rfl⟩⟩
  · refine rx_iconst (-1) dX10_readNumber_16 (by decide) ?_
    exact rx_iret dX10_readNumber_17 rfl ⟨Nat.le_refl _, Nat.le_refl _⟩ ⟨rfl, _, rfl, ⟨⟨fun q => absurd q (by decide), fun _ => ⟨by unfold numP; rw [if_neg (b2i_eq h13)], rfl⟩, PrF.refl⟩, rfl⟩⟩
set_option maxRecDepth 20000 in
set_option maxHeartbeats 1000000 in
theorem c_readOneOf (g : GG) {y : Nat} (hy : y < 7) (T : List Nat) (p : Nat) (cs : List TK) {i : Nat} (hi : i < 7) (f : Int32 → Nat) (m : Nat) (hm6 : m ≤ 6) (hle : ∀ c, f c ≤ m) (hm : f (-1) = m) (hf : ∀ q, q < 128 → ixP (nI q) (strByt.getD i []) 0 = if f (nI q) = m then -1 else nI (f (nI q))) (S : SS) (L : LL) (hP : PrR y T S p cs) : Ci g 4 mX10_readOneOf [.ref (11 + 6 * y), .ref (100000 + i)] SHC S L (fun x S' L' => ((0 ≤ x → f (chr T p) < m ∧ x = nI (f (chr T p)) ∧ p < T.length ∧ PrR y T S' (p + 1) cs) ∧ (¬ 0 ≤ x → f (chr T p) = m ∧ S' = S) ∧ PrF y S S') ∧ L' = L) := by
  obtain ⟨k1, k2, k3, k4, k5, k6, k7, k8, k9⟩ := id hP
  refine ct_of (ls := [some (.ref (11 + 6 * y)), some (.ref (100000 + i)), none, none]) 2 (by decide +kernel) rfl rfl ?_
  refine rx_aload_n dX10_readOneOf_0 rfl ?_
  refine rx_aload_n dX10_readOneOf_1 rfl ?_
  refine rx_getI dX10_readOneOf_2 flX10_44 (syO hy) rfl ?_
  rw [k4]
  refine rx_cVi_1 clX10_102 dX10_readOneOf_5 (rcvo (syO hy) rfl) rfl (c_signAt g hy T p S L (by omega) k1 k2 k3) ?_
  refine pur3 ?_
  refine rx_istore_2 rfl dX10_readOneOf_8 ?_
  refine rx_iload_n dX10_readOneOf_9 rfl ?_
  refine rx_if_ge 17 dX10_readOneOf_10 (by decide) (fun h10 => ?_) (fun h10 => ?_)
  · obtain ⟨q, hq, hqT, eq, hpl⟩ := chr_q k9 h10
    rw [eq]
    refine rx_aload_n dX10_readOneOf_17 rfl ?_
    refine rx_iload_n dX10_readOneOf_18 rfl ?_
    refine rx_i2c dX10_readOneOf_19 ?_
    rw [c16 q hq]
    refine rx_cVi_1 clX10_130 dX10_readOneOf_20 (Or.inr ⟨Nat.le_add_right _ _, by omega, rfl⟩) rfl (c_indexOf g hi (nI q) S L (nI_pos' (by omega)) (nI_le (b := 127) (by omega) (by omega))) ?_
    refine pur3 ?_
    rw [hf q hq]
    refine rx_istore_3 rfl dX10_readOneOf_23 ?_
    refine rx_iload_n dX10_readOneOf_24 rfl ?_
    refine rx_if_lt 38 dX10_readOneOf_25 (by decide) (fun h25 => ?_) (fun h25 => ?_)
    · refine rx_iload_n dX10_readOneOf_38 rfl ?_
      exact rx_iret dX10_readOneOf_39 rfl ⟨Nat.le_refl _, Nat.le_refl _⟩ ⟨rfl, _, rfl, ⟨⟨fun w => absurd h25 (Int32.not_lt.mpr w), fun _ => ⟨Decidable.byContradiction fun w => by rw [if_neg w] at h25; exact nI_pos (by have := hle (nI q); omega) h25, rfl⟩, PrF.refl⟩, rfl⟩⟩
    · have hfm : ¬ f (nI q) = m := fun w => h25 (by rw [if_pos w]; decide)
      have hfl : f (nI q) < m := Nat.lt_of_le_of_ne (hle _) hfm
      rw [if_neg hfm]
      refine rx_aload_n dX10_readOneOf_28 rfl ?_
      refine rx_dup dX10_readOneOf_29 rfl ?_
      refine rx_getI dX10_readOneOf_30 flX10_44 (syO hy) rfl ?_
      rw [k4]
      refine rx_iconst (1) dX10_readOneOf_33 (by decide) ?_
      refine rx_iadd dX10_readOneOf_34 ?_
      rw [nI_1]
      refine rx_putI dX10_readOneOf_35 flX10_44 (syO hy) rfl ?_
      refine rx_iload_n dX10_readOneOf_38 rfl ?_
      exact rx_iret dX10_readOneOf_39 rfl ⟨Nat.le_refl _, Nat.le_refl _⟩ ⟨rfl, _, rfl, ⟨⟨fun _ => ⟨hfl, rfl, hpl, hP.put (by omega) hpl hy⟩, fun w => absurd (nI_pos' (by omega)) w, PrF.put⟩, rfl⟩⟩
  · refine rx_iconst (-1) dX10_readOneOf_13 (by decide) ?_
    refine rx_goto 23 dX10_readOneOf_14 (by decide) ?_
    refine rx_istore_3 rfl dX10_readOneOf_23 ?_
    refine rx_iload_n dX10_readOneOf_24 rfl ?_
    refine rx_if_lt 38 dX10_readOneOf_25 (by decide) (fun h25 => ?_) (fun h25 => absurd h25 (by decide))
    refine rx_iload_n dX10_readOneOf_38 rfl ?_
    exact rx_iret dX10_readOneOf_39 rfl ⟨Nat.le_refl _, Nat.le_refl _⟩ ⟨rfl, _, rfl, ⟨⟨fun q => absurd q (by decide), fun _ => ⟨by rw [chr_neg k9 h10]; exact hm, rfl⟩, PrF.refl⟩, rfl⟩⟩
set_option maxRecDepth 20000 in
set_option maxHeartbeats 1000000 in
theorem c_addCode (g : GG) {y : Nat} (hy : y < 7) (T : List Nat) (p : Nat) (cs : List TK) (t : TK) (S : SS) (L : LL) (hP : PrR y T S p cs) (hl : cs.length + 1 ≤ p) : Cv g 0 mX10_addCode [.ref (11 + 6 * y), .int (encC t)] SHC S L (fun S' L' => (PrR y T S' p (cs ++ [t]) ∧ PrF y S S') ∧ L' = L) := by
  obtain ⟨k1, k2, k3, k4, k5, k6, k7, k8, k9⟩ := id hP
  have hcc : (nI cs.length).toNatClampNeg = cs.length := nI_clamp (by omega)
  refine ct_of (ls := [some (.ref (11 + 6 * y)), some (.int (encC t))]) 0 (by decide +kernel) rfl rfl ?_
  refine rx_aload_n dX10_addCode_0 rfl ?_
  refine rx_getI dX10_addCode_1 flX10_50 (syO hy) rfl ?_
  rw [k6]
  refine rx_aload_n dX10_addCode_4 rfl ?_
  refine rx_getR dX10_addCode_5 flX10_24 (syO hy) rfl ?_
  refine rx_alen dX10_addCode_8 (syA5 hy) (by decide) ?_
  refine rx_icmp_ge 32 dX10_addCode_9 (by decide) (fun h9 => absurd h9 (nI_ge (a := cs.length) (b := 100) (by omega) (by omega))) (fun h9 => ?_)
  refine rx_aload_n dX10_addCode_12 rfl ?_
  refine rx_getR dX10_addCode_13 flX10_24 (syO hy) rfl ?_
  refine rx_aload_n dX10_addCode_16 rfl ?_
  refine rx_getI dX10_addCode_17 flX10_50 (syO hy) rfl ?_
  rw [k6]
  refine rx_iload_n dX10_addCode_20 rfl ?_
  refine rx_iastore dX10_addCode_21 (syA5 hy) (vp_in_nI (by omega) (by omega)) ?_
  rw [hcc]
  refine rx_aload_n dX10_addCode_22 rfl ?_
  refine rx_dup dX10_addCode_23 rfl ?_
  refine rx_getI dX10_addCode_24 flX10_50 (syO hy) rfl ?_
  rw [upS_off _ _ _ _ (by omega : 11 + 6 * y ≠ 11 + 6 * y + 5), k6]
  refine rx_iconst (1) dX10_addCode_27 (by decide) ?_
  refine rx_iadd dX10_addCode_28 ?_
  rw [nI_1]
  refine rx_putI dX10_addCode_29 flX10_50 (syO hy) rfl ?_
  exact rx_vret dX10_addCode_32 rfl ⟨Nat.le_refl _, Nat.le_refl _⟩ ⟨rfl, rfl, ⟨⟨hP.code t hl hy, PrF.code⟩, rfl⟩⟩
set_option maxRecDepth 20000 in
set_option maxHeartbeats 1000000 in
theorem c_readTest (g : GG) {y : Nat} (hy : y < 7) (T : List Nat) (p : Nat) (cs : List TK)  (S : SS) (L : LL) (hP : PrR y T S p cs) : Ci g 5 mX10_readTest [.ref (11 + 6 * y)] SHC S L (fun x S' L' => PQ y T cs (TstOK T p) (fun q => tstQ T p = (none, q)) S x S' ∧ L' = L) := by
  obtain ⟨k1, k2, k3, k4, k5, k6, k7, k8, k9⟩ := id hP
  refine ct_of (ls := [some (.ref (11 + 6 * y)), none, none, none]) 3 (by decide +kernel) rfl rfl ?_
  refine rx_aload_n dX10_readTest_0 rfl ?_
  refine rx_ldcS (i := 0) (tx := "ckebat") dX10_readTest_1 (by decide +kernel) ?_
  refine rx_cVi_1 clX10_125 dX10_readTest_3 (rcvo (syO hy) rfl) rfl (c_readOneOf g hy T p cs (i := 0) (by decide) letN 6 (by decide) letN_le rfl ix_let S L hP) ?_
  rintro x1 S1 L1 ⟨⟨hy1, hn1, hF1⟩, hL1⟩
  rw [hL1]
  refine rx_istore_1 rfl dX10_readTest_6 ?_
  refine rx_iload_n dX10_readTest_7 rfl ?_
  refine rx_if_ge 13 dX10_readTest_8 (by decide) (fun h8 => ?_) (fun h8 => ?_)
  · obtain ⟨f1, rfl, p1, hP1⟩ := hy1 h8
    have g1 : ¬ letN (chr T p) = 6 := by omega
    refine rx_aload_n dX10_readTest_13 rfl ?_
    refine rx_ldcS (i := 6) (tx := "<=>") dX10_readTest_14 (by decide +kernel) ?_
    refine rx_cVi_1 clX10_125 dX10_readTest_16 (rcvo (syO hy) rfl) rfl (c_readOneOf g hy T (p + 1) cs (i := 6) (by decide) sgnN 3 (by decide) sgnN_le rfl ix_sgn S1 L hP1) ?_
    rintro x2 S2 L2 ⟨⟨hy2, hn2, hF2⟩, hL2⟩
    rw [hL2]
    refine rx_istore_2 rfl dX10_readTest_19 ?_
    refine rx_iload_n dX10_readTest_20 rfl ?_
    refine rx_if_ge 26 dX10_readTest_21 (by decide) (fun h21 => ?_) (fun h21 => ?_)
    · obtain ⟨f2, rfl, p2, hP2⟩ := hy2 h21
      have g2 : ¬ sgnN (chr T (p + 1)) = 3 := by omega
      refine rx_aload_n dX10_readTest_26 rfl ?_
      refine rx_cVi_0 clX10_65 dX10_readTest_27 (rcvo (syO hy) rfl) rfl (c_readNumber g hy T (p + 1 + 1) cs S2 L hP2) ?_
      rintro x3 S3 L3 ⟨⟨hy3, hn3, hF3⟩, hL3⟩
      rw [hL3]
      refine rx_istore_3 rfl dX10_readTest_30 ?_
      refine rx_iload_n dX10_readTest_31 rfl ?_
      refine rx_if_ge 37 dX10_readTest_32 (by decide) (fun h32 => ?_) (fun h32 => ?_)
      · obtain ⟨n, p3, hn, hn100, rfl, p4, p5, hP3⟩ := hy3 h32
        have ht : tstQ T p = (some (letN (chr T p), sgnN (chr T (p + 1)), n), p3) := by unfold tstQ; rw [if_neg g1, if_neg g2, show numP T (p + 2) = some (n, p3) from hn]
        refine rx_aload_n dX10_readTest_37 rfl ?_
        refine rx_iload_n dX10_readTest_38 rfl ?_
        refine rx_iconst (3) dX10_readTest_39 (by decide) ?_
        refine rx_imul dX10_readTest_40 ?_
        refine rx_iload_n dX10_readTest_41 rfl ?_
        refine rx_iadd dX10_readTest_42 ?_
        refine rx_bipush (100) dX10_readTest_43 (by decide) ?_
        refine rx_imul dX10_readTest_45 ?_
        refine rx_iload_n dX10_readTest_46 rfl ?_
        refine rx_iadd dX10_readTest_47 ?_
        rw [enc_val f1]
        refine rx_cVv_1 clX10_116 dX10_readTest_48 (rcvo (syO hy) rfl) rfl (c_addCode g hy T p3 cs (letN (chr T p), sgnN (chr T (p + 1)), n) S3 L hP3 (by omega)) ?_
        rintro S4 L4 ⟨⟨hP4, hF4⟩, hL4⟩
        rw [hL4]
        refine rx_iconst (1) dX10_readTest_51 (by decide) ?_
        exact rx_zret dX10_readTest_52 rfl (by decide) ⟨Nat.le_refl _, Nat.le_refl _⟩ ⟨rfl, _, rfl, ⟨⟨Or.inr rfl, fun _ => ⟨p3, _, ⟨_, ht, rfl, ⟨by omega, p5, by show 1 + p ≤ p3; omega⟩, f1, f2, hn100⟩, hP4⟩, fun q => absurd q (by decide), ((hF1.trans hF2).trans hF3).trans hF4⟩, rfl⟩⟩
      · refine rx_iconst (0) dX10_readTest_35 (by decide) ?_
        exact rx_zret dX10_readTest_36 rfl (by decide) ⟨Nat.le_refl _, Nat.le_refl _⟩ ⟨rfl, _, rfl, ⟨⟨Or.inl rfl, fun q => absurd rfl q, fun _ => ⟨p + 2, by unfold tstQ; rw [if_neg g1, if_neg g2, show numP T (p + 2) = none from (hn3 h32).1], by rw [(hn3 h32).2]; exact hP2.2.2.2.1⟩, (hF1.trans hF2).trans hF3⟩, rfl⟩⟩
    · refine rx_iconst (0) dX10_readTest_24 (by decide) ?_
      exact rx_zret dX10_readTest_25 rfl (by decide) ⟨Nat.le_refl _, Nat.le_refl _⟩ ⟨rfl, _, rfl, ⟨⟨Or.inl rfl, fun q => absurd rfl q, fun _ => ⟨p + 1, (if_neg g1).trans (if_pos (hn2 h21).1), by rw [(hn2 h21).2]; exact hP1.2.2.2.1⟩, hF1.trans hF2⟩, rfl⟩⟩
  · refine rx_iconst (0) dX10_readTest_11 (by decide) ?_
    exact rx_zret dX10_readTest_12 rfl (by decide) ⟨Nat.le_refl _, Nat.le_refl _⟩ ⟨rfl, _, rfl, ⟨⟨Or.inl rfl, fun q => absurd rfl q, fun _ => ⟨p, if_pos (hn1 h8).1, by rw [(hn1 h8).2]; exact k4⟩, hF1⟩, rfl⟩⟩
