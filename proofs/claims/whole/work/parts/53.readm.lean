-- THE REFERENCE READS
def PrM (f : Nat) (T : List Nat) (S : SS) (p : Nat) (cs : List TK) : Prop := S 0 12 = nI T.length ∧ (∀ i q, T[i]? = some q → S 8 i = nI q) ∧ T.length ≤ 100 ∧ S 0 13 = nI p ∧ p ≤ T.length ∧ S 0 23 = nI (100 * f + cs.length) ∧ (∀ j t, cs[j]? = some t → S 14 (100 * f + j) = encM t) ∧ cs.length ≤ p ∧ (∀ q ∈ T, q < 128) ∧ f < 6
theorem PrM.off {f p p' : Nat} {T : List Nat} {S S' : SS} {cs : List TK} (h : PrM f T S p cs) (h13 : S' 0 13 = nI p') (hp : p ≤ p') (hp' : p' ≤ T.length) (h12 : S' 0 12 = S 0 12) (h8 : S' 8 = S 8) (h23 : S' 0 23 = S 0 23) (h14 : S' 14 = S 14) : PrM f T S' p' cs := by
  obtain ⟨k1, k2, k3, k4, k5, k6, k7, k8, k9, k10⟩ := h
  exact ⟨by rw [h12]; exact k1, fun i q hq => by rw [h8]; exact k2 i q hq, k3, h13, hp', by rw [h23]; exact k6, fun j t ht => by rw [h14]; exact k7 j t ht, by omega, k9, k10⟩
theorem PrM.put {f p p' : Nat} {T : List Nat} {S : SS} {cs : List TK} (h : PrM f T S p cs) (hp : p ≤ p') (hp' : p' ≤ T.length) : PrM f T (upS S 0 13 (nI p')) p' cs :=
  h.off (upS_at _ _ _ _) hp hp' (by simp (disch := omega) only [upS_ne]) (upS_off _ _ _ _ (by decide)) (by simp (disch := omega) only [upS_ne]) (upS_off _ _ _ _ (by decide))
theorem PrM.f0 {f p k : Nat} {T : List Nat} {S : SS} {cs : List TK} {x : Int32} (h : PrM f T S p cs) (h1 : k ≠ 12) (h2 : k ≠ 13) (h3 : k ≠ 23) : PrM f T (upS S 0 k x) p cs :=
  h.off ((upS_ne _ _ _ _ (by omega)).trans h.2.2.2.1) (Nat.le_refl _) h.2.2.2.2.1 (upS_ne _ _ _ _ (by omega)) (upS_off _ _ _ _ (by decide)) (upS_ne _ _ _ _ (by omega)) (upS_off _ _ _ _ (by decide))
theorem PrM.up15 {f p k : Nat} {T : List Nat} {S : SS} {cs : List TK} {x : Int32} (h : PrM f T S p cs) : PrM f T (upS S 15 k x) p cs :=
  h.off ((upS_ne _ _ _ _ (by omega)).trans h.2.2.2.1) (Nat.le_refl _) h.2.2.2.2.1 (upS_ne _ _ _ _ (by omega)) (upS_off _ _ _ _ (by decide)) (upS_ne _ _ _ _ (by omega)) (upS_off _ _ _ _ (by decide))
theorem PrM.emit {f p : Nat} {T : List Nat} {S : SS} {cs : List TK} (h : PrM f T S p cs) (t : TK) (hl : cs.length + 1 ≤ p) : PrM f T (upS (upS S 14 (100 * f + cs.length) (encM t)) 0 23 (nI (100 * f + cs.length + 1))) p (cs ++ [t]) := by
  obtain ⟨k1, k2, k3, k4, k5, k6, k7, k8, k9, k10⟩ := h
  refine ⟨by simp (disch := omega) only [upS_ne]; exact k1, fun i q hq => by simp (disch := omega) only [upS_ne]; exact k2 i q hq, k3, by simp (disch := omega) only [upS_ne]; exact k4, k5, by rw [upS_at, List.length_append]; rfl, fun j t' ht => ?_, by rw [List.length_append]; exact hl, k9, k10⟩
  rw [upS_off _ _ _ _ (by decide), upS_row]
  rcases get_push ht with ⟨w, e⟩ | ⟨w, e⟩
  · rw [pk_un (by omega)]; exact k7 j t' e
  · rw [w, e, pk_us]
/-- what the reading of an E leaves as it was -/
def QE (f : Nat) (S S' : SS) : Prop := (∀ j, j ≠ 0 → j ≠ 14 → j ≠ 15 → S' j = S j) ∧ (∀ k, k ∉ [13, 14, 23, 24, 25] → S' 0 k = S 0 k) ∧ ∀ k, k < 100 * f → S' 14 k = S 14 k
theorem QE.refl {f : Nat} {S : SS} : QE f S S := ⟨fun _ _ _ _ => rfl, fun _ _ => rfl, fun _ _ => rfl⟩
theorem QE.trans {f : Nat} {S S1 S2 : SS} (h : QE f S S1) (h2 : QE f S1 S2) : QE f S S2 := ⟨fun j a b c => (h2.1 j a b c).trans (h.1 j a b c), fun k a => (h2.2.1 k a).trans (h.2.1 k a), fun k a => (h2.2.2 k a).trans (h.2.2 k a)⟩
theorem QE.up0 {f k : Nat} {S S1 : SS} {x : Int32} (h : QE f S S1) (hk : k ∈ [13, 14, 23, 24, 25]) : QE f S (upS S1 0 k x) := ⟨fun j a b c => (upS_off S1 0 k x a).trans (h.1 j a b c), fun k' a => by
  rw [upS_row, pk_un (fun e => a (by rw [e]; exact hk))]; exact h.2.1 k' a, fun k' a => by rw [upS_off _ _ _ _ (by decide)]; exact h.2.2 k' a⟩
theorem QE.up15 {f k : Nat} {S S1 : SS} {x : Int32} (h : QE f S S1) : QE f S (upS S1 15 k x) := ⟨fun j a b c => (upS_off S1 15 k x c).trans (h.1 j a b c), fun k' a => by rw [upS_off _ _ _ _ (by decide)]; exact h.2.1 k' a, fun k' a => by rw [upS_off _ _ _ _ (by decide)]; exact h.2.2 k' a⟩
theorem QE.up14 {f k : Nat} {S S1 : SS} {x : Int32} (h : QE f S S1) (hk : 100 * f ≤ k) : QE f S (upS S1 14 k x) := ⟨fun j a b c => (upS_off S1 14 k x b).trans (h.1 j a b c), fun k' a => by rw [upS_off _ _ _ _ (by decide)]; exact h.2.1 k' a, fun k' a => by rw [upS_row, pk_un (by omega)]; exact h.2.2 k' a⟩
theorem QE.of {f : Nat} {S S' : SS} (h : Fr [] [13, 14] S S') : QE f S S' := ⟨fun j a _ _ => h.1 j a (by simp), fun k a => h.2 k (fun q => a (by simp at q ⊢; omega)), fun k _ => by rw [h.1 14 (by decide) (by simp)]⟩
/-- what the reading of a clause leaves as it was -/
def QF (c f : Nat) (S S' : SS) : Prop := (∀ j, j ≠ 0 → ¬ (10 ≤ j ∧ j ≤ 15) → S' j = S j) ∧ (∀ k, k ∉ [13, 14, 23, 24, 25] → S' 0 k = S 0 k) ∧ (∀ j k, 10 ≤ j → j ≤ 13 → k ≠ c → S' j k = S j k) ∧ ∀ k, k < 100 * f → S' 14 k = S 14 k
theorem QF.refl {c f : Nat} {S : SS} : QF c f S S := ⟨fun _ _ _ => rfl, fun _ _ => rfl, fun _ _ _ _ _ => rfl, fun _ _ => rfl⟩
theorem QF.trans {c f : Nat} {S S1 S2 : SS} (h : QF c f S S1) (h2 : QF c f S1 S2) : QF c f S S2 := ⟨fun j a b => (h2.1 j a b).trans (h.1 j a b), fun k a => (h2.2.1 k a).trans (h.2.1 k a), fun j k a b d => (h2.2.2.1 j k a b d).trans (h.2.2.1 j k a b d), fun k a => (h2.2.2.2 k a).trans (h.2.2.2 k a)⟩
theorem QE.qf {c f : Nat} {S S' : SS} (h : QE f S S') : QF c f S S' := ⟨fun j a b => h.1 j a (by omega) (by omega), h.2.1, fun j k a b _ => congrFun (h.1 j (by omega) (by omega) (by omega)) k, h.2.2⟩
theorem QF.upc {c f j : Nat} {S S1 : SS} {x : Int32} (h : QF c f S S1) (h1 : 10 ≤ j) (h2 : j ≤ 13) : QF c f S (upS S1 j c x) := ⟨fun i a b => (upS_off S1 j c x (by omega)).trans (h.1 i a b), fun k a => by rw [upS_off _ _ _ _ (by omega)]; exact h.2.1 k a, fun i k a b d => (upS_ne S1 j c x (by omega)).trans (h.2.2.1 i k a b d), fun k a => by rw [upS_off _ _ _ _ (by omega)]; exact h.2.2.2 k a⟩
theorem QF.up0 {c f k : Nat} {S S1 : SS} {x : Int32} (h : QF c f S S1) (hk : k ∈ [13, 14, 23, 24, 25]) : QF c f S (upS S1 0 k x) := ⟨fun j a b => (upS_off S1 0 k x a).trans (h.1 j a b), fun k' a => by
  rw [upS_row, pk_un (fun e => a (by rw [e]; exact hk))]; exact h.2.1 k' a, fun j k' a b d => (congrFun (upS_off S1 0 k x (by omega)) k').trans (h.2.2.1 j k' a b d), fun k' a => by rw [upS_off _ _ _ _ (by decide)]; exact h.2.2.2 k' a⟩
-- what waits
def WsM (S : SS) : List Int32 → Prop
  | [] => True
  | a :: r => S 15 r.length = a ∧ WsM S r
theorem WsM.off {S S' : SS} : ∀ {w : List Int32}, WsM S w → (∀ k, k < w.length → S' 15 k = S 15 k) → WsM S' w
  | [], _, _ => trivial
  | a :: r, h, ho => ⟨(ho r.length (by simp)).trans h.1, WsM.off h.2 (fun k hk => ho k (by simp; omega))⟩
theorem WsM.same {S S' : SS} {w : List Int32} (h : WsM S w) (h15 : S' 15 = S 15) : WsM S' w := h.off (fun k _ => by rw [h15])
def cntW : List Int32 → Nat
  | [] => 0
  | a :: r => (if a = 33 ∨ a = 40 then 1 else 0) + cntW r
theorem cntW_le : ∀ w : List Int32, cntW w ≤ w.length
  | [] => Nat.le_refl 0
  | a :: r => by
    have := cntW_le r
    show (if a = 33 ∨ a = 40 then 1 else 0) + cntW r ≤ r.length + 1
    split <;> omega
def OkW (w : List Int32) : Prop := ∀ a ∈ w, a = 33 ∨ a = 40 ∨ a = 38 ∨ a = 124
theorem OkW.tl {a : Int32} {r : List Int32} (h : OkW (a :: r)) : OkW r := fun b hb => h b (List.mem_cons_of_mem _ hb)
theorem OkW.hd {a : Int32} {r : List Int32} (h : OkW (a :: r)) : a = 33 ∨ a = 40 ∨ a = 38 ∨ a = 124 := h a List.mem_cons_self
theorem OkW.cons {a : Int32} {r : List Int32} (h : OkW r) (ha : a = 33 ∨ a = 40 ∨ a = 38 ∨ a = 124) : OkW (a :: r) := fun b hb => by
  rcases List.mem_cons.mp hb with e | e
  · rw [e]; exact ha
  · exact h b e
def StM (f : Nat) (T : List Nat) (S : SS) (p : Nat) (cs : List TK) (w : List Int32) (k : Nat) : Prop := PrM f T S p cs ∧ WsM S w ∧ S 0 24 = nI w.length ∧ S 0 25 = nI k ∧ k = cntW w ∧ OkW w ∧ cs.length + w.length ≤ p
theorem nI_dec {k : Nat} (h : 0 < k) : nI k - 1 = nI (k - 1) := pk_sub (b := 1) h
theorem StM.pop33 {f p k : Nat} {T : List Nat} {S : SS} {cs : List TK} {r : List Int32} (h : StM f T S p cs (33 :: r) k) : StM f T (upS (upS (upS (upS S 14 (100 * f + cs.length) (encM (6, 0, 0))) 0 23 (nI (100 * f + cs.length + 1))) 0 24 (nI r.length)) 0 25 (nI (k - 1))) p (cs ++ [(6, 0, 0)]) r (k - 1) := by
  obtain ⟨h1, h2, h3, h4, h5, h6, h7⟩ := h
  have hl : cs.length + (r.length + 1) ≤ p := h7
  refine ⟨((h1.emit (6, 0, 0) (by omega)).f0 (by decide) (by decide) (by decide)).f0 (by decide) (by decide) (by decide), h2.2.same (by simp (disch := omega) only [upS_off]), by rw [upS_ne _ _ _ _ (by decide), upS_at], upS_at _ _ _ _, ?_, h6.tl, by rw [List.length_append]; show cs.length + 1 + r.length ≤ p; omega⟩
  have h5' : k = 1 + cntW r := h5
  omega
theorem StM.popop {f p k : Nat} {T : List Nat} {S : SS} {cs : List TK} {a : Int32} {r : List Int32} (h : StM f T S p cs (a :: r) k) (ha : a = 38 ∨ a = 124) : StM f T (upS (upS (upS S 0 24 (nI r.length)) 14 (100 * f + cs.length) (encM (tkOf a))) 0 23 (nI (100 * f + cs.length + 1))) p (cs ++ [tkOf a]) r k := by
  obtain ⟨h1, h2, h3, h4, h5, h6, h7⟩ := h
  have hl : cs.length + (r.length + 1) ≤ p := h7
  refine ⟨(h1.f0 (by decide) (by decide) (by decide)).emit (tkOf a) (by omega), h2.2.same (by simp (disch := omega) only [upS_off]), by simp (disch := omega) only [upS_ne, upS_at], by simp (disch := omega) only [upS_ne]; exact h4, ?_, h6.tl, by rw [List.length_append]; show cs.length + 1 + r.length ≤ p; omega⟩
  have h5' : k = (if a = 33 ∨ a = 40 then 1 else 0) + cntW r := h5
  rw [if_neg (by rcases ha with e | e <;> rw [e] <;> decide)] at h5'
  omega
theorem setl_no {s a : Int32} {r : List Int32} (h : ¬ (a = 38 ∨ (a = 124 ∧ ¬ s = 38))) : setl s (a :: r) = ([], a :: r) := if_neg h
theorem setl_yes {s a : Int32} {r : List Int32} (h : a = 38 ∨ (a = 124 ∧ ¬ s = 38)) : setl s (a :: r) = (tkOf a :: (setl s r).1, (setl s r).2) := if_pos h
theorem whl_no {a : Int32} {r : List Int32} {k : Nat} (h : ¬ a = 33) : whl (a :: r) k = ([], a :: r, k) := if_neg h
theorem whl_yes {r : List Int32} {k : Nat} : whl (33 :: r) k = ((6, 0, 0) :: (whl r (k - 1)).1, (whl r (k - 1)).2.1, (whl r (k - 1)).2.2) := if_pos rfl
theorem dg_m0 (b : Nat) : 10 * (0 : Int32) + nI (b + 48) - 48 = nI b := by
  rw [show (10 : Int32) * 0 = nI 0 from rfl, nI_add, show (48 : Int32) = nI 48 from rfl, pk_sub (by omega)]
  congr 1
  omega
theorem dg_m (a b : Nat) : 10 * nI a + nI (b + 48) - 48 = nI (a * 10 + b) := by
  rw [show (10 : Int32) = nI 10 from rfl, pk_mul, nI_add, show (48 : Int32) = nI 48 from rfl, pk_sub (by omega)]
  congr 1
  omega
theorem sw97 (c : Int32) : (c.toInt < 97 ∨ 116 < c.toInt) ∨ ∃ q, 97 ≤ q ∧ q ≤ 116 ∧ c = nI q := by
  rcases Int.lt_or_le c.toInt 97 with h | h
  · exact Or.inl (Or.inl h)
  rcases Int.lt_or_le 116 c.toInt with h2 | h2
  · exact Or.inl (Or.inr h2)
  · exact Or.inr ⟨c.toInt.toNat, by omega, by omega, Int32.toInt_inj.mp (by rw [nI_toInt (by omega)]; omega)⟩
theorem letN_out {c : Int32} (h : c.toInt < 97 ∨ 116 < c.toInt) : letN c = 6 := by
  have g : ∀ n : Nat, 97 ≤ n → n ≤ 116 → ¬ nI n = c := fun n h1 h2 e => by
    rw [← e, nI_toInt (by omega)] at h
    omega
  unfold letN
  rw [if_neg (show ¬ (99 : Int32) = c from g 99 (by decide) (by decide)), if_neg (show ¬ (107 : Int32) = c from g 107 (by decide) (by decide)), if_neg (show ¬ (101 : Int32) = c from g 101 (by decide) (by decide)), if_neg (show ¬ (98 : Int32) = c from g 98 (by decide) (by decide)), if_neg (show ¬ (97 : Int32) = c from g 97 (by decide) (by decide)), if_neg (show ¬ (116 : Int32) = c from g 116 (by decide) (by decide))]
theorem q20 {q : Nat} (h : 97 ≤ q) (h2 : q ≤ 116) : q = 97 ∨ q = 98 ∨ q = 99 ∨ q = 100 ∨ q = 101 ∨ q = 102 ∨ q = 103 ∨ q = 104 ∨ q = 105 ∨ q = 106 ∨ q = 107 ∨ q = 108 ∨ q = 109 ∨ q = 110 ∨ q = 111 ∨ q = 112 ∨ q = 113 ∨ q = 114 ∨ q = 115 ∨ q = 116 := by omega
theorem sgn_in {c : Int32} (h : 60 ≤ c ∧ c ≤ 62) : sgnN c < 3 ∧ c - 60 = nI (sgnN c) := by
  obtain ⟨j, hj, rfl⟩ := rngI 62 (by omega) (Int32.le_trans (by decide) h.1) h.2
  have h1 : 60 ≤ j := (nI_leI (a := 60) (by decide) (by omega)).mp h.1
  rcases (show j = 60 ∨ j = 61 ∨ j = 62 by omega) with rfl | rfl | rfl <;> decide +kernel
theorem sgn_out {c : Int32} (h : ¬ (60 ≤ c ∧ c ≤ 62)) : sgnN c = 3 := by
  unfold sgnN
  rw [if_neg (fun e => h (by rw [← e]; decide)), if_neg (fun e => h (by rw [← e]; decide)), if_neg (fun e => h (by rw [← e]; decide))]
theorem encM_val {l s n : Nat} (h : l < 6) : 1000 * nI l + 100 * nI s + nI n = encM (l, s, n) := by
  unfold encM
  rw [if_pos h, show (1000 : Int32) = nI 1000 from rfl, show (100 : Int32) = nI 100 from rfl, pk_mul, pk_mul, nI_add, nI_add]
theorem letN_m1 : letN (-1) = 6 := by decide +kernel
theorem mop_enc {a : Int32} (h : a = 38 ∨ a = 124) : -a = encM (tkOf a) := by rcases h with e | e <;> rw [e] <;> rfl

set_option maxRecDepth 20000 in
set_option maxHeartbeats 1000000 in
theorem m_next (g : GG) (f : Nat) (T : List Nat) (p : Nat) (cs : List TK)  (S : SS) (L : LL) (hP : PrM f T S p cs) : Ci g 0 mX12_next [.ref 0] SHM S L (fun r S' L' => r = chr T (p) ∧ S' = S ∧ L' = L) := by
  obtain ⟨k1, k2, k3, k4, k5, k6, k7, k8, k9, k10⟩ := id hP
  have hpc : (nI (p)).toNatClampNeg = p := nI_clamp (by omega)
  refine ct_of (ls := [some (.ref 0)]) 0 (by decide +kernel) rfl rfl ?_
  refine rx_aload_n dX12_next_0 rfl ?_
  refine rx_getI dX12_next_1 flX12_50 (sM_0) rfl ?_
  refine rx_aload_n dX12_next_4 rfl ?_
  refine rx_getI dX12_next_5 flX12_47 (sM_0) rfl ?_
  rw [k4, k1]
  refine rx_icmp_ge 23 dX12_next_8 (by decide) (fun h8 => ?_) (fun h8 => ?_)
  · refine rx_iconst (-1) dX12_next_23 (by decide) ?_
    exact rx_iret dX12_next_24 rfl ⟨Nat.le_refl _, Nat.le_refl _⟩ ⟨rfl, _, rfl, ⟨(chr_ge ((nI_leI (by omega) (by omega)).mp h8)).symm, rfl, rfl⟩⟩
  · have hpl : p < T.length := Nat.lt_of_not_le fun q => h8 (nI_le q (by omega))
    obtain ⟨q, hq, ec⟩ := chr_lt hpl
    refine rx_aload_n dX12_next_11 rfl ?_
    refine rx_getR dX12_next_12 flX12_56 (sM_0) rfl ?_
    refine rx_aload_n dX12_next_15 rfl ?_
    refine rx_getI dX12_next_16 flX12_50 (sM_0) rfl ?_
    rw [k4]
    refine rx_iaload dX12_next_19 (sM_8) (vp_in_nI (by omega) (by omega)) ?_
    rw [hpc, k2 (p) q hq]
    refine rx_goto 24 dX12_next_20 (by decide) ?_
    exact rx_iret dX12_next_24 rfl ⟨Nat.le_refl _, Nat.le_refl _⟩ ⟨rfl, _, rfl, ⟨ec.symm, rfl, rfl⟩⟩
set_option maxRecDepth 20000 in
set_option maxHeartbeats 1000000 in
theorem m_second (g : GG) (f : Nat) (T : List Nat) (p : Nat) (cs : List TK)  (S : SS) (L : LL) (hP : PrM f T S p cs) : Ci g 0 mX12_second [.ref 0] SHM S L (fun r S' L' => r = chr T (p + 1) ∧ S' = S ∧ L' = L) := by
  obtain ⟨k1, k2, k3, k4, k5, k6, k7, k8, k9, k10⟩ := id hP
  have hpc : (nI (p + 1)).toNatClampNeg = p + 1 := nI_clamp (by omega)
  refine ct_of (ls := [some (.ref 0)]) 0 (by decide +kernel) rfl rfl ?_
  refine rx_aload_n dX12_second_0 rfl ?_
  refine rx_getI dX12_second_1 flX12_50 (sM_0) rfl ?_
  refine rx_iconst (1) dX12_second_4 (by decide) ?_
  refine rx_iadd dX12_second_5 ?_
  rw [k4, nI_1]
  refine rx_aload_n dX12_second_6 rfl ?_
  refine rx_getI dX12_second_7 flX12_47 (sM_0) rfl ?_
  rw [k1]
  refine rx_icmp_ge 27 dX12_second_10 (by decide) (fun h10 => ?_) (fun h10 => ?_)
  · refine rx_iconst (-1) dX12_second_27 (by decide) ?_
    exact rx_iret dX12_second_28 rfl ⟨Nat.le_refl _, Nat.le_refl _⟩ ⟨rfl, _, rfl, ⟨(chr_ge ((nI_leI (by omega) (by omega)).mp h10)).symm, rfl, rfl⟩⟩
  · have hpl : p + 1 < T.length := Nat.lt_of_not_le fun q => h10 (nI_le q (by omega))
    obtain ⟨q, hq, ec⟩ := chr_lt hpl
    refine rx_aload_n dX12_second_13 rfl ?_
    refine rx_getR dX12_second_14 flX12_56 (sM_0) rfl ?_
    refine rx_aload_n dX12_second_17 rfl ?_
    refine rx_getI dX12_second_18 flX12_50 (sM_0) rfl ?_
    refine rx_iconst (1) dX12_second_21 (by decide) ?_
    refine rx_iadd dX12_second_22 ?_
    rw [k4, nI_1]
    refine rx_iaload dX12_second_23 (sM_8) (vp_in_nI (by omega) (by omega)) ?_
    rw [hpc, k2 (p + 1) q hq]
    refine rx_goto 28 dX12_second_24 (by decide) ?_
    exact rx_iret dX12_second_28 rfl ⟨Nat.le_refl _, Nat.le_refl _⟩ ⟨rfl, _, rfl, ⟨ec.symm, rfl, rfl⟩⟩
set_option maxRecDepth 20000 in
set_option maxHeartbeats 1000000 in
theorem m_takes (g : GG) (f : Nat) (T : List Nat) (p : Nat) (cs : List TK) (c : Int32) (S : SS) (L : LL) (hP : PrM f T S p cs) : Ci g 1 mX12_takes [.ref 0, .int c] SHM S L (fun x S' L' => ((x = 0 ∨ x = 1) ∧ (¬ x = 0 → chr T p = c ∧ S' = upS S 0 13 (nI (p + 1))) ∧ (x = 0 → ¬ chr T p = c ∧ S' = S)) ∧ L' = L) := by
  obtain ⟨k1, k2, k3, k4, k5, k6, k7, k8, k9, k10⟩ := id hP
  refine ct_of (ls := [some (.ref 0), some (.int c)]) 0 (by decide +kernel) rfl rfl ?_
  refine rx_aload_n dX12_takes_0 rfl ?_
  refine rx_cVi_0 clX12_248 dX12_takes_1 (rcvo (sM_0) rfl) rfl (m_next g f T p cs S L hP) ?_
  refine pur3 ?_
  refine rx_iload_n dX12_takes_4 rfl ?_
  refine rx_icmp_eq 10 dX12_takes_5 (by decide) (fun h5 => ?_) (fun h5 => ?_)
  · refine rx_aload_n dX12_takes_10 rfl ?_
    refine rx_dup dX12_takes_11 rfl ?_
    refine rx_getI dX12_takes_12 flX12_50 (sM_0) rfl ?_
    rw [k4]
    refine rx_iconst (1) dX12_takes_15 (by decide) ?_
    refine rx_iadd dX12_takes_16 ?_
    rw [nI_1]
    refine rx_putI dX12_takes_17 flX12_50 (sM_0) rfl ?_
    refine rx_iconst (1) dX12_takes_20 (by decide) ?_
    exact rx_zret dX12_takes_21 rfl (by decide) ⟨Nat.le_refl _, Nat.le_refl _⟩ ⟨rfl, _, rfl, ⟨⟨Or.inr rfl, fun _ => ⟨h5, rfl⟩, fun q => absurd q (by decide)⟩, rfl⟩⟩
  · refine rx_iconst (0) dX12_takes_8 (by decide) ?_
    exact rx_zret dX12_takes_9 rfl (by decide) ⟨Nat.le_refl _, Nat.le_refl _⟩ ⟨rfl, _, rfl, ⟨⟨Or.inl rfl, fun q => absurd rfl q, fun _ => ⟨h5, rfl⟩⟩, rfl⟩⟩
set_option maxRecDepth 20000 in
set_option maxHeartbeats 1000000 in
theorem m_isDigit (g : GG) (f : Nat) (T : List Nat) (p : Nat) (cs : List TK)  (S : SS) (L : LL) (hP : PrM f T S p cs) : Ci g 1 mX12_isDigit [.ref 0] SHM S L (fun r S' L' => r = b2i (digI (chr T p)) ∧ S' = S ∧ L' = L) := by
  refine ct_of (ls := [some (.ref 0)]) 0 (by decide +kernel) rfl rfl ?_
  refine rx_aload_n dX12_isDigit_0 rfl ?_
  refine rx_aload_n dX12_isDigit_1 rfl ?_
  refine rx_cVi_0 clX12_248 dX12_isDigit_2 (rcvo (sM_0) rfl) rfl (m_next g f T p cs S L hP) ?_
  refine pur3 ?_
  refine rx_bipush (48) dX12_isDigit_5 (by decide) ?_
  refine rx_bipush (57) dX12_isDigit_7 (by decide) ?_
  refine rx_cVi_3 clX12_236 dX12_isDigit_9 (rcvo (sM_0) rfl) rfl (m_in g 0 _ _ _ S L) ?_
  refine pur3 ?_
  exact rx_zret dX12_isDigit_12 rfl (b2i_n _) ⟨Nat.le_refl _, Nat.le_refl _⟩ ⟨rfl, _, rfl, ⟨rfl, rfl, rfl⟩⟩
set_option maxRecDepth 20000 in
set_option maxHeartbeats 1000000 in
theorem m_takesNumber (g : GG) (f : Nat) (T : List Nat) (p : Nat) (cs : List TK)  (S : SS) (L : LL) (hP : PrM f T S p cs) : Ci g 2 mX12_takesNumber [.ref 0] SHM S L (fun x S' L' => ((x = 0 ∨ x = 1) ∧ (¬ x = 0 → ∃ n q, numP T p = some (n, q) ∧ n < 100 ∧ p < q ∧ q ≤ T.length ∧ PrM f T S' q cs ∧ S' 0 14 = nI n) ∧ (x = 0 → numP T p = none ∧ S' = S) ∧ Fr [] [13, 14] S S') ∧ L' = L) := by
  obtain ⟨k1, k2, k3, k4, k5, k6, k7, k8, k9, k10⟩ := id hP
  refine ct_of (ls := [some (.ref 0), none]) 1 (by decide +kernel) rfl rfl ?_
  refine rx_aload_n dX12_takesNumber_0 rfl ?_
  refine rx_cVi_0 clX12_254 dX12_takesNumber_1 (rcvo (sM_0) rfl) rfl (m_isDigit g f T p cs S L hP) ?_
  refine pur3 ?_
  refine rx_if_ne 9 dX12_takesNumber_4 (by decide) (fun h4 => ?_) (fun h4 => ?_)
  · have hd1 := b2i_ne h4
    obtain ⟨hp1, hv1, hn1, hw1⟩ := dg_val k9 hd1
    have hP1 : PrM f T (upS S 0 14 0) p cs := hP.f0 (by decide) (by decide) (by decide)
    refine rx_aload_n dX12_takesNumber_9 rfl ?_
    refine rx_iconst (0) dX12_takesNumber_10 (by decide) ?_
    refine rx_putI dX12_takesNumber_11 flX12_53 (sM_0) rfl ?_
    refine rx_iconst (0) dX12_takesNumber_14 (by decide) ?_
    refine rx_istore_1 rfl dX12_takesNumber_15 ?_
    refine rx_iload_n dX12_takesNumber_16 rfl ?_
    refine rx_iconst (2) dX12_takesNumber_17 (by decide) ?_
    refine rx_icmp_ge 63 dX12_takesNumber_18 (by decide) (fun h18 => absurd h18 (by decide)) (fun h18 => ?_)
    refine rx_aload_n dX12_takesNumber_21 rfl ?_
    refine rx_cVi_0 clX12_254 dX12_takesNumber_22 (rcvo (sM_0) rfl) rfl (m_isDigit g f T p cs (upS S 0 14 0) L hP1) ?_
    refine pur3 ?_
    refine rx_if_eq 63 dX12_takesNumber_25 (by decide) (fun h25 => absurd h25 h4) (fun h25 => ?_)
    refine rx_aload_n dX12_takesNumber_28 rfl ?_
    refine rx_bipush (10) dX12_takesNumber_29 (by decide) ?_
    refine rx_aload_n dX12_takesNumber_31 rfl ?_
    refine rx_getI dX12_takesNumber_32 flX12_53 (sM_0) rfl ?_
    rw [upS_at]
    refine rx_imul dX12_takesNumber_35 ?_
    refine rx_aload_n dX12_takesNumber_36 rfl ?_
    refine rx_cVi_0 clX12_248 dX12_takesNumber_37 (rcvo (sM_0) rfl) rfl (m_next g f T p cs (upS S 0 14 0) L hP1) ?_
    refine pur3 ?_
    refine rx_iadd dX12_takesNumber_40 ?_
    refine rx_bipush (48) dX12_takesNumber_41 (by decide) ?_
    refine rx_isub dX12_takesNumber_43 ?_
    rw [hw1, dg_m0]
    refine rx_putI dX12_takesNumber_44 flX12_53 (sM_0) rfl ?_
    refine rx_aload_n dX12_takesNumber_47 rfl ?_
    refine rx_dup dX12_takesNumber_48 rfl ?_
    refine rx_getI dX12_takesNumber_49 flX12_50 (sM_0) rfl ?_
    simp (disch := omega) only [upS_ne]
    rw [k4]
    refine rx_iconst (1) dX12_takesNumber_52 (by decide) ?_
    refine rx_iadd dX12_takesNumber_53 ?_
    rw [nI_1]
    refine rx_putI dX12_takesNumber_54 flX12_50 (sM_0) rfl ?_
    have hP2 : PrM f T (upS (upS (upS S 0 14 0) 0 14 (nI (dgN T p))) 0 13 (nI (p + 1))) (p + 1) cs := (hP1.f0 (by decide) (by decide) (by decide)).put (by omega) hp1
    refine rx_iinc_1 (1) rfl dX12_takesNumber_57 (by decide) ?_
    rw [show ((0 : Int32) + 1) = 1 from by decide]
    refine rx_goto 16 dX12_takesNumber_60 (by decide) ?_
    refine rx_iload_n dX12_takesNumber_16 rfl ?_
    refine rx_iconst (2) dX12_takesNumber_17 (by decide) ?_
    refine rx_icmp_ge 63 dX12_takesNumber_18 (by decide) (fun h18 => absurd h18 (by decide)) (fun h18 => ?_)
    refine rx_aload_n dX12_takesNumber_21 rfl ?_
    refine rx_cVi_0 clX12_254 dX12_takesNumber_22 (rcvo (sM_0) rfl) rfl (m_isDigit g f T (p + 1) cs (upS (upS (upS S 0 14 0) 0 14 (nI (dgN T p))) 0 13 (nI (p + 1))) L hP2) ?_
    refine pur3 ?_
    refine rx_if_eq 63 dX12_takesNumber_25 (by decide) (fun h25 => ?_) (fun h25 => ?_)
    · refine rx_iconst (1) dX12_takesNumber_63 (by decide) ?_
      exact rx_zret dX12_takesNumber_64 rfl (by decide) ⟨Nat.le_refl _, Nat.le_refl _⟩ ⟨rfl, _, rfl, ⟨⟨Or.inr rfl, fun _ => ⟨dgN T p, p + 1, by unfold numP; rw [if_pos hd1, if_neg (b2i_eq h25)], by omega, by omega, hp1, hP2, by rw [upS_ne _ _ _ _ (by decide), upS_at]⟩, fun q => absurd q (by decide), ((Fr.refl.up0 (by decide)).up0 (by decide)).up0 (by decide)⟩, rfl⟩⟩
    · have hd2 := b2i_ne h25
      obtain ⟨hp2, hv2, hn2, hw2⟩ := dg_val k9 hd2
      refine rx_aload_n dX12_takesNumber_28 rfl ?_
      refine rx_bipush (10) dX12_takesNumber_29 (by decide) ?_
      refine rx_aload_n dX12_takesNumber_31 rfl ?_
      refine rx_getI dX12_takesNumber_32 flX12_53 (sM_0) rfl ?_
      rw [upS_ne _ _ _ _ (by decide), upS_at]
      refine rx_imul dX12_takesNumber_35 ?_
      refine rx_aload_n dX12_takesNumber_36 rfl ?_
      refine rx_cVi_0 clX12_248 dX12_takesNumber_37 (rcvo (sM_0) rfl) rfl (m_next g f T (p + 1) cs (upS (upS (upS S 0 14 0) 0 14 (nI (dgN T p))) 0 13 (nI (p + 1))) L hP2) ?_
      refine pur3 ?_
      refine rx_iadd dX12_takesNumber_40 ?_
      refine rx_bipush (48) dX12_takesNumber_41 (by decide) ?_
      refine rx_isub dX12_takesNumber_43 ?_
      rw [hw2, dg_m]
      refine rx_putI dX12_takesNumber_44 flX12_53 (sM_0) rfl ?_
      refine rx_aload_n dX12_takesNumber_47 rfl ?_
      refine rx_dup dX12_takesNumber_48 rfl ?_
      refine rx_getI dX12_takesNumber_49 flX12_50 (sM_0) rfl ?_
      simp (disch := omega) only [upS_ne]
      rw [upS_at]
      refine rx_iconst (1) dX12_takesNumber_52 (by decide) ?_
      refine rx_iadd dX12_takesNumber_53 ?_
      rw [nI_1]
      refine rx_putI dX12_takesNumber_54 flX12_50 (sM_0) rfl ?_
      have hP3 : PrM f T (upS (upS (upS (upS (upS S 0 14 0) 0 14 (nI (dgN T p))) 0 13 (nI (p + 1))) 0 14 (nI (dgN T p * 10 + dgN T (p + 1)))) 0 13 (nI (p + 1 + 1))) (p + 1 + 1) cs := (hP2.f0 (by decide) (by decide) (by decide)).put (by omega) hp2
      refine rx_iinc_1 (1) rfl dX12_takesNumber_57 (by decide) ?_
      rw [show ((1 : Int32) + 1) = 2 from by decide]
      refine rx_goto 16 dX12_takesNumber_60 (by decide) ?_
      refine rx_iload_n dX12_takesNumber_16 rfl ?_
      refine rx_iconst (2) dX12_takesNumber_17 (by decide) ?_
      refine rx_icmp_ge 63 dX12_takesNumber_18 (by decide) (fun h18 => ?_) (fun h18 => absurd (by decide) h18)
      refine rx_iconst (1) dX12_takesNumber_63 (by decide) ?_
      exact rx_zret dX12_takesNumber_64 rfl (by decide) ⟨Nat.le_refl _, Nat.le_refl _⟩ ⟨rfl, _, rfl, ⟨⟨Or.inr rfl, fun _ => ⟨dgN T p * 10 + dgN T (p + 1), p + 1 + 1, by unfold numP; rw [if_pos hd1, if_pos hd2], by omega, by omega, hp2, hP3, by rw [upS_ne _ _ _ _ (by decide), upS_at]⟩, fun q => absurd q (by decide), (((((Fr.refl.up0 (by decide)).up0 (by decide)).up0 (by decide)).up0 (by decide)).up0 (by decide))⟩, rfl⟩⟩
  · refine rx_iconst (0) dX12_takesNumber_7 (by decide) ?_
    exact rx_zret dX12_takesNumber_8 rfl (by decide) ⟨Nat.le_refl _, Nat.le_refl _⟩ ⟨rfl, _, rfl, ⟨⟨Or.inl rfl, fun q => absurd rfl q, fun _ => ⟨by unfold numP; rw [if_neg (b2i_eq h4)], rfl⟩, Fr.refl⟩, rfl⟩⟩
set_option maxRecDepth 20000 in
set_option maxHeartbeats 1000000 in
theorem m_emits (g : GG) (f : Nat) (T : List Nat) (p : Nat) (cs : List TK) (t : TK) (S : SS) (L : LL) (hP : PrM f T S p cs) (hl : cs.length + 1 ≤ p) : Cv g 0 mX12_emits [.ref 0, .int (encM t)] SHM S L (fun S' L' => S' = upS (upS S 14 (100 * f + cs.length) (encM t)) 0 23 (nI (100 * f + cs.length + 1)) ∧ L' = L) := by
  obtain ⟨k1, k2, k3, k4, k5, k6, k7, k8, k9, k10⟩ := id hP
  have hxc : (nI (100 * f + cs.length)).toNatClampNeg = 100 * f + cs.length := nI_clamp (by omega)
  refine ct_of (ls := [some (.ref 0), some (.int (encM t))]) 0 (by decide +kernel) rfl rfl ?_
  refine rx_aload_n dX12_emits_0 rfl ?_
  refine rx_getR dX12_emits_1 flX12_74 (sM_0) rfl ?_
  refine rx_aload_n dX12_emits_4 rfl ?_
  refine rx_getI dX12_emits_5 flX12_80 (sM_0) rfl ?_
  rw [k6]
  refine rx_iload_n dX12_emits_8 rfl ?_
  refine rx_iastore dX12_emits_9 (sM_14) (vp_in_nI (by omega) (by omega)) ?_
  rw [hxc]
  refine rx_aload_n dX12_emits_10 rfl ?_
  refine rx_dup dX12_emits_11 rfl ?_
  refine rx_getI dX12_emits_12 flX12_80 (sM_0) rfl ?_
  rw [upS_off _ _ _ _ (by decide : (0 : Nat) ≠ 14), k6]
  refine rx_iconst (1) dX12_emits_15 (by decide) ?_
  refine rx_iadd dX12_emits_16 ?_
  rw [nI_1]
  refine rx_putI dX12_emits_17 flX12_80 (sM_0) rfl ?_
  exact rx_vret dX12_emits_20 rfl ⟨Nat.le_refl _, Nat.le_refl _⟩ ⟨rfl, rfl, ⟨rfl, rfl⟩⟩
set_option maxRecDepth 20000 in
set_option maxHeartbeats 1000000 in
theorem m_whole (g : GG) (f : Nat) (T : List Nat) (p : Nat) (cs : List TK) (w : List Int32) (k : Nat)  (S : SS) (L : LL) (hM : StM f T S p cs w k) : Cv g 1 mX12_whole [.ref 0] SHM S L (fun S' L' => (StM f T S' p (cs ++ (whl w k).1) (whl w k).2.1 (whl w k).2.2 ∧ QE f S S') ∧ L' = L) := by
  refine ct_of (ls := [some (.ref 0)]) 0 (by decide +kernel) rfl rfl ?_
  have loop : ∀ (w1 : List Int32) (k1 : Nat) (cs1 : List TK) (S1 : SS), StM f T S1 p cs1 w1 k1 → QE f S S1 → cs1 ++ (whl w1 k1).1 = cs ++ (whl w k).1 → (whl w1 k1).2.1 = (whl w k).2.1 → (whl w1 k1).2.2 = (whl w k).2.2 → Rx g 1 0 0 mX12_whole SHM.length (fun r sh' S' L' => sh' = SHM ∧ r = none ∧ ((StM f T S' p (cs ++ (whl w k).1) (whl w k).2.1 (whl w k).2.2 ∧ QE f S S') ∧ L' = L)) 0 0 0 [some (.ref 0)] [] SHM S1 L := by
    intro w1
    induction w1 with
    | nil =>
      intro k1 cs1 S1 hM hq hc1 hc2 hc3
      refine rx_aload_n dX12_whole_0 rfl ?_
      refine rx_getI dX12_whole_1 flX12_83 (sM_0) rfl ?_
      rw [hM.2.2.1]
      refine rx_if_le 52 dX12_whole_4 (by decide) (fun h4 => ?_) (fun h4 => absurd (nI_le (a := 0) (b := 0) (by omega) (by omega)) h4)
      exact rx_vret dX12_whole_52 rfl ⟨Nat.le_refl _, Nat.le_refl _⟩ ⟨rfl, rfl, ⟨⟨by have e1 := hM; rw [← hc1, ← hc2, ← hc3]; show StM f T S1 p (cs1 ++ []) [] k1; rw [List.append_nil]; exact e1, hq⟩, rfl⟩⟩
    | cons a r ih =>
      intro k1 cs1 S1 hM hq hc1 hc2 hc3
      have hl : cs1.length + (r.length + 1) ≤ p := hM.2.2.2.2.2.2
      have hp1 : p ≤ T.length := hM.1.2.2.2.2.1
      have hp2 : T.length ≤ 100 := hM.1.2.2.1
      have hrc : (nI r.length).toNatClampNeg = r.length := nI_clamp (by omega)
      have hk0 : a = 33 → 0 < k1 := fun e => by
        have := hM.2.2.2.2.1
        rw [e] at this
        have : k1 = 1 + cntW r := this
        omega
      refine rx_aload_n dX12_whole_0 rfl ?_
      refine rx_getI dX12_whole_1 flX12_83 (sM_0) rfl ?_
      rw [hM.2.2.1]
      refine rx_if_le 52 dX12_whole_4 (by decide) (fun h4 => absurd h4 (nI_nle (n := r.length + 1) (by omega) (by omega))) (fun h4 => ?_)
      refine rx_aload_n dX12_whole_7 rfl ?_
      refine rx_getR dX12_whole_8 flX12_77 (sM_0) rfl ?_
      refine rx_aload_n dX12_whole_11 rfl ?_
      refine rx_getI dX12_whole_12 flX12_83 (sM_0) rfl ?_
      rw [hM.2.2.1]
      refine rx_iconst (1) dX12_whole_15 (by decide) ?_
      refine rx_isub dX12_whole_16 ?_
      rw [show nI (a :: r).length - 1 = nI r.length from nI_pred r.length]
      refine rx_iaload dX12_whole_17 (sM_15) (vp_in_nI (by omega) (by omega)) ?_
      rw [hrc, hM.2.1.1]
      refine rx_bipush (33) dX12_whole_18 (by decide) ?_
      refine rx_icmp_ne 52 dX12_whole_20 (by decide) (fun h20 => ?_) (fun h20 => ?_)
      · have hwn := whl_no (r := r) (k := k1) h20
        exact rx_vret dX12_whole_52 rfl ⟨Nat.le_refl _, Nat.le_refl _⟩ ⟨rfl, rfl, ⟨⟨by rw [← hc1, ← hc2, ← hc3, hwn]; show StM f T S1 p (cs1 ++ []) (a :: r) k1; rw [List.append_nil]; exact hM, hq⟩, rfl⟩⟩
      · subst h20
        refine rx_aload_n dX12_whole_23 rfl ?_
        refine rx_bipush (-33) dX12_whole_24 (by decide) ?_
        rw [show (-33 : Int32) = encM (6, 0, 0) from rfl]
        refine rx_cVv_1 clX12_258 dX12_whole_26 (rcvo (sM_0) rfl) rfl (m_emits g f T p cs1 (6, 0, 0) S1 L hM.1 (by omega)) ?_
        refine pur2 ?_
        refine rx_aload_n dX12_whole_29 rfl ?_
        refine rx_dup dX12_whole_30 rfl ?_
        refine rx_getI dX12_whole_31 flX12_83 (sM_0) rfl ?_
        simp (disch := omega) only [upS_ne]
        rw [hM.2.2.1]
        refine rx_iconst (1) dX12_whole_34 (by decide) ?_
        refine rx_isub dX12_whole_35 ?_
        rw [show nI (33 :: r).length - 1 = nI r.length from nI_pred r.length]
        refine rx_putI dX12_whole_36 flX12_83 (sM_0) rfl ?_
        refine rx_aload_n dX12_whole_39 rfl ?_
        refine rx_dup dX12_whole_40 rfl ?_
        refine rx_getI dX12_whole_41 flX12_86 (sM_0) rfl ?_
        simp (disch := omega) only [upS_ne]
        rw [hM.2.2.2.1]
        refine rx_iconst (1) dX12_whole_44 (by decide) ?_
        refine rx_isub dX12_whole_45 ?_
        rw [nI_dec (hk0 rfl)]
        refine rx_putI dX12_whole_46 flX12_86 (sM_0) rfl ?_
        refine rx_goto 0 dX12_whole_49 (by decide) ?_
        exact ih (k1 - 1) (cs1 ++ [(6, 0, 0)]) _ hM.pop33 ((((hq.up14 (by omega)).up0 (by decide)).up0 (by decide)).up0 (by decide)) (by rw [app1, ← hc1, whl_yes]) (by rw [← hc2, whl_yes]) (by rw [← hc3, whl_yes])
  exact loop w k cs S hM QE.refl rfl rfl rfl
set_option maxRecDepth 20000 in
set_option maxHeartbeats 1000000 in
theorem m_settle (g : GG) (f : Nat) (T : List Nat) (p : Nat) (cs : List TK) (w : List Int32) (k : Nat) (s : Int32) (S : SS) (L : LL) (hM : StM f T S p cs w k) : Cv g 1 mX12_settle [.ref 0, .int s] SHM S L (fun S' L' => (StM f T S' p (cs ++ (setl s w).1) (setl s w).2 k ∧ QE f S S') ∧ L' = L) := by
  refine ct_of (ls := [some (.ref 0), some (.int s)]) 0 (by decide +kernel) rfl rfl ?_
  have loop : ∀ (w1 : List Int32) (cs1 : List TK) (S1 : SS), StM f T S1 p cs1 w1 k → QE f S S1 → cs1 ++ (setl s w1).1 = cs ++ (setl s w).1 → (setl s w1).2 = (setl s w).2 → Rx g 1 0 0 mX12_settle SHM.length (fun r sh' S' L' => sh' = SHM ∧ r = none ∧ ((StM f T S' p (cs ++ (setl s w).1) (setl s w).2 k ∧ QE f S S') ∧ L' = L)) 0 0 0 [some (.ref 0), some (.int s)] [] SHM S1 L := by
    intro w1
    induction w1 with
    | nil =>
      intro cs1 S1 hM hq hc1 hc2
      refine rx_aload_n dX12_settle_0 rfl ?_
      refine rx_getI dX12_settle_1 flX12_83 (sM_0) rfl ?_
      rw [hM.2.2.1]
      refine rx_if_le 72 dX12_settle_4 (by decide) (fun h4 => ?_) (fun h4 => absurd (nI_le (a := 0) (b := 0) (by omega) (by omega)) h4)
      exact rx_vret dX12_settle_72 rfl ⟨Nat.le_refl _, Nat.le_refl _⟩ ⟨rfl, rfl, ⟨⟨by rw [← hc1, ← hc2]; show StM f T S1 p (cs1 ++ []) [] k; rw [List.append_nil]; exact hM, hq⟩, rfl⟩⟩
    | cons a r ih =>
      intro cs1 S1 hM hq hc1 hc2
      have hl : cs1.length + (r.length + 1) ≤ p := hM.2.2.2.2.2.2
      have hp1 : p ≤ T.length := hM.1.2.2.2.2.1
      have hp2 : T.length ≤ 100 := hM.1.2.2.1
      have hrc : (nI r.length).toNatClampNeg = r.length := nI_clamp (by omega)
      refine rx_aload_n dX12_settle_0 rfl ?_
      refine rx_getI dX12_settle_1 flX12_83 (sM_0) rfl ?_
      rw [hM.2.2.1]
      refine rx_if_le 72 dX12_settle_4 (by decide) (fun h4 => absurd h4 (nI_nle (n := r.length + 1) (by omega) (by omega))) (fun h4 => ?_)
      refine rx_aload_n dX12_settle_7 rfl ?_
      refine rx_getR dX12_settle_8 flX12_77 (sM_0) rfl ?_
      refine rx_aload_n dX12_settle_11 rfl ?_
      refine rx_getI dX12_settle_12 flX12_83 (sM_0) rfl ?_
      rw [hM.2.2.1]
      refine rx_iconst (1) dX12_settle_15 (by decide) ?_
      refine rx_isub dX12_settle_16 ?_
      rw [show nI (a :: r).length - 1 = nI r.length from nI_pred r.length]
      refine rx_iaload dX12_settle_17 (sM_15) (vp_in_nI (by omega) (by omega)) ?_
      rw [hrc, hM.2.1.1]
      refine rx_bipush (38) dX12_settle_18 (by decide) ?_
      refine rx_icmp_eq 45 dX12_settle_20 (by decide) (fun h20 => ?_) (fun h20 => ?_)
      · have hop : a = 38 ∨ (a = 124 ∧ ¬ s = 38) := Or.inl h20
        have ha : a = 38 ∨ a = 124 := Or.inl h20
        refine rx_aload_n dX12_settle_45 rfl ?_
        refine rx_dup dX12_settle_46 rfl ?_
        refine rx_getI dX12_settle_47 flX12_83 (sM_0) rfl ?_
        rw [hM.2.2.1]
        refine rx_iconst (1) dX12_settle_50 (by decide) ?_
        refine rx_isub dX12_settle_51 ?_
        rw [show nI (a :: r).length - 1 = nI r.length from nI_pred r.length]
        refine rx_putI dX12_settle_52 flX12_83 (sM_0) rfl ?_
        refine rx_aload_n dX12_settle_55 rfl ?_
        refine rx_aload_n dX12_settle_56 rfl ?_
        refine rx_getR dX12_settle_57 flX12_77 (sM_0) rfl ?_
        refine rx_aload_n dX12_settle_60 rfl ?_
        refine rx_getI dX12_settle_61 flX12_83 (sM_0) rfl ?_
        rw [upS_at]
        refine rx_iaload dX12_settle_64 (sM_15) (vp_in_nI (by omega) (by omega)) ?_
        rw [hrc, upS_off _ _ _ _ (by decide : (15 : Nat) ≠ 0), hM.2.1.1]
        refine rx_ineg dX12_settle_65 ?_
        rw [mop_enc ha]
        refine rx_cVv_1 clX12_258 dX12_settle_66 (rcvo (sM_0) rfl) rfl (m_emits g f T p cs1 (tkOf a) (upS S1 0 24 (nI r.length)) L (hM.1.f0 (by decide) (by decide) (by decide)) (by omega)) ?_
        refine pur2 ?_
        refine rx_goto 0 dX12_settle_69 (by decide) ?_
        exact ih (cs1 ++ [tkOf a]) _ (hM.popop ha) (((hq.up0 (by decide)).up14 (by omega)).up0 (by decide)) (by rw [app1, ← hc1, setl_yes hop]) (by rw [← hc2, setl_yes hop])
      · refine rx_aload_n dX12_settle_23 rfl ?_
        refine rx_getR dX12_settle_24 flX12_77 (sM_0) rfl ?_
        refine rx_aload_n dX12_settle_27 rfl ?_
        refine rx_getI dX12_settle_28 flX12_83 (sM_0) rfl ?_
        rw [hM.2.2.1]
        refine rx_iconst (1) dX12_settle_31 (by decide) ?_
        refine rx_isub dX12_settle_32 ?_
        rw [show nI (a :: r).length - 1 = nI r.length from nI_pred r.length]
        refine rx_iaload dX12_settle_33 (sM_15) (vp_in_nI (by omega) (by omega)) ?_
        rw [hrc, hM.2.1.1]
        refine rx_bipush (124) dX12_settle_34 (by decide) ?_
        refine rx_icmp_ne 72 dX12_settle_36 (by decide) (fun h36 => ?_) (fun h36 => ?_)
        · exact rx_vret dX12_settle_72 rfl ⟨Nat.le_refl _, Nat.le_refl _⟩ ⟨rfl, rfl, ⟨⟨by rw [← hc1, ← hc2, setl_no (fun q => q.elim h20 (fun q => h36 q.1))]; show StM f T S1 p (cs1 ++ []) (a :: r) k; rw [List.append_nil]; exact hM, hq⟩, rfl⟩⟩
        · refine rx_iload_n dX12_settle_39 rfl ?_
          refine rx_bipush (38) dX12_settle_40 (by decide) ?_
          refine rx_icmp_eq 72 dX12_settle_42 (by decide) (fun h42 => ?_) (fun h42 => ?_)
          · exact rx_vret dX12_settle_72 rfl ⟨Nat.le_refl _, Nat.le_refl _⟩ ⟨rfl, rfl, ⟨⟨by rw [← hc1, ← hc2, setl_no (fun q => q.elim h20 (fun q => q.2 h42))]; show StM f T S1 p (cs1 ++ []) (a :: r) k; rw [List.append_nil]; exact hM, hq⟩, rfl⟩⟩
          · have hop : a = 38 ∨ (a = 124 ∧ ¬ s = 38) := Or.inr ⟨h36, h42⟩
            have ha : a = 38 ∨ a = 124 := Or.inr h36
            refine rx_aload_n dX12_settle_45 rfl ?_
            refine rx_dup dX12_settle_46 rfl ?_
            refine rx_getI dX12_settle_47 flX12_83 (sM_0) rfl ?_
            rw [hM.2.2.1]
            refine rx_iconst (1) dX12_settle_50 (by decide) ?_
            refine rx_isub dX12_settle_51 ?_
            rw [show nI (a :: r).length - 1 = nI r.length from nI_pred r.length]
            refine rx_putI dX12_settle_52 flX12_83 (sM_0) rfl ?_
            refine rx_aload_n dX12_settle_55 rfl ?_
            refine rx_aload_n dX12_settle_56 rfl ?_
            refine rx_getR dX12_settle_57 flX12_77 (sM_0) rfl ?_
            refine rx_aload_n dX12_settle_60 rfl ?_
            refine rx_getI dX12_settle_61 flX12_83 (sM_0) rfl ?_
            rw [upS_at]
            refine rx_iaload dX12_settle_64 (sM_15) (vp_in_nI (by omega) (by omega)) ?_
            rw [hrc, upS_off _ _ _ _ (by decide : (15 : Nat) ≠ 0), hM.2.1.1]
            refine rx_ineg dX12_settle_65 ?_
            rw [mop_enc ha]
            refine rx_cVv_1 clX12_258 dX12_settle_66 (rcvo (sM_0) rfl) rfl (m_emits g f T p cs1 (tkOf a) (upS S1 0 24 (nI r.length)) L (hM.1.f0 (by decide) (by decide) (by decide)) (by omega)) ?_
            refine pur2 ?_
            refine rx_goto 0 dX12_settle_69 (by decide) ?_
            exact ih (cs1 ++ [tkOf a]) _ (hM.popop ha) (((hq.up0 (by decide)).up14 (by omega)).up0 (by decide)) (by rw [app1, ← hc1, setl_yes hop]) (by rw [← hc2, setl_yes hop])
  exact loop w cs S hM QE.refl rfl rfl
set_option maxRecDepth 20000 in
set_option maxHeartbeats 1000000 in
theorem m_place (g : GG) (c : Int32) (S : SS) (L : LL) : Ci g 0 mX12_place [.ref 0, .int c] SHM S L (fun r S' L' => r = (if letN c = 6 then -1 else nI (letN c)) ∧ S' = S ∧ L' = L) := by
  refine ct_of (ls := [some (.ref 0), some (.int c)]) 0 (by decide +kernel) rfl rfl ?_
  refine rx_iload_n dX12_place_0 rfl ?_
  rcases sw97 c with hc | ⟨q, hq1, hq2, rfl⟩
  · refine rx_tableOut 108 dX12_place_1 hc (by decide) ?_
    refine rx_iconst (-1) dX12_place_108 (by decide) ?_
    exact rx_iret dX12_place_109 rfl ⟨Nat.le_refl _, Nat.le_refl _⟩ ⟨rfl, _, rfl, ⟨by first | exact (if_pos (letN_out hc)).symm | decide +kernel, rfl, rfl⟩⟩
  · rcases q20 hq1 hq2 with rfl | rfl | rfl | rfl | rfl | rfl | rfl | rfl | rfl | rfl | rfl | rfl | rfl | rfl | rfl | rfl | rfl | rfl | rfl | rfl
    · refine rx_tableIn 104 dX12_place_1 (by decide) (by decide) (by rfl) (by decide) ?_
      refine rx_iconst (4) dX12_place_104 (by decide) ?_
      exact rx_iret dX12_place_105 rfl ⟨Nat.le_refl _, Nat.le_refl _⟩ ⟨rfl, _, rfl, ⟨by first | exact (if_pos (letN_out hc)).symm | decide +kernel, rfl, rfl⟩⟩
    · refine rx_tableIn 102 dX12_place_1 (by decide) (by decide) (by rfl) (by decide) ?_
      refine rx_iconst (3) dX12_place_102 (by decide) ?_
      exact rx_iret dX12_place_103 rfl ⟨Nat.le_refl _, Nat.le_refl _⟩ ⟨rfl, _, rfl, ⟨by first | exact (if_pos (letN_out hc)).symm | decide +kernel, rfl, rfl⟩⟩
    · refine rx_tableIn 96 dX12_place_1 (by decide) (by decide) (by rfl) (by decide) ?_
      refine rx_iconst (0) dX12_place_96 (by decide) ?_
      exact rx_iret dX12_place_97 rfl ⟨Nat.le_refl _, Nat.le_refl _⟩ ⟨rfl, _, rfl, ⟨by first | exact (if_pos (letN_out hc)).symm | decide +kernel, rfl, rfl⟩⟩
    · refine rx_tableIn 108 dX12_place_1 (by decide) (by decide) (by rfl) (by decide) ?_
      refine rx_iconst (-1) dX12_place_108 (by decide) ?_
      exact rx_iret dX12_place_109 rfl ⟨Nat.le_refl _, Nat.le_refl _⟩ ⟨rfl, _, rfl, ⟨by first | exact (if_pos (letN_out hc)).symm | decide +kernel, rfl, rfl⟩⟩
    · refine rx_tableIn 100 dX12_place_1 (by decide) (by decide) (by rfl) (by decide) ?_
      refine rx_iconst (2) dX12_place_100 (by decide) ?_
      exact rx_iret dX12_place_101 rfl ⟨Nat.le_refl _, Nat.le_refl _⟩ ⟨rfl, _, rfl, ⟨by first | exact (if_pos (letN_out hc)).symm | decide +kernel, rfl, rfl⟩⟩
    · refine rx_tableIn 108 dX12_place_1 (by decide) (by decide) (by rfl) (by decide) ?_
      refine rx_iconst (-1) dX12_place_108 (by decide) ?_
      exact rx_iret dX12_place_109 rfl ⟨Nat.le_refl _, Nat.le_refl _⟩ ⟨rfl, _, rfl, ⟨by first | exact (if_pos (letN_out hc)).symm | decide +kernel, rfl, rfl⟩⟩
    · refine rx_tableIn 108 dX12_place_1 (by decide) (by decide) (by rfl) (by decide) ?_
      refine rx_iconst (-1) dX12_place_108 (by decide) ?_
      exact rx_iret dX12_place_109 rfl ⟨Nat.le_refl _, Nat.le_refl _⟩ ⟨rfl, _, rfl, ⟨by first | exact (if_pos (letN_out hc)).symm | decide +kernel, rfl, rfl⟩⟩
    · refine rx_tableIn 108 dX12_place_1 (by decide) (by decide) (by rfl) (by decide) ?_
      refine rx_iconst (-1) dX12_place_108 (by decide) ?_
      exact rx_iret dX12_place_109 rfl ⟨Nat.le_refl _, Nat.le_refl _⟩ ⟨rfl, _, rfl, ⟨by first | exact (if_pos (letN_out hc)).symm | decide +kernel, rfl, rfl⟩⟩
    · refine rx_tableIn 108 dX12_place_1 (by decide) (by decide) (by rfl) (by decide) ?_
      refine rx_iconst (-1) dX12_place_108 (by decide) ?_
      exact rx_iret dX12_place_109 rfl ⟨Nat.le_refl _, Nat.le_refl _⟩ ⟨rfl, _, rfl, ⟨by first | exact (if_pos (letN_out hc)).symm | decide +kernel, rfl, rfl⟩⟩
    · refine rx_tableIn 108 dX12_place_1 (by decide) (by decide) (by rfl) (by decide) ?_
      refine rx_iconst (-1) dX12_place_108 (by decide) ?_
      exact rx_iret dX12_place_109 rfl ⟨Nat.le_refl _, Nat.le_refl _⟩ ⟨rfl, _, rfl, ⟨by first | exact (if_pos (letN_out hc)).symm | decide +kernel, rfl, rfl⟩⟩
    · refine rx_tableIn 98 dX12_place_1 (by decide) (by decide) (by rfl) (by decide) ?_
      refine rx_iconst (1) dX12_place_98 (by decide) ?_
      exact rx_iret dX12_place_99 rfl ⟨Nat.le_refl _, Nat.le_refl _⟩ ⟨rfl, _, rfl, ⟨by first | exact (if_pos (letN_out hc)).symm | decide +kernel, rfl, rfl⟩⟩
    · refine rx_tableIn 108 dX12_place_1 (by decide) (by decide) (by rfl) (by decide) ?_
      refine rx_iconst (-1) dX12_place_108 (by decide) ?_
      exact rx_iret dX12_place_109 rfl ⟨Nat.le_refl _, Nat.le_refl _⟩ ⟨rfl, _, rfl, ⟨by first | exact (if_pos (letN_out hc)).symm | decide +kernel, rfl, rfl⟩⟩
    · refine rx_tableIn 108 dX12_place_1 (by decide) (by decide) (by rfl) (by decide) ?_
      refine rx_iconst (-1) dX12_place_108 (by decide) ?_
      exact rx_iret dX12_place_109 rfl ⟨Nat.le_refl _, Nat.le_refl _⟩ ⟨rfl, _, rfl, ⟨by first | exact (if_pos (letN_out hc)).symm | decide +kernel, rfl, rfl⟩⟩
    · refine rx_tableIn 108 dX12_place_1 (by decide) (by decide) (by rfl) (by decide) ?_
      refine rx_iconst (-1) dX12_place_108 (by decide) ?_
      exact rx_iret dX12_place_109 rfl ⟨Nat.le_refl _, Nat.le_refl _⟩ ⟨rfl, _, rfl, ⟨by first | exact (if_pos (letN_out hc)).symm | decide +kernel, rfl, rfl⟩⟩
    · refine rx_tableIn 108 dX12_place_1 (by decide) (by decide) (by rfl) (by decide) ?_
      refine rx_iconst (-1) dX12_place_108 (by decide) ?_
      exact rx_iret dX12_place_109 rfl ⟨Nat.le_refl _, Nat.le_refl _⟩ ⟨rfl, _, rfl, ⟨by first | exact (if_pos (letN_out hc)).symm | decide +kernel, rfl, rfl⟩⟩
    · refine rx_tableIn 108 dX12_place_1 (by decide) (by decide) (by rfl) (by decide) ?_
      refine rx_iconst (-1) dX12_place_108 (by decide) ?_
      exact rx_iret dX12_place_109 rfl ⟨Nat.le_refl _, Nat.le_refl _⟩ ⟨rfl, _, rfl, ⟨by first | exact (if_pos (letN_out hc)).symm | decide +kernel, rfl, rfl⟩⟩
    · refine rx_tableIn 108 dX12_place_1 (by decide) (by decide) (by rfl) (by decide) ?_
      refine rx_iconst (-1) dX12_place_108 (by decide) ?_
      exact rx_iret dX12_place_109 rfl ⟨Nat.le_refl _, Nat.le_refl _⟩ ⟨rfl, _, rfl, ⟨by first | exact (if_pos (letN_out hc)).symm | decide +kernel, rfl, rfl⟩⟩
    · refine rx_tableIn 108 dX12_place_1 (by decide) (by decide) (by rfl) (by decide) ?_
      refine rx_iconst (-1) dX12_place_108 (by decide) ?_
      exact rx_iret dX12_place_109 rfl ⟨Nat.le_refl _, Nat.le_refl _⟩ ⟨rfl, _, rfl, ⟨by first | exact (if_pos (letN_out hc)).symm | decide +kernel, rfl, rfl⟩⟩
    · refine rx_tableIn 108 dX12_place_1 (by decide) (by decide) (by rfl) (by decide) ?_
      refine rx_iconst (-1) dX12_place_108 (by decide) ?_
      exact rx_iret dX12_place_109 rfl ⟨Nat.le_refl _, Nat.le_refl _⟩ ⟨rfl, _, rfl, ⟨by first | exact (if_pos (letN_out hc)).symm | decide +kernel, rfl, rfl⟩⟩
    · refine rx_tableIn 106 dX12_place_1 (by decide) (by decide) (by rfl) (by decide) ?_
      refine rx_iconst (5) dX12_place_106 (by decide) ?_
      exact rx_iret dX12_place_107 rfl ⟨Nat.le_refl _, Nat.le_refl _⟩ ⟨rfl, _, rfl, ⟨by first | exact (if_pos (letN_out hc)).symm | decide +kernel, rfl, rfl⟩⟩
set_option maxRecDepth 20000 in
set_option maxHeartbeats 1000000 in
theorem m_takesTest (g : GG) (f : Nat) (T : List Nat) (p : Nat) (cs : List TK) (w : List Int32) (k : Nat)  (S : SS) (L : LL) (hM : StM f T S p cs w k) : Ci g 3 mX12_takesTest [.ref 0] SHM S L (fun x S' L' => ((x = 0 ∨ x = 1) ∧ (¬ x = 0 → ∃ t q, tstQ T p = (some t, q) ∧ p < q ∧ StM f T S' q (cs ++ t :: (whl w k).1) (whl w k).2.1 (whl w k).2.2) ∧ (x = 0 → ∃ q, tstQ T p = (none, q) ∧ S' 0 13 = nI q) ∧ QE f S S') ∧ L' = L) := by
  have hP := hM.1
  obtain ⟨k1, k2, k3, k4, k5, k6, k7, k8, k9, k10⟩ := id hP
  refine ct_of (ls := [some (.ref 0), none, none]) 2 (by decide +kernel) rfl rfl ?_
  refine rx_aload_n dX12_takesTest_0 rfl ?_
  refine rx_aload_n dX12_takesTest_1 rfl ?_
  refine rx_cVi_0 clX12_248 dX12_takesTest_2 (rcvo (sM_0) rfl) rfl (m_next g f T p cs S L hP) ?_
  refine pur3 ?_
  refine rx_cVi_1 clX12_262 dX12_takesTest_5 (rcvo (sM_0) rfl) rfl (m_place g (chr T p) S L) ?_
  refine pur3 ?_
  refine rx_istore_1 rfl dX12_takesTest_8 ?_
  refine rx_iload_n dX12_takesTest_9 rfl ?_
  refine rx_if_ge 15 dX12_takesTest_10 (by decide) (fun h10 => ?_) (fun h10 => ?_)
  · have h6 : ¬ letN (chr T p) = 6 := fun e => absurd h10 (by rw [if_pos e]; decide)
    have hpl : p < T.length := Nat.lt_of_not_le fun q => h6 (by rw [chr_ge q]; exact letN_m1)
    have hl6 : letN (chr T p) < 6 := by have := letN_le (chr T p); omega
    have hP1 := hP.put (p' := p + 1) (by omega) hpl
    rw [if_neg h6]
    refine rx_aload_n dX12_takesTest_15 rfl ?_
    refine rx_dup dX12_takesTest_16 rfl ?_
    refine rx_getI dX12_takesTest_17 flX12_50 (sM_0) rfl ?_
    rw [k4]
    refine rx_iconst (1) dX12_takesTest_20 (by decide) ?_
    refine rx_iadd dX12_takesTest_21 ?_
    rw [nI_1]
    refine rx_putI dX12_takesTest_22 flX12_50 (sM_0) rfl ?_
    refine rx_aload_n dX12_takesTest_25 rfl ?_
    refine rx_cVi_0 clX12_248 dX12_takesTest_26 (rcvo (sM_0) rfl) rfl (m_next g f T (p + 1) cs (upS S 0 13 (nI (p + 1))) L hP1) ?_
    refine pur3 ?_
    refine rx_istore_2 rfl dX12_takesTest_29 ?_
    refine rx_aload_n dX12_takesTest_30 rfl ?_
    refine rx_iload_n dX12_takesTest_31 rfl ?_
    refine rx_bipush (60) dX12_takesTest_32 (by decide) ?_
    refine rx_bipush (62) dX12_takesTest_34 (by decide) ?_
    refine rx_cVi_3 clX12_236 dX12_takesTest_36 (rcvo (sM_0) rfl) rfl (m_in g 0 _ _ _ _ L) ?_
    refine pur3 ?_
    refine rx_if_ne 44 dX12_takesTest_39 (by decide) (fun h39 => ?_) (fun h39 => ?_)
    · obtain ⟨hs3, hsv⟩ := sgn_in (b2i_ne h39)
      have g2 : ¬ sgnN (chr T (p + 1)) = 3 := by omega
      have hpl2 : p + 1 < T.length := chr_in (c := chr T (p + 1)) rfl (fun e => g2 (by rw [e]; decide +kernel))
      have hP2 := hP1.put (p' := p + 1 + 1) (by omega) hpl2
      refine rx_aload_n dX12_takesTest_44 rfl ?_
      refine rx_dup dX12_takesTest_45 rfl ?_
      refine rx_getI dX12_takesTest_46 flX12_50 (sM_0) rfl ?_
      rw [upS_at]
      refine rx_iconst (1) dX12_takesTest_49 (by decide) ?_
      refine rx_iadd dX12_takesTest_50 ?_
      rw [nI_1]
      refine rx_putI dX12_takesTest_51 flX12_50 (sM_0) rfl ?_
      refine rx_aload_n dX12_takesTest_54 rfl ?_
      refine rx_cVi_0 clX12_266 dX12_takesTest_55 (rcvo (sM_0) rfl) rfl (m_takesNumber g f T (p + 1 + 1) cs _ L hP2) ?_
      rintro x3 S3 L3 ⟨⟨hx3, hy3, hn3, hF3⟩, hL3⟩
      rw [hL3]
      have hq3 : QE f S S3 := (((QE.refl.up0 (by decide)).up0 (by decide)).trans (QE.of hF3))
      refine rx_if_ne 63 dX12_takesTest_58 (by decide) (fun h58 => ?_) (fun h58 => ?_)
      · obtain ⟨n, q, hnq, hn1, hpq, hqT, hP3, e14⟩ := hy3 h58
        have ht : tstQ T p = (some (letN (chr T p), sgnN (chr T (p + 1)), n), q) := by unfold tstQ; rw [if_neg h6, if_neg g2, show numP T (p + 2) = some (n, q) from hnq]
        refine rx_aload_n dX12_takesTest_63 rfl ?_
        refine rx_sipush (1000) dX12_takesTest_64 (by decide) ?_
        refine rx_iload_n dX12_takesTest_67 rfl ?_
        refine rx_imul dX12_takesTest_68 ?_
        refine rx_bipush (100) dX12_takesTest_69 (by decide) ?_
        refine rx_iload_n dX12_takesTest_71 rfl ?_
        refine rx_bipush (60) dX12_takesTest_72 (by decide) ?_
        refine rx_isub dX12_takesTest_74 ?_
        rw [hsv]
        refine rx_imul dX12_takesTest_75 ?_
        refine rx_iadd dX12_takesTest_76 ?_
        refine rx_aload_n dX12_takesTest_77 rfl ?_
        refine rx_getI dX12_takesTest_78 flX12_53 (sM_0) rfl ?_
        rw [e14]
        refine rx_iadd dX12_takesTest_81 ?_
        rw [encM_val hl6]
        refine rx_cVv_1 clX12_258 dX12_takesTest_82 (rcvo (sM_0) rfl) rfl (m_emits g f T q cs (letN (chr T p), sgnN (chr T (p + 1)), n) S3 L hP3 (by omega)) ?_
        refine pur2 ?_
        have hM4 : StM f T (upS (upS S3 14 (100 * f + cs.length) (encM (letN (chr T p), sgnN (chr T (p + 1)), n))) 0 23 (nI (100 * f + cs.length + 1))) q (cs ++ [(letN (chr T p), sgnN (chr T (p + 1)), n)]) w k := by
          obtain ⟨-, m2, m3, m4, m5, m6, m7⟩ := hM
          have o15 : S3 15 = S 15 := (hF3.1 15 (by decide) (by simp)).trans (by simp (disch := omega) only [upS_off])
          have o24 : S3 0 24 = S 0 24 := (hF3.2 24 (by decide)).trans (by simp (disch := omega) only [upS_ne])
          have o25 : S3 0 25 = S 0 25 := (hF3.2 25 (by decide)).trans (by simp (disch := omega) only [upS_ne])
          exact ⟨hP3.emit _ (by omega), m2.same (by simp (disch := omega) only [upS_off]; exact o15), by simp (disch := omega) only [upS_ne]; rw [o24]; exact m3, by simp (disch := omega) only [upS_ne]; rw [o25]; exact m4, m5, m6, by rw [List.length_append]; show cs.length + 1 + w.length ≤ q; omega⟩
        refine rx_aload_n dX12_takesTest_85 rfl ?_
        refine rx_cVv_0 clX12_269 dX12_takesTest_86 (rcvo (sM_0) rfl) rfl (m_whole g f T q _ w k _ L hM4) ?_
        rintro S5 L5 ⟨⟨hM5, hq5⟩, hL5⟩
        rw [hL5]
        rw [app1] at hM5
        refine rx_iconst (1) dX12_takesTest_89 (by decide) ?_
        exact rx_zret dX12_takesTest_90 rfl (by decide) ⟨Nat.le_refl _, Nat.le_refl _⟩ ⟨rfl, _, rfl, ⟨⟨Or.inr rfl, fun _ => ⟨_, q, ht, by omega, hM5⟩, fun q => absurd q (by decide), ((hq3.up14 (by omega)).up0 (by decide)).trans hq5⟩, rfl⟩⟩
      · refine rx_iconst (0) dX12_takesTest_61 (by decide) ?_
        exact rx_zret dX12_takesTest_62 rfl (by decide) ⟨Nat.le_refl _, Nat.le_refl _⟩ ⟨rfl, _, rfl, ⟨⟨Or.inl rfl, fun q => absurd rfl q, fun _ => ⟨p + 1 + 1, by unfold tstQ; rw [if_neg h6, if_neg g2, show numP T (p + 2) = none from (hn3 h58).1], by rw [(hn3 h58).2]; exact upS_at _ _ _ _⟩, hq3⟩, rfl⟩⟩
    · refine rx_iconst (0) dX12_takesTest_42 (by decide) ?_
      exact rx_zret dX12_takesTest_43 rfl (by decide) ⟨Nat.le_refl _, Nat.le_refl _⟩ ⟨rfl, _, rfl, ⟨⟨Or.inl rfl, fun q => absurd rfl q, fun _ => ⟨p + 1, (if_neg h6).trans (if_pos (sgn_out (b2i_eq h39))), upS_at _ _ _ _⟩, QE.refl.up0 (by decide)⟩, rfl⟩⟩
  · refine rx_iconst (0) dX12_takesTest_13 (by decide) ?_
    exact rx_zret dX12_takesTest_14 rfl (by decide) ⟨Nat.le_refl _, Nat.le_refl _⟩ ⟨rfl, _, rfl, ⟨⟨Or.inl rfl, fun q => absurd rfl q, fun _ => ⟨p, if_pos (Decidable.byContradiction fun e => h10 (by rw [if_neg e]; exact nI_pos' (by have := letN_le (chr T p); omega))), k4⟩, QE.refl⟩, rfl⟩⟩
