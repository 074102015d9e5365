-- THE REFERENCE: its scene
def encM (t : TK) : Int32 := if t.1 < 6 then nI (1000 * t.1 + 100 * t.2.1 + t.2.2) else if t.1 = 6 then -33 else if t.1 = 7 then -38 else -124
def thI (y : Nat) : Int32 := if y = 0 then -1 else nI (y - 1)
def McR (f : Nat) (S : SS) (i : Nat) (c : CLS) : Prop := i < 10 ∧ S 10 (10 * f + i) = nI c.1 ∧ c.1 < 5 ∧ S 11 (10 * f + i) = nI c.2.1 ∧ c.2.1 < 100 ∧ (c.1 < 2 → ∃ fr, S 12 (10 * f + i) = nI fr ∧ S 13 (10 * f + i) = nI (fr + c.2.2.length) ∧ fr + c.2.2.length ≤ 100 * f + 100 ∧ (∀ j t, c.2.2[j]? = some t → S 14 (fr + j) = encM t) ∧ wfT c.2.2 0)
def MYd (y : Nat) (S : SS) (yd : YD) : Prop := yd = yQd yd.2.2.2 ∧ yd.2.2.2.length ≤ 10 ∧ (∀ c ∈ yd.2.2.2, c.2.1 < 100) ∧ (y = 0 → yd.2.2.2 = []) ∧ (0 < y → S 9 (y - 1) = nI yd.2.2.2.length ∧ ∀ i c, yd.2.2.2[i]? = some c → McR (y - 1) S i c)
def MSc (S : SS) (E : EN) (D : DY) : Prop := S 0 0 = nI (eN E) ∧ (∀ c, c < 7 → S 1 c = eK E c) ∧ (∀ c, c < 7 → S 2 c = eV E c) ∧ (∀ c, c < 7 → S 4 c = eE E c) ∧ (∀ c, c < 28 → S 6 c = eR E c) ∧ (∀ c, c < 4 → S 7 c = eC E c) ∧
  (∃ y, y < 7 ∧ S 0 11 = thI y ∧ MYd y S (eY E)) ∧ (∀ c, c < 7 → S 3 c = dA D c) ∧ S 0 2 = dW D ∧ S 0 1 = nI (dT D) ∧ dT D < 20000 ∧ (∀ c, c < 7 → S 5 c = dS D c)
theorem MYd.off {y : Nat} {S S' : SS} {yd : YD} (h : MYd y S yd) (ho : ∀ j, 9 ≤ j → j ≤ 14 → S' j = S j) : MYd y S' yd := by
  obtain ⟨h1, h2, h3, h4, h5⟩ := h
  refine ⟨h1, h2, h3, h4, fun hy => ?_⟩
  obtain ⟨g1, g2⟩ := h5 hy
  refine ⟨by rw [ho 9 (by omega) (by omega)]; exact g1, fun i c hc => ?_⟩
  have := g2 i c hc
  unfold McR at this ⊢
  rw [ho 10 (by omega) (by omega), ho 11 (by omega) (by omega), ho 12 (by omega) (by omega), ho 13 (by omega) (by omega), ho 14 (by omega) (by omega)]
  exact this
/-- what the seeing of so many is -/
def SeM (S : SS) (E : EN) (sv : Int32) : Prop := (S 0 27 = -1 ∧ sv = (eY E).2.2.1) ∨ ∃ s, s < 10 ∧ S 0 27 = nI s ∧ sv = nI s
theorem thI_lt : thI 0 < 0 := by decide +kernel
theorem thI_ge {y : Nat} (h : 0 < y) (hy : y < 7) : thI y = nI (y - 1) := if_neg (by omega)
theorem MSc.yd {S : SS} {E : EN} {D : DY} (h : MSc S E D) : ∃ y, y < 7 ∧ S 0 11 = thI y ∧ MYd y S (eY E) := h.2.2.2.2.2.2.1
theorem MSc.t {S : SS} {E : EN} {D : DY} (h : MSc S E D) : S 0 1 = nI (dT D) := h.2.2.2.2.2.2.2.2.2.1
theorem MSc.tl {S : SS} {E : EN} {D : DY} (h : MSc S E D) : dT D < 20000 := h.2.2.2.2.2.2.2.2.2.2.1
theorem MSc.a {S : SS} {E : EN} {D : DY} (h : MSc S E D) {c : Nat} (hc : c < 7) : S 3 c = dA D c := h.2.2.2.2.2.2.2.1 c hc
theorem MSc.w {S : SS} {E : EN} {D : DY} (h : MSc S E D) : S 0 2 = dW D := h.2.2.2.2.2.2.2.2.1
theorem MSc.k {S : SS} {E : EN} {D : DY} (h : MSc S E D) {c : Nat} (hc : c < 7) : S 1 c = eK E c := h.2.1 c hc
theorem MSc.v {S : SS} {E : EN} {D : DY} (h : MSc S E D) {c : Nat} (hc : c < 7) : S 2 c = eV E c := h.2.2.1 c hc
theorem MSc.e {S : SS} {E : EN} {D : DY} (h : MSc S E D) {c : Nat} (hc : c < 7) : S 4 c = eE E c := h.2.2.2.1 c hc
theorem MSc.s {S : SS} {E : EN} {D : DY} (h : MSc S E D) {c : Nat} (hc : c < 7) : S 5 c = dS D c := h.2.2.2.2.2.2.2.2.2.2.2 c hc
theorem bit_1 (w c : Int32) : (bitv w c = 1) ↔ ¬ bitv w c = 0 := by
  have h : bitv w c = 0 ∨ bitv w c = 1 := by
    unfold bitv
    have hm : ∀ x : Int32, x &&& 1 = 0 ∨ x &&& 1 = 1 := fun x => by
      obtain ⟨j, hj, e⟩ := pk_andE x (m := 1) 1 (by decide)
      rcases (show j = 0 ∨ j = 1 by omega) with rfl | rfl
      · exact Or.inl e
      · exact Or.inr e
    exact hm _
  constructor
  · intro e q; rw [q] at e; exact absurd e (by decide)
  · intro e; exact h.resolve_left e

set_option maxRecDepth 20000 in
set_option maxHeartbeats 1000000 in
theorem m_has (g : GG) {sh : List CS} (z : Nat) (w c : Int32) (S : SS) (L : LL) : Ci g 0 mX12_has [.ref z, .int w, .int c] sh S L (fun r S' L' => r = b2i (¬ bitv w c = 0) ∧ S' = S ∧ L' = L) := by
  refine ct_of (ls := [some (.ref z), some (.int w), some (.int c)]) 0 (by decide +kernel) rfl rfl ?_
  refine rx_iload_n dX12_has_0 rfl ?_
  refine rx_iload_n dX12_has_1 rfl ?_
  refine rx_ishr dX12_has_2 ?_
  refine rx_iconst (1) dX12_has_3 (by decide) ?_
  refine rx_iand dX12_has_4 ?_
  refine rx_iconst (1) dX12_has_5 (by decide) ?_
  refine rx_icmp_ne 13 dX12_has_6 (by decide) (fun h6 => ?_) (fun h6 => ?_)
  · refine rx_iconst (0) dX12_has_13 (by decide) ?_
    exact rx_zret dX12_has_14 rfl (by decide) ⟨Nat.le_refl _, Nat.le_refl _⟩ ⟨rfl, _, rfl, ⟨by first | exact b2i_t ((bit_1 w c).mp h6) | exact b2i_f (fun q => h6 ((bit_1 w c).mpr q)), rfl, rfl⟩⟩
  · refine rx_iconst (1) dX12_has_9 (by decide) ?_
    refine rx_goto 14 dX12_has_10 (by decide) ?_
    exact rx_zret dX12_has_14 rfl (by decide) ⟨Nat.le_refl _, Nat.le_refl _⟩ ⟨rfl, _, rfl, ⟨by first | exact b2i_t ((bit_1 w c).mp h6) | exact b2i_f (fun q => h6 ((bit_1 w c).mpr q)), rfl, rfl⟩⟩
set_option maxRecDepth 20000 in
set_option maxHeartbeats 400000 in
theorem m_begin (g : GG) (E : EN) (y : Nat) (S : SS) (L : LL) (hy : y < 7) (hyS : S 0 11 = thI y) (hY : MYd y S (eY E)) : Ci g 0 mX12_begin [.ref 0] SHM S L (fun r S' L' => r = nI (10 * (y - 1)) ∧ S' = S ∧ L' = L) := by
  refine ct_of (ls := [some (.ref 0)]) 0 (by decide +kernel) rfl rfl ?_
  rcases (show y = 0 ∨ 0 < y by omega) with rfl | hpos
  · skip
    refine rx_aload_n dX12_begin_0 rfl ?_
    refine rx_getI dX12_begin_1 flX12_44 (sM_0) rfl ?_
    rw [hyS]
    refine rx_if_ge 11 dX12_begin_4 (by decide) (fun h4 => absurd h4 (Int32.not_le.mpr thI_lt)) (fun h4 => ?_)
    refine rx_iconst (0) dX12_begin_7 (by decide) ?_
    refine rx_goto 18 dX12_begin_8 (by decide) ?_
    exact rx_iret dX12_begin_18 rfl ⟨Nat.le_refl _, Nat.le_refl _⟩ ⟨rfl, _, rfl, ⟨by show (0 : Int32) = nI (10 * (0 - 1)); simp [hY.2.2.2.1 rfl]; rfl, rfl, rfl⟩⟩
  · skip
    refine rx_aload_n dX12_begin_0 rfl ?_
    refine rx_getI dX12_begin_1 flX12_44 (sM_0) rfl ?_
    rw [hyS, thI_ge hpos hy]
    refine rx_if_ge 11 dX12_begin_4 (by decide) (fun h4 => ?_) (fun h4 => absurd (nI_pos' (by omega)) h4)
    refine rx_bipush (10) dX12_begin_11 (by decide) ?_
    refine rx_aload_n dX12_begin_13 rfl ?_
    refine rx_getI dX12_begin_14 flX12_44 (sM_0) rfl ?_
    rw [hyS, thI_ge hpos hy, show (10 : Int32) = nI 10 from rfl]
    refine rx_imul dX12_begin_17 ?_
    rw [pk_mul]
    exact rx_iret dX12_begin_18 rfl ⟨Nat.le_refl _, Nat.le_refl _⟩ ⟨rfl, _, rfl, ⟨rfl, rfl, rfl⟩⟩
set_option maxRecDepth 20000 in
set_option maxHeartbeats 400000 in
theorem m_behind (g : GG) (E : EN) (y : Nat) (S : SS) (L : LL) (hy : y < 7) (hyS : S 0 11 = thI y) (hY : MYd y S (eY E)) : Ci g 0 mX12_behind [.ref 0] SHM S L (fun r S' L' => r = nI (10 * (y - 1) + (eY E).2.2.2.length) ∧ S' = S ∧ L' = L) := by
  refine ct_of (ls := [some (.ref 0)]) 0 (by decide +kernel) rfl rfl ?_
  rcases (show y = 0 ∨ 0 < y by omega) with rfl | hpos
  · skip
    refine rx_aload_n dX12_behind_0 rfl ?_
    refine rx_getI dX12_behind_1 flX12_44 (sM_0) rfl ?_
    rw [hyS]
    refine rx_if_ge 11 dX12_behind_4 (by decide) (fun h4 => absurd h4 (Int32.not_le.mpr thI_lt)) (fun h4 => ?_)
    refine rx_iconst (0) dX12_behind_7 (by decide) ?_
    refine rx_goto 28 dX12_behind_8 (by decide) ?_
    exact rx_iret dX12_behind_28 rfl ⟨Nat.le_refl _, Nat.le_refl _⟩ ⟨rfl, _, rfl, ⟨by show (0 : Int32) = nI (10 * (0 - 1) + (eY E).2.2.2.length); simp [hY.2.2.2.1 rfl]; rfl, rfl, rfl⟩⟩
  · skip
    refine rx_aload_n dX12_behind_0 rfl ?_
    refine rx_getI dX12_behind_1 flX12_44 (sM_0) rfl ?_
    rw [hyS, thI_ge hpos hy]
    refine rx_if_ge 11 dX12_behind_4 (by decide) (fun h4 => ?_) (fun h4 => absurd (nI_pos' (by omega)) h4)
    refine rx_bipush (10) dX12_behind_11 (by decide) ?_
    refine rx_aload_n dX12_behind_13 rfl ?_
    refine rx_getI dX12_behind_14 flX12_44 (sM_0) rfl ?_
    rw [hyS, thI_ge hpos hy, show (10 : Int32) = nI 10 from rfl]
    refine rx_imul dX12_behind_17 ?_
    rw [pk_mul]
    refine rx_aload_n dX12_behind_18 rfl ?_
    refine rx_getR dX12_behind_19 flX12_59 (sM_0) rfl ?_
    refine rx_aload_n dX12_behind_22 rfl ?_
    refine rx_getI dX12_behind_23 flX12_44 (sM_0) rfl ?_
    rw [hyS, thI_ge hpos hy]
    refine rx_iaload dX12_behind_26 (sM_9) (vp_in_nI (by omega) (by omega)) ?_
    rw [nI_clamp (by omega : y - 1 < 2 ^ 31), (hY.2.2.2.2 hpos).1]
    refine rx_iadd dX12_behind_27 ?_
    rw [nI_add]
    exact rx_iret dX12_behind_28 rfl ⟨Nat.le_refl _, Nat.le_refl _⟩ ⟨rfl, _, rfl, ⟨rfl, rfl, rfl⟩⟩
set_option maxRecDepth 20000 in
set_option maxHeartbeats 400000 in
theorem m_lastOf (g : GG) (E : EN) (y w z : Nat) (S : SS) (L : LL) (hw : w < 5) (hz : z < 100) (hy : y < 7) (hyS : S 0 11 = thI y) (hY : MYd y S (eY E)) : Ci g 1 mX12_lastOf [.ref 0, .int (nI w), .int (nI z)] SHM S L (fun r S' L' => r = nI (lastP w (eY E).2.2.2 z) ∧ S' = S ∧ L' = L) := by
  refine ct_of (ls := [some (.ref 0), some (.int (nI w)), some (.int (nI z)), none, none]) 2 (by decide +kernel) rfl rfl ?_
  refine rx_iload_n dX12_lastOf_0 rfl ?_
  refine rx_istore_3 rfl dX12_lastOf_1 ?_
  refine rx_aload_n dX12_lastOf_2 rfl ?_
  refine rx_cVi_0 clX12_297 dX12_lastOf_3 (rcvo (sM_0) rfl) rfl (m_begin g E y S L hy hyS hY) ?_
  refine pur3 ?_
  refine rx_istore_4 rfl dX12_lastOf_6 ?_
  have hl10 : (eY E).2.2.2.length ≤ 10 := hY.2.1
  have loop : ∀ (r i n : Nat), i + r = (eY E).2.2.2.length → lastP w ((eY E).2.2.2.drop i) n = lastP w (eY E).2.2.2 z → n < 100 → Rx g 1 0 0 mX12_lastOf SHM.length (fun r sh' S' L' => sh' = SHM ∧ ∃ x, r = some (.int x) ∧ (x = nI (lastP w (eY E).2.2.2 z) ∧ S' = S ∧ L' = L)) 0 0 8 [some (.ref 0), some (.int (nI w)), some (.int (nI z)), some (.int (nI n)), some (.int (nI (10 * (y - 1) + i)))] [] SHM S L := by
    intro r
    induction r with
    | zero =>
      intro i n he hev hn
      refine rx_iload dX12_lastOf_8 rfl ?_
      refine rx_aload_n dX12_lastOf_10 rfl ?_
      refine rx_cVi_0 clX12_300 dX12_lastOf_11 (rcvo (sM_0) rfl) rfl (m_behind g E y S L hy hyS hY) ?_
      refine pur3 ?_
      refine rx_icmp_ge 46 dX12_lastOf_14 (by decide) (fun h14 => ?_) (fun h14 => absurd (nI_le (by omega) (by omega)) h14)
      refine rx_iload_n dX12_lastOf_46 rfl ?_
      exact rx_iret dX12_lastOf_47 rfl ⟨Nat.le_refl _, Nat.le_refl _⟩ ⟨rfl, _, rfl, ⟨by rw [← hev, List.drop_of_length_le (by omega)]; rfl, rfl, rfl⟩⟩
    | succ r ih =>
      intro i n he hev hn
      have hpos : 0 < y := by
        rcases (show y = 0 ∨ 0 < y by omega) with e | e
        · rw [hY.2.2.2.1 e] at he; simp at he
        · exact e
      obtain ⟨c, hci⟩ : ∃ c, (eY E).2.2.2[i]? = some c := ⟨_, List.getElem?_eq_getElem (by omega)⟩
      obtain ⟨b0, b1, b2, b3, b4, -⟩ := (hY.2.2.2.2 hpos).2 i c hci
      have hdr : (eY E).2.2.2.drop i = c :: (eY E).2.2.2.drop (i + 1) := by
        obtain ⟨g1, g2⟩ := List.getElem?_eq_some_iff.mp hci
        rw [List.drop_eq_getElem_cons g1, g2]
      have hxc : (nI (10 * (y - 1) + i)).toNatClampNeg = 10 * (y - 1) + i := nI_clamp (by omega)
      have hvx : vp_in (nI (10 * (y - 1) + i)) 60 := vp_in_nI (by omega) (by omega)
      refine rx_iload dX12_lastOf_8 rfl ?_
      refine rx_aload_n dX12_lastOf_10 rfl ?_
      refine rx_cVi_0 clX12_300 dX12_lastOf_11 (rcvo (sM_0) rfl) rfl (m_behind g E y S L hy hyS hY) ?_
      refine pur3 ?_
      refine rx_icmp_ge 46 dX12_lastOf_14 (by decide) (fun h14 => absurd h14 (nI_ge (by omega) (by omega))) (fun h14 => ?_)
      refine rx_aload_n dX12_lastOf_17 rfl ?_
      refine rx_getR dX12_lastOf_18 flX12_62 (sM_0) rfl ?_
      refine rx_iload dX12_lastOf_21 rfl ?_
      refine rx_iaload dX12_lastOf_23 (sM_10) hvx ?_
      rw [hxc, b1]
      refine rx_iload_n dX12_lastOf_24 rfl ?_
      refine rx_icmp_ne 38 dX12_lastOf_25 (by decide) (fun h25 => ?_) (fun h25 => ?_)
      · refine rx_iload_n dX12_lastOf_38 rfl ?_
        refine rx_istore_3 rfl dX12_lastOf_39 ?_
        refine rx_iinc_4 (1) rfl dX12_lastOf_40 (by decide) ?_
        refine rx_goto 8 dX12_lastOf_43 (by decide) ?_
        rw [nI_1]
        exact ih (i + 1) n (by omega) (by rw [← hev, hdr]; show _ = lastP w _ (if c.1 = w then c.2.1 else n); rw [if_neg (fun q => h25 (by rw [q]))]) (by omega)
      · refine rx_aload_n dX12_lastOf_28 rfl ?_
        refine rx_getR dX12_lastOf_29 flX12_65 (sM_0) rfl ?_
        refine rx_iload dX12_lastOf_32 rfl ?_
        refine rx_iaload dX12_lastOf_34 (sM_11) hvx ?_
        rw [hxc, b3]
        refine rx_goto 39 dX12_lastOf_35 (by decide) ?_
        refine rx_istore_3 rfl dX12_lastOf_39 ?_
        refine rx_iinc_4 (1) rfl dX12_lastOf_40 (by decide) ?_
        refine rx_goto 8 dX12_lastOf_43 (by decide) ?_
        rw [nI_1]
        exact ih (i + 1) c.2.1 (by omega) (by rw [← hev, hdr]; show _ = lastP w _ (if c.1 = w then c.2.1 else n); rw [if_pos ((nI_eq (by omega) (by omega)).mp (h25))]) (by omega)
  exact loop (eY E).2.2.2.length 0 z (by omega) rfl hz
set_option maxRecDepth 20000 in
set_option maxHeartbeats 1000000 in
theorem m_far (g : GG) (E : EN) (D : DY)  (S : SS) (L : LL) (hM : MSc S E D) : Ci g 2 mX12_far [.ref 0] SHM S L (fun r S' L' => r = (eY E).1 ∧ S' = S ∧ L' = L) := by
  obtain ⟨y, hy, hyS, hY⟩ := hM.yd
  have hl := lastP_le (w := 2) (eY E).2.2.2 40 hY.2.2.1 (by decide)
  have hf : (eY E).1 = nI (farN (eY E).2.2.2) := congrArg (·.1) hY.1
  refine ct_of (ls := [some (.ref 0), none]) 1 (by decide +kernel) rfl rfl ?_
  refine rx_aload_n dX12_far_0 rfl ?_
  refine rx_iconst (2) dX12_far_1 (by decide) ?_
  refine rx_bipush (40) dX12_far_2 (by decide) ?_
  refine rx_cVi_2 clX12_303 dX12_far_4 (rcvo (sM_0) rfl) rfl (m_lastOf g E y 2 40 S L (by decide) (by decide) hy hyS hY) ?_
  refine pur3 ?_
  refine rx_istore_1 rfl dX12_far_7 ?_
  refine rx_iload_n dX12_far_8 rfl ?_
  refine rx_iconst (1) dX12_far_9 (by decide) ?_
  refine rx_icmp_ge 17 dX12_far_10 (by decide) (fun h10 => ?_) (fun h10 => ?_)
  · refine rx_iload_n dX12_far_17 rfl ?_
    exact rx_iret dX12_far_18 rfl ⟨Nat.le_refl _, Nat.le_refl _⟩ ⟨rfl, _, rfl, ⟨by rw [hf]; unfold farN; first | rw [if_pos (Nat.lt_of_not_le fun q => h10 (nI_le (a := 1) q (by omega)))]; rfl | rw [if_neg (Nat.not_lt.mpr ((nI_leI (a := 1) (by omega) (by omega)).mp h10))], rfl, rfl⟩⟩
  · refine rx_iconst (1) dX12_far_13 (by decide) ?_
    refine rx_goto 18 dX12_far_14 (by decide) ?_
    exact rx_iret dX12_far_18 rfl ⟨Nat.le_refl _, Nat.le_refl _⟩ ⟨rfl, _, rfl, ⟨by rw [hf]; unfold farN; first | rw [if_pos (Nat.lt_of_not_le fun q => h10 (nI_le (a := 1) q (by omega)))]; rfl | rw [if_neg (Nat.not_lt.mpr ((nI_leI (a := 1) (by omega) (by omega)).mp h10))], rfl, rfl⟩⟩
set_option maxRecDepth 20000 in
set_option maxHeartbeats 1000000 in
theorem m_sharp (g : GG) (E : EN) (D : DY)  (S : SS) (L : LL) (hM : MSc S E D) : Ci g 2 mX12_sharp [.ref 0] SHM S L (fun r S' L' => r = (eY E).2.1 ∧ S' = S ∧ L' = L) := by
  obtain ⟨y, hy, hyS, hY⟩ := hM.yd
  have hf : (eY E).2.1 = nI (lastP 3 (eY E).2.2.2 3) := congrArg (·.2.1) hY.1
  refine ct_of (ls := [some (.ref 0)]) 0 (by decide +kernel) rfl rfl ?_
  refine rx_aload_n dX12_sharp_0 rfl ?_
  refine rx_iconst (3) dX12_sharp_1 (by decide) ?_
  refine rx_iconst (3) dX12_sharp_2 (by decide) ?_
  refine rx_cVi_2 clX12_303 dX12_sharp_3 (rcvo (sM_0) rfl) rfl (m_lastOf g E y 3 3 S L (by decide) (by decide) hy hyS hY) ?_
  refine pur3 ?_
  exact rx_iret dX12_sharp_6 rfl ⟨Nat.le_refl _, Nat.le_refl _⟩ ⟨rfl, _, rfl, ⟨hf.symm, rfl, rfl⟩⟩
set_option maxRecDepth 20000 in
set_option maxHeartbeats 1000000 in
theorem m_sees (g : GG) (E : EN) (D : DY) (sv : Int32) (S : SS) (L : LL) (hM : MSc S E D) (hs : SeM S E sv) : Ci g 2 mX12_sees [.ref 0] SHM S L (fun r S' L' => r = sv ∧ S' = S ∧ L' = L) := by
  obtain ⟨y, hy, hyS, hY⟩ := hM.yd
  have hf : (eY E).2.2.1 = nI (lastP 4 (eY E).2.2.2 9) := congrArg (·.2.2.1) hY.1
  refine ct_of (ls := [some (.ref 0)]) 0 (by decide +kernel) rfl rfl ?_
  refine rx_aload_n dX12_sees_0 rfl ?_
  refine rx_getI dX12_sees_1 flX12_92 (sM_0) rfl ?_
  refine rx_if_lt 14 dX12_sees_4 (by decide) (fun h4 => ?_) (fun h4 => ?_)
  · refine rx_aload_n dX12_sees_14 rfl ?_
    refine rx_iconst (4) dX12_sees_15 (by decide) ?_
    refine rx_bipush (9) dX12_sees_16 (by decide) ?_
    refine rx_cVi_2 clX12_303 dX12_sees_18 (rcvo (sM_0) rfl) rfl (m_lastOf g E y 4 9 S L (by decide) (by decide) hy hyS hY) ?_
    refine pur3 ?_
    exact rx_iret dX12_sees_21 rfl ⟨Nat.le_refl _, Nat.le_refl _⟩ ⟨rfl, _, rfl, ⟨by rcases hs with ⟨a, b⟩ | ⟨s, a, b, c⟩; exact (b.trans hf).symm; (rw [b] at h4; exact absurd h4 (nI_pos (by omega))), rfl, rfl⟩⟩
  · refine rx_aload_n dX12_sees_7 rfl ?_
    refine rx_getI dX12_sees_8 flX12_92 (sM_0) rfl ?_
    refine rx_goto 21 dX12_sees_11 (by decide) ?_
    exact rx_iret dX12_sees_21 rfl ⟨Nat.le_refl _, Nat.le_refl _⟩ ⟨rfl, _, rfl, ⟨by rcases hs with ⟨a, b⟩ | ⟨s, a, b, c⟩; (rw [a] at h4; exact absurd h4 (by decide)); exact b.trans c.symm, rfl, rfl⟩⟩
set_option maxRecDepth 20000 in
set_option maxHeartbeats 1000000 in
theorem m_countNow (g : GG) (E : EN) (D : DY)  (S : SS) (L : LL) (hM : MSc S E D) : Ci g 0 mX12_countNow [.ref 0] SHM S L (fun r S' L' => r = cnN E D ∧ S' = S ∧ L' = L) := by
  have htm : nI (dT D) - nI (dT D) / 4 * 4 = nI (dT D % 4) := pk_rem (d := 4) (by have := hM.tl; omega) (by decide) (by decide)
  have h4 : dT D % 4 < 4 := Nat.mod_lt _ (by decide)
  refine ct_of (ls := [some (.ref 0)]) 0 (by decide +kernel) rfl rfl ?_
  refine rx_aload_n dX12_countNow_0 rfl ?_
  refine rx_getR dX12_countNow_1 flX12_38 (sM_0) rfl ?_
  refine rx_aload_n dX12_countNow_4 rfl ?_
  refine rx_getI dX12_countNow_5 flX12_13 (sM_0) rfl ?_
  refine rx_iconst (4) dX12_countNow_8 (by decide) ?_
  rw [hM.t]
  refine rx_irem dX12_countNow_9 (by decide) ?_
  rw [htm]
  refine rx_iaload dX12_countNow_10 (sM_7) (vp_in_nI h4 (by omega)) ?_
  rw [nI_clamp (by omega)]
  exact rx_iret dX12_countNow_11 rfl ⟨Nat.le_refl _, Nat.le_refl _⟩ ⟨rfl, _, rfl, ⟨hM.2.2.2.2.2.1 _ h4, rfl, rfl⟩⟩
set_option maxRecDepth 20000 in
set_option maxHeartbeats 1000000 in
theorem m_factOf (g : GG) (E : EN) (D : DY) (f c : Nat) (S : SS) (L : LL) (hM : MSc S E D) (hf : f < 6) (hc : c < 7) : Ci g 1 mX12_factOf [.ref 0, .int (nI f), .int (nI c)] SHM S L (fun r S' L' => r = facN E D c f ∧ S' = S ∧ L' = L) := by
  have ht10 : nI (dT D) - nI (dT D) / 10 * 10 = nI (dT D % 10) := pk_rem (d := 10) (by have := hM.tl; omega) (by decide) (by decide)
  have hci : (nI c).toNatClampNeg = c := nI_clamp (by omega)
  have hvc : vp_in (nI c) 7 := vp_in_nI hc (by omega)
  refine ct_of (ls := [some (.ref 0), some (.int (nI f)), some (.int (nI c))]) 0 (by decide +kernel) rfl rfl ?_
  refine rx_iload_n dX12_factOf_0 rfl ?_
  rcases k6 hf with rfl | rfl | rfl | rfl | rfl | rfl
  · refine rx_tableIn 36 dX12_factOf_1 (by decide) (by decide) (by rfl) (by decide) ?_
    refine rx_iload_n dX12_factOf_36 rfl ?_
    exact rx_iret dX12_factOf_37 rfl ⟨Nat.le_refl _, Nat.le_refl _⟩ ⟨rfl, _, rfl, ⟨rfl, rfl, rfl⟩⟩
  · refine rx_tableIn 38 dX12_factOf_1 (by decide) (by decide) (by rfl) (by decide) ?_
    refine rx_aload_n dX12_factOf_38 rfl ?_
    refine rx_getR dX12_factOf_39 flX12_19 (sM_0) rfl ?_
    refine rx_iload_n dX12_factOf_42 rfl ?_
    refine rx_iaload dX12_factOf_43 (sM_1) hvc ?_
    rw [hci]
    exact rx_iret dX12_factOf_44 rfl ⟨Nat.le_refl _, Nat.le_refl _⟩ ⟨rfl, _, rfl, ⟨hM.k hc, rfl, rfl⟩⟩
  · refine rx_tableIn 45 dX12_factOf_1 (by decide) (by decide) (by rfl) (by decide) ?_
    refine rx_aload_n dX12_factOf_45 rfl ?_
    refine rx_getR dX12_factOf_46 flX12_29 (sM_0) rfl ?_
    refine rx_iload_n dX12_factOf_49 rfl ?_
    refine rx_iaload dX12_factOf_50 (sM_4) hvc ?_
    rw [hci]
    exact rx_iret dX12_factOf_51 rfl ⟨Nat.le_refl _, Nat.le_refl _⟩ ⟨rfl, _, rfl, ⟨hM.e hc, rfl, rfl⟩⟩
  · refine rx_tableIn 52 dX12_factOf_1 (by decide) (by decide) (by rfl) (by decide) ?_
    refine rx_aload_n dX12_factOf_52 rfl ?_
    refine rx_cVi_0 clX12_307 dX12_factOf_53 (rcvo (sM_0) rfl) rfl (m_countNow g E D S L hM) ?_
    refine pur3 ?_
    exact rx_iret dX12_factOf_56 rfl ⟨Nat.le_refl _, Nat.le_refl _⟩ ⟨rfl, _, rfl, ⟨rfl, rfl, rfl⟩⟩
  · refine rx_tableIn 57 dX12_factOf_1 (by decide) (by decide) (by rfl) (by decide) ?_
    refine rx_aload_n dX12_factOf_57 rfl ?_
    refine rx_getR dX12_factOf_58 flX12_26 (sM_0) rfl ?_
    refine rx_iload_n dX12_factOf_61 rfl ?_
    refine rx_iaload dX12_factOf_62 (sM_3) hvc ?_
    rw [hci]
    refine rx_iconst (5) dX12_factOf_63 (by decide) ?_
    refine rx_idiv dX12_factOf_64 (by decide) ?_
    exact rx_iret dX12_factOf_65 rfl ⟨Nat.le_refl _, Nat.le_refl _⟩ ⟨rfl, _, rfl, ⟨by rw [hM.a hc]; rfl, rfl, rfl⟩⟩
  · refine rx_tableOut 66 dX12_factOf_1 (Or.inr (by decide)) (by decide) ?_
    refine rx_aload_n dX12_factOf_66 rfl ?_
    refine rx_getI dX12_factOf_67 flX12_13 (sM_0) rfl ?_
    rw [hM.t]
    refine rx_bipush (10) dX12_factOf_70 (by decide) ?_
    refine rx_irem dX12_factOf_72 (by decide) ?_
    rw [ht10]
    exact rx_iret dX12_factOf_73 rfl ⟨Nat.le_refl _, Nat.le_refl _⟩ ⟨rfl, _, rfl, ⟨rfl, rfl, rfl⟩⟩
set_option maxRecDepth 20000 in
set_option maxHeartbeats 1000000 in
theorem m_least0 (g : GG) {sh : List CS} (z : Nat) (n : Int32) (S : SS) (L : LL) : Ci g 0 mX12_least0 [.ref z, .int n] sh S L (fun r S' L' => r = mx0 n ∧ S' = S ∧ L' = L) := by
  refine ct_of (ls := [some (.ref z), some (.int n)]) 0 (by decide +kernel) rfl rfl ?_
  refine rx_iload_n dX12_least0_0 rfl ?_
  refine rx_if_ge 8 dX12_least0_1 (by decide) (fun h1 => ?_) (fun h1 => ?_)
  · refine rx_iload_n dX12_least0_8 rfl ?_
    exact rx_iret dX12_least0_9 rfl ⟨Nat.le_refl _, Nat.le_refl _⟩ ⟨rfl, _, rfl, ⟨by unfold mx0; first | exact (if_neg (fun q => h1 (Int32.le_of_lt q))).symm | (rcases (show 0 < n ∨ n = 0 from (Int32.le_iff_lt_or_eq.mp h1).imp id Eq.symm) with q | q; exact (if_pos q).symm; (rw [q]; rfl)), rfl, rfl⟩⟩
  · refine rx_iconst (0) dX12_least0_4 (by decide) ?_
    refine rx_goto 9 dX12_least0_5 (by decide) ?_
    exact rx_iret dX12_least0_9 rfl ⟨Nat.le_refl _, Nat.le_refl _⟩ ⟨rfl, _, rfl, ⟨by unfold mx0; first | exact (if_neg (fun q => h1 (Int32.le_of_lt q))).symm | (rcases (show 0 < n ∨ n = 0 from (Int32.le_iff_lt_or_eq.mp h1).imp id Eq.symm) with q | q; exact (if_pos q).symm; (rw [q]; rfl)), rfl, rfl⟩⟩
set_option maxRecDepth 20000 in
set_option maxHeartbeats 1000000 in
theorem m_pace (g : GG) (E : EN) (D : DY) (c : Nat)  (S : SS) (L : LL) (hM : MSc S E D) (hE : EnOK E) (hcn : c < eN E) : Ci g 0 mX12_pace [.ref 0, .int (nI c)] SHM S L (fun r S' L' => r = pacN E D c ∧ S' = S ∧ L' = L) := by
  have hc : c < 7 := Nat.lt_of_lt_of_le hcn hE.1
  have hci : (nI c).toNatClampNeg = c := nI_clamp (by omega)
  have hvc : vp_in (nI c) 7 := vp_in_nI hc (by omega)
  obtain ⟨k, hk, ek⟩ := hE.2.1 c hcn
  have hkn : kN E c = k := by unfold kN; rw [ek]; exact nI_clamp (by omega)
  have htm : nI (dT D) - nI (dT D) / 4 * 4 = nI (dT D % 4) := pk_rem (d := 4) (by have := hM.tl; omega) (by decide) (by decide)
  have hxi : 4 * nI c + nI (dT D % 4) = nI (c * 4 + dT D % 4) := by rw [show (4 : Int32) = nI 4 from rfl, pk_mul, nI_add, Nat.mul_comm]
  have hx28 : c * 4 + dT D % 4 < 28 := by omega
  refine ct_of (ls := [some (.ref 0), some (.int (nI c)), none]) 1 (by decide +kernel) rfl rfl ?_
  refine rx_iconst (2) dX12_pace_0 (by decide) ?_
  refine rx_aload_n dX12_pace_1 rfl ?_
  refine rx_getR dX12_pace_2 flX12_23 (sM_0) rfl ?_
  refine rx_iload_n dX12_pace_5 rfl ?_
  refine rx_iaload dX12_pace_6 (sM_2) hvc ?_
  rw [hci, hM.v hc]
  refine rx_iconst (3) dX12_pace_7 (by decide) ?_
  refine rx_idiv dX12_pace_8 (by decide) ?_
  refine rx_iadd dX12_pace_9 ?_
  refine rx_istore_2 rfl dX12_pace_10 ?_
  refine rx_aload_n dX12_pace_11 rfl ?_
  refine rx_getR dX12_pace_12 flX12_19 (sM_0) rfl ?_
  refine rx_iload_n dX12_pace_15 rfl ?_
  refine rx_iaload dX12_pace_16 (sM_1) hvc ?_
  rw [hci, hM.k hc, ek]
  rcases y7 hk with rfl | rfl | rfl | rfl | rfl | rfl | rfl
  · refine rx_tableOut 108 dX12_pace_17 (Or.inl (by decide)) (by decide) ?_
    refine rx_iload_n dX12_pace_108 rfl ?_
    exact rx_iret dX12_pace_109 rfl ⟨Nat.le_refl _, Nat.le_refl _⟩ ⟨rfl, _, rfl, ⟨by unfold pacN; rw [hkn]; rfl, rfl, rfl⟩⟩
  · refine rx_tableIn 56 dX12_pace_17 (by decide) (by decide) (by rfl) (by decide) ?_
    refine rx_iload_n dX12_pace_56 rfl ?_
    refine rx_iconst (2) dX12_pace_57 (by decide) ?_
    refine rx_iadd dX12_pace_58 ?_
    exact rx_iret dX12_pace_59 rfl ⟨Nat.le_refl _, Nat.le_refl _⟩ ⟨rfl, _, rfl, ⟨by unfold pacN; rw [hkn]; rfl, rfl, rfl⟩⟩
  · refine rx_tableIn 108 dX12_pace_17 (by decide) (by decide) (by rfl) (by decide) ?_
    refine rx_iload_n dX12_pace_108 rfl ?_
    exact rx_iret dX12_pace_109 rfl ⟨Nat.le_refl _, Nat.le_refl _⟩ ⟨rfl, _, rfl, ⟨by unfold pacN; rw [hkn]; rfl, rfl, rfl⟩⟩
  · refine rx_tableIn 60 dX12_pace_17 (by decide) (by decide) (by rfl) (by decide) ?_
    refine rx_iconst (1) dX12_pace_60 (by decide) ?_
    refine rx_aload_n dX12_pace_61 rfl ?_
    refine rx_getR dX12_pace_62 flX12_23 (sM_0) rfl ?_
    refine rx_iload_n dX12_pace_65 rfl ?_
    refine rx_iaload dX12_pace_66 (sM_2) hvc ?_
    rw [hci, hM.v hc]
    refine rx_iconst (4) dX12_pace_67 (by decide) ?_
    refine rx_idiv dX12_pace_68 (by decide) ?_
    refine rx_iadd dX12_pace_69 ?_
    exact rx_iret dX12_pace_70 rfl ⟨Nat.le_refl _, Nat.le_refl _⟩ ⟨rfl, _, rfl, ⟨by unfold pacN; rw [hkn]; rfl, rfl, rfl⟩⟩
  · refine rx_tableIn 71 dX12_pace_17 (by decide) (by decide) (by rfl) (by decide) ?_
    refine rx_iconst (2) dX12_pace_71 (by decide) ?_
    refine rx_iload_n dX12_pace_72 rfl ?_
    refine rx_iconst (2) dX12_pace_73 (by decide) ?_
    refine rx_iadd dX12_pace_74 ?_
    refine rx_imul dX12_pace_75 ?_
    exact rx_iret dX12_pace_76 rfl ⟨Nat.le_refl _, Nat.le_refl _⟩ ⟨rfl, _, rfl, ⟨by unfold pacN; rw [hkn]; rfl, rfl, rfl⟩⟩
  · refine rx_tableIn 77 dX12_pace_17 (by decide) (by decide) (by rfl) (by decide) ?_
    refine rx_iload_n dX12_pace_77 rfl ?_
    refine rx_iconst (1) dX12_pace_78 (by decide) ?_
    refine rx_isub dX12_pace_79 ?_
    exact rx_iret dX12_pace_80 rfl ⟨Nat.le_refl _, Nat.le_refl _⟩ ⟨rfl, _, rfl, ⟨by unfold pacN; rw [hkn]; rfl, rfl, rfl⟩⟩
  · refine rx_tableIn 81 dX12_pace_17 (by decide) (by decide) (by rfl) (by decide) ?_
    refine rx_iconst (1) dX12_pace_81 (by decide) ?_
    refine rx_aload_n dX12_pace_82 rfl ?_
    refine rx_getR dX12_pace_83 flX12_23 (sM_0) rfl ?_
    refine rx_iload_n dX12_pace_86 rfl ?_
    refine rx_iaload dX12_pace_87 (sM_2) hvc ?_
    rw [hci, hM.v hc]
    refine rx_iconst (4) dX12_pace_88 (by decide) ?_
    refine rx_idiv dX12_pace_89 (by decide) ?_
    refine rx_iadd dX12_pace_90 ?_
    refine rx_aload_n dX12_pace_91 rfl ?_
    refine rx_getR dX12_pace_92 flX12_35 (sM_0) rfl ?_
    refine rx_iconst (4) dX12_pace_95 (by decide) ?_
    refine rx_iload_n dX12_pace_96 rfl ?_
    refine rx_imul dX12_pace_97 ?_
    refine rx_aload_n dX12_pace_98 rfl ?_
    refine rx_getI dX12_pace_99 flX12_13 (sM_0) rfl ?_
    rw [hM.t]
    refine rx_iconst (4) dX12_pace_102 (by decide) ?_
    refine rx_irem dX12_pace_103 (by decide) ?_
    rw [htm]
    refine rx_iadd dX12_pace_104 ?_
    rw [hxi]
    refine rx_iaload dX12_pace_105 (sM_6) (vp_in_nI hx28 (by omega)) ?_
    rw [nI_clamp (by omega), hM.2.2.2.2.1 _ hx28]
    refine rx_iadd dX12_pace_106 ?_
    exact rx_iret dX12_pace_107 rfl ⟨Nat.le_refl _, Nat.le_refl _⟩ ⟨rfl, _, rfl, ⟨by unfold pacN; rw [hkn]; rfl, rfl, rfl⟩⟩
set_option maxRecDepth 20000 in
set_option maxHeartbeats 1000000 in
theorem m_goes (g : GG) (E : EN) (D : DY) (c : Nat)  (S : SS) (L : LL) (hM : MSc S E D) (hE : EnOK E) (hcn : c < eN E) : Ci g 1 mX12_goes [.ref 0, .int (nI c)] SHM S L (fun r S' L' => r = goeN E D c ∧ S' = S ∧ L' = L) := by
  have hc : c < 7 := Nat.lt_of_lt_of_le hcn hE.1
  have hci : (nI c).toNatClampNeg = c := nI_clamp (by omega)
  have hvc : vp_in (nI c) 7 := vp_in_nI hc (by omega)
  refine ct_of (ls := [some (.ref 0), some (.int (nI c))]) 0 (by decide +kernel) rfl rfl ?_
  refine rx_aload_n dX12_goes_0 rfl ?_
  refine rx_cVi_0 clX12_307 dX12_goes_1 (rcvo (sM_0) rfl) rfl (m_countNow g E D S L hM) ?_
  refine pur3 ?_
  refine rx_aload_n dX12_goes_4 rfl ?_
  refine rx_getR dX12_goes_5 flX12_29 (sM_0) rfl ?_
  refine rx_iload_n dX12_goes_8 rfl ?_
  refine rx_iaload dX12_goes_9 (sM_4) hvc ?_
  rw [hci, hM.e hc]
  refine rx_icmp_le 33 dX12_goes_10 (by decide) (fun h10 => ?_) (fun h10 => ?_)
  · refine rx_iconst (0) dX12_goes_33 (by decide) ?_
    exact rx_iret dX12_goes_34 rfl ⟨Nat.le_refl _, Nat.le_refl _⟩ ⟨rfl, _, rfl, ⟨by unfold goeN; first | exact (if_pos (Int32.not_le.mp h10)).symm | exact (if_neg (Int32.not_lt.mpr h10)).symm, rfl, rfl⟩⟩
  · refine rx_aload_n dX12_goes_13 rfl ?_
    refine rx_iload_n dX12_goes_14 rfl ?_
    refine rx_cVi_1 clX12_316 dX12_goes_15 (rcvo (sM_0) rfl) rfl (m_pace g E D c S L hM hE hcn) ?_
    refine pur3 ?_
    refine rx_aload_n dX12_goes_18 rfl ?_
    refine rx_cVi_0 clX12_307 dX12_goes_19 (rcvo (sM_0) rfl) rfl (m_countNow g E D S L hM) ?_
    refine pur3 ?_
    refine rx_aload_n dX12_goes_22 rfl ?_
    refine rx_getR dX12_goes_23 flX12_29 (sM_0) rfl ?_
    refine rx_iload_n dX12_goes_26 rfl ?_
    refine rx_iaload dX12_goes_27 (sM_4) hvc ?_
    rw [hci, hM.e hc]
    refine rx_isub dX12_goes_28 ?_
    refine rx_imul dX12_goes_29 ?_
    refine rx_goto 34 dX12_goes_30 (by decide) ?_
    exact rx_iret dX12_goes_34 rfl ⟨Nat.le_refl _, Nat.le_refl _⟩ ⟨rfl, _, rfl, ⟨by unfold goeN; first | exact (if_pos (Int32.not_le.mp h10)).symm | exact (if_neg (Int32.not_lt.mpr h10)).symm, rfl, rfl⟩⟩
