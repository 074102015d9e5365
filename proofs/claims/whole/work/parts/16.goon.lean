-- a TURN's parts, purely
def goStep (far : Int32) (go : Nat → Int32) (p : (Nat → Int32) × Int32) (c : Nat) : (Nat → Int32) × Int32 := if ¬ bitv p.2 (nI c) = 0 then p else if p.1 c + go c < far then (upd p.1 c (p.1 c + go c), p.2) else (upd p.1 c far, p.2 ||| (1 <<< (nI c &&& 31)))
def goOnP (far : Int32) (go : Nat → Int32) (a : Nat → Int32) (w : Int32) : Nat → (Nat → Int32) × Int32
  | 0 => (a, w)
  | c + 1 => goStep far go (goOnP far go a w c) c
def ahStep (a : Nat → Int32) (w : Int32) (ch c : Nat) (z : Int32) : Int32 := if (a ch < a c ∨ (a c = a ch ∧ c < ch)) ∧ bitv w (nI c) = 0 then z + 1 else z
def aheadP (a : Nat → Int32) (w : Int32) (ch : Nat) : Nat → Int32
  | 0 => 0
  | c + 1 => ahStep a w ch c (aheadP a w ch c)
def bkStep (n : Nat) (a : Nat → Int32) (w : Int32) (wob : Nat → Int32) (sharp sees : Int32) (c : Nat) (z : Int32) : Int32 := if bitv w (nI c) = 0 ∧ sharp < wob c ∧ aheadP a w c n < sees then z ||| (1 <<< (nI c &&& 31)) else z
def backP (n : Nat) (a : Nat → Int32) (w : Int32) (wob : Nat → Int32) (sharp sees : Int32) : Nat → Int32
  | 0 => 0
  | c + 1 => bkStep n a w wob sharp sees c (backP n a w wob sharp sees c)
def sbStep (bk : Int32) (p : (Nat → Int32) × (Nat → Int32)) (c : Nat) : (Nat → Int32) × (Nat → Int32) := if bitv bk (nI c) = 0 then p else (upd p.1 c 0, upd p.2 c (p.2 c + 1))
def sbP (bk : Int32) (a s : Nat → Int32) : Nat → (Nat → Int32) × (Nat → Int32)
  | 0 => (a, s)
  | c + 1 => sbStep bk (sbP bk a s c) c

set_option maxRecDepth 20000 in
set_option maxHeartbeats 400000 in
theorem c_goOn (g : GG) {b : Nat} (hb : Sc b) (n y : Nat) (far w : Int32) (go a : Nat → Int32) (S : SS) (L : LL) (hn7 : n ≤ 7) (hsz0 : S b 6 = nI n) (ha : ∀ c, c < 7 → S (b + 3) c = a c) (hw : S b 7 = w) (hy : y < 7) (hyS : S b 10 = nI y) (hfS : S (11 + 6 * y) 10 = far) (hg : ∀ c, c < n → S 94 c = go c) : Cv g 1 mX9_goOn [.ref 92, .ref b] SHC S L (fun S' L' => ((∀ c', c' < 7 → S' (b + 3) c' = (goOnP far go a w n).1 c') ∧ S' b 7 = (goOnP far go a w n).2 ∧ (∀ j, j ≠ b → j ≠ b + 3 → S' j = S j) ∧ (∀ k, k ≠ 7 → S' b k = S b k)) ∧ L' = L) := by
  refine ct_of (ls := [some (.ref 92), some (.ref b), none]) 1 (by decide +kernel) rfl rfl ?_
  have hbl := hb.le
  have hcy : (nI y).toNatClampNeg = y := nI_clamp (by omega)
  have loop : ∀ (r c : Nat) (S1 : SS), c ≤ n → c + r = n → ((∀ c', c' < 7 → S1 (b + 3) c' = (goOnP far go a w c).1 c') ∧ S1 b 7 = (goOnP far go a w c).2 ∧ (∀ j, j ≠ b → j ≠ b + 3 → S1 j = S j) ∧ ∀ k, k ≠ 7 → S1 b k = S b k) → Rx g 1 0 0 mX9_goOn SHC.length (fun r sh' S' L' => sh' = SHC ∧ r = none ∧ (((∀ c', c' < 7 → S' (b + 3) c' = (goOnP far go a w n).1 c') ∧ S' b 7 = (goOnP far go a w n).2 ∧ (∀ j, j ≠ b → j ≠ b + 3 → S' j = S j) ∧ (∀ k, k ≠ 7 → S' b k = S b k)) ∧ L' = L)) 0 0 2 [some (.ref 92), some (.ref b), some (.int (nI c))] [] SHC S1 L := by
    intro r
    induction r with
    | zero =>
      intro c S1 hc1 hc2 hI
      have hcn : c = n := by omega
      have hsz : S1 b 6 = nI n := by rw [hI.2.2.2 6 (by decide)]; exact hsz0
      refine rx_iload_n dX9_goOn_2 rfl ?_
      refine rx_aload_n dX9_goOn_3 rfl ?_
      refine rx_getI dX9_goOn_4 flX9_46 (scO hb) rfl ?_
      refine rx_icmp_ge 83 dX9_goOn_7 (by decide) (fun h7 => ?_) (fun h7 => absurd (by rw [hsz]; exact nI_le (by omega) (by omega)) h7)
      exact rx_vret dX9_goOn_83 rfl ⟨Nat.le_refl _, Nat.le_refl _⟩ ⟨rfl, rfl, ⟨by rw [← hcn]; exact hI, rfl⟩⟩
    | succ r ih =>
      intro c S1 hc1 hc2 hI
      have hc7 : c < 7 := by omega
      have hsz : S1 b 6 = nI n := by rw [hI.2.2.2 6 (by decide)]; exact hsz0
      have hci : (nI c).toNatClampNeg = c := nI_clamp (by omega)
      have hvc : vp_in (nI c) 7 := vp_in_nI hc7 (by omega)
      have hac : S1 (b + 3) c = (goOnP far go a w c).1 c := hI.1 c hc7
      have hw0 : S1 b 7 = (goOnP far go a w c).2 := hI.2.1
      have hgo : S1 94 c = go c := by rw [hI.2.2.1 94 (by omega) (by omega)]; exact hg c (by omega)
      have hy0 : S1 b 10 = nI y := by rw [hI.2.2.2 10 (by decide)]; exact hyS
      have hfar : S1 (11 + 6 * y) 10 = far := by rw [hI.2.2.1 _ (by omega) (by omega)]; exact hfS
      refine rx_iload_n dX9_goOn_2 rfl ?_
      refine rx_aload_n dX9_goOn_3 rfl ?_
      refine rx_getI dX9_goOn_4 flX9_46 (scO hb) rfl ?_
      refine rx_icmp_ge 83 dX9_goOn_7 (by decide) (fun h7 => absurd h7 (by rw [hsz]; exact nI_ge (by omega) (by omega))) (fun h7 => ?_)
      refine rx_aload_n dX9_goOn_10 rfl ?_
      refine rx_iload_n dX9_goOn_11 rfl ?_
      refine rx_cVi_1 clX9_104 dX9_goOn_12 (rcvo (scO hb) rfl) rfl (c_isAtWall g hb (nI c) S1 L) ?_
      refine pur3 ?_
      refine rx_if_eq 21 dX9_goOn_15 (by decide) (fun h15 => ?_) (fun h15 => ?_)
      · have hbn : ¬ ¬ bitv (goOnP far go a w c).2 (nI c) = 0 := by rw [← hw0]; exact b2i_eq h15
        refine rx_aload_n dX9_goOn_21 rfl ?_
        refine rx_getR dX9_goOn_22 flX9_68 (scO hb) rfl ?_
        refine rx_iload_n dX9_goOn_25 rfl ?_
        refine rx_dup2 dX9_goOn_26 rfl rfl ?_
        refine rx_iaload dX9_goOn_27 (scA3 hb) hvc ?_
        refine rx_aload_n dX9_goOn_28 rfl ?_
        refine rx_getR dX9_goOn_29 flX9_15 (sC_92) rfl ?_
        refine rx_iload_n dX9_goOn_32 rfl ?_
        refine rx_iaload dX9_goOn_33 (sC_94) hvc ?_
        simp (disch := omega) only [upS_off, upS_at, hci, hac, hgo, hy0, hcy, hfar, hw0]
        refine rx_iadd dX9_goOn_34 ?_
        refine rx_iastore dX9_goOn_35 (scA3 hb) hvc ?_
        simp (disch := omega) only [upS_off, upS_at, hci, hac, hgo, hy0, hcy, hfar, hw0]
        refine rx_aload_n dX9_goOn_36 rfl ?_
        refine rx_getR dX9_goOn_37 flX9_68 (scO hb) rfl ?_
        refine rx_iload_n dX9_goOn_40 rfl ?_
        refine rx_iaload dX9_goOn_41 (scA3 hb) hvc ?_
        simp (disch := omega) only [upS_off, upS_at, hci, hac, hgo, hy0, hcy, hfar, hw0]
        refine rx_aload_n dX9_goOn_42 rfl ?_
        refine rx_getD dX9_goOn_43 flX9_74 (scO hb) rfl ?_
        simp (disch := omega) only [upS_off, upS_at, hci, hac, hgo, hy0, hcy, hfar, hw0]
        refine rx_getI dX9_goOn_46 flX9_107 (syO hy) rfl ?_
        simp (disch := omega) only [upS_off, upS_at, hci, hac, hgo, hy0, hcy, hfar, hw0]
        refine rx_icmp_lt 77 dX9_goOn_49 (by decide) (fun h49 => ?_) (fun h49 => ?_)
        · refine rx_iinc_2 (1) rfl dX9_goOn_77 (by decide) ?_
          refine rx_goto 2 dX9_goOn_80 (by decide) ?_
          rw [nI_1]
          refine ih (c + 1) _ (by omega) (by omega) ?_
          rw [show goOnP far go a w (c + 1) = _ from (if_neg hbn).trans (if_pos h49)]
          refine ⟨fun c' hc' => ?_, ?_, fun j h1 h2 => ?_, fun k hk => ?_⟩
          · simp (disch := omega) only [upS_row, upd]
            by_cases e : c' = c
            · rw [if_pos e, if_pos e]
            · rw [if_neg e, if_neg e]; exact hI.1 c' hc'
          · simp (disch := omega) only [upS_off]; exact hw0
          · simp (disch := omega) only [upS_off]; exact hI.2.2.1 j h1 h2
          · simp (disch := omega) only [upS_off]; exact hI.2.2.2 k hk
        · skip
          refine rx_aload_n dX9_goOn_52 rfl ?_
          refine rx_getR dX9_goOn_53 flX9_68 (scO hb) rfl ?_
          refine rx_iload_n dX9_goOn_56 rfl ?_
          refine rx_aload_n dX9_goOn_57 rfl ?_
          refine rx_getD dX9_goOn_58 flX9_74 (scO hb) rfl ?_
          simp (disch := omega) only [upS_off, upS_at, hci, hac, hgo, hy0, hcy, hfar, hw0]
          refine rx_getI dX9_goOn_61 flX9_107 (syO hy) rfl ?_
          refine rx_iastore dX9_goOn_64 (scA3 hb) hvc ?_
          refine rx_aload_n dX9_goOn_65 rfl ?_
          refine rx_dup dX9_goOn_66 rfl ?_
          refine rx_getI dX9_goOn_67 flX9_110 (scO hb) rfl ?_
          simp (disch := omega) only [upS_off, hw0, hci]
          refine rx_iconst (1) dX9_goOn_70 (by decide) ?_
          refine rx_iload_n dX9_goOn_71 rfl ?_
          refine rx_ishl dX9_goOn_72 ?_
          refine rx_ior dX9_goOn_73 ?_
          refine rx_putI dX9_goOn_74 flX9_110 (scO hb) rfl ?_
          refine rx_iinc_2 (1) rfl dX9_goOn_77 (by decide) ?_
          refine rx_goto 2 dX9_goOn_80 (by decide) ?_
          rw [nI_1]
          refine ih (c + 1) _ (by omega) (by omega) ?_
          rw [show goOnP far go a w (c + 1) = _ from (if_neg hbn).trans (if_neg h49)]
          refine ⟨fun c' hc' => ?_, ?_, fun j h1 h2 => ?_, fun k hk => ?_⟩
          · simp (disch := omega) only [upS_off, upS_row, upd]
            by_cases e : c' = c
            · rw [if_pos e, if_pos e]; exact hfar
            · rw [if_neg e, if_neg e, if_neg e]; exact hI.1 c' hc'
          · simp (disch := omega) only [upS_at]
          · simp (disch := omega) only [upS_off]; exact hI.2.2.1 j h1 h2
          · simp (disch := omega) only [upS_off, upS_row, upd]; rw [if_neg hk]; exact hI.2.2.2 k hk
      · have hbt : ¬ bitv (goOnP far go a w c).2 (nI c) = 0 := by rw [← hw0]; exact b2i_ne h15
        refine rx_goto 77 dX9_goOn_18 (by decide) ?_
        refine rx_iinc_2 (1) rfl dX9_goOn_77 (by decide) ?_
        refine rx_goto 2 dX9_goOn_80 (by decide) ?_
        rw [nI_1]
        exact ih (c + 1) S1 (by omega) (by omega) (by rw [show goOnP far go a w (c + 1) = goOnP far go a w c from if_pos hbt]; exact hI)
  refine rx_iconst (0) dX9_goOn_0 (by decide) ?_
  refine rx_istore_2 rfl dX9_goOn_1 ?_
  exact loop n 0 S (by omega) (by omega) ⟨ha, hw, fun _ _ _ => rfl, fun _ _ => rfl⟩
set_option maxRecDepth 20000 in
set_option maxHeartbeats 400000 in
theorem c_lookedAtAhead (g : GG) {b : Nat} (hb : Sc b) (n ch : Nat) (w : Int32) (a : Nat → Int32) (S : SS) (L : LL) (hn7 : n ≤ 7) (hch : ch < n) (hsz : S b 6 = nI n) (ha : ∀ c, c < 7 → S (b + 3) c = a c) (hw : S b 7 = w) : Ci g 1 mX9_lookedAtAhead [.ref 92, .ref b, .int (nI ch)] SHC S L (fun r S' L' => r = aheadP a w ch n ∧ S' = S ∧ L' = L) := by
  refine ct_of (ls := [some (.ref 92), some (.ref b), some (.int (nI ch)), none, none, none]) 3 (by decide +kernel) rfl rfl ?_
  have hhi : (nI ch).toNatClampNeg = ch := nI_clamp (by omega)
  have hvh : vp_in (nI ch) 7 := vp_in_nI (by omega) (by omega)
  have hah : S (b + 3) ch = a ch := ha ch (by omega)
  have loop : ∀ (r c : Nat), c ≤ n → c + r = n → Rx g 1 0 0 mX9_lookedAtAhead SHC.length (fun r sh' S' L' => sh' = SHC ∧ ∃ x, r = some (.int x) ∧ (x = aheadP a w ch n ∧ S' = S ∧ L' = L)) 0 0 5 [some (.ref 92), some (.ref b), some (.int (nI ch)), some (.int (aheadP a w ch c)), some (.int (nI c)), none] [] SHC S L := by
    intro r
    induction r with
    | zero =>
      intro c hc1 hc2
      have hcn : c = n := by omega
      refine rx_iload dX9_lookedAtAhead_5 rfl ?_
      refine rx_aload_n dX9_lookedAtAhead_7 rfl ?_
      refine rx_getI dX9_lookedAtAhead_8 flX9_46 (scO hb) rfl ?_
      refine rx_icmp_ge 82 dX9_lookedAtAhead_11 (by decide) (fun h11 => ?_) (fun h11 => absurd (by rw [hsz]; exact nI_le (by omega) (by omega)) h11)
      refine rx_iload_n dX9_lookedAtAhead_82 rfl ?_
      exact rx_iret dX9_lookedAtAhead_83 rfl ⟨Nat.le_refl _, Nat.le_refl _⟩ ⟨rfl, _, rfl, ⟨by rw [← hcn], rfl, rfl⟩⟩
    | succ r ih =>
      intro c hc1 hc2
      have hc7 : c < 7 := by omega
      have hci : (nI c).toNatClampNeg = c := nI_clamp (by omega)
      have hvc : vp_in (nI c) 7 := vp_in_nI hc7 (by omega)
      have hac : S (b + 3) c = a c := ha c hc7
      refine rx_iload dX9_lookedAtAhead_5 rfl ?_
      refine rx_aload_n dX9_lookedAtAhead_7 rfl ?_
      refine rx_getI dX9_lookedAtAhead_8 flX9_46 (scO hb) rfl ?_
      refine rx_icmp_ge 82 dX9_lookedAtAhead_11 (by decide) (fun h11 => absurd h11 (by rw [hsz]; exact nI_ge (by omega) (by omega))) (fun h11 => ?_)
      refine rx_aload_n dX9_lookedAtAhead_14 rfl ?_
      refine rx_getR dX9_lookedAtAhead_15 flX9_68 (scO hb) rfl ?_
      refine rx_iload dX9_lookedAtAhead_18 rfl ?_
      refine rx_iaload dX9_lookedAtAhead_20 (scA3 hb) hvc ?_
      refine rx_aload_n dX9_lookedAtAhead_21 rfl ?_
      refine rx_getR dX9_lookedAtAhead_22 flX9_68 (scO hb) rfl ?_
      refine rx_iload_n dX9_lookedAtAhead_25 rfl ?_
      refine rx_iaload dX9_lookedAtAhead_26 (scA3 hb) hvh ?_
      rw [hci, hhi, hac, hah]
      refine rx_icmp_gt 52 dX9_lookedAtAhead_27 (by decide) (fun h27 => ?_) (fun h27 => ?_)
      · have hfp : a ch < a c ∨ (a c = a ch ∧ c < ch) := by first | exact Or.inl h27 | exact Or.inr ⟨h43, (nI_ltI (by omega) (by omega)).mp (Int32.not_le.mp h49)⟩
        refine rx_iconst (1) dX9_lookedAtAhead_52 (by decide) ?_
        refine rx_goto 57 dX9_lookedAtAhead_53 (by decide) ?_
        refine rx_istore_5 rfl dX9_lookedAtAhead_57 ?_
        refine rx_iload dX9_lookedAtAhead_59 rfl ?_
        refine rx_if_eq 76 dX9_lookedAtAhead_61 (by decide) (fun h61 => absurd h61 (by decide)) (fun h61 => ?_)
        refine rx_aload_n dX9_lookedAtAhead_64 rfl ?_
        refine rx_iload dX9_lookedAtAhead_65 rfl ?_
        refine rx_cVi_1 clX9_104 dX9_lookedAtAhead_67 (rcvo (scO hb) rfl) rfl (c_isAtWall g hb (nI c) S L) ?_
        refine pur3 ?_
        refine rx_if_ne 76 dX9_lookedAtAhead_70 (by decide) (fun h70 => ?_) (fun h70 => ?_)
        · refine rx_iinc_4 (1) rfl dX9_lookedAtAhead_76 (by decide) ?_
          refine rx_goto 5 dX9_lookedAtAhead_79 (by decide) ?_
          refine rx_wk [some (.ref 92), some (.ref b), some (.int (nI ch)), some (.int _), some (.int _), none] ⟨Or.inr rfl, Or.inr rfl, Or.inr rfl, Or.inr rfl, Or.inr rfl, Or.inl rfl, trivial⟩ ?_
          rw [nI_1, show aheadP a w ch c = aheadP a w ch (c + 1) from (if_neg (fun q => absurd q.2 (by rw [← hw]; exact b2i_ne h70))).symm]
          exact ih (c + 1) (by omega) (by omega)
        · have hbz : bitv w (nI c) = 0 := by rw [← hw]; exact Decidable.not_not.mp (b2i_eq h70)
          refine rx_iinc_3 (1) rfl dX9_lookedAtAhead_73 (by decide) ?_
          refine rx_iinc_4 (1) rfl dX9_lookedAtAhead_76 (by decide) ?_
          refine rx_goto 5 dX9_lookedAtAhead_79 (by decide) ?_
          refine rx_wk [some (.ref 92), some (.ref b), some (.int (nI ch)), some (.int _), some (.int _), none] ⟨Or.inr rfl, Or.inr rfl, Or.inr rfl, Or.inr rfl, Or.inr rfl, Or.inl rfl, trivial⟩ ?_
          rw [nI_1, show aheadP a w ch c + 1 = aheadP a w ch (c + 1) from (if_pos ⟨hfp, hbz⟩).symm]
          exact ih (c + 1) (by omega) (by omega)
      · refine rx_aload_n dX9_lookedAtAhead_30 rfl ?_
        refine rx_getR dX9_lookedAtAhead_31 flX9_68 (scO hb) rfl ?_
        refine rx_iload dX9_lookedAtAhead_34 rfl ?_
        refine rx_iaload dX9_lookedAtAhead_36 (scA3 hb) hvc ?_
        refine rx_aload_n dX9_lookedAtAhead_37 rfl ?_
        refine rx_getR dX9_lookedAtAhead_38 flX9_68 (scO hb) rfl ?_
        refine rx_iload_n dX9_lookedAtAhead_41 rfl ?_
        refine rx_iaload dX9_lookedAtAhead_42 (scA3 hb) hvh ?_
        rw [hci, hhi, hac, hah]
        refine rx_icmp_ne 56 dX9_lookedAtAhead_43 (by decide) (fun h43 => ?_) (fun h43 => ?_)
        · have hfn : ¬ (a ch < a c ∨ (a c = a ch ∧ c < ch)) := by
            rintro (q | q)
            · exact h27 q
            · first | exact h43 q.1 | exact absurd ((nI_ltI (by omega) (by omega)).mpr q.2) (Int32.not_lt.mpr h49)
          refine rx_iconst (0) dX9_lookedAtAhead_56 (by decide) ?_
          refine rx_istore_5 rfl dX9_lookedAtAhead_57 ?_
          refine rx_iload dX9_lookedAtAhead_59 rfl ?_
          refine rx_if_eq 76 dX9_lookedAtAhead_61 (by decide) (fun h61 => ?_) (fun h61 => absurd h61 (by decide))
          refine rx_iinc_4 (1) rfl dX9_lookedAtAhead_76 (by decide) ?_
          refine rx_goto 5 dX9_lookedAtAhead_79 (by decide) ?_
          refine rx_wk [some (.ref 92), some (.ref b), some (.int (nI ch)), some (.int _), some (.int _), none] ⟨Or.inr rfl, Or.inr rfl, Or.inr rfl, Or.inr rfl, Or.inr rfl, Or.inl rfl, trivial⟩ ?_
          rw [nI_1, show aheadP a w ch c = aheadP a w ch (c + 1) from (if_neg (fun q => absurd q.1 hfn)).symm]
          exact ih (c + 1) (by omega) (by omega)
        · refine rx_iload dX9_lookedAtAhead_46 rfl ?_
          refine rx_iload_n dX9_lookedAtAhead_48 rfl ?_
          refine rx_icmp_ge 56 dX9_lookedAtAhead_49 (by decide) (fun h49 => ?_) (fun h49 => ?_)
          · have hfn : ¬ (a ch < a c ∨ (a c = a ch ∧ c < ch)) := by
              rintro (q | q)
              · exact h27 q
              · first | exact h43 q.1 | exact absurd ((nI_ltI (by omega) (by omega)).mpr q.2) (Int32.not_lt.mpr h49)
            refine rx_iconst (0) dX9_lookedAtAhead_56 (by decide) ?_
            refine rx_istore_5 rfl dX9_lookedAtAhead_57 ?_
            refine rx_iload dX9_lookedAtAhead_59 rfl ?_
            refine rx_if_eq 76 dX9_lookedAtAhead_61 (by decide) (fun h61 => ?_) (fun h61 => absurd h61 (by decide))
            refine rx_iinc_4 (1) rfl dX9_lookedAtAhead_76 (by decide) ?_
            refine rx_goto 5 dX9_lookedAtAhead_79 (by decide) ?_
            refine rx_wk [some (.ref 92), some (.ref b), some (.int (nI ch)), some (.int _), some (.int _), none] ⟨Or.inr rfl, Or.inr rfl, Or.inr rfl, Or.inr rfl, Or.inr rfl, Or.inl rfl, trivial⟩ ?_
            rw [nI_1, show aheadP a w ch c = aheadP a w ch (c + 1) from (if_neg (fun q => absurd q.1 hfn)).symm]
            exact ih (c + 1) (by omega) (by omega)
          · have hfp : a ch < a c ∨ (a c = a ch ∧ c < ch) := by first | exact Or.inl h27 | exact Or.inr ⟨h43, (nI_ltI (by omega) (by omega)).mp (Int32.not_le.mp h49)⟩
            refine rx_iconst (1) dX9_lookedAtAhead_52 (by decide) ?_
            refine rx_goto 57 dX9_lookedAtAhead_53 (by decide) ?_
            refine rx_istore_5 rfl dX9_lookedAtAhead_57 ?_
            refine rx_iload dX9_lookedAtAhead_59 rfl ?_
            refine rx_if_eq 76 dX9_lookedAtAhead_61 (by decide) (fun h61 => absurd h61 (by decide)) (fun h61 => ?_)
            refine rx_aload_n dX9_lookedAtAhead_64 rfl ?_
            refine rx_iload dX9_lookedAtAhead_65 rfl ?_
            refine rx_cVi_1 clX9_104 dX9_lookedAtAhead_67 (rcvo (scO hb) rfl) rfl (c_isAtWall g hb (nI c) S L) ?_
            refine pur3 ?_
            refine rx_if_ne 76 dX9_lookedAtAhead_70 (by decide) (fun h70 => ?_) (fun h70 => ?_)
            · refine rx_iinc_4 (1) rfl dX9_lookedAtAhead_76 (by decide) ?_
              refine rx_goto 5 dX9_lookedAtAhead_79 (by decide) ?_
              refine rx_wk [some (.ref 92), some (.ref b), some (.int (nI ch)), some (.int _), some (.int _), none] ⟨Or.inr rfl, Or.inr rfl, Or.inr rfl, Or.inr rfl, Or.inr rfl, Or.inl rfl, trivial⟩ ?_
              rw [nI_1, show aheadP a w ch c = aheadP a w ch (c + 1) from (if_neg (fun q => absurd q.2 (by rw [← hw]; exact b2i_ne h70))).symm]
              exact ih (c + 1) (by omega) (by omega)
            · have hbz : bitv w (nI c) = 0 := by rw [← hw]; exact Decidable.not_not.mp (b2i_eq h70)
              refine rx_iinc_3 (1) rfl dX9_lookedAtAhead_73 (by decide) ?_
              refine rx_iinc_4 (1) rfl dX9_lookedAtAhead_76 (by decide) ?_
              refine rx_goto 5 dX9_lookedAtAhead_79 (by decide) ?_
              refine rx_wk [some (.ref 92), some (.ref b), some (.int (nI ch)), some (.int _), some (.int _), none] ⟨Or.inr rfl, Or.inr rfl, Or.inr rfl, Or.inr rfl, Or.inr rfl, Or.inl rfl, trivial⟩ ?_
              rw [nI_1, show aheadP a w ch c + 1 = aheadP a w ch (c + 1) from (if_pos ⟨hfp, hbz⟩).symm]
              exact ih (c + 1) (by omega) (by omega)
  refine rx_iconst (0) dX9_lookedAtAhead_0 (by decide) ?_
  refine rx_istore_3 rfl dX9_lookedAtAhead_1 ?_
  refine rx_iconst (0) dX9_lookedAtAhead_2 (by decide) ?_
  refine rx_istore_4 rfl dX9_lookedAtAhead_3 ?_
  exact loop n 0 (by omega) (by omega)
set_option maxRecDepth 20000 in
set_option maxHeartbeats 400000 in
theorem c_whoIsSentBack (g : GG) {b : Nat} (hb : Sc b) (n y : Nat) (w sharp sees : Int32) (a wob : Nat → Int32) (S : SS) (L : LL) (hn7 : n ≤ 7) (hsz : S b 6 = nI n) (ha : ∀ c, c < 7 → S (b + 3) c = a c) (hw : S b 7 = w) (hy : y < 7) (hyS : S b 10 = nI y) (hshS : S (11 + 6 * y) 11 = sharp) (hwo : ∀ c, c < n → S 95 c = wob c) : Ci g 2 mX9_whoIsSentBack [.ref 92, .ref b, .int sees] SHC S L (fun r S' L' => r = backP n a w wob sharp sees n ∧ S' = S ∧ L' = L) := by
  refine ct_of (ls := [some (.ref 92), some (.ref b), some (.int sees), none, none, none]) 3 (by decide +kernel) rfl rfl ?_
  have hcy : (nI y).toNatClampNeg = y := nI_clamp (by omega)
  have loop : ∀ (r c : Nat), c ≤ n → c + r = n → Rx g 2 0 0 mX9_whoIsSentBack SHC.length (fun r sh' S' L' => sh' = SHC ∧ ∃ x, r = some (.int x) ∧ (x = backP n a w wob sharp sees n ∧ S' = S ∧ L' = L)) 0 0 5 [some (.ref 92), some (.ref b), some (.int sees), some (.int (backP n a w wob sharp sees c)), some (.int (nI c)), none] [] SHC S L := by
    intro r
    induction r with
    | zero =>
      intro c hc1 hc2
      have hcn : c = n := by omega
      refine rx_iload dX9_whoIsSentBack_5 rfl ?_
      refine rx_aload_n dX9_whoIsSentBack_7 rfl ?_
      refine rx_getI dX9_whoIsSentBack_8 flX9_46 (scO hb) rfl ?_
      refine rx_icmp_ge 76 dX9_whoIsSentBack_11 (by decide) (fun h11 => ?_) (fun h11 => absurd (by rw [hsz]; exact nI_le (by omega) (by omega)) h11)
      refine rx_iload_n dX9_whoIsSentBack_76 rfl ?_
      exact rx_iret dX9_whoIsSentBack_77 rfl ⟨Nat.le_refl _, Nat.le_refl _⟩ ⟨rfl, _, rfl, ⟨by rw [← hcn], rfl, rfl⟩⟩
    | succ r ih =>
      intro c hc1 hc2
      have hc7 : c < 7 := by omega
      have hci : (nI c).toNatClampNeg = c := nI_clamp (by omega)
      have hvc : vp_in (nI c) 7 := vp_in_nI hc7 (by omega)
      have hwb : S 95 c = wob c := hwo c (by omega)
      refine rx_iload dX9_whoIsSentBack_5 rfl ?_
      refine rx_aload_n dX9_whoIsSentBack_7 rfl ?_
      refine rx_getI dX9_whoIsSentBack_8 flX9_46 (scO hb) rfl ?_
      refine rx_icmp_ge 76 dX9_whoIsSentBack_11 (by decide) (fun h11 => absurd h11 (by rw [hsz]; exact nI_ge (by omega) (by omega))) (fun h11 => ?_)
      refine rx_aload_n dX9_whoIsSentBack_14 rfl ?_
      refine rx_iload dX9_whoIsSentBack_15 rfl ?_
      refine rx_cVi_1 clX9_104 dX9_whoIsSentBack_17 (rcvo (scO hb) rfl) rfl (c_isAtWall g hb (nI c) S L) ?_
      refine pur3 ?_
      refine rx_if_ne 44 dX9_whoIsSentBack_20 (by decide) (fun h20 => ?_) (fun h20 => ?_)
      · have hno : ¬ (bitv w (nI c) = 0 ∧ sharp < wob c) := by
          rintro ⟨q1, q2⟩
          first | exact absurd q2 (Int32.not_lt.mpr h37) | exact b2i_ne h20 (by rw [hw]; exact q1)
        refine rx_iconst (0) dX9_whoIsSentBack_44 (by decide) ?_
        refine rx_istore_5 rfl dX9_whoIsSentBack_45 ?_
        refine rx_iload dX9_whoIsSentBack_47 rfl ?_
        refine rx_if_eq 70 dX9_whoIsSentBack_49 (by decide) (fun h49 => ?_) (fun h49 => absurd h49 (by decide))
        refine rx_iinc_4 (1) rfl dX9_whoIsSentBack_70 (by decide) ?_
        refine rx_goto 5 dX9_whoIsSentBack_73 (by decide) ?_
        refine rx_wk [some (.ref 92), some (.ref b), some (.int sees), some (.int _), some (.int _), none] ⟨Or.inr rfl, Or.inr rfl, Or.inr rfl, Or.inr rfl, Or.inr rfl, Or.inl rfl, trivial⟩ ?_
        rw [nI_1, show backP n a w wob sharp sees c = backP n a w wob sharp sees (c + 1) from (if_neg (fun q => hno ⟨q.1, q.2.1⟩)).symm]
        exact ih (c + 1) (by omega) (by omega)
      · have hbz : bitv w (nI c) = 0 := by rw [← hw]; exact Decidable.not_not.mp (b2i_eq h20)
        refine rx_aload_n dX9_whoIsSentBack_23 rfl ?_
        refine rx_getR dX9_whoIsSentBack_24 flX9_18 (sC_92) rfl ?_
        refine rx_iload dX9_whoIsSentBack_27 rfl ?_
        refine rx_iaload dX9_whoIsSentBack_29 (sC_95) hvc ?_
        rw [hci, hwb]
        refine rx_aload_n dX9_whoIsSentBack_30 rfl ?_
        refine rx_getD dX9_whoIsSentBack_31 flX9_74 (scO hb) rfl ?_
        rw [hyS, hcy]
        refine rx_getI dX9_whoIsSentBack_34 flX9_113 (syO hy) rfl ?_
        rw [hshS]
        refine rx_icmp_le 44 dX9_whoIsSentBack_37 (by decide) (fun h37 => ?_) (fun h37 => ?_)
        · have hno : ¬ (bitv w (nI c) = 0 ∧ sharp < wob c) := by
            rintro ⟨q1, q2⟩
            first | exact absurd q2 (Int32.not_lt.mpr h37) | exact b2i_ne h20 (by rw [hw]; exact q1)
          refine rx_iconst (0) dX9_whoIsSentBack_44 (by decide) ?_
          refine rx_istore_5 rfl dX9_whoIsSentBack_45 ?_
          refine rx_iload dX9_whoIsSentBack_47 rfl ?_
          refine rx_if_eq 70 dX9_whoIsSentBack_49 (by decide) (fun h49 => ?_) (fun h49 => absurd h49 (by decide))
          refine rx_iinc_4 (1) rfl dX9_whoIsSentBack_70 (by decide) ?_
          refine rx_goto 5 dX9_whoIsSentBack_73 (by decide) ?_
          refine rx_wk [some (.ref 92), some (.ref b), some (.int sees), some (.int _), some (.int _), none] ⟨Or.inr rfl, Or.inr rfl, Or.inr rfl, Or.inr rfl, Or.inr rfl, Or.inl rfl, trivial⟩ ?_
          rw [nI_1, show backP n a w wob sharp sees c = backP n a w wob sharp sees (c + 1) from (if_neg (fun q => hno ⟨q.1, q.2.1⟩)).symm]
          exact ih (c + 1) (by omega) (by omega)
        · have hsh : sharp < wob c := Int32.not_le.mp h37
          refine rx_iconst (1) dX9_whoIsSentBack_40 (by decide) ?_
          refine rx_goto 45 dX9_whoIsSentBack_41 (by decide) ?_
          refine rx_istore_5 rfl dX9_whoIsSentBack_45 ?_
          refine rx_iload dX9_whoIsSentBack_47 rfl ?_
          refine rx_if_eq 70 dX9_whoIsSentBack_49 (by decide) (fun h49 => absurd h49 (by decide)) (fun h49 => ?_)
          refine rx_aload_n dX9_whoIsSentBack_52 rfl ?_
          refine rx_aload_n dX9_whoIsSentBack_53 rfl ?_
          refine rx_iload dX9_whoIsSentBack_54 rfl ?_
          refine rx_cVi_2 clX9_116 dX9_whoIsSentBack_56 (rcvo (sC_92) rfl) rfl (c_lookedAtAhead g hb n c w a S L hn7 (by omega) hsz ha hw) ?_
          refine pur3 ?_
          refine rx_iload_n dX9_whoIsSentBack_59 rfl ?_
          refine rx_icmp_ge 70 dX9_whoIsSentBack_60 (by decide) (fun h60 => ?_) (fun h60 => ?_)
          · refine rx_iinc_4 (1) rfl dX9_whoIsSentBack_70 (by decide) ?_
            refine rx_goto 5 dX9_whoIsSentBack_73 (by decide) ?_
            refine rx_wk [some (.ref 92), some (.ref b), some (.int sees), some (.int _), some (.int _), none] ⟨Or.inr rfl, Or.inr rfl, Or.inr rfl, Or.inr rfl, Or.inr rfl, Or.inl rfl, trivial⟩ ?_
            rw [nI_1, show backP n a w wob sharp sees c = backP n a w wob sharp sees (c + 1) from (if_neg (fun q => absurd q.2.2 (Int32.not_lt.mpr h60))).symm]
            exact ih (c + 1) (by omega) (by omega)
          · have hlt : aheadP a w c n < sees := Int32.not_le.mp h60
            refine rx_iload_n dX9_whoIsSentBack_63 rfl ?_
            refine rx_iconst (1) dX9_whoIsSentBack_64 (by decide) ?_
            refine rx_iload dX9_whoIsSentBack_65 rfl ?_
            refine rx_ishl dX9_whoIsSentBack_67 ?_
            refine rx_ior dX9_whoIsSentBack_68 ?_
            refine rx_istore_3 rfl dX9_whoIsSentBack_69 ?_
            refine rx_iinc_4 (1) rfl dX9_whoIsSentBack_70 (by decide) ?_
            refine rx_goto 5 dX9_whoIsSentBack_73 (by decide) ?_
            refine rx_wk [some (.ref 92), some (.ref b), some (.int sees), some (.int _), some (.int _), none] ⟨Or.inr rfl, Or.inr rfl, Or.inr rfl, Or.inr rfl, Or.inr rfl, Or.inl rfl, trivial⟩ ?_
            rw [nI_1, show backP n a w wob sharp sees c ||| (1 <<< (nI c &&& 31)) = backP n a w wob sharp sees (c + 1) from (if_pos ⟨hbz, hsh, hlt⟩).symm]
            exact ih (c + 1) (by omega) (by omega)
  refine rx_iconst (0) dX9_whoIsSentBack_0 (by decide) ?_
  refine rx_istore_3 rfl dX9_whoIsSentBack_1 ?_
  refine rx_iconst (0) dX9_whoIsSentBack_2 (by decide) ?_
  refine rx_istore_4 rfl dX9_whoIsSentBack_3 ?_
  exact loop n 0 (by omega) (by omega)
