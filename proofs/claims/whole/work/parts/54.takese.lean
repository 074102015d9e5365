def bIt : Bool → Int32
  | true => 1
  | false => 0
theorem mR_opn {T : List Nat} {f p k : Nat} {w : List Int32} {cs : List TK} (hb : chr T p = 33 ∨ chr T p = 40) (hk : ¬ k = 4) : mRun T (f + 1) p w k true cs = mRun T f (p + 1) (chr T p :: w) (k + 1) true cs := (if_pos hb).trans (if_neg hk)
theorem mR_full {T : List Nat} {f p : Nat} {w : List Int32} {cs : List TK} (hb : chr T p = 33 ∨ chr T p = 40) : mRun T (f + 1) p w 4 true cs = (false, p, []) := (if_pos hb).trans (if_pos rfl)
theorem mR_tst {T : List Nat} {f p k q : Nat} {w : List Int32} {cs : List TK} {t : TK} (hb : ¬ (chr T p = 33 ∨ chr T p = 40)) (ht : tstQ T p = (some t, q)) : mRun T (f + 1) p w k true cs = mRun T f q (whl w k).2.1 (whl w k).2.2 false (cs ++ t :: (whl w k).1) := by
  refine (if_neg hb).trans ?_
  rw [ht]
theorem mR_tstF {T : List Nat} {f p k q : Nat} {w : List Int32} {cs : List TK} (hb : ¬ (chr T p = 33 ∨ chr T p = 40)) (ht : tstQ T p = (none, q)) : mRun T (f + 1) p w k true cs = (false, q, []) := by
  refine (if_neg hb).trans ?_
  rw [ht]
theorem mR_op {T : List Nat} {f p k : Nat} {w : List Int32} {cs : List TK} (hb : chr T p = 38 ∨ chr T p = 124) : mRun T (f + 1) p w k false cs = mRun T f (p + 1) (chr T p :: (setl (chr T p) w).2) k true (cs ++ (setl (chr T p) w).1) := if_pos hb
theorem mR_fin {T : List Nat} {f p k : Nat} {w : List Int32} {cs : List TK} (hb : ¬ (chr T p = 38 ∨ chr T p = 124)) (hs : (setl 124 w).2 = []) : mRun T (f + 1) p w k false cs = (true, p, cs ++ (setl 124 w).1) := by
  refine (if_neg hb).trans ?_
  rw [hs]
theorem mR_cl {T : List Nat} {f p k : Nat} {w r : List Int32} {a : Int32} {cs : List TK} (hb : ¬ (chr T p = 38 ∨ chr T p = 124)) (hs : (setl 124 w).2 = a :: r) (h41 : chr T p = 41) : mRun T (f + 1) p w k false cs = mRun T f (p + 1) (whl r (k - 1)).2.1 (whl r (k - 1)).2.2 false (cs ++ (setl 124 w).1 ++ (whl r (k - 1)).1) := by
  refine (if_neg hb).trans ?_
  rw [hs]
  exact if_pos h41
theorem mR_no {T : List Nat} {f p k : Nat} {w r : List Int32} {a : Int32} {cs : List TK} (hb : ¬ (chr T p = 38 ∨ chr T p = 124)) (hs : (setl 124 w).2 = a :: r) (h41 : ¬ chr T p = 41) : mRun T (f + 1) p w k false cs = (false, p, []) := by
  refine (if_neg hb).trans ?_
  rw [hs]
  exact if_neg h41
theorem setl_top {a : Int32} {r : List Int32} : ∀ w : List Int32, (setl 124 w).2 = a :: r → ¬ a = 38 ∧ ¬ a = 124
  | [], h => by cases h
  | b :: w, h => by
    by_cases hb : b = 38 ∨ (b = 124 ∧ ¬ (124 : Int32) = 38)
    · rw [setl_yes hb] at h
      exact setl_top w h
    · rw [setl_no hb] at h
      have e : b = a := (List.cons.inj h).1
      rw [← e]
      exact ⟨fun q => hb (Or.inl q), fun q => hb (Or.inr ⟨q, by decide⟩)⟩
theorem setl_mem {s : Int32} : ∀ w : List Int32, OkW w → OkW (setl s w).2
  | [], h => h
  | b :: w, h => by
    by_cases hb : b = 38 ∨ (b = 124 ∧ ¬ s = 38)
    · rw [setl_yes hb]
      exact setl_mem w h.tl
    · rw [setl_no hb]; exact h
theorem PrM.up13 {f p k : Nat} {T : List Nat} {S : SS} {cs : List TK} {x : Int32} (h : PrM f T S p cs) : PrM f T (upS S 13 k x) p cs :=
  h.off ((upS_ne _ _ _ _ (by omega)).trans h.2.2.2.1) (Nat.le_refl _) h.2.2.2.2.1 (upS_ne _ _ _ _ (by omega)) (upS_off _ _ _ _ (by decide)) (upS_ne _ _ _ _ (by omega)) (upS_off _ _ _ _ (by decide))
theorem PrM.up12 {f p k : Nat} {T : List Nat} {S : SS} {cs : List TK} {x : Int32} (h : PrM f T S p cs) : PrM f T (upS S 12 k x) p cs :=
  h.off ((upS_ne _ _ _ _ (by omega)).trans h.2.2.2.1) (Nat.le_refl _) h.2.2.2.2.1 (upS_ne _ _ _ _ (by omega)) (upS_off _ _ _ _ (by decide)) (upS_ne _ _ _ _ (by omega)) (upS_off _ _ _ _ (by decide))
theorem WsM.push {S : SS} {w : List Int32} {b : Int32} (h : WsM S w) : WsM (upS S 15 w.length b) (b :: w) := ⟨upS_at _ _ _ _, h.off (fun k hk => upS_ne _ _ _ _ (by omega))⟩
theorem StM.push {f p k : Nat} {T : List Nat} {S : SS} {cs : List TK} {w : List Int32} {b : Int32} (h : StM f T S p cs w k) (hb : b = 33 ∨ b = 40) (hp : p < T.length) : StM f T (upS (upS (upS (upS S 0 25 (nI (k + 1))) 15 w.length b) 0 24 (nI (w.length + 1))) 0 13 (nI (p + 1))) (p + 1) cs (b :: w) (k + 1) := by
  obtain ⟨h1, h2, h3, h4, h5, h6, h7⟩ := h
  refine ⟨(((h1.f0 (by decide) (by decide) (by decide)).up15).f0 (by decide) (by decide) (by decide)).put (by omega) hp, ?_, by simp (disch := omega) only [upS_ne, upS_at]; rfl, by simp (disch := omega) only [upS_ne, upS_at], ?_, h6.cons (hb.elim Or.inl (fun e => Or.inr (Or.inl e))), by show cs.length + (w.length + 1) ≤ p + 1; omega⟩
  · have h2' : WsM (upS S 0 25 (nI (k + 1))) w := h2.same (upS_off _ _ _ _ (by decide))
    exact (h2'.push (b := b)).same (by simp (disch := omega) only [upS_off])
  · show k + 1 = (if b = 33 ∨ b = 40 then 1 else 0) + cntW w
    rw [if_pos hb]
    omega
theorem StM.pushop {f p k : Nat} {T : List Nat} {S : SS} {cs : List TK} {w : List Int32} {b : Int32} (h : StM f T S p cs w k) (hb : b = 38 ∨ b = 124) (hp : p < T.length) : StM f T (upS (upS (upS S 15 w.length b) 0 24 (nI (w.length + 1))) 0 13 (nI (p + 1))) (p + 1) cs (b :: w) k := by
  obtain ⟨h1, h2, h3, h4, h5, h6, h7⟩ := h
  refine ⟨((h1.up15).f0 (by decide) (by decide) (by decide)).put (by omega) hp, (h2.push (b := b)).same (by simp (disch := omega) only [upS_off]), by simp (disch := omega) only [upS_ne, upS_at]; rfl, by simp (disch := omega) only [upS_ne]; exact h4, ?_, h6.cons (Or.inr (Or.inr hb)), by show cs.length + (w.length + 1) ≤ p + 1; omega⟩
  show k = (if b = 33 ∨ b = 40 then 1 else 0) + cntW w
  rw [if_neg (by rcases hb with e | e <;> rw [e] <;> decide)]
  omega
theorem StM.popcl {f p k c : Nat} {T : List Nat} {S : SS} {cs : List TK} {r : List Int32} {a v : Int32} (h : StM f T S p cs (a :: r) k) (ha : ¬ a = 38 ∧ ¬ a = 124) (hp : p < T.length) : 0 < k ∧ StM f T (upS (upS (upS (upS S 13 c v) 0 24 (nI r.length)) 0 25 (nI (k - 1))) 0 13 (nI (p + 1))) (p + 1) cs r (k - 1) := by
  obtain ⟨h1, h2, h3, h4, h5, h6, h7⟩ := h
  have hl : cs.length + (r.length + 1) ≤ p := h7
  have h5' : k = (if a = 33 ∨ a = 40 then 1 else 0) + cntW r := h5
  rw [if_pos (by rcases h6.hd with e | e | e | e; exact Or.inl e; exact Or.inr e; exact absurd e ha.1; exact absurd e ha.2)] at h5'
  exact ⟨by omega, (((h1.up13).f0 (by decide) (by decide) (by decide)).f0 (by decide) (by decide) (by decide)).put (by omega) hp, h2.2.same (by simp (disch := omega) only [upS_off]), by simp (disch := omega) only [upS_ne, upS_at], by simp (disch := omega) only [upS_ne, upS_at], by omega, h6.tl, by omega⟩
/-- within the reading of the E of clause c -/
def EI (f c n : Nat) (S S1 : SS) : Prop := QF c f S S1 ∧ S1 10 = S 10 ∧ S1 11 = S 11 ∧ S1 12 c = nI (100 * f + n)
theorem EI.qe {f c n : Nat} {S S1 S2 : SS} (h : EI f c n S S1) (hq : QE f S1 S2) : EI f c n S S2 := ⟨h.1.trans hq.qf, (hq.1 10 (by decide) (by decide) (by decide)).trans h.2.1, (hq.1 11 (by decide) (by decide) (by decide)).trans h.2.2.1, (congrFun (hq.1 12 (by decide) (by decide) (by decide)) c).trans h.2.2.2⟩
theorem EI.up13 {f c n : Nat} {S S1 : SS} {v : Int32} (h : EI f c n S S1) : EI f c n S (upS S1 13 c v) := ⟨h.1.upc (by decide) (by decide), (upS_off _ _ _ _ (by decide)).trans h.2.1, (upS_off _ _ _ _ (by decide)).trans h.2.2.1, (congrFun (upS_off _ _ _ _ (by decide)) c).trans h.2.2.2⟩

set_option maxRecDepth 20000 in
set_option maxHeartbeats 1000000 in
theorem m_takesE (g : GG) (f : Nat) (T : List Nat) (p : Nat) (css : List TK) (c : Nat) (S : SS) (L : LL) (hP : PrM f T S p css) (hc : c < 60) : Ci g 4 mX12_takesE [.ref 0, .int (nI c)] SHM S L (fun x S' L' => ((x = 0 ∨ x = 1) ∧ (¬ x = 0 → ∃ q cs, eP T p = (true, q, cs) ∧ PrM f T S' q (css ++ cs) ∧ S' 12 c = nI (100 * f + css.length) ∧ S' 13 c = nI (100 * f + css.length + cs.length)) ∧ (x = 0 → ∃ q cs, eP T p = (false, q, cs) ∧ S' 0 13 = nI q) ∧ QF c f S S' ∧ S' 10 = S 10 ∧ S' 11 = S 11) ∧ L' = L) := by
  obtain ⟨k1, k2, k3, k4, k5, k6, k7, k8, k9, k10⟩ := id hP
  have hcc : (nI c).toNatClampNeg = c := nI_clamp (by omega)
  have hcv : vp_in (nI c) 60 := vp_in_nI hc (by omega)
  refine ct_of (ls := [some (.ref 0), some (.int (nI c)), none, none]) 2 (by decide +kernel) rfl rfl ?_
  have loop : ∀ (fu p1 : Nat) (w : List Int32) (k : Nat) (b : Bool) (cs : List TK) (S1 : SS), StM f T S1 p1 (css ++ cs) w k → EI f c css.length S S1 → T.length < p1 + fu → mRun T fu p1 w k b cs = eP T p → Rx g 4 0 0 mX12_takesE SHM.length (fun r sh' S' L' => sh' = SHM ∧ ∃ x, r = some (.int x) ∧ (((x = 0 ∨ x = 1) ∧ (¬ x = 0 → ∃ q cs, eP T p = (true, q, cs) ∧ PrM f T S' q (css ++ cs) ∧ S' 12 c = nI (100 * f + css.length) ∧ S' 13 c = nI (100 * f + css.length + cs.length)) ∧ (x = 0 → ∃ q cs, eP T p = (false, q, cs) ∧ S' 0 13 = nI q) ∧ QF c f S S' ∧ S' 10 = S 10 ∧ S' 11 = S 11) ∧ L' = L)) 0 0 22 [some (.ref 0), some (.int (nI c)), some (.int (bIt b)), none] [] SHM S1 L := by
    intro fu
    induction fu with
    | zero =>
      intro p1 w k b cs S1 hM hE hfu hR
      have := hM.1.2.2.2.2.1
      omega
    | succ fu ih =>
      intro p1 w k b cs S1 hM hE hfu hR
      have hp1 : p1 ≤ T.length := hM.1.2.2.2.2.1
      have hT : T.length ≤ 100 := hM.1.2.2.1
      have hlw : (css ++ cs).length + w.length ≤ p1 := hM.2.2.2.2.2.2
      have hkw : k ≤ w.length := by have h5 := hM.2.2.2.2.1; rw [h5]; exact cntW_le w
      have hwc : (nI w.length).toNatClampNeg = w.length := nI_clamp (by omega)
      cases b with
      | true =>
        refine rx_aload_n dX12_takesE_22 rfl ?_
        refine rx_cVi_0 clX12_248 dX12_takesE_23 (rcvo (sM_0) rfl) rfl (m_next g f T p1 (css ++ cs) S1 L hM.1) ?_
        refine pur3 ?_
        refine rx_istore_3 rfl dX12_takesE_26 ?_
        refine rx_iload_n dX12_takesE_27 rfl ?_
        refine rx_if_eq 110 dX12_takesE_28 (by decide) (fun h28 => absurd h28 (by decide)) (fun h28 => ?_)
        refine rx_iload_n dX12_takesE_31 rfl ?_
        refine rx_bipush (33) dX12_takesE_32 (by decide) ?_
        refine rx_icmp_eq 43 dX12_takesE_34 (by decide) (fun h34 => ?_) (fun h34 => ?_)
        · have hb : chr T p1 = 33 ∨ chr T p1 = 40 := Or.inl h34
          have hpl : p1 < T.length := hb.elim (fun e => chr_in e (by decide)) (fun e => chr_in e (by decide))
          refine rx_aload_n dX12_takesE_43 rfl ?_
          refine rx_getI dX12_takesE_44 flX12_86 (sM_0) rfl ?_
          rw [hM.2.2.2.1]
          refine rx_iconst (4) dX12_takesE_47 (by decide) ?_
          refine rx_icmp_ne 53 dX12_takesE_48 (by decide) (fun h48 => ?_) (fun h48 => ?_)
          · have hk4 : ¬ k = 4 := fun e => h48 (by rw [e]; rfl)
            refine rx_aload_n dX12_takesE_53 rfl ?_
            refine rx_dup dX12_takesE_54 rfl ?_
            refine rx_getI dX12_takesE_55 flX12_86 (sM_0) rfl ?_
            rw [hM.2.2.2.1]
            refine rx_iconst (1) dX12_takesE_58 (by decide) ?_
            refine rx_iadd dX12_takesE_59 ?_
            rw [nI_1]
            refine rx_putI dX12_takesE_60 flX12_86 (sM_0) rfl ?_
            refine rx_aload_n dX12_takesE_63 rfl ?_
            refine rx_getR dX12_takesE_64 flX12_77 (sM_0) rfl ?_
            refine rx_aload_n dX12_takesE_67 rfl ?_
            refine rx_getI dX12_takesE_68 flX12_83 (sM_0) rfl ?_
            simp (disch := omega) only [upS_ne]
            rw [hM.2.2.1]
            refine rx_iload_n dX12_takesE_71 rfl ?_
            refine rx_iastore dX12_takesE_72 (sM_15) (vp_in_nI (by omega) (by omega)) ?_
            rw [hwc]
            refine rx_aload_n dX12_takesE_73 rfl ?_
            refine rx_dup dX12_takesE_74 rfl ?_
            refine rx_getI dX12_takesE_75 flX12_83 (sM_0) rfl ?_
            simp (disch := omega) only [upS_ne]
            rw [hM.2.2.1]
            refine rx_iconst (1) dX12_takesE_78 (by decide) ?_
            refine rx_iadd dX12_takesE_79 ?_
            rw [nI_1]
            refine rx_putI dX12_takesE_80 flX12_83 (sM_0) rfl ?_
            refine rx_aload_n dX12_takesE_83 rfl ?_
            refine rx_dup dX12_takesE_84 rfl ?_
            refine rx_getI dX12_takesE_85 flX12_50 (sM_0) rfl ?_
            simp (disch := omega) only [upS_ne]
            rw [hM.1.2.2.2.1]
            refine rx_iconst (1) dX12_takesE_88 (by decide) ?_
            refine rx_iadd dX12_takesE_89 ?_
            rw [nI_1]
            refine rx_putI dX12_takesE_90 flX12_50 (sM_0) rfl ?_
            refine rx_goto 22 dX12_takesE_93 (by decide) ?_
            refine rx_wk [some (.ref 0), some (.int (nI c)), some (.int 1), none] ⟨Or.inr rfl, Or.inr rfl, Or.inr rfl, Or.inl rfl, trivial⟩ ?_
            exact ih (p1 + 1) (chr T p1 :: w) (k + 1) true cs _ (hM.push hb hpl) (hE.qe ((((QE.refl.up0 (by decide)).up15).up0 (by decide)).up0 (by decide))) (by omega) ((mR_opn hb hk4).symm.trans hR)
          · refine rx_iconst (0) dX12_takesE_51 (by decide) ?_
            exact rx_zret dX12_takesE_52 rfl (by decide) ⟨Nat.le_refl _, Nat.le_refl _⟩ ⟨rfl, _, rfl, ⟨⟨Or.inl rfl, fun q => absurd rfl q, fun _ => ⟨p1, [], (hR.symm.trans (by rw [show k = 4 from (nI_eq (b := 4) (by omega) (by omega)).mp h48]; exact mR_full hb)), hM.1.2.2.2.1⟩, (hE).1, (hE).2.1, (hE).2.2.1⟩, rfl⟩⟩
        · refine rx_iload_n dX12_takesE_37 rfl ?_
          refine rx_bipush (40) dX12_takesE_38 (by decide) ?_
          refine rx_icmp_ne 96 dX12_takesE_40 (by decide) (fun h40 => ?_) (fun h40 => ?_)
          · have hb : ¬ (chr T p1 = 33 ∨ chr T p1 = 40) := fun q => q.elim h34 h40
            refine rx_aload_n dX12_takesE_96 rfl ?_
            refine rx_cVi_0 clX12_272 dX12_takesE_97 (rcvo (sM_0) rfl) rfl (m_takesTest g f T p1 (css ++ cs) w k S1 L hM) ?_
            rintro x2 S2 L2 ⟨⟨hx2, hy2, hn2, hq2⟩, hL2⟩
            rw [hL2]
            refine rx_if_eq 108 dX12_takesE_100 (by decide) (fun h100 => ?_) (fun h100 => ?_)
            · obtain ⟨q, hq, e13⟩ := hn2 h100
              refine rx_iconst (0) dX12_takesE_108 (by decide) ?_
              exact rx_zret dX12_takesE_109 rfl (by decide) ⟨Nat.le_refl _, Nat.le_refl _⟩ ⟨rfl, _, rfl, ⟨⟨Or.inl rfl, fun q => absurd rfl q, fun _ => ⟨q, [], (hR.symm.trans (mR_tstF hb hq)), e13⟩, (hE.qe hq2).1, (hE.qe hq2).2.1, (hE.qe hq2).2.2.1⟩, rfl⟩⟩
            · refine rx_iconst (0) dX12_takesE_103 (by decide) ?_
              refine rx_istore_2 rfl dX12_takesE_104 ?_
              refine rx_goto 22 dX12_takesE_105 (by decide) ?_
              obtain ⟨t, q, ht, hpq, hM2⟩ := hy2 h100
              refine rx_wk [some (.ref 0), some (.int (nI c)), some (.int 0), none] ⟨Or.inr rfl, Or.inr rfl, Or.inr rfl, Or.inl rfl, trivial⟩ ?_
              exact ih q _ _ false (cs ++ t :: (whl w k).1) S2 (by rw [← List.append_assoc]; exact hM2) (hE.qe hq2) (by omega) ((mR_tst hb ht).symm.trans hR)
          · have hb : chr T p1 = 33 ∨ chr T p1 = 40 := Or.inr h40
            have hpl : p1 < T.length := hb.elim (fun e => chr_in e (by decide)) (fun e => chr_in e (by decide))
            refine rx_aload_n dX12_takesE_43 rfl ?_
            refine rx_getI dX12_takesE_44 flX12_86 (sM_0) rfl ?_
            rw [hM.2.2.2.1]
            refine rx_iconst (4) dX12_takesE_47 (by decide) ?_
            refine rx_icmp_ne 53 dX12_takesE_48 (by decide) (fun h48 => ?_) (fun h48 => ?_)
            · have hk4 : ¬ k = 4 := fun e => h48 (by rw [e]; rfl)
              refine rx_aload_n dX12_takesE_53 rfl ?_
              refine rx_dup dX12_takesE_54 rfl ?_
              refine rx_getI dX12_takesE_55 flX12_86 (sM_0) rfl ?_
              rw [hM.2.2.2.1]
              refine rx_iconst (1) dX12_takesE_58 (by decide) ?_
              refine rx_iadd dX12_takesE_59 ?_
              rw [nI_1]
              refine rx_putI dX12_takesE_60 flX12_86 (sM_0) rfl ?_
              refine rx_aload_n dX12_takesE_63 rfl ?_
              refine rx_getR dX12_takesE_64 flX12_77 (sM_0) rfl ?_
              refine rx_aload_n dX12_takesE_67 rfl ?_
              refine rx_getI dX12_takesE_68 flX12_83 (sM_0) rfl ?_
              simp (disch := omega) only [upS_ne]
              rw [hM.2.2.1]
              refine rx_iload_n dX12_takesE_71 rfl ?_
              refine rx_iastore dX12_takesE_72 (sM_15) (vp_in_nI (by omega) (by omega)) ?_
              rw [hwc]
              refine rx_aload_n dX12_takesE_73 rfl ?_
              refine rx_dup dX12_takesE_74 rfl ?_
              refine rx_getI dX12_takesE_75 flX12_83 (sM_0) rfl ?_
              simp (disch := omega) only [upS_ne]
              rw [hM.2.2.1]
              refine rx_iconst (1) dX12_takesE_78 (by decide) ?_
              refine rx_iadd dX12_takesE_79 ?_
              rw [nI_1]
              refine rx_putI dX12_takesE_80 flX12_83 (sM_0) rfl ?_
              refine rx_aload_n dX12_takesE_83 rfl ?_
              refine rx_dup dX12_takesE_84 rfl ?_
              refine rx_getI dX12_takesE_85 flX12_50 (sM_0) rfl ?_
              simp (disch := omega) only [upS_ne]
              rw [hM.1.2.2.2.1]
              refine rx_iconst (1) dX12_takesE_88 (by decide) ?_
              refine rx_iadd dX12_takesE_89 ?_
              rw [nI_1]
              refine rx_putI dX12_takesE_90 flX12_50 (sM_0) rfl ?_
              refine rx_goto 22 dX12_takesE_93 (by decide) ?_
              refine rx_wk [some (.ref 0), some (.int (nI c)), some (.int 1), none] ⟨Or.inr rfl, Or.inr rfl, Or.inr rfl, Or.inl rfl, trivial⟩ ?_
              exact ih (p1 + 1) (chr T p1 :: w) (k + 1) true cs _ (hM.push hb hpl) (hE.qe ((((QE.refl.up0 (by decide)).up15).up0 (by decide)).up0 (by decide))) (by omega) ((mR_opn hb hk4).symm.trans hR)
            · refine rx_iconst (0) dX12_takesE_51 (by decide) ?_
              exact rx_zret dX12_takesE_52 rfl (by decide) ⟨Nat.le_refl _, Nat.le_refl _⟩ ⟨rfl, _, rfl, ⟨⟨Or.inl rfl, fun q => absurd rfl q, fun _ => ⟨p1, [], (hR.symm.trans (by rw [show k = 4 from (nI_eq (b := 4) (by omega) (by omega)).mp h48]; exact mR_full hb)), hM.1.2.2.2.1⟩, (hE).1, (hE).2.1, (hE).2.2.1⟩, rfl⟩⟩
      | false =>
        refine rx_aload_n dX12_takesE_22 rfl ?_
        refine rx_cVi_0 clX12_248 dX12_takesE_23 (rcvo (sM_0) rfl) rfl (m_next g f T p1 (css ++ cs) S1 L hM.1) ?_
        refine pur3 ?_
        refine rx_istore_3 rfl dX12_takesE_26 ?_
        refine rx_iload_n dX12_takesE_27 rfl ?_
        refine rx_if_eq 110 dX12_takesE_28 (by decide) (fun h28 => ?_) (fun h28 => absurd h28 (by decide))
        refine rx_iload_n dX12_takesE_110 rfl ?_
        refine rx_bipush (38) dX12_takesE_111 (by decide) ?_
        refine rx_icmp_eq 122 dX12_takesE_113 (by decide) (fun h113 => ?_) (fun h113 => ?_)
        · have hb : chr T p1 = 38 ∨ chr T p1 = 124 := Or.inl h113
          have hpl : p1 < T.length := hb.elim (fun e => chr_in e (by decide)) (fun e => chr_in e (by decide))
          refine rx_aload_n dX12_takesE_122 rfl ?_
          refine rx_iload_n dX12_takesE_123 rfl ?_
          refine rx_cVv_1 clX12_275 dX12_takesE_124 (rcvo (sM_0) rfl) rfl (m_settle g f T p1 (css ++ cs) w k (chr T p1) S1 L hM) ?_
          rintro S2 L2 ⟨⟨hM2, hq2⟩, hL2⟩
          rw [hL2]
          have hlw2 : (css ++ cs ++ (setl (chr T p1) w).1).length + (setl (chr T p1) w).2.length ≤ p1 := hM2.2.2.2.2.2.2
          have hwc2 : (nI (setl (chr T p1) w).2.length).toNatClampNeg = (setl (chr T p1) w).2.length := nI_clamp (by omega)
          refine rx_aload_n dX12_takesE_127 rfl ?_
          refine rx_getR dX12_takesE_128 flX12_77 (sM_0) rfl ?_
          refine rx_aload_n dX12_takesE_131 rfl ?_
          refine rx_getI dX12_takesE_132 flX12_83 (sM_0) rfl ?_
          rw [hM2.2.2.1]
          refine rx_iload_n dX12_takesE_135 rfl ?_
          refine rx_iastore dX12_takesE_136 (sM_15) (vp_in_nI (by omega) (by omega)) ?_
          rw [hwc2]
          refine rx_aload_n dX12_takesE_137 rfl ?_
          refine rx_dup dX12_takesE_138 rfl ?_
          refine rx_getI dX12_takesE_139 flX12_83 (sM_0) rfl ?_
          simp (disch := omega) only [upS_ne]
          rw [hM2.2.2.1]
          refine rx_iconst (1) dX12_takesE_142 (by decide) ?_
          refine rx_iadd dX12_takesE_143 ?_
          rw [nI_1]
          refine rx_putI dX12_takesE_144 flX12_83 (sM_0) rfl ?_
          refine rx_iconst (1) dX12_takesE_147 (by decide) ?_
          refine rx_istore_2 rfl dX12_takesE_148 ?_
          refine rx_aload_n dX12_takesE_149 rfl ?_
          refine rx_dup dX12_takesE_150 rfl ?_
          refine rx_getI dX12_takesE_151 flX12_50 (sM_0) rfl ?_
          simp (disch := omega) only [upS_ne]
          rw [hM2.1.2.2.2.1]
          refine rx_iconst (1) dX12_takesE_154 (by decide) ?_
          refine rx_iadd dX12_takesE_155 ?_
          rw [nI_1]
          refine rx_putI dX12_takesE_156 flX12_50 (sM_0) rfl ?_
          refine rx_goto 22 dX12_takesE_159 (by decide) ?_
          refine rx_wk [some (.ref 0), some (.int (nI c)), some (.int 1), none] ⟨Or.inr rfl, Or.inr rfl, Or.inr rfl, Or.inl rfl, trivial⟩ ?_
          exact ih (p1 + 1) (chr T p1 :: (setl (chr T p1) w).2) k true (cs ++ (setl (chr T p1) w).1) _ (by rw [← List.append_assoc]; exact hM2.pushop hb hpl) ((hE.qe hq2).qe (((QE.refl.up15).up0 (by decide)).up0 (by decide))) (by omega) ((mR_op hb).symm.trans hR)
        · refine rx_iload_n dX12_takesE_116 rfl ?_
          refine rx_bipush (124) dX12_takesE_117 (by decide) ?_
          refine rx_icmp_ne 162 dX12_takesE_119 (by decide) (fun h119 => ?_) (fun h119 => ?_)
          · have hb : ¬ (chr T p1 = 38 ∨ chr T p1 = 124) := fun q => q.elim h113 h119
            refine rx_aload_n dX12_takesE_162 rfl ?_
            refine rx_bipush (124) dX12_takesE_163 (by decide) ?_
            refine rx_cVv_1 clX12_275 dX12_takesE_165 (rcvo (sM_0) rfl) rfl (m_settle g f T p1 (css ++ cs) w k 124 S1 L hM) ?_
            rintro S2 L2 ⟨⟨hM2, hq2⟩, hL2⟩
            rw [hL2]
            have hlw2 : (css ++ cs ++ (setl 124 w).1).length + (setl 124 w).2.length ≤ p1 := hM2.2.2.2.2.2.2
            have hwc2 : (nI (setl 124 w).2.length).toNatClampNeg = (setl 124 w).2.length := nI_clamp (by omega)
            refine rx_aload_n dX12_takesE_168 rfl ?_
            refine rx_getR dX12_takesE_169 flX12_71 (sM_0) rfl ?_
            refine rx_iload_n dX12_takesE_172 rfl ?_
            refine rx_aload_n dX12_takesE_173 rfl ?_
            refine rx_getI dX12_takesE_174 flX12_80 (sM_0) rfl ?_
            rw [hM2.1.2.2.2.2.2.1]
            refine rx_iastore dX12_takesE_177 (sM_13) hcv ?_
            rw [hcc]
            refine rx_aload_n dX12_takesE_178 rfl ?_
            refine rx_getI dX12_takesE_179 flX12_83 (sM_0) rfl ?_
            rw [upS_off _ _ _ _ (by decide : (0 : Nat) ≠ 13), hM2.2.2.1]
            refine rx_if_ne 187 dX12_takesE_182 (by decide) (fun h182 => ?_) (fun h182 => ?_)
            · obtain ⟨a, r, hs⟩ : ∃ a r, (setl 124 w).2 = a :: r := List.exists_cons_of_ne_nil (fun e => h182 (by rw [e]; rfl))
              refine rx_iload_n dX12_takesE_187 rfl ?_
              refine rx_bipush (41) dX12_takesE_188 (by decide) ?_
              refine rx_icmp_eq 195 dX12_takesE_190 (by decide) (fun h190 => ?_) (fun h190 => ?_)
              · have hpl : p1 < T.length := chr_in h190 (by decide)
                rw [hs] at hM2
                obtain ⟨hk0, hM4⟩ := hM2.popcl (c := c) (v := (nI (100 * f + (css ++ cs ++ (setl 124 w).1).length))) (setl_top w hs) hpl
                refine rx_aload_n dX12_takesE_195 rfl ?_
                refine rx_dup dX12_takesE_196 rfl ?_
                refine rx_getI dX12_takesE_197 flX12_83 (sM_0) rfl ?_
                rw [upS_off _ _ _ _ (by decide : (0 : Nat) ≠ 13), hM2.2.2.1]
                refine rx_iconst (1) dX12_takesE_200 (by decide) ?_
                refine rx_isub dX12_takesE_201 ?_
                rw [show nI (a :: r).length - 1 = nI r.length from nI_pred r.length]
                refine rx_putI dX12_takesE_202 flX12_83 (sM_0) rfl ?_
                refine rx_aload_n dX12_takesE_205 rfl ?_
                refine rx_dup dX12_takesE_206 rfl ?_
                refine rx_getI dX12_takesE_207 flX12_86 (sM_0) rfl ?_
                simp (disch := omega) only [upS_ne]
                rw [hM2.2.2.2.1]
                refine rx_iconst (1) dX12_takesE_210 (by decide) ?_
                refine rx_isub dX12_takesE_211 ?_
                rw [nI_dec hk0]
                refine rx_putI dX12_takesE_212 flX12_86 (sM_0) rfl ?_
                refine rx_aload_n dX12_takesE_215 rfl ?_
                refine rx_dup dX12_takesE_216 rfl ?_
                refine rx_getI dX12_takesE_217 flX12_50 (sM_0) rfl ?_
                simp (disch := omega) only [upS_ne]
                rw [hM2.1.2.2.2.1]
                refine rx_iconst (1) dX12_takesE_220 (by decide) ?_
                refine rx_iadd dX12_takesE_221 ?_
                rw [nI_1]
                refine rx_putI dX12_takesE_222 flX12_50 (sM_0) rfl ?_
                refine rx_aload_n dX12_takesE_225 rfl ?_
                refine rx_cVv_0 clX12_269 dX12_takesE_226 (rcvo (sM_0) rfl) rfl (m_whole g f T (p1 + 1) (css ++ cs ++ (setl 124 w).1) r (k - 1) _ L hM4) ?_
                rintro S5 L5 ⟨⟨hM5, hq5⟩, hL5⟩
                rw [hL5]
                refine rx_goto 22 dX12_takesE_229 (by decide) ?_
                refine rx_wk [some (.ref 0), some (.int (nI c)), some (.int 0), none] ⟨Or.inr rfl, Or.inr rfl, Or.inr rfl, Or.inl rfl, trivial⟩ ?_
                exact ih (p1 + 1) _ _ false (cs ++ (setl 124 w).1 ++ (whl r (k - 1)).1) S5 (by simp only [List.append_assoc] at hM5 ⊢; exact hM5) ((((hE.qe hq2).up13).qe (((QE.refl.up0 (by decide)).up0 (by decide)).up0 (by decide))).qe hq5) (by omega) ((mR_cl hb hs h190).symm.trans hR)
              · refine rx_iconst (0) dX12_takesE_193 (by decide) ?_
                exact rx_zret dX12_takesE_194 rfl (by decide) ⟨Nat.le_refl _, Nat.le_refl _⟩ ⟨rfl, _, rfl, ⟨⟨Or.inl rfl, fun q => absurd rfl q, fun _ => ⟨p1, [], (hR.symm.trans (mR_no hb hs h190)), (congrFun (upS_off _ _ _ _ (by decide)) 13).trans hM2.1.2.2.2.1⟩, ((hE.qe hq2).up13).1, ((hE.qe hq2).up13).2.1, ((hE.qe hq2).up13).2.2.1⟩, rfl⟩⟩
            · have hs0 : (setl 124 w).2 = [] := List.eq_nil_of_length_eq_zero ((nI_eq (b := 0) (by omega) (by omega)).mp h182)
              refine rx_iconst (1) dX12_takesE_185 (by decide) ?_
              exact rx_zret dX12_takesE_186 rfl (by decide) ⟨Nat.le_refl _, Nat.le_refl _⟩ ⟨rfl, _, rfl, ⟨⟨Or.inr rfl, fun _ => ⟨p1, cs ++ (setl 124 w).1, hR.symm.trans (mR_fin hb hs0), by rw [← List.append_assoc]; exact hM2.1.up13, by rw [upS_off _ _ _ _ (by decide : (12 : Nat) ≠ 13)]; exact (hE.qe hq2).2.2.2, by rw [upS_at]; congr 1; simp only [List.length_append]; omega⟩, fun q => absurd q (by decide), (hE.qe hq2).up13.1, (hE.qe hq2).up13.2.1, (hE.qe hq2).up13.2.2.1⟩, rfl⟩⟩
          · have hb : chr T p1 = 38 ∨ chr T p1 = 124 := Or.inr h119
            have hpl : p1 < T.length := hb.elim (fun e => chr_in e (by decide)) (fun e => chr_in e (by decide))
            refine rx_aload_n dX12_takesE_122 rfl ?_
            refine rx_iload_n dX12_takesE_123 rfl ?_
            refine rx_cVv_1 clX12_275 dX12_takesE_124 (rcvo (sM_0) rfl) rfl (m_settle g f T p1 (css ++ cs) w k (chr T p1) S1 L hM) ?_
            rintro S2 L2 ⟨⟨hM2, hq2⟩, hL2⟩
            rw [hL2]
            have hlw2 : (css ++ cs ++ (setl (chr T p1) w).1).length + (setl (chr T p1) w).2.length ≤ p1 := hM2.2.2.2.2.2.2
            have hwc2 : (nI (setl (chr T p1) w).2.length).toNatClampNeg = (setl (chr T p1) w).2.length := nI_clamp (by omega)
            refine rx_aload_n dX12_takesE_127 rfl ?_
            refine rx_getR dX12_takesE_128 flX12_77 (sM_0) rfl ?_
            refine rx_aload_n dX12_takesE_131 rfl ?_
            refine rx_getI dX12_takesE_132 flX12_83 (sM_0) rfl ?_
            rw [hM2.2.2.1]
            refine rx_iload_n dX12_takesE_135 rfl ?_
            refine rx_iastore dX12_takesE_136 (sM_15) (vp_in_nI (by omega) (by omega)) ?_
            rw [hwc2]
            refine rx_aload_n dX12_takesE_137 rfl ?_
            refine rx_dup dX12_takesE_138 rfl ?_
            refine rx_getI dX12_takesE_139 flX12_83 (sM_0) rfl ?_
            simp (disch := omega) only [upS_ne]
            rw [hM2.2.2.1]
            refine rx_iconst (1) dX12_takesE_142 (by decide) ?_
            refine rx_iadd dX12_takesE_143 ?_
            rw [nI_1]
            refine rx_putI dX12_takesE_144 flX12_83 (sM_0) rfl ?_
            refine rx_iconst (1) dX12_takesE_147 (by decide) ?_
            refine rx_istore_2 rfl dX12_takesE_148 ?_
            refine rx_aload_n dX12_takesE_149 rfl ?_
            refine rx_dup dX12_takesE_150 rfl ?_
            refine rx_getI dX12_takesE_151 flX12_50 (sM_0) rfl ?_
            simp (disch := omega) only [upS_ne]
            rw [hM2.1.2.2.2.1]
            refine rx_iconst (1) dX12_takesE_154 (by decide) ?_
            refine rx_iadd dX12_takesE_155 ?_
            rw [nI_1]
            refine rx_putI dX12_takesE_156 flX12_50 (sM_0) rfl ?_
            refine rx_goto 22 dX12_takesE_159 (by decide) ?_
            refine rx_wk [some (.ref 0), some (.int (nI c)), some (.int 1), none] ⟨Or.inr rfl, Or.inr rfl, Or.inr rfl, Or.inl rfl, trivial⟩ ?_
            exact ih (p1 + 1) (chr T p1 :: (setl (chr T p1) w).2) k true (cs ++ (setl (chr T p1) w).1) _ (by rw [← List.append_assoc]; exact hM2.pushop hb hpl) ((hE.qe hq2).qe (((QE.refl.up15).up0 (by decide)).up0 (by decide))) (by omega) ((mR_op hb).symm.trans hR)
  refine rx_aload_n dX12_takesE_0 rfl ?_
  refine rx_iconst (0) dX12_takesE_1 (by decide) ?_
  refine rx_putI dX12_takesE_2 flX12_83 (sM_0) rfl ?_
  refine rx_aload_n dX12_takesE_5 rfl ?_
  refine rx_iconst (0) dX12_takesE_6 (by decide) ?_
  refine rx_putI dX12_takesE_7 flX12_86 (sM_0) rfl ?_
  refine rx_aload_n dX12_takesE_10 rfl ?_
  refine rx_getR dX12_takesE_11 flX12_68 (sM_0) rfl ?_
  refine rx_iload_n dX12_takesE_14 rfl ?_
  refine rx_aload_n dX12_takesE_15 rfl ?_
  refine rx_getI dX12_takesE_16 flX12_80 (sM_0) rfl ?_
  simp (disch := omega) only [upS_ne]
  rw [k6]
  refine rx_iastore dX12_takesE_19 (sM_12) hcv ?_
  rw [hcc]
  refine rx_iconst (1) dX12_takesE_20 (by decide) ?_
  refine rx_istore_2 rfl dX12_takesE_21 ?_
  exact loop (T.length + 1 - p) p [] 0 true [] _ ⟨by rw [List.append_nil]; exact ((hP.f0 (by decide) (by decide) (by decide)).f0 (by decide) (by decide) (by decide)).up12, trivial, by simp (disch := omega) only [upS_ne, upS_at]; rfl, by simp (disch := omega) only [upS_ne, upS_at]; rfl, rfl, (fun _ h => absurd h List.not_mem_nil), by rw [List.append_nil]; exact k8⟩ ⟨(((QF.refl.up0 (by decide)).up0 (by decide)).upc (by decide) (by decide)), by simp (disch := omega) only [upS_off], by simp (disch := omega) only [upS_off], upS_at _ _ _ _⟩ (by omega) rfl
