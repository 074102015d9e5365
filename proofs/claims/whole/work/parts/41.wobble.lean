def bI (b : Bool) : Int32 := if b then 1 else 0
def PB (f : Nat → Int32) : List Bool → Prop
  | [] => True
  | b :: r => f r.length = bI b ∧ PB f r
theorem PB.up {f : Nat → Int32} {k : Nat} {x : Int32} : ∀ {st : List Bool}, PB f st → st.length ≤ k → PB (upd f k x) st
  | [], _, _ => trivial
  | b :: r, h, hk => ⟨by
      have hk2 : r.length < k := hk
      unfold upd
      rw [if_neg (Nat.ne_of_lt hk2)]
      exact h.1, PB.up h.2 (Nat.le_of_lt hk)⟩
theorem PB_set {f : Nat → Int32} {v : Int32} {b : Bool} {r : List Bool} (h : PB f r) (hv : v = bI b) : PB (upd f r.length v) (b :: r) := ⟨by unfold upd; rw [if_pos rfl, hv], h.up (Nat.le_refl _)⟩
theorem bI_t {b : Bool} (h : b = true) : vp_nar .boolean 1 = bI b := by rw [h]; rfl
theorem bI_f {b : Bool} (h : b = false) : vp_nar .boolean 0 = bI b := by rw [h]; rfl
theorem bI_n (b : Bool) : narrow .boolean (.int (bI b)) = .int (bI b) := by cases b <;> rfl
theorem MSc.off {S S' : SS} {E : EN} {D : DY} (h : MSc S E D) (ho : ∀ j, j ≠ 17 → j ≠ 18 → j ≠ 19 → S' j = S j) : MSc S' E D := by
  obtain ⟨a1, a2, a3, a4, a5, a6, ⟨y, hy, e, hY⟩, a8, a9, a10, a11, a12⟩ := h
  have h0 := ho 0 (by decide) (by decide) (by decide)
  refine ⟨by rw [h0]; exact a1, fun c hc => by rw [ho 1 (by decide) (by decide) (by decide)]; exact a2 c hc, fun c hc => by rw [ho 2 (by decide) (by decide) (by decide)]; exact a3 c hc, fun c hc => by rw [ho 4 (by decide) (by decide) (by decide)]; exact a4 c hc, fun c hc => by rw [ho 6 (by decide) (by decide) (by decide)]; exact a5 c hc, fun c hc => by rw [ho 7 (by decide) (by decide) (by decide)]; exact a6 c hc, ⟨y, hy, by rw [h0]; exact e, hY.off (fun j h1 h2 => ho j (by omega) (by omega) (by omega))⟩, fun c hc => by rw [ho 3 (by decide) (by decide) (by decide)]; exact a8 c hc, by rw [h0]; exact a9, by rw [h0]; exact a10, a11, fun c hc => by rw [ho 5 (by decide) (by decide) (by decide)]; exact a12 c hc⟩
theorem mn3_le {n : Int32} (h : n ≤ 3) : n = mn3 n := by
  unfold mn3
  rcases Int32.le_iff_lt_or_eq.mp h with q | q
  · exact (if_pos q).symm
  · rw [q]; rfl
theorem mn3_gt {n : Int32} (h : ¬ n ≤ 3) : 3 = mn3 n := (if_neg (fun q => h (Int32.le_of_lt q))).symm

theorem nI_pn {V : Nat} {x : Int32} (hV : V < 2 ^ 31) (hx : x < 0) : ¬ nI V = x := fun e => by
  have := nI_pos (n := V) hV
  rw [e] at this
  exact this hx
theorem nI_m (n : Nat) : nI (n + 1) + (-1) = nI n := by
  rw [← nI_1, Int32.add_assoc]
  simp

set_option maxRecDepth 20000 in
set_option maxHeartbeats 1000000 in
theorem m_holds (g : GG) (E : EN) (D : DY) (i c fr : Nat) (toks : List TK) (S : SS) (L : LL) (hM : MSc S E D) (hc : c < 7) (hi : i < 60) (hfr : S 12 i = nI fr) (hto : S 13 i = nI (fr + toks.length)) (hlen : fr + toks.length ≤ 600) (hcodes : ∀ j t, toks[j]? = some t → S 14 (fr + j) = encM t) (hwf : wfT toks 0) : Ci g 2 mX12_holds [.ref 0, .int (nI i), .int (nI c)] SHM S L (fun r S' L' => r = b2i (holdsP (facN E D c) toks = true) ∧ (∀ j, j ≠ 17 → S' j = S j) ∧ L' = L) := by
  refine ct_of (ls := [some (.ref 0), some (.int (nI i)), some (.int (nI c)), none, none, none, none, none]) 5 (by decide +kernel) rfl rfl ?_
  have hci : (nI i).toNatClampNeg = i := nI_clamp (by omega)
  have hvi60 : vp_in (nI i) 60 := vp_in_nI (by omega) (by omega)
  generalize hfin0 : evT (facN E D c) toks [] = fin at *
  have loop : ∀ (l : List TK) (j : Nat) (st : List Bool) (S1 : SS), toks.drop j = l → PB (S1 17) st → wfT l st.length → evT (facN E D c) l st = fin → j + l.length = toks.length → (∀ q, q ≠ 17 → S1 q = S q) → st.length ≤ 20 → Rx g 2 0 0 mX12_holds SHM.length (fun r sh' S' L' => sh' = SHM ∧ ∃ x, r = some (.int x) ∧ (x = b2i (holdsP (facN E D c) toks = true) ∧ (∀ j, j ≠ 17 → S' j = S j) ∧ L' = L)) 0 0 10 [some (.ref 0), some (.int (nI i)), some (.int (nI c)), some (.int (nI st.length)), some (.int (nI (fr + j))), none, none, none] [] SHM S1 L := by
    intro l
    induction l with
    | nil =>
      intro j st S1 hd hx hw hev hj hF hsl
      have hst : st.length = 1 := hw
      obtain ⟨a, rfl⟩ : ∃ a, st = [a] := by
        cases st with
        | nil => simp at hst
        | cons a r => cases r with
          | nil => exact ⟨a, rfl⟩
          | cons b r => simp at hst
      have hx1 : S1 17 0 = bI a := hx.1
      have hfin : holdsP (facN E D c) toks = a := by
        unfold holdsP; rw [hfin0, ← hev]; rfl
      have hj : j = toks.length := by simpa using hj
      refine rx_iload dX12_holds_10 rfl ?_
      refine rx_aload_n dX12_holds_12 rfl ?_
      refine rx_getR dX12_holds_13 flX12_71 (sM_0) rfl ?_
      refine rx_iload_n dX12_holds_16 rfl ?_
      refine rx_iaload dX12_holds_17 (sM_13) hvi60 ?_
      rw [hci, hF 13 (by decide), hto]
      refine rx_icmp_ge 243 dX12_holds_18 (by decide) (fun h18 => ?_) (fun h18 => absurd (nI_le (by omega) (by omega)) h18)
      refine rx_aload_n dX12_holds_243 rfl ?_
      refine rx_getR dX12_holds_244 flX12_95 (sM_0) rfl ?_
      refine rx_iconst (0) dX12_holds_247 (by decide) ?_
      refine rx_zaload dX12_holds_248 (sM_17) (vp_in_nI (n := 0) (by decide) (by decide)) ?_
      rw [show (0 : Int32).toNatClampNeg = 0 from by decide +kernel, hx1]
      exact rx_zret dX12_holds_249 rfl (bI_n _) ⟨Nat.le_refl _, Nat.le_refl _⟩ ⟨rfl, _, rfl, ⟨by rw [hfin]; cases a <;> rfl, hF, rfl⟩⟩
    | cons t l ih =>
      intro j st S1 hd hx hw hev hj hF hsl
      have hM1 : MSc S1 E D := hM.off (fun q h1 _ _ => hF q h1)
      obtain ⟨f, s, n⟩ := t
      have hjl : j < toks.length := by simp at hj; omega
      have htj : toks[j]? = some (f, s, n) := by
        have := List.getElem?_drop (xs := toks) (i := j) (j := 0)
        rw [hd] at this
        simpa using this.symm
      have hd2 : toks.drop (j + 1) = l := by
        have : toks.drop (j + 1) = (toks.drop j).drop 1 := by rw [List.drop_drop]
        rw [this, hd]; rfl
      have hj2 : j + 1 + l.length = toks.length := by simp at hj; omega
      have hcj : (nI (fr + j)).toNatClampNeg = fr + j := nI_clamp (by omega)
      have hvj : vp_in (nI (fr + j)) 600 := vp_in_nI (by omega) (by omega)
      have hCj := hcodes j (f, s, n) htj
      refine rx_iload dX12_holds_10 rfl ?_
      refine rx_aload_n dX12_holds_12 rfl ?_
      refine rx_getR dX12_holds_13 flX12_71 (sM_0) rfl ?_
      refine rx_iload_n dX12_holds_16 rfl ?_
      refine rx_iaload dX12_holds_17 (sM_13) hvi60 ?_
      rw [hci, hF 13 (by decide), hto]
      refine rx_icmp_ge 243 dX12_holds_18 (by decide) (fun h18 => absurd h18 (nI_ge (by omega) (by omega))) (fun h18 => ?_)
      refine rx_aload_n dX12_holds_21 rfl ?_
      refine rx_getR dX12_holds_22 flX12_74 (sM_0) rfl ?_
      refine rx_iload dX12_holds_25 rfl ?_
      refine rx_iaload dX12_holds_27 (sM_14) hvj ?_
      rw [hcj, hF 14 (by decide), hCj]
      refine rx_istore_5 rfl dX12_holds_28 ?_
      rcases hw with ⟨hf, hs, hn, hh, hw⟩ | ⟨hf, hh, hw⟩ | ⟨hf, hh, hw⟩
      · dsimp only at hf hs hn
        have hvn : vp_in (nI st.length) 100 := vp_in_nI (by omega) (by omega)
        have hcn : (nI st.length).toNatClampNeg = st.length := nI_clamp (by omega)
        have e : encM (f, s, n) = nI (1000 * f + 100 * s + n) := if_pos hf
        rw [e]
        have q1 : nI (1000 * f + 100 * s + n) / 1000 = nI f := (pk_div (d := 1000) (by omega) (by omega) (by omega)).trans (congrArg nI (by omega))
        have q2 : nI (1000 * f + 100 * s + n) / 100 = nI (10 * f + s) := (pk_div (d := 100) (by omega) (by omega) (by omega)).trans (congrArg nI (by omega))
        have q3 : nI (10 * f + s) - nI (10 * f + s) / 10 * 10 = nI s := (pk_rem (d := 10) (by omega) (by omega) (by omega)).trans (congrArg nI (by omega))
        have r1 : nI (1000 * f + 100 * s + n) - nI (1000 * f + 100 * s + n) / 100 * 100 = nI n := (pk_rem (d := 100) (by omega) (by omega) (by omega)).trans (congrArg nI (by omega))
        have hev2 : evT (facN E D c) l (tstT (facN E D c) (f, s, n) :: st) = fin := by simpa [evT, oneT, show f < 6 from hf] using hev
        have hs3 : s = 0 ∨ s = 1 ∨ s = 2 := by omega
        rcases hs3 with rfl | rfl | rfl
        · skip
          refine rx_iload dX12_holds_30 rfl ?_
          refine rx_bipush (-33) dX12_holds_32 (by decide) ?_
          refine rx_icmp_ne 64 dX12_holds_34 (by decide) (fun h34 => ?_) (fun h34 => absurd h34 (nI_pn (by omega) (by decide)))
          refine rx_iload dX12_holds_64 rfl ?_
          refine rx_if_ge 143 dX12_holds_66 (by decide) (fun h66 => ?_) (fun h66 => absurd (nI_pos' (by omega)) h66)
          refine rx_aload_n dX12_holds_143 rfl ?_
          refine rx_iload dX12_holds_144 rfl ?_
          refine rx_sipush (1000) dX12_holds_146 (by decide) ?_
          refine rx_idiv dX12_holds_149 (by decide) ?_
          rw [q1]
          refine rx_iload_n dX12_holds_150 rfl ?_
          refine rx_cVi_2 clX12_310 dX12_holds_151 (rcvo (sM_0) rfl) rfl (m_factOf g E D f c S1 L hM1 hf hc) ?_
          refine pur3 ?_
          refine rx_istore_6 rfl dX12_holds_154 ?_
          refine rx_iload dX12_holds_156 rfl ?_
          refine rx_bipush (100) dX12_holds_158 (by decide) ?_
          refine rx_idiv dX12_holds_160 (by decide) ?_
          rw [q2]
          refine rx_bipush (10) dX12_holds_161 (by decide) ?_
          refine rx_irem dX12_holds_163 (by decide) ?_
          rw [q3]
          refine rx_istore_7 rfl dX12_holds_164 ?_
          refine rx_aload_n dX12_holds_166 rfl ?_
          refine rx_getR dX12_holds_167 flX12_95 (sM_0) rfl ?_
          refine rx_iload_n dX12_holds_170 rfl ?_
          refine rx_iload dX12_holds_171 rfl ?_
          refine rx_if_ne 194 dX12_holds_173 (by decide) (fun h173 => absurd rfl h173) (fun h173 => ?_)
          refine rx_iload dX12_holds_176 rfl ?_
          refine rx_iload dX12_holds_178 rfl ?_
          refine rx_bipush (100) dX12_holds_180 (by decide) ?_
          refine rx_irem dX12_holds_182 (by decide) ?_
          rw [r1]
          refine rx_icmp_ge 190 dX12_holds_183 (by decide) (fun h183 => ?_) (fun h183 => ?_)
          · refine rx_iconst (0) dX12_holds_190 (by decide) ?_
            refine rx_goto 233 dX12_holds_191 (by decide) ?_
            refine rx_zastore dX12_holds_233 (sM_17) hvn ?_
            refine rx_iinc_3 (1) rfl dX12_holds_234 (by decide) ?_
            refine rx_iinc_4 (1) rfl dX12_holds_237 (by decide) ?_
            refine rx_goto 10 dX12_holds_240 (by decide) ?_
            refine rx_wk [some (.ref 0), some (.int (nI i)), some (.int (nI c)), some (.int _), some (.int _), none, none, none] ⟨Or.inr rfl, Or.inr rfl, Or.inr rfl, Or.inr rfl, Or.inr rfl, Or.inl rfl, Or.inl rfl, Or.inl rfl, trivial⟩ ?_
            rw [nI_1, nI_1, Nat.add_assoc]
            refine ih (j + 1) (tstT (facN E D c) (f, 0, n) :: st) _ hd2 ?_ hw hev2 hj2 (fun q hq => by rw [upS_off _ _ _ _ hq]; exact hF q hq) (by simp; omega)
            rw [upS_row, hcn]
            first
              | exact PB_set hx (bI_t (decide_eq_true (Int32.not_le.mp h183)))
              | exact PB_set hx (bI_f (decide_eq_false (Int32.not_lt.mpr h183)))
          · refine rx_iconst (1) dX12_holds_186 (by decide) ?_
            refine rx_goto 233 dX12_holds_187 (by decide) ?_
            refine rx_zastore dX12_holds_233 (sM_17) hvn ?_
            refine rx_iinc_3 (1) rfl dX12_holds_234 (by decide) ?_
            refine rx_iinc_4 (1) rfl dX12_holds_237 (by decide) ?_
            refine rx_goto 10 dX12_holds_240 (by decide) ?_
            refine rx_wk [some (.ref 0), some (.int (nI i)), some (.int (nI c)), some (.int _), some (.int _), none, none, none] ⟨Or.inr rfl, Or.inr rfl, Or.inr rfl, Or.inr rfl, Or.inr rfl, Or.inl rfl, Or.inl rfl, Or.inl rfl, trivial⟩ ?_
            rw [nI_1, nI_1, Nat.add_assoc]
            refine ih (j + 1) (tstT (facN E D c) (f, 0, n) :: st) _ hd2 ?_ hw hev2 hj2 (fun q hq => by rw [upS_off _ _ _ _ hq]; exact hF q hq) (by simp; omega)
            rw [upS_row, hcn]
            first
              | exact PB_set hx (bI_t (decide_eq_true (Int32.not_le.mp h183)))
              | exact PB_set hx (bI_f (decide_eq_false (Int32.not_lt.mpr h183)))
        · skip
          refine rx_iload dX12_holds_30 rfl ?_
          refine rx_bipush (-33) dX12_holds_32 (by decide) ?_
          refine rx_icmp_ne 64 dX12_holds_34 (by decide) (fun h34 => ?_) (fun h34 => absurd h34 (nI_pn (by omega) (by decide)))
          refine rx_iload dX12_holds_64 rfl ?_
          refine rx_if_ge 143 dX12_holds_66 (by decide) (fun h66 => ?_) (fun h66 => absurd (nI_pos' (by omega)) h66)
          refine rx_aload_n dX12_holds_143 rfl ?_
          refine rx_iload dX12_holds_144 rfl ?_
          refine rx_sipush (1000) dX12_holds_146 (by decide) ?_
          refine rx_idiv dX12_holds_149 (by decide) ?_
          rw [q1]
          refine rx_iload_n dX12_holds_150 rfl ?_
          refine rx_cVi_2 clX12_310 dX12_holds_151 (rcvo (sM_0) rfl) rfl (m_factOf g E D f c S1 L hM1 hf hc) ?_
          refine pur3 ?_
          refine rx_istore_6 rfl dX12_holds_154 ?_
          refine rx_iload dX12_holds_156 rfl ?_
          refine rx_bipush (100) dX12_holds_158 (by decide) ?_
          refine rx_idiv dX12_holds_160 (by decide) ?_
          rw [q2]
          refine rx_bipush (10) dX12_holds_161 (by decide) ?_
          refine rx_irem dX12_holds_163 (by decide) ?_
          rw [q3]
          refine rx_istore_7 rfl dX12_holds_164 ?_
          refine rx_aload_n dX12_holds_166 rfl ?_
          refine rx_getR dX12_holds_167 flX12_95 (sM_0) rfl ?_
          refine rx_iload_n dX12_holds_170 rfl ?_
          refine rx_iload dX12_holds_171 rfl ?_
          refine rx_if_ne 194 dX12_holds_173 (by decide) (fun h173 => ?_) (fun h173 => absurd h173 (by decide))
          refine rx_iload dX12_holds_194 rfl ?_
          refine rx_iconst (1) dX12_holds_196 (by decide) ?_
          refine rx_icmp_ne 218 dX12_holds_197 (by decide) (fun h197 => absurd rfl h197) (fun h197 => ?_)
          refine rx_iload dX12_holds_200 rfl ?_
          refine rx_iload dX12_holds_202 rfl ?_
          refine rx_bipush (100) dX12_holds_204 (by decide) ?_
          refine rx_irem dX12_holds_206 (by decide) ?_
          rw [r1]
          refine rx_icmp_ne 214 dX12_holds_207 (by decide) (fun h207 => ?_) (fun h207 => ?_)
          · refine rx_iconst (0) dX12_holds_214 (by decide) ?_
            refine rx_goto 233 dX12_holds_215 (by decide) ?_
            refine rx_zastore dX12_holds_233 (sM_17) hvn ?_
            refine rx_iinc_3 (1) rfl dX12_holds_234 (by decide) ?_
            refine rx_iinc_4 (1) rfl dX12_holds_237 (by decide) ?_
            refine rx_goto 10 dX12_holds_240 (by decide) ?_
            refine rx_wk [some (.ref 0), some (.int (nI i)), some (.int (nI c)), some (.int _), some (.int _), none, none, none] ⟨Or.inr rfl, Or.inr rfl, Or.inr rfl, Or.inr rfl, Or.inr rfl, Or.inl rfl, Or.inl rfl, Or.inl rfl, trivial⟩ ?_
            rw [nI_1, nI_1, Nat.add_assoc]
            refine ih (j + 1) (tstT (facN E D c) (f, 1, n) :: st) _ hd2 ?_ hw hev2 hj2 (fun q hq => by rw [upS_off _ _ _ _ hq]; exact hF q hq) (by simp; omega)
            rw [upS_row, hcn]
            first
              | exact PB_set hx (bI_t (decide_eq_true h207))
              | exact PB_set hx (bI_f (decide_eq_false h207))
          · refine rx_iconst (1) dX12_holds_210 (by decide) ?_
            refine rx_goto 233 dX12_holds_211 (by decide) ?_
            refine rx_zastore dX12_holds_233 (sM_17) hvn ?_
            refine rx_iinc_3 (1) rfl dX12_holds_234 (by decide) ?_
            refine rx_iinc_4 (1) rfl dX12_holds_237 (by decide) ?_
            refine rx_goto 10 dX12_holds_240 (by decide) ?_
            refine rx_wk [some (.ref 0), some (.int (nI i)), some (.int (nI c)), some (.int _), some (.int _), none, none, none] ⟨Or.inr rfl, Or.inr rfl, Or.inr rfl, Or.inr rfl, Or.inr rfl, Or.inl rfl, Or.inl rfl, Or.inl rfl, trivial⟩ ?_
            rw [nI_1, nI_1, Nat.add_assoc]
            refine ih (j + 1) (tstT (facN E D c) (f, 1, n) :: st) _ hd2 ?_ hw hev2 hj2 (fun q hq => by rw [upS_off _ _ _ _ hq]; exact hF q hq) (by simp; omega)
            rw [upS_row, hcn]
            first
              | exact PB_set hx (bI_t (decide_eq_true h207))
              | exact PB_set hx (bI_f (decide_eq_false h207))
        · skip
          refine rx_iload dX12_holds_30 rfl ?_
          refine rx_bipush (-33) dX12_holds_32 (by decide) ?_
          refine rx_icmp_ne 64 dX12_holds_34 (by decide) (fun h34 => ?_) (fun h34 => absurd h34 (nI_pn (by omega) (by decide)))
          refine rx_iload dX12_holds_64 rfl ?_
          refine rx_if_ge 143 dX12_holds_66 (by decide) (fun h66 => ?_) (fun h66 => absurd (nI_pos' (by omega)) h66)
          refine rx_aload_n dX12_holds_143 rfl ?_
          refine rx_iload dX12_holds_144 rfl ?_
          refine rx_sipush (1000) dX12_holds_146 (by decide) ?_
          refine rx_idiv dX12_holds_149 (by decide) ?_
          rw [q1]
          refine rx_iload_n dX12_holds_150 rfl ?_
          refine rx_cVi_2 clX12_310 dX12_holds_151 (rcvo (sM_0) rfl) rfl (m_factOf g E D f c S1 L hM1 hf hc) ?_
          refine pur3 ?_
          refine rx_istore_6 rfl dX12_holds_154 ?_
          refine rx_iload dX12_holds_156 rfl ?_
          refine rx_bipush (100) dX12_holds_158 (by decide) ?_
          refine rx_idiv dX12_holds_160 (by decide) ?_
          rw [q2]
          refine rx_bipush (10) dX12_holds_161 (by decide) ?_
          refine rx_irem dX12_holds_163 (by decide) ?_
          rw [q3]
          refine rx_istore_7 rfl dX12_holds_164 ?_
          refine rx_aload_n dX12_holds_166 rfl ?_
          refine rx_getR dX12_holds_167 flX12_95 (sM_0) rfl ?_
          refine rx_iload_n dX12_holds_170 rfl ?_
          refine rx_iload dX12_holds_171 rfl ?_
          refine rx_if_ne 194 dX12_holds_173 (by decide) (fun h173 => ?_) (fun h173 => absurd h173 (by decide))
          refine rx_iload dX12_holds_194 rfl ?_
          refine rx_iconst (1) dX12_holds_196 (by decide) ?_
          refine rx_icmp_ne 218 dX12_holds_197 (by decide) (fun h197 => ?_) (fun h197 => absurd h197 (by decide))
          refine rx_iload dX12_holds_218 rfl ?_
          refine rx_iload dX12_holds_220 rfl ?_
          refine rx_bipush (100) dX12_holds_222 (by decide) ?_
          refine rx_irem dX12_holds_224 (by decide) ?_
          rw [r1]
          refine rx_icmp_le 232 dX12_holds_225 (by decide) (fun h225 => ?_) (fun h225 => ?_)
          · refine rx_iconst (0) dX12_holds_232 (by decide) ?_
            refine rx_zastore dX12_holds_233 (sM_17) hvn ?_
            refine rx_iinc_3 (1) rfl dX12_holds_234 (by decide) ?_
            refine rx_iinc_4 (1) rfl dX12_holds_237 (by decide) ?_
            refine rx_goto 10 dX12_holds_240 (by decide) ?_
            refine rx_wk [some (.ref 0), some (.int (nI i)), some (.int (nI c)), some (.int _), some (.int _), none, none, none] ⟨Or.inr rfl, Or.inr rfl, Or.inr rfl, Or.inr rfl, Or.inr rfl, Or.inl rfl, Or.inl rfl, Or.inl rfl, trivial⟩ ?_
            rw [nI_1, nI_1, Nat.add_assoc]
            refine ih (j + 1) (tstT (facN E D c) (f, 2, n) :: st) _ hd2 ?_ hw hev2 hj2 (fun q hq => by rw [upS_off _ _ _ _ hq]; exact hF q hq) (by simp; omega)
            rw [upS_row, hcn]
            first
              | exact PB_set hx (bI_t (decide_eq_true (Int32.not_le.mp h225)))
              | exact PB_set hx (bI_f (decide_eq_false (Int32.not_lt.mpr h225)))
          · refine rx_iconst (1) dX12_holds_228 (by decide) ?_
            refine rx_goto 233 dX12_holds_229 (by decide) ?_
            refine rx_zastore dX12_holds_233 (sM_17) hvn ?_
            refine rx_iinc_3 (1) rfl dX12_holds_234 (by decide) ?_
            refine rx_iinc_4 (1) rfl dX12_holds_237 (by decide) ?_
            refine rx_goto 10 dX12_holds_240 (by decide) ?_
            refine rx_wk [some (.ref 0), some (.int (nI i)), some (.int (nI c)), some (.int _), some (.int _), none, none, none] ⟨Or.inr rfl, Or.inr rfl, Or.inr rfl, Or.inr rfl, Or.inr rfl, Or.inl rfl, Or.inl rfl, Or.inl rfl, trivial⟩ ?_
            rw [nI_1, nI_1, Nat.add_assoc]
            refine ih (j + 1) (tstT (facN E D c) (f, 2, n) :: st) _ hd2 ?_ hw hev2 hj2 (fun q hq => by rw [upS_off _ _ _ _ hq]; exact hF q hq) (by simp; omega)
            rw [upS_row, hcn]
            first
              | exact PB_set hx (bI_t (decide_eq_true (Int32.not_le.mp h225)))
              | exact PB_set hx (bI_f (decide_eq_false (Int32.not_lt.mpr h225)))
      · dsimp only at hf
        subst hf
        obtain ⟨a, r, rfl⟩ : ∃ a r, st = a :: r := by
          cases st with
          | nil => simp at hh
          | cons a r => exact ⟨a, r, rfl⟩
        have hlr : r.length ≤ 20 := by have := hsl; simp at this; omega
        have hm : nI (a :: r).length - 1 = nI r.length := by rw [show (1 : Int32) = nI 1 from rfl, pk_sub (by simp)]; rfl
        have hcr : (nI r.length).toNatClampNeg = r.length := nI_clamp (by omega)
        have hvr : vp_in (nI r.length) 100 := vp_in_nI (by omega) (by omega)
        have hx1 : S1 17 r.length = bI a := hx.1
        have e : encM (6, s, n) = -33 := rfl
        rw [e]
        have hev2 : evT (facN E D c) l ((!a) :: r) = fin := by simpa [evT, oneT] using hev
        refine rx_iload dX12_holds_30 rfl ?_
        refine rx_bipush (-33) dX12_holds_32 (by decide) ?_
        refine rx_icmp_ne 64 dX12_holds_34 (by decide) (fun h34 => absurd rfl h34) (fun h34 => ?_)
        refine rx_aload_n dX12_holds_37 rfl ?_
        refine rx_getR dX12_holds_38 flX12_95 (sM_0) rfl ?_
        refine rx_iload_n dX12_holds_41 rfl ?_
        refine rx_iconst (1) dX12_holds_42 (by decide) ?_
        refine rx_isub dX12_holds_43 ?_
        rw [hm]
        refine rx_aload_n dX12_holds_44 rfl ?_
        refine rx_getR dX12_holds_45 flX12_95 (sM_0) rfl ?_
        refine rx_iload_n dX12_holds_48 rfl ?_
        refine rx_iconst (1) dX12_holds_49 (by decide) ?_
        refine rx_isub dX12_holds_50 ?_
        rw [hm]
        refine rx_zaload dX12_holds_51 (sM_17) hvr ?_
        rw [hcr, hx1]
        refine rx_if_ne 59 dX12_holds_52 (by decide) (fun h52 => ?_) (fun h52 => ?_)
        · refine rx_iconst (0) dX12_holds_59 (by decide) ?_
          refine rx_zastore dX12_holds_60 (sM_17) hvr ?_
          refine rx_goto 237 dX12_holds_61 (by decide) ?_
          refine rx_iinc_4 (1) rfl dX12_holds_237 (by decide) ?_
          refine rx_goto 10 dX12_holds_240 (by decide) ?_
          refine rx_wk [some (.ref 0), some (.int (nI i)), some (.int (nI c)), some (.int _), some (.int _), none, none, none] ⟨Or.inr rfl, Or.inr rfl, Or.inr rfl, Or.inr rfl, Or.inr rfl, Or.inl rfl, Or.inl rfl, Or.inl rfl, trivial⟩ ?_
          rw [nI_1, Nat.add_assoc]
          refine ih (j + 1) ((!a) :: r) _ hd2 ?_ hw hev2 hj2 (fun q hq => by rw [upS_off _ _ _ _ hq]; exact hF q hq) hsl
          rw [upS_row, hcr]
          exact PB_set hx.2 (by revert h52; cases a <;> decide +kernel)
        · refine rx_iconst (1) dX12_holds_55 (by decide) ?_
          refine rx_goto 60 dX12_holds_56 (by decide) ?_
          refine rx_zastore dX12_holds_60 (sM_17) hvr ?_
          refine rx_goto 237 dX12_holds_61 (by decide) ?_
          refine rx_iinc_4 (1) rfl dX12_holds_237 (by decide) ?_
          refine rx_goto 10 dX12_holds_240 (by decide) ?_
          refine rx_wk [some (.ref 0), some (.int (nI i)), some (.int (nI c)), some (.int _), some (.int _), none, none, none] ⟨Or.inr rfl, Or.inr rfl, Or.inr rfl, Or.inr rfl, Or.inr rfl, Or.inl rfl, Or.inl rfl, Or.inl rfl, trivial⟩ ?_
          rw [nI_1, Nat.add_assoc]
          refine ih (j + 1) ((!a) :: r) _ hd2 ?_ hw hev2 hj2 (fun q hq => by rw [upS_off _ _ _ _ hq]; exact hF q hq) hsl
          rw [upS_row, hcr]
          exact PB_set hx.2 (by revert h52; cases a <;> decide +kernel)
      · rcases hf with hf | hf
        · dsimp only at hf
          subst hf
          obtain ⟨a, b, r, rfl⟩ : ∃ a b r, st = a :: b :: r := by
            cases st with
            | nil => simp at hh
            | cons a r => cases r with
              | nil => simp at hh
              | cons b r => exact ⟨a, b, r, rfl⟩
          have hlr : r.length ≤ 20 := by have := hsl; simp at this; omega
          have hm1 : nI (a :: b :: r).length + (-1) = nI (b :: r).length := nI_m (b :: r).length
          have hm : nI (b :: r).length - 1 = nI r.length := by rw [show (1 : Int32) = nI 1 from rfl, pk_sub (by simp)]; rfl
          have hcr : (nI r.length).toNatClampNeg = r.length := nI_clamp (by omega)
          have hvr : vp_in (nI r.length) 100 := vp_in_nI (by omega) (by omega)
          have hcb : (nI (b :: r).length).toNatClampNeg = (b :: r).length := nI_clamp (by simp; omega)
          have hvb : vp_in (nI (b :: r).length) 100 := vp_in_nI (by simp; omega) (by omega)
          have hx0 : S1 17 (b :: r).length = bI a := hx.1
          have hx1 : S1 17 r.length = bI b := hx.2.1
          have e : encM (7, s, n) = -38 := rfl
          rw [e]
          have hev2 : evT (facN E D c) l ((b && a) :: r) = fin := by simpa [evT, oneT] using hev
          have hw2 : wfT l ((b && a) :: r).length := hw
          refine rx_iload dX12_holds_30 rfl ?_
          refine rx_bipush (-33) dX12_holds_32 (by decide) ?_
          refine rx_icmp_ne 64 dX12_holds_34 (by decide) (fun h34 => ?_) (fun h34 => absurd h34 (by decide))
          refine rx_iload dX12_holds_64 rfl ?_
          refine rx_if_ge 143 dX12_holds_66 (by decide) (fun h66 => absurd h66 (by decide)) (fun h66 => ?_)
          refine rx_iinc_3 (-1) rfl dX12_holds_69 (by decide) ?_
          rw [hm1]
          refine rx_aload_n dX12_holds_72 rfl ?_
          refine rx_getR dX12_holds_73 flX12_95 (sM_0) rfl ?_
          refine rx_iload_n dX12_holds_76 rfl ?_
          refine rx_iconst (1) dX12_holds_77 (by decide) ?_
          refine rx_isub dX12_holds_78 ?_
          rw [hm]
          refine rx_iload dX12_holds_79 rfl ?_
          refine rx_bipush (-38) dX12_holds_81 (by decide) ?_
          refine rx_icmp_ne 114 dX12_holds_83 (by decide) (fun h83 => absurd rfl h83) (fun h83 => ?_)
          refine rx_aload_n dX12_holds_86 rfl ?_
          refine rx_getR dX12_holds_87 flX12_95 (sM_0) rfl ?_
          refine rx_iload_n dX12_holds_90 rfl ?_
          refine rx_iconst (1) dX12_holds_91 (by decide) ?_
          refine rx_isub dX12_holds_92 ?_
          rw [hm]
          refine rx_zaload dX12_holds_93 (sM_17) hvr ?_
          rw [hcr, hx1]
          refine rx_if_eq 110 dX12_holds_94 (by decide) (fun h94 => ?_) (fun h94 => ?_)
          · refine rx_iconst (0) dX12_holds_110 (by decide) ?_
            refine rx_goto 139 dX12_holds_111 (by decide) ?_
            refine rx_zastore dX12_holds_139 (sM_17) hvr ?_
            refine rx_goto 237 dX12_holds_140 (by decide) ?_
            refine rx_iinc_4 (1) rfl dX12_holds_237 (by decide) ?_
            refine rx_goto 10 dX12_holds_240 (by decide) ?_
            refine rx_wk [some (.ref 0), some (.int (nI i)), some (.int (nI c)), some (.int _), some (.int _), none, none, none] ⟨Or.inr rfl, Or.inr rfl, Or.inr rfl, Or.inr rfl, Or.inr rfl, Or.inl rfl, Or.inl rfl, Or.inl rfl, trivial⟩ ?_
            rw [nI_1, Nat.add_assoc]
            refine ih (j + 1) ((b && a) :: r) _ hd2 ?_ hw2 hev2 hj2 (fun q hq => by rw [upS_off _ _ _ _ hq]; exact hF q hq) (by simp at hsl ⊢; omega)
            rw [upS_row, hcr]
            exact PB_set hx.2.2 (by first | (revert h94 h103; cases a <;> cases b <;> decide +kernel) | (revert h94; cases a <;> cases b <;> decide +kernel) | (revert h122 h131; cases a <;> cases b <;> decide +kernel) | (revert h122; cases a <;> cases b <;> decide +kernel))
          · refine rx_aload_n dX12_holds_97 rfl ?_
            refine rx_getR dX12_holds_98 flX12_95 (sM_0) rfl ?_
            refine rx_iload_n dX12_holds_101 rfl ?_
            refine rx_zaload dX12_holds_102 (sM_17) hvb ?_
            rw [hcb, hx0]
            refine rx_if_eq 110 dX12_holds_103 (by decide) (fun h103 => ?_) (fun h103 => ?_)
            · refine rx_iconst (0) dX12_holds_110 (by decide) ?_
              refine rx_goto 139 dX12_holds_111 (by decide) ?_
              refine rx_zastore dX12_holds_139 (sM_17) hvr ?_
              refine rx_goto 237 dX12_holds_140 (by decide) ?_
              refine rx_iinc_4 (1) rfl dX12_holds_237 (by decide) ?_
              refine rx_goto 10 dX12_holds_240 (by decide) ?_
              refine rx_wk [some (.ref 0), some (.int (nI i)), some (.int (nI c)), some (.int _), some (.int _), none, none, none] ⟨Or.inr rfl, Or.inr rfl, Or.inr rfl, Or.inr rfl, Or.inr rfl, Or.inl rfl, Or.inl rfl, Or.inl rfl, trivial⟩ ?_
              rw [nI_1, Nat.add_assoc]
              refine ih (j + 1) ((b && a) :: r) _ hd2 ?_ hw2 hev2 hj2 (fun q hq => by rw [upS_off _ _ _ _ hq]; exact hF q hq) (by simp at hsl ⊢; omega)
              rw [upS_row, hcr]
              exact PB_set hx.2.2 (by first | (revert h94 h103; cases a <;> cases b <;> decide +kernel) | (revert h94; cases a <;> cases b <;> decide +kernel) | (revert h122 h131; cases a <;> cases b <;> decide +kernel) | (revert h122; cases a <;> cases b <;> decide +kernel))
            · refine rx_iconst (1) dX12_holds_106 (by decide) ?_
              refine rx_goto 139 dX12_holds_107 (by decide) ?_
              refine rx_zastore dX12_holds_139 (sM_17) hvr ?_
              refine rx_goto 237 dX12_holds_140 (by decide) ?_
              refine rx_iinc_4 (1) rfl dX12_holds_237 (by decide) ?_
              refine rx_goto 10 dX12_holds_240 (by decide) ?_
              refine rx_wk [some (.ref 0), some (.int (nI i)), some (.int (nI c)), some (.int _), some (.int _), none, none, none] ⟨Or.inr rfl, Or.inr rfl, Or.inr rfl, Or.inr rfl, Or.inr rfl, Or.inl rfl, Or.inl rfl, Or.inl rfl, trivial⟩ ?_
              rw [nI_1, Nat.add_assoc]
              refine ih (j + 1) ((b && a) :: r) _ hd2 ?_ hw2 hev2 hj2 (fun q hq => by rw [upS_off _ _ _ _ hq]; exact hF q hq) (by simp at hsl ⊢; omega)
              rw [upS_row, hcr]
              exact PB_set hx.2.2 (by first | (revert h94 h103; cases a <;> cases b <;> decide +kernel) | (revert h94; cases a <;> cases b <;> decide +kernel) | (revert h122 h131; cases a <;> cases b <;> decide +kernel) | (revert h122; cases a <;> cases b <;> decide +kernel))
        · dsimp only at hf
          subst hf
          obtain ⟨a, b, r, rfl⟩ : ∃ a b r, st = a :: b :: r := by
            cases st with
            | nil => simp at hh
            | cons a r => cases r with
              | nil => simp at hh
              | cons b r => exact ⟨a, b, r, rfl⟩
          have hlr : r.length ≤ 20 := by have := hsl; simp at this; omega
          have hm1 : nI (a :: b :: r).length + (-1) = nI (b :: r).length := nI_m (b :: r).length
          have hm : nI (b :: r).length - 1 = nI r.length := by rw [show (1 : Int32) = nI 1 from rfl, pk_sub (by simp)]; rfl
          have hcr : (nI r.length).toNatClampNeg = r.length := nI_clamp (by omega)
          have hvr : vp_in (nI r.length) 100 := vp_in_nI (by omega) (by omega)
          have hcb : (nI (b :: r).length).toNatClampNeg = (b :: r).length := nI_clamp (by simp; omega)
          have hvb : vp_in (nI (b :: r).length) 100 := vp_in_nI (by simp; omega) (by omega)
          have hx0 : S1 17 (b :: r).length = bI a := hx.1
          have hx1 : S1 17 r.length = bI b := hx.2.1
          have e : encM (8, s, n) = -124 := rfl
          rw [e]
          have hev2 : evT (facN E D c) l ((b || a) :: r) = fin := by simpa [evT, oneT] using hev
          have hw2 : wfT l ((b || a) :: r).length := hw
          refine rx_iload dX12_holds_30 rfl ?_
          refine rx_bipush (-33) dX12_holds_32 (by decide) ?_
          refine rx_icmp_ne 64 dX12_holds_34 (by decide) (fun h34 => ?_) (fun h34 => absurd h34 (by decide))
          refine rx_iload dX12_holds_64 rfl ?_
          refine rx_if_ge 143 dX12_holds_66 (by decide) (fun h66 => absurd h66 (by decide)) (fun h66 => ?_)
          refine rx_iinc_3 (-1) rfl dX12_holds_69 (by decide) ?_
          rw [hm1]
          refine rx_aload_n dX12_holds_72 rfl ?_
          refine rx_getR dX12_holds_73 flX12_95 (sM_0) rfl ?_
          refine rx_iload_n dX12_holds_76 rfl ?_
          refine rx_iconst (1) dX12_holds_77 (by decide) ?_
          refine rx_isub dX12_holds_78 ?_
          rw [hm]
          refine rx_iload dX12_holds_79 rfl ?_
          refine rx_bipush (-38) dX12_holds_81 (by decide) ?_
          refine rx_icmp_ne 114 dX12_holds_83 (by decide) (fun h83 => ?_) (fun h83 => absurd h83 (by decide))
          refine rx_aload_n dX12_holds_114 rfl ?_
          refine rx_getR dX12_holds_115 flX12_95 (sM_0) rfl ?_
          refine rx_iload_n dX12_holds_118 rfl ?_
          refine rx_iconst (1) dX12_holds_119 (by decide) ?_
          refine rx_isub dX12_holds_120 ?_
          rw [hm]
          refine rx_zaload dX12_holds_121 (sM_17) hvr ?_
          rw [hcr, hx1]
          refine rx_if_ne 134 dX12_holds_122 (by decide) (fun h122 => ?_) (fun h122 => ?_)
          · refine rx_iconst (1) dX12_holds_134 (by decide) ?_
            refine rx_goto 139 dX12_holds_135 (by decide) ?_
            refine rx_zastore dX12_holds_139 (sM_17) hvr ?_
            refine rx_goto 237 dX12_holds_140 (by decide) ?_
            refine rx_iinc_4 (1) rfl dX12_holds_237 (by decide) ?_
            refine rx_goto 10 dX12_holds_240 (by decide) ?_
            refine rx_wk [some (.ref 0), some (.int (nI i)), some (.int (nI c)), some (.int _), some (.int _), none, none, none] ⟨Or.inr rfl, Or.inr rfl, Or.inr rfl, Or.inr rfl, Or.inr rfl, Or.inl rfl, Or.inl rfl, Or.inl rfl, trivial⟩ ?_
            rw [nI_1, Nat.add_assoc]
            refine ih (j + 1) ((b || a) :: r) _ hd2 ?_ hw2 hev2 hj2 (fun q hq => by rw [upS_off _ _ _ _ hq]; exact hF q hq) (by simp at hsl ⊢; omega)
            rw [upS_row, hcr]
            exact PB_set hx.2.2 (by first | (revert h94 h103; cases a <;> cases b <;> decide +kernel) | (revert h94; cases a <;> cases b <;> decide +kernel) | (revert h122 h131; cases a <;> cases b <;> decide +kernel) | (revert h122; cases a <;> cases b <;> decide +kernel))
          · refine rx_aload_n dX12_holds_125 rfl ?_
            refine rx_getR dX12_holds_126 flX12_95 (sM_0) rfl ?_
            refine rx_iload_n dX12_holds_129 rfl ?_
            refine rx_zaload dX12_holds_130 (sM_17) hvb ?_
            rw [hcb, hx0]
            refine rx_if_eq 138 dX12_holds_131 (by decide) (fun h131 => ?_) (fun h131 => ?_)
            · refine rx_iconst (0) dX12_holds_138 (by decide) ?_
              refine rx_zastore dX12_holds_139 (sM_17) hvr ?_
              refine rx_goto 237 dX12_holds_140 (by decide) ?_
              refine rx_iinc_4 (1) rfl dX12_holds_237 (by decide) ?_
              refine rx_goto 10 dX12_holds_240 (by decide) ?_
              refine rx_wk [some (.ref 0), some (.int (nI i)), some (.int (nI c)), some (.int _), some (.int _), none, none, none] ⟨Or.inr rfl, Or.inr rfl, Or.inr rfl, Or.inr rfl, Or.inr rfl, Or.inl rfl, Or.inl rfl, Or.inl rfl, trivial⟩ ?_
              rw [nI_1, Nat.add_assoc]
              refine ih (j + 1) ((b || a) :: r) _ hd2 ?_ hw2 hev2 hj2 (fun q hq => by rw [upS_off _ _ _ _ hq]; exact hF q hq) (by simp at hsl ⊢; omega)
              rw [upS_row, hcr]
              exact PB_set hx.2.2 (by first | (revert h94 h103; cases a <;> cases b <;> decide +kernel) | (revert h94; cases a <;> cases b <;> decide +kernel) | (revert h122 h131; cases a <;> cases b <;> decide +kernel) | (revert h122; cases a <;> cases b <;> decide +kernel))
            · refine rx_iconst (1) dX12_holds_134 (by decide) ?_
              refine rx_goto 139 dX12_holds_135 (by decide) ?_
              refine rx_zastore dX12_holds_139 (sM_17) hvr ?_
              refine rx_goto 237 dX12_holds_140 (by decide) ?_
              refine rx_iinc_4 (1) rfl dX12_holds_237 (by decide) ?_
              refine rx_goto 10 dX12_holds_240 (by decide) ?_
              refine rx_wk [some (.ref 0), some (.int (nI i)), some (.int (nI c)), some (.int _), some (.int _), none, none, none] ⟨Or.inr rfl, Or.inr rfl, Or.inr rfl, Or.inr rfl, Or.inr rfl, Or.inl rfl, Or.inl rfl, Or.inl rfl, trivial⟩ ?_
              rw [nI_1, Nat.add_assoc]
              refine ih (j + 1) ((b || a) :: r) _ hd2 ?_ hw2 hev2 hj2 (fun q hq => by rw [upS_off _ _ _ _ hq]; exact hF q hq) (by simp at hsl ⊢; omega)
              rw [upS_row, hcr]
              exact PB_set hx.2.2 (by first | (revert h94 h103; cases a <;> cases b <;> decide +kernel) | (revert h94; cases a <;> cases b <;> decide +kernel) | (revert h122 h131; cases a <;> cases b <;> decide +kernel) | (revert h122; cases a <;> cases b <;> decide +kernel))
  refine rx_iconst (0) dX12_holds_0 (by decide) ?_
  refine rx_istore_3 rfl dX12_holds_1 ?_
  refine rx_aload_n dX12_holds_2 rfl ?_
  refine rx_getR dX12_holds_3 flX12_68 (sM_0) rfl ?_
  refine rx_iload_n dX12_holds_6 rfl ?_
  refine rx_iaload dX12_holds_7 (sM_12) hvi60 ?_
  rw [hci, hfr]
  refine rx_istore_4 rfl dX12_holds_8 ?_
  exact loop toks 0 [] S rfl trivial hwf hfin0 (by omega) (fun _ _ => rfl) (by decide)
set_option maxRecDepth 20000 in
set_option maxHeartbeats 400000 in
theorem m_shake (g : GG) (E : EN) (D : DY) (c : Nat) (S : SS) (L : LL) (hM : MSc S E D) (hc : c < 7) : Ci g 3 mX12_shake [.ref 0, .int (nI c)] SHM S L (fun r S' L' => r = shkN E D c ∧ (∀ j, j ≠ 17 → S' j = S j) ∧ L' = L) := by
  refine ct_of (ls := [some (.ref 0), some (.int (nI c)), none, none]) 2 (by decide +kernel) rfl rfl ?_
  obtain ⟨y, hy, hyS, hY⟩ := hM.yd
  refine rx_iconst (0) dX12_shake_0 (by decide) ?_
  refine rx_istore_2 rfl dX12_shake_1 ?_
  refine rx_aload_n dX12_shake_2 rfl ?_
  refine rx_cVi_0 clX12_297 dX12_shake_3 (rcvo (sM_0) rfl) rfl (m_begin g E y S L hy hyS hY) ?_
  refine pur3 ?_
  refine rx_istore_3 rfl dX12_shake_6 ?_
  have hl10 : (eY E).2.2.2.length ≤ 10 := hY.2.1
  have loop : ∀ (r i : Nat) (z : Int32) (S1 : SS), i + r = (eY E).2.2.2.length → shakeP (facN E D c) ((eY E).2.2.2.drop i) z = shkN E D c → (∀ j, j ≠ 17 → S1 j = S j) → Rx g 3 0 0 mX12_shake SHM.length (fun r sh' S' L' => sh' = SHM ∧ ∃ x, r = some (.int x) ∧ (x = shkN E D c ∧ (∀ j, j ≠ 17 → S' j = S j) ∧ L' = L)) 0 0 7 [some (.ref 0), some (.int (nI c)), some (.int z), some (.int (nI (10 * (y - 1) + i)))] [] SHM S1 L := by
    intro r
    induction r with
    | zero =>
      intro i z S1 he hev hF
      have hyS1 : S1 0 11 = thI y := by rw [hF 0 (by decide)]; exact hyS
      have hY1 : MYd y S1 (eY E) := hY.off (fun j h1 h2 => hF j (by omega))
      refine rx_iload_n dX12_shake_7 rfl ?_
      refine rx_aload_n dX12_shake_8 rfl ?_
      refine rx_cVi_0 clX12_300 dX12_shake_9 (rcvo (sM_0) rfl) rfl (m_behind g E y S1 L hy hyS1 hY1) ?_
      refine pur3 ?_
      refine rx_icmp_ge 71 dX12_shake_12 (by decide) (fun h12 => ?_) (fun h12 => absurd (nI_le (by omega) (by omega)) h12)
      refine rx_iload_n dX12_shake_71 rfl ?_
      exact rx_iret dX12_shake_72 rfl ⟨Nat.le_refl _, Nat.le_refl _⟩ ⟨rfl, _, rfl, ⟨by rw [← hev, List.drop_of_length_le (by omega)]; rfl, hF, rfl⟩⟩
    | succ r ih =>
      intro i z S1 he hev hF
      have hyS1 : S1 0 11 = thI y := by rw [hF 0 (by decide)]; exact hyS
      have hY1 : MYd y S1 (eY E) := hY.off (fun j h1 h2 => hF j (by omega))
      have hM1 : MSc S1 E D := hM.off (fun j h1 _ _ => hF j h1)
      have hpos : 0 < y := by
        rcases (show y = 0 ∨ 0 < y by omega) with e | e
        · rw [hY.2.2.2.1 e] at he; simp at he
        · exact e
      obtain ⟨q0, hci⟩ : ∃ q0, (eY E).2.2.2[i]? = some q0 := ⟨_, List.getElem?_eq_getElem (by omega)⟩
      obtain ⟨b0, b1, b2, b3, b4, b5⟩ := (hY1.2.2.2.2 hpos).2 i q0 hci
      have hdr : (eY E).2.2.2.drop i = q0 :: (eY E).2.2.2.drop (i + 1) := by
        obtain ⟨g1, g2⟩ := List.getElem?_eq_some_iff.mp hci
        rw [List.drop_eq_getElem_cons g1, g2]
      have hw1 : ¬ nI q0.1 = 0 → q0.1 < 2 → q0.1 = 1 := fun q _ => by
        rcases (show q0.1 = 0 ∨ q0.1 = 1 by omega) with e | e
        · exact absurd (by rw [e]; rfl) q
        · exact e
      have hxc : (nI (10 * (y - 1) + i)).toNatClampNeg = 10 * (y - 1) + i := nI_clamp (by omega)
      have hvx : vp_in (nI (10 * (y - 1) + i)) 60 := vp_in_nI (by omega) (by omega)
      refine rx_iload_n dX12_shake_7 rfl ?_
      refine rx_aload_n dX12_shake_8 rfl ?_
      refine rx_cVi_0 clX12_300 dX12_shake_9 (rcvo (sM_0) rfl) rfl (m_behind g E y S1 L hy hyS1 hY1) ?_
      refine pur3 ?_
      refine rx_icmp_ge 71 dX12_shake_12 (by decide) (fun h12 => absurd h12 (nI_ge (by omega) (by omega))) (fun h12 => ?_)
      refine rx_aload_n dX12_shake_15 rfl ?_
      refine rx_getR dX12_shake_16 flX12_62 (sM_0) rfl ?_
      refine rx_iload_n dX12_shake_19 rfl ?_
      refine rx_iaload dX12_shake_20 (sM_10) hvx ?_
      rw [hxc, b1]
      refine rx_iconst (1) dX12_shake_21 (by decide) ?_
      refine rx_icmp_gt 65 dX12_shake_22 (by decide) (fun h22 => ?_) (fun h22 => ?_)
      · refine rx_iinc_3 (1) rfl dX12_shake_65 (by decide) ?_
        refine rx_goto 7 dX12_shake_68 (by decide) ?_
        rw [nI_1]
        refine ih (i + 1) _ S1 (by omega) ?_ hF
        rw [← hev, hdr]
        refine congrArg (shakeP (facN E D c) _) ?_
        exact (by rw [if_neg (fun q => by rw [show q0.1 = 0 from q.1] at h22; exact absurd h22 (by decide)), if_neg (fun q => by rw [show q0.1 = 1 from q.1] at h22; exact absurd h22 (by decide))])
      · have hw2 : q0.1 < 2 := by have := (nI_leI (b := 1) (by omega) (by omega)).mp (Int32.not_lt.mp h22); omega
        obtain ⟨fr, f1, f2, f3, f4, f5⟩ := b5 hw2
        refine rx_aload_n dX12_shake_25 rfl ?_
        refine rx_iload_n dX12_shake_26 rfl ?_
        refine rx_iload_n dX12_shake_27 rfl ?_
        refine rx_cVi_2 clX12_313 dX12_shake_28 (rcvo (sM_0) rfl) rfl (m_holds g E D (10 * (y - 1) + i) c fr q0.2.2 S1 L hM1 hc (by omega) f1 f2 (by omega) f4 f5) ?_
        rintro x2 S2 L2 ⟨hx2, hF2, hL2⟩
        rw [hL2, hx2]
        refine rx_if_ne 37 dX12_shake_31 (by decide) (fun h31 => ?_) (fun h31 => ?_)
        · refine rx_iload_n dX12_shake_37 rfl ?_
          refine rx_aload_n dX12_shake_38 rfl ?_
          refine rx_getR dX12_shake_39 flX12_62 (sM_0) rfl ?_
          refine rx_iload_n dX12_shake_42 rfl ?_
          refine rx_iaload dX12_shake_43 (sM_10) hvx ?_
          rw [hxc, hF2 10 (by decide), b1]
          refine rx_if_ne 56 dX12_shake_44 (by decide) (fun h44 => ?_) (fun h44 => ?_)
          · refine rx_aload_n dX12_shake_56 rfl ?_
            refine rx_getR dX12_shake_57 flX12_65 (sM_0) rfl ?_
            refine rx_iload_n dX12_shake_60 rfl ?_
            refine rx_iaload dX12_shake_61 (sM_11) hvx ?_
            rw [hxc, hF2 11 (by decide), b3]
            refine rx_ineg dX12_shake_62 ?_
            refine rx_iadd dX12_shake_63 ?_
            refine rx_istore_2 rfl dX12_shake_64 ?_
            refine rx_iinc_3 (1) rfl dX12_shake_65 (by decide) ?_
            refine rx_goto 7 dX12_shake_68 (by decide) ?_
            rw [nI_1]
            refine ih (i + 1) _ S2 (by omega) ?_ (fun j hj => (hF2 j hj).trans (hF j hj))
            rw [← hev, hdr]
            refine congrArg (shakeP (facN E D c) _) ?_
            exact (by rw [if_neg (fun q => h44 (by rw [show q0.1 = 0 from q.1]; rfl)), if_pos ⟨hw1 h44 hw2, b2i_ne h31⟩, Int32.sub_eq_add_neg])
          · skip
            refine rx_aload_n dX12_shake_47 rfl ?_
            refine rx_getR dX12_shake_48 flX12_65 (sM_0) rfl ?_
            refine rx_iload_n dX12_shake_51 rfl ?_
            refine rx_iaload dX12_shake_52 (sM_11) hvx ?_
            rw [hxc, hF2 11 (by decide), b3]
            refine rx_goto 63 dX12_shake_53 (by decide) ?_
            refine rx_iadd dX12_shake_63 ?_
            refine rx_istore_2 rfl dX12_shake_64 ?_
            refine rx_iinc_3 (1) rfl dX12_shake_65 (by decide) ?_
            refine rx_goto 7 dX12_shake_68 (by decide) ?_
            rw [nI_1]
            refine ih (i + 1) _ S2 (by omega) ?_ (fun j hj => (hF2 j hj).trans (hF j hj))
            rw [← hev, hdr]
            refine congrArg (shakeP (facN E D c) _) ?_
            exact (if_pos ⟨(nI_eq (b := 0) (by omega) (by omega)).mp h44, b2i_ne h31⟩).symm
        · refine rx_goto 65 dX12_shake_34 (by decide) ?_
          refine rx_iinc_3 (1) rfl dX12_shake_65 (by decide) ?_
          refine rx_goto 7 dX12_shake_68 (by decide) ?_
          rw [nI_1]
          refine ih (i + 1) _ S2 (by omega) ?_ (fun j hj => (hF2 j hj).trans (hF j hj))
          rw [← hev, hdr]
          refine congrArg (shakeP (facN E D c) _) ?_
          exact (by rw [if_neg (fun q => b2i_eq h31 q.2), if_neg (fun q => b2i_eq h31 q.2)])
  exact loop (eY E).2.2.2.length 0 0 S (by omega) rfl (fun _ _ => rfl)
set_option maxRecDepth 20000 in
set_option maxHeartbeats 400000 in
theorem m_wobbles (g : GG) (E : EN) (D : DY) (c : Nat) (S : SS) (L : LL) (hM : MSc S E D) (hE : EnOK E) (hcn : c < eN E) : Ci g 4 mX12_wobbles [.ref 0, .int (nI c)] SHM S L (fun r S' L' => r = wobN E D c ∧ (∀ j, j ≠ 17 → S' j = S j) ∧ L' = L) := by
  refine ct_of (ls := [some (.ref 0), some (.int (nI c)), none]) 1 (by decide +kernel) rfl rfl ?_
  have hc : c < 7 := Nat.lt_of_lt_of_le hcn hE.1
  have hci : (nI c).toNatClampNeg = c := nI_clamp (by omega)
  have hvc : vp_in (nI c) 7 := vp_in_nI hc (by omega)
  obtain ⟨k, hk, ek⟩ := hE.2.1 c hcn
  have hkn : kN E c = k := by unfold kN; rw [ek]; exact nI_clamp (by omega)
  have tail : ∀ (x : Int32) (S1 : SS), x = wobB (eE E c) (pacN E D c) (goeN E D c) (shkN E D c) → (∀ j, j ≠ 17 → S1 j = S j) → Rx g 4 0 0 mX12_wobbles SHM.length (fun r sh' S' L' => sh' = SHM ∧ ∃ x, r = some (.int x) ∧ (x = wobN E D c ∧ (∀ j, j ≠ 17 → S' j = S j) ∧ L' = L)) 0 0 37 [some (.ref 0), some (.int (nI c)), some (.int x)] [] SHM S1 L := by
    intro x S1 hx hF
    subst hx
    have hM1 : MSc S1 E D := hM.off (fun j h1 _ _ => hF j h1)
    refine rx_aload_n dX12_wobbles_37 rfl ?_
    refine rx_getR dX12_wobbles_38 flX12_19 (sM_0) rfl ?_
    refine rx_iload_n dX12_wobbles_41 rfl ?_
    refine rx_iaload dX12_wobbles_42 (sM_1) hvc ?_
    rw [hci, hM1.k hc, ek]
    rcases y7 hk with rfl | rfl | rfl | rfl | rfl | rfl | rfl
    · refine rx_tableOut 131 dX12_wobbles_43 (Or.inl (by decide)) (by decide) ?_
      refine rx_iload_n dX12_wobbles_131 rfl ?_
      exact rx_iret dX12_wobbles_132 rfl ⟨Nat.le_refl _, Nat.le_refl _⟩ ⟨rfl, _, rfl, ⟨by unfold wobN; rw [hkn]; exact rfl, hF, rfl⟩⟩
    · refine rx_tableOut 131 dX12_wobbles_43 (Or.inl (by decide)) (by decide) ?_
      refine rx_iload_n dX12_wobbles_131 rfl ?_
      exact rx_iret dX12_wobbles_132 rfl ⟨Nat.le_refl _, Nat.le_refl _⟩ ⟨rfl, _, rfl, ⟨by unfold wobN; rw [hkn]; exact rfl, hF, rfl⟩⟩
    · refine rx_tableIn 76 dX12_wobbles_43 (by decide) (by decide) (by rfl) (by decide) ?_
      refine rx_aload_n dX12_wobbles_76 rfl ?_
      refine rx_iload_n dX12_wobbles_77 rfl ?_
      refine rx_aload_n dX12_wobbles_78 rfl ?_
      refine rx_getR dX12_wobbles_79 flX12_23 (sM_0) rfl ?_
      refine rx_iload_n dX12_wobbles_82 rfl ?_
      refine rx_iaload dX12_wobbles_83 (sM_2) hvc ?_
      rw [hci, hM1.v hc]
      refine rx_isub dX12_wobbles_84 ?_
      refine rx_cVi_1 clX12_325 dX12_wobbles_85 (rcvo (sM_0) rfl) rfl (m_least0 g 0 _ S1 L) ?_
      refine pur3 ?_
      exact rx_iret dX12_wobbles_88 rfl ⟨Nat.le_refl _, Nat.le_refl _⟩ ⟨rfl, _, rfl, ⟨by unfold wobN; rw [hkn]; exact rfl, hF, rfl⟩⟩
    · refine rx_tableIn 89 dX12_wobbles_43 (by decide) (by decide) (by rfl) (by decide) ?_
      refine rx_iload_n dX12_wobbles_89 rfl ?_
      refine rx_iconst (3) dX12_wobbles_90 (by decide) ?_
      refine rx_icmp_le 98 dX12_wobbles_91 (by decide) (fun h91 => ?_) (fun h91 => ?_)
      · refine rx_iload_n dX12_wobbles_98 rfl ?_
        exact rx_iret dX12_wobbles_99 rfl ⟨Nat.le_refl _, Nat.le_refl _⟩ ⟨rfl, _, rfl, ⟨by unfold wobN; rw [hkn]; exact (show (wobB (eE E c) (pacN E D c) (goeN E D c) (shkN E D c)) = mn3 (wobB (eE E c) (pacN E D c) (goeN E D c) (shkN E D c)) from mn3_le h91), hF, rfl⟩⟩
      · refine rx_iconst (3) dX12_wobbles_94 (by decide) ?_
        refine rx_goto 99 dX12_wobbles_95 (by decide) ?_
        exact rx_iret dX12_wobbles_99 rfl ⟨Nat.le_refl _, Nat.le_refl _⟩ ⟨rfl, _, rfl, ⟨by unfold wobN; rw [hkn]; exact (show 3 = mn3 (wobB (eE E c) (pacN E D c) (goeN E D c) (shkN E D c)) from mn3_gt h91), hF, rfl⟩⟩
    · refine rx_tableIn 100 dX12_wobbles_43 (by decide) (by decide) (by rfl) (by decide) ?_
      refine rx_iload_n dX12_wobbles_100 rfl ?_
      refine rx_iconst (1) dX12_wobbles_101 (by decide) ?_
      refine rx_iadd dX12_wobbles_102 ?_
      exact rx_iret dX12_wobbles_103 rfl ⟨Nat.le_refl _, Nat.le_refl _⟩ ⟨rfl, _, rfl, ⟨by unfold wobN; rw [hkn]; exact rfl, hF, rfl⟩⟩
    · refine rx_tableIn 104 dX12_wobbles_43 (by decide) (by decide) (by rfl) (by decide) ?_
      refine rx_aload_n dX12_wobbles_104 rfl ?_
      refine rx_getR dX12_wobbles_105 flX12_29 (sM_0) rfl ?_
      refine rx_iload_n dX12_wobbles_108 rfl ?_
      refine rx_iaload dX12_wobbles_109 (sM_4) hvc ?_
      rw [hci, hM1.e hc]
      refine rx_iconst (2) dX12_wobbles_110 (by decide) ?_
      refine rx_icmp_lt 118 dX12_wobbles_111 (by decide) (fun h111 => ?_) (fun h111 => ?_)
      · refine rx_aload_n dX12_wobbles_118 rfl ?_
        refine rx_iload_n dX12_wobbles_119 rfl ?_
        refine rx_aload_n dX12_wobbles_120 rfl ?_
        refine rx_getR dX12_wobbles_121 flX12_23 (sM_0) rfl ?_
        refine rx_iload_n dX12_wobbles_124 rfl ?_
        refine rx_iaload dX12_wobbles_125 (sM_2) hvc ?_
        rw [hci, hM1.v hc]
        refine rx_isub dX12_wobbles_126 ?_
        refine rx_cVi_1 clX12_325 dX12_wobbles_127 (rcvo (sM_0) rfl) rfl (m_least0 g 0 _ S1 L) ?_
        refine pur3 ?_
        exact rx_iret dX12_wobbles_130 rfl ⟨Nat.le_refl _, Nat.le_refl _⟩ ⟨rfl, _, rfl, ⟨by unfold wobN; rw [hkn]; exact (show mx0 ((wobB (eE E c) (pacN E D c) (goeN E D c) (shkN E D c)) - eV E c) = (if 2 ≤ eE E c then 0 else mx0 ((wobB (eE E c) (pacN E D c) (goeN E D c) (shkN E D c)) - eV E c)) from (if_neg (Int32.not_le.mpr h111)).symm), hF, rfl⟩⟩
      · refine rx_iconst (0) dX12_wobbles_114 (by decide) ?_
        refine rx_goto 130 dX12_wobbles_115 (by decide) ?_
        exact rx_iret dX12_wobbles_130 rfl ⟨Nat.le_refl _, Nat.le_refl _⟩ ⟨rfl, _, rfl, ⟨by unfold wobN; rw [hkn]; exact (show 0 = (if 2 ≤ eE E c then 0 else mx0 ((wobB (eE E c) (pacN E D c) (goeN E D c) (shkN E D c)) - eV E c)) from (if_pos (Int32.not_lt.mp h111)).symm), hF, rfl⟩⟩
    · refine rx_tableIn 89 dX12_wobbles_43 (by decide) (by decide) (by rfl) (by decide) ?_
      refine rx_iload_n dX12_wobbles_89 rfl ?_
      refine rx_iconst (3) dX12_wobbles_90 (by decide) ?_
      refine rx_icmp_le 98 dX12_wobbles_91 (by decide) (fun h91 => ?_) (fun h91 => ?_)
      · refine rx_iload_n dX12_wobbles_98 rfl ?_
        exact rx_iret dX12_wobbles_99 rfl ⟨Nat.le_refl _, Nat.le_refl _⟩ ⟨rfl, _, rfl, ⟨by unfold wobN; rw [hkn]; exact (show (wobB (eE E c) (pacN E D c) (goeN E D c) (shkN E D c)) = mn3 (wobB (eE E c) (pacN E D c) (goeN E D c) (shkN E D c)) from mn3_le h91), hF, rfl⟩⟩
      · refine rx_iconst (3) dX12_wobbles_94 (by decide) ?_
        refine rx_goto 99 dX12_wobbles_95 (by decide) ?_
        exact rx_iret dX12_wobbles_99 rfl ⟨Nat.le_refl _, Nat.le_refl _⟩ ⟨rfl, _, rfl, ⟨by unfold wobN; rw [hkn]; exact (show 3 = mn3 (wobB (eE E c) (pacN E D c) (goeN E D c) (shkN E D c)) from mn3_gt h91), hF, rfl⟩⟩
  refine rx_aload_n dX12_wobbles_0 rfl ?_
  refine rx_iload_n dX12_wobbles_1 rfl ?_
  refine rx_cVi_1 clX12_319 dX12_wobbles_2 (rcvo (sM_0) rfl) rfl (m_goes g E D c S L hM hE hcn) ?_
  refine pur3 ?_
  refine rx_if_ne 12 dX12_wobbles_5 (by decide) (fun h5 => ?_) (fun h5 => ?_)
  · refine rx_aload_n dX12_wobbles_12 rfl ?_
    refine rx_aload_n dX12_wobbles_13 rfl ?_
    refine rx_iload_n dX12_wobbles_14 rfl ?_
    refine rx_cVi_1 clX12_316 dX12_wobbles_15 (rcvo (sM_0) rfl) rfl (m_pace g E D c S L hM hE hcn) ?_
    refine pur3 ?_
    refine rx_aload_n dX12_wobbles_18 rfl ?_
    refine rx_iload_n dX12_wobbles_19 rfl ?_
    refine rx_cVi_1 clX12_322 dX12_wobbles_20 (rcvo (sM_0) rfl) rfl (m_shake g E D c S L hM hc) ?_
    rintro x2 S2 L2 ⟨hx2, hF2, hL2⟩
    rw [hL2, hx2]
    refine rx_iadd dX12_wobbles_23 ?_
    refine rx_iconst (2) dX12_wobbles_24 (by decide) ?_
    refine rx_aload_n dX12_wobbles_25 rfl ?_
    refine rx_getR dX12_wobbles_26 flX12_29 (sM_0) rfl ?_
    refine rx_iload_n dX12_wobbles_29 rfl ?_
    refine rx_iaload dX12_wobbles_30 (sM_4) hvc ?_
    rw [hci, hF2 4 (by decide), hM.e hc]
    refine rx_imul dX12_wobbles_31 ?_
    refine rx_isub dX12_wobbles_32 ?_
    refine rx_cVi_1 clX12_325 dX12_wobbles_33 (rcvo (sM_0) rfl) rfl (m_least0 g 0 _ S2 L) ?_
    refine pur3 ?_
    refine rx_istore_2 rfl dX12_wobbles_36 ?_
    exact tail _ S2 (if_neg h5).symm hF2
  · refine rx_iconst (0) dX12_wobbles_8 (by decide) ?_
    refine rx_goto 36 dX12_wobbles_9 (by decide) ?_
    refine rx_istore_2 rfl dX12_wobbles_36 ?_
    exact tail 0 S (if_pos h5).symm (fun _ _ => rfl)
set_option maxRecDepth 20000 in
set_option maxHeartbeats 400000 in
theorem m_ahead (g : GG) (n ch : Nat) (w : Int32) (a : Nat → Int32) (S : SS) (L : LL) (hn7 : n ≤ 7) (hch : ch < n) (hsz : S 0 0 = nI n) (ha : ∀ c, c < 7 → S 3 c = a c) (hw : S 0 2 = w) : Ci g 1 mX12_ahead [.ref 0, .int (nI ch)] SHM S L (fun r S' L' => r = aheadP a w ch n ∧ S' = S ∧ L' = L) := by
  refine ct_of (ls := [some (.ref 0), some (.int (nI ch)), none, none]) 2 (by decide +kernel) rfl rfl ?_
  have hhi : (nI ch).toNatClampNeg = ch := nI_clamp (by omega)
  have hvh : vp_in (nI ch) 7 := vp_in_nI (by omega) (by omega)
  have hah : S 3 ch = a ch := ha ch (by omega)
  have loop : ∀ (r c : Nat), c ≤ n → c + r = n → Rx g 1 0 0 mX12_ahead SHM.length (fun r sh' S' L' => sh' = SHM ∧ ∃ x, r = some (.int x) ∧ (x = aheadP a w ch n ∧ S' = S ∧ L' = L)) 0 0 4 [some (.ref 0), some (.int (nI ch)), some (.int (aheadP a w ch c)), some (.int (nI c))] [] SHM S L := by
    intro r
    induction r with
    | zero =>
      intro c hc1 hc2
      have hcn : c = n := by omega
      refine rx_iload_n dX12_ahead_4 rfl ?_
      refine rx_aload_n dX12_ahead_5 rfl ?_
      refine rx_getI dX12_ahead_6 flX12_7 (sM_0) rfl ?_
      refine rx_icmp_ge 73 dX12_ahead_9 (by decide) (fun h9 => ?_) (fun h9 => absurd (by rw [hsz]; exact nI_le (by omega) (by omega)) h9)
      refine rx_iload_n dX12_ahead_73 rfl ?_
      exact rx_iret dX12_ahead_74 rfl ⟨Nat.le_refl _, Nat.le_refl _⟩ ⟨rfl, _, rfl, ⟨by rw [← hcn], rfl, rfl⟩⟩
    | succ r ih =>
      intro c hc1 hc2
      have hc7 : c < 7 := by omega
      have hci : (nI c).toNatClampNeg = c := nI_clamp (by omega)
      have hvc : vp_in (nI c) 7 := vp_in_nI hc7 (by omega)
      have hac : S 3 c = a c := ha c hc7
      refine rx_iload_n dX12_ahead_4 rfl ?_
      refine rx_aload_n dX12_ahead_5 rfl ?_
      refine rx_getI dX12_ahead_6 flX12_7 (sM_0) rfl ?_
      refine rx_icmp_ge 73 dX12_ahead_9 (by decide) (fun h9 => absurd h9 (by rw [hsz]; exact nI_ge (by omega) (by omega))) (fun h9 => ?_)
      refine rx_iload_n dX12_ahead_12 rfl ?_
      refine rx_aload_n dX12_ahead_13 rfl ?_
      refine rx_aload_n dX12_ahead_14 rfl ?_
      refine rx_getI dX12_ahead_15 flX12_16 (sM_0) rfl ?_
      rw [hw]
      refine rx_iload_n dX12_ahead_18 rfl ?_
      refine rx_cVi_2 clX12_328 dX12_ahead_19 (rcvo (sM_0) rfl) rfl (m_has g 0 _ _ S L) ?_
      refine pur3 ?_
      refine rx_if_ne 64 dX12_ahead_22 (by decide) (fun h22 => ?_) (fun h22 => ?_)
      · refine rx_iconst (0) dX12_ahead_64 (by decide) ?_
        refine rx_iadd dX12_ahead_65 ?_
        refine rx_istore_2 rfl dX12_ahead_66 ?_
        refine rx_iinc_3 (1) rfl dX12_ahead_67 (by decide) ?_
        refine rx_goto 4 dX12_ahead_70 (by decide) ?_
        rw [nI_1, Int32.add_zero, show aheadP a w ch c = aheadP a w ch (c + 1) from (if_neg (fun q => b2i_ne h22 q.2)).symm]
        exact ih (c + 1) (by omega) (by omega)
      · refine rx_aload_n dX12_ahead_25 rfl ?_
        refine rx_getR dX12_ahead_26 flX12_26 (sM_0) rfl ?_
        refine rx_iload_n dX12_ahead_29 rfl ?_
        refine rx_iaload dX12_ahead_30 (sM_3) hvc ?_
        rw [hci, hac]
        refine rx_aload_n dX12_ahead_31 rfl ?_
        refine rx_getR dX12_ahead_32 flX12_26 (sM_0) rfl ?_
        refine rx_iload_n dX12_ahead_35 rfl ?_
        refine rx_iaload dX12_ahead_36 (sM_3) hvh ?_
        rw [hhi, hah]
        refine rx_icmp_gt 60 dX12_ahead_37 (by decide) (fun h37 => ?_) (fun h37 => ?_)
        · have hfp : a ch < a c ∨ (a c = a ch ∧ c < ch) := by first | exact Or.inl h37 | exact Or.inr ⟨h52, (nI_ltI (by omega) (by omega)).mp (Int32.not_le.mp h57)⟩
          have hbz : bitv w (nI c) = 0 := Decidable.not_not.mp (b2i_eq h22)
          refine rx_iconst (1) dX12_ahead_60 (by decide) ?_
          refine rx_goto 65 dX12_ahead_61 (by decide) ?_
          refine rx_iadd dX12_ahead_65 ?_
          refine rx_istore_2 rfl dX12_ahead_66 ?_
          refine rx_iinc_3 (1) rfl dX12_ahead_67 (by decide) ?_
          refine rx_goto 4 dX12_ahead_70 (by decide) ?_
          rw [nI_1, show aheadP a w ch c + 1 = aheadP a w ch (c + 1) from (if_pos ⟨hfp, hbz⟩).symm]
          exact ih (c + 1) (by omega) (by omega)
        · refine rx_aload_n dX12_ahead_40 rfl ?_
          refine rx_getR dX12_ahead_41 flX12_26 (sM_0) rfl ?_
          refine rx_iload_n dX12_ahead_44 rfl ?_
          refine rx_iaload dX12_ahead_45 (sM_3) hvc ?_
          rw [hci, hac]
          refine rx_aload_n dX12_ahead_46 rfl ?_
          refine rx_getR dX12_ahead_47 flX12_26 (sM_0) rfl ?_
          refine rx_iload_n dX12_ahead_50 rfl ?_
          refine rx_iaload dX12_ahead_51 (sM_3) hvh ?_
          rw [hhi, hah]
          refine rx_icmp_ne 64 dX12_ahead_52 (by decide) (fun h52 => ?_) (fun h52 => ?_)
          · have hfn : ¬ (a ch < a c ∨ (a c = a ch ∧ c < ch)) := by
              rintro (q | q)
              · exact h37 q
              · first | exact h52 q.1 | exact absurd ((nI_ltI (by omega) (by omega)).mpr q.2) (Int32.not_lt.mpr h57)
            refine rx_iconst (0) dX12_ahead_64 (by decide) ?_
            refine rx_iadd dX12_ahead_65 ?_
            refine rx_istore_2 rfl dX12_ahead_66 ?_
            refine rx_iinc_3 (1) rfl dX12_ahead_67 (by decide) ?_
            refine rx_goto 4 dX12_ahead_70 (by decide) ?_
            rw [nI_1, Int32.add_zero, show aheadP a w ch c = aheadP a w ch (c + 1) from (if_neg (fun q => absurd q.1 hfn)).symm]
            exact ih (c + 1) (by omega) (by omega)
          · refine rx_iload_n dX12_ahead_55 rfl ?_
            refine rx_iload_n dX12_ahead_56 rfl ?_
            refine rx_icmp_ge 64 dX12_ahead_57 (by decide) (fun h57 => ?_) (fun h57 => ?_)
            · have hfn : ¬ (a ch < a c ∨ (a c = a ch ∧ c < ch)) := by
                rintro (q | q)
                · exact h37 q
                · first | exact h52 q.1 | exact absurd ((nI_ltI (by omega) (by omega)).mpr q.2) (Int32.not_lt.mpr h57)
              refine rx_iconst (0) dX12_ahead_64 (by decide) ?_
              refine rx_iadd dX12_ahead_65 ?_
              refine rx_istore_2 rfl dX12_ahead_66 ?_
              refine rx_iinc_3 (1) rfl dX12_ahead_67 (by decide) ?_
              refine rx_goto 4 dX12_ahead_70 (by decide) ?_
              rw [nI_1, Int32.add_zero, show aheadP a w ch c = aheadP a w ch (c + 1) from (if_neg (fun q => absurd q.1 hfn)).symm]
              exact ih (c + 1) (by omega) (by omega)
            · have hfp : a ch < a c ∨ (a c = a ch ∧ c < ch) := by first | exact Or.inl h37 | exact Or.inr ⟨h52, (nI_ltI (by omega) (by omega)).mp (Int32.not_le.mp h57)⟩
              have hbz : bitv w (nI c) = 0 := Decidable.not_not.mp (b2i_eq h22)
              refine rx_iconst (1) dX12_ahead_60 (by decide) ?_
              refine rx_goto 65 dX12_ahead_61 (by decide) ?_
              refine rx_iadd dX12_ahead_65 ?_
              refine rx_istore_2 rfl dX12_ahead_66 ?_
              refine rx_iinc_3 (1) rfl dX12_ahead_67 (by decide) ?_
              refine rx_goto 4 dX12_ahead_70 (by decide) ?_
              rw [nI_1, show aheadP a w ch c + 1 = aheadP a w ch (c + 1) from (if_pos ⟨hfp, hbz⟩).symm]
              exact ih (c + 1) (by omega) (by omega)
  refine rx_iconst (0) dX12_ahead_0 (by decide) ?_
  refine rx_istore_2 rfl dX12_ahead_1 ?_
  refine rx_iconst (0) dX12_ahead_2 (by decide) ?_
  refine rx_istore_3 rfl dX12_ahead_3 ?_
  exact loop n 0 (by omega) (by omega)
