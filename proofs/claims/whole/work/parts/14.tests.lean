-- TESTS, purely: a token is (letter, sign, number), or (6, ..) not, (7, ..) and, (8, ..) or
abbrev TK : Type := Nat × Nat × Nat
def encC (t : TK) : Int32 := if t.1 < 6 then nI ((t.1 * 3 + t.2.1) * 100 + t.2.2) else if t.1 = 6 then -1 else if t.1 = 7 then -2 else -3
def tstT (F : Nat → Int32) (t : TK) : Bool := if t.2.1 = 0 then decide (F t.1 < nI t.2.2) else if t.2.1 = 1 then decide (F t.1 = nI t.2.2) else decide (nI t.2.2 < F t.1)
def oneT (F : Nat → Int32) (t : TK) (st : List Bool) : List Bool := if t.1 < 6 then tstT F t :: st else if t.1 = 6 then (match st with | a :: r => (!a) :: r | [] => []) else (match st with | a :: b :: r => (if t.1 = 7 then b && a else b || a) :: r | z => z)
def evT (F : Nat → Int32) : List TK → List Bool → List Bool
  | [], st => st
  | t :: l, st => evT F l (oneT F t st)
def wfT : List TK → Nat → Prop
  | [], h => h = 1
  | t :: l, h => (t.1 < 6 ∧ t.2.1 < 3 ∧ t.2.2 < 100 ∧ h < 20 ∧ wfT l (h + 1)) ∨ (t.1 = 6 ∧ 1 ≤ h ∧ wfT l h) ∨ ((t.1 = 7 ∨ t.1 = 8) ∧ 2 ≤ h ∧ wfT l (h - 1))
def holdsP (F : Nat → Int32) (l : List TK) : Bool := (evT F l []).headD false
/-- the bits of a number are a stack's truths -/
def FB (x : Int32) (st : List Bool) : Prop := st.length ≤ 31 ∧ ∀ i, i < 32 → x.toBitVec.getLsbD i = st.getD i false
theorem sh1 : ((1 : Int32) &&& 31) = 1 := by decide +kernel
theorem fb_nil : FB 0 [] := ⟨by decide, fun i _ => by simp⟩
theorem fb_top {x : Int32} {a : Bool} {r : List Bool} (h : FB x (a :: r)) : (x &&& 1 = 0) ↔ a = false := by
  have h0 := h.2 0 (by decide)
  simp at h0
  rw [← Int32.toBitVec_inj]
  constructor
  · intro e
    have e0 : (x.toBitVec &&& 1#32).getLsbD 0 = (0#32).getLsbD 0 := by
      have : (x &&& 1).toBitVec = x.toBitVec &&& 1#32 := rfl
      rw [← this, e]; rfl
    simp at e0
    rw [← h0, e0]
  · intro e
    apply BitVec.eq_of_getLsbD_eq
    intro i hi
    have : (x &&& 1).toBitVec = x.toBitVec &&& 1#32 := rfl
    rw [this]
    by_cases hz : i = 0
    · subst hz; simp [h0, e]
    · simp [hz]
theorem fb_not {x : Int32} {a : Bool} {r : List Bool} (h : FB x (a :: r)) : FB (x ^^^ 1) ((!a) :: r) := by
  refine ⟨h.1, fun i hi => ?_⟩
  have h1 := h.2 i hi
  have e : (x ^^^ 1).toBitVec = x.toBitVec ^^^ 1#32 := rfl
  rw [e, BitVec.getLsbD_xor, h1]
  cases i with
  | zero => simp
  | succ i => simp
theorem b2i_bit (p : Prop) [Decidable p] (i : Nat) : (b2i p).toBitVec.getLsbD i = (decide p && decide (i = 0)) := by
  unfold b2i
  by_cases hp : p
  · rw [if_pos hp]
    have : (1 : Int32).toBitVec = 1#32 := rfl
    rw [this]; simp [hp]
  · rw [if_neg hp]
    have : (0 : Int32).toBitVec = 0#32 := rfl
    rw [this]; simp [hp]
theorem shl1_bit (x : Int32) (i : Nat) (hi : i < 32) : (x <<< ((1 : Int32) &&& 31)).toBitVec.getLsbD i = (decide (1 ≤ i) && x.toBitVec.getLsbD (i - 1)) := by
  rw [sh1]
  have e : (x <<< (1 : Int32)).toBitVec = x.toBitVec <<< 1 := by
    rw [Int32.toBitVec_shiftLeft]
    rfl
  rw [e, BitVec.getLsbD_shiftLeft]
  by_cases h1 : i < 1
  · simp [h1, hi]; omega
  · simp [hi, h1]; omega
theorem shr1_bit (x : Int32) (i : Nat) (hi : i < 32) : (x >>> ((1 : Int32) &&& 31)).toBitVec.getLsbD i = if i + 1 < 32 then x.toBitVec.getLsbD (i + 1) else x.toBitVec.getLsbD 31 := by
  rw [sh1]
  have e : (x >>> (1 : Int32)).toBitVec = x.toBitVec.sshiftRight 1 := by
    rw [Int32.toBitVec_shiftRight]
    rfl
  rw [e, BitVec.getLsbD_sshiftRight, Nat.add_comm 1 i, BitVec.msb_eq_getLsbD_last]
  simp [hi]
theorem fb_push {x : Int32} {st : List Bool} (h : FB x st) (hl : st.length < 31) (p : Prop) [Decidable p] : FB ((x <<< ((1 : Int32) &&& 31)) ||| b2i p) (decide p :: st) := by
  refine ⟨by simp; omega, fun i hi => ?_⟩
  have e : ((x <<< ((1 : Int32) &&& 31)) ||| b2i p).toBitVec = (x <<< ((1 : Int32) &&& 31)).toBitVec ||| (b2i p).toBitVec := rfl
  rw [e, BitVec.getLsbD_or, shl1_bit x i hi, b2i_bit]
  cases i with
  | zero => simp
  | succ i => rw [Nat.add_sub_cancel, h.2 i (by omega)]; simp
theorem fb_pushT {x : Int32} {st : List Bool} (h : FB x st) (hl : st.length < 31) {q : Bool} (hq : q = true) : FB ((x <<< ((1 : Int32) &&& 31)) ||| 1) (q :: st) := by
  have := fb_push h hl True
  rw [hq]
  simpa [b2i] using this
theorem fb_pushF {x : Int32} {st : List Bool} (h : FB x st) (hl : st.length < 31) {q : Bool} (hq : ¬ q = true) : FB ((x <<< ((1 : Int32) &&& 31)) ||| 0) (q :: st) := by
  have := fb_push h hl False
  have e : q = false := by simpa using hq
  rw [e]
  simpa [b2i] using this
theorem fb_hi {x : Int32} {st : List Bool} (h : FB x st) : x.toBitVec.getLsbD 31 = false := by
  have hz : st[31]? = none := List.getElem?_eq_none h.1
  rw [h.2 31 (by decide)]
  simp [List.getD_eq_getElem?_getD, hz]
theorem fb_or {x : Int32} {a b : Bool} {r : List Bool} (h : FB x (a :: b :: r)) : FB ((x >>> ((1 : Int32) &&& 31)) ||| (x &&& 1)) ((b || a) :: r) := by
  have hl := h.1
  simp at hl
  refine ⟨by simp; omega, fun i hi => ?_⟩
  have e : ((x >>> ((1 : Int32) &&& 31)) ||| (x &&& 1)).toBitVec = (x >>> ((1 : Int32) &&& 31)).toBitVec ||| (x.toBitVec &&& 1#32) := rfl
  rw [e, BitVec.getLsbD_or, shr1_bit x i hi, BitVec.getLsbD_and]
  cases i with
  | zero =>
    rw [h.2 1 (by decide), h.2 0 (by decide)]
    simp
  | succ i =>
    by_cases h2 : i + 1 + 1 < 32
    · rw [if_pos h2, h.2 _ h2]
      simp
    · rw [if_neg h2, fb_hi h]
      have hz : r[i]? = none := List.getElem?_eq_none (by omega)
      simp [List.getD_eq_getElem?_getD, hz]
theorem fb_and {x : Int32} {a b : Bool} {r : List Bool} (h : FB x (a :: b :: r)) : FB ((x >>> ((1 : Int32) &&& 31)) &&& (x ||| (-2))) ((b && a) :: r) := by
  have hl := h.1
  simp at hl
  refine ⟨by simp; omega, fun i hi => ?_⟩
  have e : ((x >>> ((1 : Int32) &&& 31)) &&& (x ||| (-2))).toBitVec = (x >>> ((1 : Int32) &&& 31)).toBitVec &&& (x.toBitVec ||| (-2 : Int32).toBitVec) := rfl
  have e2 : ∀ i, i < 32 → (-2 : Int32).toBitVec.getLsbD i = decide (1 ≤ i) := by decide +kernel
  rw [e, BitVec.getLsbD_and, shr1_bit x i hi, BitVec.getLsbD_or, e2 i hi]
  cases i with
  | zero =>
    rw [h.2 1 (by decide), h.2 0 (by decide)]
    simp
  | succ i =>
    by_cases h2 : i + 1 + 1 < 32
    · rw [if_pos h2, h.2 _ h2]
      simp
    · rw [if_neg h2, fb_hi h]
      have hz : r[i]? = none := List.getElem?_eq_none (by omega)
      simp [List.getD_eq_getElem?_getD, hz]
/-- a clause (word, number, tokens) as yard y holds it at place i -/
abbrev CLS : Type := Nat × Nat × List TK
def ClR (y : Nat) (S : SS) (i : Nat) (c : CLS) : Prop := i < 10 ∧ S (11 + 6 * y + 1) i = nI c.1 ∧ c.1 < 5 ∧ S (11 + 6 * y + 2) i = nI c.2.1 ∧ c.2.1 < 100 ∧ (c.1 < 2 → ∃ fr, S (11 + 6 * y + 3) i = nI fr ∧ S (11 + 6 * y + 4) i = nI (fr + c.2.2.length) ∧ fr + c.2.2.length ≤ 100 ∧ (∀ j t, c.2.2[j]? = some t → S (11 + 6 * y + 5) (fr + j) = encC t) ∧ wfT c.2.2 0)
def shakeP (F : Nat → Int32) : List CLS → Int32 → Int32
  | [], z => z
  | c :: l, z => shakeP F l (if c.1 = 0 ∧ holdsP F c.2.2 = true then z + nI c.2.1 else if c.1 = 1 ∧ holdsP F c.2.2 = true then z - nI c.2.1 else z)

set_option maxRecDepth 20000 in
set_option maxHeartbeats 1000000 in
theorem c_isSo (g : GG) (f s n C : Nat) (S : SS) (L : LL) (hf : f < 6) (hs : s < 3) (hn : n < 100) (hC : C = (f * 3 + s) * 100 + n) : Ci g 0 mX10_isSo [.int (nI C), .ref 96] SHC S L (fun r S' L' => r = b2i (tstT (S 96) (f, s, n) = true) ∧ S' = S ∧ L' = L) := by
  have e1 : nI C / 300 = nI f := (pk_div (d := 300) (by omega) (by omega) (by omega)).trans (congrArg nI (by omega))
  have e2 : nI C - nI C / 100 * 100 = nI n := (pk_rem (d := 100) (by omega) (by omega) (by omega)).trans (congrArg nI (by omega))
  have e3 : nI C / 100 = nI (f * 3 + s) := (pk_div (d := 100) (by omega) (by omega) (by omega)).trans (congrArg nI (by omega))
  have e4 : nI (f * 3 + s) - nI (f * 3 + s) / 3 * 3 = nI s := (pk_rem (d := 3) (by omega) (by omega) (by omega)).trans (congrArg nI (by omega))
  have hcl : (nI f).toNatClampNeg = f := nI_clamp (by omega)
  have hvi : vp_in (nI f) 6 := vp_in_nI hf (by omega)
  refine ct_of (ls := [some (.int (nI C)), some (.ref 96), none, none]) 2 (by decide +kernel) rfl rfl ?_
  refine rx_iload_n dX10_isSo_0 rfl ?_
  refine rx_sipush (300) dX10_isSo_1 (by decide) ?_
  refine rx_idiv dX10_isSo_4 (by decide) ?_
  rw [e1]
  refine rx_istore_2 rfl dX10_isSo_5 ?_
  refine rx_iload_n dX10_isSo_6 rfl ?_
  refine rx_if_lt 16 dX10_isSo_7 (by decide) (fun h7 => absurd h7 (nI_pos (by omega))) (fun h7 => ?_)
  refine rx_iload_n dX10_isSo_10 rfl ?_
  refine rx_aload_n dX10_isSo_11 rfl ?_
  refine rx_alen dX10_isSo_12 (sC_96) (by decide) ?_
  refine rx_icmp_lt 18 dX10_isSo_13 (by decide) (fun h13 => ?_) (fun h13 => absurd (nI_lt hf (by omega)) h13)
  refine rx_iload_n dX10_isSo_18 rfl ?_
  refine rx_bipush (100) dX10_isSo_19 (by decide) ?_
  refine rx_irem dX10_isSo_21 (by decide) ?_
  rw [e2]
  refine rx_istore_3 rfl dX10_isSo_22 ?_
  refine rx_iload_n dX10_isSo_23 rfl ?_
  refine rx_bipush (100) dX10_isSo_24 (by decide) ?_
  refine rx_idiv dX10_isSo_26 (by decide) ?_
  rw [e3]
  refine rx_iconst (3) dX10_isSo_27 (by decide) ?_
  refine rx_irem dX10_isSo_28 (by decide) ?_
  rw [e4]
  have hs3 : s = 0 ∨ s = 1 ∨ s = 2 := by omega
  rcases hs3 with rfl | rfl | rfl
  · refine rx_lookup 56 dX10_isSo_29 (by decide) (show Op.lookupswitch.offset _ _ (nI 0).toInt = 27 from by decide +kernel) (by decide) ?_
    refine rx_aload_n dX10_isSo_56 rfl ?_
    refine rx_iload_n dX10_isSo_57 rfl ?_
    refine rx_iaload dX10_isSo_58 (sC_96) hvi ?_
    rw [hcl]
    refine rx_iload_n dX10_isSo_59 rfl ?_
    refine rx_icmp_ge 67 dX10_isSo_60 (by decide) (fun h60 => ?_) (fun h60 => ?_)
    · refine rx_iconst (0) dX10_isSo_67 (by decide) ?_
      exact rx_zret dX10_isSo_68 rfl (by decide) ⟨Nat.le_refl _, Nat.le_refl _⟩ ⟨rfl, _, rfl, ⟨by first | exact b2i_t (by simp [tstT]; first | assumption | (simp only [Int32.le_iff_toInt_le, Int32.lt_iff_toInt_lt, Int32.toInt_zero, tIo, tIm1] at *; omega)) | exact b2i_f (by simp [tstT]; first | assumption | (simp only [Int32.le_iff_toInt_le, Int32.lt_iff_toInt_lt, Int32.toInt_zero, tIo, tIm1] at *; omega)), rfl, rfl⟩⟩
    · refine rx_iconst (1) dX10_isSo_63 (by decide) ?_
      refine rx_goto 68 dX10_isSo_64 (by decide) ?_
      exact rx_zret dX10_isSo_68 rfl (by decide) ⟨Nat.le_refl _, Nat.le_refl _⟩ ⟨rfl, _, rfl, ⟨by first | exact b2i_t (by simp [tstT]; first | assumption | (simp only [Int32.le_iff_toInt_le, Int32.lt_iff_toInt_lt, Int32.toInt_zero, tIo, tIm1] at *; omega)) | exact b2i_f (by simp [tstT]; first | assumption | (simp only [Int32.le_iff_toInt_le, Int32.lt_iff_toInt_lt, Int32.toInt_zero, tIo, tIm1] at *; omega)), rfl, rfl⟩⟩
  · refine rx_lookup 69 dX10_isSo_29 (by decide) (show Op.lookupswitch.offset _ _ (nI 1).toInt = 40 from by decide +kernel) (by decide) ?_
    refine rx_aload_n dX10_isSo_69 rfl ?_
    refine rx_iload_n dX10_isSo_70 rfl ?_
    refine rx_iaload dX10_isSo_71 (sC_96) hvi ?_
    rw [hcl]
    refine rx_iload_n dX10_isSo_72 rfl ?_
    refine rx_icmp_ne 80 dX10_isSo_73 (by decide) (fun h73 => ?_) (fun h73 => ?_)
    · refine rx_iconst (0) dX10_isSo_80 (by decide) ?_
      exact rx_zret dX10_isSo_81 rfl (by decide) ⟨Nat.le_refl _, Nat.le_refl _⟩ ⟨rfl, _, rfl, ⟨by first | exact b2i_t (by simp [tstT]; first | assumption | (simp only [Int32.le_iff_toInt_le, Int32.lt_iff_toInt_lt, Int32.toInt_zero, tIo, tIm1] at *; omega)) | exact b2i_f (by simp [tstT]; first | assumption | (simp only [Int32.le_iff_toInt_le, Int32.lt_iff_toInt_lt, Int32.toInt_zero, tIo, tIm1] at *; omega)), rfl, rfl⟩⟩
    · refine rx_iconst (1) dX10_isSo_76 (by decide) ?_
      refine rx_goto 81 dX10_isSo_77 (by decide) ?_
      exact rx_zret dX10_isSo_81 rfl (by decide) ⟨Nat.le_refl _, Nat.le_refl _⟩ ⟨rfl, _, rfl, ⟨by first | exact b2i_t (by simp [tstT]; first | assumption | (simp only [Int32.le_iff_toInt_le, Int32.lt_iff_toInt_lt, Int32.toInt_zero, tIo, tIm1] at *; omega)) | exact b2i_f (by simp [tstT]; first | assumption | (simp only [Int32.le_iff_toInt_le, Int32.lt_iff_toInt_lt, Int32.toInt_zero, tIo, tIm1] at *; omega)), rfl, rfl⟩⟩
  · refine rx_lookup 82 dX10_isSo_29 (by decide) (show Op.lookupswitch.offset _ _ (nI 2).toInt = 53 from by decide +kernel) (by decide) ?_
    refine rx_aload_n dX10_isSo_82 rfl ?_
    refine rx_iload_n dX10_isSo_83 rfl ?_
    refine rx_iaload dX10_isSo_84 (sC_96) hvi ?_
    rw [hcl]
    refine rx_iload_n dX10_isSo_85 rfl ?_
    refine rx_icmp_le 93 dX10_isSo_86 (by decide) (fun h86 => ?_) (fun h86 => ?_)
    · refine rx_iconst (0) dX10_isSo_93 (by decide) ?_
      exact rx_zret dX10_isSo_94 rfl (by decide) ⟨Nat.le_refl _, Nat.le_refl _⟩ ⟨rfl, _, rfl, ⟨by first | exact b2i_t (by simp [tstT]; first | assumption | (simp only [Int32.le_iff_toInt_le, Int32.lt_iff_toInt_lt, Int32.toInt_zero, tIo, tIm1] at *; omega)) | exact b2i_f (by simp [tstT]; first | assumption | (simp only [Int32.le_iff_toInt_le, Int32.lt_iff_toInt_lt, Int32.toInt_zero, tIo, tIm1] at *; omega)), rfl, rfl⟩⟩
    · refine rx_iconst (1) dX10_isSo_89 (by decide) ?_
      refine rx_goto 94 dX10_isSo_90 (by decide) ?_
      exact rx_zret dX10_isSo_94 rfl (by decide) ⟨Nat.le_refl _, Nat.le_refl _⟩ ⟨rfl, _, rfl, ⟨by first | exact b2i_t (by simp [tstT]; first | assumption | (simp only [Int32.le_iff_toInt_le, Int32.lt_iff_toInt_lt, Int32.toInt_zero, tIo, tIm1] at *; omega)) | exact b2i_f (by simp [tstT]; first | assumption | (simp only [Int32.le_iff_toInt_le, Int32.lt_iff_toInt_lt, Int32.toInt_zero, tIo, tIm1] at *; omega)), rfl, rfl⟩⟩
set_option maxRecDepth 20000 in
set_option maxHeartbeats 1000000 in
theorem c_holds (g : GG) {y : Nat} (hy : y < 7) (i fr : Nat) (toks : List TK) (S : SS) (L : LL) (hi : i < 10) (hfr : S (11 + 6 * y + 3) i = nI fr) (hto : S (11 + 6 * y + 4) i = nI (fr + toks.length)) (hlen : fr + toks.length ≤ 100) (hcodes : ∀ j t, toks[j]? = some t → S (11 + 6 * y + 5) (fr + j) = encC t) (hwf : wfT toks 0) : Ci g 1 mX10_holds [.ref (11 + 6 * y), .int (nI i), .ref 96] SHC S L (fun r S' L' => r = b2i (holdsP (S 96) toks = true) ∧ S' = S ∧ L' = L) := by
  refine ct_of (ls := [some (.ref (11 + 6 * y)), some (.int (nI i)), some (.ref 96), none, none, none]) 3 (by decide +kernel) rfl rfl ?_
  have hci : (nI i).toNatClampNeg = i := nI_clamp (by omega)
  have hvi10 : vp_in (nI i) 10 := vp_in_nI (by omega) (by omega)
  generalize hfin0 : evT (S 96) toks [] = fin at *
  have loop : ∀ (l : List TK) (j : Nat) (st : List Bool) (x : Int32), toks.drop j = l → FB x st → wfT l st.length → evT (S 96) l st = fin → j + l.length = toks.length → Rx g 1 0 0 mX10_holds SHC.length (fun r sh' S' L' => sh' = SHC ∧ ∃ x, r = some (.int x) ∧ (x = b2i (holdsP (S 96) toks = true) ∧ S' = S ∧ L' = L)) 0 0 10 [some (.ref (11 + 6 * y)), some (.int (nI i)), some (.ref 96), some (.int x), some (.int (nI (fr + j))), none] [] SHC S L := by
    intro l
    induction l with
    | nil =>
      intro j st x hd hx hw hev hj
      have hst : st.length = 1 := hw
      obtain ⟨a, rfl⟩ : ∃ a, st = [a] := by
        cases st with
        | nil => simp at hst
        | cons a r => cases r with
          | nil => exact ⟨a, rfl⟩
          | cons b r => simp at hst
      have hfin : holdsP (S 96) toks = a := by
        unfold holdsP; rw [hfin0, ← hev]; rfl
      have hj : j = toks.length := by simpa using hj
      refine rx_iload dX10_holds_10 rfl ?_
      refine rx_aload_n dX10_holds_12 rfl ?_
      refine rx_getR dX10_holds_13 flX10_21 (syO hy) rfl ?_
      refine rx_iload_n dX10_holds_16 rfl ?_
      refine rx_iaload dX10_holds_17 (syA4 hy) hvi10 ?_
      rw [hci, hto]
      refine rx_icmp_ge 115 dX10_holds_18 (by decide) (fun h18 => ?_) (fun h18 => absurd (nI_le (by omega) (by omega)) h18)
      refine rx_iload_n dX10_holds_115 rfl ?_
      refine rx_iconst (1) dX10_holds_116 (by decide) ?_
      refine rx_iand dX10_holds_117 ?_
      refine rx_if_eq 125 dX10_holds_118 (by decide) (fun h118 => ?_) (fun h118 => ?_)
      · refine rx_iconst (0) dX10_holds_125 (by decide) ?_
        exact rx_zret dX10_holds_126 rfl (by decide) ⟨Nat.le_refl _, Nat.le_refl _⟩ ⟨rfl, _, rfl, ⟨by first | exact b2i_t (hfin.trans (by cases a with | true => rfl | false => exact absurd ((fb_top hx).mpr rfl) h118)) | exact b2i_f (fun z => by rw [hfin, (fb_top hx).mp h118] at z; cases z), rfl, rfl⟩⟩
      · refine rx_iconst (1) dX10_holds_121 (by decide) ?_
        refine rx_goto 126 dX10_holds_122 (by decide) ?_
        exact rx_zret dX10_holds_126 rfl (by decide) ⟨Nat.le_refl _, Nat.le_refl _⟩ ⟨rfl, _, rfl, ⟨by first | exact b2i_t (hfin.trans (by cases a with | true => rfl | false => exact absurd ((fb_top hx).mpr rfl) h118)) | exact b2i_f (fun z => by rw [hfin, (fb_top hx).mp h118] at z; cases z), rfl, rfl⟩⟩
    | cons t l ih =>
      intro j st x hd hx hw hev hj
      obtain ⟨f, s, n⟩ := t
      have hjl : j < toks.length := by simp at hj; omega
      have htj : toks[j]? = some (f, s, n) := by
        have := List.getElem?_drop (xs := toks) (i := j) (j := 0)
        rw [hd] at this
        simpa using this.symm
      have hd2 : toks.drop (j + 1) = l := by
        have : toks.drop (j + 1) = (toks.drop j).drop 1 := by rw [List.drop_drop]
        rw [this, hd]; rfl
      have hj2 : j + 1 + l.length = toks.length := by simp at hj; omega
      have hcj : (nI (fr + j)).toNatClampNeg = fr + j := nI_clamp (by omega)
      have hvj : vp_in (nI (fr + j)) 100 := vp_in_nI (by omega) (by omega)
      have hCj := hcodes j (f, s, n) htj
      refine rx_iload dX10_holds_10 rfl ?_
      refine rx_aload_n dX10_holds_12 rfl ?_
      refine rx_getR dX10_holds_13 flX10_21 (syO hy) rfl ?_
      refine rx_iload_n dX10_holds_16 rfl ?_
      refine rx_iaload dX10_holds_17 (syA4 hy) hvi10 ?_
      rw [hci, hto]
      refine rx_icmp_ge 115 dX10_holds_18 (by decide) (fun h18 => absurd h18 (nI_ge (by omega) (by omega))) (fun h18 => ?_)
      refine rx_aload_n dX10_holds_21 rfl ?_
      refine rx_getR dX10_holds_22 flX10_24 (syO hy) rfl ?_
      refine rx_iload dX10_holds_25 rfl ?_
      refine rx_iaload dX10_holds_27 (syA5 hy) hvj ?_
      rw [hcj, hCj]
      refine rx_istore_5 rfl dX10_holds_28 ?_
      refine rx_iload dX10_holds_30 rfl ?_
      rcases hw with ⟨hf, hs, hn, hh, hw⟩ | ⟨hf, hh, hw⟩ | ⟨hf, hh, hw⟩
      · have e : encC (f, s, n) = nI ((f * 3 + s) * 100 + n) := if_pos hf
        rw [e]
        have hev2 : evT (S 96) l (tstT (S 96) (f, s, n) :: st) = fin := by simpa [evT, oneT, show f < 6 from hf] using hev
        refine rx_tableOut 90 dX10_holds_32 (Or.inr (by rw [nI_toInt (by dsimp only at hf hs hn; omega)]; omega)) (by decide) ?_
        refine rx_iload_n dX10_holds_90 rfl ?_
        refine rx_iconst (1) dX10_holds_91 (by decide) ?_
        refine rx_ishl dX10_holds_92 ?_
        refine rx_iload dX10_holds_93 rfl ?_
        refine rx_aload_n dX10_holds_95 rfl ?_
        refine rx_cSi_2 clX10_137 dX10_holds_96 rfl (c_isSo g f s n _ S L hf hs hn rfl) ?_
        refine pur3 ?_
        refine rx_if_eq 106 dX10_holds_99 (by decide) (fun h99 => ?_) (fun h99 => ?_)
        · refine rx_iconst (0) dX10_holds_106 (by decide) ?_
          refine rx_ior dX10_holds_107 ?_
          refine rx_istore_3 rfl dX10_holds_108 ?_
          refine rx_iinc_4 (1) rfl dX10_holds_109 (by decide) ?_
          refine rx_goto 10 dX10_holds_112 (by decide) ?_
          refine rx_wk [some (.ref (11 + 6 * y)), some (.int (nI i)), some (.ref 96), some (.int _), some (.int (nI (fr + j) + 1)), none] ⟨Or.inr rfl, Or.inr rfl, Or.inr rfl, Or.inr rfl, Or.inr rfl, Or.inl rfl, trivial⟩ ?_
          rw [nI_1, Nat.add_assoc]
          first
            | exact ih (j + 1) _ _ hd2 (fb_pushF hx (by omega) (b2i_eq h99)) hw hev2 hj2
            | exact ih (j + 1) _ _ hd2 (fb_pushT hx (by omega) (b2i_ne h99)) hw hev2 hj2
            | exact ih (j + 1) _ _ hd2 hx2 hw hev2 hj2
            | exact ih (j + 1) _ _ hd2 hx2 hw2 hev2 hj2
        · refine rx_iconst (1) dX10_holds_102 (by decide) ?_
          refine rx_goto 107 dX10_holds_103 (by decide) ?_
          refine rx_ior dX10_holds_107 ?_
          refine rx_istore_3 rfl dX10_holds_108 ?_
          refine rx_iinc_4 (1) rfl dX10_holds_109 (by decide) ?_
          refine rx_goto 10 dX10_holds_112 (by decide) ?_
          refine rx_wk [some (.ref (11 + 6 * y)), some (.int (nI i)), some (.ref 96), some (.int _), some (.int (nI (fr + j) + 1)), none] ⟨Or.inr rfl, Or.inr rfl, Or.inr rfl, Or.inr rfl, Or.inr rfl, Or.inl rfl, trivial⟩ ?_
          rw [nI_1, Nat.add_assoc]
          first
            | exact ih (j + 1) _ _ hd2 (fb_pushF hx (by omega) (b2i_eq h99)) hw hev2 hj2
            | exact ih (j + 1) _ _ hd2 (fb_pushT hx (by omega) (b2i_ne h99)) hw hev2 hj2
            | exact ih (j + 1) _ _ hd2 hx2 hw hev2 hj2
            | exact ih (j + 1) _ _ hd2 hx2 hw2 hev2 hj2
      · dsimp only at hf
        subst hf
        obtain ⟨a, r, rfl⟩ : ∃ a r, st = a :: r := by
          cases st with
          | nil => simp at hh
          | cons a r => exact ⟨a, r, rfl⟩
        have e : encC (6, s, n) = -1 := rfl
        rw [e]
        have hev2 : evT (S 96) l ((!a) :: r) = fin := by simpa [evT, oneT] using hev
        have hx2 := fb_not hx
        refine rx_tableIn 60 dX10_holds_32 (by decide) (by decide) (by rfl) (by decide) ?_
        refine rx_iload_n dX10_holds_60 rfl ?_
        refine rx_iconst (1) dX10_holds_61 (by decide) ?_
        refine rx_ixor dX10_holds_62 ?_
        refine rx_istore_3 rfl dX10_holds_63 ?_
        refine rx_goto 109 dX10_holds_64 (by decide) ?_
        refine rx_iinc_4 (1) rfl dX10_holds_109 (by decide) ?_
        refine rx_goto 10 dX10_holds_112 (by decide) ?_
        refine rx_wk [some (.ref (11 + 6 * y)), some (.int (nI i)), some (.ref 96), some (.int _), some (.int (nI (fr + j) + 1)), none] ⟨Or.inr rfl, Or.inr rfl, Or.inr rfl, Or.inr rfl, Or.inr rfl, Or.inl rfl, trivial⟩ ?_
        rw [nI_1, Nat.add_assoc]
        first
          | exact ih (j + 1) _ _ hd2 (fb_pushF hx (by omega) (b2i_eq h99)) hw hev2 hj2
          | exact ih (j + 1) _ _ hd2 (fb_pushT hx (by omega) (b2i_ne h99)) hw hev2 hj2
          | exact ih (j + 1) _ _ hd2 hx2 hw hev2 hj2
          | exact ih (j + 1) _ _ hd2 hx2 hw2 hev2 hj2
      · rcases hf with hf | hf
        · dsimp only at hf
          subst hf
          obtain ⟨a, b, r, rfl⟩ : ∃ a b r, st = a :: b :: r := by
            cases st with
            | nil => simp at hh
            | cons a r => cases r with
              | nil => simp at hh
              | cons b r => exact ⟨a, b, r, rfl⟩
          have e : encC (7, s, n) = -2 := rfl
          rw [e]
          have hev2 : evT (S 96) l ((b && a) :: r) = fin := by simpa [evT, oneT] using hev
          have hx2 := fb_and hx
          have hw2 : wfT l ((b && a) :: r).length := hw
          refine rx_tableIn 67 dX10_holds_32 (by decide) (by decide) (by rfl) (by decide) ?_
          refine rx_iload_n dX10_holds_67 rfl ?_
          refine rx_iconst (1) dX10_holds_68 (by decide) ?_
          refine rx_ishr dX10_holds_69 ?_
          refine rx_iload_n dX10_holds_70 rfl ?_
          refine rx_bipush (-2) dX10_holds_71 (by decide) ?_
          refine rx_ior dX10_holds_73 ?_
          refine rx_iand dX10_holds_74 ?_
          refine rx_istore_3 rfl dX10_holds_75 ?_
          refine rx_goto 109 dX10_holds_76 (by decide) ?_
          refine rx_iinc_4 (1) rfl dX10_holds_109 (by decide) ?_
          refine rx_goto 10 dX10_holds_112 (by decide) ?_
          refine rx_wk [some (.ref (11 + 6 * y)), some (.int (nI i)), some (.ref 96), some (.int _), some (.int (nI (fr + j) + 1)), none] ⟨Or.inr rfl, Or.inr rfl, Or.inr rfl, Or.inr rfl, Or.inr rfl, Or.inl rfl, trivial⟩ ?_
          rw [nI_1, Nat.add_assoc]
          first
            | exact ih (j + 1) _ _ hd2 (fb_pushF hx (by omega) (b2i_eq h99)) hw hev2 hj2
            | exact ih (j + 1) _ _ hd2 (fb_pushT hx (by omega) (b2i_ne h99)) hw hev2 hj2
            | exact ih (j + 1) _ _ hd2 hx2 hw hev2 hj2
            | exact ih (j + 1) _ _ hd2 hx2 hw2 hev2 hj2
        · dsimp only at hf
          subst hf
          obtain ⟨a, b, r, rfl⟩ : ∃ a b r, st = a :: b :: r := by
            cases st with
            | nil => simp at hh
            | cons a r => cases r with
              | nil => simp at hh
              | cons b r => exact ⟨a, b, r, rfl⟩
          have e : encC (8, s, n) = -3 := rfl
          rw [e]
          have hev2 : evT (S 96) l ((b || a) :: r) = fin := by simpa [evT, oneT] using hev
          have hx2 := fb_or hx
          have hw2 : wfT l ((b || a) :: r).length := hw
          refine rx_tableIn 79 dX10_holds_32 (by decide) (by decide) (by rfl) (by decide) ?_
          refine rx_iload_n dX10_holds_79 rfl ?_
          refine rx_iconst (1) dX10_holds_80 (by decide) ?_
          refine rx_ishr dX10_holds_81 ?_
          refine rx_iload_n dX10_holds_82 rfl ?_
          refine rx_iconst (1) dX10_holds_83 (by decide) ?_
          refine rx_iand dX10_holds_84 ?_
          refine rx_ior dX10_holds_85 ?_
          refine rx_istore_3 rfl dX10_holds_86 ?_
          refine rx_goto 109 dX10_holds_87 (by decide) ?_
          refine rx_iinc_4 (1) rfl dX10_holds_109 (by decide) ?_
          refine rx_goto 10 dX10_holds_112 (by decide) ?_
          refine rx_wk [some (.ref (11 + 6 * y)), some (.int (nI i)), some (.ref 96), some (.int _), some (.int (nI (fr + j) + 1)), none] ⟨Or.inr rfl, Or.inr rfl, Or.inr rfl, Or.inr rfl, Or.inr rfl, Or.inl rfl, trivial⟩ ?_
          rw [nI_1, Nat.add_assoc]
          first
            | exact ih (j + 1) _ _ hd2 (fb_pushF hx (by omega) (b2i_eq h99)) hw hev2 hj2
            | exact ih (j + 1) _ _ hd2 (fb_pushT hx (by omega) (b2i_ne h99)) hw hev2 hj2
            | exact ih (j + 1) _ _ hd2 hx2 hw hev2 hj2
            | exact ih (j + 1) _ _ hd2 hx2 hw2 hev2 hj2
  refine rx_iconst (0) dX10_holds_0 (by decide) ?_
  refine rx_istore_3 rfl dX10_holds_1 ?_
  refine rx_aload_n dX10_holds_2 rfl ?_
  refine rx_getR dX10_holds_3 flX10_18 (syO hy) rfl ?_
  refine rx_iload_n dX10_holds_6 rfl ?_
  refine rx_iaload dX10_holds_7 (syA3 hy) hvi10 ?_
  rw [hci, hfr]
  refine rx_istore_4 rfl dX10_holds_8 ?_
  exact loop toks 0 [] 0 rfl fb_nil hwf hfin0 (by omega)
set_option maxRecDepth 20000 in
set_option maxHeartbeats 1000000 in
theorem c_shakeFor (g : GG) {y : Nat} (hy : y < 7) (cls : List CLS) (S : SS) (L : LL) (hcl : S (11 + 6 * y) 7 = nI cls.length) (hcs : ∀ i c, cls[i]? = some c → ClR y S i c) (hln : cls.length ≤ 10) : Ci g 2 mX10_shakeFor [.ref (11 + 6 * y), .ref 96] SHC S L (fun r S' L' => r = shakeP (S 96) cls 0 ∧ S' = S ∧ L' = L) := by
  refine ct_of (ls := [some (.ref (11 + 6 * y)), some (.ref 96), none, none]) 2 (by decide +kernel) rfl rfl ?_
  have loop : ∀ (l : List CLS) (i : Nat) (z : Int32), cls.drop i = l → shakeP (S 96) l z = shakeP (S 96) cls 0 → i + l.length = cls.length → Rx g 2 0 0 mX10_shakeFor SHC.length (fun r sh' S' L' => sh' = SHC ∧ ∃ x, r = some (.int x) ∧ (x = shakeP (S 96) cls 0 ∧ S' = S ∧ L' = L)) 0 0 4 [some (.ref (11 + 6 * y)), some (.ref 96), some (.int z), some (.int (nI i))] [] SHC S L := by
    intro l
    induction l with
    | nil =>
      intro i z hd hev hj
      have hj : i = cls.length := by simpa using hj
      refine rx_iload_n dX10_shakeFor_4 rfl ?_
      refine rx_aload_n dX10_shakeFor_5 rfl ?_
      refine rx_getI dX10_shakeFor_6 flX10_47 (syO hy) rfl ?_
      refine rx_icmp_ge 76 dX10_shakeFor_9 (by decide) (fun h9 => ?_) (fun h9 => absurd (by rw [hcl]; exact nI_le (by omega) (by omega)) h9)
      refine rx_iload_n dX10_shakeFor_76 rfl ?_
      exact rx_iret dX10_shakeFor_77 rfl ⟨Nat.le_refl _, Nat.le_refl _⟩ ⟨rfl, _, rfl, ⟨hev, rfl, rfl⟩⟩
    | cons c l ih =>
      intro i z hd hev hj
      have hjl : i < cls.length := by simp at hj; omega
      have htj : cls[i]? = some c := by
        have := List.getElem?_drop (xs := cls) (i := i) (j := 0)
        rw [hd] at this
        simpa using this.symm
      have hd2 : cls.drop (i + 1) = l := by
        have : cls.drop (i + 1) = (cls.drop i).drop 1 := by rw [List.drop_drop]
        rw [this, hd]; rfl
      have hj2 : i + 1 + l.length = cls.length := by simp at hj; omega
      obtain ⟨w, n, toks⟩ := c
      obtain ⟨hc1, hc2, hc3, hc4, hc5, hc6⟩ := hcs i _ htj
      dsimp only at hc2 hc3 hc4 hc5 hc6
      have hci : (nI i).toNatClampNeg = i := nI_clamp (by omega)
      have hvi10 : vp_in (nI i) 10 := vp_in_nI hc1 (by omega)
      refine rx_iload_n dX10_shakeFor_4 rfl ?_
      refine rx_aload_n dX10_shakeFor_5 rfl ?_
      refine rx_getI dX10_shakeFor_6 flX10_47 (syO hy) rfl ?_
      refine rx_icmp_ge 76 dX10_shakeFor_9 (by decide) (fun h9 => absurd h9 (by rw [hcl]; exact nI_ge (by omega) (by omega))) (fun h9 => ?_)
      refine rx_aload_n dX10_shakeFor_12 rfl ?_
      refine rx_getR dX10_shakeFor_13 flX10_11 (syO hy) rfl ?_
      refine rx_iload_n dX10_shakeFor_16 rfl ?_
      refine rx_iaload dX10_shakeFor_17 (syA1 hy) hvi10 ?_
      rw [hci, hc2]
      refine rx_if_ne 42 dX10_shakeFor_18 (by decide) (fun h18 => ?_) (fun h18 => ?_)
      · refine rx_aload_n dX10_shakeFor_42 rfl ?_
        refine rx_getR dX10_shakeFor_43 flX10_11 (syO hy) rfl ?_
        refine rx_iload_n dX10_shakeFor_46 rfl ?_
        refine rx_iaload dX10_shakeFor_47 (syA1 hy) hvi10 ?_
        rw [hci, hc2]
        refine rx_iconst (1) dX10_shakeFor_48 (by decide) ?_
        refine rx_icmp_ne 70 dX10_shakeFor_49 (by decide) (fun h49 => ?_) (fun h49 => ?_)
        · refine rx_iinc_3 (1) rfl dX10_shakeFor_70 (by decide) ?_
          refine rx_goto 4 dX10_shakeFor_73 (by decide) ?_
          rw [nI_1]
          refine ih (i + 1) _ hd2 ?_ hj2
          rw [← hev]
          refine congrArg (shakeP (S 96) l) ?_
          first
            | exact (if_pos ⟨hw0, b2i_ne h27⟩).symm
            | (rw [if_neg (fun q => absurd (hw1.symm.trans q.1) (by decide)), if_pos ⟨hw1, b2i_ne h58⟩]; done)
            | (rw [if_neg (fun q => b2i_eq h58 q.2), if_neg (fun q => b2i_eq h58 q.2)]; done)
            | (rw [if_neg (fun q => b2i_eq h27 q.2), if_neg (fun q => b2i_eq h27 q.2)]; done)
            | (rw [if_neg (fun q => h18 (by rw [show w = 0 from q.1]; rfl)), if_neg (fun q => h49 (by rw [show w = 1 from q.1]; rfl))]; done)
        · have hw1 : w = 1 := (nI_eq (b := 1) (by omega) (by omega)).mp h49
          obtain ⟨fr, q1, q2, q3, q4, q5⟩ := hc6 (by omega)
          refine rx_aload_n dX10_shakeFor_52 rfl ?_
          refine rx_iload_n dX10_shakeFor_53 rfl ?_
          refine rx_aload_n dX10_shakeFor_54 rfl ?_
          refine rx_cVi_2 clX10_133 dX10_shakeFor_55 (rcvo (syO hy) rfl) rfl (c_holds g hy i fr toks S L hc1 q1 q2 q3 q4 q5) ?_
          refine pur3 ?_
          refine rx_if_eq 70 dX10_shakeFor_58 (by decide) (fun h58 => ?_) (fun h58 => ?_)
          · refine rx_iinc_3 (1) rfl dX10_shakeFor_70 (by decide) ?_
            refine rx_goto 4 dX10_shakeFor_73 (by decide) ?_
            rw [nI_1]
            refine ih (i + 1) _ hd2 ?_ hj2
            rw [← hev]
            refine congrArg (shakeP (S 96) l) ?_
            first
              | exact (if_pos ⟨hw0, b2i_ne h27⟩).symm
              | (rw [if_neg (fun q => absurd (hw1.symm.trans q.1) (by decide)), if_pos ⟨hw1, b2i_ne h58⟩]; done)
              | (rw [if_neg (fun q => b2i_eq h58 q.2), if_neg (fun q => b2i_eq h58 q.2)]; done)
              | (rw [if_neg (fun q => b2i_eq h27 q.2), if_neg (fun q => b2i_eq h27 q.2)]; done)
              | (rw [if_neg (fun q => h18 (by rw [show w = 0 from q.1]; rfl)), if_neg (fun q => h49 (by rw [show w = 1 from q.1]; rfl))]; done)
          · refine rx_iload_n dX10_shakeFor_61 rfl ?_
            refine rx_aload_n dX10_shakeFor_62 rfl ?_
            refine rx_getR dX10_shakeFor_63 flX10_15 (syO hy) rfl ?_
            refine rx_iload_n dX10_shakeFor_66 rfl ?_
            refine rx_iaload dX10_shakeFor_67 (syA2 hy) (by assumption) ?_
            rw [hci, hc4]
            refine rx_isub dX10_shakeFor_68 ?_
            refine rx_istore_2 rfl dX10_shakeFor_69 ?_
            refine rx_iinc_3 (1) rfl dX10_shakeFor_70 (by decide) ?_
            refine rx_goto 4 dX10_shakeFor_73 (by decide) ?_
            rw [nI_1]
            refine ih (i + 1) _ hd2 ?_ hj2
            rw [← hev]
            refine congrArg (shakeP (S 96) l) ?_
            first
              | exact (if_pos ⟨hw0, b2i_ne h27⟩).symm
              | (rw [if_neg (fun q => absurd (hw1.symm.trans q.1) (by decide)), if_pos ⟨hw1, b2i_ne h58⟩]; done)
              | (rw [if_neg (fun q => b2i_eq h58 q.2), if_neg (fun q => b2i_eq h58 q.2)]; done)
              | (rw [if_neg (fun q => b2i_eq h27 q.2), if_neg (fun q => b2i_eq h27 q.2)]; done)
              | (rw [if_neg (fun q => h18 (by rw [show w = 0 from q.1]; rfl)), if_neg (fun q => h49 (by rw [show w = 1 from q.1]; rfl))]; done)
      · have hw0 : w = 0 := (nI_eq (b := 0) (by omega) (by omega)).mp h18
        obtain ⟨fr, q1, q2, q3, q4, q5⟩ := hc6 (by omega)
        refine rx_aload_n dX10_shakeFor_21 rfl ?_
        refine rx_iload_n dX10_shakeFor_22 rfl ?_
        refine rx_aload_n dX10_shakeFor_23 rfl ?_
        refine rx_cVi_2 clX10_133 dX10_shakeFor_24 (rcvo (syO hy) rfl) rfl (c_holds g hy i fr toks S L hc1 q1 q2 q3 q4 q5) ?_
        refine pur3 ?_
        refine rx_if_eq 42 dX10_shakeFor_27 (by decide) (fun h27 => ?_) (fun h27 => ?_)
        · refine rx_aload_n dX10_shakeFor_42 rfl ?_
          refine rx_getR dX10_shakeFor_43 flX10_11 (syO hy) rfl ?_
          refine rx_iload_n dX10_shakeFor_46 rfl ?_
          refine rx_iaload dX10_shakeFor_47 (syA1 hy) hvi10 ?_
          rw [hci, hc2]
          refine rx_iconst (1) dX10_shakeFor_48 (by decide) ?_
          refine rx_icmp_ne 70 dX10_shakeFor_49 (by decide) (fun h49 => ?_) (fun h49 => ?_)
          · refine rx_iinc_3 (1) rfl dX10_shakeFor_70 (by decide) ?_
            refine rx_goto 4 dX10_shakeFor_73 (by decide) ?_
            rw [nI_1]
            refine ih (i + 1) _ hd2 ?_ hj2
            rw [← hev]
            refine congrArg (shakeP (S 96) l) ?_
            first
              | exact (if_pos ⟨hw0, b2i_ne h27⟩).symm
              | (rw [if_neg (fun q => absurd (hw1.symm.trans q.1) (by decide)), if_pos ⟨hw1, b2i_ne h58⟩]; done)
              | (rw [if_neg (fun q => b2i_eq h58 q.2), if_neg (fun q => b2i_eq h58 q.2)]; done)
              | (rw [if_neg (fun q => b2i_eq h27 q.2), if_neg (fun q => b2i_eq h27 q.2)]; done)
              | (rw [if_neg (fun q => h18 (by rw [show w = 0 from q.1]; rfl)), if_neg (fun q => h49 (by rw [show w = 1 from q.1]; rfl))]; done)
          · have hw1 : w = 1 := (nI_eq (b := 1) (by omega) (by omega)).mp h49
            obtain ⟨fr, q1, q2, q3, q4, q5⟩ := hc6 (by omega)
            refine rx_aload_n dX10_shakeFor_52 rfl ?_
            refine rx_iload_n dX10_shakeFor_53 rfl ?_
            refine rx_aload_n dX10_shakeFor_54 rfl ?_
            refine rx_cVi_2 clX10_133 dX10_shakeFor_55 (rcvo (syO hy) rfl) rfl (c_holds g hy i fr toks S L hc1 q1 q2 q3 q4 q5) ?_
            refine pur3 ?_
            refine rx_if_eq 70 dX10_shakeFor_58 (by decide) (fun h58 => ?_) (fun h58 => ?_)
            · refine rx_iinc_3 (1) rfl dX10_shakeFor_70 (by decide) ?_
              refine rx_goto 4 dX10_shakeFor_73 (by decide) ?_
              rw [nI_1]
              refine ih (i + 1) _ hd2 ?_ hj2
              rw [← hev]
              refine congrArg (shakeP (S 96) l) ?_
              first
                | exact (if_pos ⟨hw0, b2i_ne h27⟩).symm
                | (rw [if_neg (fun q => absurd (hw1.symm.trans q.1) (by decide)), if_pos ⟨hw1, b2i_ne h58⟩]; done)
                | (rw [if_neg (fun q => b2i_eq h58 q.2), if_neg (fun q => b2i_eq h58 q.2)]; done)
                | (rw [if_neg (fun q => b2i_eq h27 q.2), if_neg (fun q => b2i_eq h27 q.2)]; done)
                | (rw [if_neg (fun q => h18 (by rw [show w = 0 from q.1]; rfl)), if_neg (fun q => h49 (by rw [show w = 1 from q.1]; rfl))]; done)
            · refine rx_iload_n dX10_shakeFor_61 rfl ?_
              refine rx_aload_n dX10_shakeFor_62 rfl ?_
              refine rx_getR dX10_shakeFor_63 flX10_15 (syO hy) rfl ?_
              refine rx_iload_n dX10_shakeFor_66 rfl ?_
              refine rx_iaload dX10_shakeFor_67 (syA2 hy) (by assumption) ?_
              rw [hci, hc4]
              refine rx_isub dX10_shakeFor_68 ?_
              refine rx_istore_2 rfl dX10_shakeFor_69 ?_
              refine rx_iinc_3 (1) rfl dX10_shakeFor_70 (by decide) ?_
              refine rx_goto 4 dX10_shakeFor_73 (by decide) ?_
              rw [nI_1]
              refine ih (i + 1) _ hd2 ?_ hj2
              rw [← hev]
              refine congrArg (shakeP (S 96) l) ?_
              first
                | exact (if_pos ⟨hw0, b2i_ne h27⟩).symm
                | (rw [if_neg (fun q => absurd (hw1.symm.trans q.1) (by decide)), if_pos ⟨hw1, b2i_ne h58⟩]; done)
                | (rw [if_neg (fun q => b2i_eq h58 q.2), if_neg (fun q => b2i_eq h58 q.2)]; done)
                | (rw [if_neg (fun q => b2i_eq h27 q.2), if_neg (fun q => b2i_eq h27 q.2)]; done)
                | (rw [if_neg (fun q => h18 (by rw [show w = 0 from q.1]; rfl)), if_neg (fun q => h49 (by rw [show w = 1 from q.1]; rfl))]; done)
        · refine rx_iload_n dX10_shakeFor_30 rfl ?_
          refine rx_aload_n dX10_shakeFor_31 rfl ?_
          refine rx_getR dX10_shakeFor_32 flX10_15 (syO hy) rfl ?_
          refine rx_iload_n dX10_shakeFor_35 rfl ?_
          refine rx_iaload dX10_shakeFor_36 (syA2 hy) hvi10 ?_
          rw [hci, hc4]
          refine rx_iadd dX10_shakeFor_37 ?_
          refine rx_istore_2 rfl dX10_shakeFor_38 ?_
          refine rx_goto 70 dX10_shakeFor_39 (by decide) ?_
          refine rx_iinc_3 (1) rfl dX10_shakeFor_70 (by decide) ?_
          refine rx_goto 4 dX10_shakeFor_73 (by decide) ?_
          rw [nI_1]
          refine ih (i + 1) _ hd2 ?_ hj2
          rw [← hev]
          refine congrArg (shakeP (S 96) l) ?_
          first
            | exact (if_pos ⟨hw0, b2i_ne h27⟩).symm
            | (rw [if_neg (fun q => absurd (hw1.symm.trans q.1) (by decide)), if_pos ⟨hw1, b2i_ne h58⟩]; done)
            | (rw [if_neg (fun q => b2i_eq h58 q.2), if_neg (fun q => b2i_eq h58 q.2)]; done)
            | (rw [if_neg (fun q => b2i_eq h27 q.2), if_neg (fun q => b2i_eq h27 q.2)]; done)
            | (rw [if_neg (fun q => h18 (by rw [show w = 0 from q.1]; rfl)), if_neg (fun q => h49 (by rw [show w = 1 from q.1]; rfl))]; done)
  refine rx_iconst (0) dX10_shakeFor_0 (by decide) ?_
  refine rx_istore_2 rfl dX10_shakeFor_1 ?_
  refine rx_iconst (0) dX10_shakeFor_2 (by decide) ?_
  refine rx_istore_3 rfl dX10_shakeFor_3 ?_
  exact loop cls 0 0 rfl rfl (by omega)
