-- TEXTS
section TX
variable {g : GG} {d mc ms : Nat} {M : MI} {n0 : Nat} {Q : Option Value → List CS → SS → LL → Prop} {cu su pc : Nat} {ls : List (Option Value)} {st rest : List Value} {sh : List CS} {S : SS} {L : LL}
theorem ad_ge {g : GG} {ρ : Nat → Nat} {r : Nat} (h : 100000 ≤ r) : ad g ρ r = g.2.2.2 r := if_neg (by omega)
theorem rx_strV {idx i : Nat} (dd : decode M.2.1 pc = .ok (.getfield idx, 3)) (hl : Cond.fieldLink M.1.cls idx "java/lang/String" "value" "[B" ∈ TB) (hi : i < 7) (k : Rx g d mc ms M n0 Q cu su (pc + 3) ls (.ref (100100 + i) :: rest) sh S L) : Rx g d mc ms M n0 Q cu su pc ls (.ref (100000 + i) :: rest) sh S L := fun p e s m args below meth c ρ0 A ρ H locs als C X Y => by
  have hE := (X.2.2.2.2.2.2.2.1.1 i hi).2.2.1
  have h := k p e s m args below meth c ρ0 A ρ H locs als C X Y
  show W _ _ _ _ _ _ _ _ _ _ _ _ _ _ _ (F0 m pc als (.ref (ad g ρ (100000 + i)) :: rest.map (vm g ρ)))
  rw [ad_ge (Nat.le_add_right _ _)]
  refine vk_getf C.1 C.2.1 hE X.2.2.1 C.2.2.2.2.1 (C.2.2.2.2.2.1 _ hl) (fun _ h => h) dd ?_
  have e : (Value.ref (100100 + i) :: rest).map (vm g ρ) = .ref (g.2.2.2 (100100 + i)) :: rest.map (vm g ρ) := by
    show Value.ref (ad g ρ (100100 + i)) :: _ = _
    rw [ad_ge (by omega)]
  rw [e] at h
  exact h
theorem rx_strC {idx i : Nat} (dd : decode M.2.1 pc = .ok (.getfield idx, 3)) (hl : Cond.fieldLink M.1.cls idx "java/lang/String" "coder" "B" ∈ TB) (hi : i < 7) (k : Rx g d mc ms M n0 Q cu su (pc + 3) ls (.int 0 :: rest) sh S L) : Rx g d mc ms M n0 Q cu su pc ls (.ref (100000 + i) :: rest) sh S L := fun p e s m args below meth c ρ0 A ρ H locs als C X Y => by
  have hE := (X.2.2.2.2.2.2.2.1.1 i hi).2.1
  show W _ _ _ _ _ _ _ _ _ _ _ _ _ _ _ (F0 m pc als (.ref (ad g ρ (100000 + i)) :: rest.map (vm g ρ)))
  rw [ad_ge (Nat.le_add_right _ _)]
  exact vk_getf C.1 C.2.1 hE X.2.2.1 C.2.2.2.2.1 (C.2.2.2.2.2.1 _ hl) (fun _ h => h) dd (k p e s m args below meth c ρ0 A ρ H locs als C X Y)
theorem rx_comp {idx : Nat} (dd : decode M.2.1 pc = .ok (.getstatic idx, 3)) (hl : Cond.fieldLink M.1.cls idx "java/lang/String" "COMPACT_STRINGS" "Z" ∈ TB) (k : Rx g d mc ms M n0 Q cu su (pc + 3) ls (.int 1 :: st) sh S L) : Rx g d mc ms M n0 Q cu su pc ls st sh S L := fun p e s m args below meth c ρ0 A ρ H locs als C X Y =>
  va_gets C.1 C.2.1 X.2.2.2.2.2.2.2.2.2.2.1 X.2.2.1 C.2.2.2.2.1 (C.2.2.2.2.2.1 _ hl) (fun _ h => h) dd (k p e s m args below meth c ρ0 A ρ H locs als C X Y)
theorem rx_zq {idx : Nat} (dd : decode M.2.1 pc = .ok (.getstatic idx, 3)) (hl : Cond.fieldLink M.1.cls idx "jdk/internal/util/Preconditions" "SIOOBE_FORMATTER" "Ljava/util/function/BiFunction;" ∈ TB) (k : ∀ v, (v = .null ∨ v = .ref 100201) → Rx g d mc ms M n0 Q cu su (pc + 3) ls (v :: st) sh S L) : Rx g d mc ms M n0 Q cu su pc ls st sh S L := fun p e s m args below meth c ρ0 A ρ H locs als C X Y => by
  rcases X.2.2.2.2.2.2.2.2.2.2.2.1 with hZ | hZ
  · exact va_gets C.1 C.2.1 hZ X.2.2.1 C.2.2.2.2.1 (C.2.2.2.2.2.1 _ hl) (fun _ h => h) dd (k .null (Or.inl rfl) p e s m args below meth c ρ0 A ρ H locs als C X Y)
  · exact va_gets C.1 C.2.1 hZ X.2.2.1 C.2.2.2.2.1 (C.2.2.2.2.2.1 _ hl) (fun _ h => h) dd (k (.ref 100201) (Or.inr rfl) p e s m args below meth c ρ0 A ρ H locs als C X Y)
theorem rx_slen {i : Nat} (dd : decode M.2.1 pc = .ok (.arraylength, 1)) (hi : i < 7) (k : Rx g d mc ms M n0 Q cu su (pc + 1) ls (.int (nI (strLen.getD i 0)) :: rest) sh S L) : Rx g d mc ms M n0 Q cu su pc ls (.ref (100100 + i) :: rest) sh S L := fun p e s m args below meth c ρ0 A ρ H locs als C X Y => by
  have hT := (X.2.2.2.2.2.2.2.1.1 i hi).2.2.2
  show W _ _ _ _ _ _ _ _ _ _ _ _ _ _ _ (F0 m pc als (.ref (ad g ρ (100100 + i)) :: rest.map (vm g ρ)))
  rw [ad_ge (by omega)]
  exact va_tlen C.1 C.2.1 hT X.2.2.1 rfl dd (k p e s m args below meth c ρ0 A ρ H locs als C X Y)
theorem rx_sbald {i : Nat} {j : Int32} (dd : decode M.2.1 pc = .ok (.baload, 1)) (hi : i < 7) (hin : vp_in j (strLen.getD i 0)) (k : Rx g d mc ms M n0 Q cu su (pc + 1) ls (.int ((strByt.getD i []).getD j.toNatClampNeg 0) :: rest) sh S L) : Rx g d mc ms M n0 Q cu su pc ls (.int j :: .ref (100100 + i) :: rest) sh S L := fun p e s m args below meth c ρ0 A ρ H locs als C X Y => by
  have hT := (X.2.2.2.2.2.2.2.1.1 i hi).2.2.2
  show W _ _ _ _ _ _ _ _ _ _ _ _ _ _ _ (F0 m pc als (.int j :: .ref (ad g ρ (100100 + i)) :: rest.map (vm g ρ)))
  rw [ad_ge (by omega)]
  exact va_tb C.1 C.2.1 hT X.2.2.1 hin rfl dd (k p e s m args below meth c ρ0 A ρ H locs als C X Y)
end TX
theorem i7 {i : Nat} (h : i < 7) : i = 0 ∨ i = 1 ∨ i = 2 ∨ i = 3 ∨ i = 4 ∨ i = 5 ∨ i = 6 := by omega
theorem strLen_shr : ∀ i, i < 7 → nI (strLen.getD i 0) >>> ((0 : Int32) &&& 31) = nI (strLen.getD i 0) := by decide +kernel
theorem strLen_le : ∀ i, i < 7 → strLen.getD i 0 ≤ 6 ∧ 1 ≤ strLen.getD i 0 ∧ (strByt.getD i []).length = strLen.getD i 0 := by decide +kernel
theorem strByt_ok : ∀ i, i < 7 → ∀ j, j < strLen.getD i 0 → (((strByt.getD i []).getD j 0 &&& 255).toUInt32 % 65536).toInt32 = (strByt.getD i []).getD j 0 ∧ narrow .char (.int ((strByt.getD i []).getD j 0)) = .int ((strByt.getD i []).getD j 0) := by
  intro i hi
  rcases i7 hi with rfl | rfl | rfl | rfl | rfl | rfl | rfl <;> decide +kernel
def ixP (ch : Int32) : List Int32 → Nat → Int32
  | [], _ => -1
  | a :: r, j => if a = ch then nI j else ixP ch r (j + 1)

set_option maxRecDepth 20000 in
set_option maxHeartbeats 1000000 in
theorem c_coder (g : GG) {sh : List CS} {i : Nat} (hi : i < 7)  (S : SS) (L : LL) : Ci g 0 mJ0_coder_7d493 [.ref (100000 + i)] sh S L (fun r S' L' => r = (0 : Int32) ∧ S' = S ∧ L' = L) := by
  refine ct_of (ls := [some (.ref (100000 + i))]) 0 (by decide +kernel) rfl rfl ?_
  refine rx_comp dJ0_coder_7d493_0 w_240 ?_
  refine rx_if_eq 13 dJ0_coder_7d493_3 (by decide) (fun h3 => absurd h3 (by decide)) (fun h3 => ?_)
  refine rx_aload_n dJ0_coder_7d493_6 rfl ?_
  refine rx_strC dJ0_coder_7d493_7 w_1516 hi ?_
  refine rx_goto 14 dJ0_coder_7d493_10 (by decide) ?_
  exact rx_zret dJ0_coder_7d493_14 rfl (by decide) ⟨Nat.le_refl _, Nat.le_refl _⟩ ⟨rfl, _, rfl, ⟨rfl, rfl, rfl⟩⟩
set_option maxRecDepth 20000 in
set_option maxHeartbeats 1000000 in
theorem c_strLen (g : GG) {sh : List CS} {i : Nat} (hi : i < 7)  (S : SS) (L : LL) : Ci g 1 mJ0_length_8abf5 [.ref (100000 + i)] sh S L (fun r S' L' => r = nI (strLen.getD i 0) ∧ S' = S ∧ L' = L) := by
  refine ct_of (ls := [some (.ref (100000 + i))]) 0 (by decide +kernel) rfl rfl ?_
  refine rx_aload_n dJ0_length_8abf5_0 rfl ?_
  refine rx_strV dJ0_length_8abf5_1 w_1515 hi ?_
  refine rx_slen dJ0_length_8abf5_4 hi ?_
  refine rx_aload_n dJ0_length_8abf5_5 rfl ?_
  refine rx_cVi_0 clJ0_335 dJ0_length_8abf5_6 (Or.inr ⟨Nat.le_add_right _ _, by omega, rfl⟩) rfl (c_coder g hi S L) ?_
  refine pur3 ?_
  refine rx_ishr dJ0_length_8abf5_9 ?_
  exact rx_iret dJ0_length_8abf5_10 rfl ⟨Nat.le_refl _, Nat.le_refl _⟩ ⟨rfl, _, rfl, ⟨strLen_shr i hi, rfl, rfl⟩⟩
set_option maxRecDepth 20000 in
set_option maxHeartbeats 1000000 in
theorem c_isLatin1 (g : GG) {sh : List CS} {i : Nat} (hi : i < 7)  (S : SS) (L : LL) : Ci g 0 mJ0_isLatin1_aae02 [.ref (100000 + i)] sh S L (fun r S' L' => r = (1 : Int32) ∧ S' = S ∧ L' = L) := by
  refine ct_of (ls := [some (.ref (100000 + i))]) 0 (by decide +kernel) rfl rfl ?_
  refine rx_comp dJ0_isLatin1_aae02_0 w_240 ?_
  refine rx_if_eq 17 dJ0_isLatin1_aae02_3 (by decide) (fun h3 => absurd h3 (by decide)) (fun h3 => ?_)
  refine rx_aload_n dJ0_isLatin1_aae02_6 rfl ?_
  refine rx_strC dJ0_isLatin1_aae02_7 w_1516 hi ?_
  refine rx_if_ne 17 dJ0_isLatin1_aae02_10 (by decide) (fun h10 => absurd h10 (by decide)) (fun h10 => ?_)
  refine rx_iconst (1) dJ0_isLatin1_aae02_13 (by decide) ?_
  refine rx_goto 18 dJ0_isLatin1_aae02_14 (by decide) ?_
  exact rx_zret dJ0_isLatin1_aae02_18 rfl (by decide) ⟨Nat.le_refl _, Nat.le_refl _⟩ ⟨rfl, _, rfl, ⟨rfl, rfl, rfl⟩⟩
set_option maxRecDepth 20000 in
set_option maxHeartbeats 400000 in
theorem c_ckP (g : GG) {sh : List CS} (a n : Int32) (v : Value) (hv : v = .null ∨ v = .ref 100201) (h0 : 0 ≤ a) (hn : a < n) (S : SS) (L : LL) : Ci g 0 mJ3_checkIndex_8e157 [.int a, .int n, v] sh S L (fun r S' L' => r = a ∧ S' = S ∧ L' = L) := by
  rcases hv with rfl | rfl
  · refine ct_of (ls := [some (.int a), some (.int n), some .null]) 0 (by decide +kernel) rfl rfl ?_
    refine rx_iload_n dJ3_checkIndex_8e157_0 rfl ?_
    refine rx_if_lt 9 dJ3_checkIndex_8e157_1 (by decide) (fun h1 => absurd h1 (Int32.not_lt.mpr h0)) (fun h1 => ?_)
    refine rx_iload_n dJ3_checkIndex_8e157_4 rfl ?_
    refine rx_iload_n dJ3_checkIndex_8e157_5 rfl ?_
    refine rx_icmp_lt 16 dJ3_checkIndex_8e157_6 (by decide) (fun h6 => ?_) (fun h6 => absurd hn h6)
    refine rx_iload_n dJ3_checkIndex_8e157_16 rfl ?_
    exact rx_iret dJ3_checkIndex_8e157_17 rfl ⟨Nat.le_refl _, Nat.le_refl _⟩ ⟨rfl, _, rfl, ⟨rfl, rfl, rfl⟩⟩
  · refine ct_of (ls := [some (.int a), some (.int n), some (.ref 100201)]) 0 (by decide +kernel) rfl rfl ?_
    refine rx_iload_n dJ3_checkIndex_8e157_0 rfl ?_
    refine rx_if_lt 9 dJ3_checkIndex_8e157_1 (by decide) (fun h1 => absurd h1 (Int32.not_lt.mpr h0)) (fun h1 => ?_)
    refine rx_iload_n dJ3_checkIndex_8e157_4 rfl ?_
    refine rx_iload_n dJ3_checkIndex_8e157_5 rfl ?_
    refine rx_icmp_lt 16 dJ3_checkIndex_8e157_6 (by decide) (fun h6 => ?_) (fun h6 => absurd hn h6)
    refine rx_iload_n dJ3_checkIndex_8e157_16 rfl ?_
    exact rx_iret dJ3_checkIndex_8e157_17 rfl ⟨Nat.le_refl _, Nat.le_refl _⟩ ⟨rfl, _, rfl, ⟨rfl, rfl, rfl⟩⟩
set_option maxRecDepth 20000 in
set_option maxHeartbeats 1000000 in
theorem c_ckI (g : GG) {sh : List CS} (a n : Int32) (S : SS) (L : LL) (h0 : 0 ≤ a) (hn : a < n) : Cv g 1 mJ0_checkIndex_df160 [.int a, .int n] sh S L (fun S' L' => S' = S ∧ L' = L) := by
  refine ct_of (ls := [some (.int a), some (.int n)]) 0 (by decide +kernel) rfl rfl ?_
  refine rx_iload_n dJ0_checkIndex_df160_0 rfl ?_
  refine rx_iload_n dJ0_checkIndex_df160_1 rfl ?_
  refine rx_zq dJ0_checkIndex_df160_2 w_500 ?_
  intro v hv
  refine rx_cSi_3 clJ0_1059 dJ0_checkIndex_df160_5 rfl (c_ckP g a n v hv h0 hn S L) ?_
  refine pur3 ?_
  refine rx_pop dJ0_checkIndex_df160_8 rfl ?_
  exact rx_vret dJ0_checkIndex_df160_9 rfl ⟨Nat.le_refl _, Nat.le_refl _⟩ ⟨rfl, rfl, ⟨rfl, rfl⟩⟩
set_option maxRecDepth 20000 in
set_option maxHeartbeats 1000000 in
theorem c_chL (g : GG) {sh : List CS} {i : Nat} (hi : i < 7) (j : Nat)  (S : SS) (L : LL) (hj : j < strLen.getD i 0) : Ci g 2 mJ1_charAt_3b067 [.ref (100100 + i), .int (nI j)] sh S L (fun r S' L' => r = (strByt.getD i []).getD j 0 ∧ S' = S ∧ L' = L) := by
  have hjl := (strLen_le i hi).1
  have hjc : (nI j).toNatClampNeg = j := nI_clamp (by omega)
  obtain ⟨hb1, hb2⟩ := strByt_ok i hi j hj
  refine ct_of (ls := [some (.ref (100100 + i)), some (.int (nI j))]) 0 (by decide +kernel) rfl rfl ?_
  refine rx_iload_n dJ1_charAt_3b067_0 rfl ?_
  refine rx_aload_n dJ1_charAt_3b067_1 rfl ?_
  refine rx_slen dJ1_charAt_3b067_2 hi ?_
  refine rx_cSv_2 clJ1_9 dJ1_charAt_3b067_3 rfl (c_ckI g (nI j) (nI (strLen.getD i 0)) S L (nI_pos' (n := j) (by omega)) (nI_lt hj (by omega))) ?_
  refine pur2 ?_
  refine rx_aload_n dJ1_charAt_3b067_6 rfl ?_
  refine rx_iload_n dJ1_charAt_3b067_7 rfl ?_
  refine rx_sbald dJ1_charAt_3b067_8 hi (vp_in_nI hj (by omega)) ?_
  rw [hjc]
  refine rx_sipush (255) dJ1_charAt_3b067_9 (by decide) ?_
  refine rx_iand dJ1_charAt_3b067_12 ?_
  refine rx_i2c dJ1_charAt_3b067_13 ?_
  rw [hb1]
  exact rx_zret dJ1_charAt_3b067_14 rfl hb2 ⟨Nat.le_refl _, Nat.le_refl _⟩ ⟨rfl, _, rfl, ⟨rfl, rfl, rfl⟩⟩
set_option maxRecDepth 20000 in
set_option maxHeartbeats 1000000 in
theorem c_charAt (g : GG) {sh : List CS} {i : Nat} (hi : i < 7) (j : Nat)  (S : SS) (L : LL) (hj : j < strLen.getD i 0) : Ci g 3 mJ0_charAt_5068e [.ref (100000 + i), .int (nI j)] sh S L (fun r S' L' => r = (strByt.getD i []).getD j 0 ∧ S' = S ∧ L' = L) := by
  have hjl := (strLen_le i hi).1
  have hjc : (nI j).toNatClampNeg = j := nI_clamp (by omega)
  obtain ⟨hb1, hb2⟩ := strByt_ok i hi j hj
  refine ct_of (ls := [some (.ref (100000 + i)), some (.int (nI j))]) 0 (by decide +kernel) rfl rfl ?_
  refine rx_aload_n dJ0_charAt_5068e_0 rfl ?_
  refine rx_cVi_0 clJ0_492 dJ0_charAt_5068e_1 (Or.inr ⟨Nat.le_add_right _ _, by omega, rfl⟩) rfl (c_isLatin1 g hi S L) ?_
  refine pur3 ?_
  refine rx_if_eq 16 dJ0_charAt_5068e_4 (by decide) (fun h4 => absurd h4 (by decide)) (fun h4 => ?_)
  refine rx_aload_n dJ0_charAt_5068e_7 rfl ?_
  refine rx_strV dJ0_charAt_5068e_8 w_1515 hi ?_
  refine rx_iload_n dJ0_charAt_5068e_11 rfl ?_
  refine rx_cSi_2 clJ0_495 dJ0_charAt_5068e_12 rfl (c_chL g hi j S L hj) ?_
  refine pur3 ?_
  exact rx_zret dJ0_charAt_5068e_15 rfl hb2 ⟨Nat.le_refl _, Nat.le_refl _⟩ ⟨rfl, _, rfl, ⟨rfl, rfl, rfl⟩⟩
set_option maxRecDepth 20000 in
set_option maxHeartbeats 400000 in
theorem c_ixC (g : GG) {sh : List CS} {i : Nat} (hi : i < 7) (ch : Int32) (S : SS) (L : LL) (hc0 : 0 ≤ ch) (hc1 : ch ≤ nI 127) : Ci g 0 mJ1_indexOfChar_4cfef [.ref (100100 + i), .int ch, .int 0, .int (nI (strLen.getD i 0))] sh S L (fun r S' L' => r = ixP ch (strByt.getD i []) 0 ∧ S' = S ∧ L' = L) := by
  refine ct_of (ls := [some (.ref (100100 + i)), some (.int ch), some (.int 0), some (.int (nI (strLen.getD i 0))), none, none]) 2 (by decide +kernel) rfl rfl ?_
  refine rx_iload_n dJ1_indexOfChar_4cfef_0 rfl ?_
  refine rx_i2b dJ1_indexOfChar_4cfef_1 ?_
  rw [show ch.toInt8.toInt32 = ch from by obtain ⟨q, hq, rfl⟩ := rngI 127 (by omega) hc0 hc1; exact q8 q (by omega)]
  refine rx_istore_4 rfl dJ1_indexOfChar_4cfef_2 ?_
  refine rx_iload_n dJ1_indexOfChar_4cfef_4 rfl ?_
  refine rx_istore_5 rfl dJ1_indexOfChar_4cfef_5 ?_
  obtain ⟨l1, l2, l3⟩ := strLen_le i hi
  have loop : ∀ (r j : Nat), j + r = strLen.getD i 0 → ixP ch ((strByt.getD i []).drop j) j = ixP ch (strByt.getD i []) 0 → Rx g 0 0 0 mJ1_indexOfChar_4cfef sh.length (fun r sh' S' L' => sh' = sh ∧ ∃ x, r = some (.int x) ∧ (x = ixP ch (strByt.getD i []) 0 ∧ S' = S ∧ L' = L)) 0 0 7 [some (.ref (100100 + i)), some (.int ch), some (.int 0), some (.int (nI (strLen.getD i 0))), some (.int ch), some (.int (nI j))] [] sh S L := by
    intro r
    induction r with
    | zero =>
      intro j he hev
      refine rx_iload dJ1_indexOfChar_4cfef_7 rfl ?_
      refine rx_iload_n dJ1_indexOfChar_4cfef_9 rfl ?_
      refine rx_icmp_ge 31 dJ1_indexOfChar_4cfef_10 (by decide) (fun h10 => ?_) (fun h10 => absurd (nI_le (by omega) (by omega)) h10)
      refine rx_iconst (-1) dJ1_indexOfChar_4cfef_31 (by decide) ?_
      exact rx_iret dJ1_indexOfChar_4cfef_32 rfl ⟨Nat.le_refl _, Nat.le_refl _⟩ ⟨rfl, _, rfl, ⟨by rw [← hev, List.drop_of_length_le (by omega)]; rfl, rfl, rfl⟩⟩
    | succ r ih =>
      intro j he hev
      have hjc : (nI j).toNatClampNeg = j := nI_clamp (by omega)
      have hdr : (strByt.getD i []).drop j = (strByt.getD i []).getD j 0 :: (strByt.getD i []).drop (j + 1) := by
        have hl : j < (strByt.getD i []).length := by omega
        rw [List.drop_eq_getElem_cons hl, List.getD_eq_getElem?_getD (l := strByt.getD i []) (i := j), List.getElem?_eq_getElem hl]
        rfl
      refine rx_iload dJ1_indexOfChar_4cfef_7 rfl ?_
      refine rx_iload_n dJ1_indexOfChar_4cfef_9 rfl ?_
      refine rx_icmp_ge 31 dJ1_indexOfChar_4cfef_10 (by decide) (fun h10 => absurd h10 (nI_ge (by omega) (by omega))) (fun h10 => ?_)
      refine rx_aload_n dJ1_indexOfChar_4cfef_13 rfl ?_
      refine rx_iload dJ1_indexOfChar_4cfef_14 rfl ?_
      refine rx_sbald dJ1_indexOfChar_4cfef_16 hi (vp_in_nI (by omega) (by omega)) ?_
      rw [hjc]
      refine rx_iload dJ1_indexOfChar_4cfef_17 rfl ?_
      refine rx_icmp_ne 25 dJ1_indexOfChar_4cfef_19 (by decide) (fun h19 => ?_) (fun h19 => ?_)
      · refine rx_iinc_5 (1) rfl dJ1_indexOfChar_4cfef_25 (by decide) ?_
        refine rx_goto 7 dJ1_indexOfChar_4cfef_28 (by decide) ?_
        rw [nI_1]
        exact ih (j + 1) (by omega) (by rw [← hev, hdr]; exact (if_neg h19).symm)
      · refine rx_iload dJ1_indexOfChar_4cfef_22 rfl ?_
        exact rx_iret dJ1_indexOfChar_4cfef_24 rfl ⟨Nat.le_refl _, Nat.le_refl _⟩ ⟨rfl, _, rfl, ⟨by rw [← hev, hdr]; exact (if_pos h19).symm, rfl, rfl⟩⟩
  exact loop (strLen.getD i 0) 0 (by omega) rfl
set_option maxRecDepth 20000 in
set_option maxHeartbeats 1000000 in
theorem c_canEnc (g : GG) {sh : List CS} (ch : Int32) (S : SS) (L : LL) (hc0 : 0 ≤ ch) (hc1 : ch ≤ nI 127) : Ci g 0 mJ1_canEncode_9a6ad [.int ch] sh S L (fun r S' L' => r = (1 : Int32) ∧ S' = S ∧ L' = L) := by
  refine ct_of (ls := [some (.int ch)]) 0 (by decide +kernel) rfl rfl ?_
  refine rx_iload_n dJ1_canEncode_9a6ad_0 rfl ?_
  refine rx_if_lt 15 dJ1_canEncode_9a6ad_1 (by decide) (fun h1 => absurd h1 (Int32.not_lt.mpr hc0)) (fun h1 => ?_)
  refine rx_iload_n dJ1_canEncode_9a6ad_4 rfl ?_
  refine rx_sipush (255) dJ1_canEncode_9a6ad_5 (by decide) ?_
  refine rx_icmp_gt 15 dJ1_canEncode_9a6ad_8 (by decide) (fun h8 => absurd h8 (Int32.not_lt.mpr (Int32.le_trans hc1 (by decide)))) (fun h8 => ?_)
  refine rx_iconst (1) dJ1_canEncode_9a6ad_11 (by decide) ?_
  refine rx_goto 16 dJ1_canEncode_9a6ad_12 (by decide) ?_
  exact rx_zret dJ1_canEncode_9a6ad_16 rfl (by decide) ⟨Nat.le_refl _, Nat.le_refl _⟩ ⟨rfl, _, rfl, ⟨rfl, rfl, rfl⟩⟩
set_option maxRecDepth 20000 in
set_option maxHeartbeats 1000000 in
theorem c_ixL (g : GG) {sh : List CS} {i : Nat} (hi : i < 7) (ch : Int32) (S : SS) (L : LL) (hc0 : 0 ≤ ch) (hc1 : ch ≤ nI 127) : Ci g 1 mJ1_indexOf_4cfef [.ref (100100 + i), .int ch, .int 0, .int (nI (strLen.getD i 0))] sh S L (fun r S' L' => r = ixP ch (strByt.getD i []) 0 ∧ S' = S ∧ L' = L) := by
  obtain ⟨l1, l2, l3⟩ := strLen_le i hi
  refine ct_of (ls := [some (.ref (100100 + i)), some (.int ch), some (.int 0), some (.int (nI (strLen.getD i 0)))]) 0 (by decide +kernel) rfl rfl ?_
  refine rx_iload_n dJ1_indexOf_4cfef_0 rfl ?_
  refine rx_cSi_1 clJ1_88 dJ1_indexOf_4cfef_1 rfl (c_canEnc g ch S L hc0 hc1) ?_
  refine pur3 ?_
  refine rx_if_ne 9 dJ1_indexOf_4cfef_4 (by decide) (fun h4 => ?_) (fun h4 => absurd h4 (by decide))
  refine rx_iload_n dJ1_indexOf_4cfef_9 rfl ?_
  refine rx_iconst (0) dJ1_indexOf_4cfef_10 (by decide) ?_
  refine rx_max dJ1_indexOf_4cfef_11 w_568 w_409 w_15 w_410 (by decide) ⟨Nat.le_refl _, Nat.le_refl _⟩ (Nat.le_of_ble_eq_true rfl) ?_
  rw [show (if (0 : Int32) < 0 then (0 : Int32) else 0) = 0 from by decide]
  refine rx_istore_2 rfl dJ1_indexOf_4cfef_14 ?_
  refine rx_iload_n dJ1_indexOf_4cfef_15 rfl ?_
  refine rx_aload_n dJ1_indexOf_4cfef_16 rfl ?_
  refine rx_slen dJ1_indexOf_4cfef_17 hi ?_
  refine rx_min dJ1_indexOf_4cfef_18 w_569 w_423 w_15 w_424 (by decide) ⟨Nat.le_refl _, Nat.le_refl _⟩ (Nat.le_of_ble_eq_true rfl) ?_
  rw [ite_self]
  refine rx_istore_3 rfl dJ1_indexOf_4cfef_21 ?_
  refine rx_iload_n dJ1_indexOf_4cfef_22 rfl ?_
  refine rx_iload_n dJ1_indexOf_4cfef_23 rfl ?_
  refine rx_icmp_lt 29 dJ1_indexOf_4cfef_24 (by decide) (fun h24 => ?_) (fun h24 => absurd (nI_lt (a := 0) l2 (by omega)) h24)
  refine rx_aload_n dJ1_indexOf_4cfef_29 rfl ?_
  refine rx_iload_n dJ1_indexOf_4cfef_30 rfl ?_
  refine rx_iload_n dJ1_indexOf_4cfef_31 rfl ?_
  refine rx_iload_n dJ1_indexOf_4cfef_32 rfl ?_
  refine rx_cSi_4 clJ1_95 dJ1_indexOf_4cfef_33 rfl (c_ixC g hi ch S L hc0 hc1) ?_
  refine pur3 ?_
  exact rx_iret dJ1_indexOf_4cfef_36 rfl ⟨Nat.le_refl _, Nat.le_refl _⟩ ⟨rfl, _, rfl, ⟨rfl, rfl, rfl⟩⟩
set_option maxRecDepth 20000 in
set_option maxHeartbeats 1000000 in
theorem c_ix2 (g : GG) {sh : List CS} {i : Nat} (hi : i < 7) (ch : Int32) (S : SS) (L : LL) (hc0 : 0 ≤ ch) (hc1 : ch ≤ nI 127) : Ci g 2 mJ0_indexOf_7cf53 [.ref (100000 + i), .int ch, .int 0] sh S L (fun r S' L' => r = ixP ch (strByt.getD i []) 0 ∧ S' = S ∧ L' = L) := by
  refine ct_of (ls := [some (.ref (100000 + i)), some (.int ch), some (.int 0)]) 0 (by decide +kernel) rfl rfl ?_
  refine rx_aload_n dJ0_indexOf_7cf53_0 rfl ?_
  refine rx_cVi_0 clJ0_492 dJ0_indexOf_7cf53_1 (Or.inr ⟨Nat.le_add_right _ _, by omega, rfl⟩) rfl (c_isLatin1 g hi S L) ?_
  refine pur3 ?_
  refine rx_if_eq 23 dJ0_indexOf_7cf53_4 (by decide) (fun h4 => absurd h4 (by decide)) (fun h4 => ?_)
  refine rx_aload_n dJ0_indexOf_7cf53_7 rfl ?_
  refine rx_strV dJ0_indexOf_7cf53_8 w_1515 hi ?_
  refine rx_iload_n dJ0_indexOf_7cf53_11 rfl ?_
  refine rx_iload_n dJ0_indexOf_7cf53_12 rfl ?_
  refine rx_aload_n dJ0_indexOf_7cf53_13 rfl ?_
  refine rx_cVi_0 clJ0_505 dJ0_indexOf_7cf53_14 (Or.inr ⟨Nat.le_add_right _ _, by omega, rfl⟩) rfl (c_strLen g hi S L) ?_
  refine pur3 ?_
  refine rx_cSi_4 clJ0_637 dJ0_indexOf_7cf53_17 rfl (c_ixL g hi ch S L hc0 hc1) ?_
  refine pur3 ?_
  refine rx_goto 36 dJ0_indexOf_7cf53_20 (by decide) ?_
  exact rx_iret dJ0_indexOf_7cf53_36 rfl ⟨Nat.le_refl _, Nat.le_refl _⟩ ⟨rfl, _, rfl, ⟨rfl, rfl, rfl⟩⟩
set_option maxRecDepth 20000 in
set_option maxHeartbeats 1000000 in
theorem c_indexOf (g : GG) {sh : List CS} {i : Nat} (hi : i < 7) (ch : Int32) (S : SS) (L : LL) (hc0 : 0 ≤ ch) (hc1 : ch ≤ nI 127) : Ci g 3 mJ0_indexOf_0f7a4 [.ref (100000 + i), .int ch] sh S L (fun r S' L' => r = ixP ch (strByt.getD i []) 0 ∧ S' = S ∧ L' = L) := by
  refine ct_of (ls := [some (.ref (100000 + i)), some (.int ch)]) 0 (by decide +kernel) rfl rfl ?_
  refine rx_aload_n dJ0_indexOf_0f7a4_0 rfl ?_
  refine rx_iload_n dJ0_indexOf_0f7a4_1 rfl ?_
  refine rx_iconst (0) dJ0_indexOf_0f7a4_2 (by decide) ?_
  refine rx_cVi_2 clJ0_633 dJ0_indexOf_0f7a4_3 (Or.inr ⟨Nat.le_add_right _ _, by omega, rfl⟩) rfl (c_ix2 g hi ch S L hc0 hc1) ?_
  refine pur3 ?_
  exact rx_iret dJ0_indexOf_0f7a4_6 rfl ⟨Nat.le_refl _, Nat.le_refl _⟩ ⟨rfl, _, rfl, ⟨rfl, rfl, rfl⟩⟩
