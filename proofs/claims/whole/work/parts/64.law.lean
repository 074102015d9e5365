-- THE LAW
theorem isub6 {L n : Nat} (hL : L ≤ 3072) (hn : n ≤ 4000) : nI L - 6 < nI n ↔ L < n + 6 := by
  have h : (nI L - 6).toInt = (L : Int) - 6 := pk_sub_toInt (a := L) (b := 6) (by omega) (by omega)
  rw [Int32.lt_iff_toInt_lt, h, nI_toInt (by omega)]
  omega
set_option maxRecDepth 20000 in
set_option maxHeartbeats 4000000 in
theorem law_loop {g : GG} {p : Program} {e : Env} {s : State} {m : MethodId} {below : List Frame} {meth : Method} {c : Code} {b L : Nat} {xs : Nat → Int32} {ρ1 ρ2 : Nat → Nat} {cells slots : Nat} (C0 : lw_At p s m meth c b L xs) (hLs : L ≤ 3072) (hcu : cells ≤ 600000 ∧ slots ≤ 7302250) : ∀ (fu n : Nat) (σ : SIG) (S1 : SS) (L1 : LL) (S2 : SS) (L2 : LL) (H : Heap) (locs : List Loc) (als : Array Slot), L < n + fu → n ≤ 3078 → LWd g s ρ1 ρ2 S1 L1 S2 L2 H locs → CRel S1 L1 σ → MRel S2 L2 σ → lv_has als 4 [(0, .ref b), (1, .ref (ρ1 0)), (2, .ref (ρ2 0)), (3, .int (nI n))] →
    W p g.1 e room_1 s m #[Value.ref b] below meth c H locs cells slots (lw_Z below #[Value.ref b] s) (F0 m 18 als []) := by
  obtain ⟨hx, hb, hr, hml, hown, hts, hX, hbl, hlocks, hgv⟩ := id C0
  intro fu
  induction fu with
  | zero =>
    intro n σ S1 L1 S2 L2 H locs als hfu hn X hC hM hl
    refine lv_iload_n hx hb dL_law_18 rfl (lv_at hl 3 rfl) ?_
    refine lv_aload_n hx hb dL_law_19 rfl (lv_at hl 0 rfl) ?_
    refine va_slen hx hb hX hbl (Nat.not_le.mpr hbl) X.1.2.2.1 dL_law_20 ?_
    refine lv_bipush (v := 6) hx hb dL_law_21 (by decide) ?_
    refine lv_isub hx hb dL_law_23 ?_
    refine lv_icmp_gt (tgt := 1363) hx hb dL_law_24 (by decide) (fun _ => ?_) (fun h => absurd ((isub6 hLs (by omega)).mpr (by omega)) h)
    refine lv_iconst (v := 1) hx hb dL_law_1363 (by decide) ?_
    refine va_forget (fun q hq => X.1.2.2.1.2.2 q hq) ?_
    refine W.widen (k := 600000) (n := 7302250) hcu.1 hcu.2 ?_
    exact lw_ret hx hb hr hlocks dL_law_1364
  | succ fu ih =>
    intro n σ S1 L1 S2 L2 H locs als hfu hn X hC hM hl
    refine lv_iload_n hx hb dL_law_18 rfl (lv_at hl 3 rfl) ?_
    refine lv_aload_n hx hb dL_law_19 rfl (lv_at hl 0 rfl) ?_
    refine va_slen hx hb hX hbl (Nat.not_le.mpr hbl) X.1.2.2.1 dL_law_20 ?_
    refine lv_bipush (v := 6) hx hb dL_law_21 (by decide) ?_
    refine lv_isub hx hb dL_law_23 ?_
    refine lv_icmp_gt (tgt := 1363) hx hb dL_law_24 (by decide) (fun _ => ?_) (fun hgt => ?_)
    · refine lv_iconst (v := 1) hx hb dL_law_1363 (by decide) ?_
      refine va_forget (fun q hq => X.1.2.2.1.2.2 q hq) ?_
      refine W.widen (k := 600000) (n := 7302250) hcu.1 hcu.2 ?_
      exact lw_ret hx hb hr hlocks dL_law_1364
    have hlt : n + 6 ≤ L := Nat.le_of_not_lt fun q => hgt ((isub6 hLs (by omega)).mpr q)
    refine lv_aload_n hx hb dL_law_27 rfl (lv_at hl 0 rfl) ?_
    refine lv_iload_n hx hb dL_law_28 rfl (lv_at hl 3 rfl) ?_
    refine va_sld hx hb hX hbl (Nat.not_le.mpr hbl) X.1.2.2.1 (vp_in_nI (n := n) (N := L) (by omega) (by omega)) dL_law_29 ?_
    rw [nI_clamp (by omega)]
    refine lv_bipush (v := 63) hx hb dL_law_30 (by decide) ?_
    refine lv_iand hx hb dL_law_32 ?_
    obtain ⟨j, hj, ej⟩ := pk_andE (xs n) (m := 63) 6 (by decide)
    rw [ej]
    have K : ∀ (σ' : SIG) (S1' : SS) (L1' : LL) (S2' : SS) (L2' : LL) (H' : Heap) (locs' : List Loc), LWd g s ρ1 ρ2 S1' L1' S2' L2' H' locs' → CRel S1' L1' σ' → MRel S2' L2' σ' → W p g.1 e room_1 s m #[Value.ref b] below meth c H' locs' cells slots (lw_Z below #[Value.ref b] s) (F0 m 1357 als []) := by
      intro σ' S1' L1' S2' L2' H' locs' X' hC' hM'
      refine lv_iinc (v := nI (n + 6)) (lv' := [(3, .int (nI (n + 6))), (0, .ref b), (1, .ref (ρ1 0)), (2, .ref (ρ2 0))]) hx hb dL_law_1357 hl (k := 3) rfl (by rw [show Int32.ofInt 6 = nI 6 from by decide +kernel]; exact nI_add n 6) (by decide) rfl (fun ls hl => ?_)
      refine lv_goto (tgt := 18) hx hb dL_law_1360 (by decide) ?_
      exact ih (n + 6) σ' S1' L1' S2' L2' H' locs' ls (by omega) (by omega) X' hC' hM' (lv_sub hl [1, 2, 3, 0] rfl)
    by_cases h37 : 37 < j
    · refine lv_tableOut (tgt := 1357) hx hb dL_law_33 (Or.inr (by rw [nI_toInt (by omega)]; omega)) (by decide) ?_
      exact K σ S1 L1 S2 L2 H locs X hC hM
    rcases (show j = 0 ∨ j = 1 ∨ j = 2 ∨ j = 3 ∨ j = 4 ∨ j = 5 ∨ j = 6 ∨ j = 7 ∨ j = 8 ∨ j = 9 ∨ j = 10 ∨ j = 11 ∨ j = 12 ∨ j = 13 ∨ j = 14 ∨ j = 15 ∨ j = 16 ∨ j = 17 ∨ j = 18 ∨ j = 19 ∨ j = 20 ∨ j = 21 ∨ j = 22 ∨ j = 23 ∨ j = 24 ∨ j = 25 ∨ j = 26 ∨ j = 27 ∨ j = 28 ∨ j = 29 ∨ j = 30 ∨ j = 31 ∨ j = 32 ∨ j = 33 ∨ j = 34 ∨ j = 35 ∨ j = 36 ∨ j = 37 by omega) with rfl | rfl | rfl | rfl | rfl | rfl | rfl | rfl | rfl | rfl | rfl | rfl | rfl | rfl | rfl | rfl | rfl | rfl | rfl | rfl | rfl | rfl | rfl | rfl | rfl | rfl | rfl | rfl | rfl | rfl | rfl | rfl | rfl | rfl | rfl | rfl | rfl | rfl
    · refine lv_tableIn (tgt := 200) hx hb dL_law_33 (by decide) (by decide) (by rfl) (by decide) ?_
      exact lw_k0 C0 hLs hlt X hC hM hl hcu K
    · refine lv_tableIn (tgt := 233) hx hb dL_law_33 (by decide) (by decide) (by rfl) (by decide) ?_
      exact lw_k1 C0 hLs hlt X hC hM hl hcu K
    · refine lv_tableIn (tgt := 266) hx hb dL_law_33 (by decide) (by decide) (by rfl) (by decide) ?_
      exact lw_k2 C0 hLs hlt X hC hM hl hcu K
    · refine lv_tableIn (tgt := 309) hx hb dL_law_33 (by decide) (by decide) (by rfl) (by decide) ?_
      exact lw_k3 C0 hLs hlt X hC hM hl hcu K
    · refine lv_tableIn (tgt := 352) hx hb dL_law_33 (by decide) (by decide) (by rfl) (by decide) ?_
      exact lw_k4 C0 hLs hlt X hC hM hl hcu K
    · refine lv_tableIn (tgt := 385) hx hb dL_law_33 (by decide) (by decide) (by rfl) (by decide) ?_
      exact lw_k5 C0 hLs hlt X hC hM hl hcu K
    · refine lv_tableIn (tgt := 408) hx hb dL_law_33 (by decide) (by decide) (by rfl) (by decide) ?_
      exact lw_k6 C0 hLs hlt X hC hM hl hcu K
    · refine lv_tableIn (tgt := 421) hx hb dL_law_33 (by decide) (by decide) (by rfl) (by decide) ?_
      exact lw_k7 C0 hLs hlt X hC hM hl hcu K
    · refine lv_tableIn (tgt := 444) hx hb dL_law_33 (by decide) (by decide) (by rfl) (by decide) ?_
      exact lw_k8 C0 hLs hlt X hC hM hl hcu K
    · refine lv_tableIn (tgt := 457) hx hb dL_law_33 (by decide) (by decide) (by rfl) (by decide) ?_
      exact lw_k9 C0 hLs hlt X hC hM hl hcu K
    · refine lv_tableIn (tgt := 490) hx hb dL_law_33 (by decide) (by decide) (by rfl) (by decide) ?_
      exact lw_k10 C0 hLs hlt X hC hM hl hcu K
    · refine lv_tableIn (tgt := 513) hx hb dL_law_33 (by decide) (by decide) (by rfl) (by decide) ?_
      exact lw_k11 C0 hLs hlt X hC hM hl hcu K
    · refine lv_tableIn (tgt := 526) hx hb dL_law_33 (by decide) (by decide) (by rfl) (by decide) ?_
      exact lw_k12 C0 hLs hlt X hC hM hl hcu K
    · refine lv_tableIn (tgt := 539) hx hb dL_law_33 (by decide) (by decide) (by rfl) (by decide) ?_
      exact lw_k13 C0 hLs hlt X hC hM hl hcu K
    · refine lv_tableIn (tgt := 562) hx hb dL_law_33 (by decide) (by decide) (by rfl) (by decide) ?_
      exact lw_k14 C0 hLs hlt X hC hM hl hcu K
    · refine lv_tableIn (tgt := 595) hx hb dL_law_33 (by decide) (by decide) (by rfl) (by decide) ?_
      exact lw_k15 C0 hLs hlt X hC hM hl hcu K
    · refine lv_tableIn (tgt := 628) hx hb dL_law_33 (by decide) (by decide) (by rfl) (by decide) ?_
      exact lw_k16 C0 hLs hlt X hC hM hl hcu K
    · refine lv_tableIn (tgt := 651) hx hb dL_law_33 (by decide) (by decide) (by rfl) (by decide) ?_
      exact lw_k17 C0 hLs hlt X hC hM hl hcu K
    · refine lv_tableIn (tgt := 684) hx hb dL_law_33 (by decide) (by decide) (by rfl) (by decide) ?_
      exact lw_k18 C0 hLs hlt X hC hM hl hcu K
    · refine lv_tableIn (tgt := 717) hx hb dL_law_33 (by decide) (by decide) (by rfl) (by decide) ?_
      exact lw_k19 C0 hLs hlt X hC hM hl hcu K
    · refine lv_tableIn (tgt := 760) hx hb dL_law_33 (by decide) (by decide) (by rfl) (by decide) ?_
      exact lw_k20 C0 hLs hlt X hC hM hl hcu K
    · refine lv_tableIn (tgt := 803) hx hb dL_law_33 (by decide) (by decide) (by rfl) (by decide) ?_
      exact lw_k21 C0 hLs hlt X hC hM hl hcu K
    · refine lv_tableIn (tgt := 816) hx hb dL_law_33 (by decide) (by decide) (by rfl) (by decide) ?_
      exact lw_k22 C0 hLs hlt X hC hM hl hcu K
    · refine lv_tableIn (tgt := 849) hx hb dL_law_33 (by decide) (by decide) (by rfl) (by decide) ?_
      exact lw_k23 C0 hLs hlt X hC hM hl hcu K
    · refine lv_tableIn (tgt := 883) hx hb dL_law_33 (by decide) (by decide) (by rfl) (by decide) ?_
      exact lw_k24 C0 hLs hlt X hC hM hl hcu K
    · refine lv_tableIn (tgt := 917) hx hb dL_law_33 (by decide) (by decide) (by rfl) (by decide) ?_
      exact lw_k25 C0 hLs hlt X hC hM hl hcu K
    · refine lv_tableIn (tgt := 950) hx hb dL_law_33 (by decide) (by decide) (by rfl) (by decide) ?_
      exact lw_k26 C0 hLs hlt X hC hM hl hcu K
    · refine lv_tableIn (tgt := 963) hx hb dL_law_33 (by decide) (by decide) (by rfl) (by decide) ?_
      exact lw_k27 C0 hLs hlt X hC hM hl hcu K
    · refine lv_tableIn (tgt := 996) hx hb dL_law_33 (by decide) (by decide) (by rfl) (by decide) ?_
      exact lw_k28 C0 hLs hlt X hC hM hl hcu K
    · refine lv_tableIn (tgt := 1009) hx hb dL_law_33 (by decide) (by decide) (by rfl) (by decide) ?_
      exact lw_k29 C0 hLs hlt X hC hM hl hcu K
    · refine lv_tableIn (tgt := 1022) hx hb dL_law_33 (by decide) (by decide) (by rfl) (by decide) ?_
      exact lw_k30 C0 hLs hlt X hC hM hl hcu K
    · refine lv_tableIn (tgt := 1065) hx hb dL_law_33 (by decide) (by decide) (by rfl) (by decide) ?_
      exact lw_k31 C0 hLs hlt X hC hM hl hcu K
    · refine lv_tableIn (tgt := 1088) hx hb dL_law_33 (by decide) (by decide) (by rfl) (by decide) ?_
      exact lw_k32 C0 hLs hlt X hC hM hl hcu K
    · refine lv_tableIn (tgt := 1121) hx hb dL_law_33 (by decide) (by decide) (by rfl) (by decide) ?_
      exact lw_k33 C0 hLs hlt X hC hM hl hcu K
    · refine lv_tableIn (tgt := 1144) hx hb dL_law_33 (by decide) (by decide) (by rfl) (by decide) ?_
      exact lw_k34 C0 hLs hlt X hC hM hl hcu K
    · refine lv_tableIn (tgt := 1187) hx hb dL_law_33 (by decide) (by decide) (by rfl) (by decide) ?_
      exact lw_k35 C0 hLs hlt X hC hM hl hcu K
    · refine lv_tableIn (tgt := 1260) hx hb dL_law_33 (by decide) (by decide) (by rfl) (by decide) ?_
      exact lw_k36 C0 hLs hlt X hC hM hl hcu K
    · refine lv_tableIn (tgt := 1294) hx hb dL_law_33 (by decide) (by decide) (by rfl) (by decide) ?_
      exact lw_k37 C0 hLs hlt X hC hM hl hcu K
