-- AT THE START, purely
def sc0 : SCN := (0, fun _ => 0, fun _ => 0, fun _ => 0, fun _ => 0, fun _ => 3, (fun _ => 0, 0, 0, fun _ => 0), 0, [], [])
def sig0 : SIG := (sc0, false, sc0, 0, fun _ => (40, 3, 9, []), [], 0, fun _ => 0, fun _ => -1, fun _ => 0, fun _ _ => 0)
theorem oks0 : OKs sc0 (fun _ => (40, 3, 9, [])) := ⟨⟨Nat.zero_le _, fun c h => absurd h (Nat.not_lt_zero c), fun c h => absurd h (Nat.not_lt_zero c), fun c h => absurd h (Nat.not_lt_zero c), fun c _ => ⟨0, Nat.zero_le _, rfl⟩, fun c _ => ⟨3, by decide, by decide, rfl⟩, ⟨40, by decide, by decide, rfl⟩, ⟨3, by decide, rfl⟩, ⟨9, by decide, rfl⟩⟩, ⟨⟨0, by decide, rfl⟩, fun c h => absurd h (Nat.not_lt_zero c), fun c h => absurd h (Nat.not_lt_zero c)⟩, Nat.zero_le _, fun q h => absurd h List.not_mem_nil, fun q h => absurd h List.not_mem_nil, Nat.zero_le _, Nat.zero_le _⟩
theorem okg0 : OKg sig0 := ⟨oks0, fun h => absurd h (by decide), Nat.zero_le _, Nat.le_refl _, fun h => absurd h (by decide), rfl, Nat.zero_le _, fun q h => absurd h List.not_mem_nil, Nat.zero_le _, fun t _ => Or.inl ⟨rfl, rfl⟩⟩
theorem ydr0 : YdR 0 sA39 (40, 3, 9, []) := ⟨by decide +kernel, Nat.zero_le _, fun i c h => by simp at h, by decide +kernel, by decide +kernel, by decide +kernel⟩
theorem scn0 : ScN 53 sA39 (gN sig0) (gY sig0) := ⟨⟨by decide +kernel, by decide +kernel, by decide +kernel, by decide +kernel, by decide +kernel, by decide +kernel, ⟨0, by decide, by decide +kernel, ydr0⟩, by decide +kernel, by decide +kernel, by decide +kernel, by decide, by decide +kernel⟩, by decide +kernel, ⟨by decide +kernel, fun i q h => absurd h (by show ¬ ([] : List (Nat × Nat × Nat))[i]? = some q; simp)⟩, ⟨by decide +kernel, fun i q h => absurd h (by show ¬ ([] : List (Nat × Nat))[i]? = some q; simp)⟩⟩
theorem crel0 : CRel sA39 ZL sig0 := ⟨okg0, scn0, fun h => absurd h (by decide), by decide +kernel, by decide +kernel, fun y hy => by
  have hy : y ≤ 0 := hy
  have e : y = 0 := by omega
  subst e
  exact ydr0, by decide +kernel, fun i q h => absurd h (by show ¬ ([] : List Nat)[i]? = some q; simp), by decide +kernel, fun i _ h => absurd h (Nat.not_lt_zero i), fun t ht => ⟨(by decide +kernel : ∀ t, t < 6 → sA39 106 t = gS sig0 t) t ht, (by decide +kernel : ∀ t, t < 6 → sA39 107 t = nI (gZ sig0 t)) t ht, fun i h => absurd h (Nat.not_lt_zero i)⟩⟩
theorem myd0 : MYd 0 sB38 (40, 3, 9, []) := ⟨rfl, Nat.zero_le _, fun c h => absurd h List.not_mem_nil, fun _ => rfl, fun h => absurd h (by decide)⟩
theorem msc0 : MSc sB38 (gE sig0) (gD sig0) := ⟨by decide +kernel, by decide +kernel, by decide +kernel, by decide +kernel, by decide +kernel, by decide +kernel, ⟨0, by decide, by decide +kernel, myd0⟩, by decide +kernel, by decide +kernel, by decide +kernel, by decide, by decide +kernel⟩
theorem mrel0 : MRel sB38 ZL sig0 := ⟨okg0, msc0, ⟨by decide +kernel, by decide +kernel, by decide +kernel⟩, by decide +kernel, ⟨by decide +kernel, fun i q h => absurd h (by show ¬ ([] : List (Nat × Nat × Nat))[i]? = some q; simp)⟩, ⟨by decide +kernel, fun i q h => absurd h (by show ¬ ([] : List (Nat × Nat))[i]? = some q; simp)⟩, fun h => absurd h (by decide), by decide +kernel, by decide +kernel, fun y hy => by
  have hy : y ≤ 0 := hy
  have e : y = 0 := by omega
  subst e
  exact myd0, by decide +kernel, fun i q h => absurd h (by show ¬ ([] : List Nat)[i]? = some q; simp), by decide +kernel, fun i _ h => absurd h (Nat.not_lt_zero i), fun t ht => ⟨(by decide +kernel : ∀ t, t < 6 → sB38 43 t = gS sig0 t) t ht, (by decide +kernel : ∀ t, t < 6 → sB38 44 t = nI (gZ sig0 t)) t ht, fun i h => absurd h (Nat.not_lt_zero i)⟩, by unfold MLt; decide +kernel⟩
