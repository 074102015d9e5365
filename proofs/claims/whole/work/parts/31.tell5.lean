set_option maxRecDepth 20000 in
set_option maxHeartbeats 1000000 in
theorem c_isTape (g : GG) {sh : List CS} (t : Int32) (S : SS) (L : LL) : Ci g 1 mX11_isTape [.int t] sh S L (fun r S' L' => r = b2i (0 ≤ t ∧ t ≤ 5) ∧ S' = S ∧ L' = L) := by
  refine ct_of (ls := [some (.int t)]) 0 (by decide +kernel) rfl rfl ?_
  refine rx_iload_n dX11_isTape_0 rfl ?_
  refine rx_iconst (0) dX11_isTape_1 (by decide) ?_
  refine rx_iconst (5) dX11_isTape_2 (by decide) ?_
  refine rx_cSi_3 clX11_92 dX11_isTape_3 rfl (c_within g _ _ _ S L) ?_
  refine pur3 ?_
  exact rx_zret dX11_isTape_6 rfl (b2i_n _) ⟨Nat.le_refl _, Nat.le_refl _⟩ ⟨rfl, _, rfl, ⟨rfl, rfl, rfl⟩⟩
