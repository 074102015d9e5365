theorem pur3 {α : Type} {P : α → SS → LL → Prop} {v : α} {S : SS} {L : LL} (k : P v S L) : ∀ x S' L', (x = v ∧ S' = S ∧ L' = L) → P x S' L' := fun x S' L' h => by obtain ⟨h1, h2, h3⟩ := h; rw [h1, h2, h3]; exact k
theorem pur2 {P : SS → LL → Prop} {S : SS} {L : LL} (k : P S L) : ∀ S' L', (S' = S ∧ L' = L) → P S' L' := fun S' L' h => by obtain ⟨h2, h3⟩ := h; rw [h2, h3]; exact k
theorem tIo (n : Nat) (h : n < 2147483648) : (OfNat.ofNat n : Int32).toInt = (n : Int) := nI_toInt (n := n) (by omega)
theorem tIm1 : (-1 : Int32).toInt = -1 := by decide +kernel
/-- a truth as the machine holds it -/
def b2i (p : Prop) [Decidable p] : Int32 := if p then 1 else 0
theorem b2i_ne {p : Prop} [Decidable p] (h : ¬ b2i p = 0) : p := by
  unfold b2i at h
  by_cases hp : p
  · exact hp
  · rw [if_neg hp] at h; exact absurd rfl h
theorem b2i_eq {p : Prop} [Decidable p] (h : b2i p = 0) : ¬ p := by
  unfold b2i at h
  intro hp
  rw [if_pos hp] at h
  exact absurd h (by decide)
theorem b2i_t {p : Prop} [Decidable p] (h : p) : (1 : Int32) = b2i p := (if_pos h).symm
theorem b2i_f {p : Prop} [Decidable p] (h : ¬ p) : (0 : Int32) = b2i p := (if_neg h).symm
theorem b2i_n (p : Prop) [Decidable p] : narrow .boolean (.int (b2i p)) = .int (b2i p) := by
  unfold b2i
  by_cases hp : p
  · rw [if_pos hp]; rfl
  · rw [if_neg hp]; rfl
/-- the bit at place c -/
def bitv (w c : Int32) : Int32 := (w >>> (c &&& 31)) &&& 1
set_option maxRecDepth 20000 in
set_option maxHeartbeats 1000000 in
theorem c_within (g : GG) {sh : List CS} (n lo hi : Int32) (S : SS) (L : LL) : Ci g 0 mX11_within [.int n, .int lo, .int hi] sh S L (fun r S' L' => r = b2i (lo ≤ n ∧ n ≤ hi) ∧ S' = S ∧ L' = L) := by
  refine ct_of (ls := [some (.int n), some (.int lo), some (.int hi)]) 0 (by decide +kernel) rfl rfl ?_
  refine rx_iload_n dX11_within_0 rfl ?_
  refine rx_iload_n dX11_within_1 rfl ?_
  refine rx_icmp_lt 14 dX11_within_2 (by decide) (fun h2 => ?_) (fun h2 => ?_)
  · refine rx_iconst (0) dX11_within_14 (by decide) ?_
    exact rx_zret dX11_within_15 rfl (by decide) ⟨Nat.le_refl _, Nat.le_refl _⟩ ⟨rfl, _, rfl, ⟨(by first | exact b2i_t (by simp only [Int32.le_iff_toInt_le, Int32.lt_iff_toInt_lt, Int32.toInt_zero, tIo, tIm1] at *; omega) | exact b2i_f (by simp only [Int32.le_iff_toInt_le, Int32.lt_iff_toInt_lt, Int32.toInt_zero, tIo, tIm1] at *; omega)), rfl, rfl⟩⟩
  · refine rx_iload_n dX11_within_5 rfl ?_
    refine rx_iload_n dX11_within_6 rfl ?_
    refine rx_icmp_gt 14 dX11_within_7 (by decide) (fun h7 => ?_) (fun h7 => ?_)
    · refine rx_iconst (0) dX11_within_14 (by decide) ?_
      exact rx_zret dX11_within_15 rfl (by decide) ⟨Nat.le_refl _, Nat.le_refl _⟩ ⟨rfl, _, rfl, ⟨(by first | exact b2i_t (by simp only [Int32.le_iff_toInt_le, Int32.lt_iff_toInt_lt, Int32.toInt_zero, tIo, tIm1] at *; omega) | exact b2i_f (by simp only [Int32.le_iff_toInt_le, Int32.lt_iff_toInt_lt, Int32.toInt_zero, tIo, tIm1] at *; omega)), rfl, rfl⟩⟩
    · refine rx_iconst (1) dX11_within_10 (by decide) ?_
      refine rx_goto 15 dX11_within_11 (by decide) ?_
      exact rx_zret dX11_within_15 rfl (by decide) ⟨Nat.le_refl _, Nat.le_refl _⟩ ⟨rfl, _, rfl, ⟨(by first | exact b2i_t (by simp only [Int32.le_iff_toInt_le, Int32.lt_iff_toInt_lt, Int32.toInt_zero, tIo, tIm1] at *; omega) | exact b2i_f (by simp only [Int32.le_iff_toInt_le, Int32.lt_iff_toInt_lt, Int32.toInt_zero, tIo, tIm1] at *; omega)), rfl, rfl⟩⟩
set_option maxRecDepth 20000 in
set_option maxHeartbeats 1000000 in
theorem c_has (g : GG) {b : Nat} (hb : Sc b) (c : Int32) (S : SS) (L : LL) : Ci g 0 mX5_has [.ref b, .int c] SHC S L (fun r S' L' => r = b2i (0 ≤ c ∧ c < S b 6) ∧ S' = S ∧ L' = L) := by
  refine ct_of (ls := [some (.ref b), some (.int c)]) 0 (by decide +kernel) rfl rfl ?_
  refine rx_iload_n dX5_has_0 rfl ?_
  refine rx_if_lt 16 dX5_has_1 (by decide) (fun h1 => ?_) (fun h1 => ?_)
  · refine rx_iconst (0) dX5_has_16 (by decide) ?_
    exact rx_zret dX5_has_17 rfl (by decide) ⟨Nat.le_refl _, Nat.le_refl _⟩ ⟨rfl, _, rfl, ⟨(by first | exact b2i_t (by simp only [Int32.le_iff_toInt_le, Int32.lt_iff_toInt_lt, Int32.toInt_zero, tIo, tIm1] at *; omega) | exact b2i_f (by simp only [Int32.le_iff_toInt_le, Int32.lt_iff_toInt_lt, Int32.toInt_zero, tIo, tIm1] at *; omega)), rfl, rfl⟩⟩
  · refine rx_iload_n dX5_has_4 rfl ?_
    refine rx_aload_n dX5_has_5 rfl ?_
    refine rx_getI dX5_has_6 flX5_58 (scO hb) rfl ?_
    refine rx_icmp_ge 16 dX5_has_9 (by decide) (fun h9 => ?_) (fun h9 => ?_)
    · refine rx_iconst (0) dX5_has_16 (by decide) ?_
      exact rx_zret dX5_has_17 rfl (by decide) ⟨Nat.le_refl _, Nat.le_refl _⟩ ⟨rfl, _, rfl, ⟨(by first | exact b2i_t (by simp only [Int32.le_iff_toInt_le, Int32.lt_iff_toInt_lt, Int32.toInt_zero, tIo, tIm1] at *; omega) | exact b2i_f (by simp only [Int32.le_iff_toInt_le, Int32.lt_iff_toInt_lt, Int32.toInt_zero, tIo, tIm1] at *; omega)), rfl, rfl⟩⟩
    · refine rx_iconst (1) dX5_has_12 (by decide) ?_
      refine rx_goto 17 dX5_has_13 (by decide) ?_
      exact rx_zret dX5_has_17 rfl (by decide) ⟨Nat.le_refl _, Nat.le_refl _⟩ ⟨rfl, _, rfl, ⟨(by first | exact b2i_t (by simp only [Int32.le_iff_toInt_le, Int32.lt_iff_toInt_lt, Int32.toInt_zero, tIo, tIm1] at *; omega) | exact b2i_f (by simp only [Int32.le_iff_toInt_le, Int32.lt_iff_toInt_lt, Int32.toInt_zero, tIo, tIm1] at *; omega)), rfl, rfl⟩⟩
set_option maxRecDepth 20000 in
set_option maxHeartbeats 1000000 in
theorem c_isAtWall (g : GG) {b : Nat} (hb : Sc b) (c : Int32) (S : SS) (L : LL) : Ci g 0 mX5_isAtWall [.ref b, .int c] SHC S L (fun r S' L' => r = b2i (¬ bitv (S b 7) c = 0) ∧ S' = S ∧ L' = L) := by
  refine ct_of (ls := [some (.ref b), some (.int c)]) 0 (by decide +kernel) rfl rfl ?_
  refine rx_aload_n dX5_isAtWall_0 rfl ?_
  refine rx_getI dX5_isAtWall_1 flX5_62 (scO hb) rfl ?_
  refine rx_iload_n dX5_isAtWall_4 rfl ?_
  refine rx_ishr dX5_isAtWall_5 ?_
  refine rx_iconst (1) dX5_isAtWall_6 (by decide) ?_
  refine rx_iand dX5_isAtWall_7 ?_
  refine rx_if_eq 15 dX5_isAtWall_8 (by decide) (fun h8 => ?_) (fun h8 => ?_)
  · refine rx_iconst (0) dX5_isAtWall_15 (by decide) ?_
    exact rx_zret dX5_isAtWall_16 rfl (by decide) ⟨Nat.le_refl _, Nat.le_refl _⟩ ⟨rfl, _, rfl, ⟨by first | exact b2i_t h8 | exact b2i_f (fun h => h h8), rfl, rfl⟩⟩
  · refine rx_iconst (1) dX5_isAtWall_11 (by decide) ?_
    refine rx_goto 16 dX5_isAtWall_12 (by decide) ?_
    exact rx_zret dX5_isAtWall_16 rfl (by decide) ⟨Nat.le_refl _, Nat.le_refl _⟩ ⟨rfl, _, rfl, ⟨by first | exact b2i_t h8 | exact b2i_f (fun h => h h8), rfl, rfl⟩⟩
set_option maxRecDepth 20000 in
set_option maxHeartbeats 1000000 in
theorem c_in (g : GG) {sh : List CS} (z : Nat) (n lo hi : Int32) (S : SS) (L : LL) : Ci g 0 mX12_in [.ref z, .int n, .int lo, .int hi] sh S L (fun r S' L' => r = b2i (lo ≤ n ∧ n ≤ hi) ∧ S' = S ∧ L' = L) := by
  refine ct_of (ls := [some (.ref z), some (.int n), some (.int lo), some (.int hi)]) 0 (by decide +kernel) rfl rfl ?_
  refine rx_iload_n dX12_in_0 rfl ?_
  refine rx_iload_n dX12_in_1 rfl ?_
  refine rx_icmp_lt 14 dX12_in_2 (by decide) (fun h2 => ?_) (fun h2 => ?_)
  · refine rx_iconst (0) dX12_in_14 (by decide) ?_
    exact rx_zret dX12_in_15 rfl (by decide) ⟨Nat.le_refl _, Nat.le_refl _⟩ ⟨rfl, _, rfl, ⟨(by first | exact b2i_t (by simp only [Int32.le_iff_toInt_le, Int32.lt_iff_toInt_lt, Int32.toInt_zero, tIo, tIm1] at *; omega) | exact b2i_f (by simp only [Int32.le_iff_toInt_le, Int32.lt_iff_toInt_lt, Int32.toInt_zero, tIo, tIm1] at *; omega)), rfl, rfl⟩⟩
  · refine rx_iload_n dX12_in_5 rfl ?_
    refine rx_iload_n dX12_in_6 rfl ?_
    refine rx_icmp_gt 14 dX12_in_7 (by decide) (fun h7 => ?_) (fun h7 => ?_)
    · refine rx_iconst (0) dX12_in_14 (by decide) ?_
      exact rx_zret dX12_in_15 rfl (by decide) ⟨Nat.le_refl _, Nat.le_refl _⟩ ⟨rfl, _, rfl, ⟨(by first | exact b2i_t (by simp only [Int32.le_iff_toInt_le, Int32.lt_iff_toInt_lt, Int32.toInt_zero, tIo, tIm1] at *; omega) | exact b2i_f (by simp only [Int32.le_iff_toInt_le, Int32.lt_iff_toInt_lt, Int32.toInt_zero, tIo, tIm1] at *; omega)), rfl, rfl⟩⟩
    · refine rx_iconst (1) dX12_in_10 (by decide) ?_
      refine rx_goto 15 dX12_in_11 (by decide) ?_
      exact rx_zret dX12_in_15 rfl (by decide) ⟨Nat.le_refl _, Nat.le_refl _⟩ ⟨rfl, _, rfl, ⟨(by first | exact b2i_t (by simp only [Int32.le_iff_toInt_le, Int32.lt_iff_toInt_lt, Int32.toInt_zero, tIo, tIm1] at *; omega) | exact b2i_f (by simp only [Int32.le_iff_toInt_le, Int32.lt_iff_toInt_lt, Int32.toInt_zero, tIo, tIm1] at *; omega)), rfl, rfl⟩⟩
set_option maxRecDepth 20000 in
set_option maxHeartbeats 1000000 in
theorem c_isChild (g : GG) (c : Int32) (S : SS) (L : LL) : Ci g 1 mX12_isChild [.ref 0, .int c] SHM S L (fun r S' L' => r = b2i (0 ≤ c ∧ c ≤ S 0 0 - 1) ∧ S' = S ∧ L' = L) := by
  refine ct_of (ls := [some (.ref 0), some (.int c)]) 0 (by decide +kernel) rfl rfl ?_
  refine rx_aload_n dX12_isChild_0 rfl ?_
  refine rx_iload_n dX12_isChild_1 rfl ?_
  refine rx_iconst (0) dX12_isChild_2 (by decide) ?_
  refine rx_aload_n dX12_isChild_3 rfl ?_
  refine rx_getI dX12_isChild_4 flX12_7 (sM_0) rfl ?_
  refine rx_iconst (1) dX12_isChild_7 (by decide) ?_
  refine rx_isub dX12_isChild_8 ?_
  refine rx_cVi_3 clX12_236 dX12_isChild_9 (rcvo (sM_0) rfl) rfl (c_in g 0 _ _ _ _ _) ?_
  refine pur3 ?_
  exact rx_zret dX12_isChild_12 rfl (b2i_n _) ⟨Nat.le_refl _, Nat.le_refl _⟩ ⟨rfl, _, rfl, ⟨rfl, rfl, rfl⟩⟩
