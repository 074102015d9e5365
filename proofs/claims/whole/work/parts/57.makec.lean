-- THE MAKING OF THE CLASS
def ZS : SS := fun _ _ => 0
def ZL : LL := fun _ _ => 0
theorem okk {r n : Nat} (h : r < n) : ([some (Value.ref r)].all (okO n) && ([] : List Value).all (okB n)) = true := by
  show (((Nat.blt r n || Nat.ble 100000 r) && true) && true) = true
  rw [Nat.blt_eq.mpr h]
  rfl
/-- a net as it stands at a time of its making -/
def stg (T : List (Nat × Nat × List ((Nat × Nat × Nat) × Nat) × Nat)) (t : Nat) : List CS := (T.filter (fun c => Nat.ble c.2.2.2 t)).map (fun c => (c.1, c.2.1, c.2.2.1.map (fun f => if Nat.ble f.2 t then f.1 else (1, 0, 0))))
def SHTA : List (Nat × Nat × List ((Nat × Nat × Nat) × Nat) × Nat) := [(0, 11, [((2, 1, 0), 16), ((2, 9, 0), 18), ((0, 0, 0), 0), ((2, 10, 0), 20), ((0, 0, 0), 0), ((2, 53, 0), 138), ((2, 66, 0), 165), ((2, 79, 0), 192), ((0, 0, 0), 0), ((2, 92, 0), 203), ((2, 97, 0), 207), ((2, 99, 0), 209), ((2, 106, 0), 211), ((2, 107, 0), 213)], 0), (5, 7, [((2, 2, 0), 3), ((2, 3, 0), 5), ((2, 4, 0), 7), ((2, 5, 0), 9), ((2, 6, 0), 11), ((2, 7, 0), 13), ((2, 8, 0), 15)], 1), (0, 2, [], 2), (0, 3, [], 4), (0, 7, [], 6), (0, 6, [], 8), (0, 4, [], 10), (0, 1, [], 12), (0, 8, [], 14), (3, 100, [], 17), (6, 7, [((2, 11, 0), 33), ((2, 17, 0), 46), ((2, 23, 0), 59), ((2, 29, 0), 72), ((2, 35, 0), 85), ((2, 41, 0), 98), ((2, 47, 0), 111)], 19), (0, 10, [((2, 9, 0), 32), ((0, 0, 0), 0), ((0, 0, 0), 0), ((2, 12, 0), 23), ((2, 13, 0), 25), ((2, 14, 0), 27), ((2, 15, 0), 29), ((0, 0, 0), 0), ((2, 16, 0), 31), ((0, 0, 0), 0), ((0, 0, 0), 0), ((0, 0, 0), 0), ((0, 0, 0), 0)], 21), (1, 10, [], 22), (1, 10, [], 24), (1, 10, [], 26), (1, 10, [], 28), (1, 100, [], 30), (0, 10, [((2, 9, 0), 45), ((0, 0, 0), 0), ((0, 0, 0), 0), ((2, 18, 0), 36), ((2, 19, 0), 38), ((2, 20, 0), 40), ((2, 21, 0), 42), ((0, 0, 0), 0), ((2, 22, 0), 44), ((0, 0, 0), 0), ((0, 0, 0), 0), ((0, 0, 0), 0), ((0, 0, 0), 0)], 34), (1, 10, [], 35), (1, 10, [], 37), (1, 10, [], 39), (1, 10, [], 41), (1, 100, [], 43), (0, 10, [((2, 9, 0), 58), ((0, 0, 0), 0), ((0, 0, 0), 0), ((2, 24, 0), 49), ((2, 25, 0), 51), ((2, 26, 0), 53), ((2, 27, 0), 55), ((0, 0, 0), 0), ((2, 28, 0), 57), ((0, 0, 0), 0), ((0, 0, 0), 0), ((0, 0, 0), 0), ((0, 0, 0), 0)], 47), (1, 10, [], 48), (1, 10, [], 50), (1, 10, [], 52), (1, 10, [], 54), (1, 100, [], 56), (0, 10, [((2, 9, 0), 71), ((0, 0, 0), 0), ((0, 0, 0), 0), ((2, 30, 0), 62), ((2, 31, 0), 64), ((2, 32, 0), 66), ((2, 33, 0), 68), ((0, 0, 0), 0), ((2, 34, 0), 70), ((0, 0, 0), 0), ((0, 0, 0), 0), ((0, 0, 0), 0), ((0, 0, 0), 0)], 60), (1, 10, [], 61), (1, 10, [], 63), (1, 10, [], 65), (1, 10, [], 67), (1, 100, [], 69), (0, 10, [((2, 9, 0), 84), ((0, 0, 0), 0), ((0, 0, 0), 0), ((2, 36, 0), 75), ((2, 37, 0), 77), ((2, 38, 0), 79), ((2, 39, 0), 81), ((0, 0, 0), 0), ((2, 40, 0), 83), ((0, 0, 0), 0), ((0, 0, 0), 0), ((0, 0, 0), 0), ((0, 0, 0), 0)], 73), (1, 10, [], 74), (1, 10, [], 76), (1, 10, [], 78), (1, 10, [], 80), (1, 100, [], 82), (0, 10, [((2, 9, 0), 97), ((0, 0, 0), 0), ((0, 0, 0), 0), ((2, 42, 0), 88), ((2, 43, 0), 90), ((2, 44, 0), 92), ((2, 45, 0), 94), ((0, 0, 0), 0), ((2, 46, 0), 96), ((0, 0, 0), 0), ((0, 0, 0), 0), ((0, 0, 0), 0), ((0, 0, 0), 0)], 86), (1, 10, [], 87), (1, 10, [], 89), (1, 10, [], 91), (1, 10, [], 93), (1, 100, [], 95), (0, 10, [((2, 9, 0), 110), ((0, 0, 0), 0), ((0, 0, 0), 0), ((2, 48, 0), 101), ((2, 49, 0), 103), ((2, 50, 0), 105), ((2, 51, 0), 107), ((0, 0, 0), 0), ((2, 52, 0), 109), ((0, 0, 0), 0), ((0, 0, 0), 0), ((0, 0, 0), 0), ((0, 0, 0), 0)], 99), (1, 10, [], 100), (1, 10, [], 102), (1, 10, [], 104), (1, 10, [], 106), (1, 100, [], 108), (0, 5, [((2, 54, 0), 114), ((2, 55, 0), 116), ((2, 56, 0), 118), ((2, 57, 0), 120), ((2, 58, 0), 122), ((2, 59, 0), 124), ((0, 0, 0), 0), ((0, 0, 0), 0), ((2, 60, 0), 126), ((0, 0, 0), 0), ((3, 11, 6), 137), ((2, 61, 0), 128), ((2, 62, 0), 130), ((2, 63, 0), 132), ((0, 0, 0), 0), ((2, 64, 0), 134), ((2, 65, 0), 136), ((0, 0, 0), 0)], 112), (1, 7, [], 113), (1, 7, [], 115), (1, 7, [], 117), (1, 7, [], 119), (1, 7, [], 121), (1, 28, [], 123), (1, 4, [], 125), (1, 4, [], 127), (1, 4, [], 129), (1, 4, [], 131), (1, 8, [], 133), (1, 8, [], 135), (0, 5, [((2, 67, 0), 141), ((2, 68, 0), 143), ((2, 69, 0), 145), ((2, 70, 0), 147), ((2, 71, 0), 149), ((2, 72, 0), 151), ((0, 0, 0), 0), ((0, 0, 0), 0), ((2, 73, 0), 153), ((0, 0, 0), 0), ((3, 11, 6), 164), ((2, 74, 0), 155), ((2, 75, 0), 157), ((2, 76, 0), 159), ((0, 0, 0), 0), ((2, 77, 0), 161), ((2, 78, 0), 163), ((0, 0, 0), 0)], 139), (1, 7, [], 140), (1, 7, [], 142), (1, 7, [], 144), (1, 7, [], 146), (1, 7, [], 148), (1, 28, [], 150), (1, 4, [], 152), (1, 4, [], 154), (1, 4, [], 156), (1, 4, [], 158), (1, 8, [], 160), (1, 8, [], 162), (0, 5, [((2, 80, 0), 168), ((2, 81, 0), 170), ((2, 82, 0), 172), ((2, 83, 0), 174), ((2, 84, 0), 176), ((2, 85, 0), 178), ((0, 0, 0), 0), ((0, 0, 0), 0), ((2, 86, 0), 180), ((0, 0, 0), 0), ((3, 11, 6), 191), ((2, 87, 0), 182), ((2, 88, 0), 184), ((2, 89, 0), 186), ((0, 0, 0), 0), ((2, 90, 0), 188), ((2, 91, 0), 190), ((0, 0, 0), 0)], 166), (1, 7, [], 167), (1, 7, [], 169), (1, 7, [], 171), (1, 7, [], 173), (1, 7, [], 175), (1, 28, [], 177), (1, 4, [], 179), (1, 4, [], 181), (1, 4, [], 183), (1, 4, [], 185), (1, 8, [], 187), (1, 8, [], 189), (0, 9, [((2, 1, 0), 202), ((2, 93, 0), 195), ((2, 94, 0), 197), ((2, 95, 0), 199), ((2, 96, 0), 201)], 193), (1, 7, [], 194), (1, 7, [], 196), (1, 7, [], 198), (1, 6, [], 200), (0, 0, [((2, 98, 0), 206), ((0, 0, 0), 0), ((0, 0, 0), 0), ((0, 0, 0), 0)], 204), (1, 20, [], 205), (7, 6, [((2, 100, 0), 208), ((2, 101, 0), 208), ((2, 102, 0), 208), ((2, 103, 0), 208), ((2, 104, 0), 208), ((2, 105, 0), 208)], 208), (2, 60, [], 208), (2, 60, [], 208), (2, 60, [], 208), (2, 60, [], 208), (2, 60, [], 208), (2, 60, [], 208), (1, 6, [], 210), (1, 6, [], 212)]
def shA (t : Nat) : List CS := stg SHTA t
def sA0 : SS := ZS
def sA1 : SS := upS sA0 11 10 40
def sA2 : SS := upS sA1 11 11 3
def sA3 : SS := upS sA2 11 12 9
def sA4 : SS := upS sA3 17 10 40
def sA5 : SS := upS sA4 17 11 3
def sA6 : SS := upS sA5 17 12 9
def sA7 : SS := upS sA6 23 10 40
def sA8 : SS := upS sA7 23 11 3
def sA9 : SS := upS sA8 23 12 9
def sA10 : SS := upS sA9 29 10 40
def sA11 : SS := upS sA10 29 11 3
def sA12 : SS := upS sA11 29 12 9
def sA13 : SS := upS sA12 35 10 40
def sA14 : SS := upS sA13 35 11 3
def sA15 : SS := upS sA14 35 12 9
def sA16 : SS := upS sA15 41 10 40
def sA17 : SS := upS sA16 41 11 3
def sA18 : SS := upS sA17 41 12 9
def sA19 : SS := upS sA18 47 10 40
def sA20 : SS := upS sA19 47 11 3
def sA21 : SS := upS sA20 47 12 9
def sA22 : SS := upS sA21 60 0 3
def sA23 : SS := upS sA22 60 1 3
def sA24 : SS := upS sA23 60 2 3
def sA25 : SS := upS sA24 60 3 3
def sA26 : SS := upS sA25 73 0 3
def sA27 : SS := upS sA26 73 1 3
def sA28 : SS := upS sA27 73 2 3
def sA29 : SS := upS sA28 73 3 3
def sA30 : SS := upS sA29 86 0 3
def sA31 : SS := upS sA30 86 1 3
def sA32 : SS := upS sA31 86 2 3
def sA33 : SS := upS sA32 86 3 3
def sA34 : SS := upS sA33 106 0 (-1)
def sA35 : SS := upS sA34 106 1 (-1)
def sA36 : SS := upS sA35 106 2 (-1)
def sA37 : SS := upS sA36 106 3 (-1)
def sA38 : SS := upS sA37 106 4 (-1)
def sA39 : SS := upS sA38 106 5 (-1)
set_option maxRecDepth 20000 in
set_option maxHeartbeats 4000000 in
theorem c_ini_X2 (g : GG) (sh : List CS) (S : SS) (L : LL) (r : Nat) (hk : r < sh.length) : Ct g 1 0 0 mX2_init [.ref r] sh S L (fun o sh' S' L' => o = none ∧ sh' = sh ∧ S' = S ∧ L' = L) := by
  refine ct_of (ls := [some (.ref r)]) 0 (by decide +kernel) rfl rfl ?_
  refine rx_aload_n dX2_init_0 rfl ?_
  refine rx_objI dX2_init_1 w_36 (by decide) rfl ?_
  exact rx_vret dX2_init_4 rfl ⟨Nat.le_of_ble_eq_true rfl, Nat.le_of_ble_eq_true rfl⟩ ⟨rfl, rfl, rfl, rfl⟩
set_option maxRecDepth 20000 in
set_option maxHeartbeats 4000000 in
theorem c_ini_X3 (g : GG) (sh : List CS) (S : SS) (L : LL) (r : Nat) (hk : r < sh.length) : Ct g 2 0 0 mX3_init [.ref r] sh S L (fun o sh' S' L' => o = none ∧ sh' = sh ∧ S' = S ∧ L' = L) := by
  refine ct_of (ls := [some (.ref r)]) 0 (by decide +kernel) rfl rfl ?_
  refine rx_aload_n dX3_init_0 rfl ?_
  refine rx_callI (As := []) (rest := []) (r := r) (d' := 1) (mc' := 0) (ms' := 0) clX3_1 dX3_init_1 rfl rfl rfl (okk hk) (c_ini_X2 g _ _ _ r hk) ?_
  exact rx_vret dX3_init_4 rfl ⟨Nat.le_of_ble_eq_true rfl, Nat.le_of_ble_eq_true rfl⟩ ⟨rfl, rfl, rfl, rfl⟩
set_option maxRecDepth 20000 in
set_option maxHeartbeats 4000000 in
theorem c_ini_X7 (g : GG) (sh : List CS) (S : SS) (L : LL) (r : Nat) (hk : r < sh.length) : Ct g 2 0 0 mX7_init [.ref r] sh S L (fun o sh' S' L' => o = none ∧ sh' = sh ∧ S' = S ∧ L' = L) := by
  refine ct_of (ls := [some (.ref r)]) 0 (by decide +kernel) rfl rfl ?_
  refine rx_aload_n dX7_init_0 rfl ?_
  refine rx_callI (As := []) (rest := []) (r := r) (d' := 1) (mc' := 0) (ms' := 0) clX7_1 dX7_init_1 rfl rfl rfl (okk hk) (c_ini_X2 g _ _ _ r hk) ?_
  exact rx_vret dX7_init_4 rfl ⟨Nat.le_of_ble_eq_true rfl, Nat.le_of_ble_eq_true rfl⟩ ⟨rfl, rfl, rfl, rfl⟩
set_option maxRecDepth 20000 in
set_option maxHeartbeats 4000000 in
theorem c_ini_X6 (g : GG) (sh : List CS) (S : SS) (L : LL) (r : Nat) (hk : r < sh.length) : Ct g 2 0 0 mX6_init [.ref r] sh S L (fun o sh' S' L' => o = none ∧ sh' = sh ∧ S' = S ∧ L' = L) := by
  refine ct_of (ls := [some (.ref r)]) 0 (by decide +kernel) rfl rfl ?_
  refine rx_aload_n dX6_init_0 rfl ?_
  refine rx_callI (As := []) (rest := []) (r := r) (d' := 1) (mc' := 0) (ms' := 0) clX6_1 dX6_init_1 rfl rfl rfl (okk hk) (c_ini_X2 g _ _ _ r hk) ?_
  exact rx_vret dX6_init_4 rfl ⟨Nat.le_of_ble_eq_true rfl, Nat.le_of_ble_eq_true rfl⟩ ⟨rfl, rfl, rfl, rfl⟩
set_option maxRecDepth 20000 in
set_option maxHeartbeats 4000000 in
theorem c_ini_X4 (g : GG) (sh : List CS) (S : SS) (L : LL) (r : Nat) (hk : r < sh.length) : Ct g 3 0 0 mX4_init [.ref r] sh S L (fun o sh' S' L' => o = none ∧ sh' = sh ∧ S' = S ∧ L' = L) := by
  refine ct_of (ls := [some (.ref r)]) 0 (by decide +kernel) rfl rfl ?_
  refine rx_aload_n dX4_init_0 rfl ?_
  refine rx_callI (As := []) (rest := []) (r := r) (d' := 2) (mc' := 0) (ms' := 0) clX4_1 dX4_init_1 rfl rfl rfl (okk hk) (c_ini_X3 g _ _ _ r hk) ?_
  exact rx_vret dX4_init_4 rfl ⟨Nat.le_of_ble_eq_true rfl, Nat.le_of_ble_eq_true rfl⟩ ⟨rfl, rfl, rfl, rfl⟩
set_option maxRecDepth 20000 in
set_option maxHeartbeats 4000000 in
theorem c_ini_X1 (g : GG) (sh : List CS) (S : SS) (L : LL) (r : Nat) (hk : r < sh.length) : Ct g 3 0 0 mX1_init [.ref r] sh S L (fun o sh' S' L' => o = none ∧ sh' = sh ∧ S' = S ∧ L' = L) := by
  refine ct_of (ls := [some (.ref r)]) 0 (by decide +kernel) rfl rfl ?_
  refine rx_aload_n dX1_init_0 rfl ?_
  refine rx_callI (As := []) (rest := []) (r := r) (d' := 2) (mc' := 0) (ms' := 0) clX1_1 dX1_init_1 rfl rfl rfl (okk hk) (c_ini_X7 g _ _ _ r hk) ?_
  exact rx_vret dX1_init_4 rfl ⟨Nat.le_of_ble_eq_true rfl, Nat.le_of_ble_eq_true rfl⟩ ⟨rfl, rfl, rfl, rfl⟩
set_option maxRecDepth 20000 in
set_option maxHeartbeats 4000000 in
theorem c_ini_X8 (g : GG) (sh : List CS) (S : SS) (L : LL) (r : Nat) (hk : r < sh.length) : Ct g 3 0 0 mX8_init [.ref r] sh S L (fun o sh' S' L' => o = none ∧ sh' = sh ∧ S' = S ∧ L' = L) := by
  refine ct_of (ls := [some (.ref r)]) 0 (by decide +kernel) rfl rfl ?_
  refine rx_aload_n dX8_init_0 rfl ?_
  refine rx_callI (As := []) (rest := []) (r := r) (d' := 2) (mc' := 0) (ms' := 0) clX8_1 dX8_init_1 rfl rfl rfl (okk hk) (c_ini_X6 g _ _ _ r hk) ?_
  exact rx_vret dX8_init_4 rfl ⟨Nat.le_of_ble_eq_true rfl, Nat.le_of_ble_eq_true rfl⟩ ⟨rfl, rfl, rfl, rfl⟩
set_option maxRecDepth 20000 in
set_option maxHeartbeats 4000000 in
theorem c_mk_11 (g : GG) : Ct g 1 5 140 mX10_init [.ref 11, .ref 9] (shA 21) sA0 ZL (fun o sh' S' L' => o = none ∧ sh' = (shA 32) ∧ S' = sA3 ∧ L' = ZL) := by
  refine ct_of (ls := [some (.ref 11), some (.ref 9)]) 0 (by decide +kernel) rfl rfl ?_
  refine rx_aload_n dX10_init_0 rfl ?_
  refine rx_objI dX10_init_1 w_86 (by decide) rfl ?_
  refine rx_aload_n dX10_init_4 rfl ?_
  refine rx_bipush (10) dX10_init_5 (by decide) ?_
  refine rx_newaI (N' := 10) 12 (shA 22) (by decide +kernel) (by decide +kernel) dX10_init_7 (by decide) (by decide +kernel) rfl rfl (by decide +kernel) rfl rfl ?_
  refine rx_putRF (2, 12, 0) (shA 23) dX10_init_9 flX10_11 (by decide +kernel : (shA 22)[11]? = some (0, 10, [(1, 0, 0), (0, 0, 0), (0, 0, 0), (1, 0, 0), (1, 0, 0), (1, 0, 0), (1, 0, 0), (0, 0, 0), (1, 0, 0), (0, 0, 0), (0, 0, 0), (0, 0, 0), (0, 0, 0)])) rfl rfl (fun C T N h => by have e : (RX10, TX10, 13) = (C, T, N) := Option.some.inj h; cases e; rfl) (fun _ => rfl) (fun _ => rfl) rfl (by decide +kernel) ?_
  refine rx_aload_n dX10_init_12 rfl ?_
  refine rx_bipush (10) dX10_init_13 (by decide) ?_
  refine rx_newaI (N' := 10) 13 (shA 24) (by decide +kernel) (by decide +kernel) dX10_init_15 (by decide) (by decide +kernel) rfl rfl (by decide +kernel) rfl rfl ?_
  refine rx_putRF (2, 13, 0) (shA 25) dX10_init_17 flX10_15 (by decide +kernel : (shA 24)[11]? = some (0, 10, [(1, 0, 0), (0, 0, 0), (0, 0, 0), (2, 12, 0), (1, 0, 0), (1, 0, 0), (1, 0, 0), (0, 0, 0), (1, 0, 0), (0, 0, 0), (0, 0, 0), (0, 0, 0), (0, 0, 0)])) rfl rfl (fun C T N h => by have e : (RX10, TX10, 13) = (C, T, N) := Option.some.inj h; cases e; rfl) (fun _ => rfl) (fun _ => rfl) rfl (by decide +kernel) ?_
  refine rx_aload_n dX10_init_20 rfl ?_
  refine rx_bipush (10) dX10_init_21 (by decide) ?_
  refine rx_newaI (N' := 10) 14 (shA 26) (by decide +kernel) (by decide +kernel) dX10_init_23 (by decide) (by decide +kernel) rfl rfl (by decide +kernel) rfl rfl ?_
  refine rx_putRF (2, 14, 0) (shA 27) dX10_init_25 flX10_18 (by decide +kernel : (shA 26)[11]? = some (0, 10, [(1, 0, 0), (0, 0, 0), (0, 0, 0), (2, 12, 0), (2, 13, 0), (1, 0, 0), (1, 0, 0), (0, 0, 0), (1, 0, 0), (0, 0, 0), (0, 0, 0), (0, 0, 0), (0, 0, 0)])) rfl rfl (fun C T N h => by have e : (RX10, TX10, 13) = (C, T, N) := Option.some.inj h; cases e; rfl) (fun _ => rfl) (fun _ => rfl) rfl (by decide +kernel) ?_
  refine rx_aload_n dX10_init_28 rfl ?_
  refine rx_bipush (10) dX10_init_29 (by decide) ?_
  refine rx_newaI (N' := 10) 15 (shA 28) (by decide +kernel) (by decide +kernel) dX10_init_31 (by decide) (by decide +kernel) rfl rfl (by decide +kernel) rfl rfl ?_
  refine rx_putRF (2, 15, 0) (shA 29) dX10_init_33 flX10_21 (by decide +kernel : (shA 28)[11]? = some (0, 10, [(1, 0, 0), (0, 0, 0), (0, 0, 0), (2, 12, 0), (2, 13, 0), (2, 14, 0), (1, 0, 0), (0, 0, 0), (1, 0, 0), (0, 0, 0), (0, 0, 0), (0, 0, 0), (0, 0, 0)])) rfl rfl (fun C T N h => by have e : (RX10, TX10, 13) = (C, T, N) := Option.some.inj h; cases e; rfl) (fun _ => rfl) (fun _ => rfl) rfl (by decide +kernel) ?_
  refine rx_aload_n dX10_init_36 rfl ?_
  refine rx_bipush (100) dX10_init_37 (by decide) ?_
  refine rx_newaI (N' := 100) 16 (shA 30) (by decide +kernel) (by decide +kernel) dX10_init_39 (by decide) (by decide +kernel) rfl rfl (by decide +kernel) rfl rfl ?_
  refine rx_putRF (2, 16, 0) (shA 31) dX10_init_41 flX10_24 (by decide +kernel : (shA 30)[11]? = some (0, 10, [(1, 0, 0), (0, 0, 0), (0, 0, 0), (2, 12, 0), (2, 13, 0), (2, 14, 0), (2, 15, 0), (0, 0, 0), (1, 0, 0), (0, 0, 0), (0, 0, 0), (0, 0, 0), (0, 0, 0)])) rfl rfl (fun C T N h => by have e : (RX10, TX10, 13) = (C, T, N) := Option.some.inj h; cases e; rfl) (fun _ => rfl) (fun _ => rfl) rfl (by decide +kernel) ?_
  refine rx_aload_n dX10_init_44 rfl ?_
  refine rx_bipush (40) dX10_init_45 (by decide) ?_
  refine rx_putI dX10_init_47 flX10_27 (by decide +kernel : (shA 31)[11]? = some (0, 10, [(1, 0, 0), (0, 0, 0), (0, 0, 0), (2, 12, 0), (2, 13, 0), (2, 14, 0), (2, 15, 0), (0, 0, 0), (2, 16, 0), (0, 0, 0), (0, 0, 0), (0, 0, 0), (0, 0, 0)])) rfl ?_
  refine rx_st (S' := sA1) rfl ?_
  refine rx_aload_n dX10_init_50 rfl ?_
  refine rx_iconst (3) dX10_init_51 (by decide) ?_
  refine rx_putI dX10_init_52 flX10_31 (by decide +kernel : (shA 31)[11]? = some (0, 10, [(1, 0, 0), (0, 0, 0), (0, 0, 0), (2, 12, 0), (2, 13, 0), (2, 14, 0), (2, 15, 0), (0, 0, 0), (2, 16, 0), (0, 0, 0), (0, 0, 0), (0, 0, 0), (0, 0, 0)])) rfl ?_
  refine rx_st (S' := sA2) rfl ?_
  refine rx_aload_n dX10_init_55 rfl ?_
  refine rx_bipush (9) dX10_init_56 (by decide) ?_
  refine rx_putI dX10_init_58 flX10_34 (by decide +kernel : (shA 31)[11]? = some (0, 10, [(1, 0, 0), (0, 0, 0), (0, 0, 0), (2, 12, 0), (2, 13, 0), (2, 14, 0), (2, 15, 0), (0, 0, 0), (2, 16, 0), (0, 0, 0), (0, 0, 0), (0, 0, 0), (0, 0, 0)])) rfl ?_
  refine rx_st (S' := sA3) rfl ?_
  refine rx_aload_n dX10_init_61 rfl ?_
  refine rx_aload_n dX10_init_62 rfl ?_
  refine rx_putRF (2, 9, 0) (shA 32) dX10_init_63 flX10_37 (by decide +kernel : (shA 31)[11]? = some (0, 10, [(1, 0, 0), (0, 0, 0), (0, 0, 0), (2, 12, 0), (2, 13, 0), (2, 14, 0), (2, 15, 0), (0, 0, 0), (2, 16, 0), (0, 0, 0), (0, 0, 0), (0, 0, 0), (0, 0, 0)])) rfl rfl (fun C T N h => by have e : (RX10, TX10, 13) = (C, T, N) := Option.some.inj h; cases e; rfl) (fun _ => rfl) (fun _ => rfl) rfl (by decide +kernel) ?_
  exact rx_vret dX10_init_66 rfl ⟨Nat.le_of_ble_eq_true rfl, Nat.le_of_ble_eq_true rfl⟩ ⟨rfl, rfl, rfl, rfl⟩
set_option maxRecDepth 20000 in
set_option maxHeartbeats 4000000 in
theorem c_mk_17 (g : GG) : Ct g 1 5 140 mX10_init [.ref 17, .ref 9] (shA 34) sA3 ZL (fun o sh' S' L' => o = none ∧ sh' = (shA 45) ∧ S' = sA6 ∧ L' = ZL) := by
  refine ct_of (ls := [some (.ref 17), some (.ref 9)]) 0 (by decide +kernel) rfl rfl ?_
  refine rx_aload_n dX10_init_0 rfl ?_
  refine rx_objI dX10_init_1 w_86 (by decide) rfl ?_
  refine rx_aload_n dX10_init_4 rfl ?_
  refine rx_bipush (10) dX10_init_5 (by decide) ?_
  refine rx_newaI (N' := 10) 18 (shA 35) (by decide +kernel) (by decide +kernel) dX10_init_7 (by decide) (by decide +kernel) rfl rfl (by decide +kernel) rfl rfl ?_
  refine rx_putRF (2, 18, 0) (shA 36) dX10_init_9 flX10_11 (by decide +kernel : (shA 35)[17]? = some (0, 10, [(1, 0, 0), (0, 0, 0), (0, 0, 0), (1, 0, 0), (1, 0, 0), (1, 0, 0), (1, 0, 0), (0, 0, 0), (1, 0, 0), (0, 0, 0), (0, 0, 0), (0, 0, 0), (0, 0, 0)])) rfl rfl (fun C T N h => by have e : (RX10, TX10, 13) = (C, T, N) := Option.some.inj h; cases e; rfl) (fun _ => rfl) (fun _ => rfl) rfl (by decide +kernel) ?_
  refine rx_aload_n dX10_init_12 rfl ?_
  refine rx_bipush (10) dX10_init_13 (by decide) ?_
  refine rx_newaI (N' := 10) 19 (shA 37) (by decide +kernel) (by decide +kernel) dX10_init_15 (by decide) (by decide +kernel) rfl rfl (by decide +kernel) rfl rfl ?_
  refine rx_putRF (2, 19, 0) (shA 38) dX10_init_17 flX10_15 (by decide +kernel : (shA 37)[17]? = some (0, 10, [(1, 0, 0), (0, 0, 0), (0, 0, 0), (2, 18, 0), (1, 0, 0), (1, 0, 0), (1, 0, 0), (0, 0, 0), (1, 0, 0), (0, 0, 0), (0, 0, 0), (0, 0, 0), (0, 0, 0)])) rfl rfl (fun C T N h => by have e : (RX10, TX10, 13) = (C, T, N) := Option.some.inj h; cases e; rfl) (fun _ => rfl) (fun _ => rfl) rfl (by decide +kernel) ?_
  refine rx_aload_n dX10_init_20 rfl ?_
  refine rx_bipush (10) dX10_init_21 (by decide) ?_
  refine rx_newaI (N' := 10) 20 (shA 39) (by decide +kernel) (by decide +kernel) dX10_init_23 (by decide) (by decide +kernel) rfl rfl (by decide +kernel) rfl rfl ?_
  refine rx_putRF (2, 20, 0) (shA 40) dX10_init_25 flX10_18 (by decide +kernel : (shA 39)[17]? = some (0, 10, [(1, 0, 0), (0, 0, 0), (0, 0, 0), (2, 18, 0), (2, 19, 0), (1, 0, 0), (1, 0, 0), (0, 0, 0), (1, 0, 0), (0, 0, 0), (0, 0, 0), (0, 0, 0), (0, 0, 0)])) rfl rfl (fun C T N h => by have e : (RX10, TX10, 13) = (C, T, N) := Option.some.inj h; cases e; rfl) (fun _ => rfl) (fun _ => rfl) rfl (by decide +kernel) ?_
  refine rx_aload_n dX10_init_28 rfl ?_
  refine rx_bipush (10) dX10_init_29 (by decide) ?_
  refine rx_newaI (N' := 10) 21 (shA 41) (by decide +kernel) (by decide +kernel) dX10_init_31 (by decide) (by decide +kernel) rfl rfl (by decide +kernel) rfl rfl ?_
  refine rx_putRF (2, 21, 0) (shA 42) dX10_init_33 flX10_21 (by decide +kernel : (shA 41)[17]? = some (0, 10, [(1, 0, 0), (0, 0, 0), (0, 0, 0), (2, 18, 0), (2, 19, 0), (2, 20, 0), (1, 0, 0), (0, 0, 0), (1, 0, 0), (0, 0, 0), (0, 0, 0), (0, 0, 0), (0, 0, 0)])) rfl rfl (fun C T N h => by have e : (RX10, TX10, 13) = (C, T, N) := Option.some.inj h; cases e; rfl) (fun _ => rfl) (fun _ => rfl) rfl (by decide +kernel) ?_
  refine rx_aload_n dX10_init_36 rfl ?_
  refine rx_bipush (100) dX10_init_37 (by decide) ?_
  refine rx_newaI (N' := 100) 22 (shA 43) (by decide +kernel) (by decide +kernel) dX10_init_39 (by decide) (by decide +kernel) rfl rfl (by decide +kernel) rfl rfl ?_
  refine rx_putRF (2, 22, 0) (shA 44) dX10_init_41 flX10_24 (by decide +kernel : (shA 43)[17]? = some (0, 10, [(1, 0, 0), (0, 0, 0), (0, 0, 0), (2, 18, 0), (2, 19, 0), (2, 20, 0), (2, 21, 0), (0, 0, 0), (1, 0, 0), (0, 0, 0), (0, 0, 0), (0, 0, 0), (0, 0, 0)])) rfl rfl (fun C T N h => by have e : (RX10, TX10, 13) = (C, T, N) := Option.some.inj h; cases e; rfl) (fun _ => rfl) (fun _ => rfl) rfl (by decide +kernel) ?_
  refine rx_aload_n dX10_init_44 rfl ?_
  refine rx_bipush (40) dX10_init_45 (by decide) ?_
  refine rx_putI dX10_init_47 flX10_27 (by decide +kernel : (shA 44)[17]? = some (0, 10, [(1, 0, 0), (0, 0, 0), (0, 0, 0), (2, 18, 0), (2, 19, 0), (2, 20, 0), (2, 21, 0), (0, 0, 0), (2, 22, 0), (0, 0, 0), (0, 0, 0), (0, 0, 0), (0, 0, 0)])) rfl ?_
  refine rx_st (S' := sA4) rfl ?_
  refine rx_aload_n dX10_init_50 rfl ?_
  refine rx_iconst (3) dX10_init_51 (by decide) ?_
  refine rx_putI dX10_init_52 flX10_31 (by decide +kernel : (shA 44)[17]? = some (0, 10, [(1, 0, 0), (0, 0, 0), (0, 0, 0), (2, 18, 0), (2, 19, 0), (2, 20, 0), (2, 21, 0), (0, 0, 0), (2, 22, 0), (0, 0, 0), (0, 0, 0), (0, 0, 0), (0, 0, 0)])) rfl ?_
  refine rx_st (S' := sA5) rfl ?_
  refine rx_aload_n dX10_init_55 rfl ?_
  refine rx_bipush (9) dX10_init_56 (by decide) ?_
  refine rx_putI dX10_init_58 flX10_34 (by decide +kernel : (shA 44)[17]? = some (0, 10, [(1, 0, 0), (0, 0, 0), (0, 0, 0), (2, 18, 0), (2, 19, 0), (2, 20, 0), (2, 21, 0), (0, 0, 0), (2, 22, 0), (0, 0, 0), (0, 0, 0), (0, 0, 0), (0, 0, 0)])) rfl ?_
  refine rx_st (S' := sA6) rfl ?_
  refine rx_aload_n dX10_init_61 rfl ?_
  refine rx_aload_n dX10_init_62 rfl ?_
  refine rx_putRF (2, 9, 0) (shA 45) dX10_init_63 flX10_37 (by decide +kernel : (shA 44)[17]? = some (0, 10, [(1, 0, 0), (0, 0, 0), (0, 0, 0), (2, 18, 0), (2, 19, 0), (2, 20, 0), (2, 21, 0), (0, 0, 0), (2, 22, 0), (0, 0, 0), (0, 0, 0), (0, 0, 0), (0, 0, 0)])) rfl rfl (fun C T N h => by have e : (RX10, TX10, 13) = (C, T, N) := Option.some.inj h; cases e; rfl) (fun _ => rfl) (fun _ => rfl) rfl (by decide +kernel) ?_
  exact rx_vret dX10_init_66 rfl ⟨Nat.le_of_ble_eq_true rfl, Nat.le_of_ble_eq_true rfl⟩ ⟨rfl, rfl, rfl, rfl⟩
set_option maxRecDepth 20000 in
set_option maxHeartbeats 4000000 in
theorem c_mk_23 (g : GG) : Ct g 1 5 140 mX10_init [.ref 23, .ref 9] (shA 47) sA6 ZL (fun o sh' S' L' => o = none ∧ sh' = (shA 58) ∧ S' = sA9 ∧ L' = ZL) := by
  refine ct_of (ls := [some (.ref 23), some (.ref 9)]) 0 (by decide +kernel) rfl rfl ?_
  refine rx_aload_n dX10_init_0 rfl ?_
  refine rx_objI dX10_init_1 w_86 (by decide) rfl ?_
  refine rx_aload_n dX10_init_4 rfl ?_
  refine rx_bipush (10) dX10_init_5 (by decide) ?_
  refine rx_newaI (N' := 10) 24 (shA 48) (by decide +kernel) (by decide +kernel) dX10_init_7 (by decide) (by decide +kernel) rfl rfl (by decide +kernel) rfl rfl ?_
  refine rx_putRF (2, 24, 0) (shA 49) dX10_init_9 flX10_11 (by decide +kernel : (shA 48)[23]? = some (0, 10, [(1, 0, 0), (0, 0, 0), (0, 0, 0), (1, 0, 0), (1, 0, 0), (1, 0, 0), (1, 0, 0), (0, 0, 0), (1, 0, 0), (0, 0, 0), (0, 0, 0), (0, 0, 0), (0, 0, 0)])) rfl rfl (fun C T N h => by have e : (RX10, TX10, 13) = (C, T, N) := Option.some.inj h; cases e; rfl) (fun _ => rfl) (fun _ => rfl) rfl (by decide +kernel) ?_
  refine rx_aload_n dX10_init_12 rfl ?_
  refine rx_bipush (10) dX10_init_13 (by decide) ?_
  refine rx_newaI (N' := 10) 25 (shA 50) (by decide +kernel) (by decide +kernel) dX10_init_15 (by decide) (by decide +kernel) rfl rfl (by decide +kernel) rfl rfl ?_
  refine rx_putRF (2, 25, 0) (shA 51) dX10_init_17 flX10_15 (by decide +kernel : (shA 50)[23]? = some (0, 10, [(1, 0, 0), (0, 0, 0), (0, 0, 0), (2, 24, 0), (1, 0, 0), (1, 0, 0), (1, 0, 0), (0, 0, 0), (1, 0, 0), (0, 0, 0), (0, 0, 0), (0, 0, 0), (0, 0, 0)])) rfl rfl (fun C T N h => by have e : (RX10, TX10, 13) = (C, T, N) := Option.some.inj h; cases e; rfl) (fun _ => rfl) (fun _ => rfl) rfl (by decide +kernel) ?_
  refine rx_aload_n dX10_init_20 rfl ?_
  refine rx_bipush (10) dX10_init_21 (by decide) ?_
  refine rx_newaI (N' := 10) 26 (shA 52) (by decide +kernel) (by decide +kernel) dX10_init_23 (by decide) (by decide +kernel) rfl rfl (by decide +kernel) rfl rfl ?_
  refine rx_putRF (2, 26, 0) (shA 53) dX10_init_25 flX10_18 (by decide +kernel : (shA 52)[23]? = some (0, 10, [(1, 0, 0), (0, 0, 0), (0, 0, 0), (2, 24, 0), (2, 25, 0), (1, 0, 0), (1, 0, 0), (0, 0, 0), (1, 0, 0), (0, 0, 0), (0, 0, 0), (0, 0, 0), (0, 0, 0)])) rfl rfl (fun C T N h => by have e : (RX10, TX10, 13) = (C, T, N) := Option.some.inj h; cases e; rfl) (fun _ => rfl) (fun _ => rfl) rfl (by decide +kernel) ?_
  refine rx_aload_n dX10_init_28 rfl ?_
  refine rx_bipush (10) dX10_init_29 (by decide) ?_
  refine rx_newaI (N' := 10) 27 (shA 54) (by decide +kernel) (by decide +kernel) dX10_init_31 (by decide) (by decide +kernel) rfl rfl (by decide +kernel) rfl rfl ?_
  refine rx_putRF (2, 27, 0) (shA 55) dX10_init_33 flX10_21 (by decide +kernel : (shA 54)[23]? = some (0, 10, [(1, 0, 0), (0, 0, 0), (0, 0, 0), (2, 24, 0), (2, 25, 0), (2, 26, 0), (1, 0, 0), (0, 0, 0), (1, 0, 0), (0, 0, 0), (0, 0, 0), (0, 0, 0), (0, 0, 0)])) rfl rfl (fun C T N h => by have e : (RX10, TX10, 13) = (C, T, N) := Option.some.inj h; cases e; rfl) (fun _ => rfl) (fun _ => rfl) rfl (by decide +kernel) ?_
  refine rx_aload_n dX10_init_36 rfl ?_
  refine rx_bipush (100) dX10_init_37 (by decide) ?_
  refine rx_newaI (N' := 100) 28 (shA 56) (by decide +kernel) (by decide +kernel) dX10_init_39 (by decide) (by decide +kernel) rfl rfl (by decide +kernel) rfl rfl ?_
  refine rx_putRF (2, 28, 0) (shA 57) dX10_init_41 flX10_24 (by decide +kernel : (shA 56)[23]? = some (0, 10, [(1, 0, 0), (0, 0, 0), (0, 0, 0), (2, 24, 0), (2, 25, 0), (2, 26, 0), (2, 27, 0), (0, 0, 0), (1, 0, 0), (0, 0, 0), (0, 0, 0), (0, 0, 0), (0, 0, 0)])) rfl rfl (fun C T N h => by have e : (RX10, TX10, 13) = (C, T, N) := Option.some.inj h; cases e; rfl) (fun _ => rfl) (fun _ => rfl) rfl (by decide +kernel) ?_
  refine rx_aload_n dX10_init_44 rfl ?_
  refine rx_bipush (40) dX10_init_45 (by decide) ?_
  refine rx_putI dX10_init_47 flX10_27 (by decide +kernel : (shA 57)[23]? = some (0, 10, [(1, 0, 0), (0, 0, 0), (0, 0, 0), (2, 24, 0), (2, 25, 0), (2, 26, 0), (2, 27, 0), (0, 0, 0), (2, 28, 0), (0, 0, 0), (0, 0, 0), (0, 0, 0), (0, 0, 0)])) rfl ?_
  refine rx_st (S' := sA7) rfl ?_
  refine rx_aload_n dX10_init_50 rfl ?_
  refine rx_iconst (3) dX10_init_51 (by decide) ?_
  refine rx_putI dX10_init_52 flX10_31 (by decide +kernel : (shA 57)[23]? = some (0, 10, [(1, 0, 0), (0, 0, 0), (0, 0, 0), (2, 24, 0), (2, 25, 0), (2, 26, 0), (2, 27, 0), (0, 0, 0), (2, 28, 0), (0, 0, 0), (0, 0, 0), (0, 0, 0), (0, 0, 0)])) rfl ?_
  refine rx_st (S' := sA8) rfl ?_
  refine rx_aload_n dX10_init_55 rfl ?_
  refine rx_bipush (9) dX10_init_56 (by decide) ?_
  refine rx_putI dX10_init_58 flX10_34 (by decide +kernel : (shA 57)[23]? = some (0, 10, [(1, 0, 0), (0, 0, 0), (0, 0, 0), (2, 24, 0), (2, 25, 0), (2, 26, 0), (2, 27, 0), (0, 0, 0), (2, 28, 0), (0, 0, 0), (0, 0, 0), (0, 0, 0), (0, 0, 0)])) rfl ?_
  refine rx_st (S' := sA9) rfl ?_
  refine rx_aload_n dX10_init_61 rfl ?_
  refine rx_aload_n dX10_init_62 rfl ?_
  refine rx_putRF (2, 9, 0) (shA 58) dX10_init_63 flX10_37 (by decide +kernel : (shA 57)[23]? = some (0, 10, [(1, 0, 0), (0, 0, 0), (0, 0, 0), (2, 24, 0), (2, 25, 0), (2, 26, 0), (2, 27, 0), (0, 0, 0), (2, 28, 0), (0, 0, 0), (0, 0, 0), (0, 0, 0), (0, 0, 0)])) rfl rfl (fun C T N h => by have e : (RX10, TX10, 13) = (C, T, N) := Option.some.inj h; cases e; rfl) (fun _ => rfl) (fun _ => rfl) rfl (by decide +kernel) ?_
  exact rx_vret dX10_init_66 rfl ⟨Nat.le_of_ble_eq_true rfl, Nat.le_of_ble_eq_true rfl⟩ ⟨rfl, rfl, rfl, rfl⟩
set_option maxRecDepth 20000 in
set_option maxHeartbeats 4000000 in
theorem c_mk_29 (g : GG) : Ct g 1 5 140 mX10_init [.ref 29, .ref 9] (shA 60) sA9 ZL (fun o sh' S' L' => o = none ∧ sh' = (shA 71) ∧ S' = sA12 ∧ L' = ZL) := by
  refine ct_of (ls := [some (.ref 29), some (.ref 9)]) 0 (by decide +kernel) rfl rfl ?_
  refine rx_aload_n dX10_init_0 rfl ?_
  refine rx_objI dX10_init_1 w_86 (by decide) rfl ?_
  refine rx_aload_n dX10_init_4 rfl ?_
  refine rx_bipush (10) dX10_init_5 (by decide) ?_
  refine rx_newaI (N' := 10) 30 (shA 61) (by decide +kernel) (by decide +kernel) dX10_init_7 (by decide) (by decide +kernel) rfl rfl (by decide +kernel) rfl rfl ?_
  refine rx_putRF (2, 30, 0) (shA 62) dX10_init_9 flX10_11 (by decide +kernel : (shA 61)[29]? = some (0, 10, [(1, 0, 0), (0, 0, 0), (0, 0, 0), (1, 0, 0), (1, 0, 0), (1, 0, 0), (1, 0, 0), (0, 0, 0), (1, 0, 0), (0, 0, 0), (0, 0, 0), (0, 0, 0), (0, 0, 0)])) rfl rfl (fun C T N h => by have e : (RX10, TX10, 13) = (C, T, N) := Option.some.inj h; cases e; rfl) (fun _ => rfl) (fun _ => rfl) rfl (by decide +kernel) ?_
  refine rx_aload_n dX10_init_12 rfl ?_
  refine rx_bipush (10) dX10_init_13 (by decide) ?_
  refine rx_newaI (N' := 10) 31 (shA 63) (by decide +kernel) (by decide +kernel) dX10_init_15 (by decide) (by decide +kernel) rfl rfl (by decide +kernel) rfl rfl ?_
  refine rx_putRF (2, 31, 0) (shA 64) dX10_init_17 flX10_15 (by decide +kernel : (shA 63)[29]? = some (0, 10, [(1, 0, 0), (0, 0, 0), (0, 0, 0), (2, 30, 0), (1, 0, 0), (1, 0, 0), (1, 0, 0), (0, 0, 0), (1, 0, 0), (0, 0, 0), (0, 0, 0), (0, 0, 0), (0, 0, 0)])) rfl rfl (fun C T N h => by have e : (RX10, TX10, 13) = (C, T, N) := Option.some.inj h; cases e; rfl) (fun _ => rfl) (fun _ => rfl) rfl (by decide +kernel) ?_
  refine rx_aload_n dX10_init_20 rfl ?_
  refine rx_bipush (10) dX10_init_21 (by decide) ?_
  refine rx_newaI (N' := 10) 32 (shA 65) (by decide +kernel) (by decide +kernel) dX10_init_23 (by decide) (by decide +kernel) rfl rfl (by decide +kernel) rfl rfl ?_
  refine rx_putRF (2, 32, 0) (shA 66) dX10_init_25 flX10_18 (by decide +kernel : (shA 65)[29]? = some (0, 10, [(1, 0, 0), (0, 0, 0), (0, 0, 0), (2, 30, 0), (2, 31, 0), (1, 0, 0), (1, 0, 0), (0, 0, 0), (1, 0, 0), (0, 0, 0), (0, 0, 0), (0, 0, 0), (0, 0, 0)])) rfl rfl (fun C T N h => by have e : (RX10, TX10, 13) = (C, T, N) := Option.some.inj h; cases e; rfl) (fun _ => rfl) (fun _ => rfl) rfl (by decide +kernel) ?_
  refine rx_aload_n dX10_init_28 rfl ?_
  refine rx_bipush (10) dX10_init_29 (by decide) ?_
  refine rx_newaI (N' := 10) 33 (shA 67) (by decide +kernel) (by decide +kernel) dX10_init_31 (by decide) (by decide +kernel) rfl rfl (by decide +kernel) rfl rfl ?_
  refine rx_putRF (2, 33, 0) (shA 68) dX10_init_33 flX10_21 (by decide +kernel : (shA 67)[29]? = some (0, 10, [(1, 0, 0), (0, 0, 0), (0, 0, 0), (2, 30, 0), (2, 31, 0), (2, 32, 0), (1, 0, 0), (0, 0, 0), (1, 0, 0), (0, 0, 0), (0, 0, 0), (0, 0, 0), (0, 0, 0)])) rfl rfl (fun C T N h => by have e : (RX10, TX10, 13) = (C, T, N) := Option.some.inj h; cases e; rfl) (fun _ => rfl) (fun _ => rfl) rfl (by decide +kernel) ?_
  refine rx_aload_n dX10_init_36 rfl ?_
  refine rx_bipush (100) dX10_init_37 (by decide) ?_
  refine rx_newaI (N' := 100) 34 (shA 69) (by decide +kernel) (by decide +kernel) dX10_init_39 (by decide) (by decide +kernel) rfl rfl (by decide +kernel) rfl rfl ?_
  refine rx_putRF (2, 34, 0) (shA 70) dX10_init_41 flX10_24 (by decide +kernel : (shA 69)[29]? = some (0, 10, [(1, 0, 0), (0, 0, 0), (0, 0, 0), (2, 30, 0), (2, 31, 0), (2, 32, 0), (2, 33, 0), (0, 0, 0), (1, 0, 0), (0, 0, 0), (0, 0, 0), (0, 0, 0), (0, 0, 0)])) rfl rfl (fun C T N h => by have e : (RX10, TX10, 13) = (C, T, N) := Option.some.inj h; cases e; rfl) (fun _ => rfl) (fun _ => rfl) rfl (by decide +kernel) ?_
  refine rx_aload_n dX10_init_44 rfl ?_
  refine rx_bipush (40) dX10_init_45 (by decide) ?_
  refine rx_putI dX10_init_47 flX10_27 (by decide +kernel : (shA 70)[29]? = some (0, 10, [(1, 0, 0), (0, 0, 0), (0, 0, 0), (2, 30, 0), (2, 31, 0), (2, 32, 0), (2, 33, 0), (0, 0, 0), (2, 34, 0), (0, 0, 0), (0, 0, 0), (0, 0, 0), (0, 0, 0)])) rfl ?_
  refine rx_st (S' := sA10) rfl ?_
  refine rx_aload_n dX10_init_50 rfl ?_
  refine rx_iconst (3) dX10_init_51 (by decide) ?_
  refine rx_putI dX10_init_52 flX10_31 (by decide +kernel : (shA 70)[29]? = some (0, 10, [(1, 0, 0), (0, 0, 0), (0, 0, 0), (2, 30, 0), (2, 31, 0), (2, 32, 0), (2, 33, 0), (0, 0, 0), (2, 34, 0), (0, 0, 0), (0, 0, 0), (0, 0, 0), (0, 0, 0)])) rfl ?_
  refine rx_st (S' := sA11) rfl ?_
  refine rx_aload_n dX10_init_55 rfl ?_
  refine rx_bipush (9) dX10_init_56 (by decide) ?_
  refine rx_putI dX10_init_58 flX10_34 (by decide +kernel : (shA 70)[29]? = some (0, 10, [(1, 0, 0), (0, 0, 0), (0, 0, 0), (2, 30, 0), (2, 31, 0), (2, 32, 0), (2, 33, 0), (0, 0, 0), (2, 34, 0), (0, 0, 0), (0, 0, 0), (0, 0, 0), (0, 0, 0)])) rfl ?_
  refine rx_st (S' := sA12) rfl ?_
  refine rx_aload_n dX10_init_61 rfl ?_
  refine rx_aload_n dX10_init_62 rfl ?_
  refine rx_putRF (2, 9, 0) (shA 71) dX10_init_63 flX10_37 (by decide +kernel : (shA 70)[29]? = some (0, 10, [(1, 0, 0), (0, 0, 0), (0, 0, 0), (2, 30, 0), (2, 31, 0), (2, 32, 0), (2, 33, 0), (0, 0, 0), (2, 34, 0), (0, 0, 0), (0, 0, 0), (0, 0, 0), (0, 0, 0)])) rfl rfl (fun C T N h => by have e : (RX10, TX10, 13) = (C, T, N) := Option.some.inj h; cases e; rfl) (fun _ => rfl) (fun _ => rfl) rfl (by decide +kernel) ?_
  exact rx_vret dX10_init_66 rfl ⟨Nat.le_of_ble_eq_true rfl, Nat.le_of_ble_eq_true rfl⟩ ⟨rfl, rfl, rfl, rfl⟩
set_option maxRecDepth 20000 in
set_option maxHeartbeats 4000000 in
theorem c_mk_35 (g : GG) : Ct g 1 5 140 mX10_init [.ref 35, .ref 9] (shA 73) sA12 ZL (fun o sh' S' L' => o = none ∧ sh' = (shA 84) ∧ S' = sA15 ∧ L' = ZL) := by
  refine ct_of (ls := [some (.ref 35), some (.ref 9)]) 0 (by decide +kernel) rfl rfl ?_
  refine rx_aload_n dX10_init_0 rfl ?_
  refine rx_objI dX10_init_1 w_86 (by decide) rfl ?_
  refine rx_aload_n dX10_init_4 rfl ?_
  refine rx_bipush (10) dX10_init_5 (by decide) ?_
  refine rx_newaI (N' := 10) 36 (shA 74) (by decide +kernel) (by decide +kernel) dX10_init_7 (by decide) (by decide +kernel) rfl rfl (by decide +kernel) rfl rfl ?_
  refine rx_putRF (2, 36, 0) (shA 75) dX10_init_9 flX10_11 (by decide +kernel : (shA 74)[35]? = some (0, 10, [(1, 0, 0), (0, 0, 0), (0, 0, 0), (1, 0, 0), (1, 0, 0), (1, 0, 0), (1, 0, 0), (0, 0, 0), (1, 0, 0), (0, 0, 0), (0, 0, 0), (0, 0, 0), (0, 0, 0)])) rfl rfl (fun C T N h => by have e : (RX10, TX10, 13) = (C, T, N) := Option.some.inj h; cases e; rfl) (fun _ => rfl) (fun _ => rfl) rfl (by decide +kernel) ?_
  refine rx_aload_n dX10_init_12 rfl ?_
  refine rx_bipush (10) dX10_init_13 (by decide) ?_
  refine rx_newaI (N' := 10) 37 (shA 76) (by decide +kernel) (by decide +kernel) dX10_init_15 (by decide) (by decide +kernel) rfl rfl (by decide +kernel) rfl rfl ?_
  refine rx_putRF (2, 37, 0) (shA 77) dX10_init_17 flX10_15 (by decide +kernel : (shA 76)[35]? = some (0, 10, [(1, 0, 0), (0, 0, 0), (0, 0, 0), (2, 36, 0), (1, 0, 0), (1, 0, 0), (1, 0, 0), (0, 0, 0), (1, 0, 0), (0, 0, 0), (0, 0, 0), (0, 0, 0), (0, 0, 0)])) rfl rfl (fun C T N h => by have e : (RX10, TX10, 13) = (C, T, N) := Option.some.inj h; cases e; rfl) (fun _ => rfl) (fun _ => rfl) rfl (by decide +kernel) ?_
  refine rx_aload_n dX10_init_20 rfl ?_
  refine rx_bipush (10) dX10_init_21 (by decide) ?_
  refine rx_newaI (N' := 10) 38 (shA 78) (by decide +kernel) (by decide +kernel) dX10_init_23 (by decide) (by decide +kernel) rfl rfl (by decide +kernel) rfl rfl ?_
  refine rx_putRF (2, 38, 0) (shA 79) dX10_init_25 flX10_18 (by decide +kernel : (shA 78)[35]? = some (0, 10, [(1, 0, 0), (0, 0, 0), (0, 0, 0), (2, 36, 0), (2, 37, 0), (1, 0, 0), (1, 0, 0), (0, 0, 0), (1, 0, 0), (0, 0, 0), (0, 0, 0), (0, 0, 0), (0, 0, 0)])) rfl rfl (fun C T N h => by have e : (RX10, TX10, 13) = (C, T, N) := Option.some.inj h; cases e; rfl) (fun _ => rfl) (fun _ => rfl) rfl (by decide +kernel) ?_
  refine rx_aload_n dX10_init_28 rfl ?_
  refine rx_bipush (10) dX10_init_29 (by decide) ?_
  refine rx_newaI (N' := 10) 39 (shA 80) (by decide +kernel) (by decide +kernel) dX10_init_31 (by decide) (by decide +kernel) rfl rfl (by decide +kernel) rfl rfl ?_
  refine rx_putRF (2, 39, 0) (shA 81) dX10_init_33 flX10_21 (by decide +kernel : (shA 80)[35]? = some (0, 10, [(1, 0, 0), (0, 0, 0), (0, 0, 0), (2, 36, 0), (2, 37, 0), (2, 38, 0), (1, 0, 0), (0, 0, 0), (1, 0, 0), (0, 0, 0), (0, 0, 0), (0, 0, 0), (0, 0, 0)])) rfl rfl (fun C T N h => by have e : (RX10, TX10, 13) = (C, T, N) := Option.some.inj h; cases e; rfl) (fun _ => rfl) (fun _ => rfl) rfl (by decide +kernel) ?_
  refine rx_aload_n dX10_init_36 rfl ?_
  refine rx_bipush (100) dX10_init_37 (by decide) ?_
  refine rx_newaI (N' := 100) 40 (shA 82) (by decide +kernel) (by decide +kernel) dX10_init_39 (by decide) (by decide +kernel) rfl rfl (by decide +kernel) rfl rfl ?_
  refine rx_putRF (2, 40, 0) (shA 83) dX10_init_41 flX10_24 (by decide +kernel : (shA 82)[35]? = some (0, 10, [(1, 0, 0), (0, 0, 0), (0, 0, 0), (2, 36, 0), (2, 37, 0), (2, 38, 0), (2, 39, 0), (0, 0, 0), (1, 0, 0), (0, 0, 0), (0, 0, 0), (0, 0, 0), (0, 0, 0)])) rfl rfl (fun C T N h => by have e : (RX10, TX10, 13) = (C, T, N) := Option.some.inj h; cases e; rfl) (fun _ => rfl) (fun _ => rfl) rfl (by decide +kernel) ?_
  refine rx_aload_n dX10_init_44 rfl ?_
  refine rx_bipush (40) dX10_init_45 (by decide) ?_
  refine rx_putI dX10_init_47 flX10_27 (by decide +kernel : (shA 83)[35]? = some (0, 10, [(1, 0, 0), (0, 0, 0), (0, 0, 0), (2, 36, 0), (2, 37, 0), (2, 38, 0), (2, 39, 0), (0, 0, 0), (2, 40, 0), (0, 0, 0), (0, 0, 0), (0, 0, 0), (0, 0, 0)])) rfl ?_
  refine rx_st (S' := sA13) rfl ?_
  refine rx_aload_n dX10_init_50 rfl ?_
  refine rx_iconst (3) dX10_init_51 (by decide) ?_
  refine rx_putI dX10_init_52 flX10_31 (by decide +kernel : (shA 83)[35]? = some (0, 10, [(1, 0, 0), (0, 0, 0), (0, 0, 0), (2, 36, 0), (2, 37, 0), (2, 38, 0), (2, 39, 0), (0, 0, 0), (2, 40, 0), (0, 0, 0), (0, 0, 0), (0, 0, 0), (0, 0, 0)])) rfl ?_
  refine rx_st (S' := sA14) rfl ?_
  refine rx_aload_n dX10_init_55 rfl ?_
  refine rx_bipush (9) dX10_init_56 (by decide) ?_
  refine rx_putI dX10_init_58 flX10_34 (by decide +kernel : (shA 83)[35]? = some (0, 10, [(1, 0, 0), (0, 0, 0), (0, 0, 0), (2, 36, 0), (2, 37, 0), (2, 38, 0), (2, 39, 0), (0, 0, 0), (2, 40, 0), (0, 0, 0), (0, 0, 0), (0, 0, 0), (0, 0, 0)])) rfl ?_
  refine rx_st (S' := sA15) rfl ?_
  refine rx_aload_n dX10_init_61 rfl ?_
  refine rx_aload_n dX10_init_62 rfl ?_
  refine rx_putRF (2, 9, 0) (shA 84) dX10_init_63 flX10_37 (by decide +kernel : (shA 83)[35]? = some (0, 10, [(1, 0, 0), (0, 0, 0), (0, 0, 0), (2, 36, 0), (2, 37, 0), (2, 38, 0), (2, 39, 0), (0, 0, 0), (2, 40, 0), (0, 0, 0), (0, 0, 0), (0, 0, 0), (0, 0, 0)])) rfl rfl (fun C T N h => by have e : (RX10, TX10, 13) = (C, T, N) := Option.some.inj h; cases e; rfl) (fun _ => rfl) (fun _ => rfl) rfl (by decide +kernel) ?_
  exact rx_vret dX10_init_66 rfl ⟨Nat.le_of_ble_eq_true rfl, Nat.le_of_ble_eq_true rfl⟩ ⟨rfl, rfl, rfl, rfl⟩
set_option maxRecDepth 20000 in
set_option maxHeartbeats 4000000 in
theorem c_mk_41 (g : GG) : Ct g 1 5 140 mX10_init [.ref 41, .ref 9] (shA 86) sA15 ZL (fun o sh' S' L' => o = none ∧ sh' = (shA 97) ∧ S' = sA18 ∧ L' = ZL) := by
  refine ct_of (ls := [some (.ref 41), some (.ref 9)]) 0 (by decide +kernel) rfl rfl ?_
  refine rx_aload_n dX10_init_0 rfl ?_
  refine rx_objI dX10_init_1 w_86 (by decide) rfl ?_
  refine rx_aload_n dX10_init_4 rfl ?_
  refine rx_bipush (10) dX10_init_5 (by decide) ?_
  refine rx_newaI (N' := 10) 42 (shA 87) (by decide +kernel) (by decide +kernel) dX10_init_7 (by decide) (by decide +kernel) rfl rfl (by decide +kernel) rfl rfl ?_
  refine rx_putRF (2, 42, 0) (shA 88) dX10_init_9 flX10_11 (by decide +kernel : (shA 87)[41]? = some (0, 10, [(1, 0, 0), (0, 0, 0), (0, 0, 0), (1, 0, 0), (1, 0, 0), (1, 0, 0), (1, 0, 0), (0, 0, 0), (1, 0, 0), (0, 0, 0), (0, 0, 0), (0, 0, 0), (0, 0, 0)])) rfl rfl (fun C T N h => by have e : (RX10, TX10, 13) = (C, T, N) := Option.some.inj h; cases e; rfl) (fun _ => rfl) (fun _ => rfl) rfl (by decide +kernel) ?_
  refine rx_aload_n dX10_init_12 rfl ?_
  refine rx_bipush (10) dX10_init_13 (by decide) ?_
  refine rx_newaI (N' := 10) 43 (shA 89) (by decide +kernel) (by decide +kernel) dX10_init_15 (by decide) (by decide +kernel) rfl rfl (by decide +kernel) rfl rfl ?_
  refine rx_putRF (2, 43, 0) (shA 90) dX10_init_17 flX10_15 (by decide +kernel : (shA 89)[41]? = some (0, 10, [(1, 0, 0), (0, 0, 0), (0, 0, 0), (2, 42, 0), (1, 0, 0), (1, 0, 0), (1, 0, 0), (0, 0, 0), (1, 0, 0), (0, 0, 0), (0, 0, 0), (0, 0, 0), (0, 0, 0)])) rfl rfl (fun C T N h => by have e : (RX10, TX10, 13) = (C, T, N) := Option.some.inj h; cases e; rfl) (fun _ => rfl) (fun _ => rfl) rfl (by decide +kernel) ?_
  refine rx_aload_n dX10_init_20 rfl ?_
  refine rx_bipush (10) dX10_init_21 (by decide) ?_
  refine rx_newaI (N' := 10) 44 (shA 91) (by decide +kernel) (by decide +kernel) dX10_init_23 (by decide) (by decide +kernel) rfl rfl (by decide +kernel) rfl rfl ?_
  refine rx_putRF (2, 44, 0) (shA 92) dX10_init_25 flX10_18 (by decide +kernel : (shA 91)[41]? = some (0, 10, [(1, 0, 0), (0, 0, 0), (0, 0, 0), (2, 42, 0), (2, 43, 0), (1, 0, 0), (1, 0, 0), (0, 0, 0), (1, 0, 0), (0, 0, 0), (0, 0, 0), (0, 0, 0), (0, 0, 0)])) rfl rfl (fun C T N h => by have e : (RX10, TX10, 13) = (C, T, N) := Option.some.inj h; cases e; rfl) (fun _ => rfl) (fun _ => rfl) rfl (by decide +kernel) ?_
  refine rx_aload_n dX10_init_28 rfl ?_
  refine rx_bipush (10) dX10_init_29 (by decide) ?_
  refine rx_newaI (N' := 10) 45 (shA 93) (by decide +kernel) (by decide +kernel) dX10_init_31 (by decide) (by decide +kernel) rfl rfl (by decide +kernel) rfl rfl ?_
  refine rx_putRF (2, 45, 0) (shA 94) dX10_init_33 flX10_21 (by decide +kernel : (shA 93)[41]? = some (0, 10, [(1, 0, 0), (0, 0, 0), (0, 0, 0), (2, 42, 0), (2, 43, 0), (2, 44, 0), (1, 0, 0), (0, 0, 0), (1, 0, 0), (0, 0, 0), (0, 0, 0), (0, 0, 0), (0, 0, 0)])) rfl rfl (fun C T N h => by have e : (RX10, TX10, 13) = (C, T, N) := Option.some.inj h; cases e; rfl) (fun _ => rfl) (fun _ => rfl) rfl (by decide +kernel) ?_
  refine rx_aload_n dX10_init_36 rfl ?_
  refine rx_bipush (100) dX10_init_37 (by decide) ?_
  refine rx_newaI (N' := 100) 46 (shA 95) (by decide +kernel) (by decide +kernel) dX10_init_39 (by decide) (by decide +kernel) rfl rfl (by decide +kernel) rfl rfl ?_
  refine rx_putRF (2, 46, 0) (shA 96) dX10_init_41 flX10_24 (by decide +kernel : (shA 95)[41]? = some (0, 10, [(1, 0, 0), (0, 0, 0), (0, 0, 0), (2, 42, 0), (2, 43, 0), (2, 44, 0), (2, 45, 0), (0, 0, 0), (1, 0, 0), (0, 0, 0), (0, 0, 0), (0, 0, 0), (0, 0, 0)])) rfl rfl (fun C T N h => by have e : (RX10, TX10, 13) = (C, T, N) := Option.some.inj h; cases e; rfl) (fun _ => rfl) (fun _ => rfl) rfl (by decide +kernel) ?_
  refine rx_aload_n dX10_init_44 rfl ?_
  refine rx_bipush (40) dX10_init_45 (by decide) ?_
  refine rx_putI dX10_init_47 flX10_27 (by decide +kernel : (shA 96)[41]? = some (0, 10, [(1, 0, 0), (0, 0, 0), (0, 0, 0), (2, 42, 0), (2, 43, 0), (2, 44, 0), (2, 45, 0), (0, 0, 0), (2, 46, 0), (0, 0, 0), (0, 0, 0), (0, 0, 0), (0, 0, 0)])) rfl ?_
  refine rx_st (S' := sA16) rfl ?_
  refine rx_aload_n dX10_init_50 rfl ?_
  refine rx_iconst (3) dX10_init_51 (by decide) ?_
  refine rx_putI dX10_init_52 flX10_31 (by decide +kernel : (shA 96)[41]? = some (0, 10, [(1, 0, 0), (0, 0, 0), (0, 0, 0), (2, 42, 0), (2, 43, 0), (2, 44, 0), (2, 45, 0), (0, 0, 0), (2, 46, 0), (0, 0, 0), (0, 0, 0), (0, 0, 0), (0, 0, 0)])) rfl ?_
  refine rx_st (S' := sA17) rfl ?_
  refine rx_aload_n dX10_init_55 rfl ?_
  refine rx_bipush (9) dX10_init_56 (by decide) ?_
  refine rx_putI dX10_init_58 flX10_34 (by decide +kernel : (shA 96)[41]? = some (0, 10, [(1, 0, 0), (0, 0, 0), (0, 0, 0), (2, 42, 0), (2, 43, 0), (2, 44, 0), (2, 45, 0), (0, 0, 0), (2, 46, 0), (0, 0, 0), (0, 0, 0), (0, 0, 0), (0, 0, 0)])) rfl ?_
  refine rx_st (S' := sA18) rfl ?_
  refine rx_aload_n dX10_init_61 rfl ?_
  refine rx_aload_n dX10_init_62 rfl ?_
  refine rx_putRF (2, 9, 0) (shA 97) dX10_init_63 flX10_37 (by decide +kernel : (shA 96)[41]? = some (0, 10, [(1, 0, 0), (0, 0, 0), (0, 0, 0), (2, 42, 0), (2, 43, 0), (2, 44, 0), (2, 45, 0), (0, 0, 0), (2, 46, 0), (0, 0, 0), (0, 0, 0), (0, 0, 0), (0, 0, 0)])) rfl rfl (fun C T N h => by have e : (RX10, TX10, 13) = (C, T, N) := Option.some.inj h; cases e; rfl) (fun _ => rfl) (fun _ => rfl) rfl (by decide +kernel) ?_
  exact rx_vret dX10_init_66 rfl ⟨Nat.le_of_ble_eq_true rfl, Nat.le_of_ble_eq_true rfl⟩ ⟨rfl, rfl, rfl, rfl⟩
set_option maxRecDepth 20000 in
set_option maxHeartbeats 4000000 in
theorem c_mk_47 (g : GG) : Ct g 1 5 140 mX10_init [.ref 47, .ref 9] (shA 99) sA18 ZL (fun o sh' S' L' => o = none ∧ sh' = (shA 110) ∧ S' = sA21 ∧ L' = ZL) := by
  refine ct_of (ls := [some (.ref 47), some (.ref 9)]) 0 (by decide +kernel) rfl rfl ?_
  refine rx_aload_n dX10_init_0 rfl ?_
  refine rx_objI dX10_init_1 w_86 (by decide) rfl ?_
  refine rx_aload_n dX10_init_4 rfl ?_
  refine rx_bipush (10) dX10_init_5 (by decide) ?_
  refine rx_newaI (N' := 10) 48 (shA 100) (by decide +kernel) (by decide +kernel) dX10_init_7 (by decide) (by decide +kernel) rfl rfl (by decide +kernel) rfl rfl ?_
  refine rx_putRF (2, 48, 0) (shA 101) dX10_init_9 flX10_11 (by decide +kernel : (shA 100)[47]? = some (0, 10, [(1, 0, 0), (0, 0, 0), (0, 0, 0), (1, 0, 0), (1, 0, 0), (1, 0, 0), (1, 0, 0), (0, 0, 0), (1, 0, 0), (0, 0, 0), (0, 0, 0), (0, 0, 0), (0, 0, 0)])) rfl rfl (fun C T N h => by have e : (RX10, TX10, 13) = (C, T, N) := Option.some.inj h; cases e; rfl) (fun _ => rfl) (fun _ => rfl) rfl (by decide +kernel) ?_
  refine rx_aload_n dX10_init_12 rfl ?_
  refine rx_bipush (10) dX10_init_13 (by decide) ?_
  refine rx_newaI (N' := 10) 49 (shA 102) (by decide +kernel) (by decide +kernel) dX10_init_15 (by decide) (by decide +kernel) rfl rfl (by decide +kernel) rfl rfl ?_
  refine rx_putRF (2, 49, 0) (shA 103) dX10_init_17 flX10_15 (by decide +kernel : (shA 102)[47]? = some (0, 10, [(1, 0, 0), (0, 0, 0), (0, 0, 0), (2, 48, 0), (1, 0, 0), (1, 0, 0), (1, 0, 0), (0, 0, 0), (1, 0, 0), (0, 0, 0), (0, 0, 0), (0, 0, 0), (0, 0, 0)])) rfl rfl (fun C T N h => by have e : (RX10, TX10, 13) = (C, T, N) := Option.some.inj h; cases e; rfl) (fun _ => rfl) (fun _ => rfl) rfl (by decide +kernel) ?_
  refine rx_aload_n dX10_init_20 rfl ?_
  refine rx_bipush (10) dX10_init_21 (by decide) ?_
  refine rx_newaI (N' := 10) 50 (shA 104) (by decide +kernel) (by decide +kernel) dX10_init_23 (by decide) (by decide +kernel) rfl rfl (by decide +kernel) rfl rfl ?_
  refine rx_putRF (2, 50, 0) (shA 105) dX10_init_25 flX10_18 (by decide +kernel : (shA 104)[47]? = some (0, 10, [(1, 0, 0), (0, 0, 0), (0, 0, 0), (2, 48, 0), (2, 49, 0), (1, 0, 0), (1, 0, 0), (0, 0, 0), (1, 0, 0), (0, 0, 0), (0, 0, 0), (0, 0, 0), (0, 0, 0)])) rfl rfl (fun C T N h => by have e : (RX10, TX10, 13) = (C, T, N) := Option.some.inj h; cases e; rfl) (fun _ => rfl) (fun _ => rfl) rfl (by decide +kernel) ?_
  refine rx_aload_n dX10_init_28 rfl ?_
  refine rx_bipush (10) dX10_init_29 (by decide) ?_
  refine rx_newaI (N' := 10) 51 (shA 106) (by decide +kernel) (by decide +kernel) dX10_init_31 (by decide) (by decide +kernel) rfl rfl (by decide +kernel) rfl rfl ?_
  refine rx_putRF (2, 51, 0) (shA 107) dX10_init_33 flX10_21 (by decide +kernel : (shA 106)[47]? = some (0, 10, [(1, 0, 0), (0, 0, 0), (0, 0, 0), (2, 48, 0), (2, 49, 0), (2, 50, 0), (1, 0, 0), (0, 0, 0), (1, 0, 0), (0, 0, 0), (0, 0, 0), (0, 0, 0), (0, 0, 0)])) rfl rfl (fun C T N h => by have e : (RX10, TX10, 13) = (C, T, N) := Option.some.inj h; cases e; rfl) (fun _ => rfl) (fun _ => rfl) rfl (by decide +kernel) ?_
  refine rx_aload_n dX10_init_36 rfl ?_
  refine rx_bipush (100) dX10_init_37 (by decide) ?_
  refine rx_newaI (N' := 100) 52 (shA 108) (by decide +kernel) (by decide +kernel) dX10_init_39 (by decide) (by decide +kernel) rfl rfl (by decide +kernel) rfl rfl ?_
  refine rx_putRF (2, 52, 0) (shA 109) dX10_init_41 flX10_24 (by decide +kernel : (shA 108)[47]? = some (0, 10, [(1, 0, 0), (0, 0, 0), (0, 0, 0), (2, 48, 0), (2, 49, 0), (2, 50, 0), (2, 51, 0), (0, 0, 0), (1, 0, 0), (0, 0, 0), (0, 0, 0), (0, 0, 0), (0, 0, 0)])) rfl rfl (fun C T N h => by have e : (RX10, TX10, 13) = (C, T, N) := Option.some.inj h; cases e; rfl) (fun _ => rfl) (fun _ => rfl) rfl (by decide +kernel) ?_
  refine rx_aload_n dX10_init_44 rfl ?_
  refine rx_bipush (40) dX10_init_45 (by decide) ?_
  refine rx_putI dX10_init_47 flX10_27 (by decide +kernel : (shA 109)[47]? = some (0, 10, [(1, 0, 0), (0, 0, 0), (0, 0, 0), (2, 48, 0), (2, 49, 0), (2, 50, 0), (2, 51, 0), (0, 0, 0), (2, 52, 0), (0, 0, 0), (0, 0, 0), (0, 0, 0), (0, 0, 0)])) rfl ?_
  refine rx_st (S' := sA19) rfl ?_
  refine rx_aload_n dX10_init_50 rfl ?_
  refine rx_iconst (3) dX10_init_51 (by decide) ?_
  refine rx_putI dX10_init_52 flX10_31 (by decide +kernel : (shA 109)[47]? = some (0, 10, [(1, 0, 0), (0, 0, 0), (0, 0, 0), (2, 48, 0), (2, 49, 0), (2, 50, 0), (2, 51, 0), (0, 0, 0), (2, 52, 0), (0, 0, 0), (0, 0, 0), (0, 0, 0), (0, 0, 0)])) rfl ?_
  refine rx_st (S' := sA20) rfl ?_
  refine rx_aload_n dX10_init_55 rfl ?_
  refine rx_bipush (9) dX10_init_56 (by decide) ?_
  refine rx_putI dX10_init_58 flX10_34 (by decide +kernel : (shA 109)[47]? = some (0, 10, [(1, 0, 0), (0, 0, 0), (0, 0, 0), (2, 48, 0), (2, 49, 0), (2, 50, 0), (2, 51, 0), (0, 0, 0), (2, 52, 0), (0, 0, 0), (0, 0, 0), (0, 0, 0), (0, 0, 0)])) rfl ?_
  refine rx_st (S' := sA21) rfl ?_
  refine rx_aload_n dX10_init_61 rfl ?_
  refine rx_aload_n dX10_init_62 rfl ?_
  refine rx_putRF (2, 9, 0) (shA 110) dX10_init_63 flX10_37 (by decide +kernel : (shA 109)[47]? = some (0, 10, [(1, 0, 0), (0, 0, 0), (0, 0, 0), (2, 48, 0), (2, 49, 0), (2, 50, 0), (2, 51, 0), (0, 0, 0), (2, 52, 0), (0, 0, 0), (0, 0, 0), (0, 0, 0), (0, 0, 0)])) rfl rfl (fun C T N h => by have e : (RX10, TX10, 13) = (C, T, N) := Option.some.inj h; cases e; rfl) (fun _ => rfl) (fun _ => rfl) rfl (by decide +kernel) ?_
  exact rx_vret dX10_init_66 rfl ⟨Nat.le_of_ble_eq_true rfl, Nat.le_of_ble_eq_true rfl⟩ ⟨rfl, rfl, rfl, rfl⟩
set_option maxRecDepth 20000 in
set_option maxHeartbeats 4000000 in
theorem c_mk_53 (g : GG) : Ct g 1 12 95 mX5_init [.ref 53, .ref 11] (shA 112) sA21 ZL (fun o sh' S' L' => o = none ∧ sh' = (shA 137) ∧ S' = sA25 ∧ L' = ZL) := by
  refine ct_of (ls := [some (.ref 53), some (.ref 11), none]) 1 (by decide +kernel) rfl rfl ?_
  refine rx_aload_n dX5_init_0 rfl ?_
  refine rx_objI dX5_init_1 w_140 (by decide) rfl ?_
  refine rx_aload_n dX5_init_4 rfl ?_
  refine rx_bipush (7) dX5_init_5 (by decide) ?_
  refine rx_newaI (N' := 7) 54 (shA 113) (by decide +kernel) (by decide +kernel) dX5_init_7 (by decide) (by decide +kernel) rfl rfl (by decide +kernel) rfl rfl ?_
  refine rx_putRF (2, 54, 0) (shA 114) dX5_init_9 flX5_9 (by decide +kernel : (shA 113)[53]? = some (0, 5, [(1, 0, 0), (1, 0, 0), (1, 0, 0), (1, 0, 0), (1, 0, 0), (1, 0, 0), (0, 0, 0), (0, 0, 0), (1, 0, 0), (0, 0, 0), (1, 0, 0), (1, 0, 0), (1, 0, 0), (1, 0, 0), (0, 0, 0), (1, 0, 0), (1, 0, 0), (0, 0, 0)])) rfl rfl (fun C T N h => by have e : (RX5, TX5, 18) = (C, T, N) := Option.some.inj h; cases e; rfl) (fun _ => rfl) (fun _ => rfl) rfl (by decide +kernel) ?_
  refine rx_aload_n dX5_init_12 rfl ?_
  refine rx_bipush (7) dX5_init_13 (by decide) ?_
  refine rx_newaI (N' := 7) 55 (shA 115) (by decide +kernel) (by decide +kernel) dX5_init_15 (by decide) (by decide +kernel) rfl rfl (by decide +kernel) rfl rfl ?_
  refine rx_putRF (2, 55, 0) (shA 116) dX5_init_17 flX5_15 (by decide +kernel : (shA 115)[53]? = some (0, 5, [(2, 54, 0), (1, 0, 0), (1, 0, 0), (1, 0, 0), (1, 0, 0), (1, 0, 0), (0, 0, 0), (0, 0, 0), (1, 0, 0), (0, 0, 0), (1, 0, 0), (1, 0, 0), (1, 0, 0), (1, 0, 0), (0, 0, 0), (1, 0, 0), (1, 0, 0), (0, 0, 0)])) rfl rfl (fun C T N h => by have e : (RX5, TX5, 18) = (C, T, N) := Option.some.inj h; cases e; rfl) (fun _ => rfl) (fun _ => rfl) rfl (by decide +kernel) ?_
  refine rx_aload_n dX5_init_20 rfl ?_
  refine rx_bipush (7) dX5_init_21 (by decide) ?_
  refine rx_newaI (N' := 7) 56 (shA 117) (by decide +kernel) (by decide +kernel) dX5_init_23 (by decide) (by decide +kernel) rfl rfl (by decide +kernel) rfl rfl ?_
  refine rx_putRF (2, 56, 0) (shA 118) dX5_init_25 flX5_18 (by decide +kernel : (shA 117)[53]? = some (0, 5, [(2, 54, 0), (2, 55, 0), (1, 0, 0), (1, 0, 0), (1, 0, 0), (1, 0, 0), (0, 0, 0), (0, 0, 0), (1, 0, 0), (0, 0, 0), (1, 0, 0), (1, 0, 0), (1, 0, 0), (1, 0, 0), (0, 0, 0), (1, 0, 0), (1, 0, 0), (0, 0, 0)])) rfl rfl (fun C T N h => by have e : (RX5, TX5, 18) = (C, T, N) := Option.some.inj h; cases e; rfl) (fun _ => rfl) (fun _ => rfl) rfl (by decide +kernel) ?_
  refine rx_aload_n dX5_init_28 rfl ?_
  refine rx_bipush (7) dX5_init_29 (by decide) ?_
  refine rx_newaI (N' := 7) 57 (shA 119) (by decide +kernel) (by decide +kernel) dX5_init_31 (by decide) (by decide +kernel) rfl rfl (by decide +kernel) rfl rfl ?_
  refine rx_putRF (2, 57, 0) (shA 120) dX5_init_33 flX5_21 (by decide +kernel : (shA 119)[53]? = some (0, 5, [(2, 54, 0), (2, 55, 0), (2, 56, 0), (1, 0, 0), (1, 0, 0), (1, 0, 0), (0, 0, 0), (0, 0, 0), (1, 0, 0), (0, 0, 0), (1, 0, 0), (1, 0, 0), (1, 0, 0), (1, 0, 0), (0, 0, 0), (1, 0, 0), (1, 0, 0), (0, 0, 0)])) rfl rfl (fun C T N h => by have e : (RX5, TX5, 18) = (C, T, N) := Option.some.inj h; cases e; rfl) (fun _ => rfl) (fun _ => rfl) rfl (by decide +kernel) ?_
  refine rx_aload_n dX5_init_36 rfl ?_
  refine rx_bipush (7) dX5_init_37 (by decide) ?_
  refine rx_newaI (N' := 7) 58 (shA 121) (by decide +kernel) (by decide +kernel) dX5_init_39 (by decide) (by decide +kernel) rfl rfl (by decide +kernel) rfl rfl ?_
  refine rx_putRF (2, 58, 0) (shA 122) dX5_init_41 flX5_24 (by decide +kernel : (shA 121)[53]? = some (0, 5, [(2, 54, 0), (2, 55, 0), (2, 56, 0), (2, 57, 0), (1, 0, 0), (1, 0, 0), (0, 0, 0), (0, 0, 0), (1, 0, 0), (0, 0, 0), (1, 0, 0), (1, 0, 0), (1, 0, 0), (1, 0, 0), (0, 0, 0), (1, 0, 0), (1, 0, 0), (0, 0, 0)])) rfl rfl (fun C T N h => by have e : (RX5, TX5, 18) = (C, T, N) := Option.some.inj h; cases e; rfl) (fun _ => rfl) (fun _ => rfl) rfl (by decide +kernel) ?_
  refine rx_aload_n dX5_init_44 rfl ?_
  refine rx_bipush (28) dX5_init_45 (by decide) ?_
  refine rx_newaI (N' := 28) 59 (shA 123) (by decide +kernel) (by decide +kernel) dX5_init_47 (by decide) (by decide +kernel) rfl rfl (by decide +kernel) rfl rfl ?_
  refine rx_putRF (2, 59, 0) (shA 124) dX5_init_49 flX5_27 (by decide +kernel : (shA 123)[53]? = some (0, 5, [(2, 54, 0), (2, 55, 0), (2, 56, 0), (2, 57, 0), (2, 58, 0), (1, 0, 0), (0, 0, 0), (0, 0, 0), (1, 0, 0), (0, 0, 0), (1, 0, 0), (1, 0, 0), (1, 0, 0), (1, 0, 0), (0, 0, 0), (1, 0, 0), (1, 0, 0), (0, 0, 0)])) rfl rfl (fun C T N h => by have e : (RX5, TX5, 18) = (C, T, N) := Option.some.inj h; cases e; rfl) (fun _ => rfl) (fun _ => rfl) rfl (by decide +kernel) ?_
  refine rx_aload_n dX5_init_52 rfl ?_
  refine rx_iconst (4) dX5_init_53 (by decide) ?_
  refine rx_newaI (N' := 4) 60 (shA 125) (by decide +kernel) (by decide +kernel) dX5_init_54 (by decide) (by decide +kernel) rfl rfl (by decide +kernel) rfl rfl ?_
  refine rx_putRF (2, 60, 0) (shA 126) dX5_init_56 flX5_30 (by decide +kernel : (shA 125)[53]? = some (0, 5, [(2, 54, 0), (2, 55, 0), (2, 56, 0), (2, 57, 0), (2, 58, 0), (2, 59, 0), (0, 0, 0), (0, 0, 0), (1, 0, 0), (0, 0, 0), (1, 0, 0), (1, 0, 0), (1, 0, 0), (1, 0, 0), (0, 0, 0), (1, 0, 0), (1, 0, 0), (0, 0, 0)])) rfl rfl (fun C T N h => by have e : (RX5, TX5, 18) = (C, T, N) := Option.some.inj h; cases e; rfl) (fun _ => rfl) (fun _ => rfl) rfl (by decide +kernel) ?_
  refine rx_aload_n dX5_init_59 rfl ?_
  refine rx_iconst (4) dX5_init_60 (by decide) ?_
  refine rx_newaI (N' := 4) 61 (shA 127) (by decide +kernel) (by decide +kernel) dX5_init_61 (by decide) (by decide +kernel) rfl rfl (by decide +kernel) rfl rfl ?_
  refine rx_putRF (2, 61, 0) (shA 128) dX5_init_63 flX5_33 (by decide +kernel : (shA 127)[53]? = some (0, 5, [(2, 54, 0), (2, 55, 0), (2, 56, 0), (2, 57, 0), (2, 58, 0), (2, 59, 0), (0, 0, 0), (0, 0, 0), (2, 60, 0), (0, 0, 0), (1, 0, 0), (1, 0, 0), (1, 0, 0), (1, 0, 0), (0, 0, 0), (1, 0, 0), (1, 0, 0), (0, 0, 0)])) rfl rfl (fun C T N h => by have e : (RX5, TX5, 18) = (C, T, N) := Option.some.inj h; cases e; rfl) (fun _ => rfl) (fun _ => rfl) rfl (by decide +kernel) ?_
  refine rx_aload_n dX5_init_66 rfl ?_
  refine rx_iconst (4) dX5_init_67 (by decide) ?_
  refine rx_newaI (N' := 4) 62 (shA 129) (by decide +kernel) (by decide +kernel) dX5_init_68 (by decide) (by decide +kernel) rfl rfl (by decide +kernel) rfl rfl ?_
  refine rx_putRF (2, 62, 0) (shA 130) dX5_init_70 flX5_36 (by decide +kernel : (shA 129)[53]? = some (0, 5, [(2, 54, 0), (2, 55, 0), (2, 56, 0), (2, 57, 0), (2, 58, 0), (2, 59, 0), (0, 0, 0), (0, 0, 0), (2, 60, 0), (0, 0, 0), (1, 0, 0), (2, 61, 0), (1, 0, 0), (1, 0, 0), (0, 0, 0), (1, 0, 0), (1, 0, 0), (0, 0, 0)])) rfl rfl (fun C T N h => by have e : (RX5, TX5, 18) = (C, T, N) := Option.some.inj h; cases e; rfl) (fun _ => rfl) (fun _ => rfl) rfl (by decide +kernel) ?_
  refine rx_aload_n dX5_init_73 rfl ?_
  refine rx_iconst (4) dX5_init_74 (by decide) ?_
  refine rx_newaI (N' := 4) 63 (shA 131) (by decide +kernel) (by decide +kernel) dX5_init_75 (by decide) (by decide +kernel) rfl rfl (by decide +kernel) rfl rfl ?_
  refine rx_putRF (2, 63, 0) (shA 132) dX5_init_77 flX5_39 (by decide +kernel : (shA 131)[53]? = some (0, 5, [(2, 54, 0), (2, 55, 0), (2, 56, 0), (2, 57, 0), (2, 58, 0), (2, 59, 0), (0, 0, 0), (0, 0, 0), (2, 60, 0), (0, 0, 0), (1, 0, 0), (2, 61, 0), (2, 62, 0), (1, 0, 0), (0, 0, 0), (1, 0, 0), (1, 0, 0), (0, 0, 0)])) rfl rfl (fun C T N h => by have e : (RX5, TX5, 18) = (C, T, N) := Option.some.inj h; cases e; rfl) (fun _ => rfl) (fun _ => rfl) rfl (by decide +kernel) ?_
  refine rx_aload_n dX5_init_80 rfl ?_
  refine rx_bipush (8) dX5_init_81 (by decide) ?_
  refine rx_newaI (N' := 8) 64 (shA 133) (by decide +kernel) (by decide +kernel) dX5_init_83 (by decide) (by decide +kernel) rfl rfl (by decide +kernel) rfl rfl ?_
  refine rx_putRF (2, 64, 0) (shA 134) dX5_init_85 flX5_42 (by decide +kernel : (shA 133)[53]? = some (0, 5, [(2, 54, 0), (2, 55, 0), (2, 56, 0), (2, 57, 0), (2, 58, 0), (2, 59, 0), (0, 0, 0), (0, 0, 0), (2, 60, 0), (0, 0, 0), (1, 0, 0), (2, 61, 0), (2, 62, 0), (2, 63, 0), (0, 0, 0), (1, 0, 0), (1, 0, 0), (0, 0, 0)])) rfl rfl (fun C T N h => by have e : (RX5, TX5, 18) = (C, T, N) := Option.some.inj h; cases e; rfl) (fun _ => rfl) (fun _ => rfl) rfl (by decide +kernel) ?_
  refine rx_aload_n dX5_init_88 rfl ?_
  refine rx_bipush (8) dX5_init_89 (by decide) ?_
  refine rx_newaI (N' := 8) 65 (shA 135) (by decide +kernel) (by decide +kernel) dX5_init_91 (by decide) (by decide +kernel) rfl rfl (by decide +kernel) rfl rfl ?_
  refine rx_putRF (2, 65, 0) (shA 136) dX5_init_93 flX5_45 (by decide +kernel : (shA 135)[53]? = some (0, 5, [(2, 54, 0), (2, 55, 0), (2, 56, 0), (2, 57, 0), (2, 58, 0), (2, 59, 0), (0, 0, 0), (0, 0, 0), (2, 60, 0), (0, 0, 0), (1, 0, 0), (2, 61, 0), (2, 62, 0), (2, 63, 0), (0, 0, 0), (2, 64, 0), (1, 0, 0), (0, 0, 0)])) rfl rfl (fun C T N h => by have e : (RX5, TX5, 18) = (C, T, N) := Option.some.inj h; cases e; rfl) (fun _ => rfl) (fun _ => rfl) rfl (by decide +kernel) ?_
  refine rx_aload_n dX5_init_96 rfl ?_
  refine rx_aload_n dX5_init_97 rfl ?_
  refine rx_putR (3, 11, 6) (shA 137) dX5_init_98 flX5_48 (by decide +kernel : (shA 136)[53]? = some (0, 5, [(2, 54, 0), (2, 55, 0), (2, 56, 0), (2, 57, 0), (2, 58, 0), (2, 59, 0), (0, 0, 0), (0, 0, 0), (2, 60, 0), (0, 0, 0), (1, 0, 0), (2, 61, 0), (2, 62, 0), (2, 63, 0), (0, 0, 0), (2, 64, 0), (2, 65, 0), (0, 0, 0)])) rfl (fun _ => rfl) (fun _ => rfl) (by show Value.ref (11 + 6 * (sA21 53 10).toNatClampNeg) = .ref 11; rw [show sA21 53 10 = 0 from by decide +kernel]; rfl) (by decide +kernel) ?_
  refine rx_iconst (0) dX5_init_101 (by decide) ?_
  refine rx_istore_2 rfl dX5_init_102 ?_
  refine rx_iload_n dX5_init_103 rfl ?_
  refine rx_iconst (4) dX5_init_104 (by decide) ?_
  refine rx_icmp_ge 121 dX5_init_105 (by decide) (fun h => absurd h (by decide)) (fun _ => ?_)
  refine rx_aload_n dX5_init_108 rfl ?_
  refine rx_getR dX5_init_109 flX5_30 (by decide +kernel : (shA 137)[53]? = some (0, 5, [(2, 54, 0), (2, 55, 0), (2, 56, 0), (2, 57, 0), (2, 58, 0), (2, 59, 0), (0, 0, 0), (0, 0, 0), (2, 60, 0), (0, 0, 0), (3, 11, 6), (2, 61, 0), (2, 62, 0), (2, 63, 0), (0, 0, 0), (2, 64, 0), (2, 65, 0), (0, 0, 0)])) rfl ?_
  refine rx_iload_n dX5_init_112 rfl ?_
  refine rx_iconst (3) dX5_init_113 (by decide) ?_
  refine rx_iastore dX5_init_114 (by decide +kernel : (shA 137)[60]? = some (1, 4, [])) (vp_in_nI (n := 0) (by decide) (by decide)) ?_
  refine rx_st (S' := sA22) (by rw [show (0 : Int32).toNatClampNeg = 0 from by decide +kernel]; rfl) ?_
  refine rx_iinc_2 (1) rfl dX5_init_115 (by decide) ?_
  rw [show ((0 : Int32) + 1) = 1 from by decide]
  refine rx_goto 103 dX5_init_118 (by decide) ?_
  refine rx_iload_n dX5_init_103 rfl ?_
  refine rx_iconst (4) dX5_init_104 (by decide) ?_
  refine rx_icmp_ge 121 dX5_init_105 (by decide) (fun h => absurd h (by decide)) (fun _ => ?_)
  refine rx_aload_n dX5_init_108 rfl ?_
  refine rx_getR dX5_init_109 flX5_30 (by decide +kernel : (shA 137)[53]? = some (0, 5, [(2, 54, 0), (2, 55, 0), (2, 56, 0), (2, 57, 0), (2, 58, 0), (2, 59, 0), (0, 0, 0), (0, 0, 0), (2, 60, 0), (0, 0, 0), (3, 11, 6), (2, 61, 0), (2, 62, 0), (2, 63, 0), (0, 0, 0), (2, 64, 0), (2, 65, 0), (0, 0, 0)])) rfl ?_
  refine rx_iload_n dX5_init_112 rfl ?_
  refine rx_iconst (3) dX5_init_113 (by decide) ?_
  refine rx_iastore dX5_init_114 (by decide +kernel : (shA 137)[60]? = some (1, 4, [])) (vp_in_nI (n := 1) (by decide) (by decide)) ?_
  refine rx_st (S' := sA23) (by rw [show (1 : Int32).toNatClampNeg = 1 from by decide +kernel]; rfl) ?_
  refine rx_iinc_2 (1) rfl dX5_init_115 (by decide) ?_
  rw [show ((1 : Int32) + 1) = 2 from by decide]
  refine rx_goto 103 dX5_init_118 (by decide) ?_
  refine rx_iload_n dX5_init_103 rfl ?_
  refine rx_iconst (4) dX5_init_104 (by decide) ?_
  refine rx_icmp_ge 121 dX5_init_105 (by decide) (fun h => absurd h (by decide)) (fun _ => ?_)
  refine rx_aload_n dX5_init_108 rfl ?_
  refine rx_getR dX5_init_109 flX5_30 (by decide +kernel : (shA 137)[53]? = some (0, 5, [(2, 54, 0), (2, 55, 0), (2, 56, 0), (2, 57, 0), (2, 58, 0), (2, 59, 0), (0, 0, 0), (0, 0, 0), (2, 60, 0), (0, 0, 0), (3, 11, 6), (2, 61, 0), (2, 62, 0), (2, 63, 0), (0, 0, 0), (2, 64, 0), (2, 65, 0), (0, 0, 0)])) rfl ?_
  refine rx_iload_n dX5_init_112 rfl ?_
  refine rx_iconst (3) dX5_init_113 (by decide) ?_
  refine rx_iastore dX5_init_114 (by decide +kernel : (shA 137)[60]? = some (1, 4, [])) (vp_in_nI (n := 2) (by decide) (by decide)) ?_
  refine rx_st (S' := sA24) (by rw [show (2 : Int32).toNatClampNeg = 2 from by decide +kernel]; rfl) ?_
  refine rx_iinc_2 (1) rfl dX5_init_115 (by decide) ?_
  rw [show ((2 : Int32) + 1) = 3 from by decide]
  refine rx_goto 103 dX5_init_118 (by decide) ?_
  refine rx_iload_n dX5_init_103 rfl ?_
  refine rx_iconst (4) dX5_init_104 (by decide) ?_
  refine rx_icmp_ge 121 dX5_init_105 (by decide) (fun h => absurd h (by decide)) (fun _ => ?_)
  refine rx_aload_n dX5_init_108 rfl ?_
  refine rx_getR dX5_init_109 flX5_30 (by decide +kernel : (shA 137)[53]? = some (0, 5, [(2, 54, 0), (2, 55, 0), (2, 56, 0), (2, 57, 0), (2, 58, 0), (2, 59, 0), (0, 0, 0), (0, 0, 0), (2, 60, 0), (0, 0, 0), (3, 11, 6), (2, 61, 0), (2, 62, 0), (2, 63, 0), (0, 0, 0), (2, 64, 0), (2, 65, 0), (0, 0, 0)])) rfl ?_
  refine rx_iload_n dX5_init_112 rfl ?_
  refine rx_iconst (3) dX5_init_113 (by decide) ?_
  refine rx_iastore dX5_init_114 (by decide +kernel : (shA 137)[60]? = some (1, 4, [])) (vp_in_nI (n := 3) (by decide) (by decide)) ?_
  refine rx_st (S' := sA25) (by rw [show (3 : Int32).toNatClampNeg = 3 from by decide +kernel]; rfl) ?_
  refine rx_iinc_2 (1) rfl dX5_init_115 (by decide) ?_
  rw [show ((3 : Int32) + 1) = 4 from by decide]
  refine rx_goto 103 dX5_init_118 (by decide) ?_
  refine rx_iload_n dX5_init_103 rfl ?_
  refine rx_iconst (4) dX5_init_104 (by decide) ?_
  refine rx_icmp_ge 121 dX5_init_105 (by decide) (fun _ => ?_) (fun h => absurd (by decide) h)
  exact rx_vret dX5_init_121 rfl ⟨Nat.le_of_ble_eq_true rfl, Nat.le_of_ble_eq_true rfl⟩ ⟨rfl, rfl, rfl, rfl⟩
set_option maxRecDepth 20000 in
set_option maxHeartbeats 4000000 in
theorem c_mk_66 (g : GG) : Ct g 1 12 95 mX5_init [.ref 66, .ref 11] (shA 139) sA25 ZL (fun o sh' S' L' => o = none ∧ sh' = (shA 164) ∧ S' = sA29 ∧ L' = ZL) := by
  refine ct_of (ls := [some (.ref 66), some (.ref 11), none]) 1 (by decide +kernel) rfl rfl ?_
  refine rx_aload_n dX5_init_0 rfl ?_
  refine rx_objI dX5_init_1 w_140 (by decide) rfl ?_
  refine rx_aload_n dX5_init_4 rfl ?_
  refine rx_bipush (7) dX5_init_5 (by decide) ?_
  refine rx_newaI (N' := 7) 67 (shA 140) (by decide +kernel) (by decide +kernel) dX5_init_7 (by decide) (by decide +kernel) rfl rfl (by decide +kernel) rfl rfl ?_
  refine rx_putRF (2, 67, 0) (shA 141) dX5_init_9 flX5_9 (by decide +kernel : (shA 140)[66]? = some (0, 5, [(1, 0, 0), (1, 0, 0), (1, 0, 0), (1, 0, 0), (1, 0, 0), (1, 0, 0), (0, 0, 0), (0, 0, 0), (1, 0, 0), (0, 0, 0), (1, 0, 0), (1, 0, 0), (1, 0, 0), (1, 0, 0), (0, 0, 0), (1, 0, 0), (1, 0, 0), (0, 0, 0)])) rfl rfl (fun C T N h => by have e : (RX5, TX5, 18) = (C, T, N) := Option.some.inj h; cases e; rfl) (fun _ => rfl) (fun _ => rfl) rfl (by decide +kernel) ?_
  refine rx_aload_n dX5_init_12 rfl ?_
  refine rx_bipush (7) dX5_init_13 (by decide) ?_
  refine rx_newaI (N' := 7) 68 (shA 142) (by decide +kernel) (by decide +kernel) dX5_init_15 (by decide) (by decide +kernel) rfl rfl (by decide +kernel) rfl rfl ?_
  refine rx_putRF (2, 68, 0) (shA 143) dX5_init_17 flX5_15 (by decide +kernel : (shA 142)[66]? = some (0, 5, [(2, 67, 0), (1, 0, 0), (1, 0, 0), (1, 0, 0), (1, 0, 0), (1, 0, 0), (0, 0, 0), (0, 0, 0), (1, 0, 0), (0, 0, 0), (1, 0, 0), (1, 0, 0), (1, 0, 0), (1, 0, 0), (0, 0, 0), (1, 0, 0), (1, 0, 0), (0, 0, 0)])) rfl rfl (fun C T N h => by have e : (RX5, TX5, 18) = (C, T, N) := Option.some.inj h; cases e; rfl) (fun _ => rfl) (fun _ => rfl) rfl (by decide +kernel) ?_
  refine rx_aload_n dX5_init_20 rfl ?_
  refine rx_bipush (7) dX5_init_21 (by decide) ?_
  refine rx_newaI (N' := 7) 69 (shA 144) (by decide +kernel) (by decide +kernel) dX5_init_23 (by decide) (by decide +kernel) rfl rfl (by decide +kernel) rfl rfl ?_
  refine rx_putRF (2, 69, 0) (shA 145) dX5_init_25 flX5_18 (by decide +kernel : (shA 144)[66]? = some (0, 5, [(2, 67, 0), (2, 68, 0), (1, 0, 0), (1, 0, 0), (1, 0, 0), (1, 0, 0), (0, 0, 0), (0, 0, 0), (1, 0, 0), (0, 0, 0), (1, 0, 0), (1, 0, 0), (1, 0, 0), (1, 0, 0), (0, 0, 0), (1, 0, 0), (1, 0, 0), (0, 0, 0)])) rfl rfl (fun C T N h => by have e : (RX5, TX5, 18) = (C, T, N) := Option.some.inj h; cases e; rfl) (fun _ => rfl) (fun _ => rfl) rfl (by decide +kernel) ?_
  refine rx_aload_n dX5_init_28 rfl ?_
  refine rx_bipush (7) dX5_init_29 (by decide) ?_
  refine rx_newaI (N' := 7) 70 (shA 146) (by decide +kernel) (by decide +kernel) dX5_init_31 (by decide) (by decide +kernel) rfl rfl (by decide +kernel) rfl rfl ?_
  refine rx_putRF (2, 70, 0) (shA 147) dX5_init_33 flX5_21 (by decide +kernel : (shA 146)[66]? = some (0, 5, [(2, 67, 0), (2, 68, 0), (2, 69, 0), (1, 0, 0), (1, 0, 0), (1, 0, 0), (0, 0, 0), (0, 0, 0), (1, 0, 0), (0, 0, 0), (1, 0, 0), (1, 0, 0), (1, 0, 0), (1, 0, 0), (0, 0, 0), (1, 0, 0), (1, 0, 0), (0, 0, 0)])) rfl rfl (fun C T N h => by have e : (RX5, TX5, 18) = (C, T, N) := Option.some.inj h; cases e; rfl) (fun _ => rfl) (fun _ => rfl) rfl (by decide +kernel) ?_
  refine rx_aload_n dX5_init_36 rfl ?_
  refine rx_bipush (7) dX5_init_37 (by decide) ?_
  refine rx_newaI (N' := 7) 71 (shA 148) (by decide +kernel) (by decide +kernel) dX5_init_39 (by decide) (by decide +kernel) rfl rfl (by decide +kernel) rfl rfl ?_
  refine rx_putRF (2, 71, 0) (shA 149) dX5_init_41 flX5_24 (by decide +kernel : (shA 148)[66]? = some (0, 5, [(2, 67, 0), (2, 68, 0), (2, 69, 0), (2, 70, 0), (1, 0, 0), (1, 0, 0), (0, 0, 0), (0, 0, 0), (1, 0, 0), (0, 0, 0), (1, 0, 0), (1, 0, 0), (1, 0, 0), (1, 0, 0), (0, 0, 0), (1, 0, 0), (1, 0, 0), (0, 0, 0)])) rfl rfl (fun C T N h => by have e : (RX5, TX5, 18) = (C, T, N) := Option.some.inj h; cases e; rfl) (fun _ => rfl) (fun _ => rfl) rfl (by decide +kernel) ?_
  refine rx_aload_n dX5_init_44 rfl ?_
  refine rx_bipush (28) dX5_init_45 (by decide) ?_
  refine rx_newaI (N' := 28) 72 (shA 150) (by decide +kernel) (by decide +kernel) dX5_init_47 (by decide) (by decide +kernel) rfl rfl (by decide +kernel) rfl rfl ?_
  refine rx_putRF (2, 72, 0) (shA 151) dX5_init_49 flX5_27 (by decide +kernel : (shA 150)[66]? = some (0, 5, [(2, 67, 0), (2, 68, 0), (2, 69, 0), (2, 70, 0), (2, 71, 0), (1, 0, 0), (0, 0, 0), (0, 0, 0), (1, 0, 0), (0, 0, 0), (1, 0, 0), (1, 0, 0), (1, 0, 0), (1, 0, 0), (0, 0, 0), (1, 0, 0), (1, 0, 0), (0, 0, 0)])) rfl rfl (fun C T N h => by have e : (RX5, TX5, 18) = (C, T, N) := Option.some.inj h; cases e; rfl) (fun _ => rfl) (fun _ => rfl) rfl (by decide +kernel) ?_
  refine rx_aload_n dX5_init_52 rfl ?_
  refine rx_iconst (4) dX5_init_53 (by decide) ?_
  refine rx_newaI (N' := 4) 73 (shA 152) (by decide +kernel) (by decide +kernel) dX5_init_54 (by decide) (by decide +kernel) rfl rfl (by decide +kernel) rfl rfl ?_
  refine rx_putRF (2, 73, 0) (shA 153) dX5_init_56 flX5_30 (by decide +kernel : (shA 152)[66]? = some (0, 5, [(2, 67, 0), (2, 68, 0), (2, 69, 0), (2, 70, 0), (2, 71, 0), (2, 72, 0), (0, 0, 0), (0, 0, 0), (1, 0, 0), (0, 0, 0), (1, 0, 0), (1, 0, 0), (1, 0, 0), (1, 0, 0), (0, 0, 0), (1, 0, 0), (1, 0, 0), (0, 0, 0)])) rfl rfl (fun C T N h => by have e : (RX5, TX5, 18) = (C, T, N) := Option.some.inj h; cases e; rfl) (fun _ => rfl) (fun _ => rfl) rfl (by decide +kernel) ?_
  refine rx_aload_n dX5_init_59 rfl ?_
  refine rx_iconst (4) dX5_init_60 (by decide) ?_
  refine rx_newaI (N' := 4) 74 (shA 154) (by decide +kernel) (by decide +kernel) dX5_init_61 (by decide) (by decide +kernel) rfl rfl (by decide +kernel) rfl rfl ?_
  refine rx_putRF (2, 74, 0) (shA 155) dX5_init_63 flX5_33 (by decide +kernel : (shA 154)[66]? = some (0, 5, [(2, 67, 0), (2, 68, 0), (2, 69, 0), (2, 70, 0), (2, 71, 0), (2, 72, 0), (0, 0, 0), (0, 0, 0), (2, 73, 0), (0, 0, 0), (1, 0, 0), (1, 0, 0), (1, 0, 0), (1, 0, 0), (0, 0, 0), (1, 0, 0), (1, 0, 0), (0, 0, 0)])) rfl rfl (fun C T N h => by have e : (RX5, TX5, 18) = (C, T, N) := Option.some.inj h; cases e; rfl) (fun _ => rfl) (fun _ => rfl) rfl (by decide +kernel) ?_
  refine rx_aload_n dX5_init_66 rfl ?_
  refine rx_iconst (4) dX5_init_67 (by decide) ?_
  refine rx_newaI (N' := 4) 75 (shA 156) (by decide +kernel) (by decide +kernel) dX5_init_68 (by decide) (by decide +kernel) rfl rfl (by decide +kernel) rfl rfl ?_
  refine rx_putRF (2, 75, 0) (shA 157) dX5_init_70 flX5_36 (by decide +kernel : (shA 156)[66]? = some (0, 5, [(2, 67, 0), (2, 68, 0), (2, 69, 0), (2, 70, 0), (2, 71, 0), (2, 72, 0), (0, 0, 0), (0, 0, 0), (2, 73, 0), (0, 0, 0), (1, 0, 0), (2, 74, 0), (1, 0, 0), (1, 0, 0), (0, 0, 0), (1, 0, 0), (1, 0, 0), (0, 0, 0)])) rfl rfl (fun C T N h => by have e : (RX5, TX5, 18) = (C, T, N) := Option.some.inj h; cases e; rfl) (fun _ => rfl) (fun _ => rfl) rfl (by decide +kernel) ?_
  refine rx_aload_n dX5_init_73 rfl ?_
  refine rx_iconst (4) dX5_init_74 (by decide) ?_
  refine rx_newaI (N' := 4) 76 (shA 158) (by decide +kernel) (by decide +kernel) dX5_init_75 (by decide) (by decide +kernel) rfl rfl (by decide +kernel) rfl rfl ?_
  refine rx_putRF (2, 76, 0) (shA 159) dX5_init_77 flX5_39 (by decide +kernel : (shA 158)[66]? = some (0, 5, [(2, 67, 0), (2, 68, 0), (2, 69, 0), (2, 70, 0), (2, 71, 0), (2, 72, 0), (0, 0, 0), (0, 0, 0), (2, 73, 0), (0, 0, 0), (1, 0, 0), (2, 74, 0), (2, 75, 0), (1, 0, 0), (0, 0, 0), (1, 0, 0), (1, 0, 0), (0, 0, 0)])) rfl rfl (fun C T N h => by have e : (RX5, TX5, 18) = (C, T, N) := Option.some.inj h; cases e; rfl) (fun _ => rfl) (fun _ => rfl) rfl (by decide +kernel) ?_
  refine rx_aload_n dX5_init_80 rfl ?_
  refine rx_bipush (8) dX5_init_81 (by decide) ?_
  refine rx_newaI (N' := 8) 77 (shA 160) (by decide +kernel) (by decide +kernel) dX5_init_83 (by decide) (by decide +kernel) rfl rfl (by decide +kernel) rfl rfl ?_
  refine rx_putRF (2, 77, 0) (shA 161) dX5_init_85 flX5_42 (by decide +kernel : (shA 160)[66]? = some (0, 5, [(2, 67, 0), (2, 68, 0), (2, 69, 0), (2, 70, 0), (2, 71, 0), (2, 72, 0), (0, 0, 0), (0, 0, 0), (2, 73, 0), (0, 0, 0), (1, 0, 0), (2, 74, 0), (2, 75, 0), (2, 76, 0), (0, 0, 0), (1, 0, 0), (1, 0, 0), (0, 0, 0)])) rfl rfl (fun C T N h => by have e : (RX5, TX5, 18) = (C, T, N) := Option.some.inj h; cases e; rfl) (fun _ => rfl) (fun _ => rfl) rfl (by decide +kernel) ?_
  refine rx_aload_n dX5_init_88 rfl ?_
  refine rx_bipush (8) dX5_init_89 (by decide) ?_
  refine rx_newaI (N' := 8) 78 (shA 162) (by decide +kernel) (by decide +kernel) dX5_init_91 (by decide) (by decide +kernel) rfl rfl (by decide +kernel) rfl rfl ?_
  refine rx_putRF (2, 78, 0) (shA 163) dX5_init_93 flX5_45 (by decide +kernel : (shA 162)[66]? = some (0, 5, [(2, 67, 0), (2, 68, 0), (2, 69, 0), (2, 70, 0), (2, 71, 0), (2, 72, 0), (0, 0, 0), (0, 0, 0), (2, 73, 0), (0, 0, 0), (1, 0, 0), (2, 74, 0), (2, 75, 0), (2, 76, 0), (0, 0, 0), (2, 77, 0), (1, 0, 0), (0, 0, 0)])) rfl rfl (fun C T N h => by have e : (RX5, TX5, 18) = (C, T, N) := Option.some.inj h; cases e; rfl) (fun _ => rfl) (fun _ => rfl) rfl (by decide +kernel) ?_
  refine rx_aload_n dX5_init_96 rfl ?_
  refine rx_aload_n dX5_init_97 rfl ?_
  refine rx_putR (3, 11, 6) (shA 164) dX5_init_98 flX5_48 (by decide +kernel : (shA 163)[66]? = some (0, 5, [(2, 67, 0), (2, 68, 0), (2, 69, 0), (2, 70, 0), (2, 71, 0), (2, 72, 0), (0, 0, 0), (0, 0, 0), (2, 73, 0), (0, 0, 0), (1, 0, 0), (2, 74, 0), (2, 75, 0), (2, 76, 0), (0, 0, 0), (2, 77, 0), (2, 78, 0), (0, 0, 0)])) rfl (fun _ => rfl) (fun _ => rfl) (by show Value.ref (11 + 6 * (sA25 66 10).toNatClampNeg) = .ref 11; rw [show sA25 66 10 = 0 from by decide +kernel]; rfl) (by decide +kernel) ?_
  refine rx_iconst (0) dX5_init_101 (by decide) ?_
  refine rx_istore_2 rfl dX5_init_102 ?_
  refine rx_iload_n dX5_init_103 rfl ?_
  refine rx_iconst (4) dX5_init_104 (by decide) ?_
  refine rx_icmp_ge 121 dX5_init_105 (by decide) (fun h => absurd h (by decide)) (fun _ => ?_)
  refine rx_aload_n dX5_init_108 rfl ?_
  refine rx_getR dX5_init_109 flX5_30 (by decide +kernel : (shA 164)[66]? = some (0, 5, [(2, 67, 0), (2, 68, 0), (2, 69, 0), (2, 70, 0), (2, 71, 0), (2, 72, 0), (0, 0, 0), (0, 0, 0), (2, 73, 0), (0, 0, 0), (3, 11, 6), (2, 74, 0), (2, 75, 0), (2, 76, 0), (0, 0, 0), (2, 77, 0), (2, 78, 0), (0, 0, 0)])) rfl ?_
  refine rx_iload_n dX5_init_112 rfl ?_
  refine rx_iconst (3) dX5_init_113 (by decide) ?_
  refine rx_iastore dX5_init_114 (by decide +kernel : (shA 164)[73]? = some (1, 4, [])) (vp_in_nI (n := 0) (by decide) (by decide)) ?_
  refine rx_st (S' := sA26) (by rw [show (0 : Int32).toNatClampNeg = 0 from by decide +kernel]; rfl) ?_
  refine rx_iinc_2 (1) rfl dX5_init_115 (by decide) ?_
  rw [show ((0 : Int32) + 1) = 1 from by decide]
  refine rx_goto 103 dX5_init_118 (by decide) ?_
  refine rx_iload_n dX5_init_103 rfl ?_
  refine rx_iconst (4) dX5_init_104 (by decide) ?_
  refine rx_icmp_ge 121 dX5_init_105 (by decide) (fun h => absurd h (by decide)) (fun _ => ?_)
  refine rx_aload_n dX5_init_108 rfl ?_
  refine rx_getR dX5_init_109 flX5_30 (by decide +kernel : (shA 164)[66]? = some (0, 5, [(2, 67, 0), (2, 68, 0), (2, 69, 0), (2, 70, 0), (2, 71, 0), (2, 72, 0), (0, 0, 0), (0, 0, 0), (2, 73, 0), (0, 0, 0), (3, 11, 6), (2, 74, 0), (2, 75, 0), (2, 76, 0), (0, 0, 0), (2, 77, 0), (2, 78, 0), (0, 0, 0)])) rfl ?_
  refine rx_iload_n dX5_init_112 rfl ?_
  refine rx_iconst (3) dX5_init_113 (by decide) ?_
  refine rx_iastore dX5_init_114 (by decide +kernel : (shA 164)[73]? = some (1, 4, [])) (vp_in_nI (n := 1) (by decide) (by decide)) ?_
  refine rx_st (S' := sA27) (by rw [show (1 : Int32).toNatClampNeg = 1 from by decide +kernel]; rfl) ?_
  refine rx_iinc_2 (1) rfl dX5_init_115 (by decide) ?_
  rw [show ((1 : Int32) + 1) = 2 from by decide]
  refine rx_goto 103 dX5_init_118 (by decide) ?_
  refine rx_iload_n dX5_init_103 rfl ?_
  refine rx_iconst (4) dX5_init_104 (by decide) ?_
  refine rx_icmp_ge 121 dX5_init_105 (by decide) (fun h => absurd h (by decide)) (fun _ => ?_)
  refine rx_aload_n dX5_init_108 rfl ?_
  refine rx_getR dX5_init_109 flX5_30 (by decide +kernel : (shA 164)[66]? = some (0, 5, [(2, 67, 0), (2, 68, 0), (2, 69, 0), (2, 70, 0), (2, 71, 0), (2, 72, 0), (0, 0, 0), (0, 0, 0), (2, 73, 0), (0, 0, 0), (3, 11, 6), (2, 74, 0), (2, 75, 0), (2, 76, 0), (0, 0, 0), (2, 77, 0), (2, 78, 0), (0, 0, 0)])) rfl ?_
  refine rx_iload_n dX5_init_112 rfl ?_
  refine rx_iconst (3) dX5_init_113 (by decide) ?_
  refine rx_iastore dX5_init_114 (by decide +kernel : (shA 164)[73]? = some (1, 4, [])) (vp_in_nI (n := 2) (by decide) (by decide)) ?_
  refine rx_st (S' := sA28) (by rw [show (2 : Int32).toNatClampNeg = 2 from by decide +kernel]; rfl) ?_
  refine rx_iinc_2 (1) rfl dX5_init_115 (by decide) ?_
  rw [show ((2 : Int32) + 1) = 3 from by decide]
  refine rx_goto 103 dX5_init_118 (by decide) ?_
  refine rx_iload_n dX5_init_103 rfl ?_
  refine rx_iconst (4) dX5_init_104 (by decide) ?_
  refine rx_icmp_ge 121 dX5_init_105 (by decide) (fun h => absurd h (by decide)) (fun _ => ?_)
  refine rx_aload_n dX5_init_108 rfl ?_
  refine rx_getR dX5_init_109 flX5_30 (by decide +kernel : (shA 164)[66]? = some (0, 5, [(2, 67, 0), (2, 68, 0), (2, 69, 0), (2, 70, 0), (2, 71, 0), (2, 72, 0), (0, 0, 0), (0, 0, 0), (2, 73, 0), (0, 0, 0), (3, 11, 6), (2, 74, 0), (2, 75, 0), (2, 76, 0), (0, 0, 0), (2, 77, 0), (2, 78, 0), (0, 0, 0)])) rfl ?_
  refine rx_iload_n dX5_init_112 rfl ?_
  refine rx_iconst (3) dX5_init_113 (by decide) ?_
  refine rx_iastore dX5_init_114 (by decide +kernel : (shA 164)[73]? = some (1, 4, [])) (vp_in_nI (n := 3) (by decide) (by decide)) ?_
  refine rx_st (S' := sA29) (by rw [show (3 : Int32).toNatClampNeg = 3 from by decide +kernel]; rfl) ?_
  refine rx_iinc_2 (1) rfl dX5_init_115 (by decide) ?_
  rw [show ((3 : Int32) + 1) = 4 from by decide]
  refine rx_goto 103 dX5_init_118 (by decide) ?_
  refine rx_iload_n dX5_init_103 rfl ?_
  refine rx_iconst (4) dX5_init_104 (by decide) ?_
  refine rx_icmp_ge 121 dX5_init_105 (by decide) (fun _ => ?_) (fun h => absurd (by decide) h)
  exact rx_vret dX5_init_121 rfl ⟨Nat.le_of_ble_eq_true rfl, Nat.le_of_ble_eq_true rfl⟩ ⟨rfl, rfl, rfl, rfl⟩
set_option maxRecDepth 20000 in
set_option maxHeartbeats 4000000 in
theorem c_mk_79 (g : GG) : Ct g 1 12 95 mX5_init [.ref 79, .ref 11] (shA 166) sA29 ZL (fun o sh' S' L' => o = none ∧ sh' = (shA 191) ∧ S' = sA33 ∧ L' = ZL) := by
  refine ct_of (ls := [some (.ref 79), some (.ref 11), none]) 1 (by decide +kernel) rfl rfl ?_
  refine rx_aload_n dX5_init_0 rfl ?_
  refine rx_objI dX5_init_1 w_140 (by decide) rfl ?_
  refine rx_aload_n dX5_init_4 rfl ?_
  refine rx_bipush (7) dX5_init_5 (by decide) ?_
  refine rx_newaI (N' := 7) 80 (shA 167) (by decide +kernel) (by decide +kernel) dX5_init_7 (by decide) (by decide +kernel) rfl rfl (by decide +kernel) rfl rfl ?_
  refine rx_putRF (2, 80, 0) (shA 168) dX5_init_9 flX5_9 (by decide +kernel : (shA 167)[79]? = some (0, 5, [(1, 0, 0), (1, 0, 0), (1, 0, 0), (1, 0, 0), (1, 0, 0), (1, 0, 0), (0, 0, 0), (0, 0, 0), (1, 0, 0), (0, 0, 0), (1, 0, 0), (1, 0, 0), (1, 0, 0), (1, 0, 0), (0, 0, 0), (1, 0, 0), (1, 0, 0), (0, 0, 0)])) rfl rfl (fun C T N h => by have e : (RX5, TX5, 18) = (C, T, N) := Option.some.inj h; cases e; rfl) (fun _ => rfl) (fun _ => rfl) rfl (by decide +kernel) ?_
  refine rx_aload_n dX5_init_12 rfl ?_
  refine rx_bipush (7) dX5_init_13 (by decide) ?_
  refine rx_newaI (N' := 7) 81 (shA 169) (by decide +kernel) (by decide +kernel) dX5_init_15 (by decide) (by decide +kernel) rfl rfl (by decide +kernel) rfl rfl ?_
  refine rx_putRF (2, 81, 0) (shA 170) dX5_init_17 flX5_15 (by decide +kernel : (shA 169)[79]? = some (0, 5, [(2, 80, 0), (1, 0, 0), (1, 0, 0), (1, 0, 0), (1, 0, 0), (1, 0, 0), (0, 0, 0), (0, 0, 0), (1, 0, 0), (0, 0, 0), (1, 0, 0), (1, 0, 0), (1, 0, 0), (1, 0, 0), (0, 0, 0), (1, 0, 0), (1, 0, 0), (0, 0, 0)])) rfl rfl (fun C T N h => by have e : (RX5, TX5, 18) = (C, T, N) := Option.some.inj h; cases e; rfl) (fun _ => rfl) (fun _ => rfl) rfl (by decide +kernel) ?_
  refine rx_aload_n dX5_init_20 rfl ?_
  refine rx_bipush (7) dX5_init_21 (by decide) ?_
  refine rx_newaI (N' := 7) 82 (shA 171) (by decide +kernel) (by decide +kernel) dX5_init_23 (by decide) (by decide +kernel) rfl rfl (by decide +kernel) rfl rfl ?_
  refine rx_putRF (2, 82, 0) (shA 172) dX5_init_25 flX5_18 (by decide +kernel : (shA 171)[79]? = some (0, 5, [(2, 80, 0), (2, 81, 0), (1, 0, 0), (1, 0, 0), (1, 0, 0), (1, 0, 0), (0, 0, 0), (0, 0, 0), (1, 0, 0), (0, 0, 0), (1, 0, 0), (1, 0, 0), (1, 0, 0), (1, 0, 0), (0, 0, 0), (1, 0, 0), (1, 0, 0), (0, 0, 0)])) rfl rfl (fun C T N h => by have e : (RX5, TX5, 18) = (C, T, N) := Option.some.inj h; cases e; rfl) (fun _ => rfl) (fun _ => rfl) rfl (by decide +kernel) ?_
  refine rx_aload_n dX5_init_28 rfl ?_
  refine rx_bipush (7) dX5_init_29 (by decide) ?_
  refine rx_newaI (N' := 7) 83 (shA 173) (by decide +kernel) (by decide +kernel) dX5_init_31 (by decide) (by decide +kernel) rfl rfl (by decide +kernel) rfl rfl ?_
  refine rx_putRF (2, 83, 0) (shA 174) dX5_init_33 flX5_21 (by decide +kernel : (shA 173)[79]? = some (0, 5, [(2, 80, 0), (2, 81, 0), (2, 82, 0), (1, 0, 0), (1, 0, 0), (1, 0, 0), (0, 0, 0), (0, 0, 0), (1, 0, 0), (0, 0, 0), (1, 0, 0), (1, 0, 0), (1, 0, 0), (1, 0, 0), (0, 0, 0), (1, 0, 0), (1, 0, 0), (0, 0, 0)])) rfl rfl (fun C T N h => by have e : (RX5, TX5, 18) = (C, T, N) := Option.some.inj h; cases e; rfl) (fun _ => rfl) (fun _ => rfl) rfl (by decide +kernel) ?_
  refine rx_aload_n dX5_init_36 rfl ?_
  refine rx_bipush (7) dX5_init_37 (by decide) ?_
  refine rx_newaI (N' := 7) 84 (shA 175) (by decide +kernel) (by decide +kernel) dX5_init_39 (by decide) (by decide +kernel) rfl rfl (by decide +kernel) rfl rfl ?_
  refine rx_putRF (2, 84, 0) (shA 176) dX5_init_41 flX5_24 (by decide +kernel : (shA 175)[79]? = some (0, 5, [(2, 80, 0), (2, 81, 0), (2, 82, 0), (2, 83, 0), (1, 0, 0), (1, 0, 0), (0, 0, 0), (0, 0, 0), (1, 0, 0), (0, 0, 0), (1, 0, 0), (1, 0, 0), (1, 0, 0), (1, 0, 0), (0, 0, 0), (1, 0, 0), (1, 0, 0), (0, 0, 0)])) rfl rfl (fun C T N h => by have e : (RX5, TX5, 18) = (C, T, N) := Option.some.inj h; cases e; rfl) (fun _ => rfl) (fun _ => rfl) rfl (by decide +kernel) ?_
  refine rx_aload_n dX5_init_44 rfl ?_
  refine rx_bipush (28) dX5_init_45 (by decide) ?_
  refine rx_newaI (N' := 28) 85 (shA 177) (by decide +kernel) (by decide +kernel) dX5_init_47 (by decide) (by decide +kernel) rfl rfl (by decide +kernel) rfl rfl ?_
  refine rx_putRF (2, 85, 0) (shA 178) dX5_init_49 flX5_27 (by decide +kernel : (shA 177)[79]? = some (0, 5, [(2, 80, 0), (2, 81, 0), (2, 82, 0), (2, 83, 0), (2, 84, 0), (1, 0, 0), (0, 0, 0), (0, 0, 0), (1, 0, 0), (0, 0, 0), (1, 0, 0), (1, 0, 0), (1, 0, 0), (1, 0, 0), (0, 0, 0), (1, 0, 0), (1, 0, 0), (0, 0, 0)])) rfl rfl (fun C T N h => by have e : (RX5, TX5, 18) = (C, T, N) := Option.some.inj h; cases e; rfl) (fun _ => rfl) (fun _ => rfl) rfl (by decide +kernel) ?_
  refine rx_aload_n dX5_init_52 rfl ?_
  refine rx_iconst (4) dX5_init_53 (by decide) ?_
  refine rx_newaI (N' := 4) 86 (shA 179) (by decide +kernel) (by decide +kernel) dX5_init_54 (by decide) (by decide +kernel) rfl rfl (by decide +kernel) rfl rfl ?_
  refine rx_putRF (2, 86, 0) (shA 180) dX5_init_56 flX5_30 (by decide +kernel : (shA 179)[79]? = some (0, 5, [(2, 80, 0), (2, 81, 0), (2, 82, 0), (2, 83, 0), (2, 84, 0), (2, 85, 0), (0, 0, 0), (0, 0, 0), (1, 0, 0), (0, 0, 0), (1, 0, 0), (1, 0, 0), (1, 0, 0), (1, 0, 0), (0, 0, 0), (1, 0, 0), (1, 0, 0), (0, 0, 0)])) rfl rfl (fun C T N h => by have e : (RX5, TX5, 18) = (C, T, N) := Option.some.inj h; cases e; rfl) (fun _ => rfl) (fun _ => rfl) rfl (by decide +kernel) ?_
  refine rx_aload_n dX5_init_59 rfl ?_
  refine rx_iconst (4) dX5_init_60 (by decide) ?_
  refine rx_newaI (N' := 4) 87 (shA 181) (by decide +kernel) (by decide +kernel) dX5_init_61 (by decide) (by decide +kernel) rfl rfl (by decide +kernel) rfl rfl ?_
  refine rx_putRF (2, 87, 0) (shA 182) dX5_init_63 flX5_33 (by decide +kernel : (shA 181)[79]? = some (0, 5, [(2, 80, 0), (2, 81, 0), (2, 82, 0), (2, 83, 0), (2, 84, 0), (2, 85, 0), (0, 0, 0), (0, 0, 0), (2, 86, 0), (0, 0, 0), (1, 0, 0), (1, 0, 0), (1, 0, 0), (1, 0, 0), (0, 0, 0), (1, 0, 0), (1, 0, 0), (0, 0, 0)])) rfl rfl (fun C T N h => by have e : (RX5, TX5, 18) = (C, T, N) := Option.some.inj h; cases e; rfl) (fun _ => rfl) (fun _ => rfl) rfl (by decide +kernel) ?_
  refine rx_aload_n dX5_init_66 rfl ?_
  refine rx_iconst (4) dX5_init_67 (by decide) ?_
  refine rx_newaI (N' := 4) 88 (shA 183) (by decide +kernel) (by decide +kernel) dX5_init_68 (by decide) (by decide +kernel) rfl rfl (by decide +kernel) rfl rfl ?_
  refine rx_putRF (2, 88, 0) (shA 184) dX5_init_70 flX5_36 (by decide +kernel : (shA 183)[79]? = some (0, 5, [(2, 80, 0), (2, 81, 0), (2, 82, 0), (2, 83, 0), (2, 84, 0), (2, 85, 0), (0, 0, 0), (0, 0, 0), (2, 86, 0), (0, 0, 0), (1, 0, 0), (2, 87, 0), (1, 0, 0), (1, 0, 0), (0, 0, 0), (1, 0, 0), (1, 0, 0), (0, 0, 0)])) rfl rfl (fun C T N h => by have e : (RX5, TX5, 18) = (C, T, N) := Option.some.inj h; cases e; rfl) (fun _ => rfl) (fun _ => rfl) rfl (by decide +kernel) ?_
  refine rx_aload_n dX5_init_73 rfl ?_
  refine rx_iconst (4) dX5_init_74 (by decide) ?_
  refine rx_newaI (N' := 4) 89 (shA 185) (by decide +kernel) (by decide +kernel) dX5_init_75 (by decide) (by decide +kernel) rfl rfl (by decide +kernel) rfl rfl ?_
  refine rx_putRF (2, 89, 0) (shA 186) dX5_init_77 flX5_39 (by decide +kernel : (shA 185)[79]? = some (0, 5, [(2, 80, 0), (2, 81, 0), (2, 82, 0), (2, 83, 0), (2, 84, 0), (2, 85, 0), (0, 0, 0), (0, 0, 0), (2, 86, 0), (0, 0, 0), (1, 0, 0), (2, 87, 0), (2, 88, 0), (1, 0, 0), (0, 0, 0), (1, 0, 0), (1, 0, 0), (0, 0, 0)])) rfl rfl (fun C T N h => by have e : (RX5, TX5, 18) = (C, T, N) := Option.some.inj h; cases e; rfl) (fun _ => rfl) (fun _ => rfl) rfl (by decide +kernel) ?_
  refine rx_aload_n dX5_init_80 rfl ?_
  refine rx_bipush (8) dX5_init_81 (by decide) ?_
  refine rx_newaI (N' := 8) 90 (shA 187) (by decide +kernel) (by decide +kernel) dX5_init_83 (by decide) (by decide +kernel) rfl rfl (by decide +kernel) rfl rfl ?_
  refine rx_putRF (2, 90, 0) (shA 188) dX5_init_85 flX5_42 (by decide +kernel : (shA 187)[79]? = some (0, 5, [(2, 80, 0), (2, 81, 0), (2, 82, 0), (2, 83, 0), (2, 84, 0), (2, 85, 0), (0, 0, 0), (0, 0, 0), (2, 86, 0), (0, 0, 0), (1, 0, 0), (2, 87, 0), (2, 88, 0), (2, 89, 0), (0, 0, 0), (1, 0, 0), (1, 0, 0), (0, 0, 0)])) rfl rfl (fun C T N h => by have e : (RX5, TX5, 18) = (C, T, N) := Option.some.inj h; cases e; rfl) (fun _ => rfl) (fun _ => rfl) rfl (by decide +kernel) ?_
  refine rx_aload_n dX5_init_88 rfl ?_
  refine rx_bipush (8) dX5_init_89 (by decide) ?_
  refine rx_newaI (N' := 8) 91 (shA 189) (by decide +kernel) (by decide +kernel) dX5_init_91 (by decide) (by decide +kernel) rfl rfl (by decide +kernel) rfl rfl ?_
  refine rx_putRF (2, 91, 0) (shA 190) dX5_init_93 flX5_45 (by decide +kernel : (shA 189)[79]? = some (0, 5, [(2, 80, 0), (2, 81, 0), (2, 82, 0), (2, 83, 0), (2, 84, 0), (2, 85, 0), (0, 0, 0), (0, 0, 0), (2, 86, 0), (0, 0, 0), (1, 0, 0), (2, 87, 0), (2, 88, 0), (2, 89, 0), (0, 0, 0), (2, 90, 0), (1, 0, 0), (0, 0, 0)])) rfl rfl (fun C T N h => by have e : (RX5, TX5, 18) = (C, T, N) := Option.some.inj h; cases e; rfl) (fun _ => rfl) (fun _ => rfl) rfl (by decide +kernel) ?_
  refine rx_aload_n dX5_init_96 rfl ?_
  refine rx_aload_n dX5_init_97 rfl ?_
  refine rx_putR (3, 11, 6) (shA 191) dX5_init_98 flX5_48 (by decide +kernel : (shA 190)[79]? = some (0, 5, [(2, 80, 0), (2, 81, 0), (2, 82, 0), (2, 83, 0), (2, 84, 0), (2, 85, 0), (0, 0, 0), (0, 0, 0), (2, 86, 0), (0, 0, 0), (1, 0, 0), (2, 87, 0), (2, 88, 0), (2, 89, 0), (0, 0, 0), (2, 90, 0), (2, 91, 0), (0, 0, 0)])) rfl (fun _ => rfl) (fun _ => rfl) (by show Value.ref (11 + 6 * (sA29 79 10).toNatClampNeg) = .ref 11; rw [show sA29 79 10 = 0 from by decide +kernel]; rfl) (by decide +kernel) ?_
  refine rx_iconst (0) dX5_init_101 (by decide) ?_
  refine rx_istore_2 rfl dX5_init_102 ?_
  refine rx_iload_n dX5_init_103 rfl ?_
  refine rx_iconst (4) dX5_init_104 (by decide) ?_
  refine rx_icmp_ge 121 dX5_init_105 (by decide) (fun h => absurd h (by decide)) (fun _ => ?_)
  refine rx_aload_n dX5_init_108 rfl ?_
  refine rx_getR dX5_init_109 flX5_30 (by decide +kernel : (shA 191)[79]? = some (0, 5, [(2, 80, 0), (2, 81, 0), (2, 82, 0), (2, 83, 0), (2, 84, 0), (2, 85, 0), (0, 0, 0), (0, 0, 0), (2, 86, 0), (0, 0, 0), (3, 11, 6), (2, 87, 0), (2, 88, 0), (2, 89, 0), (0, 0, 0), (2, 90, 0), (2, 91, 0), (0, 0, 0)])) rfl ?_
  refine rx_iload_n dX5_init_112 rfl ?_
  refine rx_iconst (3) dX5_init_113 (by decide) ?_
  refine rx_iastore dX5_init_114 (by decide +kernel : (shA 191)[86]? = some (1, 4, [])) (vp_in_nI (n := 0) (by decide) (by decide)) ?_
  refine rx_st (S' := sA30) (by rw [show (0 : Int32).toNatClampNeg = 0 from by decide +kernel]; rfl) ?_
  refine rx_iinc_2 (1) rfl dX5_init_115 (by decide) ?_
  rw [show ((0 : Int32) + 1) = 1 from by decide]
  refine rx_goto 103 dX5_init_118 (by decide) ?_
  refine rx_iload_n dX5_init_103 rfl ?_
  refine rx_iconst (4) dX5_init_104 (by decide) ?_
  refine rx_icmp_ge 121 dX5_init_105 (by decide) (fun h => absurd h (by decide)) (fun _ => ?_)
  refine rx_aload_n dX5_init_108 rfl ?_
  refine rx_getR dX5_init_109 flX5_30 (by decide +kernel : (shA 191)[79]? = some (0, 5, [(2, 80, 0), (2, 81, 0), (2, 82, 0), (2, 83, 0), (2, 84, 0), (2, 85, 0), (0, 0, 0), (0, 0, 0), (2, 86, 0), (0, 0, 0), (3, 11, 6), (2, 87, 0), (2, 88, 0), (2, 89, 0), (0, 0, 0), (2, 90, 0), (2, 91, 0), (0, 0, 0)])) rfl ?_
  refine rx_iload_n dX5_init_112 rfl ?_
  refine rx_iconst (3) dX5_init_113 (by decide) ?_
  refine rx_iastore dX5_init_114 (by decide +kernel : (shA 191)[86]? = some (1, 4, [])) (vp_in_nI (n := 1) (by decide) (by decide)) ?_
  refine rx_st (S' := sA31) (by rw [show (1 : Int32).toNatClampNeg = 1 from by decide +kernel]; rfl) ?_
  refine rx_iinc_2 (1) rfl dX5_init_115 (by decide) ?_
  rw [show ((1 : Int32) + 1) = 2 from by decide]
  refine rx_goto 103 dX5_init_118 (by decide) ?_
  refine rx_iload_n dX5_init_103 rfl ?_
  refine rx_iconst (4) dX5_init_104 (by decide) ?_
  refine rx_icmp_ge 121 dX5_init_105 (by decide) (fun h => absurd h (by decide)) (fun _ => ?_)
  refine rx_aload_n dX5_init_108 rfl ?_
  refine rx_getR dX5_init_109 flX5_30 (by decide +kernel : (shA 191)[79]? = some (0, 5, [(2, 80, 0), (2, 81, 0), (2, 82, 0), (2, 83, 0), (2, 84, 0), (2, 85, 0), (0, 0, 0), (0, 0, 0), (2, 86, 0), (0, 0, 0), (3, 11, 6), (2, 87, 0), (2, 88, 0), (2, 89, 0), (0, 0, 0), (2, 90, 0), (2, 91, 0), (0, 0, 0)])) rfl ?_
  refine rx_iload_n dX5_init_112 rfl ?_
  refine rx_iconst (3) dX5_init_113 (by decide) ?_
  refine rx_iastore dX5_init_114 (by decide +kernel : (shA 191)[86]? = some (1, 4, [])) (vp_in_nI (n := 2) (by decide) (by decide)) ?_
  refine rx_st (S' := sA32) (by rw [show (2 : Int32).toNatClampNeg = 2 from by decide +kernel]; rfl) ?_
  refine rx_iinc_2 (1) rfl dX5_init_115 (by decide) ?_
  rw [show ((2 : Int32) + 1) = 3 from by decide]
  refine rx_goto 103 dX5_init_118 (by decide) ?_
  refine rx_iload_n dX5_init_103 rfl ?_
  refine rx_iconst (4) dX5_init_104 (by decide) ?_
  refine rx_icmp_ge 121 dX5_init_105 (by decide) (fun h => absurd h (by decide)) (fun _ => ?_)
  refine rx_aload_n dX5_init_108 rfl ?_
  refine rx_getR dX5_init_109 flX5_30 (by decide +kernel : (shA 191)[79]? = some (0, 5, [(2, 80, 0), (2, 81, 0), (2, 82, 0), (2, 83, 0), (2, 84, 0), (2, 85, 0), (0, 0, 0), (0, 0, 0), (2, 86, 0), (0, 0, 0), (3, 11, 6), (2, 87, 0), (2, 88, 0), (2, 89, 0), (0, 0, 0), (2, 90, 0), (2, 91, 0), (0, 0, 0)])) rfl ?_
  refine rx_iload_n dX5_init_112 rfl ?_
  refine rx_iconst (3) dX5_init_113 (by decide) ?_
  refine rx_iastore dX5_init_114 (by decide +kernel : (shA 191)[86]? = some (1, 4, [])) (vp_in_nI (n := 3) (by decide) (by decide)) ?_
  refine rx_st (S' := sA33) (by rw [show (3 : Int32).toNatClampNeg = 3 from by decide +kernel]; rfl) ?_
  refine rx_iinc_2 (1) rfl dX5_init_115 (by decide) ?_
  rw [show ((3 : Int32) + 1) = 4 from by decide]
  refine rx_goto 103 dX5_init_118 (by decide) ?_
  refine rx_iload_n dX5_init_103 rfl ?_
  refine rx_iconst (4) dX5_init_104 (by decide) ?_
  refine rx_icmp_ge 121 dX5_init_105 (by decide) (fun _ => ?_) (fun h => absurd (by decide) h)
  exact rx_vret dX5_init_121 rfl ⟨Nat.le_of_ble_eq_true rfl, Nat.le_of_ble_eq_true rfl⟩ ⟨rfl, rfl, rfl, rfl⟩
set_option maxRecDepth 20000 in
set_option maxHeartbeats 4000000 in
theorem c_mk_92 (g : GG) : Ct g 2 4 27 mX9_init [.ref 92, .ref 1] (shA 193) sA33 ZL (fun o sh' S' L' => o = none ∧ sh' = (shA 202) ∧ S' = sA33 ∧ L' = ZL) := by
  refine ct_of (ls := [some (.ref 92), some (.ref 1)]) 0 (by decide +kernel) rfl rfl ?_
  refine rx_aload_n dX9_init_0 rfl ?_
  refine rx_objI dX9_init_1 w_230 (by decide) rfl ?_
  refine rx_aload_n dX9_init_4 rfl ?_
  refine rx_bipush (7) dX9_init_5 (by decide) ?_
  refine rx_newaI (N' := 7) 93 (shA 194) (by decide +kernel) (by decide +kernel) dX9_init_7 (by decide) (by decide +kernel) rfl rfl (by decide +kernel) rfl rfl ?_
  refine rx_putRF (2, 93, 0) (shA 195) dX9_init_9 flX9_9 (by decide +kernel : (shA 194)[92]? = some (0, 9, [(1, 0, 0), (1, 0, 0), (1, 0, 0), (1, 0, 0), (1, 0, 0)])) rfl rfl (fun C T N h => by have e : (RX9, TX9, 5) = (C, T, N) := Option.some.inj h; cases e; rfl) (fun _ => rfl) (fun _ => rfl) rfl (by decide +kernel) ?_
  refine rx_aload_n dX9_init_12 rfl ?_
  refine rx_bipush (7) dX9_init_13 (by decide) ?_
  refine rx_newaI (N' := 7) 94 (shA 196) (by decide +kernel) (by decide +kernel) dX9_init_15 (by decide) (by decide +kernel) rfl rfl (by decide +kernel) rfl rfl ?_
  refine rx_putRF (2, 94, 0) (shA 197) dX9_init_17 flX9_15 (by decide +kernel : (shA 196)[92]? = some (0, 9, [(1, 0, 0), (2, 93, 0), (1, 0, 0), (1, 0, 0), (1, 0, 0)])) rfl rfl (fun C T N h => by have e : (RX9, TX9, 5) = (C, T, N) := Option.some.inj h; cases e; rfl) (fun _ => rfl) (fun _ => rfl) rfl (by decide +kernel) ?_
  refine rx_aload_n dX9_init_20 rfl ?_
  refine rx_bipush (7) dX9_init_21 (by decide) ?_
  refine rx_newaI (N' := 7) 95 (shA 198) (by decide +kernel) (by decide +kernel) dX9_init_23 (by decide) (by decide +kernel) rfl rfl (by decide +kernel) rfl rfl ?_
  refine rx_putRF (2, 95, 0) (shA 199) dX9_init_25 flX9_18 (by decide +kernel : (shA 198)[92]? = some (0, 9, [(1, 0, 0), (2, 93, 0), (2, 94, 0), (1, 0, 0), (1, 0, 0)])) rfl rfl (fun C T N h => by have e : (RX9, TX9, 5) = (C, T, N) := Option.some.inj h; cases e; rfl) (fun _ => rfl) (fun _ => rfl) rfl (by decide +kernel) ?_
  refine rx_aload_n dX9_init_28 rfl ?_
  refine rx_ldcS (i := 0) (tx := "ckebat") dX9_init_29 (by decide +kernel) ?_
  refine rx_cVi_0 clX9_25 dX9_init_31 (Or.inr ⟨Nat.le_add_right _ _, by omega, rfl⟩) rfl (c_strLen g (i := 0) (by omega) _ _) ?_
  refine pur3 ?_
  rw [show nI (strLen.getD 0 0) = (6 : Int32) from by decide +kernel]
  refine rx_newaI (N' := 6) 96 (shA 200) (by decide +kernel) (by decide +kernel) dX9_init_34 (by decide) (by decide +kernel) rfl rfl (by decide +kernel) rfl rfl ?_
  refine rx_putRF (2, 96, 0) (shA 201) dX9_init_36 flX9_31 (by decide +kernel : (shA 200)[92]? = some (0, 9, [(1, 0, 0), (2, 93, 0), (2, 94, 0), (2, 95, 0), (1, 0, 0)])) rfl rfl (fun C T N h => by have e : (RX9, TX9, 5) = (C, T, N) := Option.some.inj h; cases e; rfl) (fun _ => rfl) (fun _ => rfl) rfl (by decide +kernel) ?_
  refine rx_aload_n dX9_init_39 rfl ?_
  refine rx_aload_n dX9_init_40 rfl ?_
  refine rx_putRF (2, 1, 0) (shA 202) dX9_init_41 flX9_34 (by decide +kernel : (shA 201)[92]? = some (0, 9, [(1, 0, 0), (2, 93, 0), (2, 94, 0), (2, 95, 0), (2, 96, 0)])) rfl rfl (fun C T N h => by have e : (RX9, TX9, 5) = (C, T, N) := Option.some.inj h; cases e; rfl) (fun _ => rfl) (fun _ => rfl) rfl (by decide +kernel) ?_
  exact rx_vret dX9_init_44 rfl ⟨Nat.le_of_ble_eq_true rfl, Nat.le_of_ble_eq_true rfl⟩ ⟨rfl, rfl, rfl, rfl⟩
set_option maxRecDepth 20000 in
set_option maxHeartbeats 4000000 in
theorem c_mk_97 (g : GG) : Ct g 1 1 20 mX0_init [.ref 97] (shA 204) sA33 ZL (fun o sh' S' L' => o = none ∧ sh' = (shA 206) ∧ S' = sA33 ∧ L' = ZL) := by
  refine ct_of (ls := [some (.ref 97)]) 0 (by decide +kernel) rfl rfl ?_
  refine rx_aload_n dX0_init_0 rfl ?_
  refine rx_objI dX0_init_1 w_266 (by decide) rfl ?_
  refine rx_aload_n dX0_init_4 rfl ?_
  refine rx_bipush (20) dX0_init_5 (by decide) ?_
  refine rx_newaI (N' := 20) 98 (shA 205) (by decide +kernel) (by decide +kernel) dX0_init_7 (by decide) (by decide +kernel) rfl rfl (by decide +kernel) rfl rfl ?_
  refine rx_putRF (2, 98, 0) (shA 206) dX0_init_9 flX0_9 (by decide +kernel : (shA 205)[97]? = some (0, 0, [(1, 0, 0), (0, 0, 0), (0, 0, 0), (0, 0, 0)])) rfl rfl (fun C T N h => by have e : (RX0, TX0, 4) = (C, T, N) := Option.some.inj h; cases e; rfl) (fun _ => rfl) (fun _ => rfl) rfl (by decide +kernel) ?_
  exact rx_vret dX0_init_12 rfl ⟨Nat.le_of_ble_eq_true rfl, Nat.le_of_ble_eq_true rfl⟩ ⟨rfl, rfl, rfl, rfl⟩
set_option maxRecDepth 20000 in
set_option maxHeartbeats 4000000 in
theorem c_newC (g : GG) : Ct g 4 107 1958 mX11_init [.ref 0] (shA 0) sA0 ZL (fun o sh' S' L' => o = none ∧ sh' = (shA 213) ∧ S' = sA39 ∧ L' = ZL) := by
  refine ct_of (ls := [some (.ref 0), none]) 1 (by decide +kernel) rfl rfl ?_
  refine rx_aload_n dX11_init_0 rfl ?_
  refine rx_objI dX11_init_1 w_27 (by decide) rfl ?_
  refine rx_aload_n dX11_init_4 rfl ?_
  refine rx_bipush (7) dX11_init_5 (by decide) ?_
  refine rx_newqC (N' := 7) (fs := [(1, 0, 0), (1, 0, 0), (1, 0, 0), (1, 0, 0), (1, 0, 0), (1, 0, 0), (1, 0, 0)]) 1 (shA 1) (by decide +kernel) (by decide +kernel) dX11_init_7 w_30 (by decide) (by decide +kernel) rfl rfl (by decide +kernel) rfl rfl ?_
  refine rx_dup dX11_init_10 rfl ?_
  refine rx_iconst (0) dX11_init_11 (by decide) ?_
  refine rx_newO (ci := 2) (Cn := RX2) (T := TX2) (N := 0) (ty := tyX2) (fs := []) 2 (shA 2) (by decide +kernel) (by decide +kernel) dX11_init_12 rfl inT_X2 tyX2_ok w_30 w_32 w_2 rfl (fun j h => absurd h (Nat.not_lt_zero j)) rfl (by decide +kernel) rfl rfl ?_
  refine rx_dup dX11_init_15 rfl ?_
  refine rx_callI (As := []) (rest := [.ref 2, .int 0, .ref 1, .ref 1, .ref 0]) (r := 2) (d' := 1) (mc' := 0) (ms' := 0) clX11_11 dX11_init_16 rfl rfl rfl (by decide +kernel) (c_ini_X2 g (shA 2) sA0 ZL 2 (by decide +kernel)) ?_
  refine rx_aast5 (z := 0) (shA 3) dX11_init_19 (by decide +kernel : (shA 2)[1]? = some (5, 7, [(1, 0, 0), (1, 0, 0), (1, 0, 0), (1, 0, 0), (1, 0, 0), (1, 0, 0), (1, 0, 0)])) (by decide +kernel : (shA 2)[2]? = some (0, 2, [])) rfl (vp_in_nI (n := 0) (by decide) (by decide)) (by decide +kernel) (by decide +kernel) ?_
  refine rx_dup dX11_init_20 rfl ?_
  refine rx_iconst (1) dX11_init_21 (by decide) ?_
  refine rx_newO (ci := 3) (Cn := RX3) (T := TX3) (N := 0) (ty := tyX3) (fs := []) 3 (shA 4) (by decide +kernel) (by decide +kernel) dX11_init_22 rfl inT_X3 tyX3_ok w_38 w_39 w_3 rfl (fun j h => absurd h (Nat.not_lt_zero j)) rfl (by decide +kernel) rfl rfl ?_
  refine rx_dup dX11_init_25 rfl ?_
  refine rx_callI (As := []) (rest := [.ref 3, .int 1, .ref 1, .ref 1, .ref 0]) (r := 3) (d' := 2) (mc' := 0) (ms' := 0) clX11_14 dX11_init_26 rfl rfl rfl (by decide +kernel) (c_ini_X3 g (shA 4) sA0 ZL 3 (by decide +kernel)) ?_
  refine rx_aast5O (Cn := RX3) (z := 0) (shA 5) dX11_init_29 (by decide +kernel : (shA 4)[1]? = some (5, 7, [(2, 2, 0), (1, 0, 0), (1, 0, 0), (1, 0, 0), (1, 0, 0), (1, 0, 0), (1, 0, 0)])) (by decide +kernel : (shA 4)[3]? = some (0, 3, [])) rfl (List.mem_of_getElem? (i := 0) rfl) (vp_in_nI (n := 1) (by decide) (by decide)) (by decide +kernel) (by decide +kernel) ?_
  refine rx_dup dX11_init_30 rfl ?_
  refine rx_iconst (2) dX11_init_31 (by decide) ?_
  refine rx_newO (ci := 7) (Cn := RX7) (T := TX7) (N := 0) (ty := tyX7) (fs := []) 4 (shA 6) (by decide +kernel) (by decide +kernel) dX11_init_32 rfl inT_X7 tyX7_ok w_45 w_46 w_4 rfl (fun j h => absurd h (Nat.not_lt_zero j)) rfl (by decide +kernel) rfl rfl ?_
  refine rx_dup dX11_init_35 rfl ?_
  refine rx_callI (As := []) (rest := [.ref 4, .int 2, .ref 1, .ref 1, .ref 0]) (r := 4) (d' := 2) (mc' := 0) (ms' := 0) clX11_17 dX11_init_36 rfl rfl rfl (by decide +kernel) (c_ini_X7 g (shA 6) sA0 ZL 4 (by decide +kernel)) ?_
  refine rx_aast5O (Cn := RX7) (z := 0) (shA 7) dX11_init_39 (by decide +kernel : (shA 6)[1]? = some (5, 7, [(2, 2, 0), (2, 3, 0), (1, 0, 0), (1, 0, 0), (1, 0, 0), (1, 0, 0), (1, 0, 0)])) (by decide +kernel : (shA 6)[4]? = some (0, 7, [])) rfl (List.mem_of_getElem? (i := 1) rfl) (vp_in_nI (n := 2) (by decide) (by decide)) (by decide +kernel) (by decide +kernel) ?_
  refine rx_dup dX11_init_40 rfl ?_
  refine rx_iconst (3) dX11_init_41 (by decide) ?_
  refine rx_newO (ci := 6) (Cn := RX6) (T := TX6) (N := 0) (ty := tyX6) (fs := []) 5 (shA 8) (by decide +kernel) (by decide +kernel) dX11_init_42 rfl inT_X6 tyX6_ok w_52 w_53 w_5 rfl (fun j h => absurd h (Nat.not_lt_zero j)) rfl (by decide +kernel) rfl rfl ?_
  refine rx_dup dX11_init_45 rfl ?_
  refine rx_callI (As := []) (rest := [.ref 5, .int 3, .ref 1, .ref 1, .ref 0]) (r := 5) (d' := 2) (mc' := 0) (ms' := 0) clX11_20 dX11_init_46 rfl rfl rfl (by decide +kernel) (c_ini_X6 g (shA 8) sA0 ZL 5 (by decide +kernel)) ?_
  refine rx_aast5O (Cn := RX6) (z := 0) (shA 9) dX11_init_49 (by decide +kernel : (shA 8)[1]? = some (5, 7, [(2, 2, 0), (2, 3, 0), (2, 4, 0), (1, 0, 0), (1, 0, 0), (1, 0, 0), (1, 0, 0)])) (by decide +kernel : (shA 8)[5]? = some (0, 6, [])) rfl (List.mem_of_getElem? (i := 2) rfl) (vp_in_nI (n := 3) (by decide) (by decide)) (by decide +kernel) (by decide +kernel) ?_
  refine rx_dup dX11_init_50 rfl ?_
  refine rx_iconst (4) dX11_init_51 (by decide) ?_
  refine rx_newO (ci := 4) (Cn := RX4) (T := TX4) (N := 0) (ty := tyX4) (fs := []) 6 (shA 10) (by decide +kernel) (by decide +kernel) dX11_init_52 rfl inT_X4 tyX4_ok w_59 w_60 w_6 rfl (fun j h => absurd h (Nat.not_lt_zero j)) rfl (by decide +kernel) rfl rfl ?_
  refine rx_dup dX11_init_55 rfl ?_
  refine rx_callI (As := []) (rest := [.ref 6, .int 4, .ref 1, .ref 1, .ref 0]) (r := 6) (d' := 3) (mc' := 0) (ms' := 0) clX11_23 dX11_init_56 rfl rfl rfl (by decide +kernel) (c_ini_X4 g (shA 10) sA0 ZL 6 (by decide +kernel)) ?_
  refine rx_aast5O (Cn := RX4) (z := 0) (shA 11) dX11_init_59 (by decide +kernel : (shA 10)[1]? = some (5, 7, [(2, 2, 0), (2, 3, 0), (2, 4, 0), (2, 5, 0), (1, 0, 0), (1, 0, 0), (1, 0, 0)])) (by decide +kernel : (shA 10)[6]? = some (0, 4, [])) rfl (List.mem_of_getElem? (i := 3) rfl) (vp_in_nI (n := 4) (by decide) (by decide)) (by decide +kernel) (by decide +kernel) ?_
  refine rx_dup dX11_init_60 rfl ?_
  refine rx_iconst (5) dX11_init_61 (by decide) ?_
  refine rx_newO (ci := 1) (Cn := RX1) (T := TX1) (N := 0) (ty := tyX1) (fs := []) 7 (shA 12) (by decide +kernel) (by decide +kernel) dX11_init_62 rfl inT_X1 tyX1_ok w_66 w_67 w_7 rfl (fun j h => absurd h (Nat.not_lt_zero j)) rfl (by decide +kernel) rfl rfl ?_
  refine rx_dup dX11_init_65 rfl ?_
  refine rx_callI (As := []) (rest := [.ref 7, .int 5, .ref 1, .ref 1, .ref 0]) (r := 7) (d' := 3) (mc' := 0) (ms' := 0) clX11_26 dX11_init_66 rfl rfl rfl (by decide +kernel) (c_ini_X1 g (shA 12) sA0 ZL 7 (by decide +kernel)) ?_
  refine rx_aast5O (Cn := RX1) (z := 0) (shA 13) dX11_init_69 (by decide +kernel : (shA 12)[1]? = some (5, 7, [(2, 2, 0), (2, 3, 0), (2, 4, 0), (2, 5, 0), (2, 6, 0), (1, 0, 0), (1, 0, 0)])) (by decide +kernel : (shA 12)[7]? = some (0, 1, [])) rfl (List.mem_of_getElem? (i := 4) rfl) (vp_in_nI (n := 5) (by decide) (by decide)) (by decide +kernel) (by decide +kernel) ?_
  refine rx_dup dX11_init_70 rfl ?_
  refine rx_bipush (6) dX11_init_71 (by decide) ?_
  refine rx_newO (ci := 8) (Cn := RX8) (T := TX8) (N := 0) (ty := tyX8) (fs := []) 8 (shA 14) (by decide +kernel) (by decide +kernel) dX11_init_73 rfl inT_X8 tyX8_ok w_73 w_74 w_8 rfl (fun j h => absurd h (Nat.not_lt_zero j)) rfl (by decide +kernel) rfl rfl ?_
  refine rx_dup dX11_init_76 rfl ?_
  refine rx_callI (As := []) (rest := [.ref 8, .int 6, .ref 1, .ref 1, .ref 0]) (r := 8) (d' := 3) (mc' := 0) (ms' := 0) clX11_29 dX11_init_77 rfl rfl rfl (by decide +kernel) (c_ini_X8 g (shA 14) sA0 ZL 8 (by decide +kernel)) ?_
  refine rx_aast5O (Cn := RX8) (z := 0) (shA 15) dX11_init_80 (by decide +kernel : (shA 14)[1]? = some (5, 7, [(2, 2, 0), (2, 3, 0), (2, 4, 0), (2, 5, 0), (2, 6, 0), (2, 7, 0), (1, 0, 0)])) (by decide +kernel : (shA 14)[8]? = some (0, 8, [])) rfl (List.mem_of_getElem? (i := 5) rfl) (vp_in_nI (n := 6) (by decide) (by decide)) (by decide +kernel) (by decide +kernel) ?_
  refine rx_putRF (2, 1, 0) (shA 16) dX11_init_81 flX11_30 (by decide +kernel : (shA 15)[0]? = some (0, 11, [(1, 0, 0), (1, 0, 0), (0, 0, 0), (1, 0, 0), (0, 0, 0), (1, 0, 0), (1, 0, 0), (1, 0, 0), (0, 0, 0), (1, 0, 0), (1, 0, 0), (1, 0, 0), (1, 0, 0), (1, 0, 0)])) rfl rfl (fun C T N h => by have e : (RX11, TX11, 14) = (C, T, N) := Option.some.inj h; cases e; rfl) (fun _ => rfl) (fun _ => rfl) rfl (by decide +kernel) ?_
  refine rx_aload_n dX11_init_84 rfl ?_
  refine rx_bipush (100) dX11_init_85 (by decide) ?_
  refine rx_newaB (N' := 100) 9 (shA 17) (by decide +kernel) (by decide +kernel) dX11_init_87 (by decide) (by decide +kernel) rfl rfl (by decide +kernel) rfl rfl ?_
  refine rx_putRF (2, 9, 0) (shA 18) dX11_init_89 flX11_36 (by decide +kernel : (shA 17)[0]? = some (0, 11, [(2, 1, 0), (1, 0, 0), (0, 0, 0), (1, 0, 0), (0, 0, 0), (1, 0, 0), (1, 0, 0), (1, 0, 0), (0, 0, 0), (1, 0, 0), (1, 0, 0), (1, 0, 0), (1, 0, 0), (1, 0, 0)])) rfl rfl (fun C T N h => by have e : (RX11, TX11, 14) = (C, T, N) := Option.some.inj h; cases e; rfl) (fun _ => rfl) (fun _ => rfl) rfl (by decide +kernel) ?_
  refine rx_aload_n dX11_init_92 rfl ?_
  refine rx_bipush (7) dX11_init_93 (by decide) ?_
  refine rx_newqY (N' := 7) (fs := [(1, 0, 0), (1, 0, 0), (1, 0, 0), (1, 0, 0), (1, 0, 0), (1, 0, 0), (1, 0, 0)]) 10 (shA 19) (by decide +kernel) (by decide +kernel) dX11_init_95 w_80 (by decide) (by decide +kernel) rfl rfl (by decide +kernel) rfl rfl ?_
  refine rx_putRF (2, 10, 0) (shA 20) dX11_init_98 flX11_42 (by decide +kernel : (shA 19)[0]? = some (0, 11, [(2, 1, 0), (2, 9, 0), (0, 0, 0), (1, 0, 0), (0, 0, 0), (1, 0, 0), (1, 0, 0), (1, 0, 0), (0, 0, 0), (1, 0, 0), (1, 0, 0), (1, 0, 0), (1, 0, 0), (1, 0, 0)])) rfl rfl (fun C T N h => by have e : (RX11, TX11, 14) = (C, T, N) := Option.some.inj h; cases e; rfl) (fun _ => rfl) (fun _ => rfl) rfl (by decide +kernel) ?_
  refine rx_iconst (0) dX11_init_101 (by decide) ?_
  refine rx_istore_1 rfl dX11_init_102 ?_
  refine rx_iload_n dX11_init_103 rfl ?_
  refine rx_bipush (6) dX11_init_104 (by decide) ?_
  refine rx_icmp_gt 132 dX11_init_106 (by decide) (fun h => absurd h (by decide)) (fun _ => ?_)
  refine rx_aload_n dX11_init_109 rfl ?_
  refine rx_getR dX11_init_110 flX11_42 (by decide +kernel : (shA 20)[0]? = some (0, 11, [(2, 1, 0), (2, 9, 0), (0, 0, 0), (2, 10, 0), (0, 0, 0), (1, 0, 0), (1, 0, 0), (1, 0, 0), (0, 0, 0), (1, 0, 0), (1, 0, 0), (1, 0, 0), (1, 0, 0), (1, 0, 0)])) rfl ?_
  refine rx_iload_n dX11_init_113 rfl ?_
  refine rx_newO (ci := 10) (Cn := RX10) (T := TX10) (N := 13) (ty := tyX10) (fs := [(1, 0, 0), (0, 0, 0), (0, 0, 0), (1, 0, 0), (1, 0, 0), (1, 0, 0), (1, 0, 0), (0, 0, 0), (1, 0, 0), (0, 0, 0), (0, 0, 0), (0, 0, 0), (0, 0, 0)]) 11 (shA 21) (by decide +kernel) (by decide +kernel) dX11_init_114 rfl inT_X10 tyX10_ok w_80 w_82 w_9 rfl (by intro j hj; rcases (show j = 0 ∨ j = 1 ∨ j = 2 ∨ j = 3 ∨ j = 4 ∨ j = 5 ∨ j = 6 ∨ j = 7 ∨ j = 8 ∨ j = 9 ∨ j = 10 ∨ j = 11 ∨ j = 12 by omega) with rfl | rfl | rfl | rfl | rfl | rfl | rfl | rfl | rfl | rfl | rfl | rfl | rfl <;> rfl) rfl (by decide +kernel) rfl rfl ?_
  refine rx_dup dX11_init_117 rfl ?_
  refine rx_aload_n dX11_init_118 rfl ?_
  refine rx_getR dX11_init_119 flX11_36 (by decide +kernel : (shA 21)[0]? = some (0, 11, [(2, 1, 0), (2, 9, 0), (0, 0, 0), (2, 10, 0), (0, 0, 0), (1, 0, 0), (1, 0, 0), (1, 0, 0), (0, 0, 0), (1, 0, 0), (1, 0, 0), (1, 0, 0), (1, 0, 0), (1, 0, 0)])) rfl ?_
  refine rx_callI (As := [.ref 9]) (rest := [.ref 11, .int 0, .ref 10]) (r := 11) (d' := 1) (mc' := 5) (ms' := 140) clX11_46 dX11_init_122 rfl rfl rfl (by decide +kernel) (c_mk_11 g) ?_
  refine rx_aast6 (z := 0) (shA 33) dX11_init_125 (by decide +kernel : (shA 32)[10]? = some (6, 7, [(1, 0, 0), (1, 0, 0), (1, 0, 0), (1, 0, 0), (1, 0, 0), (1, 0, 0), (1, 0, 0)])) (by decide +kernel : (shA 32)[11]? = some (0, 10, [(2, 9, 0), (0, 0, 0), (0, 0, 0), (2, 12, 0), (2, 13, 0), (2, 14, 0), (2, 15, 0), (0, 0, 0), (2, 16, 0), (0, 0, 0), (0, 0, 0), (0, 0, 0), (0, 0, 0)])) rfl (vp_in_nI (n := 0) (by decide) (by decide)) (by decide +kernel) (by decide +kernel) ?_
  refine rx_iinc_1 (1) rfl dX11_init_126 (by decide) ?_
  rw [show ((0 : Int32) + 1) = 1 from by decide]
  refine rx_goto 103 dX11_init_129 (by decide) ?_
  refine rx_iload_n dX11_init_103 rfl ?_
  refine rx_bipush (6) dX11_init_104 (by decide) ?_
  refine rx_icmp_gt 132 dX11_init_106 (by decide) (fun h => absurd h (by decide)) (fun _ => ?_)
  refine rx_aload_n dX11_init_109 rfl ?_
  refine rx_getR dX11_init_110 flX11_42 (by decide +kernel : (shA 33)[0]? = some (0, 11, [(2, 1, 0), (2, 9, 0), (0, 0, 0), (2, 10, 0), (0, 0, 0), (1, 0, 0), (1, 0, 0), (1, 0, 0), (0, 0, 0), (1, 0, 0), (1, 0, 0), (1, 0, 0), (1, 0, 0), (1, 0, 0)])) rfl ?_
  refine rx_iload_n dX11_init_113 rfl ?_
  refine rx_newO (ci := 10) (Cn := RX10) (T := TX10) (N := 13) (ty := tyX10) (fs := [(1, 0, 0), (0, 0, 0), (0, 0, 0), (1, 0, 0), (1, 0, 0), (1, 0, 0), (1, 0, 0), (0, 0, 0), (1, 0, 0), (0, 0, 0), (0, 0, 0), (0, 0, 0), (0, 0, 0)]) 17 (shA 34) (by decide +kernel) (by decide +kernel) dX11_init_114 rfl inT_X10 tyX10_ok w_80 w_82 w_9 rfl (by intro j hj; rcases (show j = 0 ∨ j = 1 ∨ j = 2 ∨ j = 3 ∨ j = 4 ∨ j = 5 ∨ j = 6 ∨ j = 7 ∨ j = 8 ∨ j = 9 ∨ j = 10 ∨ j = 11 ∨ j = 12 by omega) with rfl | rfl | rfl | rfl | rfl | rfl | rfl | rfl | rfl | rfl | rfl | rfl | rfl <;> rfl) rfl (by decide +kernel) rfl rfl ?_
  refine rx_dup dX11_init_117 rfl ?_
  refine rx_aload_n dX11_init_118 rfl ?_
  refine rx_getR dX11_init_119 flX11_36 (by decide +kernel : (shA 34)[0]? = some (0, 11, [(2, 1, 0), (2, 9, 0), (0, 0, 0), (2, 10, 0), (0, 0, 0), (1, 0, 0), (1, 0, 0), (1, 0, 0), (0, 0, 0), (1, 0, 0), (1, 0, 0), (1, 0, 0), (1, 0, 0), (1, 0, 0)])) rfl ?_
  refine rx_callI (As := [.ref 9]) (rest := [.ref 17, .int 1, .ref 10]) (r := 17) (d' := 1) (mc' := 5) (ms' := 140) clX11_46 dX11_init_122 rfl rfl rfl (by decide +kernel) (c_mk_17 g) ?_
  refine rx_aast6 (z := 0) (shA 46) dX11_init_125 (by decide +kernel : (shA 45)[10]? = some (6, 7, [(2, 11, 0), (1, 0, 0), (1, 0, 0), (1, 0, 0), (1, 0, 0), (1, 0, 0), (1, 0, 0)])) (by decide +kernel : (shA 45)[17]? = some (0, 10, [(2, 9, 0), (0, 0, 0), (0, 0, 0), (2, 18, 0), (2, 19, 0), (2, 20, 0), (2, 21, 0), (0, 0, 0), (2, 22, 0), (0, 0, 0), (0, 0, 0), (0, 0, 0), (0, 0, 0)])) rfl (vp_in_nI (n := 1) (by decide) (by decide)) (by decide +kernel) (by decide +kernel) ?_
  refine rx_iinc_1 (1) rfl dX11_init_126 (by decide) ?_
  rw [show ((1 : Int32) + 1) = 2 from by decide]
  refine rx_goto 103 dX11_init_129 (by decide) ?_
  refine rx_iload_n dX11_init_103 rfl ?_
  refine rx_bipush (6) dX11_init_104 (by decide) ?_
  refine rx_icmp_gt 132 dX11_init_106 (by decide) (fun h => absurd h (by decide)) (fun _ => ?_)
  refine rx_aload_n dX11_init_109 rfl ?_
  refine rx_getR dX11_init_110 flX11_42 (by decide +kernel : (shA 46)[0]? = some (0, 11, [(2, 1, 0), (2, 9, 0), (0, 0, 0), (2, 10, 0), (0, 0, 0), (1, 0, 0), (1, 0, 0), (1, 0, 0), (0, 0, 0), (1, 0, 0), (1, 0, 0), (1, 0, 0), (1, 0, 0), (1, 0, 0)])) rfl ?_
  refine rx_iload_n dX11_init_113 rfl ?_
  refine rx_newO (ci := 10) (Cn := RX10) (T := TX10) (N := 13) (ty := tyX10) (fs := [(1, 0, 0), (0, 0, 0), (0, 0, 0), (1, 0, 0), (1, 0, 0), (1, 0, 0), (1, 0, 0), (0, 0, 0), (1, 0, 0), (0, 0, 0), (0, 0, 0), (0, 0, 0), (0, 0, 0)]) 23 (shA 47) (by decide +kernel) (by decide +kernel) dX11_init_114 rfl inT_X10 tyX10_ok w_80 w_82 w_9 rfl (by intro j hj; rcases (show j = 0 ∨ j = 1 ∨ j = 2 ∨ j = 3 ∨ j = 4 ∨ j = 5 ∨ j = 6 ∨ j = 7 ∨ j = 8 ∨ j = 9 ∨ j = 10 ∨ j = 11 ∨ j = 12 by omega) with rfl | rfl | rfl | rfl | rfl | rfl | rfl | rfl | rfl | rfl | rfl | rfl | rfl <;> rfl) rfl (by decide +kernel) rfl rfl ?_
  refine rx_dup dX11_init_117 rfl ?_
  refine rx_aload_n dX11_init_118 rfl ?_
  refine rx_getR dX11_init_119 flX11_36 (by decide +kernel : (shA 47)[0]? = some (0, 11, [(2, 1, 0), (2, 9, 0), (0, 0, 0), (2, 10, 0), (0, 0, 0), (1, 0, 0), (1, 0, 0), (1, 0, 0), (0, 0, 0), (1, 0, 0), (1, 0, 0), (1, 0, 0), (1, 0, 0), (1, 0, 0)])) rfl ?_
  refine rx_callI (As := [.ref 9]) (rest := [.ref 23, .int 2, .ref 10]) (r := 23) (d' := 1) (mc' := 5) (ms' := 140) clX11_46 dX11_init_122 rfl rfl rfl (by decide +kernel) (c_mk_23 g) ?_
  refine rx_aast6 (z := 0) (shA 59) dX11_init_125 (by decide +kernel : (shA 58)[10]? = some (6, 7, [(2, 11, 0), (2, 17, 0), (1, 0, 0), (1, 0, 0), (1, 0, 0), (1, 0, 0), (1, 0, 0)])) (by decide +kernel : (shA 58)[23]? = some (0, 10, [(2, 9, 0), (0, 0, 0), (0, 0, 0), (2, 24, 0), (2, 25, 0), (2, 26, 0), (2, 27, 0), (0, 0, 0), (2, 28, 0), (0, 0, 0), (0, 0, 0), (0, 0, 0), (0, 0, 0)])) rfl (vp_in_nI (n := 2) (by decide) (by decide)) (by decide +kernel) (by decide +kernel) ?_
  refine rx_iinc_1 (1) rfl dX11_init_126 (by decide) ?_
  rw [show ((2 : Int32) + 1) = 3 from by decide]
  refine rx_goto 103 dX11_init_129 (by decide) ?_
  refine rx_iload_n dX11_init_103 rfl ?_
  refine rx_bipush (6) dX11_init_104 (by decide) ?_
  refine rx_icmp_gt 132 dX11_init_106 (by decide) (fun h => absurd h (by decide)) (fun _ => ?_)
  refine rx_aload_n dX11_init_109 rfl ?_
  refine rx_getR dX11_init_110 flX11_42 (by decide +kernel : (shA 59)[0]? = some (0, 11, [(2, 1, 0), (2, 9, 0), (0, 0, 0), (2, 10, 0), (0, 0, 0), (1, 0, 0), (1, 0, 0), (1, 0, 0), (0, 0, 0), (1, 0, 0), (1, 0, 0), (1, 0, 0), (1, 0, 0), (1, 0, 0)])) rfl ?_
  refine rx_iload_n dX11_init_113 rfl ?_
  refine rx_newO (ci := 10) (Cn := RX10) (T := TX10) (N := 13) (ty := tyX10) (fs := [(1, 0, 0), (0, 0, 0), (0, 0, 0), (1, 0, 0), (1, 0, 0), (1, 0, 0), (1, 0, 0), (0, 0, 0), (1, 0, 0), (0, 0, 0), (0, 0, 0), (0, 0, 0), (0, 0, 0)]) 29 (shA 60) (by decide +kernel) (by decide +kernel) dX11_init_114 rfl inT_X10 tyX10_ok w_80 w_82 w_9 rfl (by intro j hj; rcases (show j = 0 ∨ j = 1 ∨ j = 2 ∨ j = 3 ∨ j = 4 ∨ j = 5 ∨ j = 6 ∨ j = 7 ∨ j = 8 ∨ j = 9 ∨ j = 10 ∨ j = 11 ∨ j = 12 by omega) with rfl | rfl | rfl | rfl | rfl | rfl | rfl | rfl | rfl | rfl | rfl | rfl | rfl <;> rfl) rfl (by decide +kernel) rfl rfl ?_
  refine rx_dup dX11_init_117 rfl ?_
  refine rx_aload_n dX11_init_118 rfl ?_
  refine rx_getR dX11_init_119 flX11_36 (by decide +kernel : (shA 60)[0]? = some (0, 11, [(2, 1, 0), (2, 9, 0), (0, 0, 0), (2, 10, 0), (0, 0, 0), (1, 0, 0), (1, 0, 0), (1, 0, 0), (0, 0, 0), (1, 0, 0), (1, 0, 0), (1, 0, 0), (1, 0, 0), (1, 0, 0)])) rfl ?_
  refine rx_callI (As := [.ref 9]) (rest := [.ref 29, .int 3, .ref 10]) (r := 29) (d' := 1) (mc' := 5) (ms' := 140) clX11_46 dX11_init_122 rfl rfl rfl (by decide +kernel) (c_mk_29 g) ?_
  refine rx_aast6 (z := 0) (shA 72) dX11_init_125 (by decide +kernel : (shA 71)[10]? = some (6, 7, [(2, 11, 0), (2, 17, 0), (2, 23, 0), (1, 0, 0), (1, 0, 0), (1, 0, 0), (1, 0, 0)])) (by decide +kernel : (shA 71)[29]? = some (0, 10, [(2, 9, 0), (0, 0, 0), (0, 0, 0), (2, 30, 0), (2, 31, 0), (2, 32, 0), (2, 33, 0), (0, 0, 0), (2, 34, 0), (0, 0, 0), (0, 0, 0), (0, 0, 0), (0, 0, 0)])) rfl (vp_in_nI (n := 3) (by decide) (by decide)) (by decide +kernel) (by decide +kernel) ?_
  refine rx_iinc_1 (1) rfl dX11_init_126 (by decide) ?_
  rw [show ((3 : Int32) + 1) = 4 from by decide]
  refine rx_goto 103 dX11_init_129 (by decide) ?_
  refine rx_iload_n dX11_init_103 rfl ?_
  refine rx_bipush (6) dX11_init_104 (by decide) ?_
  refine rx_icmp_gt 132 dX11_init_106 (by decide) (fun h => absurd h (by decide)) (fun _ => ?_)
  refine rx_aload_n dX11_init_109 rfl ?_
  refine rx_getR dX11_init_110 flX11_42 (by decide +kernel : (shA 72)[0]? = some (0, 11, [(2, 1, 0), (2, 9, 0), (0, 0, 0), (2, 10, 0), (0, 0, 0), (1, 0, 0), (1, 0, 0), (1, 0, 0), (0, 0, 0), (1, 0, 0), (1, 0, 0), (1, 0, 0), (1, 0, 0), (1, 0, 0)])) rfl ?_
  refine rx_iload_n dX11_init_113 rfl ?_
  refine rx_newO (ci := 10) (Cn := RX10) (T := TX10) (N := 13) (ty := tyX10) (fs := [(1, 0, 0), (0, 0, 0), (0, 0, 0), (1, 0, 0), (1, 0, 0), (1, 0, 0), (1, 0, 0), (0, 0, 0), (1, 0, 0), (0, 0, 0), (0, 0, 0), (0, 0, 0), (0, 0, 0)]) 35 (shA 73) (by decide +kernel) (by decide +kernel) dX11_init_114 rfl inT_X10 tyX10_ok w_80 w_82 w_9 rfl (by intro j hj; rcases (show j = 0 ∨ j = 1 ∨ j = 2 ∨ j = 3 ∨ j = 4 ∨ j = 5 ∨ j = 6 ∨ j = 7 ∨ j = 8 ∨ j = 9 ∨ j = 10 ∨ j = 11 ∨ j = 12 by omega) with rfl | rfl | rfl | rfl | rfl | rfl | rfl | rfl | rfl | rfl | rfl | rfl | rfl <;> rfl) rfl (by decide +kernel) rfl rfl ?_
  refine rx_dup dX11_init_117 rfl ?_
  refine rx_aload_n dX11_init_118 rfl ?_
  refine rx_getR dX11_init_119 flX11_36 (by decide +kernel : (shA 73)[0]? = some (0, 11, [(2, 1, 0), (2, 9, 0), (0, 0, 0), (2, 10, 0), (0, 0, 0), (1, 0, 0), (1, 0, 0), (1, 0, 0), (0, 0, 0), (1, 0, 0), (1, 0, 0), (1, 0, 0), (1, 0, 0), (1, 0, 0)])) rfl ?_
  refine rx_callI (As := [.ref 9]) (rest := [.ref 35, .int 4, .ref 10]) (r := 35) (d' := 1) (mc' := 5) (ms' := 140) clX11_46 dX11_init_122 rfl rfl rfl (by decide +kernel) (c_mk_35 g) ?_
  refine rx_aast6 (z := 0) (shA 85) dX11_init_125 (by decide +kernel : (shA 84)[10]? = some (6, 7, [(2, 11, 0), (2, 17, 0), (2, 23, 0), (2, 29, 0), (1, 0, 0), (1, 0, 0), (1, 0, 0)])) (by decide +kernel : (shA 84)[35]? = some (0, 10, [(2, 9, 0), (0, 0, 0), (0, 0, 0), (2, 36, 0), (2, 37, 0), (2, 38, 0), (2, 39, 0), (0, 0, 0), (2, 40, 0), (0, 0, 0), (0, 0, 0), (0, 0, 0), (0, 0, 0)])) rfl (vp_in_nI (n := 4) (by decide) (by decide)) (by decide +kernel) (by decide +kernel) ?_
  refine rx_iinc_1 (1) rfl dX11_init_126 (by decide) ?_
  rw [show ((4 : Int32) + 1) = 5 from by decide]
  refine rx_goto 103 dX11_init_129 (by decide) ?_
  refine rx_iload_n dX11_init_103 rfl ?_
  refine rx_bipush (6) dX11_init_104 (by decide) ?_
  refine rx_icmp_gt 132 dX11_init_106 (by decide) (fun h => absurd h (by decide)) (fun _ => ?_)
  refine rx_aload_n dX11_init_109 rfl ?_
  refine rx_getR dX11_init_110 flX11_42 (by decide +kernel : (shA 85)[0]? = some (0, 11, [(2, 1, 0), (2, 9, 0), (0, 0, 0), (2, 10, 0), (0, 0, 0), (1, 0, 0), (1, 0, 0), (1, 0, 0), (0, 0, 0), (1, 0, 0), (1, 0, 0), (1, 0, 0), (1, 0, 0), (1, 0, 0)])) rfl ?_
  refine rx_iload_n dX11_init_113 rfl ?_
  refine rx_newO (ci := 10) (Cn := RX10) (T := TX10) (N := 13) (ty := tyX10) (fs := [(1, 0, 0), (0, 0, 0), (0, 0, 0), (1, 0, 0), (1, 0, 0), (1, 0, 0), (1, 0, 0), (0, 0, 0), (1, 0, 0), (0, 0, 0), (0, 0, 0), (0, 0, 0), (0, 0, 0)]) 41 (shA 86) (by decide +kernel) (by decide +kernel) dX11_init_114 rfl inT_X10 tyX10_ok w_80 w_82 w_9 rfl (by intro j hj; rcases (show j = 0 ∨ j = 1 ∨ j = 2 ∨ j = 3 ∨ j = 4 ∨ j = 5 ∨ j = 6 ∨ j = 7 ∨ j = 8 ∨ j = 9 ∨ j = 10 ∨ j = 11 ∨ j = 12 by omega) with rfl | rfl | rfl | rfl | rfl | rfl | rfl | rfl | rfl | rfl | rfl | rfl | rfl <;> rfl) rfl (by decide +kernel) rfl rfl ?_
  refine rx_dup dX11_init_117 rfl ?_
  refine rx_aload_n dX11_init_118 rfl ?_
  refine rx_getR dX11_init_119 flX11_36 (by decide +kernel : (shA 86)[0]? = some (0, 11, [(2, 1, 0), (2, 9, 0), (0, 0, 0), (2, 10, 0), (0, 0, 0), (1, 0, 0), (1, 0, 0), (1, 0, 0), (0, 0, 0), (1, 0, 0), (1, 0, 0), (1, 0, 0), (1, 0, 0), (1, 0, 0)])) rfl ?_
  refine rx_callI (As := [.ref 9]) (rest := [.ref 41, .int 5, .ref 10]) (r := 41) (d' := 1) (mc' := 5) (ms' := 140) clX11_46 dX11_init_122 rfl rfl rfl (by decide +kernel) (c_mk_41 g) ?_
  refine rx_aast6 (z := 0) (shA 98) dX11_init_125 (by decide +kernel : (shA 97)[10]? = some (6, 7, [(2, 11, 0), (2, 17, 0), (2, 23, 0), (2, 29, 0), (2, 35, 0), (1, 0, 0), (1, 0, 0)])) (by decide +kernel : (shA 97)[41]? = some (0, 10, [(2, 9, 0), (0, 0, 0), (0, 0, 0), (2, 42, 0), (2, 43, 0), (2, 44, 0), (2, 45, 0), (0, 0, 0), (2, 46, 0), (0, 0, 0), (0, 0, 0), (0, 0, 0), (0, 0, 0)])) rfl (vp_in_nI (n := 5) (by decide) (by decide)) (by decide +kernel) (by decide +kernel) ?_
  refine rx_iinc_1 (1) rfl dX11_init_126 (by decide) ?_
  rw [show ((5 : Int32) + 1) = 6 from by decide]
  refine rx_goto 103 dX11_init_129 (by decide) ?_
  refine rx_iload_n dX11_init_103 rfl ?_
  refine rx_bipush (6) dX11_init_104 (by decide) ?_
  refine rx_icmp_gt 132 dX11_init_106 (by decide) (fun h => absurd h (by decide)) (fun _ => ?_)
  refine rx_aload_n dX11_init_109 rfl ?_
  refine rx_getR dX11_init_110 flX11_42 (by decide +kernel : (shA 98)[0]? = some (0, 11, [(2, 1, 0), (2, 9, 0), (0, 0, 0), (2, 10, 0), (0, 0, 0), (1, 0, 0), (1, 0, 0), (1, 0, 0), (0, 0, 0), (1, 0, 0), (1, 0, 0), (1, 0, 0), (1, 0, 0), (1, 0, 0)])) rfl ?_
  refine rx_iload_n dX11_init_113 rfl ?_
  refine rx_newO (ci := 10) (Cn := RX10) (T := TX10) (N := 13) (ty := tyX10) (fs := [(1, 0, 0), (0, 0, 0), (0, 0, 0), (1, 0, 0), (1, 0, 0), (1, 0, 0), (1, 0, 0), (0, 0, 0), (1, 0, 0), (0, 0, 0), (0, 0, 0), (0, 0, 0), (0, 0, 0)]) 47 (shA 99) (by decide +kernel) (by decide +kernel) dX11_init_114 rfl inT_X10 tyX10_ok w_80 w_82 w_9 rfl (by intro j hj; rcases (show j = 0 ∨ j = 1 ∨ j = 2 ∨ j = 3 ∨ j = 4 ∨ j = 5 ∨ j = 6 ∨ j = 7 ∨ j = 8 ∨ j = 9 ∨ j = 10 ∨ j = 11 ∨ j = 12 by omega) with rfl | rfl | rfl | rfl | rfl | rfl | rfl | rfl | rfl | rfl | rfl | rfl | rfl <;> rfl) rfl (by decide +kernel) rfl rfl ?_
  refine rx_dup dX11_init_117 rfl ?_
  refine rx_aload_n dX11_init_118 rfl ?_
  refine rx_getR dX11_init_119 flX11_36 (by decide +kernel : (shA 99)[0]? = some (0, 11, [(2, 1, 0), (2, 9, 0), (0, 0, 0), (2, 10, 0), (0, 0, 0), (1, 0, 0), (1, 0, 0), (1, 0, 0), (0, 0, 0), (1, 0, 0), (1, 0, 0), (1, 0, 0), (1, 0, 0), (1, 0, 0)])) rfl ?_
  refine rx_callI (As := [.ref 9]) (rest := [.ref 47, .int 6, .ref 10]) (r := 47) (d' := 1) (mc' := 5) (ms' := 140) clX11_46 dX11_init_122 rfl rfl rfl (by decide +kernel) (c_mk_47 g) ?_
  refine rx_aast6 (z := 0) (shA 111) dX11_init_125 (by decide +kernel : (shA 110)[10]? = some (6, 7, [(2, 11, 0), (2, 17, 0), (2, 23, 0), (2, 29, 0), (2, 35, 0), (2, 41, 0), (1, 0, 0)])) (by decide +kernel : (shA 110)[47]? = some (0, 10, [(2, 9, 0), (0, 0, 0), (0, 0, 0), (2, 48, 0), (2, 49, 0), (2, 50, 0), (2, 51, 0), (0, 0, 0), (2, 52, 0), (0, 0, 0), (0, 0, 0), (0, 0, 0), (0, 0, 0)])) rfl (vp_in_nI (n := 6) (by decide) (by decide)) (by decide +kernel) (by decide +kernel) ?_
  refine rx_iinc_1 (1) rfl dX11_init_126 (by decide) ?_
  rw [show ((6 : Int32) + 1) = 7 from by decide]
  refine rx_goto 103 dX11_init_129 (by decide) ?_
  refine rx_iload_n dX11_init_103 rfl ?_
  refine rx_bipush (6) dX11_init_104 (by decide) ?_
  refine rx_icmp_gt 132 dX11_init_106 (by decide) (fun _ => ?_) (fun h => absurd (by decide) h)
  refine rx_aload_n dX11_init_132 rfl ?_
  refine rx_newO (ci := 5) (Cn := RX5) (T := TX5) (N := 18) (ty := tyX5) (fs := [(1, 0, 0), (1, 0, 0), (1, 0, 0), (1, 0, 0), (1, 0, 0), (1, 0, 0), (0, 0, 0), (0, 0, 0), (1, 0, 0), (0, 0, 0), (1, 0, 0), (1, 0, 0), (1, 0, 0), (1, 0, 0), (0, 0, 0), (1, 0, 0), (1, 0, 0), (0, 0, 0)]) 53 (shA 112) (by decide +kernel) (by decide +kernel) dX11_init_133 rfl inT_X5 tyX5_ok w_135 w_136 w_10 rfl (by intro j hj; rcases (show j = 0 ∨ j = 1 ∨ j = 2 ∨ j = 3 ∨ j = 4 ∨ j = 5 ∨ j = 6 ∨ j = 7 ∨ j = 8 ∨ j = 9 ∨ j = 10 ∨ j = 11 ∨ j = 12 ∨ j = 13 ∨ j = 14 ∨ j = 15 ∨ j = 16 ∨ j = 17 by omega) with rfl | rfl | rfl | rfl | rfl | rfl | rfl | rfl | rfl | rfl | rfl | rfl | rfl | rfl | rfl | rfl | rfl | rfl <;> rfl) rfl (by decide +kernel) rfl rfl ?_
  refine rx_dup dX11_init_136 rfl ?_
  refine rx_aload_n dX11_init_137 rfl ?_
  refine rx_getR dX11_init_138 flX11_42 (by decide +kernel : (shA 112)[0]? = some (0, 11, [(2, 1, 0), (2, 9, 0), (0, 0, 0), (2, 10, 0), (0, 0, 0), (1, 0, 0), (1, 0, 0), (1, 0, 0), (0, 0, 0), (1, 0, 0), (1, 0, 0), (1, 0, 0), (1, 0, 0), (1, 0, 0)])) rfl ?_
  refine rx_iconst (0) dX11_init_141 (by decide) ?_
  refine rx_aaload6 dX11_init_142 (by decide +kernel : (shA 112)[10]? = some (6, 7, [(2, 11, 0), (2, 17, 0), (2, 23, 0), (2, 29, 0), (2, 35, 0), (2, 41, 0), (2, 47, 0)])) (vp_in_nI (n := 0) (by decide) (by decide)) (show ([(2, 11, 0), (2, 17, 0), (2, 23, 0), (2, 29, 0), (2, 35, 0), (2, 41, 0), (2, 47, 0)] : List (Nat × Nat × Nat))[(0 : Int32).toNatClampNeg]? = some (2, 11, 0) from by decide +kernel) ?_
  refine rx_callI (As := [.ref 11]) (rest := [.ref 53, .ref 0]) (r := 53) (d' := 1) (mc' := 12) (ms' := 95) clX11_51 dX11_init_143 rfl rfl rfl (by decide +kernel) (c_mk_53 g) ?_
  refine rx_putRF (2, 53, 0) (shA 138) dX11_init_146 flX11_54 (by decide +kernel : (shA 137)[0]? = some (0, 11, [(2, 1, 0), (2, 9, 0), (0, 0, 0), (2, 10, 0), (0, 0, 0), (1, 0, 0), (1, 0, 0), (1, 0, 0), (0, 0, 0), (1, 0, 0), (1, 0, 0), (1, 0, 0), (1, 0, 0), (1, 0, 0)])) rfl rfl (fun C T N h => by have e : (RX11, TX11, 14) = (C, T, N) := Option.some.inj h; cases e; rfl) (fun _ => rfl) (fun _ => rfl) rfl (by decide +kernel) ?_
  refine rx_aload_n dX11_init_149 rfl ?_
  refine rx_newO (ci := 5) (Cn := RX5) (T := TX5) (N := 18) (ty := tyX5) (fs := [(1, 0, 0), (1, 0, 0), (1, 0, 0), (1, 0, 0), (1, 0, 0), (1, 0, 0), (0, 0, 0), (0, 0, 0), (1, 0, 0), (0, 0, 0), (1, 0, 0), (1, 0, 0), (1, 0, 0), (1, 0, 0), (0, 0, 0), (1, 0, 0), (1, 0, 0), (0, 0, 0)]) 66 (shA 139) (by decide +kernel) (by decide +kernel) dX11_init_150 rfl inT_X5 tyX5_ok w_135 w_136 w_10 rfl (by intro j hj; rcases (show j = 0 ∨ j = 1 ∨ j = 2 ∨ j = 3 ∨ j = 4 ∨ j = 5 ∨ j = 6 ∨ j = 7 ∨ j = 8 ∨ j = 9 ∨ j = 10 ∨ j = 11 ∨ j = 12 ∨ j = 13 ∨ j = 14 ∨ j = 15 ∨ j = 16 ∨ j = 17 by omega) with rfl | rfl | rfl | rfl | rfl | rfl | rfl | rfl | rfl | rfl | rfl | rfl | rfl | rfl | rfl | rfl | rfl | rfl <;> rfl) rfl (by decide +kernel) rfl rfl ?_
  refine rx_dup dX11_init_153 rfl ?_
  refine rx_aload_n dX11_init_154 rfl ?_
  refine rx_getR dX11_init_155 flX11_42 (by decide +kernel : (shA 139)[0]? = some (0, 11, [(2, 1, 0), (2, 9, 0), (0, 0, 0), (2, 10, 0), (0, 0, 0), (2, 53, 0), (1, 0, 0), (1, 0, 0), (0, 0, 0), (1, 0, 0), (1, 0, 0), (1, 0, 0), (1, 0, 0), (1, 0, 0)])) rfl ?_
  refine rx_iconst (0) dX11_init_158 (by decide) ?_
  refine rx_aaload6 dX11_init_159 (by decide +kernel : (shA 139)[10]? = some (6, 7, [(2, 11, 0), (2, 17, 0), (2, 23, 0), (2, 29, 0), (2, 35, 0), (2, 41, 0), (2, 47, 0)])) (vp_in_nI (n := 0) (by decide) (by decide)) (show ([(2, 11, 0), (2, 17, 0), (2, 23, 0), (2, 29, 0), (2, 35, 0), (2, 41, 0), (2, 47, 0)] : List (Nat × Nat × Nat))[(0 : Int32).toNatClampNeg]? = some (2, 11, 0) from by decide +kernel) ?_
  refine rx_callI (As := [.ref 11]) (rest := [.ref 66, .ref 0]) (r := 66) (d' := 1) (mc' := 12) (ms' := 95) clX11_51 dX11_init_160 rfl rfl rfl (by decide +kernel) (c_mk_66 g) ?_
  refine rx_putRF (2, 66, 0) (shA 165) dX11_init_163 flX11_58 (by decide +kernel : (shA 164)[0]? = some (0, 11, [(2, 1, 0), (2, 9, 0), (0, 0, 0), (2, 10, 0), (0, 0, 0), (2, 53, 0), (1, 0, 0), (1, 0, 0), (0, 0, 0), (1, 0, 0), (1, 0, 0), (1, 0, 0), (1, 0, 0), (1, 0, 0)])) rfl rfl (fun C T N h => by have e : (RX11, TX11, 14) = (C, T, N) := Option.some.inj h; cases e; rfl) (fun _ => rfl) (fun _ => rfl) rfl (by decide +kernel) ?_
  refine rx_aload_n dX11_init_166 rfl ?_
  refine rx_newO (ci := 5) (Cn := RX5) (T := TX5) (N := 18) (ty := tyX5) (fs := [(1, 0, 0), (1, 0, 0), (1, 0, 0), (1, 0, 0), (1, 0, 0), (1, 0, 0), (0, 0, 0), (0, 0, 0), (1, 0, 0), (0, 0, 0), (1, 0, 0), (1, 0, 0), (1, 0, 0), (1, 0, 0), (0, 0, 0), (1, 0, 0), (1, 0, 0), (0, 0, 0)]) 79 (shA 166) (by decide +kernel) (by decide +kernel) dX11_init_167 rfl inT_X5 tyX5_ok w_135 w_136 w_10 rfl (by intro j hj; rcases (show j = 0 ∨ j = 1 ∨ j = 2 ∨ j = 3 ∨ j = 4 ∨ j = 5 ∨ j = 6 ∨ j = 7 ∨ j = 8 ∨ j = 9 ∨ j = 10 ∨ j = 11 ∨ j = 12 ∨ j = 13 ∨ j = 14 ∨ j = 15 ∨ j = 16 ∨ j = 17 by omega) with rfl | rfl | rfl | rfl | rfl | rfl | rfl | rfl | rfl | rfl | rfl | rfl | rfl | rfl | rfl | rfl | rfl | rfl <;> rfl) rfl (by decide +kernel) rfl rfl ?_
  refine rx_dup dX11_init_170 rfl ?_
  refine rx_aload_n dX11_init_171 rfl ?_
  refine rx_getR dX11_init_172 flX11_42 (by decide +kernel : (shA 166)[0]? = some (0, 11, [(2, 1, 0), (2, 9, 0), (0, 0, 0), (2, 10, 0), (0, 0, 0), (2, 53, 0), (2, 66, 0), (1, 0, 0), (0, 0, 0), (1, 0, 0), (1, 0, 0), (1, 0, 0), (1, 0, 0), (1, 0, 0)])) rfl ?_
  refine rx_iconst (0) dX11_init_175 (by decide) ?_
  refine rx_aaload6 dX11_init_176 (by decide +kernel : (shA 166)[10]? = some (6, 7, [(2, 11, 0), (2, 17, 0), (2, 23, 0), (2, 29, 0), (2, 35, 0), (2, 41, 0), (2, 47, 0)])) (vp_in_nI (n := 0) (by decide) (by decide)) (show ([(2, 11, 0), (2, 17, 0), (2, 23, 0), (2, 29, 0), (2, 35, 0), (2, 41, 0), (2, 47, 0)] : List (Nat × Nat × Nat))[(0 : Int32).toNatClampNeg]? = some (2, 11, 0) from by decide +kernel) ?_
  refine rx_callI (As := [.ref 11]) (rest := [.ref 79, .ref 0]) (r := 79) (d' := 1) (mc' := 12) (ms' := 95) clX11_51 dX11_init_177 rfl rfl rfl (by decide +kernel) (c_mk_79 g) ?_
  refine rx_putRF (2, 79, 0) (shA 192) dX11_init_180 flX11_61 (by decide +kernel : (shA 191)[0]? = some (0, 11, [(2, 1, 0), (2, 9, 0), (0, 0, 0), (2, 10, 0), (0, 0, 0), (2, 53, 0), (2, 66, 0), (1, 0, 0), (0, 0, 0), (1, 0, 0), (1, 0, 0), (1, 0, 0), (1, 0, 0), (1, 0, 0)])) rfl rfl (fun C T N h => by have e : (RX11, TX11, 14) = (C, T, N) := Option.some.inj h; cases e; rfl) (fun _ => rfl) (fun _ => rfl) rfl (by decide +kernel) ?_
  refine rx_aload_n dX11_init_183 rfl ?_
  refine rx_newO (ci := 9) (Cn := RX9) (T := TX9) (N := 5) (ty := tyX9) (fs := [(1, 0, 0), (1, 0, 0), (1, 0, 0), (1, 0, 0), (1, 0, 0)]) 92 (shA 193) (by decide +kernel) (by decide +kernel) dX11_init_184 rfl inT_X9 tyX9_ok w_225 w_226 w_11 rfl (by intro j hj; rcases (show j = 0 ∨ j = 1 ∨ j = 2 ∨ j = 3 ∨ j = 4 by omega) with rfl | rfl | rfl | rfl | rfl <;> rfl) rfl (by decide +kernel) rfl rfl ?_
  refine rx_dup dX11_init_187 rfl ?_
  refine rx_aload_n dX11_init_188 rfl ?_
  refine rx_getR dX11_init_189 flX11_30 (by decide +kernel : (shA 193)[0]? = some (0, 11, [(2, 1, 0), (2, 9, 0), (0, 0, 0), (2, 10, 0), (0, 0, 0), (2, 53, 0), (2, 66, 0), (2, 79, 0), (0, 0, 0), (1, 0, 0), (1, 0, 0), (1, 0, 0), (1, 0, 0), (1, 0, 0)])) rfl ?_
  refine rx_callI (As := [.ref 1]) (rest := [.ref 92, .ref 0]) (r := 92) (d' := 2) (mc' := 4) (ms' := 27) clX11_66 dX11_init_192 rfl rfl rfl (by decide +kernel) (c_mk_92 g) ?_
  refine rx_putRF (2, 92, 0) (shA 203) dX11_init_195 flX11_69 (by decide +kernel : (shA 202)[0]? = some (0, 11, [(2, 1, 0), (2, 9, 0), (0, 0, 0), (2, 10, 0), (0, 0, 0), (2, 53, 0), (2, 66, 0), (2, 79, 0), (0, 0, 0), (1, 0, 0), (1, 0, 0), (1, 0, 0), (1, 0, 0), (1, 0, 0)])) rfl rfl (fun C T N h => by have e : (RX11, TX11, 14) = (C, T, N) := Option.some.inj h; cases e; rfl) (fun _ => rfl) (fun _ => rfl) rfl (by decide +kernel) ?_
  refine rx_aload_n dX11_init_198 rfl ?_
  refine rx_newO (ci := 0) (Cn := RX0) (T := TX0) (N := 4) (ty := tyX0) (fs := [(1, 0, 0), (0, 0, 0), (0, 0, 0), (0, 0, 0)]) 97 (shA 204) (by decide +kernel) (by decide +kernel) dX11_init_199 rfl inT_X0 tyX0_ok w_261 w_262 w_13 rfl (by intro j hj; rcases (show j = 0 ∨ j = 1 ∨ j = 2 ∨ j = 3 by omega) with rfl | rfl | rfl | rfl <;> rfl) rfl (by decide +kernel) rfl rfl ?_
  refine rx_dup dX11_init_202 rfl ?_
  refine rx_callI (As := []) (rest := [.ref 97, .ref 0]) (r := 97) (d' := 1) (mc' := 1) (ms' := 20) clX11_75 dX11_init_203 rfl rfl rfl (by decide +kernel) (c_mk_97 g) ?_
  refine rx_putRF (2, 97, 0) (shA 207) dX11_init_206 flX11_76 (by decide +kernel : (shA 206)[0]? = some (0, 11, [(2, 1, 0), (2, 9, 0), (0, 0, 0), (2, 10, 0), (0, 0, 0), (2, 53, 0), (2, 66, 0), (2, 79, 0), (0, 0, 0), (2, 92, 0), (1, 0, 0), (1, 0, 0), (1, 0, 0), (1, 0, 0)])) rfl rfl (fun C T N h => by have e : (RX11, TX11, 14) = (C, T, N) := Option.some.inj h; cases e; rfl) (fun _ => rfl) (fun _ => rfl) rfl (by decide +kernel) ?_
  refine rx_aload_n dX11_init_209 rfl ?_
  refine rx_bipush (6) dX11_init_210 (by decide) ?_
  refine rx_bipush (60) dX11_init_212 (by decide) ?_
  refine rx_mnaT (r := 99) (shA 208) (by decide +kernel) (by decide +kernel) dX11_init_214 w_286 rfl rfl (fun _ _ => rfl) (by decide +kernel) (by decide +kernel) rfl rfl ?_
  refine rx_putRF (2, 99, 0) (shA 209) dX11_init_218 flX11_82 (by decide +kernel : (shA 208)[0]? = some (0, 11, [(2, 1, 0), (2, 9, 0), (0, 0, 0), (2, 10, 0), (0, 0, 0), (2, 53, 0), (2, 66, 0), (2, 79, 0), (0, 0, 0), (2, 92, 0), (2, 97, 0), (1, 0, 0), (1, 0, 0), (1, 0, 0)])) rfl rfl (fun C T N h => by have e : (RX11, TX11, 14) = (C, T, N) := Option.some.inj h; cases e; rfl) (fun _ => rfl) (fun _ => rfl) rfl (by decide +kernel) ?_
  refine rx_aload_n dX11_init_221 rfl ?_
  refine rx_bipush (6) dX11_init_222 (by decide) ?_
  refine rx_newaI (N' := 6) 106 (shA 210) (by decide +kernel) (by decide +kernel) dX11_init_224 (by decide) (by decide +kernel) rfl rfl (by decide +kernel) rfl rfl ?_
  refine rx_putRF (2, 106, 0) (shA 211) dX11_init_226 flX11_85 (by decide +kernel : (shA 210)[0]? = some (0, 11, [(2, 1, 0), (2, 9, 0), (0, 0, 0), (2, 10, 0), (0, 0, 0), (2, 53, 0), (2, 66, 0), (2, 79, 0), (0, 0, 0), (2, 92, 0), (2, 97, 0), (2, 99, 0), (1, 0, 0), (1, 0, 0)])) rfl rfl (fun C T N h => by have e : (RX11, TX11, 14) = (C, T, N) := Option.some.inj h; cases e; rfl) (fun _ => rfl) (fun _ => rfl) rfl (by decide +kernel) ?_
  refine rx_aload_n dX11_init_229 rfl ?_
  refine rx_bipush (6) dX11_init_230 (by decide) ?_
  refine rx_newaI (N' := 6) 107 (shA 212) (by decide +kernel) (by decide +kernel) dX11_init_232 (by decide) (by decide +kernel) rfl rfl (by decide +kernel) rfl rfl ?_
  refine rx_putRF (2, 107, 0) (shA 213) dX11_init_234 flX11_89 (by decide +kernel : (shA 212)[0]? = some (0, 11, [(2, 1, 0), (2, 9, 0), (0, 0, 0), (2, 10, 0), (0, 0, 0), (2, 53, 0), (2, 66, 0), (2, 79, 0), (0, 0, 0), (2, 92, 0), (2, 97, 0), (2, 99, 0), (2, 106, 0), (1, 0, 0)])) rfl rfl (fun C T N h => by have e : (RX11, TX11, 14) = (C, T, N) := Option.some.inj h; cases e; rfl) (fun _ => rfl) (fun _ => rfl) rfl (by decide +kernel) ?_
  refine rx_iconst (0) dX11_init_237 (by decide) ?_
  refine rx_istore_1 rfl dX11_init_238 ?_
  refine rx_iload_n dX11_init_239 rfl ?_
  refine rx_bipush (6) dX11_init_240 (by decide) ?_
  refine rx_icmp_ge 258 dX11_init_242 (by decide) (fun h => absurd h (by decide)) (fun _ => ?_)
  refine rx_aload_n dX11_init_245 rfl ?_
  refine rx_getR dX11_init_246 flX11_85 (by decide +kernel : (shA 213)[0]? = some (0, 11, [(2, 1, 0), (2, 9, 0), (0, 0, 0), (2, 10, 0), (0, 0, 0), (2, 53, 0), (2, 66, 0), (2, 79, 0), (0, 0, 0), (2, 92, 0), (2, 97, 0), (2, 99, 0), (2, 106, 0), (2, 107, 0)])) rfl ?_
  refine rx_iload_n dX11_init_249 rfl ?_
  refine rx_iconst (-1) dX11_init_250 (by decide) ?_
  refine rx_iastore dX11_init_251 (by decide +kernel : (shA 213)[106]? = some (1, 6, [])) (vp_in_nI (n := 0) (by decide) (by decide)) ?_
  refine rx_st (S' := sA34) (by rw [show (0 : Int32).toNatClampNeg = 0 from by decide +kernel]; rfl) ?_
  refine rx_iinc_1 (1) rfl dX11_init_252 (by decide) ?_
  rw [show ((0 : Int32) + 1) = 1 from by decide]
  refine rx_goto 239 dX11_init_255 (by decide) ?_
  refine rx_iload_n dX11_init_239 rfl ?_
  refine rx_bipush (6) dX11_init_240 (by decide) ?_
  refine rx_icmp_ge 258 dX11_init_242 (by decide) (fun h => absurd h (by decide)) (fun _ => ?_)
  refine rx_aload_n dX11_init_245 rfl ?_
  refine rx_getR dX11_init_246 flX11_85 (by decide +kernel : (shA 213)[0]? = some (0, 11, [(2, 1, 0), (2, 9, 0), (0, 0, 0), (2, 10, 0), (0, 0, 0), (2, 53, 0), (2, 66, 0), (2, 79, 0), (0, 0, 0), (2, 92, 0), (2, 97, 0), (2, 99, 0), (2, 106, 0), (2, 107, 0)])) rfl ?_
  refine rx_iload_n dX11_init_249 rfl ?_
  refine rx_iconst (-1) dX11_init_250 (by decide) ?_
  refine rx_iastore dX11_init_251 (by decide +kernel : (shA 213)[106]? = some (1, 6, [])) (vp_in_nI (n := 1) (by decide) (by decide)) ?_
  refine rx_st (S' := sA35) (by rw [show (1 : Int32).toNatClampNeg = 1 from by decide +kernel]; rfl) ?_
  refine rx_iinc_1 (1) rfl dX11_init_252 (by decide) ?_
  rw [show ((1 : Int32) + 1) = 2 from by decide]
  refine rx_goto 239 dX11_init_255 (by decide) ?_
  refine rx_iload_n dX11_init_239 rfl ?_
  refine rx_bipush (6) dX11_init_240 (by decide) ?_
  refine rx_icmp_ge 258 dX11_init_242 (by decide) (fun h => absurd h (by decide)) (fun _ => ?_)
  refine rx_aload_n dX11_init_245 rfl ?_
  refine rx_getR dX11_init_246 flX11_85 (by decide +kernel : (shA 213)[0]? = some (0, 11, [(2, 1, 0), (2, 9, 0), (0, 0, 0), (2, 10, 0), (0, 0, 0), (2, 53, 0), (2, 66, 0), (2, 79, 0), (0, 0, 0), (2, 92, 0), (2, 97, 0), (2, 99, 0), (2, 106, 0), (2, 107, 0)])) rfl ?_
  refine rx_iload_n dX11_init_249 rfl ?_
  refine rx_iconst (-1) dX11_init_250 (by decide) ?_
  refine rx_iastore dX11_init_251 (by decide +kernel : (shA 213)[106]? = some (1, 6, [])) (vp_in_nI (n := 2) (by decide) (by decide)) ?_
  refine rx_st (S' := sA36) (by rw [show (2 : Int32).toNatClampNeg = 2 from by decide +kernel]; rfl) ?_
  refine rx_iinc_1 (1) rfl dX11_init_252 (by decide) ?_
  rw [show ((2 : Int32) + 1) = 3 from by decide]
  refine rx_goto 239 dX11_init_255 (by decide) ?_
  refine rx_iload_n dX11_init_239 rfl ?_
  refine rx_bipush (6) dX11_init_240 (by decide) ?_
  refine rx_icmp_ge 258 dX11_init_242 (by decide) (fun h => absurd h (by decide)) (fun _ => ?_)
  refine rx_aload_n dX11_init_245 rfl ?_
  refine rx_getR dX11_init_246 flX11_85 (by decide +kernel : (shA 213)[0]? = some (0, 11, [(2, 1, 0), (2, 9, 0), (0, 0, 0), (2, 10, 0), (0, 0, 0), (2, 53, 0), (2, 66, 0), (2, 79, 0), (0, 0, 0), (2, 92, 0), (2, 97, 0), (2, 99, 0), (2, 106, 0), (2, 107, 0)])) rfl ?_
  refine rx_iload_n dX11_init_249 rfl ?_
  refine rx_iconst (-1) dX11_init_250 (by decide) ?_
  refine rx_iastore dX11_init_251 (by decide +kernel : (shA 213)[106]? = some (1, 6, [])) (vp_in_nI (n := 3) (by decide) (by decide)) ?_
  refine rx_st (S' := sA37) (by rw [show (3 : Int32).toNatClampNeg = 3 from by decide +kernel]; rfl) ?_
  refine rx_iinc_1 (1) rfl dX11_init_252 (by decide) ?_
  rw [show ((3 : Int32) + 1) = 4 from by decide]
  refine rx_goto 239 dX11_init_255 (by decide) ?_
  refine rx_iload_n dX11_init_239 rfl ?_
  refine rx_bipush (6) dX11_init_240 (by decide) ?_
  refine rx_icmp_ge 258 dX11_init_242 (by decide) (fun h => absurd h (by decide)) (fun _ => ?_)
  refine rx_aload_n dX11_init_245 rfl ?_
  refine rx_getR dX11_init_246 flX11_85 (by decide +kernel : (shA 213)[0]? = some (0, 11, [(2, 1, 0), (2, 9, 0), (0, 0, 0), (2, 10, 0), (0, 0, 0), (2, 53, 0), (2, 66, 0), (2, 79, 0), (0, 0, 0), (2, 92, 0), (2, 97, 0), (2, 99, 0), (2, 106, 0), (2, 107, 0)])) rfl ?_
  refine rx_iload_n dX11_init_249 rfl ?_
  refine rx_iconst (-1) dX11_init_250 (by decide) ?_
  refine rx_iastore dX11_init_251 (by decide +kernel : (shA 213)[106]? = some (1, 6, [])) (vp_in_nI (n := 4) (by decide) (by decide)) ?_
  refine rx_st (S' := sA38) (by rw [show (4 : Int32).toNatClampNeg = 4 from by decide +kernel]; rfl) ?_
  refine rx_iinc_1 (1) rfl dX11_init_252 (by decide) ?_
  rw [show ((4 : Int32) + 1) = 5 from by decide]
  refine rx_goto 239 dX11_init_255 (by decide) ?_
  refine rx_iload_n dX11_init_239 rfl ?_
  refine rx_bipush (6) dX11_init_240 (by decide) ?_
  refine rx_icmp_ge 258 dX11_init_242 (by decide) (fun h => absurd h (by decide)) (fun _ => ?_)
  refine rx_aload_n dX11_init_245 rfl ?_
  refine rx_getR dX11_init_246 flX11_85 (by decide +kernel : (shA 213)[0]? = some (0, 11, [(2, 1, 0), (2, 9, 0), (0, 0, 0), (2, 10, 0), (0, 0, 0), (2, 53, 0), (2, 66, 0), (2, 79, 0), (0, 0, 0), (2, 92, 0), (2, 97, 0), (2, 99, 0), (2, 106, 0), (2, 107, 0)])) rfl ?_
  refine rx_iload_n dX11_init_249 rfl ?_
  refine rx_iconst (-1) dX11_init_250 (by decide) ?_
  refine rx_iastore dX11_init_251 (by decide +kernel : (shA 213)[106]? = some (1, 6, [])) (vp_in_nI (n := 5) (by decide) (by decide)) ?_
  refine rx_st (S' := sA39) (by rw [show (5 : Int32).toNatClampNeg = 5 from by decide +kernel]; rfl) ?_
  refine rx_iinc_1 (1) rfl dX11_init_252 (by decide) ?_
  rw [show ((5 : Int32) + 1) = 6 from by decide]
  refine rx_goto 239 dX11_init_255 (by decide) ?_
  refine rx_iload_n dX11_init_239 rfl ?_
  refine rx_bipush (6) dX11_init_240 (by decide) ?_
  refine rx_icmp_ge 258 dX11_init_242 (by decide) (fun _ => ?_) (fun h => absurd (by decide) h)
  exact rx_vret dX11_init_258 rfl ⟨Nat.le_of_ble_eq_true rfl, Nat.le_of_ble_eq_true rfl⟩ ⟨rfl, rfl, rfl, rfl⟩
theorem shA_end : shA 213 = SHC := by decide +kernel
