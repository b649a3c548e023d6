/-! ### table switches -/
theorem sw_skip {jp : Nat → Prop} {pc : Nat} {df lo o : Int} {os : List Int} {x : Int32} (h : ¬ x = Int32.ofInt lo) : ck_sw ck_pbr jp pc x df lo (o :: os) = ck_sw ck_pbr jp pc x df (lo + 1) os := propext ⟨fun q => q.2 h, fun q => ⟨fun z => absurd z h, fun _ => q⟩⟩
theorem sw_here {jp : Nat → Prop} {pc : Nat} {df lo o : Int} {os : List Int} {x : Int32} (h : x = Int32.ofInt lo) : ck_sw ck_pbr jp pc x df lo (o :: os) = jp (ck_jt pc o) := propext ⟨fun q => q.1 h, fun q => ⟨fun _ => q, fun z => absurd h z⟩⟩
theorem ts_K_node_0 {jp : Nat → Prop} : ck_sw ck_pbr jp 17 (nI 0) 101 0 [39, 65, 73, 78, 83, 88] = jp 56 := by
  exact sw_here (by decide +kernel)
theorem ts_K_node_1 {jp : Nat → Prop} : ck_sw ck_pbr jp 17 (nI 1) 101 0 [39, 65, 73, 78, 83, 88] = jp 82 := by
  rw [sw_skip (by decide +kernel)]
  exact sw_here (by decide +kernel)
theorem ts_K_node_2 {jp : Nat → Prop} : ck_sw ck_pbr jp 17 (nI 2) 101 0 [39, 65, 73, 78, 83, 88] = jp 90 := by
  rw [sw_skip (by decide +kernel)]
  rw [sw_skip (by decide +kernel)]
  exact sw_here (by decide +kernel)
theorem ts_K_node_3 {jp : Nat → Prop} : ck_sw ck_pbr jp 17 (nI 3) 101 0 [39, 65, 73, 78, 83, 88] = jp 95 := by
  rw [sw_skip (by decide +kernel)]
  rw [sw_skip (by decide +kernel)]
  rw [sw_skip (by decide +kernel)]
  exact sw_here (by decide +kernel)
theorem ts_K_node_4 {jp : Nat → Prop} : ck_sw ck_pbr jp 17 (nI 4) 101 0 [39, 65, 73, 78, 83, 88] = jp 100 := by
  rw [sw_skip (by decide +kernel)]
  rw [sw_skip (by decide +kernel)]
  rw [sw_skip (by decide +kernel)]
  rw [sw_skip (by decide +kernel)]
  exact sw_here (by decide +kernel)
theorem ts_K_node_5 {jp : Nat → Prop} : ck_sw ck_pbr jp 17 (nI 5) 101 0 [39, 65, 73, 78, 83, 88] = jp 105 := by
  rw [sw_skip (by decide +kernel)]
  rw [sw_skip (by decide +kernel)]
  rw [sw_skip (by decide +kernel)]
  rw [sw_skip (by decide +kernel)]
  rw [sw_skip (by decide +kernel)]
  exact sw_here (by decide +kernel)
theorem td_K_node {jp : Nat → Prop} {x : Int32} (h : ∀ k, 0 ≤ k → k ≤ 5 → ¬ x = nI k) : ck_sw ck_pbr jp 17 x 101 0 [39, 65, 73, 78, 83, 88] = jp 118 := by
  rw [sw_skip (by rw [show Int32.ofInt (0) = nI 0 by decide +kernel]; exact h 0 (by omega) (by omega))]
  rw [sw_skip (by rw [show Int32.ofInt (0 + 1) = nI 1 by decide +kernel]; exact h 1 (by omega) (by omega))]
  rw [sw_skip (by rw [show Int32.ofInt (0 + 1 + 1) = nI 2 by decide +kernel]; exact h 2 (by omega) (by omega))]
  rw [sw_skip (by rw [show Int32.ofInt (0 + 1 + 1 + 1) = nI 3 by decide +kernel]; exact h 3 (by omega) (by omega))]
  rw [sw_skip (by rw [show Int32.ofInt (0 + 1 + 1 + 1 + 1) = nI 4 by decide +kernel]; exact h 4 (by omega) (by omega))]
  rw [sw_skip (by rw [show Int32.ofInt (0 + 1 + 1 + 1 + 1 + 1) = nI 5 by decide +kernel]; exact h 5 (by omega) (by omega))]
  rfl
theorem ts_K_client_0 {jp : Nat → Prop} : ck_sw ck_pbr jp 17 (nI 0) 59 0 [31, 36, 49, 54] = jp 48 := by
  exact sw_here (by decide +kernel)
theorem ts_K_client_1 {jp : Nat → Prop} : ck_sw ck_pbr jp 17 (nI 1) 59 0 [31, 36, 49, 54] = jp 53 := by
  rw [sw_skip (by decide +kernel)]
  exact sw_here (by decide +kernel)
theorem ts_K_client_2 {jp : Nat → Prop} : ck_sw ck_pbr jp 17 (nI 2) 59 0 [31, 36, 49, 54] = jp 66 := by
  rw [sw_skip (by decide +kernel)]
  rw [sw_skip (by decide +kernel)]
  exact sw_here (by decide +kernel)
theorem ts_K_client_3 {jp : Nat → Prop} : ck_sw ck_pbr jp 17 (nI 3) 59 0 [31, 36, 49, 54] = jp 71 := by
  rw [sw_skip (by decide +kernel)]
  rw [sw_skip (by decide +kernel)]
  rw [sw_skip (by decide +kernel)]
  exact sw_here (by decide +kernel)
theorem td_K_client {jp : Nat → Prop} {x : Int32} (h : ∀ k, 0 ≤ k → k ≤ 3 → ¬ x = nI k) : ck_sw ck_pbr jp 17 x 59 0 [31, 36, 49, 54] = jp 76 := by
  rw [sw_skip (by rw [show Int32.ofInt (0) = nI 0 by decide +kernel]; exact h 0 (by omega) (by omega))]
  rw [sw_skip (by rw [show Int32.ofInt (0 + 1) = nI 1 by decide +kernel]; exact h 1 (by omega) (by omega))]
  rw [sw_skip (by rw [show Int32.ofInt (0 + 1 + 1) = nI 2 by decide +kernel]; exact h 2 (by omega) (by omega))]
  rw [sw_skip (by rw [show Int32.ofInt (0 + 1 + 1 + 1) = nI 3 by decide +kernel]; exact h 3 (by omega) (by omega))]
  rfl
theorem ts_G_shownNumber_3 {jp : Nat → Prop} : ck_sw ck_pbr jp 4 (nI 3) 54 3 [44, 44, 54, 54, 54, 49, 44] = jp 48 := by
  exact sw_here (by decide +kernel)
theorem ts_G_shownNumber_4 {jp : Nat → Prop} : ck_sw ck_pbr jp 4 (nI 4) 54 3 [44, 44, 54, 54, 54, 49, 44] = jp 48 := by
  rw [sw_skip (by decide +kernel)]
  exact sw_here (by decide +kernel)
theorem ts_G_shownNumber_5 {jp : Nat → Prop} : ck_sw ck_pbr jp 4 (nI 5) 54 3 [44, 44, 54, 54, 54, 49, 44] = jp 58 := by
  rw [sw_skip (by decide +kernel)]
  rw [sw_skip (by decide +kernel)]
  exact sw_here (by decide +kernel)
theorem ts_G_shownNumber_6 {jp : Nat → Prop} : ck_sw ck_pbr jp 4 (nI 6) 54 3 [44, 44, 54, 54, 54, 49, 44] = jp 58 := by
  rw [sw_skip (by decide +kernel)]
  rw [sw_skip (by decide +kernel)]
  rw [sw_skip (by decide +kernel)]
  exact sw_here (by decide +kernel)
theorem ts_G_shownNumber_7 {jp : Nat → Prop} : ck_sw ck_pbr jp 4 (nI 7) 54 3 [44, 44, 54, 54, 54, 49, 44] = jp 58 := by
  rw [sw_skip (by decide +kernel)]
  rw [sw_skip (by decide +kernel)]
  rw [sw_skip (by decide +kernel)]
  rw [sw_skip (by decide +kernel)]
  exact sw_here (by decide +kernel)
theorem ts_G_shownNumber_8 {jp : Nat → Prop} : ck_sw ck_pbr jp 4 (nI 8) 54 3 [44, 44, 54, 54, 54, 49, 44] = jp 53 := by
  rw [sw_skip (by decide +kernel)]
  rw [sw_skip (by decide +kernel)]
  rw [sw_skip (by decide +kernel)]
  rw [sw_skip (by decide +kernel)]
  rw [sw_skip (by decide +kernel)]
  exact sw_here (by decide +kernel)
theorem ts_G_shownNumber_9 {jp : Nat → Prop} : ck_sw ck_pbr jp 4 (nI 9) 54 3 [44, 44, 54, 54, 54, 49, 44] = jp 48 := by
  rw [sw_skip (by decide +kernel)]
  rw [sw_skip (by decide +kernel)]
  rw [sw_skip (by decide +kernel)]
  rw [sw_skip (by decide +kernel)]
  rw [sw_skip (by decide +kernel)]
  rw [sw_skip (by decide +kernel)]
  exact sw_here (by decide +kernel)
theorem td_G_shownNumber {jp : Nat → Prop} {x : Int32} (h : ∀ k, 3 ≤ k → k ≤ 9 → ¬ x = nI k) : ck_sw ck_pbr jp 4 x 54 3 [44, 44, 54, 54, 54, 49, 44] = jp 58 := by
  rw [sw_skip (by rw [show Int32.ofInt (3) = nI 3 by decide +kernel]; exact h 3 (by omega) (by omega))]
  rw [sw_skip (by rw [show Int32.ofInt (3 + 1) = nI 4 by decide +kernel]; exact h 4 (by omega) (by omega))]
  rw [sw_skip (by rw [show Int32.ofInt (3 + 1 + 1) = nI 5 by decide +kernel]; exact h 5 (by omega) (by omega))]
  rw [sw_skip (by rw [show Int32.ofInt (3 + 1 + 1 + 1) = nI 6 by decide +kernel]; exact h 6 (by omega) (by omega))]
  rw [sw_skip (by rw [show Int32.ofInt (3 + 1 + 1 + 1 + 1) = nI 7 by decide +kernel]; exact h 7 (by omega) (by omega))]
  rw [sw_skip (by rw [show Int32.ofInt (3 + 1 + 1 + 1 + 1 + 1) = nI 8 by decide +kernel]; exact h 8 (by omega) (by omega))]
  rw [sw_skip (by rw [show Int32.ofInt (3 + 1 + 1 + 1 + 1 + 1 + 1) = nI 9 by decide +kernel]; exact h 9 (by omega) (by omega))]
  rfl
theorem ts_N_take_1 {jp : Nat → Prop} : ck_sw ck_pbr jp 20 (nI 1) 124 1 [52, 61, 70, 79, 88, 97, 124, 106, 115] = jp 72 := by
  exact sw_here (by decide +kernel)
theorem ts_N_take_2 {jp : Nat → Prop} : ck_sw ck_pbr jp 20 (nI 2) 124 1 [52, 61, 70, 79, 88, 97, 124, 106, 115] = jp 81 := by
  rw [sw_skip (by decide +kernel)]
  exact sw_here (by decide +kernel)
theorem ts_N_take_3 {jp : Nat → Prop} : ck_sw ck_pbr jp 20 (nI 3) 124 1 [52, 61, 70, 79, 88, 97, 124, 106, 115] = jp 90 := by
  rw [sw_skip (by decide +kernel)]
  rw [sw_skip (by decide +kernel)]
  exact sw_here (by decide +kernel)
theorem ts_N_take_4 {jp : Nat → Prop} : ck_sw ck_pbr jp 20 (nI 4) 124 1 [52, 61, 70, 79, 88, 97, 124, 106, 115] = jp 99 := by
  rw [sw_skip (by decide +kernel)]
  rw [sw_skip (by decide +kernel)]
  rw [sw_skip (by decide +kernel)]
  exact sw_here (by decide +kernel)
theorem ts_N_take_5 {jp : Nat → Prop} : ck_sw ck_pbr jp 20 (nI 5) 124 1 [52, 61, 70, 79, 88, 97, 124, 106, 115] = jp 108 := by
  rw [sw_skip (by decide +kernel)]
  rw [sw_skip (by decide +kernel)]
  rw [sw_skip (by decide +kernel)]
  rw [sw_skip (by decide +kernel)]
  exact sw_here (by decide +kernel)
theorem ts_N_take_6 {jp : Nat → Prop} : ck_sw ck_pbr jp 20 (nI 6) 124 1 [52, 61, 70, 79, 88, 97, 124, 106, 115] = jp 117 := by
  rw [sw_skip (by decide +kernel)]
  rw [sw_skip (by decide +kernel)]
  rw [sw_skip (by decide +kernel)]
  rw [sw_skip (by decide +kernel)]
  rw [sw_skip (by decide +kernel)]
  exact sw_here (by decide +kernel)
theorem ts_N_take_7 {jp : Nat → Prop} : ck_sw ck_pbr jp 20 (nI 7) 124 1 [52, 61, 70, 79, 88, 97, 124, 106, 115] = jp 144 := by
  rw [sw_skip (by decide +kernel)]
  rw [sw_skip (by decide +kernel)]
  rw [sw_skip (by decide +kernel)]
  rw [sw_skip (by decide +kernel)]
  rw [sw_skip (by decide +kernel)]
  rw [sw_skip (by decide +kernel)]
  exact sw_here (by decide +kernel)
theorem ts_N_take_8 {jp : Nat → Prop} : ck_sw ck_pbr jp 20 (nI 8) 124 1 [52, 61, 70, 79, 88, 97, 124, 106, 115] = jp 126 := by
  rw [sw_skip (by decide +kernel)]
  rw [sw_skip (by decide +kernel)]
  rw [sw_skip (by decide +kernel)]
  rw [sw_skip (by decide +kernel)]
  rw [sw_skip (by decide +kernel)]
  rw [sw_skip (by decide +kernel)]
  rw [sw_skip (by decide +kernel)]
  exact sw_here (by decide +kernel)
theorem ts_N_take_9 {jp : Nat → Prop} : ck_sw ck_pbr jp 20 (nI 9) 124 1 [52, 61, 70, 79, 88, 97, 124, 106, 115] = jp 135 := by
  rw [sw_skip (by decide +kernel)]
  rw [sw_skip (by decide +kernel)]
  rw [sw_skip (by decide +kernel)]
  rw [sw_skip (by decide +kernel)]
  rw [sw_skip (by decide +kernel)]
  rw [sw_skip (by decide +kernel)]
  rw [sw_skip (by decide +kernel)]
  rw [sw_skip (by decide +kernel)]
  exact sw_here (by decide +kernel)
theorem td_N_take {jp : Nat → Prop} {x : Int32} (h : ∀ k, 1 ≤ k → k ≤ 9 → ¬ x = nI k) : ck_sw ck_pbr jp 20 x 124 1 [52, 61, 70, 79, 88, 97, 124, 106, 115] = jp 144 := by
  rw [sw_skip (by rw [show Int32.ofInt (1) = nI 1 by decide +kernel]; exact h 1 (by omega) (by omega))]
  rw [sw_skip (by rw [show Int32.ofInt (1 + 1) = nI 2 by decide +kernel]; exact h 2 (by omega) (by omega))]
  rw [sw_skip (by rw [show Int32.ofInt (1 + 1 + 1) = nI 3 by decide +kernel]; exact h 3 (by omega) (by omega))]
  rw [sw_skip (by rw [show Int32.ofInt (1 + 1 + 1 + 1) = nI 4 by decide +kernel]; exact h 4 (by omega) (by omega))]
  rw [sw_skip (by rw [show Int32.ofInt (1 + 1 + 1 + 1 + 1) = nI 5 by decide +kernel]; exact h 5 (by omega) (by omega))]
  rw [sw_skip (by rw [show Int32.ofInt (1 + 1 + 1 + 1 + 1 + 1) = nI 6 by decide +kernel]; exact h 6 (by omega) (by omega))]
  rw [sw_skip (by rw [show Int32.ofInt (1 + 1 + 1 + 1 + 1 + 1 + 1) = nI 7 by decide +kernel]; exact h 7 (by omega) (by omega))]
  rw [sw_skip (by rw [show Int32.ofInt (1 + 1 + 1 + 1 + 1 + 1 + 1 + 1) = nI 8 by decide +kernel]; exact h 8 (by omega) (by omega))]
  rw [sw_skip (by rw [show Int32.ofInt (1 + 1 + 1 + 1 + 1 + 1 + 1 + 1 + 1) = nI 9 by decide +kernel]; exact h 9 (by omega) (by omega))]
  rfl
theorem ts_N_accepts_1 {jp : Nat → Prop} : ck_sw ck_pbr jp 4 (nI 1) 79 1 [54, 54, 79, 79, 79, 79, 79, 52, 59] = jp 58 := by
  exact sw_here (by decide +kernel)
theorem ts_N_accepts_2 {jp : Nat → Prop} : ck_sw ck_pbr jp 4 (nI 2) 79 1 [54, 54, 79, 79, 79, 79, 79, 52, 59] = jp 58 := by
  rw [sw_skip (by decide +kernel)]
  exact sw_here (by decide +kernel)
theorem ts_N_accepts_3 {jp : Nat → Prop} : ck_sw ck_pbr jp 4 (nI 3) 79 1 [54, 54, 79, 79, 79, 79, 79, 52, 59] = jp 83 := by
  rw [sw_skip (by decide +kernel)]
  rw [sw_skip (by decide +kernel)]
  exact sw_here (by decide +kernel)
theorem ts_N_accepts_4 {jp : Nat → Prop} : ck_sw ck_pbr jp 4 (nI 4) 79 1 [54, 54, 79, 79, 79, 79, 79, 52, 59] = jp 83 := by
  rw [sw_skip (by decide +kernel)]
  rw [sw_skip (by decide +kernel)]
  rw [sw_skip (by decide +kernel)]
  exact sw_here (by decide +kernel)
theorem ts_N_accepts_5 {jp : Nat → Prop} : ck_sw ck_pbr jp 4 (nI 5) 79 1 [54, 54, 79, 79, 79, 79, 79, 52, 59] = jp 83 := by
  rw [sw_skip (by decide +kernel)]
  rw [sw_skip (by decide +kernel)]
  rw [sw_skip (by decide +kernel)]
  rw [sw_skip (by decide +kernel)]
  exact sw_here (by decide +kernel)
theorem ts_N_accepts_6 {jp : Nat → Prop} : ck_sw ck_pbr jp 4 (nI 6) 79 1 [54, 54, 79, 79, 79, 79, 79, 52, 59] = jp 83 := by
  rw [sw_skip (by decide +kernel)]
  rw [sw_skip (by decide +kernel)]
  rw [sw_skip (by decide +kernel)]
  rw [sw_skip (by decide +kernel)]
  rw [sw_skip (by decide +kernel)]
  exact sw_here (by decide +kernel)
theorem ts_N_accepts_7 {jp : Nat → Prop} : ck_sw ck_pbr jp 4 (nI 7) 79 1 [54, 54, 79, 79, 79, 79, 79, 52, 59] = jp 83 := by
  rw [sw_skip (by decide +kernel)]
  rw [sw_skip (by decide +kernel)]
  rw [sw_skip (by decide +kernel)]
  rw [sw_skip (by decide +kernel)]
  rw [sw_skip (by decide +kernel)]
  rw [sw_skip (by decide +kernel)]
  exact sw_here (by decide +kernel)
theorem ts_N_accepts_8 {jp : Nat → Prop} : ck_sw ck_pbr jp 4 (nI 8) 79 1 [54, 54, 79, 79, 79, 79, 79, 52, 59] = jp 56 := by
  rw [sw_skip (by decide +kernel)]
  rw [sw_skip (by decide +kernel)]
  rw [sw_skip (by decide +kernel)]
  rw [sw_skip (by decide +kernel)]
  rw [sw_skip (by decide +kernel)]
  rw [sw_skip (by decide +kernel)]
  rw [sw_skip (by decide +kernel)]
  exact sw_here (by decide +kernel)
theorem ts_N_accepts_9 {jp : Nat → Prop} : ck_sw ck_pbr jp 4 (nI 9) 79 1 [54, 54, 79, 79, 79, 79, 79, 52, 59] = jp 63 := by
  rw [sw_skip (by decide +kernel)]
  rw [sw_skip (by decide +kernel)]
  rw [sw_skip (by decide +kernel)]
  rw [sw_skip (by decide +kernel)]
  rw [sw_skip (by decide +kernel)]
  rw [sw_skip (by decide +kernel)]
  rw [sw_skip (by decide +kernel)]
  rw [sw_skip (by decide +kernel)]
  exact sw_here (by decide +kernel)
theorem td_N_accepts {jp : Nat → Prop} {x : Int32} (h : ∀ k, 1 ≤ k → k ≤ 9 → ¬ x = nI k) : ck_sw ck_pbr jp 4 x 79 1 [54, 54, 79, 79, 79, 79, 79, 52, 59] = jp 83 := by
  rw [sw_skip (by rw [show Int32.ofInt (1) = nI 1 by decide +kernel]; exact h 1 (by omega) (by omega))]
  rw [sw_skip (by rw [show Int32.ofInt (1 + 1) = nI 2 by decide +kernel]; exact h 2 (by omega) (by omega))]
  rw [sw_skip (by rw [show Int32.ofInt (1 + 1 + 1) = nI 3 by decide +kernel]; exact h 3 (by omega) (by omega))]
  rw [sw_skip (by rw [show Int32.ofInt (1 + 1 + 1 + 1) = nI 4 by decide +kernel]; exact h 4 (by omega) (by omega))]
  rw [sw_skip (by rw [show Int32.ofInt (1 + 1 + 1 + 1 + 1) = nI 5 by decide +kernel]; exact h 5 (by omega) (by omega))]
  rw [sw_skip (by rw [show Int32.ofInt (1 + 1 + 1 + 1 + 1 + 1) = nI 6 by decide +kernel]; exact h 6 (by omega) (by omega))]
  rw [sw_skip (by rw [show Int32.ofInt (1 + 1 + 1 + 1 + 1 + 1 + 1) = nI 7 by decide +kernel]; exact h 7 (by omega) (by omega))]
  rw [sw_skip (by rw [show Int32.ofInt (1 + 1 + 1 + 1 + 1 + 1 + 1 + 1) = nI 8 by decide +kernel]; exact h 8 (by omega) (by omega))]
  rw [sw_skip (by rw [show Int32.ofInt (1 + 1 + 1 + 1 + 1 + 1 + 1 + 1 + 1) = nI 9 by decide +kernel]; exact h 9 (by omega) (by omega))]
  rfl
theorem ts_L_law_0 {jp : Nat → Prop} : ck_sw ck_pbr jp 52 (nI 0) 518 0 [80, 123, 166, 189, 212, 235, 258, 281, 304, 327, 340, 363, 386, 419, 452, 485] = jp 132 := by
  exact sw_here (by decide +kernel)
theorem ts_L_law_1 {jp : Nat → Prop} : ck_sw ck_pbr jp 52 (nI 1) 518 0 [80, 123, 166, 189, 212, 235, 258, 281, 304, 327, 340, 363, 386, 419, 452, 485] = jp 175 := by
  rw [sw_skip (by decide +kernel)]
  exact sw_here (by decide +kernel)
theorem ts_L_law_2 {jp : Nat → Prop} : ck_sw ck_pbr jp 52 (nI 2) 518 0 [80, 123, 166, 189, 212, 235, 258, 281, 304, 327, 340, 363, 386, 419, 452, 485] = jp 218 := by
  rw [sw_skip (by decide +kernel)]
  rw [sw_skip (by decide +kernel)]
  exact sw_here (by decide +kernel)
theorem ts_L_law_3 {jp : Nat → Prop} : ck_sw ck_pbr jp 52 (nI 3) 518 0 [80, 123, 166, 189, 212, 235, 258, 281, 304, 327, 340, 363, 386, 419, 452, 485] = jp 241 := by
  rw [sw_skip (by decide +kernel)]
  rw [sw_skip (by decide +kernel)]
  rw [sw_skip (by decide +kernel)]
  exact sw_here (by decide +kernel)
theorem ts_L_law_4 {jp : Nat → Prop} : ck_sw ck_pbr jp 52 (nI 4) 518 0 [80, 123, 166, 189, 212, 235, 258, 281, 304, 327, 340, 363, 386, 419, 452, 485] = jp 264 := by
  rw [sw_skip (by decide +kernel)]
  rw [sw_skip (by decide +kernel)]
  rw [sw_skip (by decide +kernel)]
  rw [sw_skip (by decide +kernel)]
  exact sw_here (by decide +kernel)
theorem ts_L_law_5 {jp : Nat → Prop} : ck_sw ck_pbr jp 52 (nI 5) 518 0 [80, 123, 166, 189, 212, 235, 258, 281, 304, 327, 340, 363, 386, 419, 452, 485] = jp 287 := by
  rw [sw_skip (by decide +kernel)]
  rw [sw_skip (by decide +kernel)]
  rw [sw_skip (by decide +kernel)]
  rw [sw_skip (by decide +kernel)]
  rw [sw_skip (by decide +kernel)]
  exact sw_here (by decide +kernel)
theorem ts_L_law_6 {jp : Nat → Prop} : ck_sw ck_pbr jp 52 (nI 6) 518 0 [80, 123, 166, 189, 212, 235, 258, 281, 304, 327, 340, 363, 386, 419, 452, 485] = jp 310 := by
  rw [sw_skip (by decide +kernel)]
  rw [sw_skip (by decide +kernel)]
  rw [sw_skip (by decide +kernel)]
  rw [sw_skip (by decide +kernel)]
  rw [sw_skip (by decide +kernel)]
  rw [sw_skip (by decide +kernel)]
  exact sw_here (by decide +kernel)
theorem ts_L_law_7 {jp : Nat → Prop} : ck_sw ck_pbr jp 52 (nI 7) 518 0 [80, 123, 166, 189, 212, 235, 258, 281, 304, 327, 340, 363, 386, 419, 452, 485] = jp 333 := by
  rw [sw_skip (by decide +kernel)]
  rw [sw_skip (by decide +kernel)]
  rw [sw_skip (by decide +kernel)]
  rw [sw_skip (by decide +kernel)]
  rw [sw_skip (by decide +kernel)]
  rw [sw_skip (by decide +kernel)]
  rw [sw_skip (by decide +kernel)]
  exact sw_here (by decide +kernel)
theorem ts_L_law_8 {jp : Nat → Prop} : ck_sw ck_pbr jp 52 (nI 8) 518 0 [80, 123, 166, 189, 212, 235, 258, 281, 304, 327, 340, 363, 386, 419, 452, 485] = jp 356 := by
  rw [sw_skip (by decide +kernel)]
  rw [sw_skip (by decide +kernel)]
  rw [sw_skip (by decide +kernel)]
  rw [sw_skip (by decide +kernel)]
  rw [sw_skip (by decide +kernel)]
  rw [sw_skip (by decide +kernel)]
  rw [sw_skip (by decide +kernel)]
  rw [sw_skip (by decide +kernel)]
  exact sw_here (by decide +kernel)
theorem ts_L_law_9 {jp : Nat → Prop} : ck_sw ck_pbr jp 52 (nI 9) 518 0 [80, 123, 166, 189, 212, 235, 258, 281, 304, 327, 340, 363, 386, 419, 452, 485] = jp 379 := by
  rw [sw_skip (by decide +kernel)]
  rw [sw_skip (by decide +kernel)]
  rw [sw_skip (by decide +kernel)]
  rw [sw_skip (by decide +kernel)]
  rw [sw_skip (by decide +kernel)]
  rw [sw_skip (by decide +kernel)]
  rw [sw_skip (by decide +kernel)]
  rw [sw_skip (by decide +kernel)]
  rw [sw_skip (by decide +kernel)]
  exact sw_here (by decide +kernel)
theorem ts_L_law_10 {jp : Nat → Prop} : ck_sw ck_pbr jp 52 (nI 10) 518 0 [80, 123, 166, 189, 212, 235, 258, 281, 304, 327, 340, 363, 386, 419, 452, 485] = jp 392 := by
  rw [sw_skip (by decide +kernel)]
  rw [sw_skip (by decide +kernel)]
  rw [sw_skip (by decide +kernel)]
  rw [sw_skip (by decide +kernel)]
  rw [sw_skip (by decide +kernel)]
  rw [sw_skip (by decide +kernel)]
  rw [sw_skip (by decide +kernel)]
  rw [sw_skip (by decide +kernel)]
  rw [sw_skip (by decide +kernel)]
  rw [sw_skip (by decide +kernel)]
  exact sw_here (by decide +kernel)
theorem ts_L_law_11 {jp : Nat → Prop} : ck_sw ck_pbr jp 52 (nI 11) 518 0 [80, 123, 166, 189, 212, 235, 258, 281, 304, 327, 340, 363, 386, 419, 452, 485] = jp 415 := by
  rw [sw_skip (by decide +kernel)]
  rw [sw_skip (by decide +kernel)]
  rw [sw_skip (by decide +kernel)]
  rw [sw_skip (by decide +kernel)]
  rw [sw_skip (by decide +kernel)]
  rw [sw_skip (by decide +kernel)]
  rw [sw_skip (by decide +kernel)]
  rw [sw_skip (by decide +kernel)]
  rw [sw_skip (by decide +kernel)]
  rw [sw_skip (by decide +kernel)]
  rw [sw_skip (by decide +kernel)]
  exact sw_here (by decide +kernel)
theorem ts_L_law_12 {jp : Nat → Prop} : ck_sw ck_pbr jp 52 (nI 12) 518 0 [80, 123, 166, 189, 212, 235, 258, 281, 304, 327, 340, 363, 386, 419, 452, 485] = jp 438 := by
  rw [sw_skip (by decide +kernel)]
  rw [sw_skip (by decide +kernel)]
  rw [sw_skip (by decide +kernel)]
  rw [sw_skip (by decide +kernel)]
  rw [sw_skip (by decide +kernel)]
  rw [sw_skip (by decide +kernel)]
  rw [sw_skip (by decide +kernel)]
  rw [sw_skip (by decide +kernel)]
  rw [sw_skip (by decide +kernel)]
  rw [sw_skip (by decide +kernel)]
  rw [sw_skip (by decide +kernel)]
  rw [sw_skip (by decide +kernel)]
  exact sw_here (by decide +kernel)
theorem ts_L_law_13 {jp : Nat → Prop} : ck_sw ck_pbr jp 52 (nI 13) 518 0 [80, 123, 166, 189, 212, 235, 258, 281, 304, 327, 340, 363, 386, 419, 452, 485] = jp 471 := by
  rw [sw_skip (by decide +kernel)]
  rw [sw_skip (by decide +kernel)]
  rw [sw_skip (by decide +kernel)]
  rw [sw_skip (by decide +kernel)]
  rw [sw_skip (by decide +kernel)]
  rw [sw_skip (by decide +kernel)]
  rw [sw_skip (by decide +kernel)]
  rw [sw_skip (by decide +kernel)]
  rw [sw_skip (by decide +kernel)]
  rw [sw_skip (by decide +kernel)]
  rw [sw_skip (by decide +kernel)]
  rw [sw_skip (by decide +kernel)]
  rw [sw_skip (by decide +kernel)]
  exact sw_here (by decide +kernel)
theorem ts_L_law_14 {jp : Nat → Prop} : ck_sw ck_pbr jp 52 (nI 14) 518 0 [80, 123, 166, 189, 212, 235, 258, 281, 304, 327, 340, 363, 386, 419, 452, 485] = jp 504 := by
  rw [sw_skip (by decide +kernel)]
  rw [sw_skip (by decide +kernel)]
  rw [sw_skip (by decide +kernel)]
  rw [sw_skip (by decide +kernel)]
  rw [sw_skip (by decide +kernel)]
  rw [sw_skip (by decide +kernel)]
  rw [sw_skip (by decide +kernel)]
  rw [sw_skip (by decide +kernel)]
  rw [sw_skip (by decide +kernel)]
  rw [sw_skip (by decide +kernel)]
  rw [sw_skip (by decide +kernel)]
  rw [sw_skip (by decide +kernel)]
  rw [sw_skip (by decide +kernel)]
  rw [sw_skip (by decide +kernel)]
  exact sw_here (by decide +kernel)
theorem ts_L_law_15 {jp : Nat → Prop} : ck_sw ck_pbr jp 52 (nI 15) 518 0 [80, 123, 166, 189, 212, 235, 258, 281, 304, 327, 340, 363, 386, 419, 452, 485] = jp 537 := by
  rw [sw_skip (by decide +kernel)]
  rw [sw_skip (by decide +kernel)]
  rw [sw_skip (by decide +kernel)]
  rw [sw_skip (by decide +kernel)]
  rw [sw_skip (by decide +kernel)]
  rw [sw_skip (by decide +kernel)]
  rw [sw_skip (by decide +kernel)]
  rw [sw_skip (by decide +kernel)]
  rw [sw_skip (by decide +kernel)]
  rw [sw_skip (by decide +kernel)]
  rw [sw_skip (by decide +kernel)]
  rw [sw_skip (by decide +kernel)]
  rw [sw_skip (by decide +kernel)]
  rw [sw_skip (by decide +kernel)]
  rw [sw_skip (by decide +kernel)]
  exact sw_here (by decide +kernel)
theorem td_L_law {jp : Nat → Prop} {x : Int32} (h : ∀ k, 0 ≤ k → k ≤ 15 → ¬ x = nI k) : ck_sw ck_pbr jp 52 x 518 0 [80, 123, 166, 189, 212, 235, 258, 281, 304, 327, 340, 363, 386, 419, 452, 485] = jp 570 := by
  rw [sw_skip (by rw [show Int32.ofInt (0) = nI 0 by decide +kernel]; exact h 0 (by omega) (by omega))]
  rw [sw_skip (by rw [show Int32.ofInt (0 + 1) = nI 1 by decide +kernel]; exact h 1 (by omega) (by omega))]
  rw [sw_skip (by rw [show Int32.ofInt (0 + 1 + 1) = nI 2 by decide +kernel]; exact h 2 (by omega) (by omega))]
  rw [sw_skip (by rw [show Int32.ofInt (0 + 1 + 1 + 1) = nI 3 by decide +kernel]; exact h 3 (by omega) (by omega))]
  rw [sw_skip (by rw [show Int32.ofInt (0 + 1 + 1 + 1 + 1) = nI 4 by decide +kernel]; exact h 4 (by omega) (by omega))]
  rw [sw_skip (by rw [show Int32.ofInt (0 + 1 + 1 + 1 + 1 + 1) = nI 5 by decide +kernel]; exact h 5 (by omega) (by omega))]
  rw [sw_skip (by rw [show Int32.ofInt (0 + 1 + 1 + 1 + 1 + 1 + 1) = nI 6 by decide +kernel]; exact h 6 (by omega) (by omega))]
  rw [sw_skip (by rw [show Int32.ofInt (0 + 1 + 1 + 1 + 1 + 1 + 1 + 1) = nI 7 by decide +kernel]; exact h 7 (by omega) (by omega))]
  rw [sw_skip (by rw [show Int32.ofInt (0 + 1 + 1 + 1 + 1 + 1 + 1 + 1 + 1) = nI 8 by decide +kernel]; exact h 8 (by omega) (by omega))]
  rw [sw_skip (by rw [show Int32.ofInt (0 + 1 + 1 + 1 + 1 + 1 + 1 + 1 + 1 + 1) = nI 9 by decide +kernel]; exact h 9 (by omega) (by omega))]
  rw [sw_skip (by rw [show Int32.ofInt (0 + 1 + 1 + 1 + 1 + 1 + 1 + 1 + 1 + 1 + 1) = nI 10 by decide +kernel]; exact h 10 (by omega) (by omega))]
  rw [sw_skip (by rw [show Int32.ofInt (0 + 1 + 1 + 1 + 1 + 1 + 1 + 1 + 1 + 1 + 1 + 1) = nI 11 by decide +kernel]; exact h 11 (by omega) (by omega))]
  rw [sw_skip (by rw [show Int32.ofInt (0 + 1 + 1 + 1 + 1 + 1 + 1 + 1 + 1 + 1 + 1 + 1 + 1) = nI 12 by decide +kernel]; exact h 12 (by omega) (by omega))]
  rw [sw_skip (by rw [show Int32.ofInt (0 + 1 + 1 + 1 + 1 + 1 + 1 + 1 + 1 + 1 + 1 + 1 + 1 + 1) = nI 13 by decide +kernel]; exact h 13 (by omega) (by omega))]
  rw [sw_skip (by rw [show Int32.ofInt (0 + 1 + 1 + 1 + 1 + 1 + 1 + 1 + 1 + 1 + 1 + 1 + 1 + 1 + 1) = nI 14 by decide +kernel]; exact h 14 (by omega) (by omega))]
  rw [sw_skip (by rw [show Int32.ofInt (0 + 1 + 1 + 1 + 1 + 1 + 1 + 1 + 1 + 1 + 1 + 1 + 1 + 1 + 1 + 1) = nI 15 by decide +kernel]; exact h 15 (by omega) (by omega))]
  rfl
