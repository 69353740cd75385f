theorem zt1 {w : Cond} (h : w ∈ tables_1_1) : w ∈ tables_1 := List.mem_append_left _ h
theorem zt2 {w : Cond} (h : w ∈ tables_1_2) : w ∈ tables_1 := List.mem_append_right _ (List.mem_append_left _ h)
theorem zt3 {w : Cond} (h : w ∈ tables_1_3) : w ∈ tables_1 := List.mem_append_right _ (List.mem_append_right _ (List.mem_append_left _ h))
theorem zt4 {w : Cond} (h : w ∈ tables_1_4) : w ∈ tables_1 := List.mem_append_right _ (List.mem_append_right _ (List.mem_append_right _ h))
/-! the fields by their links: own class, place, of a nest mate, class, slot -/
def zcn : Nat → String := fun k => match k with
  | 0 => RX0
  | 1 => RX1
  | 2 => RX2
  | 3 => RX3
  | 4 => RX4
  | 5 => RX5
  | 6 => RX6
  | 7 => RJ6
  | 8 => RJ7
  | _ => RL
def zflOk (q : Nat × Nat × Bool × Nat × Nat) : Prop := match zcls[q.2.2.2.1]? with
  | some (C, T, N) => q.2.2.2.2 < N ∧ (T q.2.2.2.2).1 = C ∧ (if q.2.2.1 then (zcn q.1, q.2.1, C, (T q.2.2.2.2).2.1, (T q.2.2.2.2).2.2.1, "ShireWays") ∈ znestF else Cond.fieldLink (zcn q.1) q.2.1 C (T q.2.2.2.2).2.1 (T q.2.2.2.2).2.2.1 ∈ zall)
  | none => False
theorem zfl_0_9 : zflOk (0, 9, false, 0, 0) := ⟨by decide, rfl, zall_in (zt1 (List.mem_of_getElem? (i := 24) rfl)) rfl⟩
theorem zfl_0_15 : zflOk (0, 15, false, 0, 1) := ⟨by decide, rfl, zall_in (zt1 (List.mem_of_getElem? (i := 25) rfl)) rfl⟩
theorem zfl_0_18 : zflOk (0, 18, false, 0, 2) := ⟨by decide, rfl, zall_in (zt1 (List.mem_of_getElem? (i := 26) rfl)) rfl⟩
theorem zfl_0_22 : zflOk (0, 22, false, 0, 3) := ⟨by decide, rfl, zall_in (zt1 (List.mem_of_getElem? (i := 28) rfl)) rfl⟩
theorem zfl_0_25 : zflOk (0, 25, false, 0, 4) := ⟨by decide, rfl, zall_in (zt1 (List.mem_of_getElem? (i := 29) rfl)) rfl⟩
theorem zfl_1_9 : zflOk (1, 9, false, 1, 3) := ⟨by decide, rfl, zall_in (zt1 (List.mem_of_getElem? (i := 150) rfl)) rfl⟩
theorem zfl_1_15 : zflOk (1, 15, false, 1, 4) := ⟨by decide, rfl, zall_in (zt1 (List.mem_of_getElem? (i := 151) rfl)) rfl⟩
theorem zfl_1_19 : zflOk (1, 19, false, 1, 5) := ⟨by decide, rfl, zall_in (zt1 (List.mem_of_getElem? (i := 152) rfl)) rfl⟩
theorem zfl_1_22 : zflOk (1, 22, false, 1, 6) := ⟨by decide, rfl, zall_in (zt1 (List.mem_of_getElem? (i := 153) rfl)) rfl⟩
theorem zfl_1_25 : zflOk (1, 25, false, 1, 7) := ⟨by decide, rfl, zall_in (zt1 (List.mem_of_getElem? (i := 154) rfl)) rfl⟩
theorem zfl_1_28 : zflOk (1, 28, false, 1, 8) := ⟨by decide, rfl, zall_in (zt1 (List.mem_of_getElem? (i := 155) rfl)) rfl⟩
theorem zfl_1_31 : zflOk (1, 31, false, 1, 0) := ⟨by decide, rfl, zall_in (zt1 (List.mem_of_getElem? (i := 147) rfl)) rfl⟩
theorem zfl_1_35 : zflOk (1, 35, false, 1, 1) := ⟨by decide, rfl, zall_in (zt1 (List.mem_of_getElem? (i := 148) rfl)) rfl⟩
theorem zfl_1_44 : zflOk (1, 44, false, 1, 2) := ⟨by decide, rfl, zall_in (zt1 (List.mem_of_getElem? (i := 149) rfl)) rfl⟩
theorem zfl_2_9 : zflOk (2, 9, false, 2, 0) := ⟨by decide, rfl, zall_in (zt1 (List.mem_of_getElem? (i := 122) rfl)) rfl⟩
theorem zfl_2_15 : zflOk (2, 15, false, 2, 1) := ⟨by decide, rfl, zall_in (zt1 (List.mem_of_getElem? (i := 123) rfl)) rfl⟩
theorem zfl_2_18 : zflOk (2, 18, false, 2, 2) := ⟨by decide, rfl, zall_in (zt1 (List.mem_of_getElem? (i := 124) rfl)) rfl⟩
theorem zfl_2_21 : zflOk (2, 21, false, 2, 3) := ⟨by decide, rfl, zall_in (zt1 (List.mem_of_getElem? (i := 125) rfl)) rfl⟩
theorem zfl_2_24 : zflOk (2, 24, false, 2, 4) := ⟨by decide, rfl, zall_in (zt1 (List.mem_of_getElem? (i := 126) rfl)) rfl⟩
theorem zfl_3_12 : zflOk (3, 12, false, 3, 1) := ⟨by decide, rfl, zall_in (zt1 (List.mem_of_getElem? (i := 81) rfl)) rfl⟩
theorem zfl_3_18 : zflOk (3, 18, false, 3, 2) := ⟨by decide, rfl, zall_in (zt1 (List.mem_of_getElem? (i := 83) rfl)) rfl⟩
theorem zfl_3_22 : zflOk (3, 22, false, 3, 3) := ⟨by decide, rfl, zall_in (zt1 (List.mem_of_getElem? (i := 84) rfl)) rfl⟩
theorem zfl_3_25 : zflOk (3, 25, false, 3, 4) := ⟨by decide, rfl, zall_in (zt1 (List.mem_of_getElem? (i := 85) rfl)) rfl⟩
theorem zfl_3_28 : zflOk (3, 28, false, 3, 5) := ⟨by decide, rfl, zall_in (zt1 (List.mem_of_getElem? (i := 86) rfl)) rfl⟩
theorem zfl_3_32 : zflOk (3, 32, false, 3, 6) := ⟨by decide, rfl, zall_in (zt1 (List.mem_of_getElem? (i := 87) rfl)) rfl⟩
theorem zfl_3_35 : zflOk (3, 35, false, 3, 7) := ⟨by decide, rfl, zall_in (zt1 (List.mem_of_getElem? (i := 89) rfl)) rfl⟩
theorem zfl_3_38 : zflOk (3, 38, false, 3, 8) := ⟨by decide, rfl, zall_in (zt1 (List.mem_of_getElem? (i := 90) rfl)) rfl⟩
theorem zfl_3_41 : zflOk (3, 41, false, 3, 9) := ⟨by decide, rfl, zall_in (zt1 (List.mem_of_getElem? (i := 91) rfl)) rfl⟩
theorem zfl_3_44 : zflOk (3, 44, false, 3, 10) := ⟨by decide, rfl, zall_in (zt1 (List.mem_of_getElem? (i := 92) rfl)) rfl⟩
theorem zfl_3_47 : zflOk (3, 47, false, 3, 0) := ⟨by decide, rfl, zall_in (zt1 (List.mem_of_getElem? (i := 80) rfl)) rfl⟩
theorem zfl_4_9 : zflOk (4, 9, false, 4, 0) := ⟨by decide, rfl, zall_in (zt1 (List.mem_of_getElem? (i := 55) rfl)) rfl⟩
theorem zfl_4_15 : zflOk (4, 15, false, 4, 1) := ⟨by decide, rfl, zall_in (zt1 (List.mem_of_getElem? (i := 56) rfl)) rfl⟩
theorem zfl_4_18 : zflOk (4, 18, false, 4, 2) := ⟨by decide, rfl, zall_in (zt1 (List.mem_of_getElem? (i := 57) rfl)) rfl⟩
theorem zfl_4_21 : zflOk (4, 21, false, 4, 3) := ⟨by decide, rfl, zall_in (zt1 (List.mem_of_getElem? (i := 58) rfl)) rfl⟩
theorem zfl_4_24 : zflOk (4, 24, false, 4, 4) := ⟨by decide, rfl, zall_in (zt1 (List.mem_of_getElem? (i := 59) rfl)) rfl⟩
theorem zfl_4_27 : zflOk (4, 27, false, 4, 5) := ⟨by decide, rfl, zall_in (zt1 (List.mem_of_getElem? (i := 60) rfl)) rfl⟩
theorem zfl_4_31 : zflOk (4, 31, false, 4, 6) := ⟨by decide, rfl, zall_in (zt1 (List.mem_of_getElem? (i := 61) rfl)) rfl⟩
theorem zfl_4_34 : zflOk (4, 34, false, 4, 7) := ⟨by decide, rfl, zall_in (zt1 (List.mem_of_getElem? (i := 62) rfl)) rfl⟩
theorem zfl_5_15 : zflOk (5, 15, false, 5, 0) := ⟨by decide, rfl, zall_in (zt1 (List.mem_of_getElem? (i := 175) rfl)) rfl⟩
theorem zfl_5_24 : zflOk (5, 24, false, 5, 1) := ⟨by decide, rfl, zall_in (zt1 (List.mem_of_getElem? (i := 176) rfl)) rfl⟩
theorem zfl_5_28 : zflOk (5, 28, false, 5, 2) := ⟨by decide, rfl, zall_in (zt1 (List.mem_of_getElem? (i := 177) rfl)) rfl⟩
theorem zfl_5_37 : zflOk (5, 37, false, 5, 3) := ⟨by decide, rfl, zall_in (zt1 (List.mem_of_getElem? (i := 178) rfl)) rfl⟩
theorem zfl_5_103 : zflOk (5, 103, true, 3, 1) := ⟨by decide, rfl, List.mem_of_getElem? (i := 2) rfl⟩
theorem zfl_5_161 : zflOk (5, 161, true, 2, 4) := ⟨by decide, rfl, List.mem_of_getElem? (i := 4) rfl⟩
theorem zfl_5_165 : zflOk (5, 165, true, 0, 2) := ⟨by decide, rfl, List.mem_of_getElem? (i := 0) rfl⟩
theorem zfl_5_166 : zflOk (5, 166, true, 0, 4) := ⟨by decide, rfl, List.mem_of_getElem? (i := 1) rfl⟩
theorem zfl_5_179 : zflOk (5, 179, true, 3, 6) := ⟨by decide, rfl, List.mem_of_getElem? (i := 3) rfl⟩
theorem zfl_6_7 : zflOk (6, 7, false, 6, 2) := ⟨by decide, rfl, zall_in (zt3 (List.mem_of_getElem? (i := 56) rfl)) rfl⟩
theorem zfl_6_13 : zflOk (6, 13, false, 6, 3) := ⟨by decide, rfl, zall_in (zt3 (List.mem_of_getElem? (i := 57) rfl)) rfl⟩
theorem zfl_6_16 : zflOk (6, 16, false, 6, 6) := ⟨by decide, rfl, zall_in (zt3 (List.mem_of_getElem? (i := 60) rfl)) rfl⟩
theorem zfl_6_19 : zflOk (6, 19, false, 6, 7) := ⟨by decide, rfl, zall_in (zt3 (List.mem_of_getElem? (i := 61) rfl)) rfl⟩
theorem zfl_6_22 : zflOk (6, 22, false, 6, 9) := ⟨by decide, rfl, zall_in (zt3 (List.mem_of_getElem? (i := 63) rfl)) rfl⟩
theorem zfl_6_26 : zflOk (6, 26, false, 6, 10) := ⟨by decide, rfl, zall_in (zt3 (List.mem_of_getElem? (i := 64) rfl)) rfl⟩
theorem zfl_6_30 : zflOk (6, 30, false, 6, 15) := ⟨by decide, rfl, zall_in (zt3 (List.mem_of_getElem? (i := 69) rfl)) rfl⟩
theorem zfl_6_33 : zflOk (6, 33, false, 6, 16) := ⟨by decide, rfl, zall_in (zt3 (List.mem_of_getElem? (i := 70) rfl)) rfl⟩
theorem zfl_6_36 : zflOk (6, 36, false, 6, 17) := ⟨by decide, rfl, zall_in (zt3 (List.mem_of_getElem? (i := 71) rfl)) rfl⟩
theorem zfl_6_39 : zflOk (6, 39, false, 6, 18) := ⟨by decide, rfl, zall_in (zt3 (List.mem_of_getElem? (i := 72) rfl)) rfl⟩
theorem zfl_6_42 : zflOk (6, 42, false, 6, 20) := ⟨by decide, rfl, zall_in (zt3 (List.mem_of_getElem? (i := 74) rfl)) rfl⟩
theorem zfl_6_45 : zflOk (6, 45, false, 6, 21) := ⟨by decide, rfl, zall_in (zt3 (List.mem_of_getElem? (i := 75) rfl)) rfl⟩
theorem zfl_6_48 : zflOk (6, 48, false, 6, 22) := ⟨by decide, rfl, zall_in (zt3 (List.mem_of_getElem? (i := 76) rfl)) rfl⟩
theorem zfl_6_51 : zflOk (6, 51, false, 6, 0) := ⟨by decide, rfl, zall_in (zt3 (List.mem_of_getElem? (i := 54) rfl)) rfl⟩
theorem zfl_6_54 : zflOk (6, 54, false, 6, 1) := ⟨by decide, rfl, zall_in (zt3 (List.mem_of_getElem? (i := 55) rfl)) rfl⟩
theorem zfl_6_61 : zflOk (6, 61, false, 6, 4) := ⟨by decide, rfl, zall_in (zt3 (List.mem_of_getElem? (i := 58) rfl)) rfl⟩
theorem zfl_6_74 : zflOk (6, 74, false, 6, 8) := ⟨by decide, rfl, zall_in (zt3 (List.mem_of_getElem? (i := 62) rfl)) rfl⟩
theorem zfl_6_81 : zflOk (6, 81, false, 6, 11) := ⟨by decide, rfl, zall_in (zt3 (List.mem_of_getElem? (i := 65) rfl)) rfl⟩
theorem zfl_6_84 : zflOk (6, 84, false, 6, 12) := ⟨by decide, rfl, zall_in (zt3 (List.mem_of_getElem? (i := 66) rfl)) rfl⟩
theorem zfl_6_87 : zflOk (6, 87, false, 6, 13) := ⟨by decide, rfl, zall_in (zt3 (List.mem_of_getElem? (i := 67) rfl)) rfl⟩
theorem zfl_6_90 : zflOk (6, 90, false, 6, 14) := ⟨by decide, rfl, zall_in (zt3 (List.mem_of_getElem? (i := 68) rfl)) rfl⟩
theorem zfl_6_111 : zflOk (6, 111, false, 6, 19) := ⟨by decide, rfl, zall_in (zt3 (List.mem_of_getElem? (i := 73) rfl)) rfl⟩
theorem zfl_6_146 : zflOk (6, 146, false, 6, 5) := ⟨by decide, rfl, zall_in (zt3 (List.mem_of_getElem? (i := 59) rfl)) rfl⟩
def zfl : List (Nat × Nat × Bool × Nat × Nat) := [(0, 9, false, 0, 0), (0, 15, false, 0, 1), (0, 18, false, 0, 2), (0, 22, false, 0, 3), (0, 25, false, 0, 4), (1, 9, false, 1, 3), (1, 15, false, 1, 4), (1, 19, false, 1, 5), (1, 22, false, 1, 6), (1, 25, false, 1, 7), (1, 28, false, 1, 8), (1, 31, false, 1, 0), (1, 35, false, 1, 1), (1, 44, false, 1, 2), (2, 9, false, 2, 0), (2, 15, false, 2, 1), (2, 18, false, 2, 2), (2, 21, false, 2, 3), (2, 24, false, 2, 4), (3, 12, false, 3, 1), (3, 18, false, 3, 2), (3, 22, false, 3, 3), (3, 25, false, 3, 4), (3, 28, false, 3, 5), (3, 32, false, 3, 6), (3, 35, false, 3, 7), (3, 38, false, 3, 8), (3, 41, false, 3, 9), (3, 44, false, 3, 10), (3, 47, false, 3, 0), (4, 9, false, 4, 0), (4, 15, false, 4, 1), (4, 18, false, 4, 2), (4, 21, false, 4, 3), (4, 24, false, 4, 4), (4, 27, false, 4, 5), (4, 31, false, 4, 6), (4, 34, false, 4, 7), (5, 15, false, 5, 0), (5, 24, false, 5, 1), (5, 28, false, 5, 2), (5, 37, false, 5, 3), (5, 103, true, 3, 1), (5, 161, true, 2, 4), (5, 165, true, 0, 2), (5, 166, true, 0, 4), (5, 179, true, 3, 6), (6, 7, false, 6, 2), (6, 13, false, 6, 3), (6, 16, false, 6, 6), (6, 19, false, 6, 7), (6, 22, false, 6, 9), (6, 26, false, 6, 10), (6, 30, false, 6, 15), (6, 33, false, 6, 16), (6, 36, false, 6, 17), (6, 39, false, 6, 18), (6, 42, false, 6, 20), (6, 45, false, 6, 21), (6, 48, false, 6, 22), (6, 51, false, 6, 0), (6, 54, false, 6, 1), (6, 61, false, 6, 4), (6, 74, false, 6, 8), (6, 81, false, 6, 11), (6, 84, false, 6, 12), (6, 87, false, 6, 13), (6, 90, false, 6, 14), (6, 111, false, 6, 19), (6, 146, false, 6, 5)]
theorem zfl_ok : ∀ q ∈ zfl, zflOk q := List.forall_mem_cons.mpr ⟨zfl_0_9, List.forall_mem_cons.mpr ⟨zfl_0_15, List.forall_mem_cons.mpr ⟨zfl_0_18, List.forall_mem_cons.mpr ⟨zfl_0_22, List.forall_mem_cons.mpr ⟨zfl_0_25, List.forall_mem_cons.mpr ⟨zfl_1_9, List.forall_mem_cons.mpr ⟨zfl_1_15, List.forall_mem_cons.mpr ⟨zfl_1_19, List.forall_mem_cons.mpr ⟨zfl_1_22, List.forall_mem_cons.mpr ⟨zfl_1_25, List.forall_mem_cons.mpr ⟨zfl_1_28, List.forall_mem_cons.mpr ⟨zfl_1_31, List.forall_mem_cons.mpr ⟨zfl_1_35, List.forall_mem_cons.mpr ⟨zfl_1_44, List.forall_mem_cons.mpr ⟨zfl_2_9, List.forall_mem_cons.mpr ⟨zfl_2_15, List.forall_mem_cons.mpr ⟨zfl_2_18, List.forall_mem_cons.mpr ⟨zfl_2_21, List.forall_mem_cons.mpr ⟨zfl_2_24, List.forall_mem_cons.mpr ⟨zfl_3_12, List.forall_mem_cons.mpr ⟨zfl_3_18, List.forall_mem_cons.mpr ⟨zfl_3_22, List.forall_mem_cons.mpr ⟨zfl_3_25, List.forall_mem_cons.mpr ⟨zfl_3_28, List.forall_mem_cons.mpr ⟨zfl_3_32, List.forall_mem_cons.mpr ⟨zfl_3_35, List.forall_mem_cons.mpr ⟨zfl_3_38, List.forall_mem_cons.mpr ⟨zfl_3_41, List.forall_mem_cons.mpr ⟨zfl_3_44, List.forall_mem_cons.mpr ⟨zfl_3_47, List.forall_mem_cons.mpr ⟨zfl_4_9, List.forall_mem_cons.mpr ⟨zfl_4_15, List.forall_mem_cons.mpr ⟨zfl_4_18, List.forall_mem_cons.mpr ⟨zfl_4_21, List.forall_mem_cons.mpr ⟨zfl_4_24, List.forall_mem_cons.mpr ⟨zfl_4_27, List.forall_mem_cons.mpr ⟨zfl_4_31, List.forall_mem_cons.mpr ⟨zfl_4_34, List.forall_mem_cons.mpr ⟨zfl_5_15, List.forall_mem_cons.mpr ⟨zfl_5_24, List.forall_mem_cons.mpr ⟨zfl_5_28, List.forall_mem_cons.mpr ⟨zfl_5_37, List.forall_mem_cons.mpr ⟨zfl_5_103, List.forall_mem_cons.mpr ⟨zfl_5_161, List.forall_mem_cons.mpr ⟨zfl_5_165, List.forall_mem_cons.mpr ⟨zfl_5_166, List.forall_mem_cons.mpr ⟨zfl_5_179, List.forall_mem_cons.mpr ⟨zfl_6_7, List.forall_mem_cons.mpr ⟨zfl_6_13, List.forall_mem_cons.mpr ⟨zfl_6_16, List.forall_mem_cons.mpr ⟨zfl_6_19, List.forall_mem_cons.mpr ⟨zfl_6_22, List.forall_mem_cons.mpr ⟨zfl_6_26, List.forall_mem_cons.mpr ⟨zfl_6_30, List.forall_mem_cons.mpr ⟨zfl_6_33, List.forall_mem_cons.mpr ⟨zfl_6_36, List.forall_mem_cons.mpr ⟨zfl_6_39, List.forall_mem_cons.mpr ⟨zfl_6_42, List.forall_mem_cons.mpr ⟨zfl_6_45, List.forall_mem_cons.mpr ⟨zfl_6_48, List.forall_mem_cons.mpr ⟨zfl_6_51, List.forall_mem_cons.mpr ⟨zfl_6_54, List.forall_mem_cons.mpr ⟨zfl_6_61, List.forall_mem_cons.mpr ⟨zfl_6_74, List.forall_mem_cons.mpr ⟨zfl_6_81, List.forall_mem_cons.mpr ⟨zfl_6_84, List.forall_mem_cons.mpr ⟨zfl_6_87, List.forall_mem_cons.mpr ⟨zfl_6_90, List.forall_mem_cons.mpr ⟨zfl_6_111, List.forall_mem_cons.mpr ⟨zfl_6_146, fun _ h => absurd h List.not_mem_nil⟩⟩⟩⟩⟩⟩⟩⟩⟩⟩⟩⟩⟩⟩⟩⟩⟩⟩⟩⟩⟩⟩⟩⟩⟩⟩⟩⟩⟩⟩⟩⟩⟩⟩⟩⟩⟩⟩⟩⟩⟩⟩⟩⟩⟩⟩⟩⟩⟩⟩⟩⟩⟩⟩⟩⟩⟩⟩⟩⟩⟩⟩⟩⟩⟩⟩⟩⟩⟩⟩
def zcs : List (Nat × Nat × Int) := [(7, 265, 1431655765), (7, 266, 858993459), (7, 267, 252645135)]
theorem zcs_ok : ∀ q ∈ zcs, Cond.constant (zcn q.1) q.2.1 (Int32.ofInt q.2.2) ∈ zall := List.forall_mem_cons.mpr ⟨(zall_in (zt2 (List.mem_of_getElem? (i := 144) rfl)) rfl), List.forall_mem_cons.mpr ⟨(zall_in (zt2 (List.mem_of_getElem? (i := 145) rfl)) rfl), List.forall_mem_cons.mpr ⟨(zall_in (zt2 (List.mem_of_getElem? (i := 146) rfl)) rfl), fun _ h => absurd h List.not_mem_nil⟩⟩⟩
def zcl : List (Nat × Nat × Int) := [(6, 68, 9), (6, 128, 19), (6, 70, 2), (6, 72, 100), (6, 149, 365), (6, 158, 40), (6, 160, 4), (6, 162, 5), (6, 164, 30), (6, 166, 7), (6, 168, 11), (6, 196, 3)]
theorem zcl_ok : ∀ q ∈ zcl, Cond.constantLong (zcn q.1) q.2.1 (Int64.ofInt q.2.2) ∈ zall := List.forall_mem_cons.mpr ⟨(zall_in (zt3 (List.mem_of_getElem? (i := 132) rfl)) rfl), List.forall_mem_cons.mpr ⟨(zall_in (zt3 (List.mem_of_getElem? (i := 140) rfl)) rfl), List.forall_mem_cons.mpr ⟨(zall_in (zt3 (List.mem_of_getElem? (i := 148) rfl)) rfl), List.forall_mem_cons.mpr ⟨(zall_in (zt3 (List.mem_of_getElem? (i := 168) rfl)) rfl), List.forall_mem_cons.mpr ⟨(zall_in (zt3 (List.mem_of_getElem? (i := 173) rfl)) rfl), List.forall_mem_cons.mpr ⟨(zall_in (zt3 (List.mem_of_getElem? (i := 202) rfl)) rfl), List.forall_mem_cons.mpr ⟨(zall_in (zt3 (List.mem_of_getElem? (i := 203) rfl)) rfl), List.forall_mem_cons.mpr ⟨(zall_in (zt3 (List.mem_of_getElem? (i := 204) rfl)) rfl), List.forall_mem_cons.mpr ⟨(zall_in (zt3 (List.mem_of_getElem? (i := 205) rfl)) rfl), List.forall_mem_cons.mpr ⟨(zall_in (zt3 (List.mem_of_getElem? (i := 210) rfl)) rfl), List.forall_mem_cons.mpr ⟨(zall_in (zt3 (List.mem_of_getElem? (i := 211) rfl)) rfl), List.forall_mem_cons.mpr ⟨(zall_in (zt4 (List.mem_of_getElem? (i := 95) rfl)) rfl), fun _ h => absurd h List.not_mem_nil⟩⟩⟩⟩⟩⟩⟩⟩⟩⟩⟩⟩
theorem zin_0 : ∀ w ∈ u_ws RX0 TX0 5, w ∈ zall := List.forall_mem_cons.mpr ⟨(zall_in (zt1 (List.mem_of_getElem? (i := 31) rfl)) rfl), List.forall_mem_cons.mpr ⟨(zall_in (zt1 (List.mem_of_getElem? (i := 33) rfl)) rfl), List.forall_mem_cons.mpr ⟨(zall_in (zt1 (List.mem_of_getElem? (i := 35) rfl)) rfl), List.forall_mem_cons.mpr ⟨(zall_in (zt1 (List.mem_of_getElem? (i := 37) rfl)) rfl), List.forall_mem_cons.mpr ⟨(zall_in (zt1 (List.mem_of_getElem? (i := 39) rfl)) rfl), fun _ h => absurd h List.not_mem_nil⟩⟩⟩⟩⟩
theorem zin_1 : ∀ w ∈ u_ws RX1 TX1 9, w ∈ zall := List.forall_mem_cons.mpr ⟨(zall_in (zt1 (List.mem_of_getElem? (i := 156) rfl)) rfl), List.forall_mem_cons.mpr ⟨(zall_in (zt1 (List.mem_of_getElem? (i := 158) rfl)) rfl), List.forall_mem_cons.mpr ⟨(zall_in (zt1 (List.mem_of_getElem? (i := 160) rfl)) rfl), List.forall_mem_cons.mpr ⟨(zall_in (zt1 (List.mem_of_getElem? (i := 162) rfl)) rfl), List.forall_mem_cons.mpr ⟨(zall_in (zt1 (List.mem_of_getElem? (i := 164) rfl)) rfl), List.forall_mem_cons.mpr ⟨(zall_in (zt1 (List.mem_of_getElem? (i := 166) rfl)) rfl), List.forall_mem_cons.mpr ⟨(zall_in (zt1 (List.mem_of_getElem? (i := 168) rfl)) rfl), List.forall_mem_cons.mpr ⟨(zall_in (zt1 (List.mem_of_getElem? (i := 170) rfl)) rfl), List.forall_mem_cons.mpr ⟨(zall_in (zt1 (List.mem_of_getElem? (i := 172) rfl)) rfl), fun _ h => absurd h List.not_mem_nil⟩⟩⟩⟩⟩⟩⟩⟩⟩
theorem zin_2 : ∀ w ∈ u_ws RX2 TX2 5, w ∈ zall := List.forall_mem_cons.mpr ⟨(zall_in (zt1 (List.mem_of_getElem? (i := 128) rfl)) rfl), List.forall_mem_cons.mpr ⟨(zall_in (zt1 (List.mem_of_getElem? (i := 130) rfl)) rfl), List.forall_mem_cons.mpr ⟨(zall_in (zt1 (List.mem_of_getElem? (i := 132) rfl)) rfl), List.forall_mem_cons.mpr ⟨(zall_in (zt1 (List.mem_of_getElem? (i := 134) rfl)) rfl), List.forall_mem_cons.mpr ⟨(zall_in (zt1 (List.mem_of_getElem? (i := 136) rfl)) rfl), fun _ h => absurd h List.not_mem_nil⟩⟩⟩⟩⟩
theorem zin_3 : ∀ w ∈ u_ws RX3 TX3 11, w ∈ zall := List.forall_mem_cons.mpr ⟨(zall_in (zt1 (List.mem_of_getElem? (i := 93) rfl)) rfl), List.forall_mem_cons.mpr ⟨(zall_in (zt1 (List.mem_of_getElem? (i := 95) rfl)) rfl), List.forall_mem_cons.mpr ⟨(zall_in (zt1 (List.mem_of_getElem? (i := 97) rfl)) rfl), List.forall_mem_cons.mpr ⟨(zall_in (zt1 (List.mem_of_getElem? (i := 99) rfl)) rfl), List.forall_mem_cons.mpr ⟨(zall_in (zt1 (List.mem_of_getElem? (i := 101) rfl)) rfl), List.forall_mem_cons.mpr ⟨(zall_in (zt1 (List.mem_of_getElem? (i := 103) rfl)) rfl), List.forall_mem_cons.mpr ⟨(zall_in (zt1 (List.mem_of_getElem? (i := 105) rfl)) rfl), List.forall_mem_cons.mpr ⟨(zall_in (zt1 (List.mem_of_getElem? (i := 107) rfl)) rfl), List.forall_mem_cons.mpr ⟨(zall_in (zt1 (List.mem_of_getElem? (i := 109) rfl)) rfl), List.forall_mem_cons.mpr ⟨(zall_in (zt1 (List.mem_of_getElem? (i := 111) rfl)) rfl), List.forall_mem_cons.mpr ⟨(zall_in (zt1 (List.mem_of_getElem? (i := 113) rfl)) rfl), fun _ h => absurd h List.not_mem_nil⟩⟩⟩⟩⟩⟩⟩⟩⟩⟩⟩
theorem zin_4 : ∀ w ∈ u_ws RX4 TX4 8, w ∈ zall := List.forall_mem_cons.mpr ⟨(zall_in (zt1 (List.mem_of_getElem? (i := 63) rfl)) rfl), List.forall_mem_cons.mpr ⟨(zall_in (zt1 (List.mem_of_getElem? (i := 65) rfl)) rfl), List.forall_mem_cons.mpr ⟨(zall_in (zt1 (List.mem_of_getElem? (i := 67) rfl)) rfl), List.forall_mem_cons.mpr ⟨(zall_in (zt1 (List.mem_of_getElem? (i := 69) rfl)) rfl), List.forall_mem_cons.mpr ⟨(zall_in (zt1 (List.mem_of_getElem? (i := 71) rfl)) rfl), List.forall_mem_cons.mpr ⟨(zall_in (zt1 (List.mem_of_getElem? (i := 73) rfl)) rfl), List.forall_mem_cons.mpr ⟨(zall_in (zt1 (List.mem_of_getElem? (i := 75) rfl)) rfl), List.forall_mem_cons.mpr ⟨(zall_in (zt1 (List.mem_of_getElem? (i := 77) rfl)) rfl), fun _ h => absurd h List.not_mem_nil⟩⟩⟩⟩⟩⟩⟩⟩
theorem zin_5 : ∀ w ∈ u_ws RX5 TX5 4, w ∈ zall := List.forall_mem_cons.mpr ⟨(zall_in (zt1 (List.mem_of_getElem? (i := 179) rfl)) rfl), List.forall_mem_cons.mpr ⟨(zall_in (zt1 (List.mem_of_getElem? (i := 181) rfl)) rfl), List.forall_mem_cons.mpr ⟨(zall_in (zt1 (List.mem_of_getElem? (i := 183) rfl)) rfl), List.forall_mem_cons.mpr ⟨(zall_in (zt1 (List.mem_of_getElem? (i := 185) rfl)) rfl), fun _ h => absurd h List.not_mem_nil⟩⟩⟩⟩
theorem zin_6 : ∀ w ∈ u_ws RX6 TX6 23, w ∈ zall := List.forall_mem_cons.mpr ⟨(zall_in (zt3 (List.mem_of_getElem? (i := 77) rfl)) rfl), List.forall_mem_cons.mpr ⟨(zall_in (zt3 (List.mem_of_getElem? (i := 79) rfl)) rfl), List.forall_mem_cons.mpr ⟨(zall_in (zt3 (List.mem_of_getElem? (i := 81) rfl)) rfl), List.forall_mem_cons.mpr ⟨(zall_in (zt3 (List.mem_of_getElem? (i := 83) rfl)) rfl), List.forall_mem_cons.mpr ⟨(zall_in (zt3 (List.mem_of_getElem? (i := 85) rfl)) rfl), List.forall_mem_cons.mpr ⟨(zall_in (zt3 (List.mem_of_getElem? (i := 87) rfl)) rfl), List.forall_mem_cons.mpr ⟨(zall_in (zt3 (List.mem_of_getElem? (i := 89) rfl)) rfl), List.forall_mem_cons.mpr ⟨(zall_in (zt3 (List.mem_of_getElem? (i := 91) rfl)) rfl), List.forall_mem_cons.mpr ⟨(zall_in (zt3 (List.mem_of_getElem? (i := 93) rfl)) rfl), List.forall_mem_cons.mpr ⟨(zall_in (zt3 (List.mem_of_getElem? (i := 95) rfl)) rfl), List.forall_mem_cons.mpr ⟨(zall_in (zt3 (List.mem_of_getElem? (i := 97) rfl)) rfl), List.forall_mem_cons.mpr ⟨(zall_in (zt3 (List.mem_of_getElem? (i := 99) rfl)) rfl), List.forall_mem_cons.mpr ⟨(zall_in (zt3 (List.mem_of_getElem? (i := 101) rfl)) rfl), List.forall_mem_cons.mpr ⟨(zall_in (zt3 (List.mem_of_getElem? (i := 103) rfl)) rfl), List.forall_mem_cons.mpr ⟨(zall_in (zt3 (List.mem_of_getElem? (i := 105) rfl)) rfl), List.forall_mem_cons.mpr ⟨(zall_in (zt3 (List.mem_of_getElem? (i := 107) rfl)) rfl), List.forall_mem_cons.mpr ⟨(zall_in (zt3 (List.mem_of_getElem? (i := 109) rfl)) rfl), List.forall_mem_cons.mpr ⟨(zall_in (zt3 (List.mem_of_getElem? (i := 111) rfl)) rfl), List.forall_mem_cons.mpr ⟨(zall_in (zt3 (List.mem_of_getElem? (i := 113) rfl)) rfl), List.forall_mem_cons.mpr ⟨(zall_in (zt3 (List.mem_of_getElem? (i := 115) rfl)) rfl), List.forall_mem_cons.mpr ⟨(zall_in (zt3 (List.mem_of_getElem? (i := 117) rfl)) rfl), List.forall_mem_cons.mpr ⟨(zall_in (zt3 (List.mem_of_getElem? (i := 119) rfl)) rfl), List.forall_mem_cons.mpr ⟨(zall_in (zt3 (List.mem_of_getElem? (i := 121) rfl)) rfl), fun _ h => absurd h List.not_mem_nil⟩⟩⟩⟩⟩⟩⟩⟩⟩⟩⟩⟩⟩⟩⟩⟩⟩⟩⟩⟩⟩⟩⟩
abbrev m_X0_init : ZM := (yX0_init, cX0_init, 1, none, 1, 12, 2, 1300)
abbrev m_X0_has : ZM := (yX0_has, cX0_has, 2, (some .boolean), 0, 0, 0, 0)
abbrev m_X0_hasAs : ZM := (yX0_hasAs, cX0_hasAs, 2, (some .boolean), 1, 21, 0, 0)
abbrev m_X0_lastOf : ZM := (yX0_lastOf, cX0_lastOf, 2, (some .int), 0, 0, 0, 0)
abbrev m_X0_add : ZM := (yX0_add, cX0_add, 4, (some .int), 2, 45, 0, 0)
abbrev m_X0_addStrike : ZM := (yX0_addStrike, cX0_addStrike, 3, (some .int), 3, 68, 0, 0)
abbrev m_X0_tell : ZM := (yX0_tell, cX0_tell, 4, none, 1, 22, 0, 0)
abbrev m_X0_read : ZM := (yX0_read, cX0_read, 4, (some .int), 0, 0, 0, 0)
abbrev m_X0_strikeOn : ZM := (yX0_strikeOn, cX0_strikeOn, 2, (some .int), 1, 21, 0, 0)
abbrev m_X0_isCounted : ZM := (yX0_isCounted, cX0_isCounted, 5, (some .boolean), 2, 42, 0, 0)
abbrev m_X0_bearsOn : ZM := (yX0_bearsOn, cX0_bearsOn, 4, (some .boolean), 1, 23, 0, 0)
abbrev m_X1_init : ZM := (yX1_init, cX1_init, 3, none, 3, 53, 11, 1175)
abbrev m_X1_isOn : ZM := (yX1_isOn, cX1_isOn, 6, (some .boolean), 6, 145, 0, 0)
abbrev m_X1_find : ZM := (yX1_find, cX1_find, 7, none, 6, 145, 0, 0)
abbrev m_X1_isNear : ZM := (yX1_isNear, cX1_isNear, 4, (some .boolean), 3, 66, 0, 0)
abbrev m_X1_pageAt : ZM := (yX1_pageAt, cX1_pageAt, 2, (some .int), 1, 21, 0, 0)
abbrev m_X2_init : ZM := (yX2_init, cX2_init, 1, none, 1, 12, 4, 46)
abbrev m_X2_has : ZM := (yX2_has, cX2_has, 2, (some .boolean), 0, 0, 0, 0)
abbrev m_X2_add : ZM := (yX2_add, cX2_add, 3, (some .int), 1, 22, 0, 0)
abbrev m_X2_open : ZM := (yX2_open, cX2_open, 3, none, 1, 22, 0, 0)
abbrev m_X2_measureFrom : ZM := (yX2_measureFrom, cX2_measureFrom, 4, none, 3, 65, 0, 0)
abbrev m_X2_goOn : ZM := (yX2_goOn, cX2_goOn, 4, none, 2, 42, 0, 0)
abbrev m_X2_farOf : ZM := (yX2_farOf, cX2_farOf, 2, (some .int), 1, 21, 0, 0)
abbrev m_X2_wayNearer : ZM := (yX2_wayNearer, cX2_wayNearer, 4, (some .int), 2, 42, 0, 0)
abbrev m_X2_comeTo : ZM := (yX2_comeTo, cX2_comeTo, 3, (some .int), 2, 42, 0, 0)
abbrev m_X3_init : ZM := (yX3_init, cX3_init, 2, none, 2, 32, 9, 1064)
abbrev m_X3_look : ZM := (yX3_look, cX3_look, 6, none, 5, 120, 0, 0)
abbrev m_X3_take : ZM := (yX3_take, cX3_take, 5, none, 2, 46, 0, 0)
abbrev m_X3_insertOrder : ZM := (yX3_insertOrder, cX3_insertOrder, 4, none, 1, 23, 0, 0)
abbrev m_X3_rule : ZM := (yX3_rule, cX3_rule, 2, none, 1, 23, 0, 0)
abbrev m_X3_judge : ZM := (yX3_judge, cX3_judge, 5, none, 4, 96, 0, 0)
abbrev m_X3_hasGood : ZM := (yX3_hasGood, cX3_hasGood, 3, (some .boolean), 1, 21, 0, 0)
abbrev m_X3_weightOf : ZM := (yX3_weightOf, cX3_weightOf, 4, (some .int), 1, 21, 0, 0)
abbrev m_X3_ground : ZM := (yX3_ground, cX3_ground, 6, (some .int), 3, 71, 0, 0)
abbrev m_X3_latestGood : ZM := (yX3_latestGood, cX3_latestGood, 4, (some .int), 1, 23, 0, 0)
abbrev m_X4_init : ZM := (yX4_init, cX4_init, 1, none, 1, 12, 5, 1013)
abbrev m_X4_clear : ZM := (yX4_clear, cX4_clear, 1, none, 1, 23, 0, 0)
abbrev m_X4_rule : ZM := (yX4_rule, cX4_rule, 4, none, 0, 0, 0, 0)
abbrev m_X4_addWalk : ZM := (yX4_addWalk, cX4_addWalk, 8, none, 0, 0, 0, 0)
abbrev m_X4_addBreak : ZM := (yX4_addBreak, cX4_addBreak, 2, none, 1, 22, 0, 0)
abbrev m_X4_personsIn : ZM := (yX4_personsIn, cX4_personsIn, 5, (some .int), 1, 20, 0, 0)
abbrev m_X4_reckon : ZM := (yX4_reckon, cX4_reckon, 7, none, 2, 45, 0, 0)
abbrev m_X4_fewIn : ZM := (yX4_fewIn, cX4_fewIn, 5, (some .int), 1, 21, 0, 0)
abbrev m_X4_latestEnd : ZM := (yX4_latestEnd, cX4_latestEnd, 3, (some .int), 1, 21, 0, 0)
abbrev m_X4_beginOf : ZM := (yX4_beginOf, cX4_beginOf, 2, (some .int), 0, 0, 0, 0)
abbrev m_X5_init : ZM := (yX5_init, cX5_init, 3, none, 4, 75, 30, 3615)
abbrev m_X5_way : ZM := (yX5_way, cX5_way, 3, (some .int), 2, 44, 0, 0)
abbrev m_X5_walk : ZM := (yX5_walk, cX5_walk, 7, (some .int), 3, 68, 0, 0)
abbrev m_X5_paper : ZM := (yX5_paper, cX5_paper, 5, (some .int), 3, 68, 0, 0)
abbrev m_X5_broke : ZM := (yX5_broke, cX5_broke, 4, (some .int), 3, 68, 0, 0)
abbrev m_X5_stop : ZM := (yX5_stop, cX5_stop, 5, (some .int), 3, 68, 0, 0)
abbrev m_X5_make : ZM := (yX5_make, cX5_make, 6, (some .int), 3, 68, 0, 0)
abbrev m_X5_strike : ZM := (yX5_strike, cX5_strike, 2, (some .int), 4, 90, 0, 0)
abbrev m_X5_statute : ZM := (yX5_statute, cX5_statute, 6, (some .int), 3, 68, 0, 0)
abbrev m_X5_page : ZM := (yX5_page, cX5_page, 4, (some .int), 2, 41, 0, 0)
abbrev m_X5_counts : ZM := (yX5_counts, cX5_counts, 3, (some .int), 3, 66, 0, 0)
abbrev m_X5_persons : ZM := (yX5_persons, cX5_persons, 6, (some .int), 6, 145, 0, 0)
abbrev m_X5_holds : ZM := (yX5_holds, cX5_holds, 6, (some .int), 6, 145, 0, 0)
abbrev m_X5_lacking : ZM := (yX5_lacking, cX5_lacking, 6, (some .int), 6, 145, 0, 0)
abbrev m_X5_papers : ZM := (yX5_papers, cX5_papers, 5, (some .int), 6, 145, 0, 0)
abbrev m_X5_force : ZM := (yX5_force, cX5_force, 6, (some .int), 6, 145, 0, 0)
abbrev m_X5_most : ZM := (yX5_most, cX5_most, 6, (some .int), 6, 145, 0, 0)
abbrev m_X5_since : ZM := (yX5_since, cX5_since, 6, (some .int), 6, 145, 0, 0)
abbrev m_X5_good : ZM := (yX5_good, cX5_good, 3, (some .int), 6, 145, 0, 0)
abbrev m_X5_leans : ZM := (yX5_leans, cX5_leans, 7, (some .int), 7, 170, 0, 0)
abbrev m_X5_lean : ZM := (yX5_lean, cX5_lean, 7, (some .int), 7, 171, 0, 0)
abbrev m_X5_steps : ZM := (yX5_steps, cX5_steps, 7, (some .int), 7, 171, 0, 0)
abbrev m_X5_first : ZM := (yX5_first, cX5_first, 7, (some .int), 7, 171, 0, 0)
abbrev m_X5_reach : ZM := (yX5_reach, cX5_reach, 6, (some .int), 7, 171, 0, 0)
abbrev m_X5_total : ZM := (yX5_total, cX5_total, 2, (some .int), 7, 167, 0, 0)
abbrev m_X5_refusalOf : ZM := (yX5_refusalOf, cX5_refusalOf, 5, (some .int), 2, 42, 0, 0)
abbrev m_X5_refusalFrom : ZM := (yX5_refusalFrom, cX5_refusalFrom, 5, (some .int), 2, 42, 0, 0)
abbrev m_X5_measure : ZM := (yX5_measure, cX5_measure, 7, none, 6, 145, 0, 0)
abbrev m_X5_goodOrders : ZM := (yX5_goodOrders, cX5_goodOrders, 3, (some .int), 6, 145, 0, 0)
abbrev m_X5_isWithin : ZM := (yX5_isWithin, cX5_isWithin, 3, (some .boolean), 0, 0, 0, 0)
abbrev m_X5_isPlace : ZM := (yX5_isPlace, cX5_isPlace, 1, (some .boolean), 1, 22, 0, 0)
abbrev m_X5_isKind : ZM := (yX5_isKind, cX5_isKind, 1, (some .boolean), 1, 22, 0, 0)
abbrev m_X5_isYear : ZM := (yX5_isYear, cX5_isYear, 1, (some .boolean), 1, 22, 0, 0)
abbrev m_X5_isOrder : ZM := (yX5_isOrder, cX5_isOrder, 1, (some .boolean), 0, 0, 0, 0)
abbrev m_X5_isTakenAs : ZM := (yX5_isTakenAs, cX5_isTakenAs, 2, (some .boolean), 1, 20, 0, 0)
abbrev m_X5_yes : ZM := (yX5_yes, cX5_yes, 1, (some .int), 0, 0, 0, 0)
abbrev m_X5_at : ZM := (yX5_at, cX5_at, 2, (some .int), 0, 0, 0, 0)
abbrev m_X5_put : ZM := (yX5_put, cX5_put, 3, none, 0, 0, 0, 0)
abbrev m_X6_init : ZM := (yX6_init, cX6_init, 1, none, 1, 12, 12, 2082)
abbrev m_X6_in : ZM := (yX6_in, cX6_in, 6, (some .boolean), 0, 0, 0, 0)
abbrev m_X6_noWay : ZM := (yX6_noWay, cX6_noWay, 2, (some .boolean), 1, 25, 0, 0)
abbrev m_X6_noPage : ZM := (yX6_noPage, cX6_noPage, 2, (some .boolean), 1, 25, 0, 0)
abbrev m_X6_noAs : ZM := (yX6_noAs, cX6_noAs, 2, (some .boolean), 2, 46, 0, 0)
abbrev m_X6_noPlace : ZM := (yX6_noPlace, cX6_noPlace, 1, (some .boolean), 1, 25, 0, 0)
abbrev m_X6_noKind : ZM := (yX6_noKind, cX6_noKind, 1, (some .boolean), 1, 25, 0, 0)
abbrev m_X6_noYear : ZM := (yX6_noYear, cX6_noYear, 1, (some .boolean), 1, 25, 0, 0)
abbrev m_X6_get : ZM := (yX6_get, cX6_get, 3, (some .int), 0, 0, 0, 0)
abbrev m_X6_look : ZM := (yX6_look, cX6_look, 3, none, 1, 22, 0, 0)
abbrev m_X6_bits : ZM := (yX6_bits, cX6_bits, 3, (some .int), 0, 0, 0, 0)
abbrev m_X6_walks : ZM := (yX6_walks, cX6_walks, 5, none, 1, 22, 0, 0)
abbrev m_X6_breaks : ZM := (yX6_breaks, cX6_breaks, 3, none, 1, 22, 0, 0)
abbrev m_X6_few : ZM := (yX6_few, cX6_few, 2, (some .int), 0, 0, 0, 0)
abbrev m_X6_spans : ZM := (yX6_spans, cX6_spans, 5, none, 2, 46, 0, 0)
abbrev m_X6_papersOf : ZM := (yX6_papersOf, cX6_papersOf, 5, (some .int), 1, 22, 0, 0)
abbrev m_X6_isAhead : ZM := (yX6_isAhead, cX6_isAhead, 3, (some .boolean), 1, 22, 0, 0)
abbrev m_X6_prepare : ZM := (yX6_prepare, cX6_prepare, 6, none, 3, 72, 0, 0)
abbrev m_X6_forceOf : ZM := (yX6_forceOf, cX6_forceOf, 7, (some .int), 2, 46, 0, 0)
abbrev m_X6_way : ZM := (yX6_way, cX6_way, 3, (some .int), 2, 45, 0, 0)
abbrev m_X6_write : ZM := (yX6_write, cX6_write, 6, (some .int), 0, 0, 0, 0)
abbrev m_X6_tell : ZM := (yX6_tell, cX6_tell, 3, none, 0, 0, 0, 0)
abbrev m_X6_walk : ZM := (yX6_walk, cX6_walk, 7, (some .int), 2, 46, 0, 0)
abbrev m_X6_paper : ZM := (yX6_paper, cX6_paper, 5, (some .int), 2, 46, 0, 0)
abbrev m_X6_broke : ZM := (yX6_broke, cX6_broke, 3, (some .int), 2, 46, 0, 0)
abbrev m_X6_ordered : ZM := (yX6_ordered, cX6_ordered, 7, (some .int), 1, 25, 0, 0)
abbrev m_X6_stop : ZM := (yX6_stop, cX6_stop, 4, (some .int), 2, 51, 0, 0)
abbrev m_X6_make : ZM := (yX6_make, cX6_make, 5, (some .int), 2, 51, 0, 0)
abbrev m_X6_strike : ZM := (yX6_strike, cX6_strike, 3, (some .int), 2, 46, 0, 0)
abbrev m_X6_statute : ZM := (yX6_statute, cX6_statute, 6, (some .int), 1, 25, 0, 0)
abbrev m_X6_page : ZM := (yX6_page, cX6_page, 5, (some .int), 2, 46, 0, 0)
abbrev m_X6_counts : ZM := (yX6_counts, cX6_counts, 3, (some .int), 3, 67, 0, 0)
abbrev m_X6_no : ZM := (yX6_no, cX6_no, 5, (some .int), 3, 67, 0, 0)
abbrev m_X6_persons : ZM := (yX6_persons, cX6_persons, 6, (some .int), 4, 91, 0, 0)
abbrev m_X6_holds : ZM := (yX6_holds, cX6_holds, 6, (some .int), 4, 91, 0, 0)
abbrev m_X6_lacking : ZM := (yX6_lacking, cX6_lacking, 6, (some .int), 4, 91, 0, 0)
abbrev m_X6_papers : ZM := (yX6_papers, cX6_papers, 5, (some .int), 4, 91, 0, 0)
abbrev m_X6_force : ZM := (yX6_force, cX6_force, 6, (some .int), 4, 97, 0, 0)
abbrev m_X6_most : ZM := (yX6_most, cX6_most, 7, (some .int), 4, 97, 0, 0)
abbrev m_X6_since : ZM := (yX6_since, cX6_since, 6, (some .int), 4, 97, 0, 0)
abbrev m_X6_goodOf : ZM := (yX6_goodOf, cX6_goodOf, 4, (some .boolean), 4, 97, 0, 0)
abbrev m_X6_good : ZM := (yX6_good, cX6_good, 3, (some .int), 5, 120, 0, 0)
abbrev m_X6_forceAs : ZM := (yX6_forceAs, cX6_forceAs, 5, (some .int), 4, 97, 0, 0)
abbrev m_X6_leansOn : ZM := (yX6_leansOn, cX6_leansOn, 8, (some .boolean), 4, 97, 0, 0)
abbrev m_X6_leans : ZM := (yX6_leans, cX6_leans, 7, (some .int), 5, 124, 0, 0)
abbrev m_X6_lean : ZM := (yX6_lean, cX6_lean, 10, (some .int), 5, 124, 0, 0)
abbrev m_X6_spread : ZM := (yX6_spread, cX6_spread, 8, none, 4, 97, 0, 0)
abbrev m_X6_noWalk : ZM := (yX6_noWalk, cX6_noWalk, 6, (some .int), 3, 67, 0, 0)
abbrev m_X6_steps : ZM := (yX6_steps, cX6_steps, 7, (some .int), 5, 124, 0, 0)
abbrev m_X6_first : ZM := (yX6_first, cX6_first, 9, (some .int), 5, 124, 0, 0)
abbrev m_X6_reach : ZM := (yX6_reach, cX6_reach, 8, (some .int), 5, 124, 0, 0)
abbrev m_X6_total : ZM := (yX6_total, cX6_total, 5, (some .int), 5, 120, 0, 0)
abbrev m_J6_bitCount_0f7a4 : ZM := (yJ6_bitCount_0f7a4, cJ6_bitCount_0f7a4, 1, (some .int), 0, 0, 0, 0)
abbrev m_J7_fill_53178 : ZM := (yJ7_fill_53178, cJ7_fill_53178, 4, none, 0, 0, 0, 0)
abbrev m_L_law : ZM := (x, code, 4, (some .boolean), 10, 396, 44, 5724)
theorem zc_X0_init : zcode m_X0_init ∈ zall := zall_in (zt1 (List.mem_of_getElem? (i := 22) rfl)) rfl
theorem zc_X0_has : zcode m_X0_has ∈ zall := zall_in (zt1 (List.mem_of_getElem? (i := 233) rfl)) rfl
theorem zc_X0_hasAs : zcode m_X0_hasAs ∈ zall := zall_in (zt2 (List.mem_of_getElem? (i := 53) rfl)) rfl
theorem zc_X0_lastOf : zcode m_X0_lastOf ∈ zall := zall_in (zt2 (List.mem_of_getElem? (i := 57) rfl)) rfl
theorem zc_X0_add : zcode m_X0_add ∈ zall := zall_in (zt1 (List.mem_of_getElem? (i := 222) rfl)) rfl
theorem zc_X0_addStrike : zcode m_X0_addStrike ∈ zall := zall_in (zt2 (List.mem_of_getElem? (i := 32) rfl)) rfl
theorem zc_X0_tell : zcode m_X0_tell ∈ zall := zall_in (zt1 (List.mem_of_getElem? (i := 229) rfl)) rfl
theorem zc_X0_read : zcode m_X0_read ∈ zall := zall_in (zt2 (List.mem_of_getElem? (i := 21) rfl)) rfl
theorem zc_X0_strikeOn : zcode m_X0_strikeOn ∈ zall := zall_in (zt2 (List.mem_of_getElem? (i := 25) rfl)) rfl
theorem zc_X0_isCounted : zcode m_X0_isCounted ∈ zall := zall_in (zt2 (List.mem_of_getElem? (i := 61) rfl)) rfl
theorem zc_X0_bearsOn : zcode m_X0_bearsOn ∈ zall := zall_in (zt2 (List.mem_of_getElem? (i := 214) rfl)) rfl
theorem zc_X1_init : zcode m_X1_init ∈ zall := zall_in (zt1 (List.mem_of_getElem? (i := 143) rfl)) rfl
theorem zc_X1_isOn : zcode m_X1_isOn ∈ zall := zall_in (zt2 (List.mem_of_getElem? (i := 205) rfl)) rfl
theorem zc_X1_find : zcode m_X1_find ∈ zall := zall_in (zt2 (List.mem_of_getElem? (i := 225) rfl)) rfl
theorem zc_X1_isNear : zcode m_X1_isNear ∈ zall := zall_in (zt2 (List.mem_of_getElem? (i := 209) rfl)) rfl
theorem zc_X1_pageAt : zcode m_X1_pageAt ∈ zall := zall_in (zt2 (List.mem_of_getElem? (i := 230) rfl)) rfl
theorem zc_X2_init : zcode m_X2_init ∈ zall := zall_in (zt1 (List.mem_of_getElem? (i := 120) rfl)) rfl
theorem zc_X2_has : zcode m_X2_has ∈ zall := zall_in (zt1 (List.mem_of_getElem? (i := 212) rfl)) rfl
theorem zc_X2_add : zcode m_X2_add ∈ zall := zall_in (zt1 (List.mem_of_getElem? (i := 201) rfl)) rfl
theorem zc_X2_open : zcode m_X2_open ∈ zall := zall_in (zt3 (List.mem_of_getElem? (i := 7) rfl)) rfl
theorem zc_X2_measureFrom : zcode m_X2_measureFrom ∈ zall := zall_in (zt3 (List.mem_of_getElem? (i := 12) rfl)) rfl
theorem zc_X2_goOn : zcode m_X2_goOn ∈ zall := zall_in (zt3 (List.mem_of_getElem? (i := 18) rfl)) rfl
theorem zc_X2_farOf : zcode m_X2_farOf ∈ zall := zall_in (zt3 (List.mem_of_getElem? (i := 22) rfl)) rfl
theorem zc_X2_wayNearer : zcode m_X2_wayNearer ∈ zall := zall_in (zt3 (List.mem_of_getElem? (i := 31) rfl)) rfl
theorem zc_X2_comeTo : zcode m_X2_comeTo ∈ zall := zall_in (zt3 (List.mem_of_getElem? (i := 39) rfl)) rfl
theorem zc_X3_init : zcode m_X3_init ∈ zall := zall_in (zt1 (List.mem_of_getElem? (i := 47) rfl)) rfl
theorem zc_X3_look : zcode m_X3_look ∈ zall := zall_in (zt2 (List.mem_of_getElem? (i := 77) rfl)) rfl
theorem zc_X3_take : zcode m_X3_take ∈ zall := zall_in (zt2 (List.mem_of_getElem? (i := 91) rfl)) rfl
theorem zc_X3_insertOrder : zcode m_X3_insertOrder ∈ zall := zall_in (zt2 (List.mem_of_getElem? (i := 107) rfl)) rfl
theorem zc_X3_rule : zcode m_X3_rule ∈ zall := zall_in (zt2 (List.mem_of_getElem? (i := 111) rfl)) rfl
theorem zc_X3_judge : zcode m_X3_judge ∈ zall := zall_in (zt2 (List.mem_of_getElem? (i := 119) rfl)) rfl
theorem zc_X3_hasGood : zcode m_X3_hasGood ∈ zall := zall_in (zt2 (List.mem_of_getElem? (i := 197) rfl)) rfl
theorem zc_X3_weightOf : zcode m_X3_weightOf ∈ zall := zall_in (zt2 (List.mem_of_getElem? (i := 131) rfl)) rfl
theorem zc_X3_ground : zcode m_X3_ground ∈ zall := zall_in (zt2 (List.mem_of_getElem? (i := 123) rfl)) rfl
theorem zc_X3_latestGood : zcode m_X3_latestGood ∈ zall := zall_in (zt2 (List.mem_of_getElem? (i := 127) rfl)) rfl
theorem zc_X4_init : zcode m_X4_init ∈ zall := zall_in (zt1 (List.mem_of_getElem? (i := 53) rfl)) rfl
theorem zc_X4_clear : zcode m_X4_clear ∈ zall := zall_in (zt2 (List.mem_of_getElem? (i := 81) rfl)) rfl
theorem zc_X4_rule : zcode m_X4_rule ∈ zall := zall_in (zt2 (List.mem_of_getElem? (i := 115) rfl)) rfl
theorem zc_X4_addWalk : zcode m_X4_addWalk ∈ zall := zall_in (zt2 (List.mem_of_getElem? (i := 95) rfl)) rfl
theorem zc_X4_addBreak : zcode m_X4_addBreak ∈ zall := zall_in (zt2 (List.mem_of_getElem? (i := 101) rfl)) rfl
theorem zc_X4_personsIn : zcode m_X4_personsIn ∈ zall := zall_in (zt2 (List.mem_of_getElem? (i := 140) rfl)) rfl
theorem zc_X4_reckon : zcode m_X4_reckon ∈ zall := zall_in (zt2 (List.mem_of_getElem? (i := 135) rfl)) rfl
theorem zc_X4_fewIn : zcode m_X4_fewIn ∈ zall := zall_in (zt2 (List.mem_of_getElem? (i := 154) rfl)) rfl
theorem zc_X4_latestEnd : zcode m_X4_latestEnd ∈ zall := zall_in (zt2 (List.mem_of_getElem? (i := 158) rfl)) rfl
theorem zc_X4_beginOf : zcode m_X4_beginOf ∈ zall := zall_in (zt2 (List.mem_of_getElem? (i := 150) rfl)) rfl
theorem zc_X5_init : zcode m_X5_init ∈ zall := zall_in (zt1 (List.mem_of_getElem? (i := 14) rfl)) rfl
theorem zc_X5_way : zcode m_X5_way ∈ zall := zall_in (zt1 (List.mem_of_getElem? (i := 191) rfl)) rfl
theorem zc_X5_walk : zcode m_X5_walk ∈ zall := zall_in (zt1 (List.mem_of_getElem? (i := 208) rfl)) rfl
theorem zc_X5_paper : zcode m_X5_paper ∈ zall := zall_in (zt2 (List.mem_of_getElem? (i := 0) rfl)) rfl
theorem zc_X5_broke : zcode m_X5_broke ∈ zall := zall_in (zt2 (List.mem_of_getElem? (i := 4) rfl)) rfl
theorem zc_X5_stop : zcode m_X5_stop ∈ zall := zall_in (zt2 (List.mem_of_getElem? (i := 8) rfl)) rfl
theorem zc_X5_make : zcode m_X5_make ∈ zall := zall_in (zt2 (List.mem_of_getElem? (i := 12) rfl)) rfl
theorem zc_X5_strike : zcode m_X5_strike ∈ zall := zall_in (zt2 (List.mem_of_getElem? (i := 16) rfl)) rfl
theorem zc_X5_statute : zcode m_X5_statute ∈ zall := zall_in (zt2 (List.mem_of_getElem? (i := 37) rfl)) rfl
theorem zc_X5_page : zcode m_X5_page ∈ zall := zall_in (zt2 (List.mem_of_getElem? (i := 41) rfl)) rfl
theorem zc_X5_counts : zcode m_X5_counts ∈ zall := zall_in (zt2 (List.mem_of_getElem? (i := 49) rfl)) rfl
theorem zc_X5_persons : zcode m_X5_persons ∈ zall := zall_in (zt2 (List.mem_of_getElem? (i := 69) rfl)) rfl
theorem zc_X5_holds : zcode m_X5_holds ∈ zall := zall_in (zt2 (List.mem_of_getElem? (i := 164) rfl)) rfl
theorem zc_X5_lacking : zcode m_X5_lacking ∈ zall := zall_in (zt2 (List.mem_of_getElem? (i := 170) rfl)) rfl
theorem zc_X5_papers : zcode m_X5_papers ∈ zall := zall_in (zt2 (List.mem_of_getElem? (i := 175) rfl)) rfl
theorem zc_X5_force : zcode m_X5_force ∈ zall := zall_in (zt2 (List.mem_of_getElem? (i := 180) rfl)) rfl
theorem zc_X5_most : zcode m_X5_most ∈ zall := zall_in (zt2 (List.mem_of_getElem? (i := 185) rfl)) rfl
theorem zc_X5_since : zcode m_X5_since ∈ zall := zall_in (zt2 (List.mem_of_getElem? (i := 189) rfl)) rfl
theorem zc_X5_good : zcode m_X5_good ∈ zall := zall_in (zt2 (List.mem_of_getElem? (i := 193) rfl)) rfl
theorem zc_X5_leans : zcode m_X5_leans ∈ zall := zall_in (zt2 (List.mem_of_getElem? (i := 201) rfl)) rfl
theorem zc_X5_lean : zcode m_X5_lean ∈ zall := zall_in (zt2 (List.mem_of_getElem? (i := 221) rfl)) rfl
theorem zc_X5_steps : zcode m_X5_steps ∈ zall := zall_in (zt2 (List.mem_of_getElem? (i := 235) rfl)) rfl
theorem zc_X5_first : zcode m_X5_first ∈ zall := zall_in (zt3 (List.mem_of_getElem? (i := 27) rfl)) rfl
theorem zc_X5_reach : zcode m_X5_reach ∈ zall := zall_in (zt3 (List.mem_of_getElem? (i := 35) rfl)) rfl
theorem zc_X5_total : zcode m_X5_total ∈ zall := zall_in (zt3 (List.mem_of_getElem? (i := 43) rfl)) rfl
theorem zc_X5_refusalOf : zcode m_X5_refusalOf ∈ zall := zall_in (zt2 (List.mem_of_getElem? (i := 73) rfl)) rfl
theorem zc_X5_refusalFrom : zcode m_X5_refusalFrom ∈ zall := zall_in (zt2 (List.mem_of_getElem? (i := 239) rfl)) rfl
theorem zc_X5_measure : zcode m_X5_measure ∈ zall := zall_in (zt3 (List.mem_of_getElem? (i := 3) rfl)) rfl
theorem zc_X5_goodOrders : zcode m_X5_goodOrders ∈ zall := zall_in (zt3 (List.mem_of_getElem? (i := 47) rfl)) rfl
theorem zc_X5_isWithin : zcode m_X5_isWithin ∈ zall := zall_in (zt1 (List.mem_of_getElem? (i := 197) rfl)) rfl
theorem zc_X5_isPlace : zcode m_X5_isPlace ∈ zall := zall_in (zt1 (List.mem_of_getElem? (i := 194) rfl)) rfl
theorem zc_X5_isKind : zcode m_X5_isKind ∈ zall := zall_in (zt1 (List.mem_of_getElem? (i := 215) rfl)) rfl
theorem zc_X5_isYear : zcode m_X5_isYear ∈ zall := zall_in (zt1 (List.mem_of_getElem? (i := 218) rfl)) rfl
theorem zc_X5_isOrder : zcode m_X5_isOrder ∈ zall := zall_in (zt1 (List.mem_of_getElem? (i := 225) rfl)) rfl
theorem zc_X5_isTakenAs : zcode m_X5_isTakenAs ∈ zall := zall_in (zt2 (List.mem_of_getElem? (i := 44) rfl)) rfl
theorem zc_X5_yes : zcode m_X5_yes ∈ zall := zall_in (zt2 (List.mem_of_getElem? (i := 65) rfl)) rfl
theorem zc_X5_at : zcode m_X5_at ∈ zall := zall_in (zt2 (List.mem_of_getElem? (i := 28) rfl)) rfl
theorem zc_X5_put : zcode m_X5_put ∈ zall := zall_in (zt1 (List.mem_of_getElem? (i := 204) rfl)) rfl
theorem zc_X6_init : zcode m_X6_init ∈ zall := zall_in (zt3 (List.mem_of_getElem? (i := 52) rfl)) rfl
theorem zc_X6_in : zcode m_X6_in ∈ zall := zall_in (zt3 (List.mem_of_getElem? (i := 135) rfl)) rfl
theorem zc_X6_noWay : zcode m_X6_noWay ∈ zall := zall_in (zt3 (List.mem_of_getElem? (i := 144) rfl)) rfl
theorem zc_X6_noPage : zcode m_X6_noPage ∈ zall := zall_in (zt3 (List.mem_of_getElem? (i := 189) rfl)) rfl
theorem zc_X6_noAs : zcode m_X6_noAs ∈ zall := zall_in (zt3 (List.mem_of_getElem? (i := 219) rfl)) rfl
theorem zc_X6_noPlace : zcode m_X6_noPlace ∈ zall := zall_in (zt3 (List.mem_of_getElem? (i := 131) rfl)) rfl
theorem zc_X6_noKind : zcode m_X6_noKind ∈ zall := zall_in (zt3 (List.mem_of_getElem? (i := 147) rfl)) rfl
theorem zc_X6_noYear : zcode m_X6_noYear ∈ zall := zall_in (zt3 (List.mem_of_getElem? (i := 167) rfl)) rfl
theorem zc_X6_get : zcode m_X6_get ∈ zall := zall_in (zt3 (List.mem_of_getElem? (i := 197) rfl)) rfl
theorem zc_X6_look : zcode m_X6_look ∈ zall := zall_in (zt3 (List.mem_of_getElem? (i := 193) rfl)) rfl
theorem zc_X6_bits : zcode m_X6_bits ∈ zall := zall_in (zt3 (List.mem_of_getElem? (i := 234) rfl)) rfl
theorem zc_X6_walks : zcode m_X6_walks ∈ zall := zall_in (zt3 (List.mem_of_getElem? (i := 231) rfl)) rfl
theorem zc_X6_breaks : zcode m_X6_breaks ∈ zall := zall_in (zt4 (List.mem_of_getElem? (i := 6) rfl)) rfl
theorem zc_X6_few : zcode m_X6_few ∈ zall := zall_in (zt4 (List.mem_of_getElem? (i := 10) rfl)) rfl
theorem zc_X6_spans : zcode m_X6_spans ∈ zall := zall_in (zt4 (List.mem_of_getElem? (i := 2) rfl)) rfl
theorem zc_X6_papersOf : zcode m_X6_papersOf ∈ zall := zall_in (zt4 (List.mem_of_getElem? (i := 22) rfl)) rfl
theorem zc_X6_isAhead : zcode m_X6_isAhead ∈ zall := zall_in (zt4 (List.mem_of_getElem? (i := 34) rfl)) rfl
theorem zc_X6_prepare : zcode m_X6_prepare ∈ zall := zall_in (zt4 (List.mem_of_getElem? (i := 30) rfl)) rfl
theorem zc_X6_forceOf : zcode m_X6_forceOf ∈ zall := zall_in (zt4 (List.mem_of_getElem? (i := 38) rfl)) rfl
theorem zc_X6_way : zcode m_X6_way ∈ zall := zall_in (zt3 (List.mem_of_getElem? (i := 128) rfl)) rfl
theorem zc_X6_write : zcode m_X6_write ∈ zall := zall_in (zt3 (List.mem_of_getElem? (i := 152) rfl)) rfl
theorem zc_X6_tell : zcode m_X6_tell ∈ zall := zall_in (zt3 (List.mem_of_getElem? (i := 156) rfl)) rfl
theorem zc_X6_walk : zcode m_X6_walk ∈ zall := zall_in (zt3 (List.mem_of_getElem? (i := 139) rfl)) rfl
theorem zc_X6_paper : zcode m_X6_paper ∈ zall := zall_in (zt3 (List.mem_of_getElem? (i := 160) rfl)) rfl
theorem zc_X6_broke : zcode m_X6_broke ∈ zall := zall_in (zt3 (List.mem_of_getElem? (i := 164) rfl)) rfl
theorem zc_X6_ordered : zcode m_X6_ordered ∈ zall := zall_in (zt3 (List.mem_of_getElem? (i := 177) rfl)) rfl
theorem zc_X6_stop : zcode m_X6_stop ∈ zall := zall_in (zt3 (List.mem_of_getElem? (i := 172) rfl)) rfl
theorem zc_X6_make : zcode m_X6_make ∈ zall := zall_in (zt3 (List.mem_of_getElem? (i := 181) rfl)) rfl
theorem zc_X6_strike : zcode m_X6_strike ∈ zall := zall_in (zt3 (List.mem_of_getElem? (i := 185) rfl)) rfl
theorem zc_X6_statute : zcode m_X6_statute ∈ zall := zall_in (zt3 (List.mem_of_getElem? (i := 201) rfl)) rfl
theorem zc_X6_page : zcode m_X6_page ∈ zall := zall_in (zt3 (List.mem_of_getElem? (i := 209) rfl)) rfl
theorem zc_X6_counts : zcode m_X6_counts ∈ zall := zall_in (zt3 (List.mem_of_getElem? (i := 215) rfl)) rfl
theorem zc_X6_no : zcode m_X6_no ∈ zall := zall_in (zt3 (List.mem_of_getElem? (i := 227) rfl)) rfl
theorem zc_X6_persons : zcode m_X6_persons ∈ zall := zall_in (zt3 (List.mem_of_getElem? (i := 223) rfl)) rfl
theorem zc_X6_holds : zcode m_X6_holds ∈ zall := zall_in (zt3 (List.mem_of_getElem? (i := 238) rfl)) rfl
theorem zc_X6_lacking : zcode m_X6_lacking ∈ zall := zall_in (zt4 (List.mem_of_getElem? (i := 14) rfl)) rfl
theorem zc_X6_papers : zcode m_X6_papers ∈ zall := zall_in (zt4 (List.mem_of_getElem? (i := 18) rfl)) rfl
theorem zc_X6_force : zcode m_X6_force ∈ zall := zall_in (zt4 (List.mem_of_getElem? (i := 26) rfl)) rfl
theorem zc_X6_most : zcode m_X6_most ∈ zall := zall_in (zt4 (List.mem_of_getElem? (i := 42) rfl)) rfl
theorem zc_X6_since : zcode m_X6_since ∈ zall := zall_in (zt4 (List.mem_of_getElem? (i := 46) rfl)) rfl
theorem zc_X6_goodOf : zcode m_X6_goodOf ∈ zall := zall_in (zt4 (List.mem_of_getElem? (i := 54) rfl)) rfl
theorem zc_X6_good : zcode m_X6_good ∈ zall := zall_in (zt4 (List.mem_of_getElem? (i := 50) rfl)) rfl
theorem zc_X6_forceAs : zcode m_X6_forceAs ∈ zall := zall_in (zt4 (List.mem_of_getElem? (i := 62) rfl)) rfl
theorem zc_X6_leansOn : zcode m_X6_leansOn ∈ zall := zall_in (zt4 (List.mem_of_getElem? (i := 66) rfl)) rfl
theorem zc_X6_leans : zcode m_X6_leans ∈ zall := zall_in (zt4 (List.mem_of_getElem? (i := 58) rfl)) rfl
theorem zc_X6_lean : zcode m_X6_lean ∈ zall := zall_in (zt4 (List.mem_of_getElem? (i := 70) rfl)) rfl
theorem zc_X6_spread : zcode m_X6_spread ∈ zall := zall_in (zt4 (List.mem_of_getElem? (i := 82) rfl)) rfl
theorem zc_X6_noWalk : zcode m_X6_noWalk ∈ zall := zall_in (zt4 (List.mem_of_getElem? (i := 78) rfl)) rfl
theorem zc_X6_steps : zcode m_X6_steps ∈ zall := zall_in (zt4 (List.mem_of_getElem? (i := 74) rfl)) rfl
theorem zc_X6_first : zcode m_X6_first ∈ zall := zall_in (zt4 (List.mem_of_getElem? (i := 86) rfl)) rfl
theorem zc_X6_reach : zcode m_X6_reach ∈ zall := zall_in (zt4 (List.mem_of_getElem? (i := 90) rfl)) rfl
theorem zc_X6_total : zcode m_X6_total ∈ zall := zall_in (zt4 (List.mem_of_getElem? (i := 94) rfl)) rfl
theorem zc_J6_bitCount_0f7a4 : zcode m_J6_bitCount_0f7a4 ∈ zall := zall_in (zt2 (List.mem_of_getElem? (i := 143) rfl)) rfl
theorem zc_J7_fill_53178 : zcode m_J7_fill_53178 ∈ zall := zall_in (zt2 (List.mem_of_getElem? (i := 84) rfl)) rfl
theorem zsel {q : MethodName × Nat} (h : q ∈ lw_privs) : Cond.selects q.1.cls q.1 q.1 ∈ k2_sels lw_privs := List.mem_map.mpr ⟨q, h, rfl⟩
def zhd (m : ZM) (na : Nat) : Prop := m.1.cls ≠ "java/lang/invoke/MethodHandle" ∧ m.1.cls ≠ "java/lang/invoke/VarHandle" ∧ (parseMethodDescriptor m.1.desc).map (fun d => d.parameters.length) = some na
def zmV (ci na : Nat) (m : ZM) : Prop := Cond.instanceMethod m.1 ∈ zall ∧ Cond.selects m.1.cls m.1 m.1 ∈ zall ∧ Cond.initialized m.1.cls ∈ zall ∧ zcode m ∈ zall ∧ zhd m na ∧ (zcls[ci]?).map (fun q => q.1) = some m.1.cls
def zmS (na : Nat) (m : ZM) : Prop := Cond.static m.1 ∈ zall ∧ Cond.initialized m.1.cls ∈ zall ∧ zcode m ∈ zall ∧ zhd m na
def zmI (na : Nat) (m : ZM) : Prop := m.1.name = "<init>" ∧ Cond.instanceMethod m.1 ∈ zall ∧ Cond.initialized m.1.cls ∈ zall ∧ zcode m ∈ zall ∧ zhd m na
theorem zini_0 : Cond.initialized RX0 ∈ zall := (zall_in (zt1 (List.mem_of_getElem? (i := 2) rfl)) rfl)
theorem zini_1 : Cond.initialized RX1 ∈ zall := (zall_in (zt1 (List.mem_of_getElem? (i := 6) rfl)) rfl)
theorem zini_2 : Cond.initialized RX2 ∈ zall := (zall_in (zt1 (List.mem_of_getElem? (i := 5) rfl)) rfl)
theorem zini_3 : Cond.initialized RX3 ∈ zall := (zall_in (zt1 (List.mem_of_getElem? (i := 3) rfl)) rfl)
theorem zini_4 : Cond.initialized RX4 ∈ zall := (zall_in (zt1 (List.mem_of_getElem? (i := 4) rfl)) rfl)
theorem zini_5 : Cond.initialized RX5 ∈ zall := (zall_in (zt1 (List.mem_of_getElem? (i := 1) rfl)) rfl)
theorem zini_6 : Cond.initialized RX6 ∈ zall := (zall_in (zt1 (List.mem_of_getElem? (i := 7) rfl)) rfl)
theorem zini_7 : Cond.initialized RJ6 ∈ zall := (zall_in (zt1 (List.mem_of_getElem? (i := 9) rfl)) rfl)
theorem zini_8 : Cond.initialized RJ7 ∈ zall := (zall_in (zt1 (List.mem_of_getElem? (i := 8) rfl)) rfl)
theorem zv_X0_init : zmI 0 m_X0_init := ⟨rfl, (zall_in (zt1 (List.mem_of_getElem? (i := 21) rfl)) rfl), zini_0, zc_X0_init, ⟨by decide, by decide, by decide +kernel⟩⟩
theorem zv_X0_has : zmV 0 1 m_X0_has := ⟨(zall_in (zt1 (List.mem_of_getElem? (i := 231) rfl)) rfl), (zall_in (zt1 (List.mem_of_getElem? (i := 232) rfl)) rfl), zini_0, zc_X0_has, ⟨by decide, by decide, by decide +kernel⟩, rfl⟩
theorem zv_X0_hasAs : zmV 0 1 m_X0_hasAs := ⟨(zall_in (zt2 (List.mem_of_getElem? (i := 51) rfl)) rfl), (zall_in (zt2 (List.mem_of_getElem? (i := 52) rfl)) rfl), zini_0, zc_X0_hasAs, ⟨by decide, by decide, by decide +kernel⟩, rfl⟩
theorem zv_X0_lastOf : zmV 0 1 m_X0_lastOf := ⟨(zall_in (zt2 (List.mem_of_getElem? (i := 55) rfl)) rfl), (zall_in (zt2 (List.mem_of_getElem? (i := 56) rfl)) rfl), zini_0, zc_X0_lastOf, ⟨by decide, by decide, by decide +kernel⟩, rfl⟩
theorem zv_X0_add : zmV 0 1 m_X0_add := ⟨(zall_in (zt1 (List.mem_of_getElem? (i := 220) rfl)) rfl), (zall_in (zt1 (List.mem_of_getElem? (i := 221) rfl)) rfl), zini_0, zc_X0_add, ⟨by decide, by decide, by decide +kernel⟩, rfl⟩
theorem zv_X0_addStrike : zmV 0 1 m_X0_addStrike := ⟨(zall_in (zt2 (List.mem_of_getElem? (i := 30) rfl)) rfl), (zall_in (zt2 (List.mem_of_getElem? (i := 31) rfl)) rfl), zini_0, zc_X0_addStrike, ⟨by decide, by decide, by decide +kernel⟩, rfl⟩
theorem zv_X0_tell : zmV 0 3 m_X0_tell := ⟨(zall_in (zt1 (List.mem_of_getElem? (i := 227) rfl)) rfl), (zall_in (zt1 (List.mem_of_getElem? (i := 228) rfl)) rfl), zini_0, zc_X0_tell, ⟨by decide, by decide, by decide +kernel⟩, rfl⟩
theorem zv_X0_read : zmV 0 2 m_X0_read := ⟨(zall_in (zt2 (List.mem_of_getElem? (i := 19) rfl)) rfl), (zall_in (zt2 (List.mem_of_getElem? (i := 20) rfl)) rfl), zini_0, zc_X0_read, ⟨by decide, by decide, by decide +kernel⟩, rfl⟩
theorem zv_X0_strikeOn : zmV 0 1 m_X0_strikeOn := ⟨(zall_in (zt2 (List.mem_of_getElem? (i := 23) rfl)) rfl), (zall_in (zt2 (List.mem_of_getElem? (i := 24) rfl)) rfl), zini_0, zc_X0_strikeOn, ⟨by decide, by decide, by decide +kernel⟩, rfl⟩
theorem zv_X0_isCounted : zmV 0 3 m_X0_isCounted := ⟨(zall_in (zt2 (List.mem_of_getElem? (i := 59) rfl)) rfl), (zall_in (zt2 (List.mem_of_getElem? (i := 60) rfl)) rfl), zini_0, zc_X0_isCounted, ⟨by decide, by decide, by decide +kernel⟩, rfl⟩
theorem zv_X0_bearsOn : zmV 0 2 m_X0_bearsOn := ⟨(zall_in (zt2 (List.mem_of_getElem? (i := 212) rfl)) rfl), (zall_in (zt2 (List.mem_of_getElem? (i := 213) rfl)) rfl), zini_0, zc_X0_bearsOn, ⟨by decide, by decide, by decide +kernel⟩, rfl⟩
theorem zv_X1_init : zmI 2 m_X1_init := ⟨rfl, (zall_in (zt1 (List.mem_of_getElem? (i := 142) rfl)) rfl), zini_1, zc_X1_init, ⟨by decide, by decide, by decide +kernel⟩⟩
theorem zv_X1_isOn : zmV 1 5 m_X1_isOn := ⟨(zall_in (zt2 (List.mem_of_getElem? (i := 203) rfl)) rfl), (zall_in (zt2 (List.mem_of_getElem? (i := 204) rfl)) rfl), zini_1, zc_X1_isOn, ⟨by decide, by decide, by decide +kernel⟩, rfl⟩
theorem zv_X1_find : zmV 1 4 m_X1_find := ⟨(zall_in (zt2 (List.mem_of_getElem? (i := 223) rfl)) rfl), (zall_in (zt2 (List.mem_of_getElem? (i := 224) rfl)) rfl), zini_1, zc_X1_find, ⟨by decide, by decide, by decide +kernel⟩, rfl⟩
theorem zv_X1_isNear : zmV 1 3 m_X1_isNear := ⟨(zall_in (zt2 (List.mem_of_getElem? (i := 208) rfl)) rfl), (zall_sel (zsel (List.mem_append_left _ (List.mem_of_getElem? (i := 6) rfl))) rfl), zini_1, zc_X1_isNear, ⟨by decide, by decide, by decide +kernel⟩, rfl⟩
theorem zv_X1_pageAt : zmV 1 1 m_X1_pageAt := ⟨(zall_in (zt2 (List.mem_of_getElem? (i := 228) rfl)) rfl), (zall_in (zt2 (List.mem_of_getElem? (i := 229) rfl)) rfl), zini_1, zc_X1_pageAt, ⟨by decide, by decide, by decide +kernel⟩, rfl⟩
theorem zv_X2_init : zmI 0 m_X2_init := ⟨rfl, (zall_in (zt1 (List.mem_of_getElem? (i := 119) rfl)) rfl), zini_2, zc_X2_init, ⟨by decide, by decide, by decide +kernel⟩⟩
theorem zv_X2_has : zmV 2 1 m_X2_has := ⟨(zall_in (zt1 (List.mem_of_getElem? (i := 210) rfl)) rfl), (zall_in (zt1 (List.mem_of_getElem? (i := 211) rfl)) rfl), zini_2, zc_X2_has, ⟨by decide, by decide, by decide +kernel⟩, rfl⟩
theorem zv_X2_add : zmV 2 2 m_X2_add := ⟨(zall_in (zt1 (List.mem_of_getElem? (i := 199) rfl)) rfl), (zall_in (zt1 (List.mem_of_getElem? (i := 200) rfl)) rfl), zini_2, zc_X2_add, ⟨by decide, by decide, by decide +kernel⟩, rfl⟩
theorem zv_X2_open : zmV 2 2 m_X2_open := ⟨(zall_in (zt3 (List.mem_of_getElem? (i := 5) rfl)) rfl), (zall_in (zt3 (List.mem_of_getElem? (i := 6) rfl)) rfl), zini_2, zc_X2_open, ⟨by decide, by decide, by decide +kernel⟩, rfl⟩
theorem zv_X2_measureFrom : zmV 2 1 m_X2_measureFrom := ⟨(zall_in (zt3 (List.mem_of_getElem? (i := 10) rfl)) rfl), (zall_in (zt3 (List.mem_of_getElem? (i := 11) rfl)) rfl), zini_2, zc_X2_measureFrom, ⟨by decide, by decide, by decide +kernel⟩, rfl⟩
theorem zv_X2_goOn : zmV 2 3 m_X2_goOn := ⟨(zall_in (zt3 (List.mem_of_getElem? (i := 17) rfl)) rfl), (zall_sel (zsel (List.mem_append_left _ (List.mem_of_getElem? (i := 9) rfl))) rfl), zini_2, zc_X2_goOn, ⟨by decide, by decide, by decide +kernel⟩, rfl⟩
theorem zv_X2_farOf : zmV 2 1 m_X2_farOf := ⟨(zall_in (zt3 (List.mem_of_getElem? (i := 20) rfl)) rfl), (zall_in (zt3 (List.mem_of_getElem? (i := 21) rfl)) rfl), zini_2, zc_X2_farOf, ⟨by decide, by decide, by decide +kernel⟩, rfl⟩
theorem zv_X2_wayNearer : zmV 2 1 m_X2_wayNearer := ⟨(zall_in (zt3 (List.mem_of_getElem? (i := 29) rfl)) rfl), (zall_in (zt3 (List.mem_of_getElem? (i := 30) rfl)) rfl), zini_2, zc_X2_wayNearer, ⟨by decide, by decide, by decide +kernel⟩, rfl⟩
theorem zv_X2_comeTo : zmV 2 0 m_X2_comeTo := ⟨(zall_in (zt3 (List.mem_of_getElem? (i := 37) rfl)) rfl), (zall_in (zt3 (List.mem_of_getElem? (i := 38) rfl)) rfl), zini_2, zc_X2_comeTo, ⟨by decide, by decide, by decide +kernel⟩, rfl⟩
theorem zv_X3_init : zmI 1 m_X3_init := ⟨rfl, (zall_in (zt1 (List.mem_of_getElem? (i := 46) rfl)) rfl), zini_3, zc_X3_init, ⟨by decide, by decide, by decide +kernel⟩⟩
theorem zv_X3_look : zmV 3 3 m_X3_look := ⟨(zall_in (zt2 (List.mem_of_getElem? (i := 75) rfl)) rfl), (zall_in (zt2 (List.mem_of_getElem? (i := 76) rfl)) rfl), zini_3, zc_X3_look, ⟨by decide, by decide, by decide +kernel⟩, rfl⟩
theorem zv_X3_take : zmV 3 1 m_X3_take := ⟨(zall_in (zt2 (List.mem_of_getElem? (i := 90) rfl)) rfl), (zall_sel (zsel (List.mem_append_left _ (List.mem_of_getElem? (i := 1) rfl))) rfl), zini_3, zc_X3_take, ⟨by decide, by decide, by decide +kernel⟩, rfl⟩
theorem zv_X3_insertOrder : zmV 3 2 m_X3_insertOrder := ⟨(zall_in (zt2 (List.mem_of_getElem? (i := 106) rfl)) rfl), (zall_sel (zsel (List.mem_append_left _ (List.mem_of_getElem? (i := 2) rfl))) rfl), zini_3, zc_X3_insertOrder, ⟨by decide, by decide, by decide +kernel⟩, rfl⟩
theorem zv_X3_rule : zmV 3 1 m_X3_rule := ⟨(zall_in (zt2 (List.mem_of_getElem? (i := 110) rfl)) rfl), (zall_sel (zsel (List.mem_append_left _ (List.mem_of_getElem? (i := 3) rfl))) rfl), zini_3, zc_X3_rule, ⟨by decide, by decide, by decide +kernel⟩, rfl⟩
theorem zv_X3_judge : zmV 3 0 m_X3_judge := ⟨(zall_in (zt2 (List.mem_of_getElem? (i := 118) rfl)) rfl), (zall_sel (zsel (List.mem_append_left _ (List.mem_of_getElem? (i := 4) rfl))) rfl), zini_3, zc_X3_judge, ⟨by decide, by decide, by decide +kernel⟩, rfl⟩
theorem zv_X3_hasGood : zmV 3 1 m_X3_hasGood := ⟨(zall_in (zt2 (List.mem_of_getElem? (i := 195) rfl)) rfl), (zall_in (zt2 (List.mem_of_getElem? (i := 196) rfl)) rfl), zini_3, zc_X3_hasGood, ⟨by decide, by decide, by decide +kernel⟩, rfl⟩
theorem zv_X3_weightOf : zmV 3 1 m_X3_weightOf := ⟨(zall_in (zt2 (List.mem_of_getElem? (i := 129) rfl)) rfl), (zall_in (zt2 (List.mem_of_getElem? (i := 130) rfl)) rfl), zini_3, zc_X3_weightOf, ⟨by decide, by decide, by decide +kernel⟩, rfl⟩
theorem zv_X3_ground : zmV 3 2 m_X3_ground := ⟨(zall_in (zt2 (List.mem_of_getElem? (i := 121) rfl)) rfl), (zall_in (zt2 (List.mem_of_getElem? (i := 122) rfl)) rfl), zini_3, zc_X3_ground, ⟨by decide, by decide, by decide +kernel⟩, rfl⟩
theorem zv_X3_latestGood : zmV 3 1 m_X3_latestGood := ⟨(zall_in (zt2 (List.mem_of_getElem? (i := 126) rfl)) rfl), (zall_sel (zsel (List.mem_append_left _ (List.mem_of_getElem? (i := 5) rfl))) rfl), zini_3, zc_X3_latestGood, ⟨by decide, by decide, by decide +kernel⟩, rfl⟩
theorem zv_X4_init : zmI 0 m_X4_init := ⟨rfl, (zall_in (zt1 (List.mem_of_getElem? (i := 52) rfl)) rfl), zini_4, zc_X4_init, ⟨by decide, by decide, by decide +kernel⟩⟩
theorem zv_X4_clear : zmV 4 0 m_X4_clear := ⟨(zall_in (zt2 (List.mem_of_getElem? (i := 79) rfl)) rfl), (zall_in (zt2 (List.mem_of_getElem? (i := 80) rfl)) rfl), zini_4, zc_X4_clear, ⟨by decide, by decide, by decide +kernel⟩, rfl⟩
theorem zv_X4_rule : zmV 4 3 m_X4_rule := ⟨(zall_in (zt2 (List.mem_of_getElem? (i := 113) rfl)) rfl), (zall_in (zt2 (List.mem_of_getElem? (i := 114) rfl)) rfl), zini_4, zc_X4_rule, ⟨by decide, by decide, by decide +kernel⟩, rfl⟩
theorem zv_X4_addWalk : zmV 4 4 m_X4_addWalk := ⟨(zall_in (zt2 (List.mem_of_getElem? (i := 93) rfl)) rfl), (zall_in (zt2 (List.mem_of_getElem? (i := 94) rfl)) rfl), zini_4, zc_X4_addWalk, ⟨by decide, by decide, by decide +kernel⟩, rfl⟩
theorem zv_X4_addBreak : zmV 4 1 m_X4_addBreak := ⟨(zall_in (zt2 (List.mem_of_getElem? (i := 99) rfl)) rfl), (zall_in (zt2 (List.mem_of_getElem? (i := 100) rfl)) rfl), zini_4, zc_X4_addBreak, ⟨by decide, by decide, by decide +kernel⟩, rfl⟩
theorem zv_X4_personsIn : zmV 4 2 m_X4_personsIn := ⟨(zall_in (zt2 (List.mem_of_getElem? (i := 138) rfl)) rfl), (zall_in (zt2 (List.mem_of_getElem? (i := 139) rfl)) rfl), zini_4, zc_X4_personsIn, ⟨by decide, by decide, by decide +kernel⟩, rfl⟩
theorem zv_X4_reckon : zmV 4 1 m_X4_reckon := ⟨(zall_in (zt2 (List.mem_of_getElem? (i := 133) rfl)) rfl), (zall_in (zt2 (List.mem_of_getElem? (i := 134) rfl)) rfl), zini_4, zc_X4_reckon, ⟨by decide, by decide, by decide +kernel⟩, rfl⟩
theorem zv_X4_fewIn : zmV 4 2 m_X4_fewIn := ⟨(zall_in (zt2 (List.mem_of_getElem? (i := 152) rfl)) rfl), (zall_in (zt2 (List.mem_of_getElem? (i := 153) rfl)) rfl), zini_4, zc_X4_fewIn, ⟨by decide, by decide, by decide +kernel⟩, rfl⟩
theorem zv_X4_latestEnd : zmV 4 2 m_X4_latestEnd := ⟨(zall_in (zt2 (List.mem_of_getElem? (i := 156) rfl)) rfl), (zall_in (zt2 (List.mem_of_getElem? (i := 157) rfl)) rfl), zini_4, zc_X4_latestEnd, ⟨by decide, by decide, by decide +kernel⟩, rfl⟩
theorem zv_X4_beginOf : zmV 4 1 m_X4_beginOf := ⟨(zall_in (zt2 (List.mem_of_getElem? (i := 148) rfl)) rfl), (zall_in (zt2 (List.mem_of_getElem? (i := 149) rfl)) rfl), zini_4, zc_X4_beginOf, ⟨by decide, by decide, by decide +kernel⟩, rfl⟩
theorem zv_X5_init : zmI 0 m_X5_init := ⟨rfl, (zall_in (zt1 (List.mem_of_getElem? (i := 13) rfl)) rfl), zini_5, zc_X5_init, ⟨by decide, by decide, by decide +kernel⟩⟩
theorem zv_X5_way : zmV 5 2 m_X5_way := ⟨(zall_in (zt1 (List.mem_of_getElem? (i := 189) rfl)) rfl), (zall_in (zt1 (List.mem_of_getElem? (i := 190) rfl)) rfl), zini_5, zc_X5_way, ⟨by decide, by decide, by decide +kernel⟩, rfl⟩
theorem zv_X5_walk : zmV 5 5 m_X5_walk := ⟨(zall_in (zt1 (List.mem_of_getElem? (i := 206) rfl)) rfl), (zall_in (zt1 (List.mem_of_getElem? (i := 207) rfl)) rfl), zini_5, zc_X5_walk, ⟨by decide, by decide, by decide +kernel⟩, rfl⟩
theorem zv_X5_paper : zmV 5 3 m_X5_paper := ⟨(zall_in (zt1 (List.mem_of_getElem? (i := 238) rfl)) rfl), (zall_in (zt1 (List.mem_of_getElem? (i := 239) rfl)) rfl), zini_5, zc_X5_paper, ⟨by decide, by decide, by decide +kernel⟩, rfl⟩
theorem zv_X5_broke : zmV 5 2 m_X5_broke := ⟨(zall_in (zt2 (List.mem_of_getElem? (i := 2) rfl)) rfl), (zall_in (zt2 (List.mem_of_getElem? (i := 3) rfl)) rfl), zini_5, zc_X5_broke, ⟨by decide, by decide, by decide +kernel⟩, rfl⟩
theorem zv_X5_stop : zmV 5 3 m_X5_stop := ⟨(zall_in (zt2 (List.mem_of_getElem? (i := 6) rfl)) rfl), (zall_in (zt2 (List.mem_of_getElem? (i := 7) rfl)) rfl), zini_5, zc_X5_stop, ⟨by decide, by decide, by decide +kernel⟩, rfl⟩
theorem zv_X5_make : zmV 5 4 m_X5_make := ⟨(zall_in (zt2 (List.mem_of_getElem? (i := 10) rfl)) rfl), (zall_in (zt2 (List.mem_of_getElem? (i := 11) rfl)) rfl), zini_5, zc_X5_make, ⟨by decide, by decide, by decide +kernel⟩, rfl⟩
theorem zv_X5_strike : zmV 5 1 m_X5_strike := ⟨(zall_in (zt2 (List.mem_of_getElem? (i := 14) rfl)) rfl), (zall_in (zt2 (List.mem_of_getElem? (i := 15) rfl)) rfl), zini_5, zc_X5_strike, ⟨by decide, by decide, by decide +kernel⟩, rfl⟩
theorem zv_X5_statute : zmV 5 4 m_X5_statute := ⟨(zall_in (zt2 (List.mem_of_getElem? (i := 35) rfl)) rfl), (zall_in (zt2 (List.mem_of_getElem? (i := 36) rfl)) rfl), zini_5, zc_X5_statute, ⟨by decide, by decide, by decide +kernel⟩, rfl⟩
theorem zv_X5_page : zmV 5 3 m_X5_page := ⟨(zall_in (zt2 (List.mem_of_getElem? (i := 39) rfl)) rfl), (zall_in (zt2 (List.mem_of_getElem? (i := 40) rfl)) rfl), zini_5, zc_X5_page, ⟨by decide, by decide, by decide +kernel⟩, rfl⟩
theorem zv_X5_counts : zmV 5 2 m_X5_counts := ⟨(zall_in (zt2 (List.mem_of_getElem? (i := 47) rfl)) rfl), (zall_in (zt2 (List.mem_of_getElem? (i := 48) rfl)) rfl), zini_5, zc_X5_counts, ⟨by decide, by decide, by decide +kernel⟩, rfl⟩
theorem zv_X5_persons : zmV 5 4 m_X5_persons := ⟨(zall_in (zt2 (List.mem_of_getElem? (i := 67) rfl)) rfl), (zall_in (zt2 (List.mem_of_getElem? (i := 68) rfl)) rfl), zini_5, zc_X5_persons, ⟨by decide, by decide, by decide +kernel⟩, rfl⟩
theorem zv_X5_holds : zmV 5 4 m_X5_holds := ⟨(zall_in (zt2 (List.mem_of_getElem? (i := 162) rfl)) rfl), (zall_in (zt2 (List.mem_of_getElem? (i := 163) rfl)) rfl), zini_5, zc_X5_holds, ⟨by decide, by decide, by decide +kernel⟩, rfl⟩
theorem zv_X5_lacking : zmV 5 4 m_X5_lacking := ⟨(zall_in (zt2 (List.mem_of_getElem? (i := 168) rfl)) rfl), (zall_in (zt2 (List.mem_of_getElem? (i := 169) rfl)) rfl), zini_5, zc_X5_lacking, ⟨by decide, by decide, by decide +kernel⟩, rfl⟩
theorem zv_X5_papers : zmV 5 3 m_X5_papers := ⟨(zall_in (zt2 (List.mem_of_getElem? (i := 173) rfl)) rfl), (zall_in (zt2 (List.mem_of_getElem? (i := 174) rfl)) rfl), zini_5, zc_X5_papers, ⟨by decide, by decide, by decide +kernel⟩, rfl⟩
theorem zv_X5_force : zmV 5 4 m_X5_force := ⟨(zall_in (zt2 (List.mem_of_getElem? (i := 178) rfl)) rfl), (zall_in (zt2 (List.mem_of_getElem? (i := 179) rfl)) rfl), zini_5, zc_X5_force, ⟨by decide, by decide, by decide +kernel⟩, rfl⟩
theorem zv_X5_most : zmV 5 3 m_X5_most := ⟨(zall_in (zt2 (List.mem_of_getElem? (i := 183) rfl)) rfl), (zall_in (zt2 (List.mem_of_getElem? (i := 184) rfl)) rfl), zini_5, zc_X5_most, ⟨by decide, by decide, by decide +kernel⟩, rfl⟩
theorem zv_X5_since : zmV 5 3 m_X5_since := ⟨(zall_in (zt2 (List.mem_of_getElem? (i := 187) rfl)) rfl), (zall_in (zt2 (List.mem_of_getElem? (i := 188) rfl)) rfl), zini_5, zc_X5_since, ⟨by decide, by decide, by decide +kernel⟩, rfl⟩
theorem zv_X5_good : zmV 5 2 m_X5_good := ⟨(zall_in (zt2 (List.mem_of_getElem? (i := 191) rfl)) rfl), (zall_in (zt2 (List.mem_of_getElem? (i := 192) rfl)) rfl), zini_5, zc_X5_good, ⟨by decide, by decide, by decide +kernel⟩, rfl⟩
theorem zv_X5_leans : zmV 5 5 m_X5_leans := ⟨(zall_in (zt2 (List.mem_of_getElem? (i := 199) rfl)) rfl), (zall_in (zt2 (List.mem_of_getElem? (i := 200) rfl)) rfl), zini_5, zc_X5_leans, ⟨by decide, by decide, by decide +kernel⟩, rfl⟩
theorem zv_X5_lean : zmV 5 5 m_X5_lean := ⟨(zall_in (zt2 (List.mem_of_getElem? (i := 219) rfl)) rfl), (zall_in (zt2 (List.mem_of_getElem? (i := 220) rfl)) rfl), zini_5, zc_X5_lean, ⟨by decide, by decide, by decide +kernel⟩, rfl⟩
theorem zv_X5_steps : zmV 5 5 m_X5_steps := ⟨(zall_in (zt2 (List.mem_of_getElem? (i := 233) rfl)) rfl), (zall_in (zt2 (List.mem_of_getElem? (i := 234) rfl)) rfl), zini_5, zc_X5_steps, ⟨by decide, by decide, by decide +kernel⟩, rfl⟩
theorem zv_X5_first : zmV 5 5 m_X5_first := ⟨(zall_in (zt3 (List.mem_of_getElem? (i := 25) rfl)) rfl), (zall_in (zt3 (List.mem_of_getElem? (i := 26) rfl)) rfl), zini_5, zc_X5_first, ⟨by decide, by decide, by decide +kernel⟩, rfl⟩
theorem zv_X5_reach : zmV 5 4 m_X5_reach := ⟨(zall_in (zt3 (List.mem_of_getElem? (i := 33) rfl)) rfl), (zall_in (zt3 (List.mem_of_getElem? (i := 34) rfl)) rfl), zini_5, zc_X5_reach, ⟨by decide, by decide, by decide +kernel⟩, rfl⟩
theorem zv_X5_total : zmV 5 1 m_X5_total := ⟨(zall_in (zt3 (List.mem_of_getElem? (i := 41) rfl)) rfl), (zall_in (zt3 (List.mem_of_getElem? (i := 42) rfl)) rfl), zini_5, zc_X5_total, ⟨by decide, by decide, by decide +kernel⟩, rfl⟩
theorem zv_X5_refusalOf : zmV 5 4 m_X5_refusalOf := ⟨(zall_in (zt2 (List.mem_of_getElem? (i := 72) rfl)) rfl), (zall_sel (zsel (List.mem_append_left _ (List.mem_of_getElem? (i := 0) rfl))) rfl), zini_5, zc_X5_refusalOf, ⟨by decide, by decide, by decide +kernel⟩, rfl⟩
theorem zv_X5_refusalFrom : zmV 5 4 m_X5_refusalFrom := ⟨(zall_in (zt2 (List.mem_of_getElem? (i := 238) rfl)) rfl), (zall_sel (zsel (List.mem_append_left _ (List.mem_of_getElem? (i := 7) rfl))) rfl), zini_5, zc_X5_refusalFrom, ⟨by decide, by decide, by decide +kernel⟩, rfl⟩
theorem zv_X5_measure : zmV 5 4 m_X5_measure := ⟨(zall_in (zt3 (List.mem_of_getElem? (i := 2) rfl)) rfl), (zall_sel (zsel (List.mem_append_left _ (List.mem_of_getElem? (i := 8) rfl))) rfl), zini_5, zc_X5_measure, ⟨by decide, by decide, by decide +kernel⟩, rfl⟩
theorem zv_X5_goodOrders : zmV 5 0 m_X5_goodOrders := ⟨(zall_in (zt3 (List.mem_of_getElem? (i := 46) rfl)) rfl), (zall_sel (zsel (List.mem_append_left _ (List.mem_of_getElem? (i := 10) rfl))) rfl), zini_5, zc_X5_goodOrders, ⟨by decide, by decide, by decide +kernel⟩, rfl⟩
theorem zv_X5_isWithin : zmS 3 m_X5_isWithin := ⟨(zall_in (zt1 (List.mem_of_getElem? (i := 196) rfl)) rfl), zini_5, zc_X5_isWithin, ⟨by decide, by decide, by decide +kernel⟩⟩
theorem zv_X5_isPlace : zmS 1 m_X5_isPlace := ⟨(zall_in (zt1 (List.mem_of_getElem? (i := 193) rfl)) rfl), zini_5, zc_X5_isPlace, ⟨by decide, by decide, by decide +kernel⟩⟩
theorem zv_X5_isKind : zmS 1 m_X5_isKind := ⟨(zall_in (zt1 (List.mem_of_getElem? (i := 214) rfl)) rfl), zini_5, zc_X5_isKind, ⟨by decide, by decide, by decide +kernel⟩⟩
theorem zv_X5_isYear : zmS 1 m_X5_isYear := ⟨(zall_in (zt1 (List.mem_of_getElem? (i := 217) rfl)) rfl), zini_5, zc_X5_isYear, ⟨by decide, by decide, by decide +kernel⟩⟩
theorem zv_X5_isOrder : zmS 1 m_X5_isOrder := ⟨(zall_in (zt1 (List.mem_of_getElem? (i := 224) rfl)) rfl), zini_5, zc_X5_isOrder, ⟨by decide, by decide, by decide +kernel⟩⟩
theorem zv_X5_isTakenAs : zmS 2 m_X5_isTakenAs := ⟨(zall_in (zt2 (List.mem_of_getElem? (i := 43) rfl)) rfl), zini_5, zc_X5_isTakenAs, ⟨by decide, by decide, by decide +kernel⟩⟩
theorem zv_X5_yes : zmS 1 m_X5_yes := ⟨(zall_in (zt2 (List.mem_of_getElem? (i := 64) rfl)) rfl), zini_5, zc_X5_yes, ⟨by decide, by decide, by decide +kernel⟩⟩
theorem zv_X5_at : zmS 2 m_X5_at := ⟨(zall_in (zt2 (List.mem_of_getElem? (i := 27) rfl)) rfl), zini_5, zc_X5_at, ⟨by decide, by decide, by decide +kernel⟩⟩
theorem zv_X5_put : zmS 3 m_X5_put := ⟨(zall_in (zt1 (List.mem_of_getElem? (i := 203) rfl)) rfl), zini_5, zc_X5_put, ⟨by decide, by decide, by decide +kernel⟩⟩
theorem zv_X6_init : zmI 0 m_X6_init := ⟨rfl, (zall_in (zt3 (List.mem_of_getElem? (i := 51) rfl)) rfl), zini_6, zc_X6_init, ⟨by decide, by decide, by decide +kernel⟩⟩
theorem zv_X6_in : zmS 3 m_X6_in := ⟨(zall_in (zt3 (List.mem_of_getElem? (i := 134) rfl)) rfl), zini_6, zc_X6_in, ⟨by decide, by decide, by decide +kernel⟩⟩
theorem zv_X6_noWay : zmV 6 1 m_X6_noWay := ⟨(zall_in (zt3 (List.mem_of_getElem? (i := 143) rfl)) rfl), (zall_sel (zsel (List.mem_append_left _ (List.mem_of_getElem? (i := 11) rfl))) rfl), zini_6, zc_X6_noWay, ⟨by decide, by decide, by decide +kernel⟩, rfl⟩
theorem zv_X6_noPage : zmV 6 1 m_X6_noPage := ⟨(zall_in (zt3 (List.mem_of_getElem? (i := 188) rfl)) rfl), (zall_sel (zsel (List.mem_append_left _ (List.mem_of_getElem? (i := 15) rfl))) rfl), zini_6, zc_X6_noPage, ⟨by decide, by decide, by decide +kernel⟩, rfl⟩
theorem zv_X6_noAs : zmV 6 1 m_X6_noAs := ⟨(zall_in (zt3 (List.mem_of_getElem? (i := 218) rfl)) rfl), (zall_sel (zsel (List.mem_append_right _ (List.mem_append_left _ (List.mem_of_getElem? (i := 2) rfl)))) rfl), zini_6, zc_X6_noAs, ⟨by decide, by decide, by decide +kernel⟩, rfl⟩
theorem zv_X6_noPlace : zmS 1 m_X6_noPlace := ⟨(zall_in (zt3 (List.mem_of_getElem? (i := 130) rfl)) rfl), zini_6, zc_X6_noPlace, ⟨by decide, by decide, by decide +kernel⟩⟩
theorem zv_X6_noKind : zmS 1 m_X6_noKind := ⟨(zall_in (zt3 (List.mem_of_getElem? (i := 146) rfl)) rfl), zini_6, zc_X6_noKind, ⟨by decide, by decide, by decide +kernel⟩⟩
theorem zv_X6_noYear : zmS 1 m_X6_noYear := ⟨(zall_in (zt3 (List.mem_of_getElem? (i := 166) rfl)) rfl), zini_6, zc_X6_noYear, ⟨by decide, by decide, by decide +kernel⟩⟩
theorem zv_X6_get : zmV 6 2 m_X6_get := ⟨(zall_in (zt3 (List.mem_of_getElem? (i := 196) rfl)) rfl), (zall_sel (zsel (List.mem_append_right _ (List.mem_append_left _ (List.mem_of_getElem? (i := 1) rfl)))) rfl), zini_6, zc_X6_get, ⟨by decide, by decide, by decide +kernel⟩, rfl⟩
theorem zv_X6_look : zmV 6 1 m_X6_look := ⟨(zall_in (zt3 (List.mem_of_getElem? (i := 192) rfl)) rfl), (zall_sel (zsel (List.mem_append_right _ (List.mem_append_left _ (List.mem_of_getElem? (i := 0) rfl)))) rfl), zini_6, zc_X6_look, ⟨by decide, by decide, by decide +kernel⟩, rfl⟩
theorem zv_X6_bits : zmS 1 m_X6_bits := ⟨(zall_in (zt3 (List.mem_of_getElem? (i := 233) rfl)) rfl), zini_6, zc_X6_bits, ⟨by decide, by decide, by decide +kernel⟩⟩
theorem zv_X6_walks : zmV 6 2 m_X6_walks := ⟨(zall_in (zt3 (List.mem_of_getElem? (i := 230) rfl)) rfl), (zall_sel (zsel (List.mem_append_right _ (List.mem_append_left _ (List.mem_of_getElem? (i := 4) rfl)))) rfl), zini_6, zc_X6_walks, ⟨by decide, by decide, by decide +kernel⟩, rfl⟩
theorem zv_X6_breaks : zmV 6 1 m_X6_breaks := ⟨(zall_in (zt4 (List.mem_of_getElem? (i := 5) rfl)) rfl), (zall_sel (zsel (List.mem_append_right _ (List.mem_append_left _ (List.mem_of_getElem? (i := 6) rfl)))) rfl), zini_6, zc_X6_breaks, ⟨by decide, by decide, by decide +kernel⟩, rfl⟩
theorem zv_X6_few : zmV 6 1 m_X6_few := ⟨(zall_in (zt4 (List.mem_of_getElem? (i := 9) rfl)) rfl), (zall_sel (zsel (List.mem_append_right _ (List.mem_append_left _ (List.mem_of_getElem? (i := 7) rfl)))) rfl), zini_6, zc_X6_few, ⟨by decide, by decide, by decide +kernel⟩, rfl⟩
theorem zv_X6_spans : zmV 6 1 m_X6_spans := ⟨(zall_in (zt4 (List.mem_of_getElem? (i := 1) rfl)) rfl), (zall_sel (zsel (List.mem_append_right _ (List.mem_append_left _ (List.mem_of_getElem? (i := 5) rfl)))) rfl), zini_6, zc_X6_spans, ⟨by decide, by decide, by decide +kernel⟩, rfl⟩
theorem zv_X6_papersOf : zmV 6 2 m_X6_papersOf := ⟨(zall_in (zt4 (List.mem_of_getElem? (i := 21) rfl)) rfl), (zall_sel (zsel (List.mem_append_right _ (List.mem_append_left _ (List.mem_of_getElem? (i := 8) rfl)))) rfl), zini_6, zc_X6_papersOf, ⟨by decide, by decide, by decide +kernel⟩, rfl⟩
theorem zv_X6_isAhead : zmV 6 2 m_X6_isAhead := ⟨(zall_in (zt4 (List.mem_of_getElem? (i := 33) rfl)) rfl), (zall_sel (zsel (List.mem_append_right _ (List.mem_append_left _ (List.mem_of_getElem? (i := 10) rfl)))) rfl), zini_6, zc_X6_isAhead, ⟨by decide, by decide, by decide +kernel⟩, rfl⟩
theorem zv_X6_prepare : zmV 6 1 m_X6_prepare := ⟨(zall_in (zt4 (List.mem_of_getElem? (i := 29) rfl)) rfl), (zall_sel (zsel (List.mem_append_right _ (List.mem_append_left _ (List.mem_of_getElem? (i := 9) rfl)))) rfl), zini_6, zc_X6_prepare, ⟨by decide, by decide, by decide +kernel⟩, rfl⟩
theorem zv_X6_forceOf : zmV 6 3 m_X6_forceOf := ⟨(zall_in (zt4 (List.mem_of_getElem? (i := 37) rfl)) rfl), (zall_sel (zsel (List.mem_append_right _ (List.mem_append_left _ (List.mem_of_getElem? (i := 11) rfl)))) rfl), zini_6, zc_X6_forceOf, ⟨by decide, by decide, by decide +kernel⟩, rfl⟩
theorem zv_X6_way : zmV 6 2 m_X6_way := ⟨(zall_in (zt3 (List.mem_of_getElem? (i := 126) rfl)) rfl), (zall_in (zt3 (List.mem_of_getElem? (i := 127) rfl)) rfl), zini_6, zc_X6_way, ⟨by decide, by decide, by decide +kernel⟩, rfl⟩
theorem zv_X6_write : zmV 6 4 m_X6_write := ⟨(zall_in (zt3 (List.mem_of_getElem? (i := 151) rfl)) rfl), (zall_sel (zsel (List.mem_append_left _ (List.mem_of_getElem? (i := 12) rfl))) rfl), zini_6, zc_X6_write, ⟨by decide, by decide, by decide +kernel⟩, rfl⟩
theorem zv_X6_tell : zmV 6 2 m_X6_tell := ⟨(zall_in (zt3 (List.mem_of_getElem? (i := 155) rfl)) rfl), (zall_sel (zsel (List.mem_append_left _ (List.mem_of_getElem? (i := 13) rfl))) rfl), zini_6, zc_X6_tell, ⟨by decide, by decide, by decide +kernel⟩, rfl⟩
theorem zv_X6_walk : zmV 6 5 m_X6_walk := ⟨(zall_in (zt3 (List.mem_of_getElem? (i := 137) rfl)) rfl), (zall_in (zt3 (List.mem_of_getElem? (i := 138) rfl)) rfl), zini_6, zc_X6_walk, ⟨by decide, by decide, by decide +kernel⟩, rfl⟩
theorem zv_X6_paper : zmV 6 3 m_X6_paper := ⟨(zall_in (zt3 (List.mem_of_getElem? (i := 158) rfl)) rfl), (zall_in (zt3 (List.mem_of_getElem? (i := 159) rfl)) rfl), zini_6, zc_X6_paper, ⟨by decide, by decide, by decide +kernel⟩, rfl⟩
theorem zv_X6_broke : zmV 6 2 m_X6_broke := ⟨(zall_in (zt3 (List.mem_of_getElem? (i := 162) rfl)) rfl), (zall_in (zt3 (List.mem_of_getElem? (i := 163) rfl)) rfl), zini_6, zc_X6_broke, ⟨by decide, by decide, by decide +kernel⟩, rfl⟩
theorem zv_X6_ordered : zmV 6 5 m_X6_ordered := ⟨(zall_in (zt3 (List.mem_of_getElem? (i := 176) rfl)) rfl), (zall_sel (zsel (List.mem_append_left _ (List.mem_of_getElem? (i := 14) rfl))) rfl), zini_6, zc_X6_ordered, ⟨by decide, by decide, by decide +kernel⟩, rfl⟩
theorem zv_X6_stop : zmV 6 3 m_X6_stop := ⟨(zall_in (zt3 (List.mem_of_getElem? (i := 170) rfl)) rfl), (zall_in (zt3 (List.mem_of_getElem? (i := 171) rfl)) rfl), zini_6, zc_X6_stop, ⟨by decide, by decide, by decide +kernel⟩, rfl⟩
theorem zv_X6_make : zmV 6 4 m_X6_make := ⟨(zall_in (zt3 (List.mem_of_getElem? (i := 179) rfl)) rfl), (zall_in (zt3 (List.mem_of_getElem? (i := 180) rfl)) rfl), zini_6, zc_X6_make, ⟨by decide, by decide, by decide +kernel⟩, rfl⟩
theorem zv_X6_strike : zmV 6 1 m_X6_strike := ⟨(zall_in (zt3 (List.mem_of_getElem? (i := 183) rfl)) rfl), (zall_in (zt3 (List.mem_of_getElem? (i := 184) rfl)) rfl), zini_6, zc_X6_strike, ⟨by decide, by decide, by decide +kernel⟩, rfl⟩
theorem zv_X6_statute : zmV 6 4 m_X6_statute := ⟨(zall_in (zt3 (List.mem_of_getElem? (i := 199) rfl)) rfl), (zall_in (zt3 (List.mem_of_getElem? (i := 200) rfl)) rfl), zini_6, zc_X6_statute, ⟨by decide, by decide, by decide +kernel⟩, rfl⟩
theorem zv_X6_page : zmV 6 3 m_X6_page := ⟨(zall_in (zt3 (List.mem_of_getElem? (i := 207) rfl)) rfl), (zall_in (zt3 (List.mem_of_getElem? (i := 208) rfl)) rfl), zini_6, zc_X6_page, ⟨by decide, by decide, by decide +kernel⟩, rfl⟩
theorem zv_X6_counts : zmV 6 2 m_X6_counts := ⟨(zall_in (zt3 (List.mem_of_getElem? (i := 213) rfl)) rfl), (zall_in (zt3 (List.mem_of_getElem? (i := 214) rfl)) rfl), zini_6, zc_X6_counts, ⟨by decide, by decide, by decide +kernel⟩, rfl⟩
theorem zv_X6_no : zmV 6 4 m_X6_no := ⟨(zall_in (zt3 (List.mem_of_getElem? (i := 226) rfl)) rfl), (zall_sel (zsel (List.mem_append_right _ (List.mem_append_left _ (List.mem_of_getElem? (i := 3) rfl)))) rfl), zini_6, zc_X6_no, ⟨by decide, by decide, by decide +kernel⟩, rfl⟩
theorem zv_X6_persons : zmV 6 4 m_X6_persons := ⟨(zall_in (zt3 (List.mem_of_getElem? (i := 221) rfl)) rfl), (zall_in (zt3 (List.mem_of_getElem? (i := 222) rfl)) rfl), zini_6, zc_X6_persons, ⟨by decide, by decide, by decide +kernel⟩, rfl⟩
theorem zv_X6_holds : zmV 6 4 m_X6_holds := ⟨(zall_in (zt3 (List.mem_of_getElem? (i := 236) rfl)) rfl), (zall_in (zt3 (List.mem_of_getElem? (i := 237) rfl)) rfl), zini_6, zc_X6_holds, ⟨by decide, by decide, by decide +kernel⟩, rfl⟩
theorem zv_X6_lacking : zmV 6 4 m_X6_lacking := ⟨(zall_in (zt4 (List.mem_of_getElem? (i := 12) rfl)) rfl), (zall_in (zt4 (List.mem_of_getElem? (i := 13) rfl)) rfl), zini_6, zc_X6_lacking, ⟨by decide, by decide, by decide +kernel⟩, rfl⟩
theorem zv_X6_papers : zmV 6 3 m_X6_papers := ⟨(zall_in (zt4 (List.mem_of_getElem? (i := 16) rfl)) rfl), (zall_in (zt4 (List.mem_of_getElem? (i := 17) rfl)) rfl), zini_6, zc_X6_papers, ⟨by decide, by decide, by decide +kernel⟩, rfl⟩
theorem zv_X6_force : zmV 6 4 m_X6_force := ⟨(zall_in (zt4 (List.mem_of_getElem? (i := 24) rfl)) rfl), (zall_in (zt4 (List.mem_of_getElem? (i := 25) rfl)) rfl), zini_6, zc_X6_force, ⟨by decide, by decide, by decide +kernel⟩, rfl⟩
theorem zv_X6_most : zmV 6 3 m_X6_most := ⟨(zall_in (zt4 (List.mem_of_getElem? (i := 40) rfl)) rfl), (zall_in (zt4 (List.mem_of_getElem? (i := 41) rfl)) rfl), zini_6, zc_X6_most, ⟨by decide, by decide, by decide +kernel⟩, rfl⟩
theorem zv_X6_since : zmV 6 3 m_X6_since := ⟨(zall_in (zt4 (List.mem_of_getElem? (i := 44) rfl)) rfl), (zall_in (zt4 (List.mem_of_getElem? (i := 45) rfl)) rfl), zini_6, zc_X6_since, ⟨by decide, by decide, by decide +kernel⟩, rfl⟩
theorem zv_X6_goodOf : zmV 6 1 m_X6_goodOf := ⟨(zall_in (zt4 (List.mem_of_getElem? (i := 53) rfl)) rfl), (zall_sel (zsel (List.mem_append_right _ (List.mem_append_left _ (List.mem_of_getElem? (i := 12) rfl)))) rfl), zini_6, zc_X6_goodOf, ⟨by decide, by decide, by decide +kernel⟩, rfl⟩
theorem zv_X6_good : zmV 6 2 m_X6_good := ⟨(zall_in (zt4 (List.mem_of_getElem? (i := 48) rfl)) rfl), (zall_in (zt4 (List.mem_of_getElem? (i := 49) rfl)) rfl), zini_6, zc_X6_good, ⟨by decide, by decide, by decide +kernel⟩, rfl⟩
theorem zv_X6_forceAs : zmV 6 4 m_X6_forceAs := ⟨(zall_in (zt4 (List.mem_of_getElem? (i := 61) rfl)) rfl), (zall_sel (zsel (List.mem_append_right _ (List.mem_append_left _ (List.mem_of_getElem? (i := 13) rfl)))) rfl), zini_6, zc_X6_forceAs, ⟨by decide, by decide, by decide +kernel⟩, rfl⟩
theorem zv_X6_leansOn : zmV 6 6 m_X6_leansOn := ⟨(zall_in (zt4 (List.mem_of_getElem? (i := 65) rfl)) rfl), (zall_sel (zsel (List.mem_append_right _ (List.mem_append_left _ (List.mem_of_getElem? (i := 14) rfl)))) rfl), zini_6, zc_X6_leansOn, ⟨by decide, by decide, by decide +kernel⟩, rfl⟩
theorem zv_X6_leans : zmV 6 5 m_X6_leans := ⟨(zall_in (zt4 (List.mem_of_getElem? (i := 56) rfl)) rfl), (zall_in (zt4 (List.mem_of_getElem? (i := 57) rfl)) rfl), zini_6, zc_X6_leans, ⟨by decide, by decide, by decide +kernel⟩, rfl⟩
theorem zv_X6_lean : zmV 6 5 m_X6_lean := ⟨(zall_in (zt4 (List.mem_of_getElem? (i := 68) rfl)) rfl), (zall_in (zt4 (List.mem_of_getElem? (i := 69) rfl)) rfl), zini_6, zc_X6_lean, ⟨by decide, by decide, by decide +kernel⟩, rfl⟩
theorem zv_X6_spread : zmV 6 4 m_X6_spread := ⟨(zall_in (zt4 (List.mem_of_getElem? (i := 81) rfl)) rfl), (zall_sel (zsel (List.mem_append_right _ (List.mem_append_right _ (List.mem_of_getElem? (i := 0) rfl)))) rfl), zini_6, zc_X6_spread, ⟨by decide, by decide, by decide +kernel⟩, rfl⟩
theorem zv_X6_noWalk : zmV 6 5 m_X6_noWalk := ⟨(zall_in (zt4 (List.mem_of_getElem? (i := 77) rfl)) rfl), (zall_sel (zsel (List.mem_append_right _ (List.mem_append_left _ (List.mem_of_getElem? (i := 15) rfl)))) rfl), zini_6, zc_X6_noWalk, ⟨by decide, by decide, by decide +kernel⟩, rfl⟩
theorem zv_X6_steps : zmV 6 5 m_X6_steps := ⟨(zall_in (zt4 (List.mem_of_getElem? (i := 72) rfl)) rfl), (zall_in (zt4 (List.mem_of_getElem? (i := 73) rfl)) rfl), zini_6, zc_X6_steps, ⟨by decide, by decide, by decide +kernel⟩, rfl⟩
theorem zv_X6_first : zmV 6 5 m_X6_first := ⟨(zall_in (zt4 (List.mem_of_getElem? (i := 84) rfl)) rfl), (zall_in (zt4 (List.mem_of_getElem? (i := 85) rfl)) rfl), zini_6, zc_X6_first, ⟨by decide, by decide, by decide +kernel⟩, rfl⟩
theorem zv_X6_reach : zmV 6 4 m_X6_reach := ⟨(zall_in (zt4 (List.mem_of_getElem? (i := 88) rfl)) rfl), (zall_in (zt4 (List.mem_of_getElem? (i := 89) rfl)) rfl), zini_6, zc_X6_reach, ⟨by decide, by decide, by decide +kernel⟩, rfl⟩
theorem zv_X6_total : zmV 6 1 m_X6_total := ⟨(zall_in (zt4 (List.mem_of_getElem? (i := 92) rfl)) rfl), (zall_in (zt4 (List.mem_of_getElem? (i := 93) rfl)) rfl), zini_6, zc_X6_total, ⟨by decide, by decide, by decide +kernel⟩, rfl⟩
theorem zv_J6_bitCount_0f7a4 : zmS 1 m_J6_bitCount_0f7a4 := ⟨(zall_in (zt2 (List.mem_of_getElem? (i := 142) rfl)) rfl), zini_7, zc_J6_bitCount_0f7a4, ⟨by decide, by decide, by decide +kernel⟩⟩
theorem zv_J7_fill_53178 : zmS 2 m_J7_fill_53178 := ⟨(zall_in (zt2 (List.mem_of_getElem? (i := 83) rfl)) rfl), zini_8, zc_J7_fill_53178, ⟨by decide, by decide, by decide +kernel⟩⟩
def zlk (own idx : Nat) (m : ZM) : Prop := Cond.methodLink (zcn own) idx m.1 ∈ zall ∨ (zcn own, idx, m.1, "ShireWays") ∈ znestM
theorem k_0_28 : zlk 0 28 m_X0_has := Or.inl (zall_in (zt1 (List.mem_of_getElem? (i := 230) rfl)) rfl)
theorem k_0_32 : zlk 0 32 m_X5_isOrder := Or.inr (List.mem_of_getElem? (i := 4) rfl)
theorem k_0_35 : zlk 0 35 m_X0_tell := Or.inl (zall_in (zt1 (List.mem_of_getElem? (i := 226) rfl)) rfl)
theorem k_0_39 : zlk 0 39 m_X5_put := Or.inr (List.mem_of_getElem? (i := 6) rfl)
theorem k_0_43 : zlk 0 43 m_X0_add := Or.inl (zall_in (zt2 (List.mem_of_getElem? (i := 33) rfl)) rfl)
theorem k_0_47 : zlk 0 47 m_X5_isWithin := Or.inr (List.mem_of_getElem? (i := 5) rfl)
theorem k_0_51 : zlk 0 51 m_X5_at := Or.inr (List.mem_of_getElem? (i := 7) rfl)
theorem k_0_55 : zlk 0 55 m_X0_strikeOn := Or.inl (zall_in (zt2 (List.mem_of_getElem? (i := 62) rfl)) rfl)
theorem k_0_58 : zlk 0 58 m_X0_read := Or.inl (zall_in (zt2 (List.mem_of_getElem? (i := 215) rfl)) rfl)
theorem k_1_41 : zlk 1 41 m_X3_init := Or.inl (zall_in (zt1 (List.mem_of_getElem? (i := 146) rfl)) rfl)
theorem k_1_47 : zlk 1 47 m_X1_isNear := Or.inl (zall_in (zt2 (List.mem_of_getElem? (i := 206) rfl)) rfl)
theorem k_1_51 : zlk 1 51 m_X3_look := Or.inl (zall_in (zt2 (List.mem_of_getElem? (i := 216) rfl)) rfl)
theorem k_1_55 : zlk 1 55 m_X3_ground := Or.inl (zall_in (zt2 (List.mem_of_getElem? (i := 217) rfl)) rfl)
theorem k_1_59 : zlk 1 59 m_X5_put := Or.inr (List.mem_of_getElem? (i := 13) rfl)
theorem k_1_63 : zlk 1 63 m_X0_isCounted := Or.inl (zall_in (zt2 (List.mem_of_getElem? (i := 210) rfl)) rfl)
theorem k_1_68 : zlk 1 68 m_X0_bearsOn := Or.inl (zall_in (zt2 (List.mem_of_getElem? (i := 211) rfl)) rfl)
theorem k_1_72 : zlk 1 72 m_X5_at := Or.inr (List.mem_of_getElem? (i := 14) rfl)
theorem k_2_28 : zlk 2 28 m_X5_put := Or.inr (List.mem_of_getElem? (i := 3) rfl)
theorem k_2_32 : zlk 2 32 m_X5_yes := Or.inr (List.mem_of_getElem? (i := 15) rfl)
theorem k_2_36 : zlk 2 36 m_J7_fill_53178 := Or.inl (zall_in (zt3 (List.mem_of_getElem? (i := 13) rfl)) rfl)
theorem k_2_42 : zlk 2 42 m_X5_at := Or.inr (List.mem_of_getElem? (i := 16) rfl)
theorem k_2_46 : zlk 2 46 m_X2_goOn := Or.inl (zall_in (zt3 (List.mem_of_getElem? (i := 15) rfl)) rfl)
theorem k_2_50 : zlk 2 50 m_X2_farOf := Or.inl (zall_in (zt3 (List.mem_of_getElem? (i := 19) rfl)) rfl)
theorem k_3_11 : zlk 3 11 m_X4_init := Or.inr (List.mem_of_getElem? (i := 1) rfl)
theorem k_3_51 : zlk 3 51 m_X4_clear := Or.inl (zall_in (zt2 (List.mem_of_getElem? (i := 78) rfl)) rfl)
theorem k_3_54 : zlk 3 54 m_J7_fill_53178 := Or.inl (zall_in (zt2 (List.mem_of_getElem? (i := 85) rfl)) rfl)
theorem k_3_60 : zlk 3 60 m_X0_isCounted := Or.inl (zall_in (zt2 (List.mem_of_getElem? (i := 86) rfl)) rfl)
theorem k_3_66 : zlk 3 66 m_X0_read := Or.inl (zall_in (zt2 (List.mem_of_getElem? (i := 87) rfl)) rfl)
theorem k_3_70 : zlk 3 70 m_X3_take := Or.inl (zall_in (zt2 (List.mem_of_getElem? (i := 88) rfl)) rfl)
theorem k_3_74 : zlk 3 74 m_X3_rule := Or.inl (zall_in (zt2 (List.mem_of_getElem? (i := 108) rfl)) rfl)
theorem k_3_77 : zlk 3 77 m_X3_judge := Or.inl (zall_in (zt2 (List.mem_of_getElem? (i := 116) rfl)) rfl)
theorem k_3_80 : zlk 3 80 m_X4_addWalk := Or.inl (zall_in (zt2 (List.mem_of_getElem? (i := 92) rfl)) rfl)
theorem k_3_84 : zlk 3 84 m_X5_at := Or.inr (List.mem_of_getElem? (i := 8) rfl)
theorem k_3_88 : zlk 3 88 m_X5_put := Or.inr (List.mem_of_getElem? (i := 9) rfl)
theorem k_3_92 : zlk 3 92 m_X4_addBreak := Or.inl (zall_in (zt2 (List.mem_of_getElem? (i := 98) rfl)) rfl)
theorem k_3_95 : zlk 3 95 m_X5_isOrder := Or.inr (List.mem_of_getElem? (i := 11) rfl)
theorem k_3_99 : zlk 3 99 m_X3_insertOrder := Or.inl (zall_in (zt2 (List.mem_of_getElem? (i := 104) rfl)) rfl)
theorem k_3_103 : zlk 3 103 m_X4_rule := Or.inl (zall_in (zt2 (List.mem_of_getElem? (i := 112) rfl)) rfl)
theorem k_3_106 : zlk 3 106 m_X3_ground := Or.inl (zall_in (zt2 (List.mem_of_getElem? (i := 120) rfl)) rfl)
theorem k_3_109 : zlk 3 109 m_X3_latestGood := Or.inl (zall_in (zt2 (List.mem_of_getElem? (i := 124) rfl)) rfl)
theorem k_3_113 : zlk 3 113 m_X3_weightOf := Or.inl (zall_in (zt2 (List.mem_of_getElem? (i := 128) rfl)) rfl)
theorem k_3_116 : zlk 3 116 m_X4_reckon := Or.inl (zall_in (zt2 (List.mem_of_getElem? (i := 132) rfl)) rfl)
theorem k_3_119 : zlk 3 119 m_X4_latestEnd := Or.inl (zall_in (zt2 (List.mem_of_getElem? (i := 155) rfl)) rfl)
theorem k_3_122 : zlk 3 122 m_X4_beginOf := Or.inl (zall_in (zt2 (List.mem_of_getElem? (i := 159) rfl)) rfl)
theorem k_4_37 : zlk 4 37 m_J7_fill_53178 := Or.inl (zall_in (zt2 (List.mem_of_getElem? (i := 82) rfl)) rfl)
theorem k_4_43 : zlk 4 43 m_X5_put := Or.inr (List.mem_of_getElem? (i := 10) rfl)
theorem k_4_47 : zlk 4 47 m_J6_bitCount_0f7a4 := Or.inl (zall_in (zt2 (List.mem_of_getElem? (i := 141) rfl)) rfl)
theorem k_4_53 : zlk 4 53 m_X5_at := Or.inr (List.mem_of_getElem? (i := 12) rfl)
theorem k_4_57 : zlk 4 57 m_X4_personsIn := Or.inl (zall_in (zt2 (List.mem_of_getElem? (i := 137) rfl)) rfl)
theorem k_4_61 : zlk 4 61 m_X4_beginOf := Or.inl (zall_in (zt2 (List.mem_of_getElem? (i := 147) rfl)) rfl)
theorem k_4_64 : zlk 4 64 m_X4_fewIn := Or.inl (zall_in (zt2 (List.mem_of_getElem? (i := 151) rfl)) rfl)
theorem k_5_9 : zlk 5 9 m_X0_init := Or.inr (List.mem_of_getElem? (i := 0) rfl)
theorem k_5_12 : zlk 5 12 m_X3_init := Or.inl (zall_in (zt1 (List.mem_of_getElem? (i := 45) rfl)) rfl)
theorem k_5_23 : zlk 5 23 m_X2_init := Or.inr (List.mem_of_getElem? (i := 2) rfl)
theorem k_5_34 : zlk 5 34 m_X1_init := Or.inl (zall_in (zt1 (List.mem_of_getElem? (i := 141) rfl)) rfl)
theorem k_5_41 : zlk 5 41 m_X5_isPlace := Or.inl (zall_in (zt1 (List.mem_of_getElem? (i := 192) rfl)) rfl)
theorem k_5_45 : zlk 5 45 m_X2_add := Or.inl (zall_in (zt1 (List.mem_of_getElem? (i := 198) rfl)) rfl)
theorem k_5_49 : zlk 5 49 m_X5_isWithin := Or.inl (zall_in (zt1 (List.mem_of_getElem? (i := 195) rfl)) rfl)
theorem k_5_53 : zlk 5 53 m_X2_has := Or.inl (zall_in (zt1 (List.mem_of_getElem? (i := 209) rfl)) rfl)
theorem k_5_56 : zlk 5 56 m_X5_isKind := Or.inl (zall_in (zt1 (List.mem_of_getElem? (i := 213) rfl)) rfl)
theorem k_5_59 : zlk 5 59 m_X5_isYear := Or.inl (zall_in (zt1 (List.mem_of_getElem? (i := 216) rfl)) rfl)
theorem k_5_62 : zlk 5 62 m_X0_add := Or.inl (zall_in (zt1 (List.mem_of_getElem? (i := 219) rfl)) rfl)
theorem k_5_65 : zlk 5 65 m_X0_tell := Or.inl (zall_in (zt1 (List.mem_of_getElem? (i := 236) rfl)) rfl)
theorem k_5_69 : zlk 5 69 m_X0_has := Or.inl (zall_in (zt2 (List.mem_of_getElem? (i := 17) rfl)) rfl)
theorem k_5_70 : zlk 5 70 m_X0_read := Or.inl (zall_in (zt2 (List.mem_of_getElem? (i := 18) rfl)) rfl)
theorem k_5_73 : zlk 5 73 m_X0_strikeOn := Or.inl (zall_in (zt2 (List.mem_of_getElem? (i := 22) rfl)) rfl)
theorem k_5_76 : zlk 5 76 m_X0_addStrike := Or.inl (zall_in (zt2 (List.mem_of_getElem? (i := 29) rfl)) rfl)
theorem k_5_79 : zlk 5 79 m_X5_isTakenAs := Or.inl (zall_in (zt2 (List.mem_of_getElem? (i := 42) rfl)) rfl)
theorem k_5_83 : zlk 5 83 m_X0_hasAs := Or.inl (zall_in (zt2 (List.mem_of_getElem? (i := 50) rfl)) rfl)
theorem k_5_86 : zlk 5 86 m_X0_lastOf := Or.inl (zall_in (zt2 (List.mem_of_getElem? (i := 54) rfl)) rfl)
theorem k_5_89 : zlk 5 89 m_X0_isCounted := Or.inl (zall_in (zt2 (List.mem_of_getElem? (i := 58) rfl)) rfl)
theorem k_5_92 : zlk 5 92 m_X5_yes := Or.inl (zall_in (zt2 (List.mem_of_getElem? (i := 63) rfl)) rfl)
theorem k_5_96 : zlk 5 96 m_X5_refusalOf := Or.inl (zall_in (zt2 (List.mem_of_getElem? (i := 70) rfl)) rfl)
theorem k_5_100 : zlk 5 100 m_X3_look := Or.inl (zall_in (zt2 (List.mem_of_getElem? (i := 74) rfl)) rfl)
theorem k_5_107 : zlk 5 107 m_X4_personsIn := Or.inl (zall_in (zt2 (List.mem_of_getElem? (i := 160) rfl)) rfl)
theorem k_5_112 : zlk 5 112 m_X4_reckon := Or.inl (zall_in (zt2 (List.mem_of_getElem? (i := 165) rfl)) rfl)
theorem k_5_116 : zlk 5 116 m_X4_latestEnd := Or.inl (zall_in (zt2 (List.mem_of_getElem? (i := 166) rfl)) rfl)
theorem k_5_119 : zlk 5 119 m_X4_fewIn := Or.inl (zall_in (zt2 (List.mem_of_getElem? (i := 171) rfl)) rfl)
theorem k_5_122 : zlk 5 122 m_X3_weightOf := Or.inl (zall_in (zt2 (List.mem_of_getElem? (i := 176) rfl)) rfl)
theorem k_5_125 : zlk 5 125 m_X3_ground := Or.inl (zall_in (zt2 (List.mem_of_getElem? (i := 181) rfl)) rfl)
theorem k_5_128 : zlk 5 128 m_X5_isOrder := Or.inl (zall_in (zt2 (List.mem_of_getElem? (i := 45) rfl)) rfl)
theorem k_5_131 : zlk 5 131 m_X3_hasGood := Or.inl (zall_in (zt2 (List.mem_of_getElem? (i := 194) rfl)) rfl)
theorem k_5_134 : zlk 5 134 m_X1_isOn := Or.inl (zall_in (zt2 (List.mem_of_getElem? (i := 202) rfl)) rfl)
theorem k_5_138 : zlk 5 138 m_X1_find := Or.inl (zall_in (zt2 (List.mem_of_getElem? (i := 222) rfl)) rfl)
theorem k_5_142 : zlk 5 142 m_X1_pageAt := Or.inl (zall_in (zt2 (List.mem_of_getElem? (i := 227) rfl)) rfl)
theorem k_5_145 : zlk 5 145 m_X5_refusalFrom := Or.inl (zall_in (zt2 (List.mem_of_getElem? (i := 236) rfl)) rfl)
theorem k_5_148 : zlk 5 148 m_X5_measure := Or.inl (zall_in (zt3 (List.mem_of_getElem? (i := 0) rfl)) rfl)
theorem k_5_151 : zlk 5 151 m_X2_farOf := Or.inl (zall_in (zt3 (List.mem_of_getElem? (i := 23) rfl)) rfl)
theorem k_5_154 : zlk 5 154 m_X2_wayNearer := Or.inl (zall_in (zt3 (List.mem_of_getElem? (i := 28) rfl)) rfl)
theorem k_5_157 : zlk 5 157 m_X2_comeTo := Or.inl (zall_in (zt3 (List.mem_of_getElem? (i := 36) rfl)) rfl)
theorem k_5_169 : zlk 5 169 m_X5_goodOrders := Or.inl (zall_in (zt3 (List.mem_of_getElem? (i := 44) rfl)) rfl)
theorem k_5_172 : zlk 5 172 m_X2_open := Or.inl (zall_in (zt3 (List.mem_of_getElem? (i := 4) rfl)) rfl)
theorem k_5_176 : zlk 5 176 m_X2_measureFrom := Or.inl (zall_in (zt3 (List.mem_of_getElem? (i := 9) rfl)) rfl)
theorem k_6_57 : zlk 6 57 m_X6_in := Or.inl (zall_in (zt3 (List.mem_of_getElem? (i := 133) rfl)) rfl)
theorem k_6_64 : zlk 6 64 m_X6_noPage := Or.inl (zall_in (zt3 (List.mem_of_getElem? (i := 186) rfl)) rfl)
theorem k_6_77 : zlk 6 77 m_X6_get := Or.inl (zall_in (zt3 (List.mem_of_getElem? (i := 194) rfl)) rfl)
theorem k_6_93 : zlk 6 93 m_X6_bits := Or.inl (zall_in (zt3 (List.mem_of_getElem? (i := 232) rfl)) rfl)
theorem k_6_97 : zlk 6 97 m_X6_breaks := Or.inl (zall_in (zt4 (List.mem_of_getElem? (i := 3) rfl)) rfl)
theorem k_6_101 : zlk 6 101 m_X6_walks := Or.inl (zall_in (zt3 (List.mem_of_getElem? (i := 228) rfl)) rfl)
theorem k_6_105 : zlk 6 105 m_X6_few := Or.inl (zall_in (zt4 (List.mem_of_getElem? (i := 7) rfl)) rfl)
theorem k_6_108 : zlk 6 108 m_X6_spans := Or.inl (zall_in (zt3 (List.mem_of_getElem? (i := 239) rfl)) rfl)
theorem k_6_114 : zlk 6 114 m_X6_isAhead := Or.inl (zall_in (zt4 (List.mem_of_getElem? (i := 31) rfl)) rfl)
theorem k_6_118 : zlk 6 118 m_X6_forceOf := Or.inl (zall_in (zt4 (List.mem_of_getElem? (i := 35) rfl)) rfl)
theorem k_6_122 : zlk 6 122 m_X6_papersOf := Or.inl (zall_in (zt4 (List.mem_of_getElem? (i := 19) rfl)) rfl)
theorem k_6_125 : zlk 6 125 m_X6_noPlace := Or.inl (zall_in (zt3 (List.mem_of_getElem? (i := 129) rfl)) rfl)
theorem k_6_130 : zlk 6 130 m_X6_noWay := Or.inl (zall_in (zt3 (List.mem_of_getElem? (i := 141) rfl)) rfl)
theorem k_6_133 : zlk 6 133 m_X6_noKind := Or.inl (zall_in (zt3 (List.mem_of_getElem? (i := 145) rfl)) rfl)
theorem k_6_136 : zlk 6 136 m_X6_write := Or.inl (zall_in (zt3 (List.mem_of_getElem? (i := 149) rfl)) rfl)
theorem k_6_140 : zlk 6 140 m_X6_tell := Or.inl (zall_in (zt3 (List.mem_of_getElem? (i := 153) rfl)) rfl)
theorem k_6_143 : zlk 6 143 m_X6_noYear := Or.inl (zall_in (zt3 (List.mem_of_getElem? (i := 165) rfl)) rfl)
theorem k_6_151 : zlk 6 151 m_X6_ordered := Or.inl (zall_in (zt3 (List.mem_of_getElem? (i := 174) rfl)) rfl)
theorem k_6_155 : zlk 6 155 m_X6_look := Or.inl (zall_in (zt3 (List.mem_of_getElem? (i := 190) rfl)) rfl)
theorem k_6_170 : zlk 6 170 m_X6_noAs := Or.inl (zall_in (zt3 (List.mem_of_getElem? (i := 216) rfl)) rfl)
theorem k_6_173 : zlk 6 173 m_X6_no := Or.inl (zall_in (zt3 (List.mem_of_getElem? (i := 224) rfl)) rfl)
theorem k_6_176 : zlk 6 176 m_X6_prepare := Or.inl (zall_in (zt4 (List.mem_of_getElem? (i := 27) rfl)) rfl)
theorem k_6_179 : zlk 6 179 m_X6_goodOf := Or.inl (zall_in (zt4 (List.mem_of_getElem? (i := 51) rfl)) rfl)
theorem k_6_182 : zlk 6 182 m_X6_forceAs := Or.inl (zall_in (zt4 (List.mem_of_getElem? (i := 59) rfl)) rfl)
theorem k_6_185 : zlk 6 185 m_X6_leansOn := Or.inl (zall_in (zt4 (List.mem_of_getElem? (i := 63) rfl)) rfl)
theorem k_6_189 : zlk 6 189 m_X6_noWalk := Or.inl (zall_in (zt4 (List.mem_of_getElem? (i := 75) rfl)) rfl)
theorem k_6_192 : zlk 6 192 m_X6_spread := Or.inl (zall_in (zt4 (List.mem_of_getElem? (i := 79) rfl)) rfl)
theorem k_9_9 : zlk 9 9 m_X5_init := Or.inl (zall_in (zt1 (List.mem_of_getElem? (i := 12) rfl)) rfl)
theorem k_9_12 : zlk 9 12 m_X6_init := Or.inl (zall_in (zt3 (List.mem_of_getElem? (i := 50) rfl)) rfl)
theorem k_9_13 : zlk 9 13 m_X5_way := Or.inl (zall_in (zt1 (List.mem_of_getElem? (i := 188) rfl)) rfl)
theorem k_9_17 : zlk 9 17 m_X6_way := Or.inl (zall_in (zt3 (List.mem_of_getElem? (i := 125) rfl)) rfl)
theorem k_9_18 : zlk 9 18 m_X5_walk := Or.inl (zall_in (zt1 (List.mem_of_getElem? (i := 205) rfl)) rfl)
theorem k_9_22 : zlk 9 22 m_X6_walk := Or.inl (zall_in (zt3 (List.mem_of_getElem? (i := 136) rfl)) rfl)
theorem k_9_23 : zlk 9 23 m_X5_paper := Or.inl (zall_in (zt1 (List.mem_of_getElem? (i := 237) rfl)) rfl)
theorem k_9_27 : zlk 9 27 m_X6_paper := Or.inl (zall_in (zt3 (List.mem_of_getElem? (i := 157) rfl)) rfl)
theorem k_9_28 : zlk 9 28 m_X5_broke := Or.inl (zall_in (zt2 (List.mem_of_getElem? (i := 1) rfl)) rfl)
theorem k_9_31 : zlk 9 31 m_X6_broke := Or.inl (zall_in (zt3 (List.mem_of_getElem? (i := 161) rfl)) rfl)
theorem k_9_32 : zlk 9 32 m_X5_stop := Or.inl (zall_in (zt2 (List.mem_of_getElem? (i := 5) rfl)) rfl)
theorem k_9_35 : zlk 9 35 m_X6_stop := Or.inl (zall_in (zt3 (List.mem_of_getElem? (i := 169) rfl)) rfl)
theorem k_9_36 : zlk 9 36 m_X5_make := Or.inl (zall_in (zt2 (List.mem_of_getElem? (i := 9) rfl)) rfl)
theorem k_9_40 : zlk 9 40 m_X6_make := Or.inl (zall_in (zt3 (List.mem_of_getElem? (i := 178) rfl)) rfl)
theorem k_9_41 : zlk 9 41 m_X5_strike := Or.inl (zall_in (zt2 (List.mem_of_getElem? (i := 13) rfl)) rfl)
theorem k_9_45 : zlk 9 45 m_X6_strike := Or.inl (zall_in (zt3 (List.mem_of_getElem? (i := 182) rfl)) rfl)
theorem k_9_46 : zlk 9 46 m_X5_statute := Or.inl (zall_in (zt2 (List.mem_of_getElem? (i := 34) rfl)) rfl)
theorem k_9_49 : zlk 9 49 m_X6_statute := Or.inl (zall_in (zt3 (List.mem_of_getElem? (i := 198) rfl)) rfl)
theorem k_9_50 : zlk 9 50 m_X5_page := Or.inl (zall_in (zt2 (List.mem_of_getElem? (i := 38) rfl)) rfl)
theorem k_9_53 : zlk 9 53 m_X6_page := Or.inl (zall_in (zt3 (List.mem_of_getElem? (i := 206) rfl)) rfl)
theorem k_9_54 : zlk 9 54 m_X5_counts := Or.inl (zall_in (zt2 (List.mem_of_getElem? (i := 46) rfl)) rfl)
theorem k_9_57 : zlk 9 57 m_X6_counts := Or.inl (zall_in (zt3 (List.mem_of_getElem? (i := 212) rfl)) rfl)
theorem k_9_58 : zlk 9 58 m_X5_persons := Or.inl (zall_in (zt2 (List.mem_of_getElem? (i := 66) rfl)) rfl)
theorem k_9_61 : zlk 9 61 m_X6_persons := Or.inl (zall_in (zt3 (List.mem_of_getElem? (i := 220) rfl)) rfl)
theorem k_9_62 : zlk 9 62 m_X5_holds := Or.inl (zall_in (zt2 (List.mem_of_getElem? (i := 161) rfl)) rfl)
theorem k_9_65 : zlk 9 65 m_X6_holds := Or.inl (zall_in (zt3 (List.mem_of_getElem? (i := 235) rfl)) rfl)
theorem k_9_66 : zlk 9 66 m_X5_lacking := Or.inl (zall_in (zt2 (List.mem_of_getElem? (i := 167) rfl)) rfl)
theorem k_9_69 : zlk 9 69 m_X6_lacking := Or.inl (zall_in (zt4 (List.mem_of_getElem? (i := 11) rfl)) rfl)
theorem k_9_70 : zlk 9 70 m_X5_papers := Or.inl (zall_in (zt2 (List.mem_of_getElem? (i := 172) rfl)) rfl)
theorem k_9_73 : zlk 9 73 m_X6_papers := Or.inl (zall_in (zt4 (List.mem_of_getElem? (i := 15) rfl)) rfl)
theorem k_9_74 : zlk 9 74 m_X5_force := Or.inl (zall_in (zt2 (List.mem_of_getElem? (i := 177) rfl)) rfl)
theorem k_9_77 : zlk 9 77 m_X6_force := Or.inl (zall_in (zt4 (List.mem_of_getElem? (i := 23) rfl)) rfl)
theorem k_9_78 : zlk 9 78 m_X5_most := Or.inl (zall_in (zt2 (List.mem_of_getElem? (i := 182) rfl)) rfl)
theorem k_9_81 : zlk 9 81 m_X6_most := Or.inl (zall_in (zt4 (List.mem_of_getElem? (i := 39) rfl)) rfl)
theorem k_9_82 : zlk 9 82 m_X5_since := Or.inl (zall_in (zt2 (List.mem_of_getElem? (i := 186) rfl)) rfl)
theorem k_9_85 : zlk 9 85 m_X6_since := Or.inl (zall_in (zt4 (List.mem_of_getElem? (i := 43) rfl)) rfl)
theorem k_9_86 : zlk 9 86 m_X5_good := Or.inl (zall_in (zt2 (List.mem_of_getElem? (i := 190) rfl)) rfl)
theorem k_9_89 : zlk 9 89 m_X6_good := Or.inl (zall_in (zt4 (List.mem_of_getElem? (i := 47) rfl)) rfl)
theorem k_9_90 : zlk 9 90 m_X5_leans := Or.inl (zall_in (zt2 (List.mem_of_getElem? (i := 198) rfl)) rfl)
theorem k_9_93 : zlk 9 93 m_X6_leans := Or.inl (zall_in (zt4 (List.mem_of_getElem? (i := 55) rfl)) rfl)
theorem k_9_94 : zlk 9 94 m_X5_lean := Or.inl (zall_in (zt2 (List.mem_of_getElem? (i := 218) rfl)) rfl)
theorem k_9_97 : zlk 9 97 m_X6_lean := Or.inl (zall_in (zt4 (List.mem_of_getElem? (i := 67) rfl)) rfl)
theorem k_9_98 : zlk 9 98 m_X5_steps := Or.inl (zall_in (zt2 (List.mem_of_getElem? (i := 232) rfl)) rfl)
theorem k_9_101 : zlk 9 101 m_X6_steps := Or.inl (zall_in (zt4 (List.mem_of_getElem? (i := 71) rfl)) rfl)
theorem k_9_102 : zlk 9 102 m_X5_first := Or.inl (zall_in (zt3 (List.mem_of_getElem? (i := 24) rfl)) rfl)
theorem k_9_105 : zlk 9 105 m_X6_first := Or.inl (zall_in (zt4 (List.mem_of_getElem? (i := 83) rfl)) rfl)
theorem k_9_106 : zlk 9 106 m_X5_reach := Or.inl (zall_in (zt3 (List.mem_of_getElem? (i := 32) rfl)) rfl)
theorem k_9_109 : zlk 9 109 m_X6_reach := Or.inl (zall_in (zt4 (List.mem_of_getElem? (i := 87) rfl)) rfl)
theorem k_9_110 : zlk 9 110 m_X5_total := Or.inl (zall_in (zt3 (List.mem_of_getElem? (i := 40) rfl)) rfl)
theorem k_9_113 : zlk 9 113 m_X6_total := Or.inl (zall_in (zt4 (List.mem_of_getElem? (i := 91) rfl)) rfl)
