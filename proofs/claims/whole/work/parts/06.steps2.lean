/-! the steps, one by one -/
theorem zblt {a b : Nat} (h : Nat.blt a b = true) : a < b := Nat.le_of_ble_eq_true h
theorem zfin {b : Nat} (n : Nat) (h : b < n + 1) : ((Fin.ofNat (n + 1) b : Fin (n + 1)) : Nat) = b := Nat.mod_eq_of_lt h
theorem zif {α : Type} {c : Bool} {x y : Option α} {z : α} (h : (bif c then x else y) = some z) (hy : y = none) : c = true ∧ x = some z := by
  cases c
  · subst hy; cases h
  · exact ⟨rfl, h⟩
theorem zand (a b : Nat) : nI a &&& nI b = nI (a &&& b) := by
  apply Int32.toBitVec_inj.1
  show BitVec.ofNat 32 a &&& BitVec.ofNat 32 b = BitVec.ofNat 32 (a &&& b)
  apply BitVec.eq_of_getLsbD_eq
  intro i hi
  simp [hi]
theorem zor (a b : Nat) : nI a ||| nI b = nI (a ||| b) := by
  apply Int32.toBitVec_inj.1
  show BitVec.ofNat 32 a ||| BitVec.ofNat 32 b = BitVec.ofNat 32 (a ||| b)
  apply BitVec.eq_of_getLsbD_eq
  intro i hi
  simp [hi]
theorem zsm : ∀ n, n < 32 → ((nI n &&& 31).toBitVec.smod 32).toNat = n := by decide
theorem zsu : ∀ n, n < 32 → (((nI n).toUInt32 &&& Int32.toUInt32 31).toBitVec % 32).toNat = n := by decide
theorem zshl {y : Int} (h1 : 0 ≤ y) (h2 : y ≤ 30) : Int32.ofInt 1 <<< (Int32.ofInt y &&& 31) = nI (2 ^ y.toNat) := by
  rw [zi_of h1, show Int32.ofInt 1 = nI 1 from rfl, pk_shlN _ _ (zsm _ (by omega)) (by
    rw [Nat.one_mul]
    exact Nat.pow_lt_pow_right (by decide) (by omega)), Nat.one_mul]
theorem zshr {x y : Int} (hx : 0 ≤ x ∧ x ≤ 2147483647) (h1 : 0 ≤ y) (h2 : y ≤ 31) : Int32.ofInt x >>> (Int32.ofInt y &&& 31) = nI (x.toNat / 2 ^ y.toNat) := by
  rw [zi_of h1, zi_of hx.1, pk_shrN (by omega) _ _ (zsm _ (by omega))]
theorem zushr {x y : Int} (hx : 0 ≤ x ∧ x ≤ 2147483647) (h1 : 0 ≤ y) (h2 : y ≤ 31) : ((Int32.ofInt x).toUInt32 >>> ((Int32.ofInt y).toUInt32 &&& Int32.toUInt32 31)).toInt32 = nI (x.toNat / 2 ^ y.toNat) := by
  rw [zi_of h1, zi_of hx.1, pk_ushrN (by omega) _ _ (zsu _ (by omega))]
theorem zi2l {x : Int} (h : -2147483648 ≤ x ∧ x ≤ 2147483647) : (Int32.ofInt x).toInt64 = Int64.ofInt x := by
  apply Int64.toInt_inj.mp
  rw [Int32.toInt_toInt64, zi_in h, zl_in (by omega)]
theorem zlc {x y : Int} (hx : -9223372036854775808 ≤ x ∧ x ≤ 9223372036854775807) (hy : -9223372036854775808 ≤ y ∧ y ≤ 9223372036854775807) : lg_cmp (Int64.ofInt x) (Int64.ofInt y) = Int32.ofInt (zcmp x y) := by
  have h1 : Int64.ofInt x > Int64.ofInt y ↔ y < x := by rw [gt_iff_lt, Int64.lt_iff_toInt_lt, zl_in hx, zl_in hy]
  have h2 : Int64.ofInt x = Int64.ofInt y ↔ x = y := by rw [← Int64.toInt_inj, zl_in hx, zl_in hy]
  unfold lg_cmp zcmp
  by_cases g : y < x
  · rw [if_pos (h1.mpr g), if_pos g]; rfl
  · rw [if_neg (fun q => g (h1.mp q)), if_neg g]
    by_cases g2 : x = y
    · rw [if_pos (h2.mpr g2), if_pos g2]; rfl
    · rw [if_neg (fun q => g2 (h2.mp q)), if_neg g2]; rfl
theorem zmask (x : Int) {d : Nat} (hd : d ≤ 31) : Int32.ofInt x &&& Int32.ofInt (2 ^ d - 1) = Int32.ofInt (x % 2 ^ d) := by
  have hp : (2 : Nat) ^ d ≤ 2 ^ 31 := Nat.pow_le_pow_right (by decide) hd
  have hp0 : 0 < (2 : Nat) ^ d := Nat.two_pow_pos d
  have e1 : ((2 : Int) ^ d - 1) = ((2 ^ d - 1 : Nat) : Int) := by
    rw [Int.ofNat_sub hp0]; simp
  have e2 : (Int32.ofInt (2 ^ d - 1)).toBitVec.toNat = 2 ^ d - 1 := by
    rw [e1, zi_nat, pk_tn (by omega)]
  rw [pk_and _ d e2]
  have e3 : (Int32.ofInt x).toBitVec.toNat = (x % 2 ^ 32).toNat := by
    show (BitVec.ofInt 32 x).toNat = _
    rw [BitVec.toNat_ofInt]
    rfl
  rw [e3, ← zi_nat]
  congr 1
  have e4 : ((x % 2 ^ 32).toNat : Int) = x % 2 ^ 32 := Int.toNat_of_nonneg (Int.emod_nonneg _ (by decide))
  rw [Int.natCast_emod, e4]
  push_cast
  exact Int.emod_emod_of_dvd x ⟨2 ^ (32 - d), by rw [← Int.pow_add, show d + (32 - d) = 32 by omega]; rfl⟩
section ZS
variable {p : Program} {l : Launch} {e : Env} {R : Room} {s : State} {m : MethodId} {args : Array Value} {below : List Frame} {meth : Method} {c : Code} {Q : State → Prop} {E : ZG} {own nL : Nat} {cc : ByteArray}
variable {pc nx b d : Nat} {a : Int} {ls : List (Option ZV)} {st : List ZV} {h : List ZB} {cs ss : Nat} {oc : Option Prop} {s1 : ZS}
theorem zs_0 (F : zFix p s m args c E own nL cc) (hk : zck own nL cc (pc, nx, 0, a, b, d) = true) (hx : zexec 0 nx a b d ls st h cs ss = some (oc, s1)) (hc : ∀ C, oc = some C → C) (k : zW p l e R s m args below meth c Q E s.heap nL s1) : zW p l e R s m args below meth c Q E s.heap nL (pc, ls, st, h, cs, ss) := by
  simp only [zexec] at hx
  split at hx
  · rename_i x hl
    cases hx
    intro H locs lsA hz hS hL
    have hK := k H locs lsA hz hS hL
    have h1 := hL.at hl
    simp only [zck, Bool.or_eq_true, Bool.and_eq_true] at hk
    rcases hk with ⟨⟨q1, q2⟩, q3⟩ | ⟨q1, q3⟩
    · have e3 := Nat.eq_of_beq_eq_true q3
      subst e3
      exact lv_iload_n F.1 F.2.1 (zdec_ok q1) (zfin 3 (zblt q2)) h1 hK
    · have e3 := Nat.eq_of_beq_eq_true q3
      subst e3
      exact lv_iload F.1 F.2.1 (zdec_ok q1) h1 hK
  · cases hx
theorem zs_1 (F : zFix p s m args c E own nL cc) (hk : zck own nL cc (pc, nx, 1, a, b, d) = true) (hx : zexec 1 nx a b d ls st h cs ss = some (oc, s1)) (hc : ∀ C, oc = some C → C) (k : zW p l e R s m args below meth c Q E s.heap nL s1) : zW p l e R s m args below meth c Q E s.heap nL (pc, ls, st, h, cs, ss) := by
  simp only [zexec] at hx
  split at hx
  · rename_i x hl
    cases hx
    intro H locs lsA hz hS hL
    have hK := k H locs lsA hz hS hL
    have h1 := hL.at hl
    simp only [zck, Bool.or_eq_true, Bool.and_eq_true] at hk
    obtain ⟨⟨q1, q2⟩, q3⟩ := hk
    have e3 := Nat.eq_of_beq_eq_true q3
    subst e3
    exact lv_aload_n F.1 F.2.1 (zdec_ok q1) (zfin 3 (zblt q2)) h1 hK
  · cases hx
theorem zs_2 (F : zFix p s m args c E own nL cc) (hk : zck own nL cc (pc, nx, 2, a, b, d) = true) (hx : zexec 2 nx a b d ls st h cs ss = some (oc, s1)) (hc : ∀ C, oc = some C → C) (k : zW p l e R s m args below meth c Q E s.heap nL s1) : zW p l e R s m args below meth c Q E s.heap nL (pc, ls, st, h, cs, ss) := by
  simp only [zexec] at hx
  split at hx
  · rename_i x hl
    cases hx
    intro H locs lsA hz hS hL
    have hK := k H locs lsA hz hS hL
    have h1 := hL.at hl
    simp only [zck, Bool.or_eq_true, Bool.and_eq_true] at hk
    rcases hk with ⟨⟨q1, q2⟩, q3⟩ | ⟨q1, q3⟩
    · have e3 := Nat.eq_of_beq_eq_true q3
      subst e3
      exact lv_lload_n F.1 F.2.1 (zdec_ok q1) (zfin 3 (zblt q2)) h1 hK
    · have e3 := Nat.eq_of_beq_eq_true q3
      subst e3
      exact lv_lload F.1 F.2.1 (zdec_ok q1) h1 hK
  · cases hx
theorem zs_3 (F : zFix p s m args c E own nL cc) (hk : zck own nL cc (pc, nx, 3, a, b, d) = true) (hx : zexec 3 nx a b d ls st h cs ss = some (oc, s1)) (hc : ∀ C, oc = some C → C) (k : zW p l e R s m args below meth c Q E s.heap nL s1) : zW p l e R s m args below meth c Q E s.heap nL (pc, ls, st, h, cs, ss) := by
  simp only [zexec] at hx
  split at hx
  · rename_i x st
    obtain ⟨hb, hx⟩ := zif hx rfl
    cases hx
    intro H locs lsA hz hS hL
    simp only [zck, Bool.or_eq_true, Bool.and_eq_true] at hk
    obtain ⟨hk, q4⟩ := hk
    rcases hk with ⟨⟨q1, q2⟩, q3⟩ | ⟨q1, q3⟩
    · have e3 := Nat.eq_of_beq_eq_true q3
      subst e3
      exact lv_istore_n F.1 F.2.1 (zdec_ok q1) (zfin 3 (zblt q2)) hL.has (zblt q4) rfl (fun lsB hB => k H locs lsB hz hS (zlok.set (v := zI x) hb hB))
    · have e3 := Nat.eq_of_beq_eq_true q3
      subst e3
      exact lv_istore F.1 F.2.1 (zdec_ok q1) hL.has (zblt q4) rfl (fun lsB hB => k H locs lsB hz hS (zlok.set (v := zI x) hb hB))
  · cases hx
theorem zs_4 (F : zFix p s m args c E own nL cc) (hk : zck own nL cc (pc, nx, 4, a, b, d) = true) (hx : zexec 4 nx a b d ls st h cs ss = some (oc, s1)) (hc : ∀ C, oc = some C → C) (k : zW p l e R s m args below meth c Q E s.heap nL s1) : zW p l e R s m args below meth c Q E s.heap nL (pc, ls, st, h, cs, ss) := by
  simp only [zexec] at hx
  split at hx
  · rename_i x st
    obtain ⟨hb, hx⟩ := zif hx rfl
    cases hx
    intro H locs lsA hz hS hL
    simp only [zck, Bool.and_eq_true] at hk
    obtain ⟨⟨⟨q1, q2⟩, q3⟩, q4⟩ := hk
    have e3 := Nat.eq_of_beq_eq_true q3
    subst e3
    exact lv_astore_n F.1 F.2.1 (zdec_ok q1) (zfin 3 (zblt q2)) hL.has (zblt q4) rfl (fun lsB hB => k H locs lsB hz hS (zlok.set (v := zR x) hb hB))
  · cases hx
theorem zs_5 (F : zFix p s m args c E own nL cc) (hk : zck own nL cc (pc, nx, 5, a, b, d) = true) (hx : zexec 5 nx a b d ls st h cs ss = some (oc, s1)) (hc : ∀ C, oc = some C → C) (k : zW p l e R s m args below meth c Q E s.heap nL s1) : zW p l e R s m args below meth c Q E s.heap nL (pc, ls, st, h, cs, ss) := by
  simp only [zexec] at hx
  split at hx
  · rename_i x hl
    obtain ⟨hb, hx⟩ := zif hx rfl
    cases hx
    intro H locs lsA hz hS hL
    simp only [zck, Bool.and_eq_true] at hk
    obtain ⟨⟨q1, q3⟩, q4⟩ := hk
    have e3 := Nat.eq_of_beq_eq_true q3
    subst e3
    have hm : (b, Value.int (Int32.ofInt x)) ∈ zlv E.1 0 ls := (zlv_mem E.1 ls 0 b _).mpr ⟨b, zI x, by omega, hl, rfl⟩
    obtain ⟨j, hj⟩ := List.getElem?_of_mem hm
    exact lv_iinc F.1 F.2.1 (zdec_ok q1) hL.has hj (v := Int32.ofInt (x + a)) (by rw [Int32.ofInt_add]) (zblt q4) rfl (fun lsB hB => k H locs lsB hz hS (zlok.set (v := zI (x + a)) hb hB))
  · cases hx
theorem zs_6 (F : zFix p s m args c E own nL cc) (hk : zck own nL cc (pc, nx, 6, a, b, d) = true) (hx : zexec 6 nx a b d ls st h cs ss = some (oc, s1)) (hc : ∀ C, oc = some C → C) (k : zW p l e R s m args below meth c Q E s.heap nL s1) : zW p l e R s m args below meth c Q E s.heap nL (pc, ls, st, h, cs, ss) := by
  simp only [zexec] at hx
  cases hx
  intro H locs lsA hz hS hL
  have hK := k H locs lsA hz hS hL
  simp only [zck, Bool.or_eq_true, Bool.and_eq_true] at hk
  rcases hk with ((⟨q1, q3⟩ | ⟨⟨q1, q3⟩, q4⟩) | ⟨⟨q1, q3⟩, q4⟩) | ⟨⟨q1, q3⟩, q4⟩
  · have e3 := Nat.eq_of_beq_eq_true q3
    subst e3
    exact lv_iconst F.1 F.2.1 (zdec_ok q1) rfl hK
  · have e3 := Nat.eq_of_beq_eq_true q3
    subst e3
    exact lv_bipush F.1 F.2.1 (zdec_ok q1) (of_decide_eq_true q4) hK
  · have e3 := Nat.eq_of_beq_eq_true q3
    subst e3
    exact lv_sipush F.1 F.2.1 (zdec_ok q1) (of_decide_eq_true q4) hK
  · have e3 := Nat.eq_of_beq_eq_true q3
    subst e3
    have hm := zcs_ok _ (List.contains_iff_mem.mp q4)
    exact lv_ldcw F.1 F.2.1 F.2.2.2.1 (F.2.2.2.2.1 _ hm) (zdec_ok q1) hK
theorem zs_7 (F : zFix p s m args c E own nL cc) (hk : zck own nL cc (pc, nx, 7, a, b, d) = true) (hx : zexec 7 nx a b d ls st h cs ss = some (oc, s1)) (hc : ∀ C, oc = some C → C) (k : zW p l e R s m args below meth c Q E s.heap nL s1) : zW p l e R s m args below meth c Q E s.heap nL (pc, ls, st, h, cs, ss) := by
  simp only [zexec] at hx
  cases hx
  intro H locs lsA hz hS hL
  have hK := k H locs lsA hz hS hL
  simp only [zck, Bool.or_eq_true, Bool.and_eq_true] at hk
  rcases hk with ⟨⟨q1, q3⟩, q4⟩ | ⟨⟨q1, q3⟩, q4⟩
  · have e3 := Nat.eq_of_beq_eq_true q3
    subst e3
    exact lv_lconst F.1 F.2.1 (zdec_ok q1) (of_decide_eq_true q4) hK
  · have e3 := Nat.eq_of_beq_eq_true q3
    subst e3
    have hm := zcl_ok _ (List.contains_iff_mem.mp q4)
    exact lv_ldc2 F.1 F.2.1 F.2.2.2.1 (F.2.2.2.2.1 _ hm) (zdec_ok q1) hK
theorem zs_8 (F : zFix p s m args c E own nL cc) (hk : zck own nL cc (pc, nx, 8, a, b, d) = true) (hx : zexec 8 nx a b d ls st h cs ss = some (oc, s1)) (hc : ∀ C, oc = some C → C) (k : zW p l e R s m args below meth c Q E s.heap nL s1) : zW p l e R s m args below meth c Q E s.heap nL (pc, ls, st, h, cs, ss) := by
  simp only [zexec] at hx
  split at hx
  · rename_i y x st
    cases hx
    intro H locs lsA hz hS hL
    have hK := k H locs lsA hz hS hL
    simp only [zck, Bool.and_eq_true] at hk
    obtain ⟨q1, q3⟩ := hk
    have e3 := Nat.eq_of_beq_eq_true q3
    subst e3
    have e4 : Value.int (Int32.ofInt (x + y)) = Value.int (Int32.ofInt x + Int32.ofInt y) := by rw [Int32.ofInt_add]
    refine lv_iadd F.1 F.2.1 (zdec_ok q1) ?_
    rw [← e4]
    exact hK
  · cases hx
theorem zs_9 (F : zFix p s m args c E own nL cc) (hk : zck own nL cc (pc, nx, 9, a, b, d) = true) (hx : zexec 9 nx a b d ls st h cs ss = some (oc, s1)) (hc : ∀ C, oc = some C → C) (k : zW p l e R s m args below meth c Q E s.heap nL s1) : zW p l e R s m args below meth c Q E s.heap nL (pc, ls, st, h, cs, ss) := by
  simp only [zexec] at hx
  split at hx
  · rename_i y x st
    cases hx
    intro H locs lsA hz hS hL
    have hK := k H locs lsA hz hS hL
    simp only [zck, Bool.and_eq_true] at hk
    obtain ⟨q1, q3⟩ := hk
    have e3 := Nat.eq_of_beq_eq_true q3
    subst e3
    have e4 : Value.int (Int32.ofInt (x - y)) = Value.int (Int32.ofInt x - Int32.ofInt y) := by rw [Int32.ofInt_sub]
    refine lv_isub F.1 F.2.1 (zdec_ok q1) ?_
    rw [← e4]
    exact hK
  · cases hx
theorem zs_10 (F : zFix p s m args c E own nL cc) (hk : zck own nL cc (pc, nx, 10, a, b, d) = true) (hx : zexec 10 nx a b d ls st h cs ss = some (oc, s1)) (hc : ∀ C, oc = some C → C) (k : zW p l e R s m args below meth c Q E s.heap nL s1) : zW p l e R s m args below meth c Q E s.heap nL (pc, ls, st, h, cs, ss) := by
  simp only [zexec] at hx
  split at hx
  · rename_i y x st
    cases hx
    intro H locs lsA hz hS hL
    have hK := k H locs lsA hz hS hL
    simp only [zck, Bool.and_eq_true] at hk
    obtain ⟨q1, q3⟩ := hk
    have e3 := Nat.eq_of_beq_eq_true q3
    subst e3
    have e4 : Value.int (Int32.ofInt (x * y)) = Value.int (Int32.ofInt x * Int32.ofInt y) := by rw [Int32.ofInt_mul]
    refine lv_imul F.1 F.2.1 (zdec_ok q1) ?_
    rw [← e4]
    exact hK
  · cases hx
theorem zs_11 (F : zFix p s m args c E own nL cc) (hk : zck own nL cc (pc, nx, 11, a, b, d) = true) (hx : zexec 11 nx a b d ls st h cs ss = some (oc, s1)) (hc : ∀ C, oc = some C → C) (k : zW p l e R s m args below meth c Q E s.heap nL s1) : zW p l e R s m args below meth c Q E s.heap nL (pc, ls, st, h, cs, ss) := by
  simp only [zexec] at hx
  split at hx
  · rename_i y x st
    cases hx
    intro H locs lsA hz hS hL
    have hK := k H locs lsA hz hS hL
    simp only [zck, Bool.and_eq_true] at hk
    obtain ⟨q1, q3⟩ := hk
    have e3 := Nat.eq_of_beq_eq_true q3
    subst e3
    obtain ⟨⟨g1, g2⟩, g3, g4⟩ := hc _ rfl
    refine lv_iand F.1 F.2.1 (zdec_ok q1) ?_
    rw [zi_of g1, zi_of g3, zand, ← zi_nat]
    exact hK
  · cases hx
theorem zs_12 (F : zFix p s m args c E own nL cc) (hk : zck own nL cc (pc, nx, 12, a, b, d) = true) (hx : zexec 12 nx a b d ls st h cs ss = some (oc, s1)) (hc : ∀ C, oc = some C → C) (k : zW p l e R s m args below meth c Q E s.heap nL s1) : zW p l e R s m args below meth c Q E s.heap nL (pc, ls, st, h, cs, ss) := by
  simp only [zexec] at hx
  split at hx
  · rename_i y x st
    cases hx
    intro H locs lsA hz hS hL
    have hK := k H locs lsA hz hS hL
    simp only [zck, Bool.and_eq_true] at hk
    obtain ⟨q1, q3⟩ := hk
    have e3 := Nat.eq_of_beq_eq_true q3
    subst e3
    obtain ⟨⟨g1, g2⟩, g3, g4⟩ := hc _ rfl
    refine lv_ior F.1 F.2.1 (zdec_ok q1) ?_
    rw [zi_of g1, zi_of g3, zor, ← zi_nat]
    exact hK
  · cases hx
theorem zs_13 (F : zFix p s m args c E own nL cc) (hk : zck own nL cc (pc, nx, 13, a, b, d) = true) (hx : zexec 13 nx a b d ls st h cs ss = some (oc, s1)) (hc : ∀ C, oc = some C → C) (k : zW p l e R s m args below meth c Q E s.heap nL s1) : zW p l e R s m args below meth c Q E s.heap nL (pc, ls, st, h, cs, ss) := by
  simp only [zexec] at hx
  split at hx
  · rename_i y x st
    cases hx
    intro H locs lsA hz hS hL
    have hK := k H locs lsA hz hS hL
    simp only [zck, Bool.and_eq_true] at hk
    obtain ⟨q1, q3⟩ := hk
    have e3 := Nat.eq_of_beq_eq_true q3
    subst e3
    obtain ⟨rfl, g3, g4⟩ := hc _ rfl
    refine lv_ishl F.1 F.2.1 (zdec_ok q1) ?_
    rw [zshl g3 g4, ← zi_nat]
    exact hK
  · cases hx
theorem zs_14 (F : zFix p s m args c E own nL cc) (hk : zck own nL cc (pc, nx, 14, a, b, d) = true) (hx : zexec 14 nx a b d ls st h cs ss = some (oc, s1)) (hc : ∀ C, oc = some C → C) (k : zW p l e R s m args below meth c Q E s.heap nL s1) : zW p l e R s m args below meth c Q E s.heap nL (pc, ls, st, h, cs, ss) := by
  simp only [zexec] at hx
  split at hx
  · rename_i y x st
    cases hx
    intro H locs lsA hz hS hL
    have hK := k H locs lsA hz hS hL
    simp only [zck, Bool.and_eq_true] at hk
    obtain ⟨q1, q3⟩ := hk
    have e3 := Nat.eq_of_beq_eq_true q3
    subst e3
    obtain ⟨⟨g1, g2⟩, g3, g4⟩ := hc _ rfl
    refine lv_ishr F.1 F.2.1 (zdec_ok q1) ?_
    rw [zshr ⟨g1, g2⟩ g3 g4, ← zi_nat]
    exact hK
  · cases hx
theorem zs_15 (F : zFix p s m args c E own nL cc) (hk : zck own nL cc (pc, nx, 15, a, b, d) = true) (hx : zexec 15 nx a b d ls st h cs ss = some (oc, s1)) (hc : ∀ C, oc = some C → C) (k : zW p l e R s m args below meth c Q E s.heap nL s1) : zW p l e R s m args below meth c Q E s.heap nL (pc, ls, st, h, cs, ss) := by
  simp only [zexec] at hx
  split at hx
  · rename_i y x st
    cases hx
    intro H locs lsA hz hS hL
    have hK := k H locs lsA hz hS hL
    simp only [zck, Bool.and_eq_true] at hk
    obtain ⟨q1, q3⟩ := hk
    have e3 := Nat.eq_of_beq_eq_true q3
    subst e3
    obtain ⟨⟨g1, g2⟩, g3, g4⟩ := hc _ rfl
    refine lv_iushr F.1 F.2.1 (zdec_ok q1) (v := Int32.ofInt ((x.toNat / 2 ^ y.toNat : Nat) : Int)) ?_ ?_
    · rw [zushr ⟨g1, g2⟩ g3 g4, ← zi_nat]
    · exact hK
  · cases hx
theorem zs_16 (F : zFix p s m args c E own nL cc) (hk : zck own nL cc (pc, nx, 16, a, b, d) = true) (hx : zexec 16 nx a b d ls st h cs ss = some (oc, s1)) (hc : ∀ C, oc = some C → C) (k : zW p l e R s m args below meth c Q E s.heap nL s1) : zW p l e R s m args below meth c Q E s.heap nL (pc, ls, st, h, cs, ss) := by
  simp only [zexec] at hx
  split at hx
  · rename_i x st
    cases hx
    intro H locs lsA hz hS hL
    have hK := k H locs lsA hz hS hL
    simp only [zck, Bool.and_eq_true] at hk
    obtain ⟨q1, q3⟩ := hk
    have e3 := Nat.eq_of_beq_eq_true q3
    subst e3
    exact lv_i2l F.1 F.2.1 (v := Int64.ofInt x) (zdec_ok q1) (zi2l (hc _ rfl)) hK
  · cases hx
theorem zs_17 (F : zFix p s m args c E own nL cc) (hk : zck own nL cc (pc, nx, 17, a, b, d) = true) (hx : zexec 17 nx a b d ls st h cs ss = some (oc, s1)) (hc : ∀ C, oc = some C → C) (k : zW p l e R s m args below meth c Q E s.heap nL s1) : zW p l e R s m args below meth c Q E s.heap nL (pc, ls, st, h, cs, ss) := by
  simp only [zexec] at hx
  split at hx
  · rename_i y x st
    cases hx
    intro H locs lsA hz hS hL
    have hK := k H locs lsA hz hS hL
    simp only [zck, Bool.and_eq_true] at hk
    obtain ⟨q1, q3⟩ := hk
    have e3 := Nat.eq_of_beq_eq_true q3
    subst e3
    refine W.lcmp F.1 F.2.1 (zdec_ok q1) ?_
    rw [zlc (hc _ rfl).1 (hc _ rfl).2]
    exact hK
  · cases hx
theorem zs_18 (F : zFix p s m args c E own nL cc) (hk : zck own nL cc (pc, nx, 18, a, b, d) = true) (hx : zexec 18 nx a b d ls st h cs ss = some (oc, s1)) (hc : ∀ C, oc = some C → C) (k : zW p l e R s m args below meth c Q E s.heap nL s1) : zW p l e R s m args below meth c Q E s.heap nL (pc, ls, st, h, cs, ss) := by
  simp only [zexec] at hx
  split at hx
  · rename_i v st
    obtain ⟨hb, hx⟩ := zif hx rfl
    cases hx
    intro H locs lsA hz hS hL
    have hK := k H locs lsA hz hS hL
    simp only [zck, Bool.and_eq_true] at hk
    obtain ⟨q1, q3⟩ := hk
    have e3 := Nat.eq_of_beq_eq_true q3
    subst e3
    exact lv_dup F.1 F.2.1 (zdec_ok q1) (zone_eq hb) hK
  · cases hx
theorem zs_19 (F : zFix p s m args c E own nL cc) (hk : zck own nL cc (pc, nx, 19, a, b, d) = true) (hx : zexec 19 nx a b d ls st h cs ss = some (oc, s1)) (hc : ∀ C, oc = some C → C) (k : zW p l e R s m args below meth c Q E s.heap nL s1) : zW p l e R s m args below meth c Q E s.heap nL (pc, ls, st, h, cs, ss) := by
  simp only [zexec] at hx
  split at hx
  · rename_i v w st
    obtain ⟨hb, hx⟩ := zif hx rfl
    cases hx
    rw [Bool.and_eq_true] at hb
    intro H locs lsA hz hS hL
    have hK := k H locs lsA hz hS hL
    simp only [zck, Bool.and_eq_true] at hk
    obtain ⟨q1, q3⟩ := hk
    have e3 := Nat.eq_of_beq_eq_true q3
    subst e3
    exact lv_dup2_11 F.1 F.2.1 (zdec_ok q1) (zone_eq hb.1) (zone_eq hb.2) hK
  · cases hx
theorem zs_20 (F : zFix p s m args c E own nL cc) (hk : zck own nL cc (pc, nx, 20, a, b, d) = true) (hx : zexec 20 nx a b d ls st h cs ss = some (oc, s1)) (hc : ∀ C, oc = some C → C) (k : zW p l e R s m args below meth c Q E s.heap nL s1) : zW p l e R s m args below meth c Q E s.heap nL (pc, ls, st, h, cs, ss) := by
  simp only [zexec] at hx
  cases hx
  intro H locs lsA hz hS hL
  have hK := k H locs lsA hz hS hL
  simp only [zck] at hk
  exact lv_goto (tgt := nx) F.1 F.2.1 (zdec_ok hk) (by omega) hK
theorem zs_28 (F : zFix p s m args c E own nL cc) (hk : zck own nL cc (pc, nx, 28, a, b, d) = true) (hx : zexec 28 nx a b d ls st h cs ss = some (oc, s1)) (hc : ∀ C, oc = some C → C) (k : zW p l e R s m args below meth c Q E s.heap nL s1) : zW p l e R s m args below meth c Q E s.heap nL (pc, ls, st, h, cs, ss) := by
  simp only [zexec] at hx
  split at hx
  · rename_i y x st
    cases hx
    intro H locs lsA hz hS hL
    have hK := k H locs lsA hz hS hL
    simp only [zck, Bool.and_eq_true] at hk
    obtain ⟨⟨q1, q3⟩, q4⟩ := hk
    have e3 := Nat.eq_of_beq_eq_true q3
    subst e3
    have e5 := hc _ rfl
    subst e5
    refine lv_iand F.1 F.2.1 (zdec_ok q1) ?_
    rw [zmask x (Nat.le_of_ble_eq_true q4)]
    exact hK
  · cases hx
end ZS
