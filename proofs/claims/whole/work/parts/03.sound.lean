/-! WHAT THE ABSTRACT MACHINE SAYS OF THE REAL ONE -/
abbrev zcls : List vw_C := [(RX0, TX0, 5), (RX1, TX1, 9), (RX2, TX2, 5), (RX3, TX3, 11), (RX4, TX4, 8), (RX5, TX5, 4), (RX6, TX6, 23)]
/-- addresses, which cells may change, classes, the two classes of arrays, where the making begins -/
abbrev ZG : Type := (Nat → Nat) × (Nat → Prop) × va_G × ClassId × ClassId × Option Nat
def zcv (ad : Nat → Nat) : ZV → Value
  | .inl x => .int (Int32.ofInt x)
  | .inr (.inl x) => .long (Int64.ofInt x)
  | .inr (.inr none) => .null
  | .inr (.inr (some k)) => .ref (ad k)
def zcb (E : ZG) : ZB → va_E
  | .inl (z, n, f) => .inl (bif z then E.2.2.2.2.1 else E.2.2.2.1, n, .inl (fun j => Int32.ofInt (f (j : Int))))
  | .inr (c, fs) => .inr (c, fs.map (zcv E.1))
def zws (E : ZG) : Nat → List ZB → va_W
  | _, [] => []
  | k, b :: h => (E.1 k, zcb E b) :: zws E (k + 1) h
theorem zws_at (E : ZG) : ∀ (h : List ZB) (k j : Nat), (zws E k h)[j]? = (h[j]?).map (fun b => (E.1 (k + j), zcb E b))
  | [], k, j => by simp [zws]
  | b :: h, k, 0 => by simp [zws]
  | b :: h, k, j + 1 => by
    simp only [zws, List.getElem?_cons_succ]
    rw [zws_at E h (k + 1) j, show k + 1 + j = k + (j + 1) by omega]
theorem zws_set (E : ZG) : ∀ (h : List ZB) (k j : Nat) (b : ZB), (zws E k h).set j (E.1 (k + j), zcb E b) = zws E k (h.set j b)
  | [], k, j, b => by simp [zws]
  | c :: h, k, 0, b => by simp [zws]
  | c :: h, k, j + 1, b => by
    simp only [zws, List.set_cons_succ]
    rw [show k + (j + 1) = k + 1 + j by omega, zws_set E h (k + 1) j b]
theorem zws_app (E : ZG) : ∀ (h : List ZB) (k : Nat) (b : ZB), zws E k (h ++ [b]) = zws E k h ++ [(E.1 (k + h.length), zcb E b)]
  | [], k, b => by simp [zws]
  | c :: h, k, b => by
    simp only [List.cons_append, zws, List.length_cons]
    rw [zws_app E h (k + 1) b, show k + 1 + h.length = k + (h.length + 1) by omega]
def zok (E : ZG) (h : List ZB) (H : Heap) : Prop := (∀ (k : Nat) (q : Nat × va_E), (zws E 0 h)[k + 1]? = some q → va_at E.2.2.1 zcls q H) ∧ E.1 0 < H.size ∧ ∀ b0, E.2.2.2.2.2 = some b0 → H.size + 1 = b0 + h.length
abbrev ZNF : Type := String × Nat × String × String × String × String
abbrev ZNM : Type := String × Nat × MethodName × String
def znf (q : ZNF) : Cond := .fieldLinkNest q.1 q.2.1 q.2.2.1 q.2.2.2.1 q.2.2.2.2.1 q.2.2.2.2.2
def znm (q : ZNM) : Cond := .methodLinkNest q.1 q.2.1 q.2.2.1 q.2.2.2
def znestF : List ZNF := [("ShireWays", 165, "ShireWays$Book", "size", "I", "ShireWays"), ("ShireWays", 166, "ShireWays$Book", "struck", "I", "ShireWays"), ("ShireWays", 103, "ShireWays$Sight", "spans", "LShireWays$Spans;", "ShireWays"), ("ShireWays", 179, "ShireWays$Sight", "goodCount", "I", "ShireWays"), ("ShireWays", 161, "ShireWays$Roads", "size", "I", "ShireWays")]
def znestM : List ZNM := [("ShireWays", 9, yX0_init, "ShireWays"), ("ShireWays$Sight", 11, yX4_init, "ShireWays"), ("ShireWays", 23, yX2_init, "ShireWays"), ("ShireWays$Roads", 28, yX5_put, "ShireWays"), ("ShireWays$Book", 32, yX5_isOrder, "ShireWays"), ("ShireWays$Book", 47, yX5_isWithin, "ShireWays"), ("ShireWays$Book", 39, yX5_put, "ShireWays"), ("ShireWays$Book", 51, yX5_at, "ShireWays"), ("ShireWays$Sight", 84, yX5_at, "ShireWays"), ("ShireWays$Sight", 88, yX5_put, "ShireWays"), ("ShireWays$Spans", 43, yX5_put, "ShireWays"), ("ShireWays$Sight", 95, yX5_isOrder, "ShireWays"), ("ShireWays$Spans", 53, yX5_at, "ShireWays"), ("ShireWays$Leaning", 59, yX5_put, "ShireWays"), ("ShireWays$Leaning", 72, yX5_at, "ShireWays"), ("ShireWays$Roads", 32, yX5_yes, "ShireWays"), ("ShireWays$Roads", 42, yX5_at, "ShireWays")]
def zK (E : ZG) (U : State) : Prop := va_K E.2.2.1 zcls [(E.2.2.2.1, .int), (E.2.2.2.2.1, .boolean)] U ∧ (∀ q ∈ znestF, va_Nw (znf q) U) ∧ ∀ q ∈ znestM, va_Nw (znm q) U
theorem zK.same {E : ZG} {u U : State} (h : zK E u) (e : u.vm = U.vm) : zK E U :=
  ⟨va_K.moved (by rw [e]; exact Vm.Alike.refl _) h.1, fun q hq => va_Nw.same rfl e (h.2.1 q hq), fun q hq => va_Nw.same rfl e (h.2.2 q hq)⟩
theorem zK.warm {E : ZG} {s U : State} (h : zK E s) (hW : s.WarmedH U.vm) : zK E U :=
  ⟨va_K.moved hW.alike h.1, fun q hq => va_Nw.warmF hW (h.2.1 q hq), fun q hq => va_Nw.warmM hW (h.2.2 q hq)⟩
def zwf (E : ZG) : Prop := (∀ i j, E.1 i = E.1 j → i = j) ∧ (∀ k, E.2.1 (E.1 (k + 1))) ∧ ¬ E.2.1 (E.1 0) ∧ ∀ b0, E.2.2.2.2.2 = some b0 → (∀ k, E.1 (k + 1) = b0 + k) ∧ ∀ q, b0 ≤ q → E.2.1 q
def zall : List Cond := lw_tbl.filter goodWord
theorem zall_in {w : Cond} (h : w ∈ tables_1) (hg : goodWord w = true) : w ∈ zall := List.mem_filter.mpr ⟨List.mem_append_right _ h, hg⟩
theorem zall_sel {w : Cond} (h : w ∈ k2_sels lw_privs) (hg : goodWord w = true) : w ∈ zall := List.mem_filter.mpr ⟨List.mem_append_left _ h, hg⟩
theorem zall_good {ws : List Cond} (h : ∀ w ∈ ws, w ∈ zall) : GoodIn zall ws := fun w hw => ⟨h w hw, good_of_word (List.mem_filter.mp (h w hw)).2⟩
/-- a method: its name, code, locals, answer; frames and locals' words below it, cells and slots that it makes -/
abbrev ZM : Type := MethodName × ByteArray × Nat × Option FieldType × Nat × Nat × Nat × Nat
def zcode (m : ZM) : Cond := .code m.1 m.2.1 m.2.2.1 m.2.2.2.1
def zwords (m : ZM) : List Cond := zcode m :: zall
def zroom (m : ZM) : Room := { frames := m.2.2.2.2.1, cells := m.2.2.2.2.2.2.1, slots := m.2.2.2.2.2.2.2, locals := m.2.2.2.2.2.1 }
def zPc (E : ZG) (as : List ZV) (h : List ZB) : Array Value → State → Prop := va_Pc (as.map (zcv E.1)) (fun U => zok E h U.heap ∧ zK E U)
def zQc (E : ZG) (Post : Option ZV → List ZB → Prop) : Array Value → State → Outcome → State → Prop := fun _ st oc t => (∃ v h1, oc = .returned (v.map (zcv E.1)) ∧ Post v h1 ∧ zok E h1 t.heap) ∧ va_F E.2.1 st t
def zMet (l : Launch) (m : ZM) (as : List ZV) (h : List ZB) (Post : Option ZV → List ZB → Prop) : Prop := ∀ E : ZG, zwf E → E.2.2.2.2.2 = none → Met l m.1 (zwords m) (zroom m) (zPc E as h) (zQc E Post) m.2.2.2.2.2.2.1 m.2.2.2.2.2.2.2 E.2.1
/-- one that makes cells -/
def zMetN (l : Launch) (m : ZM) (as : List ZV) (h : List ZB) (Post : Option ZV → List ZB → Prop) : Prop := ∀ (E : ZG) (b0 : Nat), zwf E → E.2.2.2.2.2 = some b0 → Met l m.1 (zwords m) (zroom m) (zPc E as h) (zQc E Post) m.2.2.2.2.2.2.1 m.2.2.2.2.2.2.2 E.2.1
theorem zPc_blind (E : ZG) (as : List ZV) (h : List ZB) : FrameBlind (zPc E as h) := fun _ _ _ _ q => ⟨q.1, q.2.1, q.2.2.same rfl⟩
def zlok (ad : Nat → Nat) (lsA : Array Slot) (nL : Nat) (ls : List (Option ZV)) : Prop := lsA.size = nL ∧ lv_wf lsA ∧ ∀ i v, znth ls i = some (some v) → lsA[i]? = some (.val (zcv ad v))
def zW (p : Program) (l : Launch) (e : Env) (R : Room) (s : State) (m : MethodId) (args : Array Value) (below : List Frame) (meth : Method) (c : Code) (Q : State → Prop) (E : ZG) (H0 : Heap) (nL : Nat) (st : ZS) : Prop :=
  ∀ (H : Heap) (locs : List Loc) (lsA : Array Slot), zok E st.2.2.2.1 H → va_S E.2.1 H0 H locs → zlok E.1 lsA nL st.2.1 → W p l e R s m args below meth c H locs st.2.2.2.2.1 st.2.2.2.2.2 Q (F0 m st.1 lsA (st.2.2.1.map (zcv E.1)))
/-- numbers -/
theorem zi_in {x : Int} (h : -2147483648 ≤ x ∧ x ≤ 2147483647) : (Int32.ofInt x).toInt = x := by
  have h1 : x.bmod (2 ^ 32) = x := by rw [Int.bmod_eq_of_le (by omega) (by omega)]
  rw [Int32.toInt_ofInt]
  exact h1
theorem zl_in {x : Int} (h : -9223372036854775808 ≤ x ∧ x ≤ 9223372036854775807) : (Int64.ofInt x).toInt = x := by
  have h1 : x.bmod (2 ^ 64) = x := by rw [Int.bmod_eq_of_le (by omega) (by omega)]
  rw [Int64.toInt_ofInt]
  exact h1
theorem zi_lt {x y : Int} (hx : -2147483648 ≤ x ∧ x ≤ 2147483647) (hy : -2147483648 ≤ y ∧ y ≤ 2147483647) : Int32.ofInt x < Int32.ofInt y ↔ x < y := by
  rw [Int32.lt_iff_toInt_lt, zi_in hx, zi_in hy]
theorem zi_le {x y : Int} (hx : -2147483648 ≤ x ∧ x ≤ 2147483647) (hy : -2147483648 ≤ y ∧ y ≤ 2147483647) : Int32.ofInt x ≤ Int32.ofInt y ↔ x ≤ y := by
  rw [Int32.le_iff_toInt_le, zi_in hx, zi_in hy]
theorem zi_eq {x y : Int} (hx : -2147483648 ≤ x ∧ x ≤ 2147483647) (hy : -2147483648 ≤ y ∧ y ≤ 2147483647) : Int32.ofInt x = Int32.ofInt y ↔ x = y := by
  rw [← Int32.toInt_inj, zi_in hx, zi_in hy]
theorem zi_0 : Int32.ofInt 0 = 0 := rfl
theorem zi_nat (n : Nat) : Int32.ofInt (n : Int) = nI n := Int32.ofInt_eq_ofNat
theorem zi_of {x : Int} (h : 0 ≤ x) : Int32.ofInt x = nI x.toNat := by
  rw [← zi_nat, Int.toNat_of_nonneg h]
theorem zi_ix {x : Int} {n : Nat} (h : 0 ≤ x ∧ x < (n : Int)) (hn : n ≤ 2147483647) : vp_in (Int32.ofInt x) n ∧ (Int32.ofInt x).toNatClampNeg = x.toNat := by
  rw [zi_of h.1]
  exact ⟨vp_in_nI (by omega) (by omega), nI_clamp (by omega)⟩

