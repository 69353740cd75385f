/-! EACH STEP OF THE ABSTRACT MACHINE IS ONE OF THE REAL MACHINE -/
/-- a field of a class that is an int and not final; one that is final -/
def zintf (c d : Nat) : Bool := match zcls[c]? with
  | some (_, T, N) => Nat.blt d N && decide ((T d).2.2.1 = "I") && !(T d).2.2.2
  | none => false
def zfinf (c d : Nat) : Bool := match zcls[c]? with
  | some (_, T, N) => Nat.blt d N && (T d).2.2.2
  | none => false
/-- the bytes of a method say what the table says: all but fields, constants, calls and the making of cells -/
def zdec (cc : ByteArray) (pc : Nat) (i : Instr) (n : Nat) : Bool := decide (decode cc pc = .ok (i, n))
def zck (own nL : Nat) (cc : ByteArray) : ZE → Bool
  | (pc, nx, code, a, b, d) => match code with
    | 0 => (zdec cc pc (.iload_n (Fin.ofNat 4 b)) 1 && Nat.blt b 4 && Nat.beq nx (pc + 1)) || (zdec cc pc (.iload b) 2 && Nat.beq nx (pc + 2))
    | 1 => zdec cc pc (.aload_n (Fin.ofNat 4 b)) 1 && Nat.blt b 4 && Nat.beq nx (pc + 1)
    | 2 => (zdec cc pc (.lload_n (Fin.ofNat 4 b)) 1 && Nat.blt b 4 && Nat.beq nx (pc + 1)) || (zdec cc pc (.lload b) 2 && Nat.beq nx (pc + 2))
    | 3 => ((zdec cc pc (.istore_n (Fin.ofNat 4 b)) 1 && Nat.blt b 4 && Nat.beq nx (pc + 1)) || (zdec cc pc (.istore b) 2 && Nat.beq nx (pc + 2))) && Nat.blt b nL
    | 4 => zdec cc pc (.astore_n (Fin.ofNat 4 b)) 1 && Nat.blt b 4 && Nat.beq nx (pc + 1) && Nat.blt b nL
    | 5 => zdec cc pc (.iinc b a) 3 && Nat.beq nx (pc + 3) && Nat.blt b nL
    | 6 => (zdec cc pc (.iconst a) 1 && Nat.beq nx (pc + 1)) || (zdec cc pc (.bipush a) 2 && Nat.beq nx (pc + 2) && decide ((Int8.ofInt a).toInt32 = Int32.ofInt a)) || (zdec cc pc (.sipush a) 3 && Nat.beq nx (pc + 3) && decide ((Int16.ofInt a).toInt32 = Int32.ofInt a)) || (zdec cc pc (.ldc_w d) 3 && Nat.beq nx (pc + 3) && zcs.contains (own, d, a))
    | 7 => (zdec cc pc (.lconst (Fin.ofNat 2 b)) 1 && Nat.beq nx (pc + 1) && decide (Int64.ofNat (Fin.ofNat 2 b : Fin 2) = Int64.ofInt a)) || (zdec cc pc (.ldc2_w d) 3 && Nat.beq nx (pc + 3) && zcl.contains (own, d, a))
    | 8 => zdec cc pc .iadd 1 && Nat.beq nx (pc + 1)
    | 9 => zdec cc pc .isub 1 && Nat.beq nx (pc + 1)
    | 10 => zdec cc pc .imul 1 && Nat.beq nx (pc + 1)
    | 11 => zdec cc pc .iand 1 && Nat.beq nx (pc + 1)
    | 12 => zdec cc pc .ior 1 && Nat.beq nx (pc + 1)
    | 13 => zdec cc pc .ishl 1 && Nat.beq nx (pc + 1)
    | 14 => zdec cc pc .ishr 1 && Nat.beq nx (pc + 1)
    | 15 => zdec cc pc .iushr 1 && Nat.beq nx (pc + 1)
    | 16 => zdec cc pc .i2l 1 && Nat.beq nx (pc + 1)
    | 17 => zdec cc pc .lcmp 1 && Nat.beq nx (pc + 1)
    | 18 => zdec cc pc .dup 1 && Nat.beq nx (pc + 1)
    | 19 => zdec cc pc .dup2 1 && Nat.beq nx (pc + 1)
    | 20 => zdec cc pc (.goto ((nx : Int) - (pc : Int))) 3
    | 21 => zdec cc pc (.getfield a.toNat) 3 && Nat.beq nx (pc + 3) && (zfl.contains (own, a.toNat, false, b, d) || zfl.contains (own, a.toNat, true, b, d))
    | 22 => zdec cc pc (.putfield a.toNat) 3 && Nat.beq nx (pc + 3) && (zfl.contains (own, a.toNat, false, b, d) || zfl.contains (own, a.toNat, true, b, d)) && zintf b d
    | 62 => zdec cc pc (.putfield a.toNat) 3 && Nat.beq nx (pc + 3) && zfl.contains (own, a.toNat, false, b, d) && Nat.beq own b && zfinf b d
    | 23 => zdec cc pc .iaload 1 && Nat.beq nx (pc + 1)
    | 24 => zdec cc pc .iastore 1 && Nat.beq nx (pc + 1)
    | 25 => zdec cc pc .baload 1 && Nat.beq nx (pc + 1)
    | 26 => zdec cc pc .bastore 1 && Nat.beq nx (pc + 1)
    | 27 => zdec cc pc .arraylength 1 && Nat.beq nx (pc + 1)
    | 28 => zdec cc pc .iand 1 && Nat.beq nx (pc + 1) && Nat.ble d 31
    | 30 => zdec cc pc (.ifCond (match d with | 0 => .eq | 1 => .ne | 2 => .lt | 3 => .ge | 4 => .gt | _ => .le) ((b : Int) - (pc : Int))) 3 && Nat.beq nx (pc + 3)
    | 31 => zdec cc pc (.if_icmp (match d with | 0 => .eq | 1 => .ne | 2 => .lt | 3 => .ge | 4 => .gt | _ => .le) ((b : Int) - (pc : Int))) 3 && Nat.beq nx (pc + 3)
    | 40 => zdec cc pc (.invokevirtual b) 3 && Nat.beq nx (pc + 3)
    | 41 => zdec cc pc (.invokestatic b) 3 && Nat.beq nx (pc + 3)
    | 42 => zdec cc pc (.invokespecial b) 3 && Nat.beq nx (pc + 3)
    | 43 => zdec cc pc (.invokespecial b) 3 && Nat.beq nx (pc + 3)
    | 50 => zdec cc pc .ireturn 1
    | 51 => zdec cc pc .return_ 1
    | 60 => zdec cc pc (.new b) 3 && Nat.beq nx (pc + 3)
    | 61 => zdec cc pc (.newarray (match d with | 0 => .int | _ => .boolean)) 2 && Nat.beq nx (pc + 2)
    | _ => false

theorem zdec_ok {cc : ByteArray} {pc : Nat} {i : Instr} {n : Nat} (h : zdec cc pc i n = true) : decode cc pc = .ok (i, n) := of_decide_eq_true h
/-- all cells but the first, which is the script: nothing is told of it -/
theorem zok.P {E : ZG} {h : List ZB} {H : Heap} (hz : zok E h H) : va_P E.2.2.1 zcls (zws E 0 h).tail H := fun k q hk => hz.1 k q (by rw [List.getElem?_tail] at hk; exact hk)
theorem zok.cell {E : ZG} {h : List ZB} {H : Heap} (hz : zok E h H) {o : Nat} {b : ZB} (hb : znth h (o + 1) = some b) : (zws E 0 h).tail[o]? = some (E.1 (o + 1), zcb E b) := by
  rw [List.getElem?_tail, zws_at, ← znth_eq, hb, Nat.zero_add]; rfl
theorem zok.put {E : ZG} {h : List ZB} {H H1 : Heap} (hz : zok E h H) (hw : zwf E) {o : Nat} {b : ZB} (hat : va_at E.2.2.1 zcls (E.1 (o + 1), zcb E b) H1) (hs : H1.size = H.size) (hq : ∀ q : Nat, q ≠ E.1 (o + 1) → H1[q]? = H[q]?) : zok E (h.set (o + 1) b) H1 := by
  refine ⟨fun k q hk => ?_, by rw [hs]; exact hz.2.1, fun b0 e => by rw [hs, List.length_set]; exact hz.2.2 b0 e⟩
  rw [← zws_set E h 0 (o + 1) b, Nat.zero_add] at hk
  by_cases e : k + 1 = o + 1
  · have e2 : k = o := by omega
    subst e2
    by_cases hl : k + 1 < (zws E 0 h).length
    · rw [List.getElem?_set_self hl] at hk
      cases hk
      exact hat
    · rw [List.getElem?_eq_none (by rw [List.length_set]; omega)] at hk
      cases hk
  · rw [List.getElem?_set_ne (Ne.symm e)] at hk
    refine (hz.1 k q hk).kept (hq q.1 fun z => e ?_)
    rw [zws_at] at hk
    obtain ⟨b1, -, rfl⟩ := Option.map_eq_some_iff.mp hk
    rw [Nat.zero_add] at z
    exact hw.1 (k + 1) (o + 1) z
def zFix (p : Program) (s : State) (m : MethodId) (args : Array Value) (c : Code) (E : ZG) (own nL : Nat) (cc : ByteArray) : Prop :=
  p.tables.exec = Jvm.exec ∧ c.code = cc ∧ c.maxLocals = nL ∧ s.vm.findClass (zcn own) = some m.cls ∧ (∀ w ∈ zall, w.before args s = true) ∧ zK E s ∧ zwf E
theorem zlok.at {ad : Nat → Nat} {lsA : Array Slot} {nL : Nat} {ls : List (Option ZV)} (h : zlok ad lsA nL ls) {b : Nat} {v : ZV} (e : znth ls b = some (some v)) : lsA[b]? = some (.val (zcv ad v)) := h.2.2 b v e
/-- the locals as the kit lists them -/
def zlv (ad : Nat → Nat) : Nat → List (Option ZV) → List (Nat × Value)
  | _, [] => []
  | k, some v :: ls => (k, zcv ad v) :: zlv ad (k + 1) ls
  | k, none :: ls => zlv ad (k + 1) ls
theorem zlv_mem (ad : Nat → Nat) : ∀ (ls : List (Option ZV)) (k i : Nat) (v : Value), (i, v) ∈ zlv ad k ls ↔ ∃ j w, i = k + j ∧ znth ls j = some (some w) ∧ v = zcv ad w
  | [], k, i, v => by simp [zlv, znth]
  | some w :: ls, k, i, v => by
    simp only [zlv, List.mem_cons, Prod.mk.injEq, zlv_mem ad ls (k + 1) i v]
    constructor
    · rintro (⟨rfl, rfl⟩ | ⟨j, u, rfl, h, rfl⟩)
      · exact ⟨0, w, rfl, rfl, rfl⟩
      · exact ⟨j + 1, u, by omega, h, rfl⟩
    · rintro ⟨j, u, rfl, h, rfl⟩
      cases j with
      | zero => cases h; exact Or.inl ⟨rfl, rfl⟩
      | succ j => exact Or.inr ⟨j, u, by omega, h, rfl⟩
  | none :: ls, k, i, v => by
    simp only [zlv, zlv_mem ad ls (k + 1) i v]
    constructor
    · rintro ⟨j, u, rfl, h, rfl⟩
      exact ⟨j + 1, u, by omega, h, rfl⟩
    · rintro ⟨j, u, rfl, h, rfl⟩
      cases j with
      | zero => cases h
      | succ j => exact ⟨j, u, by omega, h, rfl⟩
theorem zlok.has {ad : Nat → Nat} {lsA : Array Slot} {nL : Nat} {ls : List (Option ZV)} (h : zlok ad lsA nL ls) : lv_has lsA nL (zlv ad 0 ls) := by
  refine ⟨h.1, h.2.1, fun q hq => ?_⟩
  obtain ⟨j, w, e1, e2, e3⟩ := (zlv_mem ad ls 0 q.1 q.2).mp hq
  rw [e1, e3, Nat.zero_add]
  exact h.2.2 j w e2
theorem zlok.set {ad : Nat → Nat} {lsB : Array Slot} {nL : Nat} {ls : List (Option ZV)} {b : Nat} {v : ZV} (hb : zstl ls b = true) (h : lv_has lsB nL ((b, zcv ad v) :: (zlv ad 0 ls).filter (fun q => !(q.1 == b) && !(q.1 + 1 == b && q.2.category == 2)))) : zlok ad lsB nL (ls.set b (some v)) := by
  refine ⟨h.1, h.2.1, fun i w hw => ?_⟩
  rw [znth_eq] at hw
  by_cases e : i = b
  · subst e
    have hl : i < ls.length := by
      rcases Nat.lt_or_ge i ls.length with q | q
      · exact q
      · rw [List.getElem?_eq_none (by rw [List.length_set]; exact q)] at hw; cases hw
    rw [List.getElem?_set_self hl] at hw
    cases hw
    exact h.2.2 _ List.mem_cons_self
  · rw [List.getElem?_set_ne (Ne.symm e), ← znth_eq] at hw
    refine h.2.2 (i, zcv ad w) (List.mem_cons_of_mem _ (List.mem_filter.mpr ⟨(zlv_mem ad ls 0 i _).mpr ⟨i, w, by omega, hw, rfl⟩, ?_⟩))
    simp only [Bool.and_eq_true, Bool.not_eq_true', beq_eq_false_iff_ne, ne_eq, Bool.and_eq_false_iff]
    refine ⟨e, ?_⟩
    by_cases e2 : i + 1 = b
    · right
      subst e2
      simp only [zstl, hw] at hb
      rcases w with x | x | x
      · simp [zcv, Value.category]
      · simp [zone] at hb
      · cases x <;> simp [zcv, Value.category]
    · exact Or.inl e2
theorem zcat_eq (ad : Nat → Nat) (v : ZV) : (zcv ad v).category = zcat v := by
  rcases v with x | x | x
  · rfl
  · rfl
  · cases x <;> rfl
theorem zone_eq {ad : Nat → Nat} {v : ZV} (h : zone v = true) : (zcv ad v).category = 1 := by
  rcases v with x | x | x
  · rfl
  · simp [zone] at h
  · cases x <;> rfl
