/-! the steps that make cells: new, newarray, a final field, Object.<init>; methods that make cells -/
def zdf : Nat → List ZV := fun c => match c with
  | 0 => [zN, zN, zI 0, zI 0, zI 0]
  | 1 => [zN, zN, zN, zN, zI 0, zI 0, zI 0, zI 0, zI 0]
  | 2 => [zN, zN, zN, zN, zI 0]
  | 3 => [zN, zN, zN, zN, zN, zI 0, zI 0, zI 0, zI 0, zI 0, zI 0]
  | 4 => [zN, zN, zN, zN, zN, zI 0, zI 0, zI 0]
  | 5 => [zN, zN, zN, zN]
  | _ => [zI 0, zI 0, zN, zN, zI 0, zI 0, zN, zN, zI 0, zI 0, zN, zI 0, zI 0, zI 0, zI 0, zN, zN, zN, zN, zI 0, zN, zN, zN]
theorem zdf_ok {c : Nat} {C : String} {T : u_T} {N : Nat} (h : zcls[c]? = some (C, T, N)) : (zdf c).length = N ∧ ∃ ty : Nat → FieldType, (∀ k, k < N → parseFieldDescriptor (T k).2.2.1 = some (ty k)) ∧ ∀ (ad : Nat → Nat) (k : Nat), k < N → defaultValue (ty k) = vp_V ((zdf c).map (zcv ad)) k := by
  match c, h with
  | 0, h => cases h; exact ⟨rfl, tyX0, tyX0_ok, fun ad k hk => by
    match k, hk with
    | 0, _ => rfl
    | 1, _ => rfl
    | 2, _ => rfl
    | 3, _ => rfl
    | 4, _ => rfl
    | k + 5, hk => exact absurd hk (by omega)⟩
  | 1, h => cases h; exact ⟨rfl, tyX1, tyX1_ok, fun ad k hk => by
    match k, hk with
    | 0, _ => rfl
    | 1, _ => rfl
    | 2, _ => rfl
    | 3, _ => rfl
    | 4, _ => rfl
    | 5, _ => rfl
    | 6, _ => rfl
    | 7, _ => rfl
    | 8, _ => rfl
    | k + 9, hk => exact absurd hk (by omega)⟩
  | 2, h => cases h; exact ⟨rfl, tyX2, tyX2_ok, fun ad k hk => by
    match k, hk with
    | 0, _ => rfl
    | 1, _ => rfl
    | 2, _ => rfl
    | 3, _ => rfl
    | 4, _ => rfl
    | k + 5, hk => exact absurd hk (by omega)⟩
  | 3, h => cases h; exact ⟨rfl, tyX3, tyX3_ok, fun ad k hk => by
    match k, hk with
    | 0, _ => rfl
    | 1, _ => rfl
    | 2, _ => rfl
    | 3, _ => rfl
    | 4, _ => rfl
    | 5, _ => rfl
    | 6, _ => rfl
    | 7, _ => rfl
    | 8, _ => rfl
    | 9, _ => rfl
    | 10, _ => rfl
    | k + 11, hk => exact absurd hk (by omega)⟩
  | 4, h => cases h; exact ⟨rfl, tyX4, tyX4_ok, fun ad k hk => by
    match k, hk with
    | 0, _ => rfl
    | 1, _ => rfl
    | 2, _ => rfl
    | 3, _ => rfl
    | 4, _ => rfl
    | 5, _ => rfl
    | 6, _ => rfl
    | 7, _ => rfl
    | k + 8, hk => exact absurd hk (by omega)⟩
  | 5, h => cases h; exact ⟨rfl, tyX5, tyX5_ok, fun ad k hk => by
    match k, hk with
    | 0, _ => rfl
    | 1, _ => rfl
    | 2, _ => rfl
    | 3, _ => rfl
    | k + 4, hk => exact absurd hk (by omega)⟩
  | 6, h => cases h; exact ⟨rfl, tyX6, tyX6_ok, fun ad k hk => by
    match k, hk with
    | 0, _ => rfl
    | 1, _ => rfl
    | 2, _ => rfl
    | 3, _ => rfl
    | 4, _ => rfl
    | 5, _ => rfl
    | 6, _ => rfl
    | 7, _ => rfl
    | 8, _ => rfl
    | 9, _ => rfl
    | 10, _ => rfl
    | 11, _ => rfl
    | 12, _ => rfl
    | 13, _ => rfl
    | 14, _ => rfl
    | 15, _ => rfl
    | 16, _ => rfl
    | 17, _ => rfl
    | 18, _ => rfl
    | 19, _ => rfl
    | 20, _ => rfl
    | 21, _ => rfl
    | 22, _ => rfl
    | k + 23, hk => exact absurd hk (by omega)⟩
  | n + 7, h => simp [zcls] at h
theorem zfn_ok {c d : Nat} {C : String} {T : u_T} {N : Nat} (h : zcls[c]? = some (C, T, N)) (hd : d < N) (hf : (T d).2.2.2 = true) : ∃ ty : FieldType, parseFieldDescriptor (T d).2.2.1 = some ty ∧ ∀ a : Nat, narrow ty (.ref a) = .ref a ∧ fits ty (.ref a) = true := by
  match c, h with
  | 0, h =>
    cases h
    match d, hd, hf with
    | 0, hd, hf => exact ⟨tyX0 0, tyX0_ok 0 (by decide), fun a => ⟨rfl, rfl⟩⟩
    | 1, hd, hf => exact ⟨tyX0 1, tyX0_ok 1 (by decide), fun a => ⟨rfl, rfl⟩⟩
    | 2, hd, hf => exact absurd hf (by decide)
    | 3, hd, hf => exact absurd hf (by decide)
    | 4, hd, hf => exact absurd hf (by decide)
    | k + 5, hd, hf => exact absurd hd (by omega)
  | 1, h =>
    cases h
    match d, hd, hf with
    | 0, hd, hf => exact ⟨tyX1 0, tyX1_ok 0 (by decide), fun a => ⟨rfl, rfl⟩⟩
    | 1, hd, hf => exact ⟨tyX1 1, tyX1_ok 1 (by decide), fun a => ⟨rfl, rfl⟩⟩
    | 2, hd, hf => exact ⟨tyX1 2, tyX1_ok 2 (by decide), fun a => ⟨rfl, rfl⟩⟩
    | 3, hd, hf => exact ⟨tyX1 3, tyX1_ok 3 (by decide), fun a => ⟨rfl, rfl⟩⟩
    | 4, hd, hf => exact absurd hf (by decide)
    | 5, hd, hf => exact absurd hf (by decide)
    | 6, hd, hf => exact absurd hf (by decide)
    | 7, hd, hf => exact absurd hf (by decide)
    | 8, hd, hf => exact absurd hf (by decide)
    | k + 9, hd, hf => exact absurd hd (by omega)
  | 2, h =>
    cases h
    match d, hd, hf with
    | 0, hd, hf => exact ⟨tyX2 0, tyX2_ok 0 (by decide), fun a => ⟨rfl, rfl⟩⟩
    | 1, hd, hf => exact ⟨tyX2 1, tyX2_ok 1 (by decide), fun a => ⟨rfl, rfl⟩⟩
    | 2, hd, hf => exact ⟨tyX2 2, tyX2_ok 2 (by decide), fun a => ⟨rfl, rfl⟩⟩
    | 3, hd, hf => exact ⟨tyX2 3, tyX2_ok 3 (by decide), fun a => ⟨rfl, rfl⟩⟩
    | 4, hd, hf => exact absurd hf (by decide)
    | k + 5, hd, hf => exact absurd hd (by omega)
  | 3, h =>
    cases h
    match d, hd, hf with
    | 0, hd, hf => exact ⟨tyX3 0, tyX3_ok 0 (by decide), fun a => ⟨rfl, rfl⟩⟩
    | 1, hd, hf => exact ⟨tyX3 1, tyX3_ok 1 (by decide), fun a => ⟨rfl, rfl⟩⟩
    | 2, hd, hf => exact ⟨tyX3 2, tyX3_ok 2 (by decide), fun a => ⟨rfl, rfl⟩⟩
    | 3, hd, hf => exact ⟨tyX3 3, tyX3_ok 3 (by decide), fun a => ⟨rfl, rfl⟩⟩
    | 4, hd, hf => exact ⟨tyX3 4, tyX3_ok 4 (by decide), fun a => ⟨rfl, rfl⟩⟩
    | 5, hd, hf => exact absurd hf (by decide)
    | 6, hd, hf => exact absurd hf (by decide)
    | 7, hd, hf => exact absurd hf (by decide)
    | 8, hd, hf => exact absurd hf (by decide)
    | 9, hd, hf => exact absurd hf (by decide)
    | 10, hd, hf => exact absurd hf (by decide)
    | k + 11, hd, hf => exact absurd hd (by omega)
  | 4, h =>
    cases h
    match d, hd, hf with
    | 0, hd, hf => exact ⟨tyX4 0, tyX4_ok 0 (by decide), fun a => ⟨rfl, rfl⟩⟩
    | 1, hd, hf => exact ⟨tyX4 1, tyX4_ok 1 (by decide), fun a => ⟨rfl, rfl⟩⟩
    | 2, hd, hf => exact ⟨tyX4 2, tyX4_ok 2 (by decide), fun a => ⟨rfl, rfl⟩⟩
    | 3, hd, hf => exact ⟨tyX4 3, tyX4_ok 3 (by decide), fun a => ⟨rfl, rfl⟩⟩
    | 4, hd, hf => exact ⟨tyX4 4, tyX4_ok 4 (by decide), fun a => ⟨rfl, rfl⟩⟩
    | 5, hd, hf => exact absurd hf (by decide)
    | 6, hd, hf => exact absurd hf (by decide)
    | 7, hd, hf => exact absurd hf (by decide)
    | k + 8, hd, hf => exact absurd hd (by omega)
  | 5, h =>
    cases h
    match d, hd, hf with
    | 0, hd, hf => exact ⟨tyX5 0, tyX5_ok 0 (by decide), fun a => ⟨rfl, rfl⟩⟩
    | 1, hd, hf => exact ⟨tyX5 1, tyX5_ok 1 (by decide), fun a => ⟨rfl, rfl⟩⟩
    | 2, hd, hf => exact ⟨tyX5 2, tyX5_ok 2 (by decide), fun a => ⟨rfl, rfl⟩⟩
    | 3, hd, hf => exact ⟨tyX5 3, tyX5_ok 3 (by decide), fun a => ⟨rfl, rfl⟩⟩
    | k + 4, hd, hf => exact absurd hd (by omega)
  | 6, h =>
    cases h
    match d, hd, hf with
    | 0, hd, hf => exact absurd hf (by decide)
    | 1, hd, hf => exact absurd hf (by decide)
    | 2, hd, hf => exact ⟨tyX6 2, tyX6_ok 2 (by decide), fun a => ⟨rfl, rfl⟩⟩
    | 3, hd, hf => exact ⟨tyX6 3, tyX6_ok 3 (by decide), fun a => ⟨rfl, rfl⟩⟩
    | 4, hd, hf => exact absurd hf (by decide)
    | 5, hd, hf => exact absurd hf (by decide)
    | 6, hd, hf => exact ⟨tyX6 6, tyX6_ok 6 (by decide), fun a => ⟨rfl, rfl⟩⟩
    | 7, hd, hf => exact ⟨tyX6 7, tyX6_ok 7 (by decide), fun a => ⟨rfl, rfl⟩⟩
    | 8, hd, hf => exact absurd hf (by decide)
    | 9, hd, hf => exact absurd hf (by decide)
    | 10, hd, hf => exact ⟨tyX6 10, tyX6_ok 10 (by decide), fun a => ⟨rfl, rfl⟩⟩
    | 11, hd, hf => exact absurd hf (by decide)
    | 12, hd, hf => exact absurd hf (by decide)
    | 13, hd, hf => exact absurd hf (by decide)
    | 14, hd, hf => exact absurd hf (by decide)
    | 15, hd, hf => exact ⟨tyX6 15, tyX6_ok 15 (by decide), fun a => ⟨rfl, rfl⟩⟩
    | 16, hd, hf => exact ⟨tyX6 16, tyX6_ok 16 (by decide), fun a => ⟨rfl, rfl⟩⟩
    | 17, hd, hf => exact ⟨tyX6 17, tyX6_ok 17 (by decide), fun a => ⟨rfl, rfl⟩⟩
    | 18, hd, hf => exact ⟨tyX6 18, tyX6_ok 18 (by decide), fun a => ⟨rfl, rfl⟩⟩
    | 19, hd, hf => exact absurd hf (by decide)
    | 20, hd, hf => exact ⟨tyX6 20, tyX6_ok 20 (by decide), fun a => ⟨rfl, rfl⟩⟩
    | 21, hd, hf => exact ⟨tyX6 21, tyX6_ok 21 (by decide), fun a => ⟨rfl, rfl⟩⟩
    | 22, hd, hf => exact ⟨tyX6 22, tyX6_ok 22 (by decide), fun a => ⟨rfl, rfl⟩⟩
    | k + 23, hd, hf => exact absurd hd (by omega)
  | n + 7, h => simp [zcls] at h
theorem zarr_i : Cond.arrayClass .int ∈ zall := (zall_in (zt1 (List.mem_of_getElem? (i := 42) rfl)) rfl)
theorem zarr_z : Cond.arrayClass .boolean ∈ zall := (zall_in (zt3 (List.mem_of_getElem? (i := 124) rfl)) rfl)
theorem zobj_1 : Cond.instanceMethod Lib.objectInit ∈ zall := (zall_in (zt1 (List.mem_of_getElem? (i := 16) rfl)) rfl)
theorem zobj_2 : Cond.code Lib.objectInit ⟨#[0xb1]⟩ 1 none ∈ zall := (zall_in (zt1 (List.mem_of_getElem? (i := 17) rfl)) rfl)
/-- which class a `new` makes -/
def zclk (own b ci : Nat) : Prop := ∃ C T N, zcls[ci]? = some (C, T, N) ∧ Cond.classLink (zcn own) b C ∈ zall ∧ Cond.instantiable C N ∈ zall ∧ Cond.initialized C ∈ zall
def zob (own b : Nat) : Prop := Cond.methodLink (zcn own) b Lib.objectInit ∈ zall
theorem zclk_9_7 : zclk 9 7 5 := ⟨RX5, TX5, 4, rfl, (zall_in (zt1 (List.mem_of_getElem? (i := 10) rfl)) rfl), (zall_in (zt1 (List.mem_of_getElem? (i := 11) rfl)) rfl), zini_5⟩
theorem zclk_5_7 : zclk 5 7 0 := ⟨RX0, TX0, 5, rfl, (zall_in (zt1 (List.mem_of_getElem? (i := 18) rfl)) rfl), (zall_in (zt1 (List.mem_of_getElem? (i := 19) rfl)) rfl), zini_0⟩
theorem zclk_5_10 : zclk 5 10 3 := ⟨RX3, TX3, 11, rfl, (zall_in (zt1 (List.mem_of_getElem? (i := 43) rfl)) rfl), (zall_in (zt1 (List.mem_of_getElem? (i := 44) rfl)) rfl), zini_3⟩
theorem zclk_3_9 : zclk 3 9 4 := ⟨RX4, TX4, 8, rfl, (zall_in (zt1 (List.mem_of_getElem? (i := 49) rfl)) rfl), (zall_in (zt1 (List.mem_of_getElem? (i := 50) rfl)) rfl), zini_4⟩
theorem zclk_5_21 : zclk 5 21 2 := ⟨RX2, TX2, 5, rfl, (zall_in (zt1 (List.mem_of_getElem? (i := 116) rfl)) rfl), (zall_in (zt1 (List.mem_of_getElem? (i := 117) rfl)) rfl), zini_2⟩
theorem zclk_5_32 : zclk 5 32 1 := ⟨RX1, TX1, 9, rfl, (zall_in (zt1 (List.mem_of_getElem? (i := 139) rfl)) rfl), (zall_in (zt1 (List.mem_of_getElem? (i := 140) rfl)) rfl), zini_1⟩
theorem zclk_1_39 : zclk 1 39 3 := ⟨RX3, TX3, 11, rfl, (zall_in (zt1 (List.mem_of_getElem? (i := 145) rfl)) rfl), (zall_in (zt1 (List.mem_of_getElem? (i := 44) rfl)) rfl), zini_3⟩
theorem zclk_9_10 : zclk 9 10 6 := ⟨RX6, TX6, 23, rfl, (zall_in (zt3 (List.mem_of_getElem? (i := 48) rfl)) rfl), (zall_in (zt3 (List.mem_of_getElem? (i := 49) rfl)) rfl), zini_6⟩
theorem zob_5 : zob 5 1 := (zall_in (zt1 (List.mem_of_getElem? (i := 15) rfl)) rfl)
theorem zob_0 : zob 0 3 := (zall_in (zt1 (List.mem_of_getElem? (i := 23) rfl)) rfl)
theorem zob_3 : zob 3 3 := (zall_in (zt1 (List.mem_of_getElem? (i := 48) rfl)) rfl)
theorem zob_4 : zob 4 3 := (zall_in (zt1 (List.mem_of_getElem? (i := 54) rfl)) rfl)
theorem zob_2 : zob 2 3 := (zall_in (zt1 (List.mem_of_getElem? (i := 121) rfl)) rfl)
theorem zob_1 : zob 1 3 := (zall_in (zt1 (List.mem_of_getElem? (i := 144) rfl)) rfl)
theorem zob_6 : zob 6 1 := (zall_in (zt3 (List.mem_of_getElem? (i := 53) rfl)) rfl)
theorem zcn_cls {c : Nat} {C : String} {T : u_T} {N : Nat} (h : zcls[c]? = some (C, T, N)) : zcn c = C := by
  match c, h with
  | 0, h => cases h; rfl
  | 1, h => cases h; rfl
  | 2, h => cases h; rfl
  | 3, h => cases h; rfl
  | 4, h => cases h; rfl
  | 5, h => cases h; rfl
  | 6, h => cases h; rfl
  | n + 7, h => simp [zcls] at h
theorem zws_len (E : ZG) : ∀ (h : List ZB) (k : Nat), (zws E k h).length = h.length
  | [], _ => rfl
  | b :: h, k => by
    show (zws E (k + 1) h).length + 1 = h.length + 1
    rw [zws_len E h (k + 1)]
theorem zok.at0 {E : ZG} {h : List ZB} {H : Heap} {b0 : Nat} (hz : zok E h H) (hw : zwf E) (hb0 : E.2.2.2.2.2 = some b0) (hne : 1 ≤ h.length) : E.1 h.length = H.size := by
  obtain ⟨j, hj⟩ : ∃ j, h.length = j + 1 := ⟨h.length - 1, by omega⟩
  have h1 := hz.2.2 b0 hb0
  have h2 := (hw.2.2.2 b0 hb0).1 j
  rw [hj]
  omega
theorem zok.push {E : ZG} {h : List ZB} {H H1 : Heap} {b0 : Nat} {b : ZB} (hz : zok E h H) (hw : zwf E) (hb0 : E.2.2.2.2.2 = some b0) (hne : 1 ≤ h.length) (z1 : H1.size = H.size + 1) (o1 : ∀ q : Nat, q < H.size → H1[q]? = H[q]?) (hat : va_at E.2.2.1 zcls (H.size, zcb E b) H1) : zok E (h ++ [b]) H1 := by
  have hE := hz.at0 hw hb0 hne
  refine ⟨fun k q hk => ?_, by rw [z1]; have := hz.2.1; omega, fun b1 e => by rw [z1, List.length_append]; have := hz.2.2 b1 e; show H.size + 1 + 1 = b1 + (h.length + 1); omega⟩
  have hlen : (zws E 0 h).length = h.length := zws_len E h 0
  rw [zws_app, Nat.zero_add, hE] at hk
  by_cases hl : k + 1 < (zws E 0 h).length
  · rw [List.getElem?_append_left hl] at hk
    have h3 := hz.1 k q hk
    exact h3.kept (o1 q.1 h3.lt)
  · rw [List.getElem?_append_right (by omega)] at hk
    have hz2 : k + 1 - (zws E 0 h).length < 1 := (List.getElem?_eq_some_iff.mp hk).1
    rw [show k + 1 - (zws E 0 h).length = 0 by omega] at hk
    cases hk
    exact hat
section ZBN
variable {p : Program} {l : Launch} {e : Env} {R : Room} {s : State} {m : MethodId} {args : Array Value} {below : List Frame} {meth : Method} {c : Code} {Q : State → Prop} {E : ZG} {own nL : Nat} {cc : ByteArray} {b0 : Nat}
variable {pc nx b d : Nat} {a : Int} {ls : List (Option ZV)} {st : List ZV} {h : List ZB} {cs ss : Nat}
theorem zs_60 (F : zFix p s m args c E own nL cc) (hb0 : E.2.2.2.2.2 = some b0) (hk : zck own nL cc (pc, nx, 60, a, b, d) = true) {ci : Nat} (hcl : zclk own b ci) (hne : 1 ≤ h.length) (hcells : cs + 1 ≤ R.cells) (hslots : ss + (zdf ci).length ≤ R.slots) (k : zW p l e R s m args below meth c Q E s.heap nL (nx, ls, zR h.length :: st, h ++ [zO ci (zdf ci)], cs + 1, ss + (zdf ci).length)) : zW p l e R s m args below meth c Q E s.heap nL (pc, ls, st, h, cs, ss) := by
  obtain ⟨C, T, N, hc, h1, h2, h3⟩ := hcl
  obtain ⟨hN, ty, hty, hdv⟩ := zdf_ok hc
  intro H locs lsA hz hS hL
  simp only [zck, Bool.and_eq_true] at hk
  have e3 := Nat.eq_of_beq_eq_true hk.2
  subst e3
  have hts := F.2.2.2.2.1
  have hw := F.2.2.2.2.2.2
  have hKn := F.2.2.2.2.2.1.1.1 ci _ hc
  have hE := hz.at0 hw hb0 hne
  obtain ⟨hin, -, -⟩ := zcls_ok hc
  rw [hN] at hslots
  refine W.newcK F.1 F.2.1 (own := zcn own) F.2.2.2.1 (hts _ h1) (hts _ h2) (hts _ h3) rfl (zdec_ok hk.1) hcells hslots hKn.2.1 rfl fun H1 kC hkC e1 z1 o1 => ?_
  have hat : va_at E.2.2.1 zcls (H.size, zcb E (zO ci (zdf ci))) H1 := ⟨_, hc, (u_born ty hts hin hKn hkC e1 hty).to (fun j hj => hdv E.1 j hj)⟩
  have k1 := k H1 locs lsA (hz.push hw hb0 hne z1 o1 hat) ⟨Nat.le_trans hS.1 (by omega), fun x y1 y2 => (o1 x (Nat.lt_of_lt_of_le y1 hS.1)).trans (hS.2.1 x y1 y2), hS.2.2⟩ hL
  have e9 : List.map (zcv E.1) (zR h.length :: st) = Value.ref H.size :: List.map (zcv E.1) st := by rw [List.map_cons, ← hE]; rfl
  dsimp only at k1
  rw [e9, hN] at k1
  exact k1
def znb : Nat → Bool
  | 0 => false
  | _ => true
theorem zn32 {n : Nat} (hn : n ≤ 100000) : ¬ Int32.ofInt (n : Int) < 0 ∧ (Int32.ofInt (n : Int)).toNatClampNeg = n := by
  constructor
  · intro z
    have z2 : Int32.ofInt (n : Int) < Int32.ofInt 0 := z
    rw [zi_lt (by omega) (by omega)] at z2
    omega
  · rw [zi_nat]
    exact nI_clamp (by omega)
theorem zs_61 (F : zFix p s m args c E own nL cc) (hb0 : E.2.2.2.2.2 = some b0) (hk : zck own nL cc (pc, nx, 61, a, b, d) = true) {n : Nat} (hn : n ≤ 100000) (hne : 1 ≤ h.length) (hcells : cs + 1 ≤ R.cells) (hslots : ss + n ≤ R.slots) (k : zW p l e R s m args below meth c Q E s.heap nL (nx, ls, zR h.length :: st, h ++ [.inl (znb d, n, fun _ => 0)], cs + 1, ss + n)) : zW p l e R s m args below meth c Q E s.heap nL (pc, ls, zI (n : Int) :: st, h, cs, ss) := by
  intro H locs lsA hz hS hL
  simp only [zck, Bool.and_eq_true] at hk
  have e3 := Nat.eq_of_beq_eq_true hk.2
  subst e3
  have hts := F.2.2.2.2.1
  have hw := F.2.2.2.2.2.2
  have hE := hz.at0 hw hb0 hne
  have e9 : List.map (zcv E.1) (zR h.length :: st) = Value.ref H.size :: List.map (zcv E.1) st := by rw [List.map_cons, ← hE]; rfl
  rcases d with _ | d
  · refine va_newaK (atype := .int) F.1 F.2.1 (hts _ zarr_i) rfl (zdec_ok hk.1) rfl (zn32 hn).1 (zn32 hn).2 (by show n * 4 ≤ 536870912; omega) hcells hslots rfl fun H1 cA e1 z1 o1 hAr hNm => ?_
    have e4 : cA = E.2.2.2.1 := Option.some.inj (hNm.symm.trans (F.2.2.2.2.2.1.1.2 0 _ rfl).2)
    subst e4
    have k1 := k H1 locs lsA (hz.push hw hb0 hne z1 o1 e1) ⟨Nat.le_trans hS.1 (by omega), fun x y1 y2 => (o1 x (Nat.lt_of_lt_of_le y1 hS.1)).trans (hS.2.1 x y1 y2), hS.2.2⟩ hL
    dsimp only at k1
    rw [e9] at k1
    exact k1
  · refine va_newaK (atype := .boolean) F.1 F.2.1 (hts _ zarr_z) rfl (zdec_ok hk.1) rfl (zn32 hn).1 (zn32 hn).2 (by show n * 1 ≤ 536870912; omega) hcells hslots rfl fun H1 cA e1 z1 o1 hAr hNm => ?_
    have e4 : cA = E.2.2.2.2.1 := Option.some.inj (hNm.symm.trans (F.2.2.2.2.2.1.1.2 1 _ rfl).2)
    subst e4
    have k1 := k H1 locs lsA (hz.push hw hb0 hne z1 o1 e1) ⟨Nat.le_trans hS.1 (by omega), fun x y1 y2 => (o1 x (Nat.lt_of_lt_of_le y1 hS.1)).trans (hS.2.1 x y1 y2), hS.2.2⟩ hL
    dsimp only at k1
    rw [e9] at k1
    exact k1
theorem zs_62 (F : zFix p s m args c E own nL cc) (hini : meth.name = "<init>") (hk : zck own nL cc (pc, nx, 62, a, b, d) = true) {o v : Nat} {fs : List ZV} (hb : znth h (o + 1) = some (zO b fs)) (hdl : d < fs.length) (k : zW p l e R s m args below meth c Q E s.heap nL (nx, ls, st, h.set (o + 1) (zO b (fs.set d (zR v))), cs, ss)) : zW p l e R s m args below meth c Q E s.heap nL (pc, ls, zR v :: zR (o + 1) :: st, h, cs, ss) := by
  intro H locs lsA hz hS hL
  simp only [zck, Bool.and_eq_true] at hk
  obtain ⟨⟨⟨⟨q1, q3⟩, q5⟩, q7⟩, q6⟩ := hk
  have e3 := Nat.eq_of_beq_eq_true q3
  subst e3
  have e4 := Nat.eq_of_beq_eq_true q7
  obtain ⟨C, T, N, hc, hd, hC, hl0, -⟩ := zfl_use q5
  have hl := hl0 rfl
  simp only [zfinf, hc, Bool.and_eq_true] at q6
  have hfin := q6.2
  obtain ⟨hin, ⟨ty0, hty⟩, hnm⟩ := zcls_ok hc
  obtain ⟨ty, hdt, hnf⟩ := zfn_ok hc hd hfin
  have hts := F.2.2.2.2.1
  have hKv := F.2.2.2.2.2.1.1
  have hap := va_apart (own := zcn own) hts hin ty0 hty hnm hKv hc
  obtain ⟨r, h1, cell, g1, g2, g3, g4⟩ := hz.P _ _ (hz.cell hb)
  have hr : r = (C, T, N) := Option.some.inj (h1.symm.trans hc)
  subst hr
  obtain ⟨hSl, hfc, kC, hkC, hkind⟩ := hKv.1 b _ hc
  obtain ⟨cf, kf, fi, f, hi, hsl⟩ := hSl d hd
  have hlay := hts _ (hin _ (u_in_lay hd))
  unfold u_lay at hlay
  rw [if_pos hfin] at hlay
  have hst := (u_facts hfc hkC (u_lays hts hin hd) hi).1
  have hCo : C = zcn own := by
    have hb1 := zcn_cls hc
    rw [e4, hb1]
  have hcf : m.cls = cf := by
    obtain ⟨_, _, c', _, _, _, -, -, hf', -, -, -, hown2, -⟩ := Cond.laysFinal_spec hlay
    have e1 : c' = cf := by have := hi.symm.trans hf'; simp at this; exact this.1.symm
    rw [hC, hCo] at hown2
    rw [← e1]; exact Option.some.inj (F.2.2.2.1.symm.trans hown2)
  have h6 := u_fits hfc hkC hkind (Or.inr hlay) hi hdt (hnf (E.1 v)).1 (hnf (E.1 v)).2
  have hi2 := hi
  rw [hC] at hi2
  refine W.putFinK F.1 F.2.1 (own := zcn own) F.2.2.2.1 (hts _ hl) hi2 hst hcf hini (by rw [g2]; exact h6) g1 g3 (by rw [hsl]; exact k2_hasslot (g4 d hd)) rfl rfl (zdec_ok q1) fun H' e1 e2 e5 => ?_
  rw [hsl] at e1 ⊢
  refine k H' _ lsA (zok.put hz F.2.2.2.2.2.2 ?_ e2 e5) (hS.put e2 e5 (F.2.2.2.2.2.2.2.1 o)) hL
  refine ⟨_, hc, ?_⟩
  show t_OB _ _ _ _ _ (vp_V ((fs.set d (zR v)).map (zcv E.1)))
  rw [← zmapset]
  exact t_OB.to (V := updV (vp_V (fs.map (zcv E.1))) d (.ref (E.1 v))) ⟨_, e1, g2, g3, t_set g4 hap hd _⟩ (fun j _ => vp_updV_set (by rw [List.length_map]; exact hdl) _ j)
theorem zs_43 (F : zFix p s m args c E own nL cc) (hk : zck own nL cc (pc, nx, 43, a, b, d) = true) (hob : zob own b) {o : Nat} (hfr : 1 ≤ R.frames) (hlo : (st.map zcat).sum + 12 ≤ R.locals) (k : zW p l e R s m args below meth c Q E s.heap nL (nx, ls, st, h, cs, ss)) : zW p l e R s m args below meth c Q E s.heap nL (pc, ls, zR o :: st, h, cs, ss) := by
  intro H locs lsA hz hS hL
  simp only [zck, Bool.and_eq_true] at hk
  have e3 := Nat.eq_of_beq_eq_true hk.2
  subst e3
  have hts := F.2.2.2.2.1
  refine W.objInit F.1 F.2.1 (own := zcn own) F.2.2.2.1 (hts _ hob) (hts _ zobj_1) (hts _ zobj_2) rfl ?_ rfl (zdec_ok hk.1) hfr ?_ ?_
  · show lsA.size = c.maxLocals
    rw [F.2.2.1]; exact hL.1
  · show 2 * 0 + ((st.map (zcv E.1)).map fun v => v.category).sum + 12 ≤ R.locals
    rw [zsum]; omega
  · exact k H locs lsA hz hS hL
end ZBN
