/-! calls and returns; a method by its abstract run -/
theorem ztake_ok : ∀ (n : Nat) (st acc xs r : List ZV), ztake n st acc = some (xs, r) → ∃ tk : List ZV, st = tk ++ r ∧ xs = tk.reverse ++ acc ∧ tk.length = n
  | 0, st, acc, xs, r, h => by
    simp only [ztake] at h
    cases h
    exact ⟨[], rfl, rfl, rfl⟩
  | n + 1, v :: st, acc, xs, r, h => by
    obtain ⟨tk, e1, e2, e3⟩ := ztake_ok n st (v :: acc) xs r h
    exact ⟨v :: tk, by rw [e1]; rfl, by rw [e2]; simp, by simp [e3]⟩
  | n + 1, [], acc, xs, r, h => by simp [ztake] at h
theorem ztake_st {ad : Nat → Nat} {n : Nat} {st xs r : List ZV} (h : ztake n st [] = some (xs, r)) : st.map (zcv ad) = (xs.map (zcv ad)).reverse ++ r.map (zcv ad) ∧ xs.length = n := by
  obtain ⟨tk, e1, e2, e3⟩ := ztake_ok n st [] xs r h
  rw [List.append_nil] at e2
  subst e2
  rw [e1, List.map_append]
  exact ⟨by rw [List.map_reverse, List.reverse_reverse], by rw [List.length_reverse]; exact e3⟩
theorem zsum (ad : Nat → Nat) (r : List ZV) : ((r.map (zcv ad)).map fun v => v.category) = r.map zcat := by
  rw [List.map_map]
  exact List.map_congr_left (fun v _ => zcat_eq ad v)
theorem zgoodw {m : ZM} (h : zcode m ∈ zall) : GoodIn zall (zwords m) := zall_good (fun w hw => (List.mem_cons.mp hw).elim (fun e => e ▸ h) id)
/-- the callee's room in the caller's -/
def zfits (m' m : ZM) : Bool := Nat.ble (m'.2.2.2.2.1 + 1) m.2.2.2.2.1 && Nat.ble (8 + (m'.2.2.1 + 11) + m'.2.2.2.2.2.1) m.2.2.2.2.2.1
section ZC
variable {p : Program} {l : Launch} {e : Env} {s : State} {m : MethodId} {args : Array Value} {below : List Frame} {meth : Method} {c : Code} {Q : State → Prop} {E : ZG} {own nL : Nat} {cc : ByteArray} {tb : List ZE} {mm m' : ZM}
theorem zafter {R : Room} {H : Heap} {locs : List Loc} {cs ss mc ms pc : Nat} {lsA : Array Slot} {st0 : List Value} {rest : List ZV} {Post : Option ZV → List ZB → Prop} {a : Array Value} {ls : List (Option ZV)}
    (hr : va_Run p l e R s m args below meth c H locs cs ss mc ms (F0 m pc lsA st0) (rest.map (zcv E.1)) (zQc E Post a) E.2.1) (hS : va_S E.2.1 s.heap H locs) (hL : zlok E.1 lsA nL ls)
    (k : ∀ v h1, Post v h1 → zW p l e R s m args below meth c Q E s.heap nL (pc + 3, ls, v.toList ++ rest, h1, cs + mc, ss + ms)) : W p l e R s m args below meth c H locs cs ss Q (F0 m pc lsA st0) := by
  intro T hT X
  obtain ⟨v0, st₀, t, T', L, h0, X', hLl, e1, e2, ⟨⟨v, h1, hv, hp, hz1⟩, hz, hk⟩, st⟩ := hr T hT X
  cases hv
  rw [h0] at hz hk
  obtain ⟨t2, a1, b1⟩ := k v h1 hp T'.heap (locs ++ L) lsA (by rw [e1]; exact hz1)
    ⟨Nat.le_trans hS.1 (by rw [e1]; exact hz), fun q h1 h2 => by rw [e1, hk q (Nat.lt_of_lt_of_le h1 hS.1) h2]; exact hS.2.1 q h1 h2, fun q hq => by
      rcases List.mem_append.mp hq with h | h
      · exact hS.2.2 q h
      · exact hLl q h⟩ hL T' rfl X'
  refine ⟨t2, st t2 ?_, b1⟩
  have e9 : (v.toList ++ rest).map (zcv E.1) = (v.map (zcv E.1)).toList ++ rest.map (zcv E.1) := by cases v <;> rfl
  rw [← e9]
  exact a1
theorem zbody {h : List ZB} {H : Heap} {as : List ZV} (F : zFix p s m args c E own nL cc) (hz : zok E h H) : FrameBlind (zPc E as h) ∧ ∀ U : State, U.heap = H → s.WarmedH U.vm → zPc E as h (as.map (zcv E.1)).toArray U :=
  ⟨zPc_blind E as h, fun U hU hW => ⟨rfl, by rw [hU]; exact hz, F.2.2.2.2.2.1.warm hW⟩⟩
theorem zcallV_ok (F : zFix p s m args c E own nL cc) (ht : ∀ q ∈ tb, zck own nL cc q = true) {R : Room} (hR : R = zroom mm) {st t : ZS} {b d ci na o : Nat} {as : List ZV} {fs : List ZV} {Post : Option ZV → List ZB → Prop} (hx : zca tb st = some (40, b, d, zR (o + 1) :: as, t)) (hl : zlk own b m') (hv : zmV ci na m') (hd : d = na + 1) (hc : znth t.2.2.2.1 (o + 1) = some (zO ci fs)) (hf : zfits m' mm = true) (hr : t.2.2.2.2.1 + m'.2.2.2.2.2.2.1 ≤ mm.2.2.2.2.2.2.1 ∧ t.2.2.2.2.2 + m'.2.2.2.2.2.2.2 ≤ mm.2.2.2.2.2.2.2) (hM : Met l m'.1 (zwords m') (zroom m') (zPc E (zR (o + 1) :: as) t.2.2.2.1) (zQc E Post) m'.2.2.2.2.2.2.1 m'.2.2.2.2.2.2.2 E.2.1)
    (k : ∀ v h1, Post v h1 → zW p l e R s m args below meth c Q E s.heap nL (t.1, t.2.1, v.toList ++ t.2.2.1, h1, t.2.2.2.2.1 + m'.2.2.2.2.2.2.1, t.2.2.2.2.2 + m'.2.2.2.2.2.2.2)) : zW p l e R s m args below meth c Q E s.heap nL st := by
  subst hR
  obtain ⟨pc, ls, sk, h, cs, ss⟩ := st
  simp only [zca] at hx
  split at hx
  · rename_i nx code a b' d' hfe
    split at hx
    · rename_i xs r htk
      obtain ⟨hble, hx2⟩ := zif hx rfl
      cases hx2
      have hk := ht _ (zfetch_in hfe)
      simp only [zck, Bool.and_eq_true] at hk
      have e3 := Nat.eq_of_beq_eq_true hk.2
      subst e3
      intro H locs lsA hz hS hL
      have hts := F.2.2.2.2.1
      obtain ⟨v1, v2, v3, v4, ⟨v5, v6, v7⟩, v8⟩ := hv
      simp only [zfits, Bool.and_eq_true] at hf
      obtain ⟨est, elen⟩ := ztake_st (ad := E.1) htk
      have hsum : ((r.map (zcv E.1)).map fun v => v.category).sum ≤ 8 := by rw [zsum]; exact Nat.le_of_ble_eq_true hble
      obtain ⟨hbl, hpc⟩ := zbody (as := zR (o + 1) :: as) F hz
      obtain ⟨q, hq⟩ : ∃ q, zcls[ci]? = some q := by
        cases hq : zcls[ci]? with
        | none => rw [hq] at v8; cases v8
        | some q => exact ⟨q, rfl⟩
      have hqn : q.1 = m'.1.cls := by rw [hq] at v8; exact Option.some.inj v8
      have hrecv := va_recv F.2.2.2.2.2.1.1 hz.P hq (hz.cell hc)
      rw [hqn] at hrecv
      have hlen : ∀ sig, parseMethodDescriptor m'.1.desc = some sig → na = sig.parameters.length := fun sig h => by
        rw [h] at v7
        exact (Option.some.inj v7).symm
      have hal : (as.map (zcv E.1)).length = na := by
        rw [List.length_map]
        have : as.length + 1 = na + 1 := by rw [← hd]; exact elen
        omega
      have hg : List.map (zcv E.1) sk = (as.map (zcv E.1)).reverse ++ .ref (E.1 (o + 1)) :: r.map (zcv E.1) := by
        rw [est]
        simp [zcv]
      have pay : ∀ w ∈ zwords m', ∀ (a' : Array Value) (U : State), s.WarmedH U.vm → w.before a' U = true := pay_in hts (zgoodw v4)
      have hcells : cs + m'.2.2.2.2.2.2.1 ≤ (zroom mm).cells ∧ ss + m'.2.2.2.2.2.2.2 ≤ (zroom mm).slots := hr
      have hframe : (zroom m').frames + 1 ≤ (zroom mm).frames := Nat.le_of_ble_eq_true hf.1
      have hloc : 8 + (m'.2.2.1 + 11) + (zroom m').locals ≤ (zroom mm).locals := Nat.le_of_ble_eq_true hf.2
      rcases hl with hl | hl
      · exact zafter (va_runV (own := zcn own) (C := m'.1.cls) (bytes := m'.2.1) (maxL := m'.2.2.1) (ret := m'.2.2.2.1) (n := na) ⟨F.1, F.2.1, F.2.2.1, F.2.2.2.1, hts⟩ hM ⟨⟨rfl, rfl, hframe, hloc, pay, List.mem_cons_self, hts _ v4, hts _ v3, ⟨v5, v6⟩, hlen, hts _ hl⟩, hts _ v1, hts _ v2⟩ ⟨hbl, hrecv, hpc⟩ rfl hal hL.1 hg (lv_room hsum) (zdec_ok hk.1) hcells) hS hL k
      · exact zafter (va_runVN (own := zcn own) (C := m'.1.cls) (host := "ShireWays") (bytes := m'.2.1) (maxL := m'.2.2.1) (ret := m'.2.2.2.1) (n := na) ⟨F.1, F.2.1, F.2.2.1, F.2.2.2.1, hts⟩ hM ⟨⟨⟨rfl, rfl, hframe, hloc, pay, List.mem_cons_self⟩, hts _ v4, hts _ v3, ⟨v5, v6⟩, hlen, va_Nw.use rfl (F.2.2.2.2.2.1.2.2 _ hl)⟩, hts _ v1, hts _ v2⟩ ⟨hbl, hrecv, hpc⟩ rfl hal hL.1 hg (lv_room hsum) (zdec_ok hk.1) hcells) hS hL k
    · cases hx
  · cases hx
theorem zcallS_ok (F : zFix p s m args c E own nL cc) (ht : ∀ q ∈ tb, zck own nL cc q = true) {R : Room} (hR : R = zroom mm) {st t : ZS} {b d : Nat} {as : List ZV} {Post : Option ZV → List ZB → Prop} (hx : zca tb st = some (41, b, d, as, t)) (hl : zlk own b m') (hv : zmS d m') (hf : zfits m' mm = true) (hr : t.2.2.2.2.1 + m'.2.2.2.2.2.2.1 ≤ mm.2.2.2.2.2.2.1 ∧ t.2.2.2.2.2 + m'.2.2.2.2.2.2.2 ≤ mm.2.2.2.2.2.2.2) (hM : Met l m'.1 (zwords m') (zroom m') (zPc E as t.2.2.2.1) (zQc E Post) m'.2.2.2.2.2.2.1 m'.2.2.2.2.2.2.2 E.2.1)
    (k : ∀ v h1, Post v h1 → zW p l e R s m args below meth c Q E s.heap nL (t.1, t.2.1, v.toList ++ t.2.2.1, h1, t.2.2.2.2.1 + m'.2.2.2.2.2.2.1, t.2.2.2.2.2 + m'.2.2.2.2.2.2.2)) : zW p l e R s m args below meth c Q E s.heap nL st := by
  subst hR
  obtain ⟨pc, ls, sk, h, cs, ss⟩ := st
  simp only [zca] at hx
  split at hx
  · rename_i nx code a b' d' hfe
    split at hx
    · rename_i xs r htk
      obtain ⟨hble, hx2⟩ := zif hx rfl
      cases hx2
      have hk := ht _ (zfetch_in hfe)
      simp only [zck, Bool.and_eq_true] at hk
      have e3 := Nat.eq_of_beq_eq_true hk.2
      subst e3
      intro H locs lsA hz hS hL
      have hts := F.2.2.2.2.1
      obtain ⟨v1, v3, v4, ⟨v5, v6, v7⟩⟩ := hv
      simp only [zfits, Bool.and_eq_true] at hf
      obtain ⟨hg, elen⟩ := ztake_st (ad := E.1) htk
      have hsum : ((r.map (zcv E.1)).map fun v => v.category).sum ≤ 8 := by rw [zsum]; exact Nat.le_of_ble_eq_true hble
      obtain ⟨hbl, hpc⟩ := zbody (as := as) F hz
      have hlen : ∀ sig, parseMethodDescriptor m'.1.desc = some sig → d = sig.parameters.length := fun sig h => by
        rw [h] at v7
        exact (Option.some.inj v7).symm
      have hal : (as.map (zcv E.1)).length = d := by rw [List.length_map]; exact elen
      have pay : ∀ w ∈ zwords m', ∀ (a' : Array Value) (U : State), s.WarmedH U.vm → w.before a' U = true := pay_in hts (zgoodw v4)
      have hcells : cs + m'.2.2.2.2.2.2.1 ≤ (zroom mm).cells ∧ ss + m'.2.2.2.2.2.2.2 ≤ (zroom mm).slots := hr
      have hframe : (zroom m').frames + 1 ≤ (zroom mm).frames := Nat.le_of_ble_eq_true hf.1
      have hloc : 8 + (m'.2.2.1 + 11) + (zroom m').locals ≤ (zroom mm).locals := Nat.le_of_ble_eq_true hf.2
      rcases hl with hl | hl
      · exact zafter (va_runS (own := zcn own) (bytes := m'.2.1) (maxL := m'.2.2.1) (ret := m'.2.2.2.1) (n := d) ⟨F.1, F.2.1, F.2.2.1, F.2.2.2.1, hts⟩ hM ⟨⟨rfl, rfl, hframe, hloc, pay, List.mem_cons_self, hts _ v4, hts _ v3, ⟨v5, v6⟩, hlen, hts _ hl⟩, hts _ v1⟩ ⟨hbl, hpc⟩ rfl hal hL.1 hg (lv_room hsum) (zdec_ok hk.1) hcells) hS hL k
      · exact zafter (va_runSN (own := zcn own) (host := "ShireWays") (bytes := m'.2.1) (maxL := m'.2.2.1) (ret := m'.2.2.2.1) (n := d) ⟨F.1, F.2.1, F.2.2.1, F.2.2.2.1, hts⟩ hM ⟨⟨⟨rfl, rfl, hframe, hloc, pay, List.mem_cons_self⟩, hts _ v4, hts _ v3, ⟨v5, v6⟩, hlen, va_Nw.use rfl (F.2.2.2.2.2.1.2.2 _ hl)⟩, hts _ v1, trivial⟩ ⟨hbl, hpc⟩ rfl hal hL.1 hg (lv_room hsum) (zdec_ok hk.1) hcells) hS hL k
    · cases hx
  · cases hx
theorem zcallI_ok (F : zFix p s m args c E own nL cc) (ht : ∀ q ∈ tb, zck own nL cc q = true) {R : Room} (hR : R = zroom mm) {st t : ZS} {b d na o : Nat} {as : List ZV} {Post : Option ZV → List ZB → Prop} (hx : zca tb st = some (42, b, d, zR o :: as, t)) (hl : zlk own b m') (hv : zmI na m') (hret : m'.2.2.2.1 = none) (hd : d = na + 1) (hf : zfits m' mm = true) (hr : t.2.2.2.2.1 + m'.2.2.2.2.2.2.1 ≤ mm.2.2.2.2.2.2.1 ∧ t.2.2.2.2.2 + m'.2.2.2.2.2.2.2 ≤ mm.2.2.2.2.2.2.2) (hM : Met l m'.1 (zwords m') (zroom m') (zPc E (zR o :: as) t.2.2.2.1) (zQc E Post) m'.2.2.2.2.2.2.1 m'.2.2.2.2.2.2.2 E.2.1)
    (k : ∀ v h1, Post v h1 → zW p l e R s m args below meth c Q E s.heap nL (t.1, t.2.1, v.toList ++ t.2.2.1, h1, t.2.2.2.2.1 + m'.2.2.2.2.2.2.1, t.2.2.2.2.2 + m'.2.2.2.2.2.2.2)) : zW p l e R s m args below meth c Q E s.heap nL st := by
  subst hR
  obtain ⟨pc, ls, sk, h, cs, ss⟩ := st
  simp only [zca] at hx
  split at hx
  · rename_i nx code a b' d' hfe
    split at hx
    · rename_i xs r htk
      obtain ⟨hble, hx2⟩ := zif hx rfl
      cases hx2
      have hk := ht _ (zfetch_in hfe)
      simp only [zck, Bool.and_eq_true] at hk
      have e3 := Nat.eq_of_beq_eq_true hk.2
      subst e3
      intro H locs lsA hz hS hL
      have hts := F.2.2.2.2.1
      obtain ⟨v0, v1, v3, v4, ⟨v5, v6, v7⟩⟩ := hv
      simp only [zfits, Bool.and_eq_true] at hf
      obtain ⟨est, elen⟩ := ztake_st (ad := E.1) htk
      have hsum : ((r.map (zcv E.1)).map fun v => v.category).sum ≤ 8 := by rw [zsum]; exact Nat.le_of_ble_eq_true hble
      obtain ⟨hbl, hpc⟩ := zbody (as := zR o :: as) F hz
      have hlen : ∀ sig, parseMethodDescriptor m'.1.desc = some sig → na = sig.parameters.length := fun sig h => by
        rw [h] at v7
        exact (Option.some.inj v7).symm
      have hal : (as.map (zcv E.1)).length = na := by
        rw [List.length_map]
        have : as.length + 1 = na + 1 := by rw [← hd]; exact elen
        omega
      have hg : List.map (zcv E.1) sk = (as.map (zcv E.1)).reverse ++ .ref (E.1 o) :: r.map (zcv E.1) := by
        rw [est]
        simp [zcv]
      have hcode : zcode m' = Cond.code m'.1 m'.2.1 m'.2.2.1 none := by unfold zcode; rw [hret]
      have pay : ∀ w ∈ zwords m', ∀ (a' : Array Value) (U : State), s.WarmedH U.vm → w.before a' U = true := pay_in hts (zgoodw v4)
      have hmem : Cond.code m'.1 m'.2.1 m'.2.2.1 none ∈ zwords m' := by rw [← hcode]; exact List.mem_cons_self
      have hcb : (Cond.code m'.1 m'.2.1 m'.2.2.1 none).before args s = true := by rw [← hcode]; exact hts _ v4
      have hcells : cs + m'.2.2.2.2.2.2.1 ≤ (zroom mm).cells ∧ ss + m'.2.2.2.2.2.2.2 ≤ (zroom mm).slots := hr
      have hframe : (zroom m').frames + 1 ≤ (zroom mm).frames := Nat.le_of_ble_eq_true hf.1
      have hloc : 8 + (m'.2.2.1 + 11) + (zroom m').locals ≤ (zroom mm).locals := Nat.le_of_ble_eq_true hf.2
      rcases hl with hl | hl
      · exact zafter (va_runI (own := zcn own) (bytes := m'.2.1) (maxL := m'.2.2.1) (n := na) ⟨F.1, F.2.1, F.2.2.1, F.2.2.2.1, hts⟩ hM ⟨⟨rfl, rfl, hframe, hloc, pay, hmem, hcb, hts _ v3, ⟨v5, v6⟩, hlen, hts _ hl⟩, v0, hts _ v1⟩ ⟨hbl, hpc⟩ rfl hal hL.1 hg (lv_room hsum) (zdec_ok hk.1) hcells) hS hL k
      · exact zafter (va_runIN (own := zcn own) (host := "ShireWays") (bytes := m'.2.1) (maxL := m'.2.2.1) (n := na) ⟨F.1, F.2.1, F.2.2.1, F.2.2.2.1, hts⟩ hM ⟨⟨⟨rfl, rfl, hframe, hloc, pay, hmem⟩, hcb, hts _ v3, ⟨v5, v6⟩, hlen, va_Nw.use rfl (F.2.2.2.2.2.1.2.2 _ hl)⟩, v0, hts _ v1⟩ ⟨hbl, hpc⟩ rfl hal hL.1 hg (lv_room hsum) (zdec_ok hk.1) hcells) hS hL k
    · cases hx
  · cases hx
/-- what an answer must be -/
def zrok : Option FieldType → Option ZV → Prop
  | some .int, some (.inl _) => True
  | some .boolean, some (.inl x) => x = 0 ∨ x = 1
  | none, none => True
  | _, _ => False
theorem zret_ok (F : zFix p s m args c E own nL cc) (ht : ∀ q ∈ tb, zck own nL cc q = true) {R : Room} {Post : Option ZV → List ZB → Prop} (hQ : Q = MQ below (zQc E Post) args s mm.2.2.2.2.2.2.1 mm.2.2.2.2.2.2.2 E.2.1) (hret : meth.sig.returnType = mm.2.2.2.1) (hlk : meth.locks = false) {st : ZS} {w : Nat} {v : Option ZV} (hx : zre tb st = some (w, v)) (hv : zrok mm.2.2.2.1 v) (hr : st.2.2.2.2.1 ≤ mm.2.2.2.2.2.2.1 ∧ st.2.2.2.2.2 ≤ mm.2.2.2.2.2.2.2) (hp : Post v st.2.2.2.1) : zW p l e R s m args below meth c Q E s.heap nL st := by
  subst hQ
  obtain ⟨pc, ls, sk, h, cs, ss⟩ := st
  simp only [zre] at hx
  split at hx
  · rename_i nx code a b d hfe
    have hk := ht _ (zfetch_in hfe)
    split at hx
    · split at hx
      · rename_i x
        cases hx
        simp only [zck] at hk
        intro H locs lsA hz hS hL
        refine W.widen hr.1 hr.2 ?_
        revert hv hret
        generalize mm.2.2.2.1 = rt
        intro hret hv
        unfold zrok at hv
        split at hv
        · exact W.iret (v := Int32.ofInt _) F.1 F.2.1 hret (fun t ht hW => ⟨⟨some (zI _), h, rfl, by rename_i q1; cases q1; exact hp, by rw [ht]; exact hz⟩, hS.F ht⟩) hS.2.2 (zdec_ok hk) hlk
        · refine W.zret (v := Int32.ofInt x) F.1 F.2.1 hret ?_ (fun t ht hW => ⟨⟨some (zI x), h, rfl, hp, by rw [ht]; exact hz⟩, hS.F ht⟩) hS.2.2 (zdec_ok hk) hlk
          rename_i x1 q1
          cases q1
          rcases hv with h9 | h9
          · rw [h9]; rfl
          · rw [h9]; rfl
        · rename_i q1; cases q1
        · exact absurd hv id
      · cases hx
    · split at hx
      · cases hx
        simp only [zck] at hk
        intro H locs lsA hz hS hL
        refine W.widen hr.1 hr.2 ?_
        revert hv hret
        generalize mm.2.2.2.1 = rt
        intro hret hv
        unfold zrok at hv
        split at hv
        · rename_i q1; cases q1
        · rename_i q1; cases q1
        · exact W.vret F.1 F.2.1 hret (fun t ht hW => ⟨⟨none, h, rfl, hp, by rw [ht]; exact hz⟩, hS.F ht⟩) hS.2.2 (zdec_ok hk) hlk
        · exact absurd hv id
      · cases hx
    · cases hx
  · cases hx
end ZC
