/-! a method by its abstract run: V is any property of abstract states that is closed under the machine's ways back -/
def zent : List ZV → List (Option ZV)
  | [] => []
  | v :: vs => bif zone v then some v :: zent vs else some v :: none :: zent vs
theorem zent_cons (v : ZV) (vs : List ZV) : zent (v :: vs) = bif zone v then some v :: zent vs else some v :: none :: zent vs := rfl
theorem zent_len (ad : Nat → Nat) : ∀ as : List ZV, (lg_sl (as.map (zcv ad))).length = (zent as).length
  | [] => rfl
  | v :: vs => by
    have ih := zent_len ad vs
    have hc := zcat_eq ad v
    simp only [lg_sl, List.map_cons, List.flatMap_cons, List.length_append] at ih ⊢
    rw [ih, zent_cons]
    cases hz : zone v
    · have h2 : (zcv ad v).category = 2 := by
        rw [hc]
        rcases v with x | x | x
        · simp [zone] at hz
        · rfl
        · simp [zone] at hz
      rw [if_pos h2]
      simp only [cond_false, List.length_cons, List.length_nil]
      omega
    · have h1 : ¬ (zcv ad v).category = 2 := by rw [zone_eq hz]; decide
      rw [if_neg h1]
      simp only [cond_true, List.length_cons, List.length_nil]
      omega
theorem zent_args (ad : Nat → Nat) : ∀ (as : List ZV) (k i : Nat) (v : ZV), znth (zent as) i = some (some v) → (k + i, zcv ad v) ∈ lv_args k (as.map (zcv ad))
  | [], k, i, v, h => by simp [zent, znth] at h
  | w :: vs, k, i, v, h => by
    simp only [List.map_cons, lv_args]
    unfold zent at h
    cases hz : zone w
    · rw [hz] at h
      have h2 : (zcv ad w).category = 2 := by
        rw [zcat_eq]
        rcases w with x | x | x
        · simp [zone] at hz
        · rfl
        · simp [zone] at hz
      rw [if_pos h2]
      match i, h with
      | 0, h => cases h; exact List.mem_cons_self
      | 1, h => cases h
      | i + 2, h =>
        have := zent_args ad vs (k + 2) i v h
        rw [show k + 2 + i = k + (i + 2) by omega] at this
        exact List.mem_cons_of_mem _ this
    · rw [hz] at h
      have h1 : ¬ (zcv ad w).category = 2 := by rw [zone_eq hz]; decide
      rw [if_neg h1]
      match i, h with
      | 0, h => cases h; exact List.mem_cons_self
      | i + 1, h =>
        have := zent_args ad vs (k + 1) i v h
        rw [show k + 1 + i = k + (i + 1) by omega] at this
        exact List.mem_cons_of_mem _ this
theorem znth_pad {ls : List (Option ZV)} {k i : Nat} {v : ZV} (h : znth (ls ++ List.replicate k none) i = some (some v)) : znth ls i = some (some v) := by
  rw [znth_eq] at h ⊢
  by_cases hl : i < ls.length
  · rw [List.getElem?_append_left hl] at h
    exact h
  · rw [List.getElem?_append_right (by omega)] at h
    have h1 := List.eq_of_mem_replicate (List.mem_of_getElem? h)
    cases h1
theorem zentry {ad : Nat → Nat} {as : List ZV} {n : Nat} {ls0 : List (Option ZV)} (hls : zent as ++ List.replicate (n - (zent as).length) none = ls0) (hle : Nat.ble (zent as).length n = true) : zlok ad ((lg_sl (as.map (zcv ad)) ++ List.replicate (n - (lg_sl (as.map (zcv ad))).length) Slot.unset).toArray) n ls0 := by
  obtain ⟨h1, h2, h3⟩ := lv_entry (as.map (zcv ad)) (n := n) (by rw [zent_len]; exact Nat.le_of_ble_eq_true hle)
  refine ⟨h1, h2, fun i v h => ?_⟩
  subst hls
  have := zent_args ad as 0 i v (znth_pad h)
  rw [Nat.zero_add] at this
  exact h3 _ this
abbrev ZP : Type := Option ZV → List ZB → Prop
def zClo (l : Launch) (own : Nat) (tb : List ZE) (mm : ZM) (Post : ZP) (V : ZS → Prop) : Prop :=
  (∀ (n : Nat) (st s1 : ZS) (P : Prop), zrun tb n st = some (s1, P) → P → V s1 → V st) ∧
  (∀ (n : Nat) (st s1 s2 : ZS) (C P : Prop), zrunB tb n st = some (C, P, s1, s2) → P → (C → V s1) → (¬ C → V s2) → V st) ∧
  (∀ (n : Nat) (st t : ZS) (P : Prop) (b d ci na o : Nat) (as fs : List ZV) (m' : ZM) (Po : ZP), zrunC tb n st = some (P, 40, b, d, zR (o + 1) :: as, t) → P → zlk own b m' → zmV ci na m' → d = na + 1 → znth t.2.2.2.1 (o + 1) = some (zO ci fs) → zfits m' mm = true → (t.2.2.2.2.1 + m'.2.2.2.2.2.2.1 ≤ mm.2.2.2.2.2.2.1 ∧ t.2.2.2.2.2 + m'.2.2.2.2.2.2.2 ≤ mm.2.2.2.2.2.2.2) → zMet l m' (zR (o + 1) :: as) t.2.2.2.1 Po → (∀ v h1, Po v h1 → V (t.1, t.2.1, v.toList ++ t.2.2.1, h1, t.2.2.2.2.1 + m'.2.2.2.2.2.2.1, t.2.2.2.2.2 + m'.2.2.2.2.2.2.2)) → V st) ∧
  (∀ (n : Nat) (st t : ZS) (P : Prop) (b d : Nat) (as : List ZV) (m' : ZM) (Po : ZP), zrunC tb n st = some (P, 41, b, d, as, t) → P → zlk own b m' → zmS d m' → zfits m' mm = true → (t.2.2.2.2.1 + m'.2.2.2.2.2.2.1 ≤ mm.2.2.2.2.2.2.1 ∧ t.2.2.2.2.2 + m'.2.2.2.2.2.2.2 ≤ mm.2.2.2.2.2.2.2) → zMet l m' as t.2.2.2.1 Po → (∀ v h1, Po v h1 → V (t.1, t.2.1, v.toList ++ t.2.2.1, h1, t.2.2.2.2.1 + m'.2.2.2.2.2.2.1, t.2.2.2.2.2 + m'.2.2.2.2.2.2.2)) → V st) ∧
  (∀ (n : Nat) (st : ZS) (P : Prop) (v : Option ZV) (h : List ZB) (cs ss : Nat), zrunR tb n st = some (P, v, h, cs, ss) → P → zrok mm.2.2.2.1 v → (cs ≤ mm.2.2.2.2.2.2.1 ∧ ss ≤ mm.2.2.2.2.2.2.2) → Post v h → V st)
def zGood (own : Nat) (tb : List ZE) (mm : ZM) : Prop := tb.all (zck own mm.2.2.1 mm.2.1) = true ∧ plainName mm.1.cls = true ∧ mm.1.cls = zcn own
section ZMS
variable {p : Program} {l : Launch} {e : Env} {s : State} {m : MethodId} {args : Array Value} {below : List Frame} {meth : Method} {c : Code} {E : ZG} {own : Nat} {tb : List ZE} {mm : ZM} {Post : ZP}
theorem zclo_ok (F : zFix p s m args c E own mm.2.2.1 mm.2.1) (hb0 : E.2.2.2.2.2 = none) (ht : ∀ q ∈ tb, zck own mm.2.2.1 mm.2.1 q = true) (hret : meth.sig.returnType = mm.2.2.2.1) (hlk : meth.locks = false) : zClo l own tb mm Post (zW p l e (zroom mm) s m args below meth c (MQ below (zQc E Post) args s mm.2.2.2.2.2.2.1 mm.2.2.2.2.2.2.2 E.2.1) E s.heap mm.2.2.1) := by
  refine ⟨fun n st s1 P h1 h2 h3 => zrun_ok F ht n h1 h2 h3, fun n st s1 s2 C P h1 h2 h3 h4 => ?_, fun n st t P b d ci na o as fs m' Po h1 h2 h3 h4 h5 h6 h7 h8 h9 k => ?_, fun n st t P b d as m' Po h1 h2 h3 h4 h7 h8 h9 k => ?_, fun n st P v h cs ss h1 h2 h3 h4 h5 => ?_⟩
  · simp only [zrunB] at h1
    split at h1
    · rename_i sa Pa ha
      split at h1
      · rename_i C1 c1 t1 t2 hb
        cases h1
        exact zrun_ok F ht n ha h2.2 (zbr_ok F ht hb h2.1 h3 h4)
      · cases h1
    · cases h1
  · simp only [zrunC] at h1
    split at h1
    · rename_i sa Pa ha
      split at h1
      · rename_i k1 b1 d1 as1 t1 hb
        cases h1
        exact zrun_ok F ht n ha h2 (zcallV_ok F ht rfl hb h3 h4 h5 h6 h7 h8 (h9 E F.2.2.2.2.2.2 hb0) k)
      · cases h1
    · cases h1
  · simp only [zrunC] at h1
    split at h1
    · rename_i sa Pa ha
      split at h1
      · rename_i k1 b1 d1 as1 t1 hb
        cases h1
        exact zrun_ok F ht n ha h2 (zcallS_ok F ht rfl hb h3 h4 h7 h8 (h9 E F.2.2.2.2.2.2 hb0) k)
      · cases h1
    · cases h1
  · simp only [zrunR] at h1
    split at h1
    · rename_i sa Pa ha
      split at h1
      · rename_i w v1 hb
        cases h1
        exact zrun_ok F ht n ha h2 (zret_ok F ht rfl hret hlk hb h3 h4 h5)
      · cases h1
    · cases h1
end ZMS
theorem z_method {l : Launch} {own : Nat} {tb : List ZE} {mm : ZM} {as : List ZV} {h : List ZB} {Post : ZP} (hg : zGood own tb mm) (ls0 : List (Option ZV)) (hls : zent as ++ List.replicate (mm.2.2.1 - (zent as).length) none = ls0) (hle : Nat.ble (zent as).length mm.2.2.1 = true) (body : ∀ V : ZS → Prop, zClo l own tb mm Post V → V (0, ls0, [], h, 0, 0)) : zMet l mm as h Post := by
  intro E hw hb0
  refine Met.ofW (cc := mm.2.1) (maxL := mm.2.2.1) (ret := mm.2.2.2.1) hg.2.1 rfl ?_
  intro p e s m args below meth c s₁ B hml hv
  obtain ⟨rfl, hz, hK⟩ := hv
  have hts := atoms_spec (ws := zwords mm) B.pre
  have hown : s.vm.findClass (zcn own) = some m.cls := by rw [← hg.2.2]; exact findClass_of_methodNamed B.named
  have F : zFix p s m (as.map (zcv E.1)).toArray c E own mm.2.2.1 mm.2.1 := ⟨B.exec, B.bytes, hml, hown, fun w hw => hts w (List.mem_cons_of_mem _ hw), hK, hw⟩
  have C := zclo_ok (l := l) (e := e) (below := below) (meth := meth) (Post := Post) F hb0 (List.all_eq_true.mp hg.1) B.returns B.notSynchronized
  rw [lg_entry_eq]
  exact body _ C s.heap [] _ hz va_S.rf (zentry hls hle)
