/-! a method that makes cells, by its abstract run -/
def zCloN (l : Launch) (own : Nat) (tb : List ZE) (mm : ZM) (Post : ZP) (V : ZS → Prop) : Prop :=
  (∀ (n : Nat) (st s1 : ZS) (P : Prop), zrun tb n st = some (s1, P) → P → V s1 → V st) ∧
  (∀ (pc nx b d ci : Nat) (a : Int) (ls : List (Option ZV)) (st : List ZV) (h : List ZB) (cs ss : Nat), zfetch tb pc = some (nx, 60, a, b, d) → zclk own b ci → 1 ≤ h.length → (cs + 1 ≤ mm.2.2.2.2.2.2.1 ∧ ss + (zdf ci).length ≤ mm.2.2.2.2.2.2.2) → V (nx, ls, zR h.length :: st, h ++ [zO ci (zdf ci)], cs + 1, ss + (zdf ci).length) → V (pc, ls, st, h, cs, ss)) ∧
  (∀ (pc nx b d n : Nat) (a : Int) (ls : List (Option ZV)) (st : List ZV) (h : List ZB) (cs ss : Nat), zfetch tb pc = some (nx, 61, a, b, d) → n ≤ 100000 → 1 ≤ h.length → (cs + 1 ≤ mm.2.2.2.2.2.2.1 ∧ ss + n ≤ mm.2.2.2.2.2.2.2) → V (nx, ls, zR h.length :: st, h ++ [.inl (znb d, n, fun _ => 0)], cs + 1, ss + n) → V (pc, ls, zI (n : Int) :: st, h, cs, ss)) ∧
  (∀ (pc nx b d o v : Nat) (a : Int) (fs : List ZV) (ls : List (Option ZV)) (st : List ZV) (h : List ZB) (cs ss : Nat), zfetch tb pc = some (nx, 62, a, b, d) → znth h (o + 1) = some (zO b fs) → d < fs.length → V (nx, ls, st, h.set (o + 1) (zO b (fs.set d (zR v))), cs, ss) → V (pc, ls, zR v :: zR (o + 1) :: st, h, cs, ss)) ∧
  (∀ (pc nx b d o : Nat) (a : Int) (ls : List (Option ZV)) (st : List ZV) (h : List ZB) (cs ss : Nat), zfetch tb pc = some (nx, 43, a, b, d) → zob own b → (1 ≤ mm.2.2.2.2.1 ∧ (st.map zcat).sum + 12 ≤ mm.2.2.2.2.2.1) → V (nx, ls, st, h, cs, ss) → V (pc, ls, zR o :: st, h, cs, ss)) ∧
  (∀ (n : Nat) (st t : ZS) (P : Prop) (b d na o : Nat) (as : List ZV) (m' : ZM) (Po : ZP), zrunC tb n st = some (P, 42, b, d, zR o :: as, t) → P → zlk own b m' → zmI na m' → m'.2.2.2.1 = none → d = na + 1 → zfits m' mm = true → (t.2.2.2.2.1 + m'.2.2.2.2.2.2.1 ≤ mm.2.2.2.2.2.2.1 ∧ t.2.2.2.2.2 + m'.2.2.2.2.2.2.2 ≤ mm.2.2.2.2.2.2.2) → zMetN l m' (zR o :: as) t.2.2.2.1 Po → (∀ v h1, Po v h1 → V (t.1, t.2.1, v.toList ++ t.2.2.1, h1, t.2.2.2.2.1 + m'.2.2.2.2.2.2.1, t.2.2.2.2.2 + m'.2.2.2.2.2.2.2)) → V st) ∧
  (∀ (n : Nat) (st : ZS) (P : Prop) (v : Option ZV) (h : List ZB) (cs ss : Nat), zrunR tb n st = some (P, v, h, cs, ss) → P → zrok mm.2.2.2.1 v → (cs ≤ mm.2.2.2.2.2.2.1 ∧ ss ≤ mm.2.2.2.2.2.2.2) → Post v h → V st)
section ZMK
variable {p : Program} {l : Launch} {e : Env} {s : State} {m : MethodId} {args : Array Value} {below : List Frame} {meth : Method} {c : Code} {E : ZG} {own : Nat} {tb : List ZE} {mm : ZM} {Post : ZP} {b0 : Nat}
theorem zcloN_ok (F : zFix p s m args c E own mm.2.2.1 mm.2.1) (hb0 : E.2.2.2.2.2 = some b0) (hini : meth.name = "<init>") (ht : ∀ q ∈ tb, zck own mm.2.2.1 mm.2.1 q = true) (hret : meth.sig.returnType = mm.2.2.2.1) (hlk : meth.locks = false) : zCloN l own tb mm Post (zW p l e (zroom mm) s m args below meth c (MQ below (zQc E Post) args s mm.2.2.2.2.2.2.1 mm.2.2.2.2.2.2.2 E.2.1) E s.heap mm.2.2.1) := by
  refine ⟨fun n st s1 P h1 h2 h3 => zrun_ok F ht n h1 h2 h3, fun pc nx b d ci a ls st h cs ss h1 h2 h3 h4 k => zs_60 F hb0 (ht _ (zfetch_in h1)) h2 h3 h4.1 h4.2 k, fun pc nx b d n a ls st h cs ss h1 h2 h3 h4 k => zs_61 F hb0 (ht _ (zfetch_in h1)) h2 h3 h4.1 h4.2 k, fun pc nx b d o v a fs ls st h cs ss h1 h2 h3 k => zs_62 F hini (ht _ (zfetch_in h1)) h2 h3 k, fun pc nx b d o a ls st h cs ss h1 h2 h3 k => zs_43 F (ht _ (zfetch_in h1)) h2 h3.1 h3.2 k, fun n st t P b d na o as m' Po h1 h2 h3 h4 h5 h6 h7 h8 h9 k => ?_, fun n st P v h cs ss h1 h2 h3 h4 h5 => ?_⟩
  · simp only [zrunC] at h1
    split at h1
    · rename_i sa Pa ha
      split at h1
      · rename_i k1 b1 d1 as1 t1 hb
        cases h1
        exact zrun_ok F ht n ha h2 (zcallI_ok F ht rfl hb h3 h4 h5 h6 h7 h8 (h9 E b0 F.2.2.2.2.2.2 hb0) k)
      · cases h1
    · cases h1
  · simp only [zrunR] at h1
    split at h1
    · rename_i sa Pa ha
      split at h1
      · rename_i w v1 hb
        cases h1
        exact zrun_ok F ht n ha h2 (zret_ok F ht rfl hret hlk hb h3 h4 h5)
      · cases h1
    · cases h1
variable {V : ZS → Prop}
theorem zn_go (c : zCloN l own tb mm Post V) (n : Nat) {st s1 : ZS} {P : Prop} (h : zrun tb n st = some (s1, P)) (hP : P) (k : V s1) : V st := c.1 n st s1 P h hP k
theorem zn_new (c : zCloN l own tb mm Post V) (ci : Nat) {pc nx b d : Nat} {a : Int} {ls : List (Option ZV)} {st : List ZV} {h : List ZB} {cs ss : Nat} (hf : zfetch tb pc = some (nx, 60, a, b, d)) (hc : zclk own b ci) (hl : Nat.ble 1 h.length = true) (hr : (Nat.ble (cs + 1) mm.2.2.2.2.2.2.1 && Nat.ble (ss + (zdf ci).length) mm.2.2.2.2.2.2.2) = true) (k : V (nx, ls, zR h.length :: st, h ++ [zO ci (zdf ci)], cs + 1, ss + (zdf ci).length)) : V (pc, ls, st, h, cs, ss) :=
  c.2.1 pc nx b d ci a ls st h cs ss hf hc (Nat.le_of_ble_eq_true hl) (by rw [Bool.and_eq_true] at hr; exact ⟨Nat.le_of_ble_eq_true hr.1, Nat.le_of_ble_eq_true hr.2⟩) k
theorem zn_arr (c : zCloN l own tb mm Post V) (n : Nat) {pc nx b d : Nat} {a x : Int} {ls : List (Option ZV)} {st : List ZV} {h : List ZB} {cs ss : Nat} (hx : x = (n : Int)) (hf : zfetch tb pc = some (nx, 61, a, b, d)) (hn : Nat.ble n 100000 = true) (hl : Nat.ble 1 h.length = true) (hr : (Nat.ble (cs + 1) mm.2.2.2.2.2.2.1 && Nat.ble (ss + n) mm.2.2.2.2.2.2.2) = true) (k : V (nx, ls, zR h.length :: st, h ++ [.inl (znb d, n, fun _ => 0)], cs + 1, ss + n)) : V (pc, ls, zI x :: st, h, cs, ss) := by
  subst hx
  exact c.2.2.1 pc nx b d n a ls st h cs ss hf (Nat.le_of_ble_eq_true hn) (Nat.le_of_ble_eq_true hl) (by rw [Bool.and_eq_true] at hr; exact ⟨Nat.le_of_ble_eq_true hr.1, Nat.le_of_ble_eq_true hr.2⟩) k
theorem zn_fin (c : zCloN l own tb mm Post V) (o v : Nat) (fs : List ZV) {pc nx b d : Nat} {a : Int} {ls : List (Option ZV)} {st : List ZV} {h : List ZB} {cs ss : Nat} (hf : zfetch tb pc = some (nx, 62, a, b, d)) (hb : znth h (o + 1) = some (zO b fs)) (hd : Nat.blt d fs.length = true) (k : V (nx, ls, st, h.set (o + 1) (zO b (fs.set d (zR v))), cs, ss)) : V (pc, ls, zR v :: zR (o + 1) :: st, h, cs, ss) :=
  c.2.2.2.1 pc nx b d o v a fs ls st h cs ss hf hb (Nat.le_of_ble_eq_true hd) k
theorem zn_obj (c : zCloN l own tb mm Post V) {pc nx b d o : Nat} {a : Int} {ls : List (Option ZV)} {st : List ZV} {h : List ZB} {cs ss : Nat} (hf : zfetch tb pc = some (nx, 43, a, b, d)) (hb : zob own b) (hr : (Nat.ble 1 mm.2.2.2.2.1 && Nat.ble ((st.map zcat).sum + 12) mm.2.2.2.2.2.1) = true) (k : V (nx, ls, st, h, cs, ss)) : V (pc, ls, zR o :: st, h, cs, ss) :=
  c.2.2.2.2.1 pc nx b d o a ls st h cs ss hf hb (by rw [Bool.and_eq_true] at hr; exact ⟨Nat.le_of_ble_eq_true hr.1, Nat.le_of_ble_eq_true hr.2⟩) k
theorem zn_cI (c : zCloN l own tb mm Post V) (n : Nat) {st : ZS} {P : Prop} {b na o : Nat} {as : List ZV} {m' : ZM} {Po : ZP} (hl : zlk own b m') (hv : zmI na m') (hn : m'.2.2.2.1 = none) {pc : Nat} {ls : List (Option ZV)} {sk : List ZV} {h : List ZB} {cs ss : Nat} (hM : zMetN l m' (zR o :: as) h Po) (hx : zrunC tb n st = some (P, 42, b, na + 1, zR o :: as, (pc, ls, sk, h, cs, ss))) (hP : P) (hf : zfits m' mm = true) (hr : (Nat.ble (cs + m'.2.2.2.2.2.2.1) mm.2.2.2.2.2.2.1 && Nat.ble (ss + m'.2.2.2.2.2.2.2) mm.2.2.2.2.2.2.2) = true)
    (k : ∀ v h1, Po v h1 → V (pc, ls, v.toList ++ sk, h1, cs + m'.2.2.2.2.2.2.1, ss + m'.2.2.2.2.2.2.2)) : V st := c.2.2.2.2.2.1 n st (pc, ls, sk, h, cs, ss) P b (na + 1) na o as m' Po hx hP hl hv hn rfl hf (by rw [Bool.and_eq_true] at hr; exact ⟨Nat.le_of_ble_eq_true hr.1, Nat.le_of_ble_eq_true hr.2⟩) hM k
theorem zn_re (c : zCloN l own tb mm Post V) (n : Nat) {st : ZS} {P : Prop} {v : Option ZV} {h : List ZB} {cs ss : Nat} (hx : zrunR tb n st = some (P, v, h, cs, ss)) (hP : P) (hv : zrok mm.2.2.2.1 v) (hr : (Nat.ble cs mm.2.2.2.2.2.2.1 && Nat.ble ss mm.2.2.2.2.2.2.2) = true) (hp : Post v h) : V st := c.2.2.2.2.2.2 n st P v h cs ss hx hP hv (by rw [Bool.and_eq_true] at hr; exact ⟨Nat.le_of_ble_eq_true hr.1, Nat.le_of_ble_eq_true hr.2⟩) hp
end ZMK
theorem z_methodN {l : Launch} {own : Nat} {tb : List ZE} {mm : ZM} {as : List ZV} {h : List ZB} {Post : ZP} (hg : zGood own tb mm) (hin : mm.1.name = "<init>") (ls0 : List (Option ZV)) (hls : zent as ++ List.replicate (mm.2.2.1 - (zent as).length) none = ls0) (hle : Nat.ble (zent as).length mm.2.2.1 = true) (body : ∀ V : ZS → Prop, zCloN l own tb mm Post V → V (0, ls0, [], h, 0, 0)) : zMetN l mm as h Post := by
  intro E b0 hw hb0
  refine Met.ofW (cc := mm.2.1) (maxL := mm.2.2.1) (ret := mm.2.2.2.1) hg.2.1 rfl ?_
  intro p e s m args below meth c s₁ B hml hv
  obtain ⟨rfl, hz, hK⟩ := hv
  have hts := atoms_spec (ws := zwords mm) B.pre
  have hown : s.vm.findClass (zcn own) = some m.cls := by rw [← hg.2.2]; exact findClass_of_methodNamed B.named
  have hini : meth.name = "<init>" := (name_of_methodNamed B.named B.method).1.trans hin
  have F : zFix p s m (as.map (zcv E.1)).toArray c E own mm.2.2.1 mm.2.1 := ⟨B.exec, B.bytes, hml, hown, fun w hw => hts w (List.mem_cons_of_mem _ hw), hK, hw⟩
  have C := zcloN_ok (l := l) (e := e) (below := below) (meth := meth) (Post := Post) F hb0 hini (List.all_eq_true.mp hg.1) B.returns B.notSynchronized
  rw [lg_entry_eq]
  exact body _ C s.heap [] _ hz va_S.rf (zentry hls hle)
