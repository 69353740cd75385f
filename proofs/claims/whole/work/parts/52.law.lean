/-! THE LAW: what is made ahead of the loop; the start; the claim (the rows lw_.. and i_vc are those of the skeleton for this claim) -/
theorem zCI_0 : zCI zB0 zS00 zS00 zL0 zR0 zM0 := by
  have hz : zch (bT zB0) (bK zB0) (bN zB0) zS00 := ⟨⟨(show (-9 : Int) ≤ -9 ∧ (-9 : Int) ≤ 100 by decide), (show (-9 : Int) ≤ -9 ∧ (-9 : Int) < 0 by decide), (show (-9 : Int) ≤ -9 ∧ (-9 : Int) ≤ 100 by decide)⟩, Or.inl rfl⟩
  refine ⟨⟨(show (0 : Int) ≤ 0 ∧ (0 : Int) ≤ 100 by decide), fun p w a b => ?_, fun p a b => ?_, fun p hp => ?_, (show (0 : Nat) ≤ 20 by decide), fun p a b => ?_, fun q a b => ?_⟩, hz, hz, ⟨⟨(show (-9 : Int) ≤ -9 ∧ (-9 : Int) ≤ 100 by decide), (show (-9 : Int) ≤ -9 ∧ (-9 : Int) ≤ 100 by decide), (show (-9 : Int) ≤ -9 ∧ (-9 : Int) ≤ 100 by decide), (show (-9 : Int) ≤ -9 ∧ (-9 : Int) < 0 by decide)⟩, Or.inl rfl⟩, ⟨⟨(show (0 : Int) ≤ 0 ∧ (0 : Int) ≤ 12 by decide), fun w a b => ?_⟩, fun w _ _ => Or.inl rfl, fun p _ _ => (show (-9 : Int) ≤ 0 ∧ (0 : Int) ≤ 10 by decide)⟩, ⟨rfl, rfl⟩, ⟨rfl, rfl, fun p a b => ?_, fun p f a b => ?_⟩, rfl, rfl, rfl, rfl⟩
  · exfalso; have h : p < 0 := b; omega
  · exfalso; have h : p < 0 := b; omega
  · exfalso; have h : (p : Int) < 0 := hp; omega
  · exfalso; have h : p < 0 := b; omega
  · exfalso; have h : q < 0 := b; omega
  · exfalso; have h : w < 0 := b; omega
  · exfalso; have h : p < 0 := b; omega
  · exfalso; have h : p < 0 := b; omega
section ZLP
variable {l : Launch} {tb : List ZE} {V : ZS → Prop}
theorem zP_go (c : zCloP l tb V) (n : Nat) {st s1 : ZS} {P : Prop} (h : zrun tb n st = some (s1, P)) (hP : P) (k : V s1) : V st := c.1 n st s1 P h hP k
theorem zP_new (c : zCloP l tb V) (ci : Nat) {pc nx b d : Nat} {a : Int} {ls : List (Option ZV)} {st : List ZV} {h : List ZB} {cs ss : Nat} (hf : zfetch tb pc = some (nx, 60, a, b, d)) (hc : zclk 9 b ci) (hl : Nat.ble 1 h.length = true) (hr : (Nat.ble (cs + 1) 44 && Nat.ble (ss + (zdf ci).length) 5724) = true) (k : V (nx, ls, zR h.length :: st, h ++ [zO ci (zdf ci)], cs + 1, ss + (zdf ci).length)) : V (pc, ls, st, h, cs, ss) :=
  c.2.1 pc nx b d ci a ls st h cs ss hf hc (Nat.le_of_ble_eq_true hl) (by rw [Bool.and_eq_true] at hr; exact ⟨Nat.le_of_ble_eq_true hr.1, Nat.le_of_ble_eq_true hr.2⟩) k
theorem zP_cI (c : zCloP l tb V) (n : Nat) {st : ZS} {P : Prop} {b na o : Nat} {as : List ZV} {m' : ZM} {Po : ZP} (hl : zlk 9 b m') (hv : zmI na m') (hn : m'.2.2.2.1 = none) {pc : Nat} {ls : List (Option ZV)} {sk : List ZV} {h : List ZB} {cs ss : Nat} (hM : zMetN l m' (zR o :: as) h Po) (hx : zrunC tb n st = some (P, 42, b, na + 1, zR o :: as, (pc, ls, sk, h, cs, ss))) (hP : P) (hf : zfits m' mL = true) (hr : (Nat.ble (cs + m'.2.2.2.2.2.2.1) 44 && Nat.ble (ss + m'.2.2.2.2.2.2.2) 5724) = true)
    (k : ∀ v h1, Po v h1 → V (pc, ls, v.toList ++ sk, h1, cs + m'.2.2.2.2.2.2.1, ss + m'.2.2.2.2.2.2.2)) : V st := c.2.2 n st (pc, ls, sk, h, cs, ss) P b (na + 1) na o as m' Po hx hP hl hv hn rfl hf (by rw [Bool.and_eq_true] at hr; exact ⟨Nat.le_of_ble_eq_true hr.1, Nat.le_of_ble_eq_true hr.2⟩) hM k
end ZLP
set_option maxRecDepth 8000 in
theorem zlstart (l : Launch) (sn : Nat) (sf : Int → Int) (V : ZS → Prop) (c : zCloP l tbL_a V) (k : V (18, [some (zR 0), some (zR 1), some (zR 32), some (zI 0)], [], zw (sn, sf, 5, 5, 22) zB0 zS00 zS00 zL0 zR0 zM0, 44, 5724)) : V (0, [some (zR 0), none, none, none], [], [zA sn sf], 0, 0) := by
  refine zP_new c 5 rfl zclk_9_7 rfl rfl ?_
  show V (3, [some (zR 0), none, none, none], [zR 1], [zA sn sf, zO 5 [zN, zN, zN, zN]], 1, 4)
  refine zP_go c 1 (s1 := (4, [some (zR 0), none, none, none], [zR 1, zR 1], [zA sn sf, zO 5 [zN, zN, zN, zN]], 1, 4)) rfl trivial ?_
  refine zP_cI c 0 (pc := 7) (ls := [some (zR 0), none, none, none]) (sk := [zR 1]) (h := [zA sn sf, zO 5 [zN, zN, zN, zN]]) (cs := 1) (ss := 4) k_9_9 zv_X5_init rfl (c_X5_init l sn sf) rfl trivial rfl rfl ?_
  rintro _ _ ⟨rfl, rfl⟩
  show V (7, [some (zR 0), none, none, none], [zR 1], [zA sn sf, zO 5 [zR 2, zR 15, zR 5, zR 20], zO 0 [zR 3, zR 4, zI 0, zI 0, zI 0], zA 1200 (fun _ => 0), zA 100 (fun _ => 0), zO 3 [zR 2, zR 6, zR 12, zR 13, zR 14, zI 0, zI 0, zI 10, zI (-9), zI (-9), zI (-9)], zO 4 [zR 7, zR 8, zR 9, zR 10, zR 11, zI 20, zI 2, zI 1], zA 303 (fun _ => 0), zA 303 (fun _ => 0), zA 303 (fun _ => 0), zA 3 (fun _ => 0), zA 101 (fun _ => 0), zA 3 (fun _ => 0), zA 20 (fun _ => 0), zA 20 (fun _ => 0), zO 2 [zR 16, zR 17, zR 18, zR 19, zI 0], zA 12 (fun _ => 0), zA 12 (fun _ => 0), zA 12 (fun _ => 0), zA 10 (fun _ => 0), zO 1 [zR 2, zR 5, zR 22, zR 21, zI 0, zI (-9), zI (-9), zI (-9), zI (-9)], zA 100 (fun _ => 0), zO 3 [zR 2, zR 23, zR 29, zR 30, zR 31, zI 0, zI 0, zI 10, zI (-9), zI (-9), zI (-9)], zO 4 [zR 24, zR 25, zR 26, zR 27, zR 28, zI 20, zI 2, zI 1], zA 303 (fun _ => 0), zA 303 (fun _ => 0), zA 303 (fun _ => 0), zA 3 (fun _ => 0), zA 101 (fun _ => 0), zA 3 (fun _ => 0), zA 20 (fun _ => 0), zA 20 (fun _ => 0)], 31, 3619)
  refine zP_go c 1 (s1 := (8, [some (zR 0), some (zR 1), none, none], [], [zA sn sf, zO 5 [zR 2, zR 15, zR 5, zR 20], zO 0 [zR 3, zR 4, zI 0, zI 0, zI 0], zA 1200 (fun _ => 0), zA 100 (fun _ => 0), zO 3 [zR 2, zR 6, zR 12, zR 13, zR 14, zI 0, zI 0, zI 10, zI (-9), zI (-9), zI (-9)], zO 4 [zR 7, zR 8, zR 9, zR 10, zR 11, zI 20, zI 2, zI 1], zA 303 (fun _ => 0), zA 303 (fun _ => 0), zA 303 (fun _ => 0), zA 3 (fun _ => 0), zA 101 (fun _ => 0), zA 3 (fun _ => 0), zA 20 (fun _ => 0), zA 20 (fun _ => 0), zO 2 [zR 16, zR 17, zR 18, zR 19, zI 0], zA 12 (fun _ => 0), zA 12 (fun _ => 0), zA 12 (fun _ => 0), zA 10 (fun _ => 0), zO 1 [zR 2, zR 5, zR 22, zR 21, zI 0, zI (-9), zI (-9), zI (-9), zI (-9)], zA 100 (fun _ => 0), zO 3 [zR 2, zR 23, zR 29, zR 30, zR 31, zI 0, zI 0, zI 10, zI (-9), zI (-9), zI (-9)], zO 4 [zR 24, zR 25, zR 26, zR 27, zR 28, zI 20, zI 2, zI 1], zA 303 (fun _ => 0), zA 303 (fun _ => 0), zA 303 (fun _ => 0), zA 3 (fun _ => 0), zA 101 (fun _ => 0), zA 3 (fun _ => 0), zA 20 (fun _ => 0), zA 20 (fun _ => 0)], 31, 3619)) rfl trivial ?_
  refine zP_new c 6 rfl zclk_9_10 rfl rfl ?_
  show V (11, [some (zR 0), some (zR 1), none, none], [zR 32], [zA sn sf, zO 5 [zR 2, zR 15, zR 5, zR 20], zO 0 [zR 3, zR 4, zI 0, zI 0, zI 0], zA 1200 (fun _ => 0), zA 100 (fun _ => 0), zO 3 [zR 2, zR 6, zR 12, zR 13, zR 14, zI 0, zI 0, zI 10, zI (-9), zI (-9), zI (-9)], zO 4 [zR 7, zR 8, zR 9, zR 10, zR 11, zI 20, zI 2, zI 1], zA 303 (fun _ => 0), zA 303 (fun _ => 0), zA 303 (fun _ => 0), zA 3 (fun _ => 0), zA 101 (fun _ => 0), zA 3 (fun _ => 0), zA 20 (fun _ => 0), zA 20 (fun _ => 0), zO 2 [zR 16, zR 17, zR 18, zR 19, zI 0], zA 12 (fun _ => 0), zA 12 (fun _ => 0), zA 12 (fun _ => 0), zA 10 (fun _ => 0), zO 1 [zR 2, zR 5, zR 22, zR 21, zI 0, zI (-9), zI (-9), zI (-9), zI (-9)], zA 100 (fun _ => 0), zO 3 [zR 2, zR 23, zR 29, zR 30, zR 31, zI 0, zI 0, zI 10, zI (-9), zI (-9), zI (-9)], zO 4 [zR 24, zR 25, zR 26, zR 27, zR 28, zI 20, zI 2, zI 1], zA 303 (fun _ => 0), zA 303 (fun _ => 0), zA 303 (fun _ => 0), zA 3 (fun _ => 0), zA 101 (fun _ => 0), zA 3 (fun _ => 0), zA 20 (fun _ => 0), zA 20 (fun _ => 0), zO 6 [zI 0, zI 0, zN, zN, zI 0, zI 0, zN, zN, zI 0, zI 0, zN, zI 0, zI 0, zI 0, zI 0, zN, zN, zN, zN, zI 0, zN, zN, zN]], 32, 3642)
  refine zP_go c 1 (s1 := (12, [some (zR 0), some (zR 1), none, none], [zR 32, zR 32], [zA sn sf, zO 5 [zR 2, zR 15, zR 5, zR 20], zO 0 [zR 3, zR 4, zI 0, zI 0, zI 0], zA 1200 (fun _ => 0), zA 100 (fun _ => 0), zO 3 [zR 2, zR 6, zR 12, zR 13, zR 14, zI 0, zI 0, zI 10, zI (-9), zI (-9), zI (-9)], zO 4 [zR 7, zR 8, zR 9, zR 10, zR 11, zI 20, zI 2, zI 1], zA 303 (fun _ => 0), zA 303 (fun _ => 0), zA 303 (fun _ => 0), zA 3 (fun _ => 0), zA 101 (fun _ => 0), zA 3 (fun _ => 0), zA 20 (fun _ => 0), zA 20 (fun _ => 0), zO 2 [zR 16, zR 17, zR 18, zR 19, zI 0], zA 12 (fun _ => 0), zA 12 (fun _ => 0), zA 12 (fun _ => 0), zA 10 (fun _ => 0), zO 1 [zR 2, zR 5, zR 22, zR 21, zI 0, zI (-9), zI (-9), zI (-9), zI (-9)], zA 100 (fun _ => 0), zO 3 [zR 2, zR 23, zR 29, zR 30, zR 31, zI 0, zI 0, zI 10, zI (-9), zI (-9), zI (-9)], zO 4 [zR 24, zR 25, zR 26, zR 27, zR 28, zI 20, zI 2, zI 1], zA 303 (fun _ => 0), zA 303 (fun _ => 0), zA 303 (fun _ => 0), zA 3 (fun _ => 0), zA 101 (fun _ => 0), zA 3 (fun _ => 0), zA 20 (fun _ => 0), zA 20 (fun _ => 0), zO 6 [zI 0, zI 0, zN, zN, zI 0, zI 0, zN, zN, zI 0, zI 0, zN, zI 0, zI 0, zI 0, zI 0, zN, zN, zN, zN, zI 0, zN, zN, zN]], 32, 3642)) rfl trivial ?_
  refine zP_cI c 0 (pc := 15) (ls := [some (zR 0), some (zR 1), none, none]) (sk := [zR 32]) (h := [zA sn sf, zO 5 [zR 2, zR 15, zR 5, zR 20], zO 0 [zR 3, zR 4, zI 0, zI 0, zI 0], zA 1200 (fun _ => 0), zA 100 (fun _ => 0), zO 3 [zR 2, zR 6, zR 12, zR 13, zR 14, zI 0, zI 0, zI 10, zI (-9), zI (-9), zI (-9)], zO 4 [zR 7, zR 8, zR 9, zR 10, zR 11, zI 20, zI 2, zI 1], zA 303 (fun _ => 0), zA 303 (fun _ => 0), zA 303 (fun _ => 0), zA 3 (fun _ => 0), zA 101 (fun _ => 0), zA 3 (fun _ => 0), zA 20 (fun _ => 0), zA 20 (fun _ => 0), zO 2 [zR 16, zR 17, zR 18, zR 19, zI 0], zA 12 (fun _ => 0), zA 12 (fun _ => 0), zA 12 (fun _ => 0), zA 10 (fun _ => 0), zO 1 [zR 2, zR 5, zR 22, zR 21, zI 0, zI (-9), zI (-9), zI (-9), zI (-9)], zA 100 (fun _ => 0), zO 3 [zR 2, zR 23, zR 29, zR 30, zR 31, zI 0, zI 0, zI 10, zI (-9), zI (-9), zI (-9)], zO 4 [zR 24, zR 25, zR 26, zR 27, zR 28, zI 20, zI 2, zI 1], zA 303 (fun _ => 0), zA 303 (fun _ => 0), zA 303 (fun _ => 0), zA 3 (fun _ => 0), zA 101 (fun _ => 0), zA 3 (fun _ => 0), zA 20 (fun _ => 0), zA 20 (fun _ => 0), zO 6 [zI 0, zI 0, zN, zN, zI 0, zI 0, zN, zN, zI 0, zI 0, zN, zI 0, zI 0, zI 0, zI 0, zN, zN, zN, zN, zI 0, zN, zN, zN]]) (cs := 32) (ss := 3642) k_9_12 zv_X6_init rfl (c_X6_init l sn sf) rfl trivial rfl rfl ?_
  rintro _ _ ⟨rfl, rfl⟩
  show V (15, [some (zR 0), some (zR 1), none, none], [zR 32], [zA sn sf, zO 5 [zR 2, zR 15, zR 5, zR 20], zO 0 [zR 3, zR 4, zI 0, zI 0, zI 0], zA 1200 (fun _ => 0), zA 100 (fun _ => 0), zO 3 [zR 2, zR 6, zR 12, zR 13, zR 14, zI 0, zI 0, zI 10, zI (-9), zI (-9), zI (-9)], zO 4 [zR 7, zR 8, zR 9, zR 10, zR 11, zI 20, zI 2, zI 1], zA 303 (fun _ => 0), zA 303 (fun _ => 0), zA 303 (fun _ => 0), zA 3 (fun _ => 0), zA 101 (fun _ => 0), zA 3 (fun _ => 0), zA 20 (fun _ => 0), zA 20 (fun _ => 0), zO 2 [zR 16, zR 17, zR 18, zR 19, zI 0], zA 12 (fun _ => 0), zA 12 (fun _ => 0), zA 12 (fun _ => 0), zA 10 (fun _ => 0), zO 1 [zR 2, zR 5, zR 22, zR 21, zI 0, zI (-9), zI (-9), zI (-9), zI (-9)], zA 100 (fun _ => 0), zO 3 [zR 2, zR 23, zR 29, zR 30, zR 31, zI 0, zI 0, zI 10, zI (-9), zI (-9), zI (-9)], zO 4 [zR 24, zR 25, zR 26, zR 27, zR 28, zI 20, zI 2, zI 1], zA 303 (fun _ => 0), zA 303 (fun _ => 0), zA 303 (fun _ => 0), zA 3 (fun _ => 0), zA 101 (fun _ => 0), zA 3 (fun _ => 0), zA 20 (fun _ => 0), zA 20 (fun _ => 0), zO 6 [zI 0, zI 0, zR 33, zR 34, zI 0, zI 0, zR 35, zR 36, zI 0, zI (-9), zR 37, zI 0, zI 0, zI 0, zI 0, zR 38, zR 39, zR 40, zR 41, zI 0, zR 42, zR 43, zR 44], zA 12 (fun _ => 0), zA 12 (fun _ => 0), zA 100 (fun _ => 0), zA 1200 (fun _ => 0), zZ 100 (fun _ => 0), zA 101 (fun _ => 0), zA 102 (fun _ => 0), zA 102 (fun _ => 0), zZ 303 (fun _ => 0), zA 20 (fun _ => 0), zZ 20 (fun _ => 0), zA 10 (fun _ => 0)], 44, 5724)
  refine zP_go c 3 (s1 := (18, [some (zR 0), some (zR 1), some (zR 32), some (zI 0)], [], [zA sn sf, zO 5 [zR 2, zR 15, zR 5, zR 20], zO 0 [zR 3, zR 4, zI 0, zI 0, zI 0], zA 1200 (fun _ => 0), zA 100 (fun _ => 0), zO 3 [zR 2, zR 6, zR 12, zR 13, zR 14, zI 0, zI 0, zI 10, zI (-9), zI (-9), zI (-9)], zO 4 [zR 7, zR 8, zR 9, zR 10, zR 11, zI 20, zI 2, zI 1], zA 303 (fun _ => 0), zA 303 (fun _ => 0), zA 303 (fun _ => 0), zA 3 (fun _ => 0), zA 101 (fun _ => 0), zA 3 (fun _ => 0), zA 20 (fun _ => 0), zA 20 (fun _ => 0), zO 2 [zR 16, zR 17, zR 18, zR 19, zI 0], zA 12 (fun _ => 0), zA 12 (fun _ => 0), zA 12 (fun _ => 0), zA 10 (fun _ => 0), zO 1 [zR 2, zR 5, zR 22, zR 21, zI 0, zI (-9), zI (-9), zI (-9), zI (-9)], zA 100 (fun _ => 0), zO 3 [zR 2, zR 23, zR 29, zR 30, zR 31, zI 0, zI 0, zI 10, zI (-9), zI (-9), zI (-9)], zO 4 [zR 24, zR 25, zR 26, zR 27, zR 28, zI 20, zI 2, zI 1], zA 303 (fun _ => 0), zA 303 (fun _ => 0), zA 303 (fun _ => 0), zA 3 (fun _ => 0), zA 101 (fun _ => 0), zA 3 (fun _ => 0), zA 20 (fun _ => 0), zA 20 (fun _ => 0), zO 6 [zI 0, zI 0, zR 33, zR 34, zI 0, zI 0, zR 35, zR 36, zI 0, zI (-9), zR 37, zI 0, zI 0, zI 0, zI 0, zR 38, zR 39, zR 40, zR 41, zI 0, zR 42, zR 43, zR 44], zA 12 (fun _ => 0), zA 12 (fun _ => 0), zA 100 (fun _ => 0), zA 1200 (fun _ => 0), zZ 100 (fun _ => 0), zA 101 (fun _ => 0), zA 102 (fun _ => 0), zA 102 (fun _ => 0), zZ 303 (fun _ => 0), zA 20 (fun _ => 0), zZ 20 (fun _ => 0), zA 10 (fun _ => 0)], 44, 5724)) rfl trivial ?_
  rw [zw_0]
  exact k
/-- where the cells lie: the script, then what the law makes -/
def zad (b n : Nat) : Nat → Nat
  | 0 => b
  | k + 1 => n + k
def R_law : String := "ShireWaysLaw"
def lw_P (b : Addr) (xs : List Int32) (args : Array Value) (s : State) : Prop := args = #[.ref b] ∧ s.IntsAt b xs ∧ xs.length ≤ 3072 ∧ (Jvm.Cond.and given_1 narrow_1).before args s = true
def lw_Q (_ : Array Value) (s : State) (o : Outcome) (t : State) : Prop := o = .returned (some (.int 1)) ∧ Framed s o t [] 44 5724
def lw_Z (below : List Frame) (a : Array Value) (s : State) : State → Prop := fun t => ∃ o, t.status = .running ∧ Ended t below o ∧ lw_Q a s o t
/-- the law's own end, with 1 on the stack, nothing written that was there before, its room as the claim has it -/
theorem lw_ret {p : Program} {l : Launch} {e : Env} {s : State} {m : MethodId} {below : List Frame} {meth : Method} {c : Code} {b : Nat} (hx : p.tables.exec = Jvm.exec) (hb : c.code = code) (hr : meth.sig.returnType = ret) (hlocks : meth.locks = false) {pc : Nat} {H : Heap} {ls : Array Slot} (hdg : decode code pc = .ok (.ireturn, 1)) : W p l e room_1 s m #[Value.ref b] below meth c H [] 44 5724 (lw_Z below #[Value.ref b] s) (F0 m pc ls [.int 1]) := by
  intro T hT X
  obtain ⟨fs, hret, hrun, hended, hW, hframe⟩ := X.leave (v := some (.int 1)) (hlocks := hlocks) (fun h => by rw [hr] at h; cases h)
  have hmeth' : T.vm.method? m = some meth := X.method'
  refine ⟨T.setFrames fs, ?_, .returned (some (.int 1)), hrun, hended, rfl, ⟨_, rfl⟩, hW, hframe⟩
  jvm_step X.here [X.here.top, hx, hb, hdg, hmeth', hr, ret, narrow_b1]
  (try refine ⟨rfl, ?_⟩); (try refine ⟨rfl, ?_⟩)
  first | (intro acts; rw [hret _ acts rfl rfl rfl]) | rw [hret _ _ rfl rfl rfl]
  exact Steps.refl _
/-- what holds at the law's entry: the machine, the code, the tables' words (any of lw_tbl by 'hts w (by decide +kernel)'), the script of L ints xs at the cell b, what the Statement gives of the start (any of its parts by flat_of_before) -/
def lw_At (p : Program) (s : State) (m : MethodId) (meth : Method) (c : Code) (b L : Nat) (xs : Nat → Int32) : Prop :=
  p.tables.exec = Jvm.exec ∧ c.code = code ∧ meth.sig.returnType = ret ∧ c.maxLocals = 4 ∧ s.vm.findClass R_law = some m.cls ∧ (∀ w ∈ lw_tbl, w.before #[Value.ref b] s = true) ∧ va_X b L xs s s.heap ∧ b < s.heap.size ∧ meth.locks = false ∧ (Jvm.Cond.and given_1 narrow_1).before #[Value.ref b] s = true
theorem whole_start {p : Program} {e : Env} {s : State} {m : MethodId} {below : List Frame} {meth : Method} {c : Code} (l : Launch) (hflags : l.flags = flags0) {b L : Nat} {xs : Nat → Int32} (hL : L ≤ 3072) (C0 : lw_At p s m meth c b L xs) : W p l e room_1 s m #[Value.ref b] below meth c s.heap [] 0 0 (lw_Z below #[Value.ref b] s) (entryFrame m ([Value.ref b] : List Value).toArray 4) := by
  obtain ⟨hx, hb, hr, hml, hown, hts, hX, hbl, hlocks, hgv⟩ := id C0
  have htz : ∀ w ∈ zall, w.before #[Value.ref b] s = true := fun w hw => hts w (List.mem_filter.mp hw).1
  obtain ⟨c0, i0, k0⟩ := u_known (C := RX0) (T := TX0) (N := 5) (n := 5) htz zin_0 (htz _ (zall_in (zt1 (List.mem_of_getElem? (i := 19) rfl)) rfl))
  obtain ⟨c1, i1, k1⟩ := u_known (C := RX1) (T := TX1) (N := 9) (n := 9) htz zin_1 (htz _ (zall_in (zt1 (List.mem_of_getElem? (i := 140) rfl)) rfl))
  obtain ⟨c2, i2, k2⟩ := u_known (C := RX2) (T := TX2) (N := 5) (n := 5) htz zin_2 (htz _ (zall_in (zt1 (List.mem_of_getElem? (i := 117) rfl)) rfl))
  obtain ⟨c3, i3, k3⟩ := u_known (C := RX3) (T := TX3) (N := 11) (n := 11) htz zin_3 (htz _ (zall_in (zt1 (List.mem_of_getElem? (i := 44) rfl)) rfl))
  obtain ⟨c4, i4, k4⟩ := u_known (C := RX4) (T := TX4) (N := 8) (n := 8) htz zin_4 (htz _ (zall_in (zt1 (List.mem_of_getElem? (i := 50) rfl)) rfl))
  obtain ⟨c5, i5, k5⟩ := u_known (C := RX5) (T := TX5) (N := 4) (n := 4) htz zin_5 (htz _ (zall_in (zt1 (List.mem_of_getElem? (i := 11) rfl)) rfl))
  obtain ⟨c6, i6, k6⟩ := u_known (C := RX6) (T := TX6) (N := 23) (n := 23) htz zin_6 (htz _ (zall_in (zt3 (List.mem_of_getElem? (i := 49) rfl)) rfl))
  obtain ⟨dC, dI, hKc⟩ : ∃ (dC : Nat → ClassId) (dI : Nat → Nat → Nat), ∀ (k : Nat) (q : vw_C), zcls[k]? = some q → u_Kn s q.1 q.2.1 q.2.2 (dC k) (dI k) := by
    refine ⟨fun k => match k with | 0 => c0 | 1 => c1 | 2 => c2 | 3 => c3 | 4 => c4 | 5 => c5 | _ => c6, fun k => match k with | 0 => i0 | 1 => i1 | 2 => i2 | 3 => i3 | 4 => i4 | 5 => i5 | _ => i6, ?_⟩
    intro k q hq
    match k, hq with
    | 0, hq => cases hq; exact k0
    | 1, hq => cases hq; exact k1
    | 2, hq => cases hq; exact k2
    | 3, hq => cases hq; exact k3
    | 4, hq => cases hq; exact k4
    | 5, hq => cases hq; exact k5
    | 6, hq => cases hq; exact k6
    | k + 7, hq => simp [zcls] at hq
  obtain ⟨iI, kI, mI, fI, eI, gI⟩ := Cond.arrayClass_spec (htz _ zarr_i)
  obtain ⟨iZ, kZ, mZ, fZ, eZ, gZ⟩ := Cond.arrayClass_spec (htz _ zarr_z)
  have hK : ∀ (ad : Nat → Nat) (o : Option Nat), zK (ad, (fun q : Nat => s.heap.size ≤ q), (dC, dI), iI, iZ, o) s := fun ad o => ⟨⟨hKc, fun k q hq => by
    match k, hq with
    | 0, hq => cases hq; exact ⟨fun n z => ⟨fun k h => (by cases h), kI, eI, mI, gI⟩, fI⟩
    | 1, hq => cases hq; exact ⟨fun n z => ⟨fun k h => (by cases h), kZ, eZ, mZ, gZ⟩, fZ⟩
    | k + 2, hq => simp at hq⟩, fun q hq => va_Nw.of rfl (hts _ (zne_F q hq)), fun q hq => va_Nw.of rfl (hts _ (zne_M q hq))⟩
  have hw : ∀ o : Option Nat, (o = none ∨ o = some s.heap.size) → zwf (zad b s.heap.size, (fun q : Nat => s.heap.size ≤ q), (dC, dI), iI, iZ, o) := fun o ho => by
    refine ⟨fun i j hij => ?_, fun k => Nat.le_add_right _ _, Nat.not_le.mpr hbl, fun b0 h => ?_⟩
    · match i, j, hij with
      | 0, 0, _ => rfl
      | 0, j + 1, hij => exact absurd (show b = s.heap.size + j from hij) (by omega)
      | i + 1, 0, hij => exact absurd (show s.heap.size + i = b from hij) (by omega)
      | i + 1, j + 1, hij => have h9 : s.heap.size + i = s.heap.size + j := hij; omega
    · rcases ho with e | e
      · subst e; cases h
      · subst e; cases h
        exact ⟨fun k => rfl, fun q hq => hq⟩
  have F : zFix p s m #[Value.ref b] c (zad b s.heap.size, (fun q : Nat => s.heap.size ≤ q), (dC, dI), iI, iZ, some s.heap.size) 9 4 code := ⟨hx, hb, hml, hown, htz, hK _ _, hw _ (Or.inr rfl)⟩
  have Fn : zFix p s m #[Value.ref b] c (zad b s.heap.size, (fun q : Nat => s.heap.size ≤ q), (dC, dI), iI, iZ, none) 9 4 code := ⟨hx, hb, hml, hown, htz, hK _ _, hw _ (Or.inl rfl)⟩
  have cc : ∀ tb : List ZE, (∀ q ∈ tb, zck 9 4 code q = true) → zCloL l tb L (fun i => (xs i.toNat).toInt) (zW p l e (zroom mL) s m #[Value.ref b] below meth c (lw_Z below #[Value.ref b] s) (zad b s.heap.size, (fun q : Nat => s.heap.size ≤ q), (dC, dI), iI, iZ, none) s.heap 4) := fun tb ht => zcloL_ok Fn rfl ht hL hX hbl rfl (Nat.not_le.mpr hbl)
  have hg : ∀ i : Int, -2147483648 ≤ (xs i.toNat).toInt ∧ (xs i.toNat).toInt ≤ 2147483647 := fun i => by
    have h1 := Int32.le_toInt (xs i.toNat)
    have h2 := Int32.toInt_lt (xs i.toNat)
    constructor
    · exact h1
    · omega
  have hloop := zlloop l L hL _ hg _ cc 0 (fun _ => 0) (fun i B S Z L1 R M hC => by
    refine zL_go (cc tbL_e tbL_e_ok) 1 (s1 := (1273, [some (zR 0), some (zR 1), some (zR 32), some (zI i)], [zI 1], zw (0, (fun _ => 0), 5, 5, 22) B S Z L1 R M, 44, 5724)) rfl trivial ?_
    intro H locs lsA hz hS hL2
    refine va_forget (fun q hq => hS.2.2 q hq) ?_
    exact lw_ret hx hb hr hlocks d_L_1273) (L + 1) 0 zB0 zS00 zS00 zL0 zR0 zM0 (by omega) (by omega) (by omega) zCI_0
  have hgo := zlstart l 0 (fun _ => 0) _ (zcloP_ok (l := l) (e := e) (below := below) (meth := meth) (Q := lw_Z below #[Value.ref b] s) F rfl tbL_a_ok) (zW_none hloop)
  rw [lg_entry_eq]
  exact hgo s.heap [] _ ⟨fun k q hq => by simp [zws] at hq, hbl, fun b0 h => by cases h; rfl⟩ va_S.rf (zentry (ad := zad b s.heap.size) (as := [zR 0]) (n := 4) rfl rfl)
set_option maxHeartbeats 4000000 in
theorem lw_walk (l : Launch) (hflags : l.flags = flags0) (b : Addr) (xs : List Int32) : MetFree l x (headSpec (Jvm.Cond.code x code maxLocals ret :: tables_1) room_1) (lw_P b xs) (fun _ _ _ _ _ => True) lw_Q := by
  refine MetFree.of_bodyS (code := code) (maxLocals := maxLocals) (ret := ret) (by decide) ?_ ?_
  · intro args s m h hn
    obtain ⟨meth, c, h1, h2, h3, h4, h5, h6, -, -⟩ := Cond.code_spec hn (atoms_spec (ws := Jvm.Cond.code x code maxLocals ret :: tables_1) h _ List.mem_cons_self)
    exact ⟨meth, c, h1, h2, h3, h4, h5, h6⟩
  · intro p e s m args below meth c s₁ B hml0 hP _
    obtain ⟨rfl, hx, hbd, hgv⟩ := hP
    obtain ⟨scr, harrAt, hlist, hof, hsmall⟩ := hx
    obtain ⟨hcb, hkn, -, -⟩ := State.arrayAt?_spec harrAt
    have hown : s.vm.findClass R_law = some m.cls := findClass_of_methodNamed B.named
    have hts0 : ∀ c ∈ (Jvm.Cond.code x code maxLocals ret :: tables_1), c.before #[Value.ref b] s = true := atoms_spec (ws := Jvm.Cond.code x code maxLocals ret :: tables_1) B.pre
    have hts : ∀ w ∈ lw_tbl, w.before #[Value.ref b] s = true := k2_hts_sels lw_privs (fun w hw => hts0 w (List.mem_cons_of_mem _ hw)) lw_privs_ok
    have hml : c.maxLocals = 4 := B.maxLocals_eq (hts0 _ List.mem_cons_self)
    have X₀ : Stand p l e room_1 s m #[Value.ref b] below meth c s₁ [] 0 0 := Stand.of_body B
    have hh0 : s₁.heap = s.heap := by rw [B.state]; rfl
    have hsz : scr.slots.size = xs.length := by rw [← Array.length_toList, hlist, List.length_map]
    have hval : ∀ j : Nat, j < xs.length → scr.slots[j]? = some (.int (xs.getD j 0)) := fun j hj => by
      rw [← Array.getElem?_toList, hlist]
      simp [hj]
    have hbl : b < s.heap.size := (Array.getElem?_eq_some_iff.mp hcb).1
    have hX : va_X b xs.length (fun j => xs.getD j 0) s s.heap := ⟨scr, hcb, hof, hkn, hsz, hval⟩
    have K : W p l e room_1 s m #[Value.ref b] below meth c s₁.heap [] 0 0 (lw_Z below #[Value.ref b] s) (entryFrame m ([Value.ref b] : List Value).toArray 4) := by
      rw [hh0]
      exact whole_start l hflags hbd ⟨B.exec, B.bytes, B.returns, hml, hown, hts, hX, hbl, B.notSynchronized, hgv⟩
    obtain ⟨t, a1, o, b1, b2, b3⟩ := K s₁ rfl X₀
    exact ⟨t, o, a1, b1, b2, b3⟩
theorem lw_pre_spec {args : Array Value} {s : State} (h : (Jvm.Cond.and given_1 narrow_1).before args s = true) (hr : rest_1_c.before args s = true) : ∃ (b : Addr) (xs : List Int32), lw_P b xs args s := by
  have hs := flat_of_before _ h
  have hq := flat_of_before _ hr
  have hc : (Cond.count 1).before args s = true := hs _ (by decide +kernel)
  have harr : (Cond.arrayOf (.arg 0) .int).before args s = true := hs _ (by decide +kernel)
  have hle : (Cond.le (.length (.arg 0)) (.int 3072)).before args s = true := hs _ (by decide +kernel)
  have hlen : (Cond.isInt (.length (.arg 0))).before args s = true := hq _ (by decide +kernel)
  have hall : (Cond.all (.arg 0) (.isInt (.elem (.arg 0) (.index 0)))).before args s = true := hq _ (by decide +kernel)
  obtain ⟨b, xs, hb, hx⟩ := State.ints_of_pre rfl harr hlen hall
  have hsm : xs.length < 2 ^ 31 := hx.choose_spec.2.2.2
  have hev : (Term.length (.arg 0)).eval args s none [] s = some (.int xs.length.toInt32) := hx.length_eval hb
  have hv := Cond.le_ints hev (show (Term.int 3072).eval args s none [] s = some (.int 3072) from rfl)
  have hd : xs.length.toInt32 ≤ 3072 := by
    simpa [Cond.before, Cond.holds, hv] using hle
  have hN : xs.length ≤ 3072 := (Int32.ofNat_le_ofNat hsm (by decide)).mp (show Int32.ofNat xs.length ≤ Int32.ofNat 3072 from hd)
  exact ⟨b, xs, Cond.one_arg hc (show args[0]? = some (.ref b) from hb), hx, hN, h⟩
theorem lw_comes (l : Launch) (hflags : l.flags = flags0) : Comes l x (Jvm.Cond.code x code maxLocals ret :: tables_1) room_1 (fun tb e args s => Calls_1 tb e args s ∧ rest_1 tb e args s ∧ Pre_1 tb e args s)
    (fun _ _ args s o t => lw_Q args s o t) := by
  intro p e ha hc hk s m args below hf hfit hheap happ hpre
  obtain ⟨b, xs, hP⟩ := lw_pre_spec hpre.2.2 hpre.2.1
  obtain ⟨k, o, h1, h2, h3, hQ⟩ := lw_walk l hflags b xs p e ha hc hk s m args below hf ((Spec.applies_iff_loose hf).mp happ).1 hP trivial
  exact ⟨k, o, h1, h2, h3, hQ⟩
theorem lw_frame {s t : State} {o : Outcome} {args : Array Value} (h : Framed s o t [] 44 5724) :
    Framed s o t (fieldLocs frame_1_writes args s ++ arrayLocs frame_1_arrays args s ++ staticLocs frame_1_statics s) 44 5724 := h
theorem lw_limb (L : Cond) (hL : ∀ (args : Array Value) (s t : State), L.after args s (.returned (some (.int 1))) t = true) :
    ArmFor flags0 classFile x code maxLocals ret World_1 tables_1 room_1 Calls_1 rest_1 Pre_1
      (fun tb e a s o t => postC L tb e a s o t ∧ Framed s o t (fieldLocs frame_1_writes a s ++ arrayLocs frame_1_arrays a s ++ staticLocs frame_1_statics s) 44 5724) := by
  intro l hflags _ _ p e ha hc hk s m args below hf hfit hheap happ hpre
  obtain ⟨k, o, h1, h2, h3, rfl, hF⟩ := lw_comes l hflags p e ha hc hk s m args below hf hfit hheap happ hpre
  exact ⟨k, _, h1, h2, h3, hL args s _, lw_frame hF⟩
theorem i_vc : Claimed_1_1 ∧ Claimed_1_2 := ⟨lw_limb limb_1_1 (fun args s t => by simp [limb_1_1, Cond.after, Cond.holds, Cond.value]), lw_limb limb_1_2 (fun args s t => Cond.after_iff.mpr (by
  first | (rw [show limb_1_2 = Cond.eq .result (.int 1) from rfl, Cond.eq_ints (x := 1) (y := 1) rfl rfl]; simp; done) | (simp [limb_1_2, Cond.value, Term.eval]; done)))⟩
