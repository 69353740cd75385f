/-! the law: a call of each kind; the loop -/
section ZLU
variable {l : Launch} {tb : List ZE} {N : Nat} {g : Int → Int} {V : ZS → Prop}
theorem zL_go (c : zCloL l tb N g V) (n : Nat) {st s1 : ZS} {P : Prop} (h : zrun tb n st = some (s1, P)) (hP : P) (k : V s1) : V st := c.1 n st s1 P h hP k
theorem zL_br (c : zCloL l tb N g V) (n : Nat) (C : Prop) {st : ZS} {P : Prop} (s1 s2 : ZS) (h : zrunB tb n st = some (C, P, s1, s2)) (hP : P) (k1 : C → V s1) (k2 : ¬ C → V s2) : V st := c.2.1 n st s1 s2 C P h hP k1 k2
theorem zL_cV (c : zCloL l tb N g V) (n : Nat) {st : ZS} {P : Prop} {b ci na o : Nat} {as fs : List ZV} {m' : ZM} {Po : ZP} (hl : zlk 9 b m') (hv : zmV ci na m') {pc : Nat} {ls : List (Option ZV)} {sk : List ZV} {h : List ZB} {cs ss : Nat} (hM : zMet l m' (zR (o + 1) :: as) h Po) (hx : zrunC tb n st = some (P, 40, b, na + 1, zR (o + 1) :: as, (pc, ls, sk, h, cs, ss))) (hP : P) (hc : znth h (o + 1) = some (zO ci fs)) (hf : zfits m' mL = true) (hr : cs + m'.2.2.2.2.2.2.1 ≤ 44 ∧ ss + m'.2.2.2.2.2.2.2 ≤ 5724)
    (k : ∀ v h1, Po v h1 → V (pc, ls, v.toList ++ sk, h1, cs + m'.2.2.2.2.2.2.1, ss + m'.2.2.2.2.2.2.2)) : V st := c.2.2.1 n st (pc, ls, sk, h, cs, ss) P b (na + 1) ci na o as fs m' Po hx hP hl hv rfl hc hf hr hM k
theorem zL_eq (c : zCloL l tb N g V) {pc nx b : Nat} {a y : Int} {ls : List (Option ZV)} {st : List ZV} {h : List ZB} {cs ss : Nat} (hf : zfetch tb pc = some (nx, 31, a, b, 0)) (k : V (b, ls, st, h, cs, ss)) : V (pc, ls, zI y :: zI y :: st, h, cs, ss) := c.2.2.2.1 pc nx b a y ls st h cs ss hf k
theorem zL_ld (c : zCloL l tb N g V) {pc nx b d : Nat} {a i : Int} {ls : List (Option ZV)} {st : List ZV} {h : List ZB} {cs ss : Nat} (hf : zfetch tb pc = some (nx, 23, a, b, d)) (hi : 0 ≤ i ∧ i < (N : Int)) (k : V (nx, ls, zI (g i) :: st, h, cs, ss)) : V (pc, ls, zI i :: zR 0 :: st, h, cs, ss) := c.2.2.2.2.1 pc nx b d a i ls st h cs ss hf hi k
theorem zL_len (c : zCloL l tb N g V) {pc nx b d : Nat} {a : Int} {ls : List (Option ZV)} {st : List ZV} {h : List ZB} {cs ss : Nat} (hf : zfetch tb pc = some (nx, 27, a, b, d)) (k : V (nx, ls, zI (N : Int) :: st, h, cs, ss)) : V (pc, ls, zR 0 :: st, h, cs, ss) := c.2.2.2.2.2.1 pc nx b d a ls st h cs ss hf k
theorem zL_tab (c : zCloL l tb N g V) {v : Int} {ls : List (Option ZV)} {st : List ZV} {h : List ZB} {cs ss : Nat} (hv : 0 ≤ v ∧ v ≤ 31) (k1 : ∀ j : Nat, j < 24 → v = (j : Int) → V (zjt j, ls, st, h, cs, ss)) (k2 : 24 ≤ v → V (1266, ls, st, h, cs, ss)) : V (33, ls, zI v :: st, h, cs, ss) := c.2.2.2.2.2.2 v ls st h cs ss hv k1 k2
end ZLU
set_option maxRecDepth 8000 in
theorem zlc_0 (l : Launch) (N : Nat) (g : Int → Int) (hg : ∀ i, -2147483648 ≤ g i ∧ g i ≤ 2147483647) (V : ZS → Prop) (c : zCloL l tbL_0 N g V) (sn : Nat) (sf : Int → Int) (B : ZBk) (S Z : ZSg) (L : ZLn) (R : ZRd) (M : ZMd) (hC : zCI B S Z L R M) (i : Int) (hi : 0 ≤ i ∧ i + 6 ≤ (N : Int)) (k : ∀ B2 S2 Z2 L2 R2 M2, zCI B2 S2 Z2 L2 R2 M2 → V (1266, [some (zR 0), some (zR 1), some (zR 32), some (zI i)], [], zw (sn, sf, 5, 5, 22) B2 S2 Z2 L2 R2 M2, 44, 5724)) : V (144, [some (zR 0), some (zR 1), some (zR 32), some (zI i)], [], zw (sn, sf, 5, 5, 22) B S Z L R M, 44, 5724) := by
  obtain ⟨Po1, hM1, hk1⟩ := zt_way l (g (i + 1)) (g (i + 2)) (hg _) (hg _) sn sf B S Z L R M hC
  refine zL_go c 5 (s1 := (149, [some (zR 0), some (zR 1), some (zR 32), some (zI i)], [zI (i + 1), zR 0, zR 1], zw (sn, sf, 5, 5, 22) B S Z L R M, 44, 5724)) rfl trivial ?_
  refine zL_ld c rfl (by omega) ?_
  refine zL_go c 4 (s1 := (154, [some (zR 0), some (zR 1), some (zR 32), some (zI i)], [zI (i + 2), zR 0, zI (g (i + 1)), zR 1], zw (sn, sf, 5, 5, 22) B S Z L R M, 44, 5724)) rfl trivial ?_
  refine zL_ld c rfl (by omega) ?_
  refine zL_cV c 0 k_9_13 zv_X5_way (pc := 158) (ls := [some (zR 0), some (zR 1), some (zR 32), some (zI i)]) (sk := []) (h := zw (sn, sf, 5, 5, 22) B S Z L R M) (cs := 44) (ss := 5724) hM1 rfl trivial rfl rfl ⟨Nat.le_refl _, Nat.le_refl _⟩ (fun v1 h1 hp1 => ?_)
  obtain ⟨y, Po2, rfl, ⟨B1, S1, Z1, L1, R1, rfl⟩, hM2, hk2⟩ := hk1 v1 h1 hp1
  show V (158, [some (zR 0), some (zR 1), some (zR 32), some (zI i)], [zI y], zw (sn, sf, 5, 5, 22) B1 S1 Z1 L1 R1 M, 44, 5724)
  refine zL_go c 5 (s1 := (163, [some (zR 0), some (zR 1), some (zR 32), some (zI i)], [zI (i + 1), zR 0, zR 32, zI y], zw (sn, sf, 5, 5, 22) B1 S1 Z1 L1 R1 M, 44, 5724)) rfl trivial ?_
  refine zL_ld c rfl (by omega) ?_
  refine zL_go c 4 (s1 := (168, [some (zR 0), some (zR 1), some (zR 32), some (zI i)], [zI (i + 2), zR 0, zI (g (i + 1)), zR 32, zI y], zw (sn, sf, 5, 5, 22) B1 S1 Z1 L1 R1 M, 44, 5724)) rfl trivial ?_
  refine zL_ld c rfl (by omega) ?_
  refine zL_cV c 0 k_9_17 zv_X6_way (pc := 172) (ls := [some (zR 0), some (zR 1), some (zR 32), some (zI i)]) (sk := [zI y]) (h := zw (sn, sf, 5, 5, 22) B1 S1 Z1 L1 R1 M) (cs := 44) (ss := 5724) hM2 rfl trivial rfl rfl ⟨Nat.le_refl _, Nat.le_refl _⟩ (fun v2 h2 hp2 => ?_)
  obtain ⟨rfl, B2, S2, Z2, L2, R2, M2, rfl, hC2⟩ := hk2 v2 h2 hp2
  show V (172, [some (zR 0), some (zR 1), some (zR 32), some (zI i)], [zI y, zI y], zw (sn, sf, 5, 5, 22) B2 S2 Z2 L2 R2 M2, 44, 5724)
  exact zL_eq c rfl (k B2 S2 Z2 L2 R2 M2 hC2)
set_option maxRecDepth 8000 in
theorem zlc_1 (l : Launch) (N : Nat) (g : Int → Int) (hg : ∀ i, -2147483648 ≤ g i ∧ g i ≤ 2147483647) (V : ZS → Prop) (c : zCloL l tbL_1 N g V) (sn : Nat) (sf : Int → Int) (B : ZBk) (S Z : ZSg) (L : ZLn) (R : ZRd) (M : ZMd) (hC : zCI B S Z L R M) (i : Int) (hi : 0 ≤ i ∧ i + 6 ≤ (N : Int)) (k : ∀ B2 S2 Z2 L2 R2 M2, zCI B2 S2 Z2 L2 R2 M2 → V (1266, [some (zR 0), some (zR 1), some (zR 32), some (zI i)], [], zw (sn, sf, 5, 5, 22) B2 S2 Z2 L2 R2 M2, 44, 5724)) : V (177, [some (zR 0), some (zR 1), some (zR 32), some (zI i)], [], zw (sn, sf, 5, 5, 22) B S Z L R M, 44, 5724) := by
  obtain ⟨Po1, hM1, hk1⟩ := zt_walk l (g (i + 1)) (g (i + 2)) (g (i + 3)) (g (i + 4)) (g (i + 5)) (hg _) (hg _) (hg _) (hg _) (hg _) sn sf B S Z L R M hC
  refine zL_go c 5 (s1 := (182, [some (zR 0), some (zR 1), some (zR 32), some (zI i)], [zI (i + 1), zR 0, zR 1], zw (sn, sf, 5, 5, 22) B S Z L R M, 44, 5724)) rfl trivial ?_
  refine zL_ld c rfl (by omega) ?_
  refine zL_go c 4 (s1 := (187, [some (zR 0), some (zR 1), some (zR 32), some (zI i)], [zI (i + 2), zR 0, zI (g (i + 1)), zR 1], zw (sn, sf, 5, 5, 22) B S Z L R M, 44, 5724)) rfl trivial ?_
  refine zL_ld c rfl (by omega) ?_
  refine zL_go c 4 (s1 := (192, [some (zR 0), some (zR 1), some (zR 32), some (zI i)], [zI (i + 3), zR 0, zI (g (i + 2)), zI (g (i + 1)), zR 1], zw (sn, sf, 5, 5, 22) B S Z L R M, 44, 5724)) rfl trivial ?_
  refine zL_ld c rfl (by omega) ?_
  refine zL_go c 4 (s1 := (197, [some (zR 0), some (zR 1), some (zR 32), some (zI i)], [zI (i + 4), zR 0, zI (g (i + 3)), zI (g (i + 2)), zI (g (i + 1)), zR 1], zw (sn, sf, 5, 5, 22) B S Z L R M, 44, 5724)) rfl trivial ?_
  refine zL_ld c rfl (by omega) ?_
  refine zL_go c 4 (s1 := (202, [some (zR 0), some (zR 1), some (zR 32), some (zI i)], [zI (i + 5), zR 0, zI (g (i + 4)), zI (g (i + 3)), zI (g (i + 2)), zI (g (i + 1)), zR 1], zw (sn, sf, 5, 5, 22) B S Z L R M, 44, 5724)) rfl trivial ?_
  refine zL_ld c rfl (by omega) ?_
  refine zL_cV c 0 k_9_18 zv_X5_walk (pc := 206) (ls := [some (zR 0), some (zR 1), some (zR 32), some (zI i)]) (sk := []) (h := zw (sn, sf, 5, 5, 22) B S Z L R M) (cs := 44) (ss := 5724) hM1 rfl trivial rfl rfl ⟨Nat.le_refl _, Nat.le_refl _⟩ (fun v1 h1 hp1 => ?_)
  obtain ⟨y, Po2, rfl, ⟨B1, S1, Z1, L1, R1, rfl⟩, hM2, hk2⟩ := hk1 v1 h1 hp1
  show V (206, [some (zR 0), some (zR 1), some (zR 32), some (zI i)], [zI y], zw (sn, sf, 5, 5, 22) B1 S1 Z1 L1 R1 M, 44, 5724)
  refine zL_go c 5 (s1 := (211, [some (zR 0), some (zR 1), some (zR 32), some (zI i)], [zI (i + 1), zR 0, zR 32, zI y], zw (sn, sf, 5, 5, 22) B1 S1 Z1 L1 R1 M, 44, 5724)) rfl trivial ?_
  refine zL_ld c rfl (by omega) ?_
  refine zL_go c 4 (s1 := (216, [some (zR 0), some (zR 1), some (zR 32), some (zI i)], [zI (i + 2), zR 0, zI (g (i + 1)), zR 32, zI y], zw (sn, sf, 5, 5, 22) B1 S1 Z1 L1 R1 M, 44, 5724)) rfl trivial ?_
  refine zL_ld c rfl (by omega) ?_
  refine zL_go c 4 (s1 := (221, [some (zR 0), some (zR 1), some (zR 32), some (zI i)], [zI (i + 3), zR 0, zI (g (i + 2)), zI (g (i + 1)), zR 32, zI y], zw (sn, sf, 5, 5, 22) B1 S1 Z1 L1 R1 M, 44, 5724)) rfl trivial ?_
  refine zL_ld c rfl (by omega) ?_
  refine zL_go c 4 (s1 := (226, [some (zR 0), some (zR 1), some (zR 32), some (zI i)], [zI (i + 4), zR 0, zI (g (i + 3)), zI (g (i + 2)), zI (g (i + 1)), zR 32, zI y], zw (sn, sf, 5, 5, 22) B1 S1 Z1 L1 R1 M, 44, 5724)) rfl trivial ?_
  refine zL_ld c rfl (by omega) ?_
  refine zL_go c 4 (s1 := (231, [some (zR 0), some (zR 1), some (zR 32), some (zI i)], [zI (i + 5), zR 0, zI (g (i + 4)), zI (g (i + 3)), zI (g (i + 2)), zI (g (i + 1)), zR 32, zI y], zw (sn, sf, 5, 5, 22) B1 S1 Z1 L1 R1 M, 44, 5724)) rfl trivial ?_
  refine zL_ld c rfl (by omega) ?_
  refine zL_cV c 0 k_9_22 zv_X6_walk (pc := 235) (ls := [some (zR 0), some (zR 1), some (zR 32), some (zI i)]) (sk := [zI y]) (h := zw (sn, sf, 5, 5, 22) B1 S1 Z1 L1 R1 M) (cs := 44) (ss := 5724) hM2 rfl trivial rfl rfl ⟨Nat.le_refl _, Nat.le_refl _⟩ (fun v2 h2 hp2 => ?_)
  obtain ⟨rfl, B2, S2, Z2, L2, R2, M2, rfl, hC2⟩ := hk2 v2 h2 hp2
  show V (235, [some (zR 0), some (zR 1), some (zR 32), some (zI i)], [zI y, zI y], zw (sn, sf, 5, 5, 22) B2 S2 Z2 L2 R2 M2, 44, 5724)
  exact zL_eq c rfl (k B2 S2 Z2 L2 R2 M2 hC2)
set_option maxRecDepth 8000 in
theorem zlc_2 (l : Launch) (N : Nat) (g : Int → Int) (hg : ∀ i, -2147483648 ≤ g i ∧ g i ≤ 2147483647) (V : ZS → Prop) (c : zCloL l tbL_2 N g V) (sn : Nat) (sf : Int → Int) (B : ZBk) (S Z : ZSg) (L : ZLn) (R : ZRd) (M : ZMd) (hC : zCI B S Z L R M) (i : Int) (hi : 0 ≤ i ∧ i + 6 ≤ (N : Int)) (k : ∀ B2 S2 Z2 L2 R2 M2, zCI B2 S2 Z2 L2 R2 M2 → V (1266, [some (zR 0), some (zR 1), some (zR 32), some (zI i)], [], zw (sn, sf, 5, 5, 22) B2 S2 Z2 L2 R2 M2, 44, 5724)) : V (240, [some (zR 0), some (zR 1), some (zR 32), some (zI i)], [], zw (sn, sf, 5, 5, 22) B S Z L R M, 44, 5724) := by
  obtain ⟨Po1, hM1, hk1⟩ := zt_paper l (g (i + 1)) (g (i + 2)) (g (i + 3)) (hg _) (hg _) (hg _) sn sf B S Z L R M hC
  refine zL_go c 5 (s1 := (245, [some (zR 0), some (zR 1), some (zR 32), some (zI i)], [zI (i + 1), zR 0, zR 1], zw (sn, sf, 5, 5, 22) B S Z L R M, 44, 5724)) rfl trivial ?_
  refine zL_ld c rfl (by omega) ?_
  refine zL_go c 4 (s1 := (250, [some (zR 0), some (zR 1), some (zR 32), some (zI i)], [zI (i + 2), zR 0, zI (g (i + 1)), zR 1], zw (sn, sf, 5, 5, 22) B S Z L R M, 44, 5724)) rfl trivial ?_
  refine zL_ld c rfl (by omega) ?_
  refine zL_go c 4 (s1 := (255, [some (zR 0), some (zR 1), some (zR 32), some (zI i)], [zI (i + 3), zR 0, zI (g (i + 2)), zI (g (i + 1)), zR 1], zw (sn, sf, 5, 5, 22) B S Z L R M, 44, 5724)) rfl trivial ?_
  refine zL_ld c rfl (by omega) ?_
  refine zL_cV c 0 k_9_23 zv_X5_paper (pc := 259) (ls := [some (zR 0), some (zR 1), some (zR 32), some (zI i)]) (sk := []) (h := zw (sn, sf, 5, 5, 22) B S Z L R M) (cs := 44) (ss := 5724) hM1 rfl trivial rfl rfl ⟨Nat.le_refl _, Nat.le_refl _⟩ (fun v1 h1 hp1 => ?_)
  obtain ⟨y, Po2, rfl, ⟨B1, S1, Z1, L1, R1, rfl⟩, hM2, hk2⟩ := hk1 v1 h1 hp1
  show V (259, [some (zR 0), some (zR 1), some (zR 32), some (zI i)], [zI y], zw (sn, sf, 5, 5, 22) B1 S1 Z1 L1 R1 M, 44, 5724)
  refine zL_go c 5 (s1 := (264, [some (zR 0), some (zR 1), some (zR 32), some (zI i)], [zI (i + 1), zR 0, zR 32, zI y], zw (sn, sf, 5, 5, 22) B1 S1 Z1 L1 R1 M, 44, 5724)) rfl trivial ?_
  refine zL_ld c rfl (by omega) ?_
  refine zL_go c 4 (s1 := (269, [some (zR 0), some (zR 1), some (zR 32), some (zI i)], [zI (i + 2), zR 0, zI (g (i + 1)), zR 32, zI y], zw (sn, sf, 5, 5, 22) B1 S1 Z1 L1 R1 M, 44, 5724)) rfl trivial ?_
  refine zL_ld c rfl (by omega) ?_
  refine zL_go c 4 (s1 := (274, [some (zR 0), some (zR 1), some (zR 32), some (zI i)], [zI (i + 3), zR 0, zI (g (i + 2)), zI (g (i + 1)), zR 32, zI y], zw (sn, sf, 5, 5, 22) B1 S1 Z1 L1 R1 M, 44, 5724)) rfl trivial ?_
  refine zL_ld c rfl (by omega) ?_
  refine zL_cV c 0 k_9_27 zv_X6_paper (pc := 278) (ls := [some (zR 0), some (zR 1), some (zR 32), some (zI i)]) (sk := [zI y]) (h := zw (sn, sf, 5, 5, 22) B1 S1 Z1 L1 R1 M) (cs := 44) (ss := 5724) hM2 rfl trivial rfl rfl ⟨Nat.le_refl _, Nat.le_refl _⟩ (fun v2 h2 hp2 => ?_)
  obtain ⟨rfl, B2, S2, Z2, L2, R2, M2, rfl, hC2⟩ := hk2 v2 h2 hp2
  show V (278, [some (zR 0), some (zR 1), some (zR 32), some (zI i)], [zI y, zI y], zw (sn, sf, 5, 5, 22) B2 S2 Z2 L2 R2 M2, 44, 5724)
  exact zL_eq c rfl (k B2 S2 Z2 L2 R2 M2 hC2)
set_option maxRecDepth 8000 in
theorem zlc_3 (l : Launch) (N : Nat) (g : Int → Int) (hg : ∀ i, -2147483648 ≤ g i ∧ g i ≤ 2147483647) (V : ZS → Prop) (c : zCloL l tbL_3 N g V) (sn : Nat) (sf : Int → Int) (B : ZBk) (S Z : ZSg) (L : ZLn) (R : ZRd) (M : ZMd) (hC : zCI B S Z L R M) (i : Int) (hi : 0 ≤ i ∧ i + 6 ≤ (N : Int)) (k : ∀ B2 S2 Z2 L2 R2 M2, zCI B2 S2 Z2 L2 R2 M2 → V (1266, [some (zR 0), some (zR 1), some (zR 32), some (zI i)], [], zw (sn, sf, 5, 5, 22) B2 S2 Z2 L2 R2 M2, 44, 5724)) : V (283, [some (zR 0), some (zR 1), some (zR 32), some (zI i)], [], zw (sn, sf, 5, 5, 22) B S Z L R M, 44, 5724) := by
  obtain ⟨Po1, hM1, hk1⟩ := zt_broke l (g (i + 1)) (g (i + 2)) (hg _) (hg _) sn sf B S Z L R M hC
  refine zL_go c 5 (s1 := (288, [some (zR 0), some (zR 1), some (zR 32), some (zI i)], [zI (i + 1), zR 0, zR 1], zw (sn, sf, 5, 5, 22) B S Z L R M, 44, 5724)) rfl trivial ?_
  refine zL_ld c rfl (by omega) ?_
  refine zL_go c 4 (s1 := (293, [some (zR 0), some (zR 1), some (zR 32), some (zI i)], [zI (i + 2), zR 0, zI (g (i + 1)), zR 1], zw (sn, sf, 5, 5, 22) B S Z L R M, 44, 5724)) rfl trivial ?_
  refine zL_ld c rfl (by omega) ?_
  refine zL_cV c 0 k_9_28 zv_X5_broke (pc := 297) (ls := [some (zR 0), some (zR 1), some (zR 32), some (zI i)]) (sk := []) (h := zw (sn, sf, 5, 5, 22) B S Z L R M) (cs := 44) (ss := 5724) hM1 rfl trivial rfl rfl ⟨Nat.le_refl _, Nat.le_refl _⟩ (fun v1 h1 hp1 => ?_)
  obtain ⟨y, Po2, rfl, ⟨B1, S1, Z1, L1, R1, rfl⟩, hM2, hk2⟩ := hk1 v1 h1 hp1
  show V (297, [some (zR 0), some (zR 1), some (zR 32), some (zI i)], [zI y], zw (sn, sf, 5, 5, 22) B1 S1 Z1 L1 R1 M, 44, 5724)
  refine zL_go c 5 (s1 := (302, [some (zR 0), some (zR 1), some (zR 32), some (zI i)], [zI (i + 1), zR 0, zR 32, zI y], zw (sn, sf, 5, 5, 22) B1 S1 Z1 L1 R1 M, 44, 5724)) rfl trivial ?_
  refine zL_ld c rfl (by omega) ?_
  refine zL_go c 4 (s1 := (307, [some (zR 0), some (zR 1), some (zR 32), some (zI i)], [zI (i + 2), zR 0, zI (g (i + 1)), zR 32, zI y], zw (sn, sf, 5, 5, 22) B1 S1 Z1 L1 R1 M, 44, 5724)) rfl trivial ?_
  refine zL_ld c rfl (by omega) ?_
  refine zL_cV c 0 k_9_31 zv_X6_broke (pc := 311) (ls := [some (zR 0), some (zR 1), some (zR 32), some (zI i)]) (sk := [zI y]) (h := zw (sn, sf, 5, 5, 22) B1 S1 Z1 L1 R1 M) (cs := 44) (ss := 5724) hM2 rfl trivial rfl rfl ⟨Nat.le_refl _, Nat.le_refl _⟩ (fun v2 h2 hp2 => ?_)
  obtain ⟨rfl, B2, S2, Z2, L2, R2, M2, rfl, hC2⟩ := hk2 v2 h2 hp2
  show V (311, [some (zR 0), some (zR 1), some (zR 32), some (zI i)], [zI y, zI y], zw (sn, sf, 5, 5, 22) B2 S2 Z2 L2 R2 M2, 44, 5724)
  exact zL_eq c rfl (k B2 S2 Z2 L2 R2 M2 hC2)
set_option maxRecDepth 8000 in
theorem zlc_4 (l : Launch) (N : Nat) (g : Int → Int) (hg : ∀ i, -2147483648 ≤ g i ∧ g i ≤ 2147483647) (V : ZS → Prop) (c : zCloL l tbL_4 N g V) (sn : Nat) (sf : Int → Int) (B : ZBk) (S Z : ZSg) (L : ZLn) (R : ZRd) (M : ZMd) (hC : zCI B S Z L R M) (i : Int) (hi : 0 ≤ i ∧ i + 6 ≤ (N : Int)) (k : ∀ B2 S2 Z2 L2 R2 M2, zCI B2 S2 Z2 L2 R2 M2 → V (1266, [some (zR 0), some (zR 1), some (zR 32), some (zI i)], [], zw (sn, sf, 5, 5, 22) B2 S2 Z2 L2 R2 M2, 44, 5724)) : V (316, [some (zR 0), some (zR 1), some (zR 32), some (zI i)], [], zw (sn, sf, 5, 5, 22) B S Z L R M, 44, 5724) := by
  obtain ⟨Po1, hM1, hk1⟩ := zt_stop l (g (i + 1)) (g (i + 2)) (g (i + 3)) (hg _) (hg _) (hg _) sn sf B S Z L R M hC
  refine zL_go c 5 (s1 := (321, [some (zR 0), some (zR 1), some (zR 32), some (zI i)], [zI (i + 1), zR 0, zR 1], zw (sn, sf, 5, 5, 22) B S Z L R M, 44, 5724)) rfl trivial ?_
  refine zL_ld c rfl (by omega) ?_
  refine zL_go c 4 (s1 := (326, [some (zR 0), some (zR 1), some (zR 32), some (zI i)], [zI (i + 2), zR 0, zI (g (i + 1)), zR 1], zw (sn, sf, 5, 5, 22) B S Z L R M, 44, 5724)) rfl trivial ?_
  refine zL_ld c rfl (by omega) ?_
  refine zL_go c 4 (s1 := (331, [some (zR 0), some (zR 1), some (zR 32), some (zI i)], [zI (i + 3), zR 0, zI (g (i + 2)), zI (g (i + 1)), zR 1], zw (sn, sf, 5, 5, 22) B S Z L R M, 44, 5724)) rfl trivial ?_
  refine zL_ld c rfl (by omega) ?_
  refine zL_cV c 0 k_9_32 zv_X5_stop (pc := 335) (ls := [some (zR 0), some (zR 1), some (zR 32), some (zI i)]) (sk := []) (h := zw (sn, sf, 5, 5, 22) B S Z L R M) (cs := 44) (ss := 5724) hM1 rfl trivial rfl rfl ⟨Nat.le_refl _, Nat.le_refl _⟩ (fun v1 h1 hp1 => ?_)
  obtain ⟨y, Po2, rfl, ⟨B1, S1, Z1, L1, R1, rfl⟩, hM2, hk2⟩ := hk1 v1 h1 hp1
  show V (335, [some (zR 0), some (zR 1), some (zR 32), some (zI i)], [zI y], zw (sn, sf, 5, 5, 22) B1 S1 Z1 L1 R1 M, 44, 5724)
  refine zL_go c 5 (s1 := (340, [some (zR 0), some (zR 1), some (zR 32), some (zI i)], [zI (i + 1), zR 0, zR 32, zI y], zw (sn, sf, 5, 5, 22) B1 S1 Z1 L1 R1 M, 44, 5724)) rfl trivial ?_
  refine zL_ld c rfl (by omega) ?_
  refine zL_go c 4 (s1 := (345, [some (zR 0), some (zR 1), some (zR 32), some (zI i)], [zI (i + 2), zR 0, zI (g (i + 1)), zR 32, zI y], zw (sn, sf, 5, 5, 22) B1 S1 Z1 L1 R1 M, 44, 5724)) rfl trivial ?_
  refine zL_ld c rfl (by omega) ?_
  refine zL_go c 4 (s1 := (350, [some (zR 0), some (zR 1), some (zR 32), some (zI i)], [zI (i + 3), zR 0, zI (g (i + 2)), zI (g (i + 1)), zR 32, zI y], zw (sn, sf, 5, 5, 22) B1 S1 Z1 L1 R1 M, 44, 5724)) rfl trivial ?_
  refine zL_ld c rfl (by omega) ?_
  refine zL_cV c 0 k_9_35 zv_X6_stop (pc := 354) (ls := [some (zR 0), some (zR 1), some (zR 32), some (zI i)]) (sk := [zI y]) (h := zw (sn, sf, 5, 5, 22) B1 S1 Z1 L1 R1 M) (cs := 44) (ss := 5724) hM2 rfl trivial rfl rfl ⟨Nat.le_refl _, Nat.le_refl _⟩ (fun v2 h2 hp2 => ?_)
  obtain ⟨rfl, B2, S2, Z2, L2, R2, M2, rfl, hC2⟩ := hk2 v2 h2 hp2
  show V (354, [some (zR 0), some (zR 1), some (zR 32), some (zI i)], [zI y, zI y], zw (sn, sf, 5, 5, 22) B2 S2 Z2 L2 R2 M2, 44, 5724)
  exact zL_eq c rfl (k B2 S2 Z2 L2 R2 M2 hC2)
set_option maxRecDepth 8000 in
theorem zlc_5 (l : Launch) (N : Nat) (g : Int → Int) (hg : ∀ i, -2147483648 ≤ g i ∧ g i ≤ 2147483647) (V : ZS → Prop) (c : zCloL l tbL_5 N g V) (sn : Nat) (sf : Int → Int) (B : ZBk) (S Z : ZSg) (L : ZLn) (R : ZRd) (M : ZMd) (hC : zCI B S Z L R M) (i : Int) (hi : 0 ≤ i ∧ i + 6 ≤ (N : Int)) (k : ∀ B2 S2 Z2 L2 R2 M2, zCI B2 S2 Z2 L2 R2 M2 → V (1266, [some (zR 0), some (zR 1), some (zR 32), some (zI i)], [], zw (sn, sf, 5, 5, 22) B2 S2 Z2 L2 R2 M2, 44, 5724)) : V (359, [some (zR 0), some (zR 1), some (zR 32), some (zI i)], [], zw (sn, sf, 5, 5, 22) B S Z L R M, 44, 5724) := by
  obtain ⟨Po1, hM1, hk1⟩ := zt_make l (g (i + 1)) (g (i + 2)) (g (i + 3)) (g (i + 4)) (hg _) (hg _) (hg _) (hg _) sn sf B S Z L R M hC
  refine zL_go c 5 (s1 := (364, [some (zR 0), some (zR 1), some (zR 32), some (zI i)], [zI (i + 1), zR 0, zR 1], zw (sn, sf, 5, 5, 22) B S Z L R M, 44, 5724)) rfl trivial ?_
  refine zL_ld c rfl (by omega) ?_
  refine zL_go c 4 (s1 := (369, [some (zR 0), some (zR 1), some (zR 32), some (zI i)], [zI (i + 2), zR 0, zI (g (i + 1)), zR 1], zw (sn, sf, 5, 5, 22) B S Z L R M, 44, 5724)) rfl trivial ?_
  refine zL_ld c rfl (by omega) ?_
  refine zL_go c 4 (s1 := (374, [some (zR 0), some (zR 1), some (zR 32), some (zI i)], [zI (i + 3), zR 0, zI (g (i + 2)), zI (g (i + 1)), zR 1], zw (sn, sf, 5, 5, 22) B S Z L R M, 44, 5724)) rfl trivial ?_
  refine zL_ld c rfl (by omega) ?_
  refine zL_go c 4 (s1 := (379, [some (zR 0), some (zR 1), some (zR 32), some (zI i)], [zI (i + 4), zR 0, zI (g (i + 3)), zI (g (i + 2)), zI (g (i + 1)), zR 1], zw (sn, sf, 5, 5, 22) B S Z L R M, 44, 5724)) rfl trivial ?_
  refine zL_ld c rfl (by omega) ?_
  refine zL_cV c 0 k_9_36 zv_X5_make (pc := 383) (ls := [some (zR 0), some (zR 1), some (zR 32), some (zI i)]) (sk := []) (h := zw (sn, sf, 5, 5, 22) B S Z L R M) (cs := 44) (ss := 5724) hM1 rfl trivial rfl rfl ⟨Nat.le_refl _, Nat.le_refl _⟩ (fun v1 h1 hp1 => ?_)
  obtain ⟨y, Po2, rfl, ⟨B1, S1, Z1, L1, R1, rfl⟩, hM2, hk2⟩ := hk1 v1 h1 hp1
  show V (383, [some (zR 0), some (zR 1), some (zR 32), some (zI i)], [zI y], zw (sn, sf, 5, 5, 22) B1 S1 Z1 L1 R1 M, 44, 5724)
  refine zL_go c 5 (s1 := (388, [some (zR 0), some (zR 1), some (zR 32), some (zI i)], [zI (i + 1), zR 0, zR 32, zI y], zw (sn, sf, 5, 5, 22) B1 S1 Z1 L1 R1 M, 44, 5724)) rfl trivial ?_
  refine zL_ld c rfl (by omega) ?_
  refine zL_go c 4 (s1 := (393, [some (zR 0), some (zR 1), some (zR 32), some (zI i)], [zI (i + 2), zR 0, zI (g (i + 1)), zR 32, zI y], zw (sn, sf, 5, 5, 22) B1 S1 Z1 L1 R1 M, 44, 5724)) rfl trivial ?_
  refine zL_ld c rfl (by omega) ?_
  refine zL_go c 4 (s1 := (398, [some (zR 0), some (zR 1), some (zR 32), some (zI i)], [zI (i + 3), zR 0, zI (g (i + 2)), zI (g (i + 1)), zR 32, zI y], zw (sn, sf, 5, 5, 22) B1 S1 Z1 L1 R1 M, 44, 5724)) rfl trivial ?_
  refine zL_ld c rfl (by omega) ?_
  refine zL_go c 4 (s1 := (403, [some (zR 0), some (zR 1), some (zR 32), some (zI i)], [zI (i + 4), zR 0, zI (g (i + 3)), zI (g (i + 2)), zI (g (i + 1)), zR 32, zI y], zw (sn, sf, 5, 5, 22) B1 S1 Z1 L1 R1 M, 44, 5724)) rfl trivial ?_
  refine zL_ld c rfl (by omega) ?_
  refine zL_cV c 0 k_9_40 zv_X6_make (pc := 407) (ls := [some (zR 0), some (zR 1), some (zR 32), some (zI i)]) (sk := [zI y]) (h := zw (sn, sf, 5, 5, 22) B1 S1 Z1 L1 R1 M) (cs := 44) (ss := 5724) hM2 rfl trivial rfl rfl ⟨Nat.le_refl _, Nat.le_refl _⟩ (fun v2 h2 hp2 => ?_)
  obtain ⟨rfl, B2, S2, Z2, L2, R2, M2, rfl, hC2⟩ := hk2 v2 h2 hp2
  show V (407, [some (zR 0), some (zR 1), some (zR 32), some (zI i)], [zI y, zI y], zw (sn, sf, 5, 5, 22) B2 S2 Z2 L2 R2 M2, 44, 5724)
  exact zL_eq c rfl (k B2 S2 Z2 L2 R2 M2 hC2)
set_option maxRecDepth 8000 in
theorem zlc_6 (l : Launch) (N : Nat) (g : Int → Int) (hg : ∀ i, -2147483648 ≤ g i ∧ g i ≤ 2147483647) (V : ZS → Prop) (c : zCloL l tbL_6 N g V) (sn : Nat) (sf : Int → Int) (B : ZBk) (S Z : ZSg) (L : ZLn) (R : ZRd) (M : ZMd) (hC : zCI B S Z L R M) (i : Int) (hi : 0 ≤ i ∧ i + 6 ≤ (N : Int)) (k : ∀ B2 S2 Z2 L2 R2 M2, zCI B2 S2 Z2 L2 R2 M2 → V (1266, [some (zR 0), some (zR 1), some (zR 32), some (zI i)], [], zw (sn, sf, 5, 5, 22) B2 S2 Z2 L2 R2 M2, 44, 5724)) : V (412, [some (zR 0), some (zR 1), some (zR 32), some (zI i)], [], zw (sn, sf, 5, 5, 22) B S Z L R M, 44, 5724) := by
  obtain ⟨Po1, hM1, hk1⟩ := zt_strike l (g (i + 1)) (hg _) sn sf B S Z L R M hC
  refine zL_go c 5 (s1 := (417, [some (zR 0), some (zR 1), some (zR 32), some (zI i)], [zI (i + 1), zR 0, zR 1], zw (sn, sf, 5, 5, 22) B S Z L R M, 44, 5724)) rfl trivial ?_
  refine zL_ld c rfl (by omega) ?_
  refine zL_cV c 0 k_9_41 zv_X5_strike (pc := 421) (ls := [some (zR 0), some (zR 1), some (zR 32), some (zI i)]) (sk := []) (h := zw (sn, sf, 5, 5, 22) B S Z L R M) (cs := 44) (ss := 5724) hM1 rfl trivial rfl rfl ⟨Nat.le_refl _, Nat.le_refl _⟩ (fun v1 h1 hp1 => ?_)
  obtain ⟨y, Po2, rfl, ⟨B1, S1, Z1, L1, R1, rfl⟩, hM2, hk2⟩ := hk1 v1 h1 hp1
  show V (421, [some (zR 0), some (zR 1), some (zR 32), some (zI i)], [zI y], zw (sn, sf, 5, 5, 22) B1 S1 Z1 L1 R1 M, 44, 5724)
  refine zL_go c 5 (s1 := (426, [some (zR 0), some (zR 1), some (zR 32), some (zI i)], [zI (i + 1), zR 0, zR 32, zI y], zw (sn, sf, 5, 5, 22) B1 S1 Z1 L1 R1 M, 44, 5724)) rfl trivial ?_
  refine zL_ld c rfl (by omega) ?_
  refine zL_cV c 0 k_9_45 zv_X6_strike (pc := 430) (ls := [some (zR 0), some (zR 1), some (zR 32), some (zI i)]) (sk := [zI y]) (h := zw (sn, sf, 5, 5, 22) B1 S1 Z1 L1 R1 M) (cs := 44) (ss := 5724) hM2 rfl trivial rfl rfl ⟨Nat.le_refl _, Nat.le_refl _⟩ (fun v2 h2 hp2 => ?_)
  obtain ⟨rfl, B2, S2, Z2, L2, R2, M2, rfl, hC2⟩ := hk2 v2 h2 hp2
  show V (430, [some (zR 0), some (zR 1), some (zR 32), some (zI i)], [zI y, zI y], zw (sn, sf, 5, 5, 22) B2 S2 Z2 L2 R2 M2, 44, 5724)
  exact zL_eq c rfl (k B2 S2 Z2 L2 R2 M2 hC2)
set_option maxRecDepth 8000 in
theorem zlc_7 (l : Launch) (N : Nat) (g : Int → Int) (hg : ∀ i, -2147483648 ≤ g i ∧ g i ≤ 2147483647) (V : ZS → Prop) (c : zCloL l tbL_7 N g V) (sn : Nat) (sf : Int → Int) (B : ZBk) (S Z : ZSg) (L : ZLn) (R : ZRd) (M : ZMd) (hC : zCI B S Z L R M) (i : Int) (hi : 0 ≤ i ∧ i + 6 ≤ (N : Int)) (k : ∀ B2 S2 Z2 L2 R2 M2, zCI B2 S2 Z2 L2 R2 M2 → V (1266, [some (zR 0), some (zR 1), some (zR 32), some (zI i)], [], zw (sn, sf, 5, 5, 22) B2 S2 Z2 L2 R2 M2, 44, 5724)) : V (435, [some (zR 0), some (zR 1), some (zR 32), some (zI i)], [], zw (sn, sf, 5, 5, 22) B S Z L R M, 44, 5724) := by
  obtain ⟨Po1, hM1, hk1⟩ := zt_statute l (g (i + 1)) (g (i + 2)) (g (i + 3)) (g (i + 4)) (hg _) (hg _) (hg _) (hg _) sn sf B S Z L R M hC
  refine zL_go c 5 (s1 := (440, [some (zR 0), some (zR 1), some (zR 32), some (zI i)], [zI (i + 1), zR 0, zR 1], zw (sn, sf, 5, 5, 22) B S Z L R M, 44, 5724)) rfl trivial ?_
  refine zL_ld c rfl (by omega) ?_
  refine zL_go c 4 (s1 := (445, [some (zR 0), some (zR 1), some (zR 32), some (zI i)], [zI (i + 2), zR 0, zI (g (i + 1)), zR 1], zw (sn, sf, 5, 5, 22) B S Z L R M, 44, 5724)) rfl trivial ?_
  refine zL_ld c rfl (by omega) ?_
  refine zL_go c 4 (s1 := (450, [some (zR 0), some (zR 1), some (zR 32), some (zI i)], [zI (i + 3), zR 0, zI (g (i + 2)), zI (g (i + 1)), zR 1], zw (sn, sf, 5, 5, 22) B S Z L R M, 44, 5724)) rfl trivial ?_
  refine zL_ld c rfl (by omega) ?_
  refine zL_go c 4 (s1 := (455, [some (zR 0), some (zR 1), some (zR 32), some (zI i)], [zI (i + 4), zR 0, zI (g (i + 3)), zI (g (i + 2)), zI (g (i + 1)), zR 1], zw (sn, sf, 5, 5, 22) B S Z L R M, 44, 5724)) rfl trivial ?_
  refine zL_ld c rfl (by omega) ?_
  refine zL_cV c 0 k_9_46 zv_X5_statute (pc := 459) (ls := [some (zR 0), some (zR 1), some (zR 32), some (zI i)]) (sk := []) (h := zw (sn, sf, 5, 5, 22) B S Z L R M) (cs := 44) (ss := 5724) hM1 rfl trivial rfl rfl ⟨Nat.le_refl _, Nat.le_refl _⟩ (fun v1 h1 hp1 => ?_)
  obtain ⟨y, Po2, rfl, ⟨B1, S1, Z1, L1, R1, rfl⟩, hM2, hk2⟩ := hk1 v1 h1 hp1
  show V (459, [some (zR 0), some (zR 1), some (zR 32), some (zI i)], [zI y], zw (sn, sf, 5, 5, 22) B1 S1 Z1 L1 R1 M, 44, 5724)
  refine zL_go c 5 (s1 := (464, [some (zR 0), some (zR 1), some (zR 32), some (zI i)], [zI (i + 1), zR 0, zR 32, zI y], zw (sn, sf, 5, 5, 22) B1 S1 Z1 L1 R1 M, 44, 5724)) rfl trivial ?_
  refine zL_ld c rfl (by omega) ?_
  refine zL_go c 4 (s1 := (469, [some (zR 0), some (zR 1), some (zR 32), some (zI i)], [zI (i + 2), zR 0, zI (g (i + 1)), zR 32, zI y], zw (sn, sf, 5, 5, 22) B1 S1 Z1 L1 R1 M, 44, 5724)) rfl trivial ?_
  refine zL_ld c rfl (by omega) ?_
  refine zL_go c 4 (s1 := (474, [some (zR 0), some (zR 1), some (zR 32), some (zI i)], [zI (i + 3), zR 0, zI (g (i + 2)), zI (g (i + 1)), zR 32, zI y], zw (sn, sf, 5, 5, 22) B1 S1 Z1 L1 R1 M, 44, 5724)) rfl trivial ?_
  refine zL_ld c rfl (by omega) ?_
  refine zL_go c 4 (s1 := (479, [some (zR 0), some (zR 1), some (zR 32), some (zI i)], [zI (i + 4), zR 0, zI (g (i + 3)), zI (g (i + 2)), zI (g (i + 1)), zR 32, zI y], zw (sn, sf, 5, 5, 22) B1 S1 Z1 L1 R1 M, 44, 5724)) rfl trivial ?_
  refine zL_ld c rfl (by omega) ?_
  refine zL_cV c 0 k_9_49 zv_X6_statute (pc := 483) (ls := [some (zR 0), some (zR 1), some (zR 32), some (zI i)]) (sk := [zI y]) (h := zw (sn, sf, 5, 5, 22) B1 S1 Z1 L1 R1 M) (cs := 44) (ss := 5724) hM2 rfl trivial rfl rfl ⟨Nat.le_refl _, Nat.le_refl _⟩ (fun v2 h2 hp2 => ?_)
  obtain ⟨rfl, B2, S2, Z2, L2, R2, M2, rfl, hC2⟩ := hk2 v2 h2 hp2
  show V (483, [some (zR 0), some (zR 1), some (zR 32), some (zI i)], [zI y, zI y], zw (sn, sf, 5, 5, 22) B2 S2 Z2 L2 R2 M2, 44, 5724)
  exact zL_eq c rfl (k B2 S2 Z2 L2 R2 M2 hC2)
set_option maxRecDepth 8000 in
theorem zlc_8 (l : Launch) (N : Nat) (g : Int → Int) (hg : ∀ i, -2147483648 ≤ g i ∧ g i ≤ 2147483647) (V : ZS → Prop) (c : zCloL l tbL_8 N g V) (sn : Nat) (sf : Int → Int) (B : ZBk) (S Z : ZSg) (L : ZLn) (R : ZRd) (M : ZMd) (hC : zCI B S Z L R M) (i : Int) (hi : 0 ≤ i ∧ i + 6 ≤ (N : Int)) (k : ∀ B2 S2 Z2 L2 R2 M2, zCI B2 S2 Z2 L2 R2 M2 → V (1266, [some (zR 0), some (zR 1), some (zR 32), some (zI i)], [], zw (sn, sf, 5, 5, 22) B2 S2 Z2 L2 R2 M2, 44, 5724)) : V (488, [some (zR 0), some (zR 1), some (zR 32), some (zI i)], [], zw (sn, sf, 5, 5, 22) B S Z L R M, 44, 5724) := by
  obtain ⟨Po1, hM1, hk1⟩ := zt_page l (g (i + 1)) (g (i + 2)) (g (i + 3)) (hg _) (hg _) (hg _) sn sf B S Z L R M hC
  refine zL_go c 5 (s1 := (493, [some (zR 0), some (zR 1), some (zR 32), some (zI i)], [zI (i + 1), zR 0, zR 1], zw (sn, sf, 5, 5, 22) B S Z L R M, 44, 5724)) rfl trivial ?_
  refine zL_ld c rfl (by omega) ?_
  refine zL_go c 4 (s1 := (498, [some (zR 0), some (zR 1), some (zR 32), some (zI i)], [zI (i + 2), zR 0, zI (g (i + 1)), zR 1], zw (sn, sf, 5, 5, 22) B S Z L R M, 44, 5724)) rfl trivial ?_
  refine zL_ld c rfl (by omega) ?_
  refine zL_go c 4 (s1 := (503, [some (zR 0), some (zR 1), some (zR 32), some (zI i)], [zI (i + 3), zR 0, zI (g (i + 2)), zI (g (i + 1)), zR 1], zw (sn, sf, 5, 5, 22) B S Z L R M, 44, 5724)) rfl trivial ?_
  refine zL_ld c rfl (by omega) ?_
  refine zL_cV c 0 k_9_50 zv_X5_page (pc := 507) (ls := [some (zR 0), some (zR 1), some (zR 32), some (zI i)]) (sk := []) (h := zw (sn, sf, 5, 5, 22) B S Z L R M) (cs := 44) (ss := 5724) hM1 rfl trivial rfl rfl ⟨Nat.le_refl _, Nat.le_refl _⟩ (fun v1 h1 hp1 => ?_)
  obtain ⟨y, Po2, rfl, ⟨B1, S1, Z1, L1, R1, rfl⟩, hM2, hk2⟩ := hk1 v1 h1 hp1
  show V (507, [some (zR 0), some (zR 1), some (zR 32), some (zI i)], [zI y], zw (sn, sf, 5, 5, 22) B1 S1 Z1 L1 R1 M, 44, 5724)
  refine zL_go c 5 (s1 := (512, [some (zR 0), some (zR 1), some (zR 32), some (zI i)], [zI (i + 1), zR 0, zR 32, zI y], zw (sn, sf, 5, 5, 22) B1 S1 Z1 L1 R1 M, 44, 5724)) rfl trivial ?_
  refine zL_ld c rfl (by omega) ?_
  refine zL_go c 4 (s1 := (517, [some (zR 0), some (zR 1), some (zR 32), some (zI i)], [zI (i + 2), zR 0, zI (g (i + 1)), zR 32, zI y], zw (sn, sf, 5, 5, 22) B1 S1 Z1 L1 R1 M, 44, 5724)) rfl trivial ?_
  refine zL_ld c rfl (by omega) ?_
  refine zL_go c 4 (s1 := (522, [some (zR 0), some (zR 1), some (zR 32), some (zI i)], [zI (i + 3), zR 0, zI (g (i + 2)), zI (g (i + 1)), zR 32, zI y], zw (sn, sf, 5, 5, 22) B1 S1 Z1 L1 R1 M, 44, 5724)) rfl trivial ?_
  refine zL_ld c rfl (by omega) ?_
  refine zL_cV c 0 k_9_53 zv_X6_page (pc := 526) (ls := [some (zR 0), some (zR 1), some (zR 32), some (zI i)]) (sk := [zI y]) (h := zw (sn, sf, 5, 5, 22) B1 S1 Z1 L1 R1 M) (cs := 44) (ss := 5724) hM2 rfl trivial rfl rfl ⟨Nat.le_refl _, Nat.le_refl _⟩ (fun v2 h2 hp2 => ?_)
  obtain ⟨rfl, B2, S2, Z2, L2, R2, M2, rfl, hC2⟩ := hk2 v2 h2 hp2
  show V (526, [some (zR 0), some (zR 1), some (zR 32), some (zI i)], [zI y, zI y], zw (sn, sf, 5, 5, 22) B2 S2 Z2 L2 R2 M2, 44, 5724)
  exact zL_eq c rfl (k B2 S2 Z2 L2 R2 M2 hC2)
set_option maxRecDepth 8000 in
theorem zlc_9 (l : Launch) (N : Nat) (g : Int → Int) (hg : ∀ i, -2147483648 ≤ g i ∧ g i ≤ 2147483647) (V : ZS → Prop) (c : zCloL l tbL_9 N g V) (sn : Nat) (sf : Int → Int) (B : ZBk) (S Z : ZSg) (L : ZLn) (R : ZRd) (M : ZMd) (hC : zCI B S Z L R M) (i : Int) (hi : 0 ≤ i ∧ i + 6 ≤ (N : Int)) (k : ∀ B2 S2 Z2 L2 R2 M2, zCI B2 S2 Z2 L2 R2 M2 → V (1266, [some (zR 0), some (zR 1), some (zR 32), some (zI i)], [], zw (sn, sf, 5, 5, 22) B2 S2 Z2 L2 R2 M2, 44, 5724)) : V (531, [some (zR 0), some (zR 1), some (zR 32), some (zI i)], [], zw (sn, sf, 5, 5, 22) B S Z L R M, 44, 5724) := by
  obtain ⟨Po1, hM1, hk1⟩ := zt_counts l (g (i + 1)) (g (i + 2)) (hg _) (hg _) sn sf B S Z L R M hC
  refine zL_go c 5 (s1 := (536, [some (zR 0), some (zR 1), some (zR 32), some (zI i)], [zI (i + 1), zR 0, zR 1], zw (sn, sf, 5, 5, 22) B S Z L R M, 44, 5724)) rfl trivial ?_
  refine zL_ld c rfl (by omega) ?_
  refine zL_go c 4 (s1 := (541, [some (zR 0), some (zR 1), some (zR 32), some (zI i)], [zI (i + 2), zR 0, zI (g (i + 1)), zR 1], zw (sn, sf, 5, 5, 22) B S Z L R M, 44, 5724)) rfl trivial ?_
  refine zL_ld c rfl (by omega) ?_
  refine zL_cV c 0 k_9_54 zv_X5_counts (pc := 545) (ls := [some (zR 0), some (zR 1), some (zR 32), some (zI i)]) (sk := []) (h := zw (sn, sf, 5, 5, 22) B S Z L R M) (cs := 44) (ss := 5724) hM1 rfl trivial rfl rfl ⟨Nat.le_refl _, Nat.le_refl _⟩ (fun v1 h1 hp1 => ?_)
  obtain ⟨y, Po2, rfl, ⟨B1, S1, Z1, L1, R1, rfl⟩, hM2, hk2⟩ := hk1 v1 h1 hp1
  show V (545, [some (zR 0), some (zR 1), some (zR 32), some (zI i)], [zI y], zw (sn, sf, 5, 5, 22) B1 S1 Z1 L1 R1 M, 44, 5724)
  refine zL_go c 5 (s1 := (550, [some (zR 0), some (zR 1), some (zR 32), some (zI i)], [zI (i + 1), zR 0, zR 32, zI y], zw (sn, sf, 5, 5, 22) B1 S1 Z1 L1 R1 M, 44, 5724)) rfl trivial ?_
  refine zL_ld c rfl (by omega) ?_
  refine zL_go c 4 (s1 := (555, [some (zR 0), some (zR 1), some (zR 32), some (zI i)], [zI (i + 2), zR 0, zI (g (i + 1)), zR 32, zI y], zw (sn, sf, 5, 5, 22) B1 S1 Z1 L1 R1 M, 44, 5724)) rfl trivial ?_
  refine zL_ld c rfl (by omega) ?_
  refine zL_cV c 0 k_9_57 zv_X6_counts (pc := 559) (ls := [some (zR 0), some (zR 1), some (zR 32), some (zI i)]) (sk := [zI y]) (h := zw (sn, sf, 5, 5, 22) B1 S1 Z1 L1 R1 M) (cs := 44) (ss := 5724) hM2 rfl trivial rfl rfl ⟨Nat.le_refl _, Nat.le_refl _⟩ (fun v2 h2 hp2 => ?_)
  obtain ⟨rfl, B2, S2, Z2, L2, R2, M2, rfl, hC2⟩ := hk2 v2 h2 hp2
  show V (559, [some (zR 0), some (zR 1), some (zR 32), some (zI i)], [zI y, zI y], zw (sn, sf, 5, 5, 22) B2 S2 Z2 L2 R2 M2, 44, 5724)
  exact zL_eq c rfl (k B2 S2 Z2 L2 R2 M2 hC2)
set_option maxRecDepth 8000 in
theorem zlc_10 (l : Launch) (N : Nat) (g : Int → Int) (hg : ∀ i, -2147483648 ≤ g i ∧ g i ≤ 2147483647) (V : ZS → Prop) (c : zCloL l tbL_10 N g V) (sn : Nat) (sf : Int → Int) (B : ZBk) (S Z : ZSg) (L : ZLn) (R : ZRd) (M : ZMd) (hC : zCI B S Z L R M) (i : Int) (hi : 0 ≤ i ∧ i + 6 ≤ (N : Int)) (k : ∀ B2 S2 Z2 L2 R2 M2, zCI B2 S2 Z2 L2 R2 M2 → V (1266, [some (zR 0), some (zR 1), some (zR 32), some (zI i)], [], zw (sn, sf, 5, 5, 22) B2 S2 Z2 L2 R2 M2, 44, 5724)) : V (564, [some (zR 0), some (zR 1), some (zR 32), some (zI i)], [], zw (sn, sf, 5, 5, 22) B S Z L R M, 44, 5724) := by
  obtain ⟨Po1, hM1, hk1⟩ := zt_persons l (g (i + 1)) (g (i + 2)) (g (i + 3)) (g (i + 4)) (hg _) (hg _) (hg _) (hg _) sn sf B S Z L R M hC
  refine zL_go c 5 (s1 := (569, [some (zR 0), some (zR 1), some (zR 32), some (zI i)], [zI (i + 1), zR 0, zR 1], zw (sn, sf, 5, 5, 22) B S Z L R M, 44, 5724)) rfl trivial ?_
  refine zL_ld c rfl (by omega) ?_
  refine zL_go c 4 (s1 := (574, [some (zR 0), some (zR 1), some (zR 32), some (zI i)], [zI (i + 2), zR 0, zI (g (i + 1)), zR 1], zw (sn, sf, 5, 5, 22) B S Z L R M, 44, 5724)) rfl trivial ?_
  refine zL_ld c rfl (by omega) ?_
  refine zL_go c 4 (s1 := (579, [some (zR 0), some (zR 1), some (zR 32), some (zI i)], [zI (i + 3), zR 0, zI (g (i + 2)), zI (g (i + 1)), zR 1], zw (sn, sf, 5, 5, 22) B S Z L R M, 44, 5724)) rfl trivial ?_
  refine zL_ld c rfl (by omega) ?_
  refine zL_go c 4 (s1 := (584, [some (zR 0), some (zR 1), some (zR 32), some (zI i)], [zI (i + 4), zR 0, zI (g (i + 3)), zI (g (i + 2)), zI (g (i + 1)), zR 1], zw (sn, sf, 5, 5, 22) B S Z L R M, 44, 5724)) rfl trivial ?_
  refine zL_ld c rfl (by omega) ?_
  refine zL_cV c 0 k_9_58 zv_X5_persons (pc := 588) (ls := [some (zR 0), some (zR 1), some (zR 32), some (zI i)]) (sk := []) (h := zw (sn, sf, 5, 5, 22) B S Z L R M) (cs := 44) (ss := 5724) hM1 rfl trivial rfl rfl ⟨Nat.le_refl _, Nat.le_refl _⟩ (fun v1 h1 hp1 => ?_)
  obtain ⟨y, Po2, rfl, ⟨B1, S1, Z1, L1, R1, rfl⟩, hM2, hk2⟩ := hk1 v1 h1 hp1
  show V (588, [some (zR 0), some (zR 1), some (zR 32), some (zI i)], [zI y], zw (sn, sf, 5, 5, 22) B1 S1 Z1 L1 R1 M, 44, 5724)
  refine zL_go c 5 (s1 := (593, [some (zR 0), some (zR 1), some (zR 32), some (zI i)], [zI (i + 1), zR 0, zR 32, zI y], zw (sn, sf, 5, 5, 22) B1 S1 Z1 L1 R1 M, 44, 5724)) rfl trivial ?_
  refine zL_ld c rfl (by omega) ?_
  refine zL_go c 4 (s1 := (598, [some (zR 0), some (zR 1), some (zR 32), some (zI i)], [zI (i + 2), zR 0, zI (g (i + 1)), zR 32, zI y], zw (sn, sf, 5, 5, 22) B1 S1 Z1 L1 R1 M, 44, 5724)) rfl trivial ?_
  refine zL_ld c rfl (by omega) ?_
  refine zL_go c 4 (s1 := (603, [some (zR 0), some (zR 1), some (zR 32), some (zI i)], [zI (i + 3), zR 0, zI (g (i + 2)), zI (g (i + 1)), zR 32, zI y], zw (sn, sf, 5, 5, 22) B1 S1 Z1 L1 R1 M, 44, 5724)) rfl trivial ?_
  refine zL_ld c rfl (by omega) ?_
  refine zL_go c 4 (s1 := (608, [some (zR 0), some (zR 1), some (zR 32), some (zI i)], [zI (i + 4), zR 0, zI (g (i + 3)), zI (g (i + 2)), zI (g (i + 1)), zR 32, zI y], zw (sn, sf, 5, 5, 22) B1 S1 Z1 L1 R1 M, 44, 5724)) rfl trivial ?_
  refine zL_ld c rfl (by omega) ?_
  refine zL_cV c 0 k_9_61 zv_X6_persons (pc := 612) (ls := [some (zR 0), some (zR 1), some (zR 32), some (zI i)]) (sk := [zI y]) (h := zw (sn, sf, 5, 5, 22) B1 S1 Z1 L1 R1 M) (cs := 44) (ss := 5724) hM2 rfl trivial rfl rfl ⟨Nat.le_refl _, Nat.le_refl _⟩ (fun v2 h2 hp2 => ?_)
  obtain ⟨rfl, B2, S2, Z2, L2, R2, M2, rfl, hC2⟩ := hk2 v2 h2 hp2
  show V (612, [some (zR 0), some (zR 1), some (zR 32), some (zI i)], [zI y, zI y], zw (sn, sf, 5, 5, 22) B2 S2 Z2 L2 R2 M2, 44, 5724)
  exact zL_eq c rfl (k B2 S2 Z2 L2 R2 M2 hC2)
set_option maxRecDepth 8000 in
theorem zlc_11 (l : Launch) (N : Nat) (g : Int → Int) (hg : ∀ i, -2147483648 ≤ g i ∧ g i ≤ 2147483647) (V : ZS → Prop) (c : zCloL l tbL_11 N g V) (sn : Nat) (sf : Int → Int) (B : ZBk) (S Z : ZSg) (L : ZLn) (R : ZRd) (M : ZMd) (hC : zCI B S Z L R M) (i : Int) (hi : 0 ≤ i ∧ i + 6 ≤ (N : Int)) (k : ∀ B2 S2 Z2 L2 R2 M2, zCI B2 S2 Z2 L2 R2 M2 → V (1266, [some (zR 0), some (zR 1), some (zR 32), some (zI i)], [], zw (sn, sf, 5, 5, 22) B2 S2 Z2 L2 R2 M2, 44, 5724)) : V (617, [some (zR 0), some (zR 1), some (zR 32), some (zI i)], [], zw (sn, sf, 5, 5, 22) B S Z L R M, 44, 5724) := by
  obtain ⟨Po1, hM1, hk1⟩ := zt_holds l (g (i + 1)) (g (i + 2)) (g (i + 3)) (g (i + 4)) (hg _) (hg _) (hg _) (hg _) sn sf B S Z L R M hC
  refine zL_go c 5 (s1 := (622, [some (zR 0), some (zR 1), some (zR 32), some (zI i)], [zI (i + 1), zR 0, zR 1], zw (sn, sf, 5, 5, 22) B S Z L R M, 44, 5724)) rfl trivial ?_
  refine zL_ld c rfl (by omega) ?_
  refine zL_go c 4 (s1 := (627, [some (zR 0), some (zR 1), some (zR 32), some (zI i)], [zI (i + 2), zR 0, zI (g (i + 1)), zR 1], zw (sn, sf, 5, 5, 22) B S Z L R M, 44, 5724)) rfl trivial ?_
  refine zL_ld c rfl (by omega) ?_
  refine zL_go c 4 (s1 := (632, [some (zR 0), some (zR 1), some (zR 32), some (zI i)], [zI (i + 3), zR 0, zI (g (i + 2)), zI (g (i + 1)), zR 1], zw (sn, sf, 5, 5, 22) B S Z L R M, 44, 5724)) rfl trivial ?_
  refine zL_ld c rfl (by omega) ?_
  refine zL_go c 4 (s1 := (637, [some (zR 0), some (zR 1), some (zR 32), some (zI i)], [zI (i + 4), zR 0, zI (g (i + 3)), zI (g (i + 2)), zI (g (i + 1)), zR 1], zw (sn, sf, 5, 5, 22) B S Z L R M, 44, 5724)) rfl trivial ?_
  refine zL_ld c rfl (by omega) ?_
  refine zL_cV c 0 k_9_62 zv_X5_holds (pc := 641) (ls := [some (zR 0), some (zR 1), some (zR 32), some (zI i)]) (sk := []) (h := zw (sn, sf, 5, 5, 22) B S Z L R M) (cs := 44) (ss := 5724) hM1 rfl trivial rfl rfl ⟨Nat.le_refl _, Nat.le_refl _⟩ (fun v1 h1 hp1 => ?_)
  obtain ⟨y, Po2, rfl, ⟨B1, S1, Z1, L1, R1, rfl⟩, hM2, hk2⟩ := hk1 v1 h1 hp1
  show V (641, [some (zR 0), some (zR 1), some (zR 32), some (zI i)], [zI y], zw (sn, sf, 5, 5, 22) B1 S1 Z1 L1 R1 M, 44, 5724)
  refine zL_go c 5 (s1 := (646, [some (zR 0), some (zR 1), some (zR 32), some (zI i)], [zI (i + 1), zR 0, zR 32, zI y], zw (sn, sf, 5, 5, 22) B1 S1 Z1 L1 R1 M, 44, 5724)) rfl trivial ?_
  refine zL_ld c rfl (by omega) ?_
  refine zL_go c 4 (s1 := (651, [some (zR 0), some (zR 1), some (zR 32), some (zI i)], [zI (i + 2), zR 0, zI (g (i + 1)), zR 32, zI y], zw (sn, sf, 5, 5, 22) B1 S1 Z1 L1 R1 M, 44, 5724)) rfl trivial ?_
  refine zL_ld c rfl (by omega) ?_
  refine zL_go c 4 (s1 := (656, [some (zR 0), some (zR 1), some (zR 32), some (zI i)], [zI (i + 3), zR 0, zI (g (i + 2)), zI (g (i + 1)), zR 32, zI y], zw (sn, sf, 5, 5, 22) B1 S1 Z1 L1 R1 M, 44, 5724)) rfl trivial ?_
  refine zL_ld c rfl (by omega) ?_
  refine zL_go c 4 (s1 := (661, [some (zR 0), some (zR 1), some (zR 32), some (zI i)], [zI (i + 4), zR 0, zI (g (i + 3)), zI (g (i + 2)), zI (g (i + 1)), zR 32, zI y], zw (sn, sf, 5, 5, 22) B1 S1 Z1 L1 R1 M, 44, 5724)) rfl trivial ?_
  refine zL_ld c rfl (by omega) ?_
  refine zL_cV c 0 k_9_65 zv_X6_holds (pc := 665) (ls := [some (zR 0), some (zR 1), some (zR 32), some (zI i)]) (sk := [zI y]) (h := zw (sn, sf, 5, 5, 22) B1 S1 Z1 L1 R1 M) (cs := 44) (ss := 5724) hM2 rfl trivial rfl rfl ⟨Nat.le_refl _, Nat.le_refl _⟩ (fun v2 h2 hp2 => ?_)
  obtain ⟨rfl, B2, S2, Z2, L2, R2, M2, rfl, hC2⟩ := hk2 v2 h2 hp2
  show V (665, [some (zR 0), some (zR 1), some (zR 32), some (zI i)], [zI y, zI y], zw (sn, sf, 5, 5, 22) B2 S2 Z2 L2 R2 M2, 44, 5724)
  exact zL_eq c rfl (k B2 S2 Z2 L2 R2 M2 hC2)
set_option maxRecDepth 8000 in
theorem zlc_12 (l : Launch) (N : Nat) (g : Int → Int) (hg : ∀ i, -2147483648 ≤ g i ∧ g i ≤ 2147483647) (V : ZS → Prop) (c : zCloL l tbL_12 N g V) (sn : Nat) (sf : Int → Int) (B : ZBk) (S Z : ZSg) (L : ZLn) (R : ZRd) (M : ZMd) (hC : zCI B S Z L R M) (i : Int) (hi : 0 ≤ i ∧ i + 6 ≤ (N : Int)) (k : ∀ B2 S2 Z2 L2 R2 M2, zCI B2 S2 Z2 L2 R2 M2 → V (1266, [some (zR 0), some (zR 1), some (zR 32), some (zI i)], [], zw (sn, sf, 5, 5, 22) B2 S2 Z2 L2 R2 M2, 44, 5724)) : V (670, [some (zR 0), some (zR 1), some (zR 32), some (zI i)], [], zw (sn, sf, 5, 5, 22) B S Z L R M, 44, 5724) := by
  obtain ⟨Po1, hM1, hk1⟩ := zt_lacking l (g (i + 1)) (g (i + 2)) (g (i + 3)) (g (i + 4)) (hg _) (hg _) (hg _) (hg _) sn sf B S Z L R M hC
  refine zL_go c 5 (s1 := (675, [some (zR 0), some (zR 1), some (zR 32), some (zI i)], [zI (i + 1), zR 0, zR 1], zw (sn, sf, 5, 5, 22) B S Z L R M, 44, 5724)) rfl trivial ?_
  refine zL_ld c rfl (by omega) ?_
  refine zL_go c 4 (s1 := (680, [some (zR 0), some (zR 1), some (zR 32), some (zI i)], [zI (i + 2), zR 0, zI (g (i + 1)), zR 1], zw (sn, sf, 5, 5, 22) B S Z L R M, 44, 5724)) rfl trivial ?_
  refine zL_ld c rfl (by omega) ?_
  refine zL_go c 4 (s1 := (685, [some (zR 0), some (zR 1), some (zR 32), some (zI i)], [zI (i + 3), zR 0, zI (g (i + 2)), zI (g (i + 1)), zR 1], zw (sn, sf, 5, 5, 22) B S Z L R M, 44, 5724)) rfl trivial ?_
  refine zL_ld c rfl (by omega) ?_
  refine zL_go c 4 (s1 := (690, [some (zR 0), some (zR 1), some (zR 32), some (zI i)], [zI (i + 4), zR 0, zI (g (i + 3)), zI (g (i + 2)), zI (g (i + 1)), zR 1], zw (sn, sf, 5, 5, 22) B S Z L R M, 44, 5724)) rfl trivial ?_
  refine zL_ld c rfl (by omega) ?_
  refine zL_cV c 0 k_9_66 zv_X5_lacking (pc := 694) (ls := [some (zR 0), some (zR 1), some (zR 32), some (zI i)]) (sk := []) (h := zw (sn, sf, 5, 5, 22) B S Z L R M) (cs := 44) (ss := 5724) hM1 rfl trivial rfl rfl ⟨Nat.le_refl _, Nat.le_refl _⟩ (fun v1 h1 hp1 => ?_)
  obtain ⟨y, Po2, rfl, ⟨B1, S1, Z1, L1, R1, rfl⟩, hM2, hk2⟩ := hk1 v1 h1 hp1
  show V (694, [some (zR 0), some (zR 1), some (zR 32), some (zI i)], [zI y], zw (sn, sf, 5, 5, 22) B1 S1 Z1 L1 R1 M, 44, 5724)
  refine zL_go c 5 (s1 := (699, [some (zR 0), some (zR 1), some (zR 32), some (zI i)], [zI (i + 1), zR 0, zR 32, zI y], zw (sn, sf, 5, 5, 22) B1 S1 Z1 L1 R1 M, 44, 5724)) rfl trivial ?_
  refine zL_ld c rfl (by omega) ?_
  refine zL_go c 4 (s1 := (704, [some (zR 0), some (zR 1), some (zR 32), some (zI i)], [zI (i + 2), zR 0, zI (g (i + 1)), zR 32, zI y], zw (sn, sf, 5, 5, 22) B1 S1 Z1 L1 R1 M, 44, 5724)) rfl trivial ?_
  refine zL_ld c rfl (by omega) ?_
  refine zL_go c 4 (s1 := (709, [some (zR 0), some (zR 1), some (zR 32), some (zI i)], [zI (i + 3), zR 0, zI (g (i + 2)), zI (g (i + 1)), zR 32, zI y], zw (sn, sf, 5, 5, 22) B1 S1 Z1 L1 R1 M, 44, 5724)) rfl trivial ?_
  refine zL_ld c rfl (by omega) ?_
  refine zL_go c 4 (s1 := (714, [some (zR 0), some (zR 1), some (zR 32), some (zI i)], [zI (i + 4), zR 0, zI (g (i + 3)), zI (g (i + 2)), zI (g (i + 1)), zR 32, zI y], zw (sn, sf, 5, 5, 22) B1 S1 Z1 L1 R1 M, 44, 5724)) rfl trivial ?_
  refine zL_ld c rfl (by omega) ?_
  refine zL_cV c 0 k_9_69 zv_X6_lacking (pc := 718) (ls := [some (zR 0), some (zR 1), some (zR 32), some (zI i)]) (sk := [zI y]) (h := zw (sn, sf, 5, 5, 22) B1 S1 Z1 L1 R1 M) (cs := 44) (ss := 5724) hM2 rfl trivial rfl rfl ⟨Nat.le_refl _, Nat.le_refl _⟩ (fun v2 h2 hp2 => ?_)
  obtain ⟨rfl, B2, S2, Z2, L2, R2, M2, rfl, hC2⟩ := hk2 v2 h2 hp2
  show V (718, [some (zR 0), some (zR 1), some (zR 32), some (zI i)], [zI y, zI y], zw (sn, sf, 5, 5, 22) B2 S2 Z2 L2 R2 M2, 44, 5724)
  exact zL_eq c rfl (k B2 S2 Z2 L2 R2 M2 hC2)
set_option maxRecDepth 8000 in
theorem zlc_13 (l : Launch) (N : Nat) (g : Int → Int) (hg : ∀ i, -2147483648 ≤ g i ∧ g i ≤ 2147483647) (V : ZS → Prop) (c : zCloL l tbL_13 N g V) (sn : Nat) (sf : Int → Int) (B : ZBk) (S Z : ZSg) (L : ZLn) (R : ZRd) (M : ZMd) (hC : zCI B S Z L R M) (i : Int) (hi : 0 ≤ i ∧ i + 6 ≤ (N : Int)) (k : ∀ B2 S2 Z2 L2 R2 M2, zCI B2 S2 Z2 L2 R2 M2 → V (1266, [some (zR 0), some (zR 1), some (zR 32), some (zI i)], [], zw (sn, sf, 5, 5, 22) B2 S2 Z2 L2 R2 M2, 44, 5724)) : V (723, [some (zR 0), some (zR 1), some (zR 32), some (zI i)], [], zw (sn, sf, 5, 5, 22) B S Z L R M, 44, 5724) := by
  obtain ⟨Po1, hM1, hk1⟩ := zt_papers l (g (i + 1)) (g (i + 2)) (g (i + 3)) (hg _) (hg _) (hg _) sn sf B S Z L R M hC
  refine zL_go c 5 (s1 := (728, [some (zR 0), some (zR 1), some (zR 32), some (zI i)], [zI (i + 1), zR 0, zR 1], zw (sn, sf, 5, 5, 22) B S Z L R M, 44, 5724)) rfl trivial ?_
  refine zL_ld c rfl (by omega) ?_
  refine zL_go c 4 (s1 := (733, [some (zR 0), some (zR 1), some (zR 32), some (zI i)], [zI (i + 2), zR 0, zI (g (i + 1)), zR 1], zw (sn, sf, 5, 5, 22) B S Z L R M, 44, 5724)) rfl trivial ?_
  refine zL_ld c rfl (by omega) ?_
  refine zL_go c 4 (s1 := (738, [some (zR 0), some (zR 1), some (zR 32), some (zI i)], [zI (i + 3), zR 0, zI (g (i + 2)), zI (g (i + 1)), zR 1], zw (sn, sf, 5, 5, 22) B S Z L R M, 44, 5724)) rfl trivial ?_
  refine zL_ld c rfl (by omega) ?_
  refine zL_cV c 0 k_9_70 zv_X5_papers (pc := 742) (ls := [some (zR 0), some (zR 1), some (zR 32), some (zI i)]) (sk := []) (h := zw (sn, sf, 5, 5, 22) B S Z L R M) (cs := 44) (ss := 5724) hM1 rfl trivial rfl rfl ⟨Nat.le_refl _, Nat.le_refl _⟩ (fun v1 h1 hp1 => ?_)
  obtain ⟨y, Po2, rfl, ⟨B1, S1, Z1, L1, R1, rfl⟩, hM2, hk2⟩ := hk1 v1 h1 hp1
  show V (742, [some (zR 0), some (zR 1), some (zR 32), some (zI i)], [zI y], zw (sn, sf, 5, 5, 22) B1 S1 Z1 L1 R1 M, 44, 5724)
  refine zL_go c 5 (s1 := (747, [some (zR 0), some (zR 1), some (zR 32), some (zI i)], [zI (i + 1), zR 0, zR 32, zI y], zw (sn, sf, 5, 5, 22) B1 S1 Z1 L1 R1 M, 44, 5724)) rfl trivial ?_
  refine zL_ld c rfl (by omega) ?_
  refine zL_go c 4 (s1 := (752, [some (zR 0), some (zR 1), some (zR 32), some (zI i)], [zI (i + 2), zR 0, zI (g (i + 1)), zR 32, zI y], zw (sn, sf, 5, 5, 22) B1 S1 Z1 L1 R1 M, 44, 5724)) rfl trivial ?_
  refine zL_ld c rfl (by omega) ?_
  refine zL_go c 4 (s1 := (757, [some (zR 0), some (zR 1), some (zR 32), some (zI i)], [zI (i + 3), zR 0, zI (g (i + 2)), zI (g (i + 1)), zR 32, zI y], zw (sn, sf, 5, 5, 22) B1 S1 Z1 L1 R1 M, 44, 5724)) rfl trivial ?_
  refine zL_ld c rfl (by omega) ?_
  refine zL_cV c 0 k_9_73 zv_X6_papers (pc := 761) (ls := [some (zR 0), some (zR 1), some (zR 32), some (zI i)]) (sk := [zI y]) (h := zw (sn, sf, 5, 5, 22) B1 S1 Z1 L1 R1 M) (cs := 44) (ss := 5724) hM2 rfl trivial rfl rfl ⟨Nat.le_refl _, Nat.le_refl _⟩ (fun v2 h2 hp2 => ?_)
  obtain ⟨rfl, B2, S2, Z2, L2, R2, M2, rfl, hC2⟩ := hk2 v2 h2 hp2
  show V (761, [some (zR 0), some (zR 1), some (zR 32), some (zI i)], [zI y, zI y], zw (sn, sf, 5, 5, 22) B2 S2 Z2 L2 R2 M2, 44, 5724)
  exact zL_eq c rfl (k B2 S2 Z2 L2 R2 M2 hC2)
set_option maxRecDepth 8000 in
theorem zlc_14 (l : Launch) (N : Nat) (g : Int → Int) (hg : ∀ i, -2147483648 ≤ g i ∧ g i ≤ 2147483647) (V : ZS → Prop) (c : zCloL l tbL_14 N g V) (sn : Nat) (sf : Int → Int) (B : ZBk) (S Z : ZSg) (L : ZLn) (R : ZRd) (M : ZMd) (hC : zCI B S Z L R M) (i : Int) (hi : 0 ≤ i ∧ i + 6 ≤ (N : Int)) (k : ∀ B2 S2 Z2 L2 R2 M2, zCI B2 S2 Z2 L2 R2 M2 → V (1266, [some (zR 0), some (zR 1), some (zR 32), some (zI i)], [], zw (sn, sf, 5, 5, 22) B2 S2 Z2 L2 R2 M2, 44, 5724)) : V (766, [some (zR 0), some (zR 1), some (zR 32), some (zI i)], [], zw (sn, sf, 5, 5, 22) B S Z L R M, 44, 5724) := by
  obtain ⟨Po1, hM1, hk1⟩ := zt_force l (g (i + 1)) (g (i + 2)) (g (i + 3)) (g (i + 4)) (hg _) (hg _) (hg _) (hg _) sn sf B S Z L R M hC
  refine zL_go c 5 (s1 := (771, [some (zR 0), some (zR 1), some (zR 32), some (zI i)], [zI (i + 1), zR 0, zR 1], zw (sn, sf, 5, 5, 22) B S Z L R M, 44, 5724)) rfl trivial ?_
  refine zL_ld c rfl (by omega) ?_
  refine zL_go c 4 (s1 := (776, [some (zR 0), some (zR 1), some (zR 32), some (zI i)], [zI (i + 2), zR 0, zI (g (i + 1)), zR 1], zw (sn, sf, 5, 5, 22) B S Z L R M, 44, 5724)) rfl trivial ?_
  refine zL_ld c rfl (by omega) ?_
  refine zL_go c 4 (s1 := (781, [some (zR 0), some (zR 1), some (zR 32), some (zI i)], [zI (i + 3), zR 0, zI (g (i + 2)), zI (g (i + 1)), zR 1], zw (sn, sf, 5, 5, 22) B S Z L R M, 44, 5724)) rfl trivial ?_
  refine zL_ld c rfl (by omega) ?_
  refine zL_go c 4 (s1 := (786, [some (zR 0), some (zR 1), some (zR 32), some (zI i)], [zI (i + 4), zR 0, zI (g (i + 3)), zI (g (i + 2)), zI (g (i + 1)), zR 1], zw (sn, sf, 5, 5, 22) B S Z L R M, 44, 5724)) rfl trivial ?_
  refine zL_ld c rfl (by omega) ?_
  refine zL_cV c 0 k_9_74 zv_X5_force (pc := 790) (ls := [some (zR 0), some (zR 1), some (zR 32), some (zI i)]) (sk := []) (h := zw (sn, sf, 5, 5, 22) B S Z L R M) (cs := 44) (ss := 5724) hM1 rfl trivial rfl rfl ⟨Nat.le_refl _, Nat.le_refl _⟩ (fun v1 h1 hp1 => ?_)
  obtain ⟨y, Po2, rfl, ⟨B1, S1, Z1, L1, R1, rfl⟩, hM2, hk2⟩ := hk1 v1 h1 hp1
  show V (790, [some (zR 0), some (zR 1), some (zR 32), some (zI i)], [zI y], zw (sn, sf, 5, 5, 22) B1 S1 Z1 L1 R1 M, 44, 5724)
  refine zL_go c 5 (s1 := (795, [some (zR 0), some (zR 1), some (zR 32), some (zI i)], [zI (i + 1), zR 0, zR 32, zI y], zw (sn, sf, 5, 5, 22) B1 S1 Z1 L1 R1 M, 44, 5724)) rfl trivial ?_
  refine zL_ld c rfl (by omega) ?_
  refine zL_go c 4 (s1 := (800, [some (zR 0), some (zR 1), some (zR 32), some (zI i)], [zI (i + 2), zR 0, zI (g (i + 1)), zR 32, zI y], zw (sn, sf, 5, 5, 22) B1 S1 Z1 L1 R1 M, 44, 5724)) rfl trivial ?_
  refine zL_ld c rfl (by omega) ?_
  refine zL_go c 4 (s1 := (805, [some (zR 0), some (zR 1), some (zR 32), some (zI i)], [zI (i + 3), zR 0, zI (g (i + 2)), zI (g (i + 1)), zR 32, zI y], zw (sn, sf, 5, 5, 22) B1 S1 Z1 L1 R1 M, 44, 5724)) rfl trivial ?_
  refine zL_ld c rfl (by omega) ?_
  refine zL_go c 4 (s1 := (810, [some (zR 0), some (zR 1), some (zR 32), some (zI i)], [zI (i + 4), zR 0, zI (g (i + 3)), zI (g (i + 2)), zI (g (i + 1)), zR 32, zI y], zw (sn, sf, 5, 5, 22) B1 S1 Z1 L1 R1 M, 44, 5724)) rfl trivial ?_
  refine zL_ld c rfl (by omega) ?_
  refine zL_cV c 0 k_9_77 zv_X6_force (pc := 814) (ls := [some (zR 0), some (zR 1), some (zR 32), some (zI i)]) (sk := [zI y]) (h := zw (sn, sf, 5, 5, 22) B1 S1 Z1 L1 R1 M) (cs := 44) (ss := 5724) hM2 rfl trivial rfl rfl ⟨Nat.le_refl _, Nat.le_refl _⟩ (fun v2 h2 hp2 => ?_)
  obtain ⟨rfl, B2, S2, Z2, L2, R2, M2, rfl, hC2⟩ := hk2 v2 h2 hp2
  show V (814, [some (zR 0), some (zR 1), some (zR 32), some (zI i)], [zI y, zI y], zw (sn, sf, 5, 5, 22) B2 S2 Z2 L2 R2 M2, 44, 5724)
  exact zL_eq c rfl (k B2 S2 Z2 L2 R2 M2 hC2)
set_option maxRecDepth 8000 in
theorem zlc_15 (l : Launch) (N : Nat) (g : Int → Int) (hg : ∀ i, -2147483648 ≤ g i ∧ g i ≤ 2147483647) (V : ZS → Prop) (c : zCloL l tbL_15 N g V) (sn : Nat) (sf : Int → Int) (B : ZBk) (S Z : ZSg) (L : ZLn) (R : ZRd) (M : ZMd) (hC : zCI B S Z L R M) (i : Int) (hi : 0 ≤ i ∧ i + 6 ≤ (N : Int)) (k : ∀ B2 S2 Z2 L2 R2 M2, zCI B2 S2 Z2 L2 R2 M2 → V (1266, [some (zR 0), some (zR 1), some (zR 32), some (zI i)], [], zw (sn, sf, 5, 5, 22) B2 S2 Z2 L2 R2 M2, 44, 5724)) : V (819, [some (zR 0), some (zR 1), some (zR 32), some (zI i)], [], zw (sn, sf, 5, 5, 22) B S Z L R M, 44, 5724) := by
  obtain ⟨Po1, hM1, hk1⟩ := zt_most l (g (i + 1)) (g (i + 2)) (g (i + 3)) (hg _) (hg _) (hg _) sn sf B S Z L R M hC
  refine zL_go c 5 (s1 := (824, [some (zR 0), some (zR 1), some (zR 32), some (zI i)], [zI (i + 1), zR 0, zR 1], zw (sn, sf, 5, 5, 22) B S Z L R M, 44, 5724)) rfl trivial ?_
  refine zL_ld c rfl (by omega) ?_
  refine zL_go c 4 (s1 := (829, [some (zR 0), some (zR 1), some (zR 32), some (zI i)], [zI (i + 2), zR 0, zI (g (i + 1)), zR 1], zw (sn, sf, 5, 5, 22) B S Z L R M, 44, 5724)) rfl trivial ?_
  refine zL_ld c rfl (by omega) ?_
  refine zL_go c 4 (s1 := (834, [some (zR 0), some (zR 1), some (zR 32), some (zI i)], [zI (i + 3), zR 0, zI (g (i + 2)), zI (g (i + 1)), zR 1], zw (sn, sf, 5, 5, 22) B S Z L R M, 44, 5724)) rfl trivial ?_
  refine zL_ld c rfl (by omega) ?_
  refine zL_cV c 0 k_9_78 zv_X5_most (pc := 838) (ls := [some (zR 0), some (zR 1), some (zR 32), some (zI i)]) (sk := []) (h := zw (sn, sf, 5, 5, 22) B S Z L R M) (cs := 44) (ss := 5724) hM1 rfl trivial rfl rfl ⟨Nat.le_refl _, Nat.le_refl _⟩ (fun v1 h1 hp1 => ?_)
  obtain ⟨y, Po2, rfl, ⟨B1, S1, Z1, L1, R1, rfl⟩, hM2, hk2⟩ := hk1 v1 h1 hp1
  show V (838, [some (zR 0), some (zR 1), some (zR 32), some (zI i)], [zI y], zw (sn, sf, 5, 5, 22) B1 S1 Z1 L1 R1 M, 44, 5724)
  refine zL_go c 5 (s1 := (843, [some (zR 0), some (zR 1), some (zR 32), some (zI i)], [zI (i + 1), zR 0, zR 32, zI y], zw (sn, sf, 5, 5, 22) B1 S1 Z1 L1 R1 M, 44, 5724)) rfl trivial ?_
  refine zL_ld c rfl (by omega) ?_
  refine zL_go c 4 (s1 := (848, [some (zR 0), some (zR 1), some (zR 32), some (zI i)], [zI (i + 2), zR 0, zI (g (i + 1)), zR 32, zI y], zw (sn, sf, 5, 5, 22) B1 S1 Z1 L1 R1 M, 44, 5724)) rfl trivial ?_
  refine zL_ld c rfl (by omega) ?_
  refine zL_go c 4 (s1 := (853, [some (zR 0), some (zR 1), some (zR 32), some (zI i)], [zI (i + 3), zR 0, zI (g (i + 2)), zI (g (i + 1)), zR 32, zI y], zw (sn, sf, 5, 5, 22) B1 S1 Z1 L1 R1 M, 44, 5724)) rfl trivial ?_
  refine zL_ld c rfl (by omega) ?_
  refine zL_cV c 0 k_9_81 zv_X6_most (pc := 857) (ls := [some (zR 0), some (zR 1), some (zR 32), some (zI i)]) (sk := [zI y]) (h := zw (sn, sf, 5, 5, 22) B1 S1 Z1 L1 R1 M) (cs := 44) (ss := 5724) hM2 rfl trivial rfl rfl ⟨Nat.le_refl _, Nat.le_refl _⟩ (fun v2 h2 hp2 => ?_)
  obtain ⟨rfl, B2, S2, Z2, L2, R2, M2, rfl, hC2⟩ := hk2 v2 h2 hp2
  show V (857, [some (zR 0), some (zR 1), some (zR 32), some (zI i)], [zI y, zI y], zw (sn, sf, 5, 5, 22) B2 S2 Z2 L2 R2 M2, 44, 5724)
  exact zL_eq c rfl (k B2 S2 Z2 L2 R2 M2 hC2)
set_option maxRecDepth 8000 in
theorem zlc_16 (l : Launch) (N : Nat) (g : Int → Int) (hg : ∀ i, -2147483648 ≤ g i ∧ g i ≤ 2147483647) (V : ZS → Prop) (c : zCloL l tbL_16 N g V) (sn : Nat) (sf : Int → Int) (B : ZBk) (S Z : ZSg) (L : ZLn) (R : ZRd) (M : ZMd) (hC : zCI B S Z L R M) (i : Int) (hi : 0 ≤ i ∧ i + 6 ≤ (N : Int)) (k : ∀ B2 S2 Z2 L2 R2 M2, zCI B2 S2 Z2 L2 R2 M2 → V (1266, [some (zR 0), some (zR 1), some (zR 32), some (zI i)], [], zw (sn, sf, 5, 5, 22) B2 S2 Z2 L2 R2 M2, 44, 5724)) : V (862, [some (zR 0), some (zR 1), some (zR 32), some (zI i)], [], zw (sn, sf, 5, 5, 22) B S Z L R M, 44, 5724) := by
  obtain ⟨Po1, hM1, hk1⟩ := zt_since l (g (i + 1)) (g (i + 2)) (g (i + 3)) (hg _) (hg _) (hg _) sn sf B S Z L R M hC
  refine zL_go c 5 (s1 := (867, [some (zR 0), some (zR 1), some (zR 32), some (zI i)], [zI (i + 1), zR 0, zR 1], zw (sn, sf, 5, 5, 22) B S Z L R M, 44, 5724)) rfl trivial ?_
  refine zL_ld c rfl (by omega) ?_
  refine zL_go c 4 (s1 := (872, [some (zR 0), some (zR 1), some (zR 32), some (zI i)], [zI (i + 2), zR 0, zI (g (i + 1)), zR 1], zw (sn, sf, 5, 5, 22) B S Z L R M, 44, 5724)) rfl trivial ?_
  refine zL_ld c rfl (by omega) ?_
  refine zL_go c 4 (s1 := (877, [some (zR 0), some (zR 1), some (zR 32), some (zI i)], [zI (i + 3), zR 0, zI (g (i + 2)), zI (g (i + 1)), zR 1], zw (sn, sf, 5, 5, 22) B S Z L R M, 44, 5724)) rfl trivial ?_
  refine zL_ld c rfl (by omega) ?_
  refine zL_cV c 0 k_9_82 zv_X5_since (pc := 881) (ls := [some (zR 0), some (zR 1), some (zR 32), some (zI i)]) (sk := []) (h := zw (sn, sf, 5, 5, 22) B S Z L R M) (cs := 44) (ss := 5724) hM1 rfl trivial rfl rfl ⟨Nat.le_refl _, Nat.le_refl _⟩ (fun v1 h1 hp1 => ?_)
  obtain ⟨y, Po2, rfl, ⟨B1, S1, Z1, L1, R1, rfl⟩, hM2, hk2⟩ := hk1 v1 h1 hp1
  show V (881, [some (zR 0), some (zR 1), some (zR 32), some (zI i)], [zI y], zw (sn, sf, 5, 5, 22) B1 S1 Z1 L1 R1 M, 44, 5724)
  refine zL_go c 5 (s1 := (886, [some (zR 0), some (zR 1), some (zR 32), some (zI i)], [zI (i + 1), zR 0, zR 32, zI y], zw (sn, sf, 5, 5, 22) B1 S1 Z1 L1 R1 M, 44, 5724)) rfl trivial ?_
  refine zL_ld c rfl (by omega) ?_
  refine zL_go c 4 (s1 := (891, [some (zR 0), some (zR 1), some (zR 32), some (zI i)], [zI (i + 2), zR 0, zI (g (i + 1)), zR 32, zI y], zw (sn, sf, 5, 5, 22) B1 S1 Z1 L1 R1 M, 44, 5724)) rfl trivial ?_
  refine zL_ld c rfl (by omega) ?_
  refine zL_go c 4 (s1 := (896, [some (zR 0), some (zR 1), some (zR 32), some (zI i)], [zI (i + 3), zR 0, zI (g (i + 2)), zI (g (i + 1)), zR 32, zI y], zw (sn, sf, 5, 5, 22) B1 S1 Z1 L1 R1 M, 44, 5724)) rfl trivial ?_
  refine zL_ld c rfl (by omega) ?_
  refine zL_cV c 0 k_9_85 zv_X6_since (pc := 900) (ls := [some (zR 0), some (zR 1), some (zR 32), some (zI i)]) (sk := [zI y]) (h := zw (sn, sf, 5, 5, 22) B1 S1 Z1 L1 R1 M) (cs := 44) (ss := 5724) hM2 rfl trivial rfl rfl ⟨Nat.le_refl _, Nat.le_refl _⟩ (fun v2 h2 hp2 => ?_)
  obtain ⟨rfl, B2, S2, Z2, L2, R2, M2, rfl, hC2⟩ := hk2 v2 h2 hp2
  show V (900, [some (zR 0), some (zR 1), some (zR 32), some (zI i)], [zI y, zI y], zw (sn, sf, 5, 5, 22) B2 S2 Z2 L2 R2 M2, 44, 5724)
  exact zL_eq c rfl (k B2 S2 Z2 L2 R2 M2 hC2)
set_option maxRecDepth 8000 in
theorem zlc_17 (l : Launch) (N : Nat) (g : Int → Int) (hg : ∀ i, -2147483648 ≤ g i ∧ g i ≤ 2147483647) (V : ZS → Prop) (c : zCloL l tbL_17 N g V) (sn : Nat) (sf : Int → Int) (B : ZBk) (S Z : ZSg) (L : ZLn) (R : ZRd) (M : ZMd) (hC : zCI B S Z L R M) (i : Int) (hi : 0 ≤ i ∧ i + 6 ≤ (N : Int)) (k : ∀ B2 S2 Z2 L2 R2 M2, zCI B2 S2 Z2 L2 R2 M2 → V (1266, [some (zR 0), some (zR 1), some (zR 32), some (zI i)], [], zw (sn, sf, 5, 5, 22) B2 S2 Z2 L2 R2 M2, 44, 5724)) : V (905, [some (zR 0), some (zR 1), some (zR 32), some (zI i)], [], zw (sn, sf, 5, 5, 22) B S Z L R M, 44, 5724) := by
  obtain ⟨Po1, hM1, hk1⟩ := zt_good l (g (i + 1)) (g (i + 2)) (hg _) (hg _) sn sf B S Z L R M hC
  refine zL_go c 5 (s1 := (910, [some (zR 0), some (zR 1), some (zR 32), some (zI i)], [zI (i + 1), zR 0, zR 1], zw (sn, sf, 5, 5, 22) B S Z L R M, 44, 5724)) rfl trivial ?_
  refine zL_ld c rfl (by omega) ?_
  refine zL_go c 4 (s1 := (915, [some (zR 0), some (zR 1), some (zR 32), some (zI i)], [zI (i + 2), zR 0, zI (g (i + 1)), zR 1], zw (sn, sf, 5, 5, 22) B S Z L R M, 44, 5724)) rfl trivial ?_
  refine zL_ld c rfl (by omega) ?_
  refine zL_cV c 0 k_9_86 zv_X5_good (pc := 919) (ls := [some (zR 0), some (zR 1), some (zR 32), some (zI i)]) (sk := []) (h := zw (sn, sf, 5, 5, 22) B S Z L R M) (cs := 44) (ss := 5724) hM1 rfl trivial rfl rfl ⟨Nat.le_refl _, Nat.le_refl _⟩ (fun v1 h1 hp1 => ?_)
  obtain ⟨y, Po2, rfl, ⟨B1, S1, Z1, L1, R1, rfl⟩, hM2, hk2⟩ := hk1 v1 h1 hp1
  show V (919, [some (zR 0), some (zR 1), some (zR 32), some (zI i)], [zI y], zw (sn, sf, 5, 5, 22) B1 S1 Z1 L1 R1 M, 44, 5724)
  refine zL_go c 5 (s1 := (924, [some (zR 0), some (zR 1), some (zR 32), some (zI i)], [zI (i + 1), zR 0, zR 32, zI y], zw (sn, sf, 5, 5, 22) B1 S1 Z1 L1 R1 M, 44, 5724)) rfl trivial ?_
  refine zL_ld c rfl (by omega) ?_
  refine zL_go c 4 (s1 := (929, [some (zR 0), some (zR 1), some (zR 32), some (zI i)], [zI (i + 2), zR 0, zI (g (i + 1)), zR 32, zI y], zw (sn, sf, 5, 5, 22) B1 S1 Z1 L1 R1 M, 44, 5724)) rfl trivial ?_
  refine zL_ld c rfl (by omega) ?_
  refine zL_cV c 0 k_9_89 zv_X6_good (pc := 933) (ls := [some (zR 0), some (zR 1), some (zR 32), some (zI i)]) (sk := [zI y]) (h := zw (sn, sf, 5, 5, 22) B1 S1 Z1 L1 R1 M) (cs := 44) (ss := 5724) hM2 rfl trivial rfl rfl ⟨Nat.le_refl _, Nat.le_refl _⟩ (fun v2 h2 hp2 => ?_)
  obtain ⟨rfl, B2, S2, Z2, L2, R2, M2, rfl, hC2⟩ := hk2 v2 h2 hp2
  show V (933, [some (zR 0), some (zR 1), some (zR 32), some (zI i)], [zI y, zI y], zw (sn, sf, 5, 5, 22) B2 S2 Z2 L2 R2 M2, 44, 5724)
  exact zL_eq c rfl (k B2 S2 Z2 L2 R2 M2 hC2)
set_option maxRecDepth 8000 in
theorem zlc_18 (l : Launch) (N : Nat) (g : Int → Int) (hg : ∀ i, -2147483648 ≤ g i ∧ g i ≤ 2147483647) (V : ZS → Prop) (c : zCloL l tbL_18 N g V) (sn : Nat) (sf : Int → Int) (B : ZBk) (S Z : ZSg) (L : ZLn) (R : ZRd) (M : ZMd) (hC : zCI B S Z L R M) (i : Int) (hi : 0 ≤ i ∧ i + 6 ≤ (N : Int)) (k : ∀ B2 S2 Z2 L2 R2 M2, zCI B2 S2 Z2 L2 R2 M2 → V (1266, [some (zR 0), some (zR 1), some (zR 32), some (zI i)], [], zw (sn, sf, 5, 5, 22) B2 S2 Z2 L2 R2 M2, 44, 5724)) : V (938, [some (zR 0), some (zR 1), some (zR 32), some (zI i)], [], zw (sn, sf, 5, 5, 22) B S Z L R M, 44, 5724) := by
  obtain ⟨Po1, hM1, hk1⟩ := zt_leans l (g (i + 1)) (g (i + 2)) (g (i + 3)) (g (i + 4)) (g (i + 5)) (hg _) (hg _) (hg _) (hg _) (hg _) sn sf B S Z L R M hC
  refine zL_go c 5 (s1 := (943, [some (zR 0), some (zR 1), some (zR 32), some (zI i)], [zI (i + 1), zR 0, zR 1], zw (sn, sf, 5, 5, 22) B S Z L R M, 44, 5724)) rfl trivial ?_
  refine zL_ld c rfl (by omega) ?_
  refine zL_go c 4 (s1 := (948, [some (zR 0), some (zR 1), some (zR 32), some (zI i)], [zI (i + 2), zR 0, zI (g (i + 1)), zR 1], zw (sn, sf, 5, 5, 22) B S Z L R M, 44, 5724)) rfl trivial ?_
  refine zL_ld c rfl (by omega) ?_
  refine zL_go c 4 (s1 := (953, [some (zR 0), some (zR 1), some (zR 32), some (zI i)], [zI (i + 3), zR 0, zI (g (i + 2)), zI (g (i + 1)), zR 1], zw (sn, sf, 5, 5, 22) B S Z L R M, 44, 5724)) rfl trivial ?_
  refine zL_ld c rfl (by omega) ?_
  refine zL_go c 4 (s1 := (958, [some (zR 0), some (zR 1), some (zR 32), some (zI i)], [zI (i + 4), zR 0, zI (g (i + 3)), zI (g (i + 2)), zI (g (i + 1)), zR 1], zw (sn, sf, 5, 5, 22) B S Z L R M, 44, 5724)) rfl trivial ?_
  refine zL_ld c rfl (by omega) ?_
  refine zL_go c 4 (s1 := (963, [some (zR 0), some (zR 1), some (zR 32), some (zI i)], [zI (i + 5), zR 0, zI (g (i + 4)), zI (g (i + 3)), zI (g (i + 2)), zI (g (i + 1)), zR 1], zw (sn, sf, 5, 5, 22) B S Z L R M, 44, 5724)) rfl trivial ?_
  refine zL_ld c rfl (by omega) ?_
  refine zL_cV c 0 k_9_90 zv_X5_leans (pc := 967) (ls := [some (zR 0), some (zR 1), some (zR 32), some (zI i)]) (sk := []) (h := zw (sn, sf, 5, 5, 22) B S Z L R M) (cs := 44) (ss := 5724) hM1 rfl trivial rfl rfl ⟨Nat.le_refl _, Nat.le_refl _⟩ (fun v1 h1 hp1 => ?_)
  obtain ⟨y, Po2, rfl, ⟨B1, S1, Z1, L1, R1, rfl⟩, hM2, hk2⟩ := hk1 v1 h1 hp1
  show V (967, [some (zR 0), some (zR 1), some (zR 32), some (zI i)], [zI y], zw (sn, sf, 5, 5, 22) B1 S1 Z1 L1 R1 M, 44, 5724)
  refine zL_go c 5 (s1 := (972, [some (zR 0), some (zR 1), some (zR 32), some (zI i)], [zI (i + 1), zR 0, zR 32, zI y], zw (sn, sf, 5, 5, 22) B1 S1 Z1 L1 R1 M, 44, 5724)) rfl trivial ?_
  refine zL_ld c rfl (by omega) ?_
  refine zL_go c 4 (s1 := (977, [some (zR 0), some (zR 1), some (zR 32), some (zI i)], [zI (i + 2), zR 0, zI (g (i + 1)), zR 32, zI y], zw (sn, sf, 5, 5, 22) B1 S1 Z1 L1 R1 M, 44, 5724)) rfl trivial ?_
  refine zL_ld c rfl (by omega) ?_
  refine zL_go c 4 (s1 := (982, [some (zR 0), some (zR 1), some (zR 32), some (zI i)], [zI (i + 3), zR 0, zI (g (i + 2)), zI (g (i + 1)), zR 32, zI y], zw (sn, sf, 5, 5, 22) B1 S1 Z1 L1 R1 M, 44, 5724)) rfl trivial ?_
  refine zL_ld c rfl (by omega) ?_
  refine zL_go c 4 (s1 := (987, [some (zR 0), some (zR 1), some (zR 32), some (zI i)], [zI (i + 4), zR 0, zI (g (i + 3)), zI (g (i + 2)), zI (g (i + 1)), zR 32, zI y], zw (sn, sf, 5, 5, 22) B1 S1 Z1 L1 R1 M, 44, 5724)) rfl trivial ?_
  refine zL_ld c rfl (by omega) ?_
  refine zL_go c 4 (s1 := (992, [some (zR 0), some (zR 1), some (zR 32), some (zI i)], [zI (i + 5), zR 0, zI (g (i + 4)), zI (g (i + 3)), zI (g (i + 2)), zI (g (i + 1)), zR 32, zI y], zw (sn, sf, 5, 5, 22) B1 S1 Z1 L1 R1 M, 44, 5724)) rfl trivial ?_
  refine zL_ld c rfl (by omega) ?_
  refine zL_cV c 0 k_9_93 zv_X6_leans (pc := 996) (ls := [some (zR 0), some (zR 1), some (zR 32), some (zI i)]) (sk := [zI y]) (h := zw (sn, sf, 5, 5, 22) B1 S1 Z1 L1 R1 M) (cs := 44) (ss := 5724) hM2 rfl trivial rfl rfl ⟨Nat.le_refl _, Nat.le_refl _⟩ (fun v2 h2 hp2 => ?_)
  obtain ⟨rfl, B2, S2, Z2, L2, R2, M2, rfl, hC2⟩ := hk2 v2 h2 hp2
  show V (996, [some (zR 0), some (zR 1), some (zR 32), some (zI i)], [zI y, zI y], zw (sn, sf, 5, 5, 22) B2 S2 Z2 L2 R2 M2, 44, 5724)
  exact zL_eq c rfl (k B2 S2 Z2 L2 R2 M2 hC2)
set_option maxRecDepth 8000 in
theorem zlc_19 (l : Launch) (N : Nat) (g : Int → Int) (hg : ∀ i, -2147483648 ≤ g i ∧ g i ≤ 2147483647) (V : ZS → Prop) (c : zCloL l tbL_19 N g V) (sn : Nat) (sf : Int → Int) (B : ZBk) (S Z : ZSg) (L : ZLn) (R : ZRd) (M : ZMd) (hC : zCI B S Z L R M) (i : Int) (hi : 0 ≤ i ∧ i + 6 ≤ (N : Int)) (k : ∀ B2 S2 Z2 L2 R2 M2, zCI B2 S2 Z2 L2 R2 M2 → V (1266, [some (zR 0), some (zR 1), some (zR 32), some (zI i)], [], zw (sn, sf, 5, 5, 22) B2 S2 Z2 L2 R2 M2, 44, 5724)) : V (1001, [some (zR 0), some (zR 1), some (zR 32), some (zI i)], [], zw (sn, sf, 5, 5, 22) B S Z L R M, 44, 5724) := by
  obtain ⟨Po1, hM1, hk1⟩ := zt_lean l (g (i + 1)) (g (i + 2)) (g (i + 3)) (g (i + 4)) (g (i + 5)) (hg _) (hg _) (hg _) (hg _) (hg _) sn sf B S Z L R M hC
  refine zL_go c 5 (s1 := (1006, [some (zR 0), some (zR 1), some (zR 32), some (zI i)], [zI (i + 1), zR 0, zR 1], zw (sn, sf, 5, 5, 22) B S Z L R M, 44, 5724)) rfl trivial ?_
  refine zL_ld c rfl (by omega) ?_
  refine zL_go c 4 (s1 := (1011, [some (zR 0), some (zR 1), some (zR 32), some (zI i)], [zI (i + 2), zR 0, zI (g (i + 1)), zR 1], zw (sn, sf, 5, 5, 22) B S Z L R M, 44, 5724)) rfl trivial ?_
  refine zL_ld c rfl (by omega) ?_
  refine zL_go c 4 (s1 := (1016, [some (zR 0), some (zR 1), some (zR 32), some (zI i)], [zI (i + 3), zR 0, zI (g (i + 2)), zI (g (i + 1)), zR 1], zw (sn, sf, 5, 5, 22) B S Z L R M, 44, 5724)) rfl trivial ?_
  refine zL_ld c rfl (by omega) ?_
  refine zL_go c 4 (s1 := (1021, [some (zR 0), some (zR 1), some (zR 32), some (zI i)], [zI (i + 4), zR 0, zI (g (i + 3)), zI (g (i + 2)), zI (g (i + 1)), zR 1], zw (sn, sf, 5, 5, 22) B S Z L R M, 44, 5724)) rfl trivial ?_
  refine zL_ld c rfl (by omega) ?_
  refine zL_go c 4 (s1 := (1026, [some (zR 0), some (zR 1), some (zR 32), some (zI i)], [zI (i + 5), zR 0, zI (g (i + 4)), zI (g (i + 3)), zI (g (i + 2)), zI (g (i + 1)), zR 1], zw (sn, sf, 5, 5, 22) B S Z L R M, 44, 5724)) rfl trivial ?_
  refine zL_ld c rfl (by omega) ?_
  refine zL_cV c 0 k_9_94 zv_X5_lean (pc := 1030) (ls := [some (zR 0), some (zR 1), some (zR 32), some (zI i)]) (sk := []) (h := zw (sn, sf, 5, 5, 22) B S Z L R M) (cs := 44) (ss := 5724) hM1 rfl trivial rfl rfl ⟨Nat.le_refl _, Nat.le_refl _⟩ (fun v1 h1 hp1 => ?_)
  obtain ⟨y, Po2, rfl, ⟨B1, S1, Z1, L1, R1, rfl⟩, hM2, hk2⟩ := hk1 v1 h1 hp1
  show V (1030, [some (zR 0), some (zR 1), some (zR 32), some (zI i)], [zI y], zw (sn, sf, 5, 5, 22) B1 S1 Z1 L1 R1 M, 44, 5724)
  refine zL_go c 5 (s1 := (1035, [some (zR 0), some (zR 1), some (zR 32), some (zI i)], [zI (i + 1), zR 0, zR 32, zI y], zw (sn, sf, 5, 5, 22) B1 S1 Z1 L1 R1 M, 44, 5724)) rfl trivial ?_
  refine zL_ld c rfl (by omega) ?_
  refine zL_go c 4 (s1 := (1040, [some (zR 0), some (zR 1), some (zR 32), some (zI i)], [zI (i + 2), zR 0, zI (g (i + 1)), zR 32, zI y], zw (sn, sf, 5, 5, 22) B1 S1 Z1 L1 R1 M, 44, 5724)) rfl trivial ?_
  refine zL_ld c rfl (by omega) ?_
  refine zL_go c 4 (s1 := (1045, [some (zR 0), some (zR 1), some (zR 32), some (zI i)], [zI (i + 3), zR 0, zI (g (i + 2)), zI (g (i + 1)), zR 32, zI y], zw (sn, sf, 5, 5, 22) B1 S1 Z1 L1 R1 M, 44, 5724)) rfl trivial ?_
  refine zL_ld c rfl (by omega) ?_
  refine zL_go c 4 (s1 := (1050, [some (zR 0), some (zR 1), some (zR 32), some (zI i)], [zI (i + 4), zR 0, zI (g (i + 3)), zI (g (i + 2)), zI (g (i + 1)), zR 32, zI y], zw (sn, sf, 5, 5, 22) B1 S1 Z1 L1 R1 M, 44, 5724)) rfl trivial ?_
  refine zL_ld c rfl (by omega) ?_
  refine zL_go c 4 (s1 := (1055, [some (zR 0), some (zR 1), some (zR 32), some (zI i)], [zI (i + 5), zR 0, zI (g (i + 4)), zI (g (i + 3)), zI (g (i + 2)), zI (g (i + 1)), zR 32, zI y], zw (sn, sf, 5, 5, 22) B1 S1 Z1 L1 R1 M, 44, 5724)) rfl trivial ?_
  refine zL_ld c rfl (by omega) ?_
  refine zL_cV c 0 k_9_97 zv_X6_lean (pc := 1059) (ls := [some (zR 0), some (zR 1), some (zR 32), some (zI i)]) (sk := [zI y]) (h := zw (sn, sf, 5, 5, 22) B1 S1 Z1 L1 R1 M) (cs := 44) (ss := 5724) hM2 rfl trivial rfl rfl ⟨Nat.le_refl _, Nat.le_refl _⟩ (fun v2 h2 hp2 => ?_)
  obtain ⟨rfl, B2, S2, Z2, L2, R2, M2, rfl, hC2⟩ := hk2 v2 h2 hp2
  show V (1059, [some (zR 0), some (zR 1), some (zR 32), some (zI i)], [zI y, zI y], zw (sn, sf, 5, 5, 22) B2 S2 Z2 L2 R2 M2, 44, 5724)
  exact zL_eq c rfl (k B2 S2 Z2 L2 R2 M2 hC2)
set_option maxRecDepth 8000 in
theorem zlc_20 (l : Launch) (N : Nat) (g : Int → Int) (hg : ∀ i, -2147483648 ≤ g i ∧ g i ≤ 2147483647) (V : ZS → Prop) (c : zCloL l tbL_20 N g V) (sn : Nat) (sf : Int → Int) (B : ZBk) (S Z : ZSg) (L : ZLn) (R : ZRd) (M : ZMd) (hC : zCI B S Z L R M) (i : Int) (hi : 0 ≤ i ∧ i + 6 ≤ (N : Int)) (k : ∀ B2 S2 Z2 L2 R2 M2, zCI B2 S2 Z2 L2 R2 M2 → V (1266, [some (zR 0), some (zR 1), some (zR 32), some (zI i)], [], zw (sn, sf, 5, 5, 22) B2 S2 Z2 L2 R2 M2, 44, 5724)) : V (1064, [some (zR 0), some (zR 1), some (zR 32), some (zI i)], [], zw (sn, sf, 5, 5, 22) B S Z L R M, 44, 5724) := by
  obtain ⟨Po1, hM1, hk1⟩ := zt_steps l (g (i + 1)) (g (i + 2)) (g (i + 3)) (g (i + 4)) (g (i + 5)) (hg _) (hg _) (hg _) (hg _) (hg _) sn sf B S Z L R M hC
  refine zL_go c 5 (s1 := (1069, [some (zR 0), some (zR 1), some (zR 32), some (zI i)], [zI (i + 1), zR 0, zR 1], zw (sn, sf, 5, 5, 22) B S Z L R M, 44, 5724)) rfl trivial ?_
  refine zL_ld c rfl (by omega) ?_
  refine zL_go c 4 (s1 := (1074, [some (zR 0), some (zR 1), some (zR 32), some (zI i)], [zI (i + 2), zR 0, zI (g (i + 1)), zR 1], zw (sn, sf, 5, 5, 22) B S Z L R M, 44, 5724)) rfl trivial ?_
  refine zL_ld c rfl (by omega) ?_
  refine zL_go c 4 (s1 := (1079, [some (zR 0), some (zR 1), some (zR 32), some (zI i)], [zI (i + 3), zR 0, zI (g (i + 2)), zI (g (i + 1)), zR 1], zw (sn, sf, 5, 5, 22) B S Z L R M, 44, 5724)) rfl trivial ?_
  refine zL_ld c rfl (by omega) ?_
  refine zL_go c 4 (s1 := (1084, [some (zR 0), some (zR 1), some (zR 32), some (zI i)], [zI (i + 4), zR 0, zI (g (i + 3)), zI (g (i + 2)), zI (g (i + 1)), zR 1], zw (sn, sf, 5, 5, 22) B S Z L R M, 44, 5724)) rfl trivial ?_
  refine zL_ld c rfl (by omega) ?_
  refine zL_go c 4 (s1 := (1089, [some (zR 0), some (zR 1), some (zR 32), some (zI i)], [zI (i + 5), zR 0, zI (g (i + 4)), zI (g (i + 3)), zI (g (i + 2)), zI (g (i + 1)), zR 1], zw (sn, sf, 5, 5, 22) B S Z L R M, 44, 5724)) rfl trivial ?_
  refine zL_ld c rfl (by omega) ?_
  refine zL_cV c 0 k_9_98 zv_X5_steps (pc := 1093) (ls := [some (zR 0), some (zR 1), some (zR 32), some (zI i)]) (sk := []) (h := zw (sn, sf, 5, 5, 22) B S Z L R M) (cs := 44) (ss := 5724) hM1 rfl trivial rfl rfl ⟨Nat.le_refl _, Nat.le_refl _⟩ (fun v1 h1 hp1 => ?_)
  obtain ⟨y, Po2, rfl, ⟨B1, S1, Z1, L1, R1, rfl⟩, hM2, hk2⟩ := hk1 v1 h1 hp1
  show V (1093, [some (zR 0), some (zR 1), some (zR 32), some (zI i)], [zI y], zw (sn, sf, 5, 5, 22) B1 S1 Z1 L1 R1 M, 44, 5724)
  refine zL_go c 5 (s1 := (1098, [some (zR 0), some (zR 1), some (zR 32), some (zI i)], [zI (i + 1), zR 0, zR 32, zI y], zw (sn, sf, 5, 5, 22) B1 S1 Z1 L1 R1 M, 44, 5724)) rfl trivial ?_
  refine zL_ld c rfl (by omega) ?_
  refine zL_go c 4 (s1 := (1103, [some (zR 0), some (zR 1), some (zR 32), some (zI i)], [zI (i + 2), zR 0, zI (g (i + 1)), zR 32, zI y], zw (sn, sf, 5, 5, 22) B1 S1 Z1 L1 R1 M, 44, 5724)) rfl trivial ?_
  refine zL_ld c rfl (by omega) ?_
  refine zL_go c 4 (s1 := (1108, [some (zR 0), some (zR 1), some (zR 32), some (zI i)], [zI (i + 3), zR 0, zI (g (i + 2)), zI (g (i + 1)), zR 32, zI y], zw (sn, sf, 5, 5, 22) B1 S1 Z1 L1 R1 M, 44, 5724)) rfl trivial ?_
  refine zL_ld c rfl (by omega) ?_
  refine zL_go c 4 (s1 := (1113, [some (zR 0), some (zR 1), some (zR 32), some (zI i)], [zI (i + 4), zR 0, zI (g (i + 3)), zI (g (i + 2)), zI (g (i + 1)), zR 32, zI y], zw (sn, sf, 5, 5, 22) B1 S1 Z1 L1 R1 M, 44, 5724)) rfl trivial ?_
  refine zL_ld c rfl (by omega) ?_
  refine zL_go c 4 (s1 := (1118, [some (zR 0), some (zR 1), some (zR 32), some (zI i)], [zI (i + 5), zR 0, zI (g (i + 4)), zI (g (i + 3)), zI (g (i + 2)), zI (g (i + 1)), zR 32, zI y], zw (sn, sf, 5, 5, 22) B1 S1 Z1 L1 R1 M, 44, 5724)) rfl trivial ?_
  refine zL_ld c rfl (by omega) ?_
  refine zL_cV c 0 k_9_101 zv_X6_steps (pc := 1122) (ls := [some (zR 0), some (zR 1), some (zR 32), some (zI i)]) (sk := [zI y]) (h := zw (sn, sf, 5, 5, 22) B1 S1 Z1 L1 R1 M) (cs := 44) (ss := 5724) hM2 rfl trivial rfl rfl ⟨Nat.le_refl _, Nat.le_refl _⟩ (fun v2 h2 hp2 => ?_)
  obtain ⟨rfl, B2, S2, Z2, L2, R2, M2, rfl, hC2⟩ := hk2 v2 h2 hp2
  show V (1122, [some (zR 0), some (zR 1), some (zR 32), some (zI i)], [zI y, zI y], zw (sn, sf, 5, 5, 22) B2 S2 Z2 L2 R2 M2, 44, 5724)
  exact zL_eq c rfl (k B2 S2 Z2 L2 R2 M2 hC2)
set_option maxRecDepth 8000 in
theorem zlc_21 (l : Launch) (N : Nat) (g : Int → Int) (hg : ∀ i, -2147483648 ≤ g i ∧ g i ≤ 2147483647) (V : ZS → Prop) (c : zCloL l tbL_21 N g V) (sn : Nat) (sf : Int → Int) (B : ZBk) (S Z : ZSg) (L : ZLn) (R : ZRd) (M : ZMd) (hC : zCI B S Z L R M) (i : Int) (hi : 0 ≤ i ∧ i + 6 ≤ (N : Int)) (k : ∀ B2 S2 Z2 L2 R2 M2, zCI B2 S2 Z2 L2 R2 M2 → V (1266, [some (zR 0), some (zR 1), some (zR 32), some (zI i)], [], zw (sn, sf, 5, 5, 22) B2 S2 Z2 L2 R2 M2, 44, 5724)) : V (1127, [some (zR 0), some (zR 1), some (zR 32), some (zI i)], [], zw (sn, sf, 5, 5, 22) B S Z L R M, 44, 5724) := by
  obtain ⟨Po1, hM1, hk1⟩ := zt_first l (g (i + 1)) (g (i + 2)) (g (i + 3)) (g (i + 4)) (g (i + 5)) (hg _) (hg _) (hg _) (hg _) (hg _) sn sf B S Z L R M hC
  refine zL_go c 5 (s1 := (1132, [some (zR 0), some (zR 1), some (zR 32), some (zI i)], [zI (i + 1), zR 0, zR 1], zw (sn, sf, 5, 5, 22) B S Z L R M, 44, 5724)) rfl trivial ?_
  refine zL_ld c rfl (by omega) ?_
  refine zL_go c 4 (s1 := (1137, [some (zR 0), some (zR 1), some (zR 32), some (zI i)], [zI (i + 2), zR 0, zI (g (i + 1)), zR 1], zw (sn, sf, 5, 5, 22) B S Z L R M, 44, 5724)) rfl trivial ?_
  refine zL_ld c rfl (by omega) ?_
  refine zL_go c 4 (s1 := (1142, [some (zR 0), some (zR 1), some (zR 32), some (zI i)], [zI (i + 3), zR 0, zI (g (i + 2)), zI (g (i + 1)), zR 1], zw (sn, sf, 5, 5, 22) B S Z L R M, 44, 5724)) rfl trivial ?_
  refine zL_ld c rfl (by omega) ?_
  refine zL_go c 4 (s1 := (1147, [some (zR 0), some (zR 1), some (zR 32), some (zI i)], [zI (i + 4), zR 0, zI (g (i + 3)), zI (g (i + 2)), zI (g (i + 1)), zR 1], zw (sn, sf, 5, 5, 22) B S Z L R M, 44, 5724)) rfl trivial ?_
  refine zL_ld c rfl (by omega) ?_
  refine zL_go c 4 (s1 := (1152, [some (zR 0), some (zR 1), some (zR 32), some (zI i)], [zI (i + 5), zR 0, zI (g (i + 4)), zI (g (i + 3)), zI (g (i + 2)), zI (g (i + 1)), zR 1], zw (sn, sf, 5, 5, 22) B S Z L R M, 44, 5724)) rfl trivial ?_
  refine zL_ld c rfl (by omega) ?_
  refine zL_cV c 0 k_9_102 zv_X5_first (pc := 1156) (ls := [some (zR 0), some (zR 1), some (zR 32), some (zI i)]) (sk := []) (h := zw (sn, sf, 5, 5, 22) B S Z L R M) (cs := 44) (ss := 5724) hM1 rfl trivial rfl rfl ⟨Nat.le_refl _, Nat.le_refl _⟩ (fun v1 h1 hp1 => ?_)
  obtain ⟨y, Po2, rfl, ⟨B1, S1, Z1, L1, R1, rfl⟩, hM2, hk2⟩ := hk1 v1 h1 hp1
  show V (1156, [some (zR 0), some (zR 1), some (zR 32), some (zI i)], [zI y], zw (sn, sf, 5, 5, 22) B1 S1 Z1 L1 R1 M, 44, 5724)
  refine zL_go c 5 (s1 := (1161, [some (zR 0), some (zR 1), some (zR 32), some (zI i)], [zI (i + 1), zR 0, zR 32, zI y], zw (sn, sf, 5, 5, 22) B1 S1 Z1 L1 R1 M, 44, 5724)) rfl trivial ?_
  refine zL_ld c rfl (by omega) ?_
  refine zL_go c 4 (s1 := (1166, [some (zR 0), some (zR 1), some (zR 32), some (zI i)], [zI (i + 2), zR 0, zI (g (i + 1)), zR 32, zI y], zw (sn, sf, 5, 5, 22) B1 S1 Z1 L1 R1 M, 44, 5724)) rfl trivial ?_
  refine zL_ld c rfl (by omega) ?_
  refine zL_go c 4 (s1 := (1171, [some (zR 0), some (zR 1), some (zR 32), some (zI i)], [zI (i + 3), zR 0, zI (g (i + 2)), zI (g (i + 1)), zR 32, zI y], zw (sn, sf, 5, 5, 22) B1 S1 Z1 L1 R1 M, 44, 5724)) rfl trivial ?_
  refine zL_ld c rfl (by omega) ?_
  refine zL_go c 4 (s1 := (1176, [some (zR 0), some (zR 1), some (zR 32), some (zI i)], [zI (i + 4), zR 0, zI (g (i + 3)), zI (g (i + 2)), zI (g (i + 1)), zR 32, zI y], zw (sn, sf, 5, 5, 22) B1 S1 Z1 L1 R1 M, 44, 5724)) rfl trivial ?_
  refine zL_ld c rfl (by omega) ?_
  refine zL_go c 4 (s1 := (1181, [some (zR 0), some (zR 1), some (zR 32), some (zI i)], [zI (i + 5), zR 0, zI (g (i + 4)), zI (g (i + 3)), zI (g (i + 2)), zI (g (i + 1)), zR 32, zI y], zw (sn, sf, 5, 5, 22) B1 S1 Z1 L1 R1 M, 44, 5724)) rfl trivial ?_
  refine zL_ld c rfl (by omega) ?_
  refine zL_cV c 0 k_9_105 zv_X6_first (pc := 1185) (ls := [some (zR 0), some (zR 1), some (zR 32), some (zI i)]) (sk := [zI y]) (h := zw (sn, sf, 5, 5, 22) B1 S1 Z1 L1 R1 M) (cs := 44) (ss := 5724) hM2 rfl trivial rfl rfl ⟨Nat.le_refl _, Nat.le_refl _⟩ (fun v2 h2 hp2 => ?_)
  obtain ⟨rfl, B2, S2, Z2, L2, R2, M2, rfl, hC2⟩ := hk2 v2 h2 hp2
  show V (1185, [some (zR 0), some (zR 1), some (zR 32), some (zI i)], [zI y, zI y], zw (sn, sf, 5, 5, 22) B2 S2 Z2 L2 R2 M2, 44, 5724)
  exact zL_eq c rfl (k B2 S2 Z2 L2 R2 M2 hC2)
set_option maxRecDepth 8000 in
theorem zlc_22 (l : Launch) (N : Nat) (g : Int → Int) (hg : ∀ i, -2147483648 ≤ g i ∧ g i ≤ 2147483647) (V : ZS → Prop) (c : zCloL l tbL_22 N g V) (sn : Nat) (sf : Int → Int) (B : ZBk) (S Z : ZSg) (L : ZLn) (R : ZRd) (M : ZMd) (hC : zCI B S Z L R M) (i : Int) (hi : 0 ≤ i ∧ i + 6 ≤ (N : Int)) (k : ∀ B2 S2 Z2 L2 R2 M2, zCI B2 S2 Z2 L2 R2 M2 → V (1266, [some (zR 0), some (zR 1), some (zR 32), some (zI i)], [], zw (sn, sf, 5, 5, 22) B2 S2 Z2 L2 R2 M2, 44, 5724)) : V (1190, [some (zR 0), some (zR 1), some (zR 32), some (zI i)], [], zw (sn, sf, 5, 5, 22) B S Z L R M, 44, 5724) := by
  obtain ⟨Po1, hM1, hk1⟩ := zt_reach l (g (i + 1)) (g (i + 2)) (g (i + 3)) (g (i + 4)) (hg _) (hg _) (hg _) (hg _) sn sf B S Z L R M hC
  refine zL_go c 5 (s1 := (1195, [some (zR 0), some (zR 1), some (zR 32), some (zI i)], [zI (i + 1), zR 0, zR 1], zw (sn, sf, 5, 5, 22) B S Z L R M, 44, 5724)) rfl trivial ?_
  refine zL_ld c rfl (by omega) ?_
  refine zL_go c 4 (s1 := (1200, [some (zR 0), some (zR 1), some (zR 32), some (zI i)], [zI (i + 2), zR 0, zI (g (i + 1)), zR 1], zw (sn, sf, 5, 5, 22) B S Z L R M, 44, 5724)) rfl trivial ?_
  refine zL_ld c rfl (by omega) ?_
  refine zL_go c 4 (s1 := (1205, [some (zR 0), some (zR 1), some (zR 32), some (zI i)], [zI (i + 3), zR 0, zI (g (i + 2)), zI (g (i + 1)), zR 1], zw (sn, sf, 5, 5, 22) B S Z L R M, 44, 5724)) rfl trivial ?_
  refine zL_ld c rfl (by omega) ?_
  refine zL_go c 4 (s1 := (1210, [some (zR 0), some (zR 1), some (zR 32), some (zI i)], [zI (i + 4), zR 0, zI (g (i + 3)), zI (g (i + 2)), zI (g (i + 1)), zR 1], zw (sn, sf, 5, 5, 22) B S Z L R M, 44, 5724)) rfl trivial ?_
  refine zL_ld c rfl (by omega) ?_
  refine zL_cV c 0 k_9_106 zv_X5_reach (pc := 1214) (ls := [some (zR 0), some (zR 1), some (zR 32), some (zI i)]) (sk := []) (h := zw (sn, sf, 5, 5, 22) B S Z L R M) (cs := 44) (ss := 5724) hM1 rfl trivial rfl rfl ⟨Nat.le_refl _, Nat.le_refl _⟩ (fun v1 h1 hp1 => ?_)
  obtain ⟨y, Po2, rfl, ⟨B1, S1, Z1, L1, R1, rfl⟩, hM2, hk2⟩ := hk1 v1 h1 hp1
  show V (1214, [some (zR 0), some (zR 1), some (zR 32), some (zI i)], [zI y], zw (sn, sf, 5, 5, 22) B1 S1 Z1 L1 R1 M, 44, 5724)
  refine zL_go c 5 (s1 := (1219, [some (zR 0), some (zR 1), some (zR 32), some (zI i)], [zI (i + 1), zR 0, zR 32, zI y], zw (sn, sf, 5, 5, 22) B1 S1 Z1 L1 R1 M, 44, 5724)) rfl trivial ?_
  refine zL_ld c rfl (by omega) ?_
  refine zL_go c 4 (s1 := (1224, [some (zR 0), some (zR 1), some (zR 32), some (zI i)], [zI (i + 2), zR 0, zI (g (i + 1)), zR 32, zI y], zw (sn, sf, 5, 5, 22) B1 S1 Z1 L1 R1 M, 44, 5724)) rfl trivial ?_
  refine zL_ld c rfl (by omega) ?_
  refine zL_go c 4 (s1 := (1229, [some (zR 0), some (zR 1), some (zR 32), some (zI i)], [zI (i + 3), zR 0, zI (g (i + 2)), zI (g (i + 1)), zR 32, zI y], zw (sn, sf, 5, 5, 22) B1 S1 Z1 L1 R1 M, 44, 5724)) rfl trivial ?_
  refine zL_ld c rfl (by omega) ?_
  refine zL_go c 4 (s1 := (1234, [some (zR 0), some (zR 1), some (zR 32), some (zI i)], [zI (i + 4), zR 0, zI (g (i + 3)), zI (g (i + 2)), zI (g (i + 1)), zR 32, zI y], zw (sn, sf, 5, 5, 22) B1 S1 Z1 L1 R1 M, 44, 5724)) rfl trivial ?_
  refine zL_ld c rfl (by omega) ?_
  refine zL_cV c 0 k_9_109 zv_X6_reach (pc := 1238) (ls := [some (zR 0), some (zR 1), some (zR 32), some (zI i)]) (sk := [zI y]) (h := zw (sn, sf, 5, 5, 22) B1 S1 Z1 L1 R1 M) (cs := 44) (ss := 5724) hM2 rfl trivial rfl rfl ⟨Nat.le_refl _, Nat.le_refl _⟩ (fun v2 h2 hp2 => ?_)
  obtain ⟨rfl, B2, S2, Z2, L2, R2, M2, rfl, hC2⟩ := hk2 v2 h2 hp2
  show V (1238, [some (zR 0), some (zR 1), some (zR 32), some (zI i)], [zI y, zI y], zw (sn, sf, 5, 5, 22) B2 S2 Z2 L2 R2 M2, 44, 5724)
  exact zL_eq c rfl (k B2 S2 Z2 L2 R2 M2 hC2)
set_option maxRecDepth 8000 in
theorem zlc_23 (l : Launch) (N : Nat) (g : Int → Int) (hg : ∀ i, -2147483648 ≤ g i ∧ g i ≤ 2147483647) (V : ZS → Prop) (c : zCloL l tbL_23 N g V) (sn : Nat) (sf : Int → Int) (B : ZBk) (S Z : ZSg) (L : ZLn) (R : ZRd) (M : ZMd) (hC : zCI B S Z L R M) (i : Int) (hi : 0 ≤ i ∧ i + 6 ≤ (N : Int)) (k : ∀ B2 S2 Z2 L2 R2 M2, zCI B2 S2 Z2 L2 R2 M2 → V (1266, [some (zR 0), some (zR 1), some (zR 32), some (zI i)], [], zw (sn, sf, 5, 5, 22) B2 S2 Z2 L2 R2 M2, 44, 5724)) : V (1243, [some (zR 0), some (zR 1), some (zR 32), some (zI i)], [], zw (sn, sf, 5, 5, 22) B S Z L R M, 44, 5724) := by
  obtain ⟨Po1, hM1, hk1⟩ := zt_total l (g (i + 1)) (hg _) sn sf B S Z L R M hC
  refine zL_go c 5 (s1 := (1248, [some (zR 0), some (zR 1), some (zR 32), some (zI i)], [zI (i + 1), zR 0, zR 1], zw (sn, sf, 5, 5, 22) B S Z L R M, 44, 5724)) rfl trivial ?_
  refine zL_ld c rfl (by omega) ?_
  refine zL_cV c 0 k_9_110 zv_X5_total (pc := 1252) (ls := [some (zR 0), some (zR 1), some (zR 32), some (zI i)]) (sk := []) (h := zw (sn, sf, 5, 5, 22) B S Z L R M) (cs := 44) (ss := 5724) hM1 rfl trivial rfl rfl ⟨Nat.le_refl _, Nat.le_refl _⟩ (fun v1 h1 hp1 => ?_)
  obtain ⟨y, Po2, rfl, ⟨B1, S1, Z1, L1, R1, rfl⟩, hM2, hk2⟩ := hk1 v1 h1 hp1
  show V (1252, [some (zR 0), some (zR 1), some (zR 32), some (zI i)], [zI y], zw (sn, sf, 5, 5, 22) B1 S1 Z1 L1 R1 M, 44, 5724)
  refine zL_go c 5 (s1 := (1257, [some (zR 0), some (zR 1), some (zR 32), some (zI i)], [zI (i + 1), zR 0, zR 32, zI y], zw (sn, sf, 5, 5, 22) B1 S1 Z1 L1 R1 M, 44, 5724)) rfl trivial ?_
  refine zL_ld c rfl (by omega) ?_
  refine zL_cV c 0 k_9_113 zv_X6_total (pc := 1261) (ls := [some (zR 0), some (zR 1), some (zR 32), some (zI i)]) (sk := [zI y]) (h := zw (sn, sf, 5, 5, 22) B1 S1 Z1 L1 R1 M) (cs := 44) (ss := 5724) hM2 rfl trivial rfl rfl ⟨Nat.le_refl _, Nat.le_refl _⟩ (fun v2 h2 hp2 => ?_)
  obtain ⟨rfl, B2, S2, Z2, L2, R2, M2, rfl, hC2⟩ := hk2 v2 h2 hp2
  show V (1261, [some (zR 0), some (zR 1), some (zR 32), some (zI i)], [zI y, zI y], zw (sn, sf, 5, 5, 22) B2 S2 Z2 L2 R2 M2, 44, 5724)
  exact zL_eq c rfl (k B2 S2 Z2 L2 R2 M2 hC2)
theorem zlloop (l : Launch) (N : Nat) (hN : N ≤ 3072) (g : Int → Int) (hg : ∀ i, -2147483648 ≤ g i ∧ g i ≤ 2147483647) (V : ZS → Prop) (cc : ∀ tb : List ZE, (∀ q ∈ tb, zck 9 4 code q = true) → zCloL l tb N g V) (sn : Nat) (sf : Int → Int) (hend : ∀ (i : Int) B S Z L R M, zCI B S Z L R M → V (1272, [some (zR 0), some (zR 1), some (zR 32), some (zI i)], [], zw (sn, sf, 5, 5, 22) B S Z L R M, 44, 5724)) : ∀ (k : Nat) (i : Int) B S Z L R M, (N : Int) - i < (k : Int) → 0 ≤ i → i ≤ (N : Int) → zCI B S Z L R M → V (18, [some (zR 0), some (zR 1), some (zR 32), some (zI i)], [], zw (sn, sf, 5, 5, 22) B S Z L R M, 44, 5724)
  | 0, i, B, S, Z, L, R, M, h1, h2, h3, hC => by exfalso; omega
  | k + 1, i, B, S, Z, L, R, M, h1, h2, h3, hC => by
    refine zL_go (cc tbL_a tbL_a_ok) 2 (s1 := (20, [some (zR 0), some (zR 1), some (zR 32), some (zI i)], [zR 0, zI i], zw (sn, sf, 5, 5, 22) B S Z L R M, 44, 5724)) rfl trivial ?_
    refine zL_len (cc tbL_a tbL_a_ok) rfl ?_
    refine zL_br (cc tbL_a tbL_a_ok) 2 ((N : Int) - 6 < i) (1272, [some (zR 0), some (zR 1), some (zR 32), some (zI i)], [], zw (sn, sf, 5, 5, 22) B S Z L R M, 44, 5724) (27, [some (zR 0), some (zR 1), some (zR 32), some (zI i)], [], zw (sn, sf, 5, 5, 22) B S Z L R M, 44, 5724) rfl ⟨(show (-2147483648 ≤ i ∧ i ≤ 2147483647) ∧ -2147483648 ≤ (N : Int) - 6 ∧ (N : Int) - 6 ≤ 2147483647 by omega), trivial⟩ (fun h4 => hend i B S Z L R M hC) (fun h4 => ?_)
    refine zL_go (cc tbL_a tbL_a_ok) 2 (s1 := (29, [some (zR 0), some (zR 1), some (zR 32), some (zI i)], [zI i, zR 0], zw (sn, sf, 5, 5, 22) B S Z L R M, 44, 5724)) rfl trivial ?_
    refine zL_ld (cc tbL_a tbL_a_ok) rfl (by omega) ?_
    refine zL_go (cc tbL_a tbL_a_ok) 2 (s1 := (33, [some (zR 0), some (zR 1), some (zR 32), some (zI i)], [zI (g i % 32)], zw (sn, sf, 5, 5, 22) B S Z L R M, 44, 5724)) rfl ⟨(show (31 : Int) = 2 ^ 5 - 1 by decide), trivial⟩ ?_
    have htail : ∀ B2 S2 Z2 L2 R2 M2, zCI B2 S2 Z2 L2 R2 M2 → V (1266, [some (zR 0), some (zR 1), some (zR 32), some (zI i)], [], zw (sn, sf, 5, 5, 22) B2 S2 Z2 L2 R2 M2, 44, 5724) := fun B2 S2 Z2 L2 R2 M2 hC2 =>
      zL_go (cc tbL_e tbL_e_ok) 2 (s1 := (18, [some (zR 0), some (zR 1), some (zR 32), some (zI (i + 6))], [], zw (sn, sf, 5, 5, 22) B2 S2 Z2 L2 R2 M2, 44, 5724)) rfl trivial (zlloop l N hN g hg V cc sn sf hend k (i + 6) B2 S2 Z2 L2 R2 M2 (by omega) (by omega) (by omega) hC2)
    refine zL_tab (cc tbL_a tbL_a_ok) (by omega) (fun j hj e => ?_) (fun _ => htail B S Z L R M hC)
    have hi : 0 ≤ i ∧ i + 6 ≤ (N : Int) := by omega
    match j, hj with
    | 0, _ => exact zlc_0 l N g hg V (cc tbL_0 tbL_0_ok) sn sf B S Z L R M hC i hi htail
    | 1, _ => exact zlc_1 l N g hg V (cc tbL_1 tbL_1_ok) sn sf B S Z L R M hC i hi htail
    | 2, _ => exact zlc_2 l N g hg V (cc tbL_2 tbL_2_ok) sn sf B S Z L R M hC i hi htail
    | 3, _ => exact zlc_3 l N g hg V (cc tbL_3 tbL_3_ok) sn sf B S Z L R M hC i hi htail
    | 4, _ => exact zlc_4 l N g hg V (cc tbL_4 tbL_4_ok) sn sf B S Z L R M hC i hi htail
    | 5, _ => exact zlc_5 l N g hg V (cc tbL_5 tbL_5_ok) sn sf B S Z L R M hC i hi htail
    | 6, _ => exact zlc_6 l N g hg V (cc tbL_6 tbL_6_ok) sn sf B S Z L R M hC i hi htail
    | 7, _ => exact zlc_7 l N g hg V (cc tbL_7 tbL_7_ok) sn sf B S Z L R M hC i hi htail
    | 8, _ => exact zlc_8 l N g hg V (cc tbL_8 tbL_8_ok) sn sf B S Z L R M hC i hi htail
    | 9, _ => exact zlc_9 l N g hg V (cc tbL_9 tbL_9_ok) sn sf B S Z L R M hC i hi htail
    | 10, _ => exact zlc_10 l N g hg V (cc tbL_10 tbL_10_ok) sn sf B S Z L R M hC i hi htail
    | 11, _ => exact zlc_11 l N g hg V (cc tbL_11 tbL_11_ok) sn sf B S Z L R M hC i hi htail
    | 12, _ => exact zlc_12 l N g hg V (cc tbL_12 tbL_12_ok) sn sf B S Z L R M hC i hi htail
    | 13, _ => exact zlc_13 l N g hg V (cc tbL_13 tbL_13_ok) sn sf B S Z L R M hC i hi htail
    | 14, _ => exact zlc_14 l N g hg V (cc tbL_14 tbL_14_ok) sn sf B S Z L R M hC i hi htail
    | 15, _ => exact zlc_15 l N g hg V (cc tbL_15 tbL_15_ok) sn sf B S Z L R M hC i hi htail
    | 16, _ => exact zlc_16 l N g hg V (cc tbL_16 tbL_16_ok) sn sf B S Z L R M hC i hi htail
    | 17, _ => exact zlc_17 l N g hg V (cc tbL_17 tbL_17_ok) sn sf B S Z L R M hC i hi htail
    | 18, _ => exact zlc_18 l N g hg V (cc tbL_18 tbL_18_ok) sn sf B S Z L R M hC i hi htail
    | 19, _ => exact zlc_19 l N g hg V (cc tbL_19 tbL_19_ok) sn sf B S Z L R M hC i hi htail
    | 20, _ => exact zlc_20 l N g hg V (cc tbL_20 tbL_20_ok) sn sf B S Z L R M hC i hi htail
    | 21, _ => exact zlc_21 l N g hg V (cc tbL_21 tbL_21_ok) sn sf B S Z L R M hC i hi htail
    | 22, _ => exact zlc_22 l N g hg V (cc tbL_22 tbL_22_ok) sn sf B S Z L R M hC i hi htail
    | 23, _ => exact zlc_23 l N g hg V (cc tbL_23 tbL_23_ok) sn sf B S Z L R M hC i hi htail
    | j + 24, hj => exact absurd hj (by omega)
