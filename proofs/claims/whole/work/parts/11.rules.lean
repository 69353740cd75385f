/-! the rules as they are used; the cells of the whole system -/
section ZU
variable {l : Launch} {own : Nat} {tb : List ZE} {mm : ZM} {Post : ZP} {V : ZS → Prop}
theorem z_go (c : zClo l own tb mm Post V) (n : Nat) {st s1 : ZS} {P : Prop} (h : zrun tb n st = some (s1, P)) (hP : P) (k : V s1) : V st := c.1 n st s1 P h hP k
theorem z_br (c : zClo l own tb mm Post V) (n : Nat) (C : Prop) {st : ZS} {P : Prop} (s1 s2 : ZS) (h : zrunB tb n st = some (C, P, s1, s2)) (hP : P) (k1 : C → V s1) (k2 : ¬ C → V s2) : V st := c.2.1 n st s1 s2 C P h hP k1 k2
theorem z_cV (c : zClo l own tb mm Post V) (n : Nat) {st : ZS} {P : Prop} {b ci na o : Nat} {as fs : List ZV} {m' : ZM} {Po : ZP} (hl : zlk own b m') (hv : zmV ci na m') {pc : Nat} {ls : List (Option ZV)} {sk : List ZV} {h : List ZB} {cs ss : Nat} (hM : zMet l m' (zR (o + 1) :: as) h Po) (hx : zrunC tb n st = some (P, 40, b, na + 1, zR (o + 1) :: as, (pc, ls, sk, h, cs, ss))) (hP : P) (hc : znth h (o + 1) = some (zO ci fs)) (hf : zfits m' mm = true) (hr : cs + m'.2.2.2.2.2.2.1 ≤ mm.2.2.2.2.2.2.1 ∧ ss + m'.2.2.2.2.2.2.2 ≤ mm.2.2.2.2.2.2.2)
    (k : ∀ v h1, Po v h1 → V (pc, ls, v.toList ++ sk, h1, cs + m'.2.2.2.2.2.2.1, ss + m'.2.2.2.2.2.2.2)) : V st := c.2.2.1 n st (pc, ls, sk, h, cs, ss) P b (na + 1) ci na o as fs m' Po hx hP hl hv rfl hc hf hr hM k
theorem z_cS (c : zClo l own tb mm Post V) (n : Nat) {st : ZS} {P : Prop} {b na : Nat} {as : List ZV} {m' : ZM} {Po : ZP} (hl : zlk own b m') (hv : zmS na m') {pc : Nat} {ls : List (Option ZV)} {sk : List ZV} {h : List ZB} {cs ss : Nat} (hM : zMet l m' as h Po) (hx : zrunC tb n st = some (P, 41, b, na, as, (pc, ls, sk, h, cs, ss))) (hP : P) (hf : zfits m' mm = true) (hr : cs + m'.2.2.2.2.2.2.1 ≤ mm.2.2.2.2.2.2.1 ∧ ss + m'.2.2.2.2.2.2.2 ≤ mm.2.2.2.2.2.2.2)
    (k : ∀ v h1, Po v h1 → V (pc, ls, v.toList ++ sk, h1, cs + m'.2.2.2.2.2.2.1, ss + m'.2.2.2.2.2.2.2)) : V st := c.2.2.2.1 n st (pc, ls, sk, h, cs, ss) P b na as m' Po hx hP hl hv hf hr hM k
theorem z_re (c : zClo l own tb mm Post V) (n : Nat) {st : ZS} {P : Prop} {v : Option ZV} {h : List ZB} {cs ss : Nat} (hx : zrunR tb n st = some (P, v, h, cs, ss)) (hP : P) (hv : zrok mm.2.2.2.1 v) (hr : cs ≤ mm.2.2.2.2.2.2.1 ∧ ss ≤ mm.2.2.2.2.2.2.2) (hp : Post v h) : V st := c.2.2.2.2 n st P v h cs ss hx hP hv hr hp
theorem z_alen (c : zClo l own tb mm Post V) {pc nx b d cs ss o n : Nat} {a : Int} {ls : List (Option ZV)} {sk : List ZV} {h : List ZB} {f : Int → Int} {z : Bool} (hb : znth h (o + 1) = some (.inl (z, n, f))) (hf : zfetch tb pc = some (nx, 27, a, b, d)) (k : V (nx, ls, zI n :: sk, h, cs, ss)) : V (pc, ls, zR (o + 1) :: sk, h, cs, ss) :=
  z_go c 1 (P := True) (s1 := (nx, ls, zI n :: sk, h, cs, ss)) (by simp [zrun, zstep, hf, zexec, hb]) trivial k
theorem z_iald (c : zClo l own tb mm Post V) {pc nx b d cs ss o n : Nat} {a i : Int} {ls : List (Option ZV)} {sk : List ZV} {h : List ZB} {f : Int → Int} (hb : znth h (o + 1) = some (zA n f)) (hn : Nat.ble n 100000 = true) (hi : 0 ≤ i ∧ i < (n : Int)) (hf : zfetch tb pc = some (nx, 23, a, b, d)) (k : V (nx, ls, zI (f i) :: sk, h, cs, ss)) : V (pc, ls, zI i :: zR (o + 1) :: sk, h, cs, ss) :=
  z_go c 1 (P := (0 ≤ i ∧ i < (n : Int)) ∧ True) (s1 := (nx, ls, zI (f i) :: sk, h, cs, ss)) (by simp only [zrun, zstep, hf, zexec, hb, hn, cond_true]) ⟨hi, trivial⟩ k
theorem z_iast (c : zClo l own tb mm Post V) {pc nx b d cs ss o n : Nat} {a i x : Int} {ls : List (Option ZV)} {sk : List ZV} {h : List ZB} {f : Int → Int} (hb : znth h (o + 1) = some (zA n f)) (hn : Nat.ble n 100000 = true) (hi : 0 ≤ i ∧ i < (n : Int)) (hf : zfetch tb pc = some (nx, 24, a, b, d)) (k : V (nx, ls, sk, h.set (o + 1) (zA n (zup f i x)), cs, ss)) : V (pc, ls, zI x :: zI i :: zR (o + 1) :: sk, h, cs, ss) :=
  z_go c 1 (P := (0 ≤ i ∧ i < (n : Int)) ∧ True) (s1 := (nx, ls, sk, h.set (o + 1) (zA n (zup f i x)), cs, ss)) (by simp only [zrun, zstep, hf, zexec, hb, hn, cond_true]) ⟨hi, trivial⟩ k
end ZU
/-- told, strikes, size, orders, struck -/
abbrev ZBk : Type := (Int → Int) × (Int → Int) × Int × Int × Int
abbrev bT (B : ZBk) : Int → Int := B.1
abbrev bK (B : ZBk) : Int → Int := B.2.1
abbrev bN (B : ZBk) : Int := B.2.2.1
abbrev bO (B : ZBk) : Int := B.2.2.2.1
abbrev bS (B : ZBk) : Int := B.2.2.2.2
/-- of the spans: went, lacks, ends, reckoned, breaks, needs, persons, gaps; then weights, orders, goods, orderCount, goodCount, weightNeeded, way, last, without -/
abbrev ZSp : Type := (Int → Int) × (Int → Int) × (Int → Int) × (Int → Int) × (Int → Int) × Int × Int × Int
abbrev pW (P : ZSp) : Int → Int := P.1
abbrev pL (P : ZSp) : Int → Int := P.2.1
abbrev pE (P : ZSp) : Int → Int := P.2.2.1
abbrev pR (P : ZSp) : Int → Int := P.2.2.2.1
abbrev pB (P : ZSp) : Int → Int := P.2.2.2.2.1
abbrev pN (P : ZSp) : Int := P.2.2.2.2.2.1
abbrev pP (P : ZSp) : Int := P.2.2.2.2.2.2.1
abbrev pG (P : ZSp) : Int := P.2.2.2.2.2.2.2
abbrev ZSg : Type := ZSp × (Int → Int) × (Int → Int) × (Int → Int) × Int × Int × Int × Int × Int × Int
abbrev sP (S : ZSg) : ZSp := S.1
abbrev sW (S : ZSg) : Int → Int := S.2.1
abbrev sO (S : ZSg) : Int → Int := S.2.2.1
abbrev sG (S : ZSg) : Int → Int := S.2.2.2.1
abbrev sOc (S : ZSg) : Int := S.2.2.2.2.1
abbrev sGc (S : ZSg) : Int := S.2.2.2.2.2.1
abbrev sWn (S : ZSg) : Int := S.2.2.2.2.2.2.1
abbrev sWay (S : ZSg) : Int := S.2.2.2.2.2.2.2.1
abbrev sLast (S : ZSg) : Int := S.2.2.2.2.2.2.2.2.1
abbrev sWo (S : ZSg) : Int := S.2.2.2.2.2.2.2.2.2
/-- starts, ends, opened, far, size -/
abbrev ZRd : Type := (Int → Int) × (Int → Int) × (Int → Int) × (Int → Int) × Int
abbrev rS (R : ZRd) : Int → Int := R.1
abbrev rE (R : ZRd) : Int → Int := R.2.1
abbrev rO (R : ZRd) : Int → Int := R.2.2.1
abbrev rF (R : ZRd) : Int → Int := R.2.2.2.1
abbrev rN (R : ZRd) : Int := R.2.2.2.2
/-- pages, size, way, kind, year, last -/
abbrev ZLn : Type := (Int → Int) × Int × Int × Int × Int × Int
abbrev lP (L : ZLn) : Int → Int := L.1
abbrev lN1 (L : ZLn) : Int := L.2.1
abbrev lWay (L : ZLn) : Int := L.2.2.1
abbrev lKind (L : ZLn) : Int := L.2.2.2.1
abbrev lYear (L : ZLn) : Int := L.2.2.2.2.1
abbrev lLast (L : ZLn) : Int := L.2.2.2.2.2
/-- thrown, ways, one, two, pages, orders, sort, told, last, without, isIn, needs, persons, gaps, weight, seen, fewAhead, brokenAhead, holds, many, order, isGood, far -/
abbrev ZMd : Type := (Int × Int × (Int → Int) × (Int → Int) × Int × Int) × ((Int → Int) × (Int → Int) × Int × Int × (Int → Int) × Int) × (Int × Int × Int × (Int → Int) × (Int → Int) × (Int → Int)) × ((Int → Int) × Int × (Int → Int) × (Int → Int) × (Int → Int))
abbrev mThrown (M : ZMd) : Int := M.1.1
abbrev mWays (M : ZMd) : Int := M.1.2.1
abbrev mOne (M : ZMd) : Int → Int := M.1.2.2.1
abbrev mTwo (M : ZMd) : Int → Int := M.1.2.2.2.1
abbrev mPages (M : ZMd) : Int := M.1.2.2.2.2.1
abbrev mOrders (M : ZMd) : Int := M.1.2.2.2.2.2
abbrev mSort (M : ZMd) : Int → Int := M.2.1.1
abbrev mTold (M : ZMd) : Int → Int := M.2.1.2.1
abbrev mLast (M : ZMd) : Int := M.2.1.2.2.1
abbrev mWithout (M : ZMd) : Int := M.2.1.2.2.2.1
abbrev mIsIn (M : ZMd) : Int → Int := M.2.1.2.2.2.2.1
abbrev mNeeds (M : ZMd) : Int := M.2.1.2.2.2.2.2
abbrev mPersons (M : ZMd) : Int := M.2.2.1.1
abbrev mGaps (M : ZMd) : Int := M.2.2.1.2.1
abbrev mWeight (M : ZMd) : Int := M.2.2.1.2.2.1
abbrev mSeen (M : ZMd) : Int → Int := M.2.2.1.2.2.2.1
abbrev mFew (M : ZMd) : Int → Int := M.2.2.1.2.2.2.2.1
abbrev mBroken (M : ZMd) : Int → Int := M.2.2.1.2.2.2.2.2
abbrev mHolds (M : ZMd) : Int → Int := M.2.2.2.1
abbrev mMany (M : ZMd) : Int := M.2.2.2.2.1
abbrev mOrder (M : ZMd) : Int → Int := M.2.2.2.2.2.1
abbrev mIsGood (M : ZMd) : Int → Int := M.2.2.2.2.2.2.1
abbrev mFar (M : ZMd) : Int → Int := M.2.2.2.2.2.2.2
/-- the script; which sight the shire has; which two the leaning has -/
abbrev ZSc : Type := Nat × (Int → Int) × Nat × Nat × Nat
/-- all cells, in their order -/
def zw (sc : ZSc) (B : ZBk) (S : ZSg) (Z : ZSg) (L : ZLn) (R : ZRd) (M : ZMd) : List ZB := [zA sc.1 sc.2.1, zO 5 [zR 2, zR 15, zR sc.2.2.1, zR 20],
  zO 0 [zR 3, zR 4, zI (bN B), zI (bO B), zI (bS B)], zA 1200 (bT B), zA 100 (bK B),
  zO 3 [zR 2, zR 6, zR 12, zR 13, zR 14, zI (sOc S), zI (sGc S), zI (sWn S), zI (sWay S), zI (sLast S), zI (sWo S)], zO 4 [zR 7, zR 8, zR 9, zR 10, zR 11, zI (pN (sP S)), zI (pP (sP S)), zI (pG (sP S))], zA 303 (pW (sP S)), zA 303 (pL (sP S)), zA 303 (pE (sP S)), zA 3 (pR (sP S)), zA 101 (pB (sP S)), zA 3 (sW S), zA 20 (sO S), zA 20 (sG S),
  zO 2 [zR 16, zR 17, zR 18, zR 19, zI (rN R)], zA 12 (rS R), zA 12 (rE R), zA 12 (rO R), zA 10 (rF R),
  zO 1 [zR 2, zR sc.2.2.2.1, zR sc.2.2.2.2, zR 21, zI (lN1 L), zI (lWay L), zI (lKind L), zI (lYear L), zI (lLast L)], zA 100 (lP L),
  zO 3 [zR 2, zR 23, zR 29, zR 30, zR 31, zI (sOc Z), zI (sGc Z), zI (sWn Z), zI (sWay Z), zI (sLast Z), zI (sWo Z)], zO 4 [zR 24, zR 25, zR 26, zR 27, zR 28, zI (pN (sP Z)), zI (pP (sP Z)), zI (pG (sP Z))], zA 303 (pW (sP Z)), zA 303 (pL (sP Z)), zA 303 (pE (sP Z)), zA 3 (pR (sP Z)), zA 101 (pB (sP Z)), zA 3 (sW Z), zA 20 (sO Z), zA 20 (sG Z),
  zO 6 [zI (mThrown M), zI (mWays M), zR 33, zR 34, zI (mPages M), zI (mOrders M), zR 35, zR 36, zI (mLast M), zI (mWithout M), zR 37, zI (mNeeds M), zI (mPersons M), zI (mGaps M), zI (mWeight M), zR 38, zR 39, zR 40, zR 41, zI (mMany M), zR 42, zR 43, zR 44], zA 12 (mOne M), zA 12 (mTwo M), zA 100 (mSort M), zA 1200 (mTold M), zZ 100 (mIsIn M), zA 101 (mSeen M), zA 102 (mFew M), zA 102 (mBroken M), zZ 303 (mHolds M), zA 20 (mOrder M), zZ 20 (mIsGood M), zA 10 (mFar M)]
/-- answers -/
abbrev zI1 (r : Int) (h : List ZB) : ZP := fun v h1 => v = some (zI r) ∧ h = h1
abbrev zI0 (h : List ZB) : ZP := fun v h1 => v = none ∧ h = h1
abbrev zIb (C : Prop) (h : List ZB) : ZP := fun v h1 => ∃ r, v = some (zI r) ∧ ((C ∧ r = 1) ∨ (¬ C ∧ r = 0)) ∧ h = h1
