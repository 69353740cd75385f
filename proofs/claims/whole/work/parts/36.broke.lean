/-! the model: breaks, spans, papers -/
/-- what all stays, though spans and orders are laid out anew -/
def zMs (M M1 : ZMd) : Prop := M1.1 = M.1 ∧ M1.2.1 = M.2.1 ∧ (mPersons M1 = mPersons M ∧ mGaps M1 = mGaps M ∧ mWeight M1 = mWeight M) ∧ mFar M1 = mFar M
theorem zMs_refl (M : ZMd) : zMs M M := ⟨rfl, rfl, ⟨rfl, rfl, rfl⟩, rfl⟩
theorem zMs_trans {M M1 M2 : ZMd} (h : zMs M M1) (g : zMs M1 M2) : zMs M M2 := ⟨g.1.trans h.1, g.2.1.trans h.2.1, ⟨g.2.2.1.1.trans h.2.2.1.1, g.2.2.1.2.1.trans h.2.2.1.2.1, g.2.2.1.2.2.trans h.2.2.1.2.2⟩, g.2.2.2.trans h.2.2.2⟩
theorem zLk_ms {T K : Int → Int} {n nw q l1 : Int} {M M1 : ZMd} (h : zLk T K n nw q l1 M) (g : zMs M M1) : zLk T K n nw q l1 M1 := by
  rcases M with ⟨a1, a2, ⟨a3, a4, a5, a6, a7, a8⟩, a9, b1, b2, b3, b4⟩
  rcases M1 with ⟨c1, c2, ⟨c3, c4, c5, c6, c7, c8⟩, c9, d1, d2, d3, d4⟩
  obtain ⟨g1, g2, ⟨g3, g4, g5⟩, g6⟩ := g
  have e1 : c1 = a1 := g1
  have e2 : c2 = a2 := g2
  have e3 : c3 = a3 := g3
  have e4 : c4 = a4 := g4
  have e5 : c5 = a5 := g5
  subst e1 e2 e3 e4 e5
  exact h
theorem c_walks (l : Launch) (sc : ZSc) (B : ZBk) (S Z : ZSg) (L : ZLn) (R : ZRd) (M : ZMd) (T K : Int → Int) (n nw q l1 : Int) (w k : Int) (hB : zBv T K n nw) (hL : zLk T K n nw q l1 M) (hl : -1 ≤ l1 ∧ l1 < n) (hk : 0 ≤ k ∧ k ≤ 2) (hw : 0 ≤ w ∧ w < nw) (hnw : nw ≤ 12) : zMet l m_X6_walks [zR 32, zI w, zI k] (zw sc B S Z L R M) (fun v h1 => v = none ∧ ∃ M1, zw sc B S Z L R M1 = h1 ∧ zMs M M1 ∧ (zwD T (zcB K n l1 q) w k (l1 + 1).toNat (mSeen M1) ∧ ∀ j : Nat, j ≤ 101 → mFew M1 (j : Int) = zcm (zpr T (zcB K n l1 q) w k (l1 + 1).toNat) (mPersons M) j) ∧ mBroken M1 = mBroken M ∧ M1.2.2.2 = M.2.2.2) := by
  refine zMet_post (c_X6_walks l sc B S Z L R M T K n nw q l1 w k hB hL hl hk hw hnw) (fun v h1 h => ?_)
  obtain ⟨hv, D1, F1, h2, h3, h4⟩ := h
  exact ⟨hv, _, h2, ⟨rfl, rfl, ⟨rfl, rfl, rfl⟩, rfl⟩, ⟨h3, h4⟩, rfl, rfl⟩
/-- how many breaks of a year -/
def zbc (T : Int → Int) (ct : Int → Bool) (w y : Int) : Nat → Int
  | 0 => 0
  | i + 1 => zbc T ct w y i + (if ct (i : Int) = true ∧ T ((i : Int) * 12 + 0) = 2 ∧ T ((i : Int) * 12 + 1) = w ∧ T ((i : Int) * 12 + 3) = y then 1 else 0)
theorem zbc_c (T : Int → Int) (ct : Int → Bool) (w y : Int) : ∀ i : Nat, (0 ≤ zbc T ct w y i ∧ zbc T ct w y i ≤ (i : Int)) ∧ ((zbr1 T ct w y i = 1 ∧ ¬ zbc T ct w y i = 0) ∨ (zbr1 T ct w y i = 0 ∧ zbc T ct w y i = 0))
  | 0 => ⟨⟨Int.le_refl _, Int.le_refl _⟩, Or.inr ⟨rfl, rfl⟩⟩
  | i + 1 => by
    obtain ⟨h1, h2⟩ := zbc_c T ct w y i
    unfold zbc zbr1
    split
    · exact ⟨by omega, Or.inl ⟨rfl, by omega⟩⟩
    · exact ⟨by omega, by rcases h2 with ⟨a, b⟩ | ⟨a, b⟩; exact Or.inl ⟨a, by omega⟩; exact Or.inr ⟨a, by omega⟩⟩
def zbs (f : Int → Int) : Nat → Int
  | 0 => 0
  | j + 1 => zbs f j + f (j : Int)
theorem zbs_rng {f : Int → Int} (hf : ∀ y, 0 ≤ f y ∧ f y ≤ 100) : ∀ j : Nat, 0 ≤ zbs f j ∧ zbs f j ≤ 100 * (j : Int)
  | 0 => ⟨Int.le_refl _, Int.le_refl _⟩
  | j + 1 => by
    have h1 := zbs_rng hf j
    have h2 := hf (j : Int)
    show 0 ≤ zbs f j + f (j : Int) ∧ zbs f j + f (j : Int) ≤ 100 * ((j + 1 : Nat) : Int)
    omega
theorem zbs_iff {f bk : Int → Int} (hf : ∀ y, 0 ≤ f y) (hb : ∀ y, (bk y = 1 ∧ ¬ f y = 0) ∨ (bk y = 0 ∧ f y = 0)) {a : Nat} : ∀ d : Nat, zbs f a ≤ zbs f (a + d) ∧ (zbs f (a + d) = zbs f a ↔ zlb bk (a + d) < (a : Int))
  | 0 => ⟨Int.le_refl _, ⟨fun _ => (zlb_rng bk a).2, fun _ => rfl⟩⟩
  | d + 1 => by
    obtain ⟨h1, h2⟩ := zbs_iff (a := a) hf hb d
    have h3 := hf ((a + d : Nat) : Int)
    have h4 := hb ((a + d : Nat) : Int)
    show zbs f a ≤ zbs f (a + d) + f ((a + d : Nat) : Int) ∧ (zbs f (a + d) + f ((a + d : Nat) : Int) = zbs f a ↔ (if bk ((a + d : Nat) : Int) = 1 then ((a + d : Nat) : Int) else zlb bk (a + d)) < (a : Int))
    refine ⟨by omega, ?_⟩
    by_cases g : bk ((a + d : Nat) : Int) = 1
    · rw [if_pos g]
      constructor
      · intro h; exfalso; omega
      · intro h; exfalso; omega
    · rw [if_neg g, ← h2]
      omega
def zbD (T : Int → Int) (ct : Int → Bool) (w : Int) (m : Nat) (D : Int → Int) : Prop := D 0 = 0 ∧ ∀ y, 0 ≤ y → y ≤ 100 → D (y + 1) = zbc T ct w y m
theorem zbD_no {T : Int → Int} {ct : Int → Bool} {w : Int} {m : Nat} {D : Int → Int} (h : zbD T ct w m D) (hn : ct (m : Int) = true → T ((m : Int) * 12 + 0) = 2 → ¬ T ((m : Int) * 12 + 1) = w) : zbD T ct w (m + 1) D := by
  refine ⟨h.1, fun y a b => ?_⟩
  rw [h.2 y a b]
  show _ = zbc T ct w y m + (if _ then _ else _)
  rw [if_neg (fun z => hn z.1 z.2.1 z.2.2.1), Int.add_zero]
theorem zbD_put {T : Int → Int} {ct : Int → Bool} {w f : Int} {m : Nat} {D : Int → Int} (h : zbD T ct w m D) (hc : ct (m : Int) = true) (h0 : T ((m : Int) * 12 + 0) = 2) (hw : T ((m : Int) * 12 + 1) = w) (ef : T ((m : Int) * 12 + 3) = f) (hf : 0 ≤ f) : zbD T ct w (m + 1) (zup D (f + 1) (D (f + 1) + 1)) := by
  refine ⟨?_, fun y a b => ?_⟩
  · show (if (0 : Int) = f + 1 then _ else D 0) = 0
    rw [if_neg (by omega)]; exact h.1
  · show (if y + 1 = f + 1 then D (f + 1) + 1 else D (y + 1)) = zbc T ct w y m + (if ct (m : Int) = true ∧ T ((m : Int) * 12 + 0) = 2 ∧ T ((m : Int) * 12 + 1) = w ∧ T ((m : Int) * 12 + 3) = y then 1 else 0)
    by_cases g : y = f
    · subst g
      rw [if_pos rfl, if_pos ⟨hc, h0, hw, ef⟩, h.2 y a b]
    · rw [if_neg (by omega), if_neg (fun z => g (by omega)), h.2 y a b, Int.add_zero]
def zbE (f F : Int → Int) (m : Nat) : Prop := ∀ j : Nat, j ≤ 101 → (j < m → F (j : Int) = zbs f j) ∧ (m ≤ j → F (j : Int) = f ((j : Int) - 1))
theorem zbE_put {f F : Int → Int} {m : Nat} (h : zbE f F m) (hm : 1 ≤ m ∧ m ≤ 101) : zbE f (zup F (m : Int) (F (m : Int) + F ((m : Int) - 1))) (m + 1) := by
  intro j hj
  by_cases e : j = m
  · subst e
    obtain ⟨i, rfl⟩ : ∃ i, j = i + 1 := ⟨j - 1, by omega⟩
    refine ⟨fun _ => ?_, fun h2 => by omega⟩
    have h1 := (h (i + 1) hj).2 (Nat.le_refl _)
    have h2 := (h i (by omega)).1 (by omega)
    have e1 : ((i + 1 : Nat) : Int) - 1 = (i : Int) := by omega
    rw [e1] at h1 ⊢
    simp only [zup]
    rw [if_pos trivial, h1, h2]
    show f (i : Int) + zbs f i = zbs f i + f (i : Int)
    omega
  · simp only [zup]
    rw [if_neg (by omega)]
    have h1 := h j hj
    exact ⟨fun a => h1.1 (by omega), fun a => h1.2 (by omega)⟩
theorem zvp_2 {T : Int → Int} {nw p : Int} (h : zvp T nw p) (h0 : T (p * 12 + 0) = 2) : (0 ≤ T (p * 12 + 1) ∧ T (p * 12 + 1) < nw) ∧ (0 ≤ T (p * 12 + 3) ∧ T (p * 12 + 3) ≤ 100) := by
  rcases h with h | h | h | h | h | h | h
  · exfalso; have := h.1; omega
  · exfalso; have := h.1; omega
  · exact h.2
  all_goals exfalso; have := h.1; omega
theorem zvp_1 {T : Int → Int} {nw p : Int} (h : zvp T nw p) (h0 : T (p * 12 + 0) = 1) : (0 ≤ T (p * 12 + 1) ∧ T (p * 12 + 1) < nw) ∧ (0 ≤ T (p * 12 + 2) ∧ T (p * 12 + 2) ≤ 2) ∧ (1 ≤ T (p * 12 + 6) ∧ T (p * 12 + 6) ≤ 9) := by
  rcases h with h | h | h | h | h | h | h
  · exfalso; have := h.1; omega
  · exact h.2
  all_goals exfalso; have := h.1; omega
set_option maxRecDepth 4000 in
theorem c_X6_breaks (l : Launch) (sc : ZSc) (B : ZBk) (S Z : ZSg) (L : ZLn) (R : ZRd) (M : ZMd) (T K : Int → Int) (n nw q l1 : Int) (w : Int) (hB : zBv T K n nw) (hL : zLk T K n nw q l1 M) (hl : -1 ≤ l1 ∧ l1 < n) (hw : 0 ≤ w ∧ w < nw) (hnw : nw ≤ 12) : zMet l m_X6_breaks [zR 32, zI w] (zw sc B S Z L R M) (fun v h1 => v = none ∧ ∃ M1, zw sc B S Z L R M1 = h1 ∧ zMs M M1 ∧ ∀ j : Nat, j ≤ 101 → mBroken M1 (j : Int) = zbs (fun y => zbc T (zcB K n l1 q) w y (l1 + 1).toNat) j) := by
  refine z_method g_X6_breaks [some (zR 32), some (zI w), none] rfl rfl (fun V c => ?_)
  obtain ⟨hn, hT, -, hv, hno, hKs⟩ := id hB
  obtain ⟨hM, e1, hI, e2, e3, e4, e5⟩ := id hL
  have eN := hM.1
  have eW := hM.2.1
  have hst := zst_rng (T := T) (ct := (zcB K n l1 q)) (m := (l1 + 1).toNat) (nw := nw) (fun p h => hv p (by omega))
  refine z_go c 2 (s1 := (2, [some (zR 32), some (zI w), some (zI 0)], [], (zw sc B S Z L R M), 0, 0)) rfl trivial ?_
  have loop : ∀ (x m : Nat) (G1 : Int → Int), 102 - m < x → m ≤ 102 → G1 = zff (mBroken M) 0 (m : Int) → V (2, [some (zR 32), some (zI w), some (zI ((m : Int)))], [], (zw sc B S Z L R (((mThrown M), (mWays M), (mOne M), (mTwo M), (mPages M), (mOrders M)), ((mSort M), (mTold M), (mLast M), (mWithout M), (mIsIn M), (mNeeds M)), ((mPersons M), (mGaps M), (mWeight M), (mSeen M), (mFew M), G1), ((mHolds M), (mMany M), (mOrder M), (mIsGood M), (mFar M)))), 0, 0) := by
    intro x
    induction x with
    | zero => intro m G1 h1 h2; exfalso; omega
    | succ x ih =>
      intro m G1 hm1 hm2 hG
      refine z_br c 2 (101 < (m : Int)) (21, [some (zR 32), some (zI w), some (zI ((m : Int)))], [], (zw sc B S Z L R (((mThrown M), (mWays M), (mOne M), (mTwo M), (mPages M), (mOrders M)), ((mSort M), (mTold M), (mLast M), (mWithout M), (mIsIn M), (mNeeds M)), ((mPersons M), (mGaps M), (mWeight M), (mSeen M), (mFew M), G1), ((mHolds M), (mMany M), (mOrder M), (mIsGood M), (mFar M)))), 0, 0) (8, [some (zR 32), some (zI w), some (zI ((m : Int)))], [], (zw sc B S Z L R (((mThrown M), (mWays M), (mOne M), (mTwo M), (mPages M), (mOrders M)), ((mSort M), (mTold M), (mLast M), (mWithout M), (mIsIn M), (mNeeds M)), ((mPersons M), (mGaps M), (mWeight M), (mSeen M), (mFew M), G1), ((mHolds M), (mMany M), (mOrder M), (mIsGood M), (mFar M)))), 0, 0) rfl ⟨(show ((-2147483648 : Int) ≤ (m : Int) ∧ (m : Int) ≤ 2147483647) ∧ (-2147483648 : Int) ≤ 101 ∧ 101 ≤ 2147483647 by omega), trivial⟩ (fun h5 => ?_) (fun h5 => ?_)
      · obtain rfl : m = 102 := by omega
        clear ih
        have hD0 : zbD T (zcB K n l1 q) w 0 G1 := ⟨by rw [hG]; simp only [zff]; rw [if_pos (by omega)], fun y a b => by
          rw [hG]; simp only [zff]; rw [if_pos (by omega)]; rfl⟩
        clear hG
        refine z_go c 2 (s1 := (23, [some (zR 32), some (zI w), some (zI 0)], [], (zw sc B S Z L R (((mThrown M), (mWays M), (mOne M), (mTwo M), (mPages M), (mOrders M)), ((mSort M), (mTold M), (mLast M), (mWithout M), (mIsIn M), (mNeeds M)), ((mPersons M), (mGaps M), (mWeight M), (mSeen M), (mFew M), G1), ((mHolds M), (mMany M), (mOrder M), (mIsGood M), (mFar M)))), 0, 0)) rfl trivial ?_
        have loop2 : ∀ (y m : Nat) (D1 : Int → Int), l1 + 1 - (m : Int) < (y : Int) → (m : Int) ≤ l1 + 1 → zbD T (zcB K n l1 q) w m D1 → V (23, [some (zR 32), some (zI w), some (zI ((m : Int)))], [], (zw sc B S Z L R (((mThrown M), (mWays M), (mOne M), (mTwo M), (mPages M), (mOrders M)), ((mSort M), (mTold M), (mLast M), (mWithout M), (mIsIn M), (mNeeds M)), ((mPersons M), (mGaps M), (mWeight M), (mSeen M), (mFew M), D1), ((mHolds M), (mMany M), (mOrder M), (mIsGood M), (mFar M)))), 0, 0) := by
          intro y
          induction y with
          | zero => intro m D1 h1 h2; exfalso; omega
          | succ y ih2 =>
            intro m D1 hm1 hm2 hD
            refine z_br c 3 ((mLast M) < (m : Int)) (83, [some (zR 32), some (zI w), some (zI ((m : Int)))], [], (zw sc B S Z L R (((mThrown M), (mWays M), (mOne M), (mTwo M), (mPages M), (mOrders M)), ((mSort M), (mTold M), (mLast M), (mWithout M), (mIsIn M), (mNeeds M)), ((mPersons M), (mGaps M), (mWeight M), (mSeen M), (mFew M), D1), ((mHolds M), (mMany M), (mOrder M), (mIsGood M), (mFar M)))), 0, 0) (31, [some (zR 32), some (zI w), some (zI ((m : Int)))], [], (zw sc B S Z L R (((mThrown M), (mWays M), (mOne M), (mTwo M), (mPages M), (mOrders M)), ((mSort M), (mTold M), (mLast M), (mWithout M), (mIsIn M), (mNeeds M)), ((mPersons M), (mGaps M), (mWeight M), (mSeen M), (mFew M), D1), ((mHolds M), (mMany M), (mOrder M), (mIsGood M), (mFar M)))), 0, 0) rfl ⟨(show ((-2147483648 : Int) ≤ (m : Int) ∧ (m : Int) ≤ 2147483647) ∧ (-2147483648 : Int) ≤ (mLast M) ∧ (mLast M) ≤ 2147483647 by omega), trivial⟩ (fun h28 => ?_) (fun h28 => ?_)
            · obtain rfl : m = (l1 + 1).toNat := by omega
              clear ih2
              generalize some (zI (((l1 + 1).toNat : Nat) : Int)) = x3
              refine z_go c 2 (s1 := (85, [some (zR 32), some (zI w), some (zI 1)], [], (zw sc B S Z L R (((mThrown M), (mWays M), (mOne M), (mTwo M), (mPages M), (mOrders M)), ((mSort M), (mTold M), (mLast M), (mWithout M), (mIsIn M), (mNeeds M)), ((mPersons M), (mGaps M), (mWeight M), (mSeen M), (mFew M), D1), ((mHolds M), (mMany M), (mOrder M), (mIsGood M), (mFar M)))), 0, 0)) rfl trivial ?_
              have hf : ∀ y, 0 ≤ (fun y => zbc T (zcB K n l1 q) w y (l1 + 1).toNat) y ∧ (fun y => zbc T (zcB K n l1 q) w y (l1 + 1).toNat) y ≤ 100 := fun y => by have := zbc_c T (zcB K n l1 q) w y (l1 + 1).toNat; show 0 ≤ zbc T (zcB K n l1 q) w y (l1 + 1).toNat ∧ zbc T (zcB K n l1 q) w y (l1 + 1).toNat ≤ 100; omega
              have hE0 : zbE (fun y => zbc T (zcB K n l1 q) w y (l1 + 1).toNat) D1 1 := fun j hj => ⟨fun h => by obtain rfl : j = 0 := (by omega); exact hD.1, fun h => by have h8 := hD.2 ((j : Int) - 1) (by omega) (by omega); rw [show (j : Int) - 1 + 1 = (j : Int) by omega] at h8; exact h8⟩
              generalize hfe : (fun y => zbc T (zcB K n l1 q) w y (l1 + 1).toNat) = f at hf hE0 ⊢
              have loop4 : ∀ (y m : Nat) (F1 : Int → Int), 102 - m < y → m ≤ 102 → 1 ≤ m → zbE f F1 m → V (85, [some (zR 32), some (zI w), some (zI ((m : Int)))], [], (zw sc B S Z L R (((mThrown M), (mWays M), (mOne M), (mTwo M), (mPages M), (mOrders M)), ((mSort M), (mTold M), (mLast M), (mWithout M), (mIsIn M), (mNeeds M)), ((mPersons M), (mGaps M), (mWeight M), (mSeen M), (mFew M), F1), ((mHolds M), (mMany M), (mOrder M), (mIsGood M), (mFar M)))), 0, 0) := by
                intro y
                induction y with
                | zero => intro m F1 h1 h2; exfalso; omega
                | succ y ih4 =>
                  intro m F1 hm3 hm4 hm5 hF
                  refine z_br c 2 (101 < (m : Int)) (114, [some (zR 32), some (zI w), some (zI ((m : Int)))], [], (zw sc B S Z L R (((mThrown M), (mWays M), (mOne M), (mTwo M), (mPages M), (mOrders M)), ((mSort M), (mTold M), (mLast M), (mWithout M), (mIsIn M), (mNeeds M)), ((mPersons M), (mGaps M), (mWeight M), (mSeen M), (mFew M), F1), ((mHolds M), (mMany M), (mOrder M), (mIsGood M), (mFar M)))), 0, 0) (91, [some (zR 32), some (zI w), some (zI ((m : Int)))], [], (zw sc B S Z L R (((mThrown M), (mWays M), (mOne M), (mTwo M), (mPages M), (mOrders M)), ((mSort M), (mTold M), (mLast M), (mWithout M), (mIsIn M), (mNeeds M)), ((mPersons M), (mGaps M), (mWeight M), (mSeen M), (mFew M), F1), ((mHolds M), (mMany M), (mOrder M), (mIsGood M), (mFar M)))), 0, 0) rfl ⟨(show ((-2147483648 : Int) ≤ (m : Int) ∧ (m : Int) ≤ 2147483647) ∧ (-2147483648 : Int) ≤ 101 ∧ 101 ≤ 2147483647 by omega), trivial⟩ (fun h88 => ?_) (fun h88 => ?_)
                  · exact z_re c 0 (v := none) (h := (zw sc B S Z L R (((mThrown M), (mWays M), (mOne M), (mTwo M), (mPages M), (mOrders M)), ((mSort M), (mTold M), (mLast M), (mWithout M), (mIsIn M), (mNeeds M)), ((mPersons M), (mGaps M), (mWeight M), (mSeen M), (mFew M), F1), ((mHolds M), (mMany M), (mOrder M), (mIsGood M), (mFar M))))) (cs := 0) (ss := 0) rfl trivial trivial ⟨Nat.le_refl _, Nat.le_refl _⟩ ⟨rfl, _, rfl, ⟨rfl, rfl, ⟨rfl, rfl, rfl⟩, rfl⟩, (fun j hj => by rw [hfe]; exact (hF j hj).1 (by omega))⟩
                  · refine z_go c 13 (s1 := (108, [some (zR 32), some (zI w), some (zI ((m : Int)))], [], (zw sc B S Z L R (((mThrown M), (mWays M), (mOne M), (mTwo M), (mPages M), (mOrders M)), ((mSort M), (mTold M), (mLast M), (mWithout M), (mIsIn M), (mNeeds M)), ((mPersons M), (mGaps M), (mWeight M), (mSeen M), (mFew M), (zup F1 ((m : Int)) (((F1 ((m : Int))) + (F1 (((m : Int) - 1))))))), ((mHolds M), (mMany M), (mOrder M), (mIsGood M), (mFar M)))), 0, 0)) rfl ⟨(show (0 : Int) ≤ (m : Int) ∧ (m : Int) < 102 by omega), (show (0 : Int) ≤ ((m : Int) - 1) ∧ ((m : Int) - 1) < 102 by omega), (show (0 : Int) ≤ (m : Int) ∧ (m : Int) < 102 by omega), trivial⟩ ?_
                    exact z_go c 2 (s1 := (85, [some (zR 32), some (zI w), some (zI (((m : Int) + 1)))], [], (zw sc B S Z L R (((mThrown M), (mWays M), (mOne M), (mTwo M), (mPages M), (mOrders M)), ((mSort M), (mTold M), (mLast M), (mWithout M), (mIsIn M), (mNeeds M)), ((mPersons M), (mGaps M), (mWeight M), (mSeen M), (mFew M), (zup F1 ((m : Int)) (((F1 ((m : Int))) + (F1 (((m : Int) - 1))))))), ((mHolds M), (mMany M), (mOrder M), (mIsGood M), (mFar M)))), 0, 0)) rfl trivial (ih4 (m + 1) _ (by omega) (by omega) (by omega) (zbE_put hF (by omega)))
              exact loop4 103 1 _ (by omega) (by omega) (by omega) hE0
            · have qi := hI (m : Int) (by omega) (by omega)
              have qs := hM.2.2.1 (m : Int) (by omega) (by omega)
              have qt := hT (m : Int) 0 (by omega) (by omega) (by omega) (by omega)
              refine z_br c 4 (((mIsIn M) ((m : Int))) = 0) (77, [some (zR 32), some (zI w), some (zI ((m : Int)))], [], (zw sc B S Z L R (((mThrown M), (mWays M), (mOne M), (mTwo M), (mPages M), (mOrders M)), ((mSort M), (mTold M), (mLast M), (mWithout M), (mIsIn M), (mNeeds M)), ((mPersons M), (mGaps M), (mWeight M), (mSeen M), (mFew M), D1), ((mHolds M), (mMany M), (mOrder M), (mIsGood M), (mFar M)))), 0, 0) (40, [some (zR 32), some (zI w), some (zI ((m : Int)))], [], (zw sc B S Z L R (((mThrown M), (mWays M), (mOne M), (mTwo M), (mPages M), (mOrders M)), ((mSort M), (mTold M), (mLast M), (mWithout M), (mIsIn M), (mNeeds M)), ((mPersons M), (mGaps M), (mWeight M), (mSeen M), (mFew M), D1), ((mHolds M), (mMany M), (mOrder M), (mIsGood M), (mFar M)))), 0, 0) rfl ⟨(show (-2147483648 : Int) ≤ ((mIsIn M) ((m : Int))) ∧ ((mIsIn M) ((m : Int))) ≤ 2147483647 by omega), (show (0 : Int) ≤ (m : Int) ∧ (m : Int) < 100 by omega), trivial⟩ (fun h37 => ?_) (fun h37 => ?_)
              · have hDn := zbD_no hD (fun z1 z2 => by rcases qi with ⟨g, -⟩ | ⟨-, g⟩; omega; exact absurd z1 g)
                exact z_go c 2 (s1 := (23, [some (zR 32), some (zI w), some (zI (((m : Int) + 1)))], [], (zw sc B S Z L R (((mThrown M), (mWays M), (mOne M), (mTwo M), (mPages M), (mOrders M)), ((mSort M), (mTold M), (mLast M), (mWithout M), (mIsIn M), (mNeeds M)), ((mPersons M), (mGaps M), (mWeight M), (mSeen M), (mFew M), D1), ((mHolds M), (mMany M), (mOrder M), (mIsGood M), (mFar M)))), 0, 0)) rfl trivial (ih2 (m + 1) _ (by omega) (by omega) hDn)
              · refine z_br c 5 (¬ ((mSort M) ((m : Int))) = 2) (77, [some (zR 32), some (zI w), some (zI ((m : Int)))], [], (zw sc B S Z L R (((mThrown M), (mWays M), (mOne M), (mTwo M), (mPages M), (mOrders M)), ((mSort M), (mTold M), (mLast M), (mWithout M), (mIsIn M), (mNeeds M)), ((mPersons M), (mGaps M), (mWeight M), (mSeen M), (mFew M), D1), ((mHolds M), (mMany M), (mOrder M), (mIsGood M), (mFar M)))), 0, 0) (50, [some (zR 32), some (zI w), some (zI ((m : Int)))], [], (zw sc B S Z L R (((mThrown M), (mWays M), (mOne M), (mTwo M), (mPages M), (mOrders M)), ((mSort M), (mTold M), (mLast M), (mWithout M), (mIsIn M), (mNeeds M)), ((mPersons M), (mGaps M), (mWeight M), (mSeen M), (mFew M), D1), ((mHolds M), (mMany M), (mOrder M), (mIsGood M), (mFar M)))), 0, 0) rfl ⟨(show ((-2147483648 : Int) ≤ ((mSort M) ((m : Int))) ∧ ((mSort M) ((m : Int))) ≤ 2147483647) ∧ (-2147483648 : Int) ≤ 2 ∧ 2 ≤ 2147483647 by omega), (show (0 : Int) ≤ (m : Int) ∧ (m : Int) < 100 by omega), trivial⟩ (fun h47 => ?_) (fun h47 => ?_)
                · have hDn := zbD_no hD (fun z1 z2 => by rcases qi with ⟨g, -⟩ | ⟨-, g⟩; omega; exact absurd z1 g)
                  exact z_go c 2 (s1 := (23, [some (zR 32), some (zI w), some (zI (((m : Int) + 1)))], [], (zw sc B S Z L R (((mThrown M), (mWays M), (mOne M), (mTwo M), (mPages M), (mOrders M)), ((mSort M), (mTold M), (mLast M), (mWithout M), (mIsIn M), (mNeeds M)), ((mPersons M), (mGaps M), (mWeight M), (mSeen M), (mFew M), D1), ((mHolds M), (mMany M), (mOrder M), (mIsGood M), (mFar M)))), 0, 0)) rfl trivial (ih2 (m + 1) _ (by omega) (by omega) hDn)
                · have hvp := zvp_2 (hv m (by omega)) (by omega)
                  refine z_cV c 3 k_6_77 zv_X6_get (pc := 56) (ls := [some (zR 32), some (zI w), some (zI ((m : Int)))]) (sk := []) (h := (zw sc B S Z L R (((mThrown M), (mWays M), (mOne M), (mTwo M), (mPages M), (mOrders M)), ((mSort M), (mTold M), (mLast M), (mWithout M), (mIsIn M), (mNeeds M)), ((mPersons M), (mGaps M), (mWeight M), (mSeen M), (mFew M), D1), ((mHolds M), (mMany M), (mOrder M), (mIsGood M), (mFar M))))) (cs := 0) (ss := 0) (c_X6_get l sc B S Z L R (((mThrown M), (mWays M), (mOne M), (mTwo M), (mPages M), (mOrders M)), ((mSort M), (mTold M), (mLast M), (mWithout M), (mIsIn M), (mNeeds M)), ((mPersons M), (mGaps M), (mWeight M), (mSeen M), (mFew M), D1), ((mHolds M), (mMany M), (mOrder M), (mIsGood M), (mFar M))) ((m : Int)) 1 (by omega) (by omega)) rfl trivial rfl rfl ⟨Nat.le_refl _, Nat.le_refl _⟩ ?_
                  rintro _ _ ⟨rfl, rfl⟩
                  show V (56, [some (zR 32), some (zI w), some (zI ((m : Int)))], [zI (((mTold M) (12 * ((m : Int)) + 1)))], (zw sc B S Z L R (((mThrown M), (mWays M), (mOne M), (mTwo M), (mPages M), (mOrders M)), ((mSort M), (mTold M), (mLast M), (mWithout M), (mIsIn M), (mNeeds M)), ((mPersons M), (mGaps M), (mWeight M), (mSeen M), (mFew M), D1), ((mHolds M), (mMany M), (mOrder M), (mIsGood M), (mFar M)))), 0, 0)
                  rw [hM.2.2.2 ((m : Int)) 1 (by omega) (by omega) (by omega) (by omega)]
                  have q53 := hT ((m : Int)) 1 (by omega) (by omega) (by omega) (by omega)
                  show V (56, [some (zR 32), some (zI w), some (zI ((m : Int)))], [zI ((T (((m : Int)) * 12 + 1)))], (zw sc B S Z L R (((mThrown M), (mWays M), (mOne M), (mTwo M), (mPages M), (mOrders M)), ((mSort M), (mTold M), (mLast M), (mWithout M), (mIsIn M), (mNeeds M)), ((mPersons M), (mGaps M), (mWeight M), (mSeen M), (mFew M), D1), ((mHolds M), (mMany M), (mOrder M), (mIsGood M), (mFar M)))), 0, 0)
                  refine z_br c 1 (¬ (T (((m : Int)) * 12 + 1)) = w) (77, [some (zR 32), some (zI w), some (zI ((m : Int)))], [], (zw sc B S Z L R (((mThrown M), (mWays M), (mOne M), (mTwo M), (mPages M), (mOrders M)), ((mSort M), (mTold M), (mLast M), (mWithout M), (mIsIn M), (mNeeds M)), ((mPersons M), (mGaps M), (mWeight M), (mSeen M), (mFew M), D1), ((mHolds M), (mMany M), (mOrder M), (mIsGood M), (mFar M)))), 0, 0) (60, [some (zR 32), some (zI w), some (zI ((m : Int)))], [], (zw sc B S Z L R (((mThrown M), (mWays M), (mOne M), (mTwo M), (mPages M), (mOrders M)), ((mSort M), (mTold M), (mLast M), (mWithout M), (mIsIn M), (mNeeds M)), ((mPersons M), (mGaps M), (mWeight M), (mSeen M), (mFew M), D1), ((mHolds M), (mMany M), (mOrder M), (mIsGood M), (mFar M)))), 0, 0) rfl ⟨(show ((-2147483648 : Int) ≤ (T (((m : Int)) * 12 + 1)) ∧ (T (((m : Int)) * 12 + 1)) ≤ 2147483647) ∧ (-2147483648 : Int) ≤ w ∧ w ≤ 2147483647 by omega), trivial⟩ (fun h57 => ?_) (fun h57 => ?_)
                  · have hDn := zbD_no hD (fun z1 z2 => by rcases qi with ⟨g, -⟩ | ⟨-, g⟩; omega; exact absurd z1 g)
                    exact z_go c 2 (s1 := (23, [some (zR 32), some (zI w), some (zI (((m : Int) + 1)))], [], (zw sc B S Z L R (((mThrown M), (mWays M), (mOne M), (mTwo M), (mPages M), (mOrders M)), ((mSort M), (mTold M), (mLast M), (mWithout M), (mIsIn M), (mNeeds M)), ((mPersons M), (mGaps M), (mWeight M), (mSeen M), (mFew M), D1), ((mHolds M), (mMany M), (mOrder M), (mIsGood M), (mFar M)))), 0, 0)) rfl trivial (ih2 (m + 1) _ (by omega) (by omega) hDn)
                  · refine z_cV c 5 k_6_77 zv_X6_get (pc := 70) (ls := [some (zR 32), some (zI w), some (zI ((m : Int)))]) (sk := [zR 40]) (h := (zw sc B S Z L R (((mThrown M), (mWays M), (mOne M), (mTwo M), (mPages M), (mOrders M)), ((mSort M), (mTold M), (mLast M), (mWithout M), (mIsIn M), (mNeeds M)), ((mPersons M), (mGaps M), (mWeight M), (mSeen M), (mFew M), D1), ((mHolds M), (mMany M), (mOrder M), (mIsGood M), (mFar M))))) (cs := 0) (ss := 0) (c_X6_get l sc B S Z L R (((mThrown M), (mWays M), (mOne M), (mTwo M), (mPages M), (mOrders M)), ((mSort M), (mTold M), (mLast M), (mWithout M), (mIsIn M), (mNeeds M)), ((mPersons M), (mGaps M), (mWeight M), (mSeen M), (mFew M), D1), ((mHolds M), (mMany M), (mOrder M), (mIsGood M), (mFar M))) ((m : Int)) 3 (by omega) (by omega)) rfl trivial rfl rfl ⟨Nat.le_refl _, Nat.le_refl _⟩ ?_
                    rintro _ _ ⟨rfl, rfl⟩
                    show V (70, [some (zR 32), some (zI w), some (zI ((m : Int)))], [zI (((mTold M) (12 * ((m : Int)) + 3))), zR 40], (zw sc B S Z L R (((mThrown M), (mWays M), (mOne M), (mTwo M), (mPages M), (mOrders M)), ((mSort M), (mTold M), (mLast M), (mWithout M), (mIsIn M), (mNeeds M)), ((mPersons M), (mGaps M), (mWeight M), (mSeen M), (mFew M), D1), ((mHolds M), (mMany M), (mOrder M), (mIsGood M), (mFar M)))), 0, 0)
                    rw [hM.2.2.2 ((m : Int)) 3 (by omega) (by omega) (by omega) (by omega)]
                    have q67 := hT ((m : Int)) 3 (by omega) (by omega) (by omega) (by omega)
                    show V (70, [some (zR 32), some (zI w), some (zI ((m : Int)))], [zI ((T (((m : Int)) * 12 + 3))), zR 40], (zw sc B S Z L R (((mThrown M), (mWays M), (mOne M), (mTwo M), (mPages M), (mOrders M)), ((mSort M), (mTold M), (mLast M), (mWithout M), (mIsIn M), (mNeeds M)), ((mPersons M), (mGaps M), (mWeight M), (mSeen M), (mFew M), D1), ((mHolds M), (mMany M), (mOrder M), (mIsGood M), (mFar M)))), 0, 0)
                    have hDv := hD.2 (T ((m : Int) * 12 + 3)) (by omega) (by omega)
                    have hbc := zbc_c T (zcB K n l1 q) w (T ((m : Int) * 12 + 3)) m
                    refine z_go c 7 (s1 := (77, [some (zR 32), some (zI w), some (zI ((m : Int)))], [], (zw sc B S Z L R (((mThrown M), (mWays M), (mOne M), (mTwo M), (mPages M), (mOrders M)), ((mSort M), (mTold M), (mLast M), (mWithout M), (mIsIn M), (mNeeds M)), ((mPersons M), (mGaps M), (mWeight M), (mSeen M), (mFew M), (zup D1 (((T (((m : Int)) * 12 + 3)) + 1)) (((D1 (((T (((m : Int)) * 12 + 3)) + 1))) + 1)))), ((mHolds M), (mMany M), (mOrder M), (mIsGood M), (mFar M)))), 0, 0)) rfl ⟨(show (0 : Int) ≤ ((T (((m : Int)) * 12 + 3)) + 1) ∧ ((T (((m : Int)) * 12 + 3)) + 1) < 102 by omega), (show (0 : Int) ≤ ((T (((m : Int)) * 12 + 3)) + 1) ∧ ((T (((m : Int)) * 12 + 3)) + 1) < 102 by omega), trivial⟩ ?_
                    have hDn := zbD_put hD (by rcases qi with ⟨-, g⟩ | ⟨g, -⟩; exact g; exfalso; omega) (by omega) (by omega) rfl (by omega)
                    exact z_go c 2 (s1 := (23, [some (zR 32), some (zI w), some (zI (((m : Int) + 1)))], [], (zw sc B S Z L R (((mThrown M), (mWays M), (mOne M), (mTwo M), (mPages M), (mOrders M)), ((mSort M), (mTold M), (mLast M), (mWithout M), (mIsIn M), (mNeeds M)), ((mPersons M), (mGaps M), (mWeight M), (mSeen M), (mFew M), (zup D1 (((T (((m : Int)) * 12 + 3)) + 1)) (((D1 (((T (((m : Int)) * 12 + 3)) + 1))) + 1)))), ((mHolds M), (mMany M), (mOrder M), (mIsGood M), (mFar M)))), 0, 0)) rfl trivial (ih2 (m + 1) _ (by omega) (by omega) hDn)
        exact loop2 102 0 _ (by omega) (by omega) hD0
      · refine z_go c 5 (s1 := (15, [some (zR 32), some (zI w), some (zI ((m : Int)))], [], (zw sc B S Z L R (((mThrown M), (mWays M), (mOne M), (mTwo M), (mPages M), (mOrders M)), ((mSort M), (mTold M), (mLast M), (mWithout M), (mIsIn M), (mNeeds M)), ((mPersons M), (mGaps M), (mWeight M), (mSeen M), (mFew M), (zup G1 ((m : Int)) 0)), ((mHolds M), (mMany M), (mOrder M), (mIsGood M), (mFar M)))), 0, 0)) rfl ⟨(show (0 : Int) ≤ (m : Int) ∧ (m : Int) < 102 by omega), trivial⟩ ?_
        exact z_go c 2 (s1 := (2, [some (zR 32), some (zI w), some (zI (((m : Int) + 1)))], [], (zw sc B S Z L R (((mThrown M), (mWays M), (mOne M), (mTwo M), (mPages M), (mOrders M)), ((mSort M), (mTold M), (mLast M), (mWithout M), (mIsIn M), (mNeeds M)), ((mPersons M), (mGaps M), (mWeight M), (mSeen M), (mFew M), (zup G1 ((m : Int)) 0)), ((mHolds M), (mMany M), (mOrder M), (mIsGood M), (mFar M)))), 0, 0)) rfl trivial (ih (m + 1) _ (by omega) (by omega) (by rw [hG]; exact zff_s (by omega)))
  have h9 := loop 103 0 _ (by omega) (by omega) rfl
  rw [show zff (mBroken M) 0 ((0 : Nat) : Int) = mBroken M from zff_0 _ _, zMd_eta] at h9
  exact h9
set_option maxRecDepth 4000 in
theorem c_X6_few (l : Launch) (sc : ZSc) (B : ZBk) (S Z : ZSg) (L : ZLn) (R : ZRd) (M : ZMd) (e : Int) (he : 0 ≤ e ∧ e ≤ 100) (hN : 1 ≤ mNeeds M ∧ mNeeds M ≤ 40) : zMet l m_X6_few [zR 32, zI e] (zw sc B S Z L R M) (zI1 (if e - mNeeds M + 1 < 0 then -9 else mFew M (e + 1) - mFew M (e - mNeeds M + 1)) (zw sc B S Z L R M)) := by
  refine z_method g_X6_few [some (zR 32), some (zI e)] rfl rfl (fun V c => ?_)
  refine z_br c 6 (0 ≤ ((e - (mNeeds M)) + 1)) (16, [some (zR 32), some (zI e)], [], (zw sc B S Z L R M), 0, 0) (11, [some (zR 32), some (zI e)], [], (zw sc B S Z L R M), 0, 0) rfl ⟨(show (-2147483648 : Int) ≤ ((e - (mNeeds M)) + 1) ∧ ((e - (mNeeds M)) + 1) ≤ 2147483647 by omega), trivial⟩ (fun h8 => ?_) (fun h8 => ?_)
  · exact z_re c 16 (v := some (zI ((((mFew M) ((e + 1))) - ((mFew M) (((e - (mNeeds M)) + 1))))))) (h := (zw sc B S Z L R M)) (cs := 0) (ss := 0) rfl ⟨(show (0 : Int) ≤ (e + 1) ∧ (e + 1) < 102 by omega), (show (0 : Int) ≤ ((e - (mNeeds M)) + 1) ∧ ((e - (mNeeds M)) + 1) < 102 by omega), trivial⟩ trivial ⟨Nat.le_refl _, Nat.le_refl _⟩ ⟨by rw [if_neg (by omega)], rfl⟩
  · exact z_re c 2 (v := some (zI ((-9)))) (h := (zw sc B S Z L R M)) (cs := 0) (ss := 0) rfl trivial trivial ⟨Nat.le_refl _, Nat.le_refl _⟩ ⟨by rw [if_pos (by omega)], rfl⟩
