/-! what the model writes -/
def zTd (D : Int → Int) (n : Int) (row G : Int → Int) : Prop := (∀ j, j < 12 * n → G j = D j) ∧ ∀ f, 0 ≤ f → f < 12 → G (12 * n + f) = row f
theorem zTd_up {D row G : Int → Int} {n i c x : Int} (h : zTd D n row G) (hi : i = 12 * n + c) (hc : 0 ≤ c ∧ c < 12) : zTd D n (zup row c x) (zup G i x) := by
  subst hi
  constructor
  · intro j hj
    simp only [zup]
    rw [if_neg (by omega)]
    exact h.1 j hj
  · intro f a b
    simp only [zup]
    by_cases g : f = c
    · rw [if_pos (by omega), if_pos g]
    · rw [if_neg (by omega), if_neg g]
      exact h.2 f a b
/-- a page was added -/
def zMg (M M1 : ZMd) (n : Int) (row : Int → Int) (d : Int) : Prop := (mPages M1 = n + 1 ∧ mWays M1 = mWays M ∧ mOne M1 = mOne M ∧ mTwo M1 = mTwo M ∧ mOrders M1 = mOrders M + d ∧ mWithout M1 = mWithout M) ∧ (∀ p, 0 ≤ p → p ≤ n → mSort M1 p = if p = n then row 0 else mSort M p) ∧ zTd (mTold M) n row (mTold M1)
theorem zMg_k {M M0 M1 : ZMd} {n d : Int} {row : Int → Int} (h : zMk M M0) (g : zMg M0 M1 n row d) : zMg M M1 n row d := by
  obtain ⟨h1, h2, h3, h4⟩ := h
  obtain ⟨⟨a1, a2, a3, a4, a5, a6⟩, g2, g3⟩ := g
  have e1 : mWays M0 = mWays M := congrArg (fun z => z.1) h1
  have e2 : mOne M0 = mOne M := congrArg (fun z => z.2.1) h1
  have e3 : mTwo M0 = mTwo M := congrArg (fun z => z.2.2.1) h1
  have e4 : mOrders M0 = mOrders M := congrArg (fun z => z.2.2.2.2) h1
  exact ⟨⟨a1, a2.trans e1, a3.trans e2, a4.trans e3, by rw [a5, e4], a6.trans h4⟩, by rw [← h2]; exact g2, by rw [← h3]; exact g3⟩
theorem zif_s {p n s r x : Int} (h : s = r) : (if p = n then s else x) = if p = n then r else x := by rw [h]
set_option maxRecDepth 4000 in
theorem c_X6_write (l : Launch) (sc : ZSc) (B : ZBk) (S Z : ZSg) (L : ZLn) (R : ZRd) (M : ZMd) (n s w k f : Int) (hN : mPages M = n) (hn : 0 ≤ n ∧ n < 100) : zMet l m_X6_write [zR 32, zI s, zI w, zI k, zI f] (zw sc B S Z L R M) (fun v h1 => ∃ M1, v = some (zI n) ∧ zw sc B S Z L R M1 = h1 ∧ zMg M M1 n (zup (zup (zup (zup (fun _ => -9) 0 s) 1 w) 2 k) 3 f) 0) := by
  refine z_method g_X6_write [some (zR 32), some (zI s), some (zI w), some (zI k), some (zI f), none] rfl rfl (fun V c => ?_)
  refine z_go c 8 (s1 := (13, [some (zR 32), some (zI s), some (zI w), some (zI k), some (zI f), some (zI 0)], [], (zw sc B S Z L R (((mThrown M), (mWays M), (mOne M), (mTwo M), (mPages M), (mOrders M)), ((zup (mSort M) ((mPages M)) s), (mTold M), (mLast M), (mWithout M), (mIsIn M), (mNeeds M)), ((mPersons M), (mGaps M), (mWeight M), (mSeen M), (mFew M), (mBroken M)), ((mHolds M), (mMany M), (mOrder M), (mIsGood M), (mFar M)))), 0, 0)) rfl ⟨(show (0 : Int) ≤ (mPages M) ∧ (mPages M) < 100 by omega), trivial⟩ ?_
  have loop : ∀ (x m : Nat) (G1 : Int → Int), 12 - m < x → m ≤ 12 → (∀ j, j < 12 * n → G1 j = mTold M j) → (∀ f, 0 ≤ f → f < (m : Int) → G1 (12 * n + f) = -9) → V (13, [some (zR 32), some (zI s), some (zI w), some (zI k), some (zI f), some (zI ((m : Int)))], [], (zw sc B S Z L R (((mThrown M), (mWays M), (mOne M), (mTwo M), (mPages M), (mOrders M)), ((zup (mSort M) ((mPages M)) s), G1, (mLast M), (mWithout M), (mIsIn M), (mNeeds M)), ((mPersons M), (mGaps M), (mWeight M), (mSeen M), (mFew M), (mBroken M)), ((mHolds M), (mMany M), (mOrder M), (mIsGood M), (mFar M)))), 0, 0) := by
    intro x
    induction x with
    | zero => intro m G1 h1 h2; exfalso; omega
    | succ x ih =>
      intro m G1 hm1 hm2 hD hG
      refine z_br c 2 (12 ≤ (m : Int)) (43, [some (zR 32), some (zI s), some (zI w), some (zI k), some (zI f), some (zI ((m : Int)))], [], (zw sc B S Z L R (((mThrown M), (mWays M), (mOne M), (mTwo M), (mPages M), (mOrders M)), ((zup (mSort M) ((mPages M)) s), G1, (mLast M), (mWithout M), (mIsIn M), (mNeeds M)), ((mPersons M), (mGaps M), (mWeight M), (mSeen M), (mFew M), (mBroken M)), ((mHolds M), (mMany M), (mOrder M), (mIsGood M), (mFar M)))), 0, 0) (20, [some (zR 32), some (zI s), some (zI w), some (zI k), some (zI f), some (zI ((m : Int)))], [], (zw sc B S Z L R (((mThrown M), (mWays M), (mOne M), (mTwo M), (mPages M), (mOrders M)), ((zup (mSort M) ((mPages M)) s), G1, (mLast M), (mWithout M), (mIsIn M), (mNeeds M)), ((mPersons M), (mGaps M), (mWeight M), (mSeen M), (mFew M), (mBroken M)), ((mHolds M), (mMany M), (mOrder M), (mIsGood M), (mFar M)))), 0, 0) rfl ⟨(show ((-2147483648 : Int) ≤ (m : Int) ∧ (m : Int) ≤ 2147483647) ∧ (-2147483648 : Int) ≤ 12 ∧ 12 ≤ 2147483647 by omega), trivial⟩ (fun h17 => ?_) (fun h17 => ?_)
      · obtain rfl : m = 12 := by omega
        clear ih
        have hT0 : zTd (mTold M) n (fun _ => -9) G1 := ⟨hD, fun f a b => hG f a (by omega)⟩
        exact z_re c 48 (v := some (zI ((((mPages M) + 1) - 1)))) (h := (zw sc B S Z L R (((mThrown M), (mWays M), (mOne M), (mTwo M), ((mPages M) + 1), (mOrders M)), ((zup (mSort M) ((mPages M)) s), (zup (zup (zup (zup G1 ((12 * (mPages M))) s) (((12 * (mPages M)) + 1)) w) (((12 * (mPages M)) + 2)) k) (((12 * (mPages M)) + 3)) f), (mLast M), (mWithout M), (mIsIn M), (mNeeds M)), ((mPersons M), (mGaps M), (mWeight M), (mSeen M), (mFew M), (mBroken M)), ((mHolds M), (mMany M), (mOrder M), (mIsGood M), (mFar M))))) (cs := 0) (ss := 0) rfl ⟨(show (0 : Int) ≤ (12 * (mPages M)) ∧ (12 * (mPages M)) < 1200 by omega), (show (0 : Int) ≤ ((12 * (mPages M)) + 1) ∧ ((12 * (mPages M)) + 1) < 1200 by omega), (show (0 : Int) ≤ ((12 * (mPages M)) + 2) ∧ ((12 * (mPages M)) + 2) < 1200 by omega), (show (0 : Int) ≤ ((12 * (mPages M)) + 3) ∧ ((12 * (mPages M)) + 3) < 1200 by omega), trivial⟩ trivial ⟨Nat.le_refl _, Nat.le_refl _⟩ ⟨_, congrArg (fun z => some (zI z)) (show (mPages M) + 1 - 1 = n by omega), rfl, ⟨(show mPages M + 1 = n + 1 by omega), rfl, rfl, rfl, (Int.add_zero _).symm, rfl⟩, (fun p p0 p1 => by show zup (mSort M) (mPages M) s p = _; rw [hN]; simp only [zup]; exact zif_s (by simp)), zTd_up (zTd_up (zTd_up (zTd_up hT0 (by omega) (by omega)) (by omega) (by omega)) (by omega) (by omega)) (by omega) (by omega)⟩
      · refine z_go c 10 (s1 := (37, [some (zR 32), some (zI s), some (zI w), some (zI k), some (zI f), some (zI ((m : Int)))], [], (zw sc B S Z L R (((mThrown M), (mWays M), (mOne M), (mTwo M), (mPages M), (mOrders M)), ((zup (mSort M) ((mPages M)) s), (zup G1 (((12 * (mPages M)) + (m : Int))) ((-9))), (mLast M), (mWithout M), (mIsIn M), (mNeeds M)), ((mPersons M), (mGaps M), (mWeight M), (mSeen M), (mFew M), (mBroken M)), ((mHolds M), (mMany M), (mOrder M), (mIsGood M), (mFar M)))), 0, 0)) rfl ⟨(show (0 : Int) ≤ ((12 * (mPages M)) + (m : Int)) ∧ ((12 * (mPages M)) + (m : Int)) < 1200 by omega), trivial⟩ ?_
        exact z_go c 2 (s1 := (13, [some (zR 32), some (zI s), some (zI w), some (zI k), some (zI f), some (zI (((m : Int) + 1)))], [], (zw sc B S Z L R (((mThrown M), (mWays M), (mOne M), (mTwo M), (mPages M), (mOrders M)), ((zup (mSort M) ((mPages M)) s), (zup G1 (((12 * (mPages M)) + (m : Int))) ((-9))), (mLast M), (mWithout M), (mIsIn M), (mNeeds M)), ((mPersons M), (mGaps M), (mWeight M), (mSeen M), (mFew M), (mBroken M)), ((mHolds M), (mMany M), (mOrder M), (mIsGood M), (mFar M)))), 0, 0)) rfl trivial (ih (m + 1) _ (by omega) (by omega) (fun j h => by simp only [zup]; rw [if_neg (by omega)]; exact hD j h) (fun f a b => by
          simp only [zup]
          by_cases g : f = (m : Int)
          · rw [if_pos (by omega)]
          · rw [if_neg (by omega)]; exact hG f a (by omega)))
  exact loop 13 0 _ (by omega) (by omega) (fun j h => rfl) (fun f a b => by exfalso; omega)
set_option maxRecDepth 4000 in
theorem c_X6_tell (l : Launch) (sc : ZSc) (B : ZBk) (S Z : ZSg) (L : ZLn) (R : ZRd) (M : ZMd) (c2 x : Int) (hp : 1 ≤ mPages M ∧ mPages M ≤ 100) (hc : 0 ≤ c2 ∧ c2 < 12) : zMet l m_X6_tell [zR 32, zI c2, zI x] (zw sc B S Z L R M) (zI0 (zw sc B S Z L R (((mThrown M), (mWays M), (mOne M), (mTwo M), (mPages M), (mOrders M)), ((mSort M), (zup (mTold M) (12 * (mPages M - 1) + c2) x), (mLast M), (mWithout M), (mIsIn M), (mNeeds M)), ((mPersons M), (mGaps M), (mWeight M), (mSeen M), (mFew M), (mBroken M)), ((mHolds M), (mMany M), (mOrder M), (mIsGood M), (mFar M))))) := by
  refine z_method g_X6_tell [some (zR 32), some (zI c2), some (zI x)] rfl rfl (fun V c => ?_)
  exact z_re c 12 (v := none) (h := (zw sc B S Z L R (((mThrown M), (mWays M), (mOne M), (mTwo M), (mPages M), (mOrders M)), ((mSort M), (zup (mTold M) (((12 * ((mPages M) - 1)) + c2)) x), (mLast M), (mWithout M), (mIsIn M), (mNeeds M)), ((mPersons M), (mGaps M), (mWeight M), (mSeen M), (mFew M), (mBroken M)), ((mHolds M), (mMany M), (mOrder M), (mIsGood M), (mFar M))))) (cs := 0) (ss := 0) rfl ⟨(show (0 : Int) ≤ ((12 * ((mPages M) - 1)) + c2) ∧ ((12 * ((mPages M) - 1)) + c2) < 1200 by omega), trivial⟩ trivial ⟨Nat.le_refl _, Nat.le_refl _⟩ ⟨rfl, rfl⟩
theorem c_tell (l : Launch) (sc : ZSc) (B : ZBk) (S Z : ZSg) (L : ZLn) (R : ZRd) (M M1 : ZMd) (n d : Int) (row : Int → Int) (c2 x : Int) (h : zMg M M1 n row d) (hn : 0 ≤ n ∧ n < 100) (hc : 1 ≤ c2 ∧ c2 < 12) : zMet l m_X6_tell [zR 32, zI c2, zI x] (zw sc B S Z L R M1) (fun v h1 => v = none ∧ ∃ M2, zw sc B S Z L R M2 = h1 ∧ zMg M M2 n (zup row c2 x) d) := by
  have e := h.1.1
  refine zMet_post (c_X6_tell l sc B S Z L R M1 c2 x (by omega) (by omega)) (fun v h1 g => ?_)
  obtain ⟨hv, g⟩ := g
  refine ⟨hv, _, g, h.1, fun p p0 p1 => ?_, ?_⟩
  · show mSort M1 p = _
    rw [h.2.1 p p0 p1]
    simp only [zup]
    rw [if_neg (show ¬ (0 : Int) = c2 by omega)]
  · exact zTd_up h.2.2 (by omega) (by omega)
set_option maxRecDepth 4000 in
theorem c_X6_ordered (l : Launch) (sc : ZSc) (B : ZBk) (S Z : ZSg) (L : ZLn) (R : ZRd) (M : ZMd) (n s w k y d : Int) (hN : mPages M = n) (hn : 0 ≤ n ∧ n ≤ 100) (ho : 0 ≤ mOrders M ∧ mOrders M ≤ 20) : zMet l m_X6_ordered [zR 32, zI s, zI w, zI k, zI y, zI d] (zw sc B S Z L R M) (fun v h1 => ∃ M1 r1, v = some (zI r1) ∧ zw sc B S Z L R M1 = h1 ∧ (((n = 100 ∨ mOrders M = 20) ∧ r1 = -4 ∧ M1 = M) ∨ (¬ (n = 100 ∨ mOrders M = 20) ∧ r1 = n ∧ zMg M M1 n (zup (zup (zup (zup (zup (fun _ => -9) 0 s) 1 w) 2 k) 3 y) 7 d) 1))) := by
  refine z_method g_X6_ordered [some (zR 32), some (zI s), some (zI w), some (zI k), some (zI y), some (zI d), none] rfl rfl (fun V c => ?_)
  refine z_br c 3 ((mPages M) = 100) (18, [some (zR 32), some (zI s), some (zI w), some (zI k), some (zI y), some (zI d), none], [], (zw sc B S Z L R M), 0, 0) (9, [some (zR 32), some (zI s), some (zI w), some (zI k), some (zI y), some (zI d), none], [], (zw sc B S Z L R M), 0, 0) rfl ⟨(show ((-2147483648 : Int) ≤ (mPages M) ∧ (mPages M) ≤ 2147483647) ∧ (-2147483648 : Int) ≤ 100 ∧ 100 ≤ 2147483647 by omega), trivial⟩ (fun h6 => ?_) (fun h6 => ?_)
  · exact z_re c 1 (v := some (zI ((-4)))) (h := (zw sc B S Z L R M)) (cs := 0) (ss := 0) rfl trivial trivial ⟨Nat.le_refl _, Nat.le_refl _⟩ ⟨M, _, rfl, rfl, Or.inl ⟨by omega, rfl, rfl⟩⟩
  · refine z_br c 3 (¬ (mOrders M) = 20) (21, [some (zR 32), some (zI s), some (zI w), some (zI k), some (zI y), some (zI d), none], [], (zw sc B S Z L R M), 0, 0) (18, [some (zR 32), some (zI s), some (zI w), some (zI k), some (zI y), some (zI d), none], [], (zw sc B S Z L R M), 0, 0) rfl ⟨(show ((-2147483648 : Int) ≤ (mOrders M) ∧ (mOrders M) ≤ 2147483647) ∧ (-2147483648 : Int) ≤ 20 ∧ 20 ≤ 2147483647 by omega), trivial⟩ (fun h15 => ?_) (fun h15 => ?_)
    · refine z_cV c 5 k_6_136 zv_X6_write (pc := 30) (ls := [some (zR 32), some (zI s), some (zI w), some (zI k), some (zI y), some (zI d), none]) (sk := []) (h := (zw sc B S Z L R M)) (cs := 0) (ss := 0) (c_X6_write l sc B S Z L R M n s w k y hN (by omega)) rfl trivial rfl rfl ⟨Nat.le_refl _, Nat.le_refl _⟩ ?_
      rintro _ _ ⟨MA, rfl, rfl, hg0⟩
      show V (30, [some (zR 32), some (zI s), some (zI w), some (zI k), some (zI y), some (zI d), none], [zI n], (zw sc B S Z L R MA), 0, 0)
      refine z_cV c 4 k_6_140 zv_X6_tell (pc := 40) (ls := [some (zR 32), some (zI s), some (zI w), some (zI k), some (zI y), some (zI d), some (zI n)]) (sk := []) (h := (zw sc B S Z L R MA)) (cs := 0) (ss := 0) (c_tell l sc B S Z L R M MA n 0 _ 7 d hg0 (by omega) (by omega)) rfl trivial rfl rfl ⟨Nat.le_refl _, Nat.le_refl _⟩ ?_
      rintro _ _ ⟨rfl, MB, rfl, hg1⟩
      show V (40, [some (zR 32), some (zI s), some (zI w), some (zI k), some (zI y), some (zI d), some (zI n)], [], (zw sc B S Z L R MB), 0, 0)
      exact z_re c 7 (v := some (zI n)) (h := (zw sc B S Z L R (((mThrown MB), (mWays MB), (mOne MB), (mTwo MB), (mPages MB), ((mOrders MB) + 1)), ((mSort MB), (mTold MB), (mLast MB), (mWithout MB), (mIsIn MB), (mNeeds MB)), ((mPersons MB), (mGaps MB), (mWeight MB), (mSeen MB), (mFew MB), (mBroken MB)), ((mHolds MB), (mMany MB), (mOrder MB), (mIsGood MB), (mFar MB))))) (cs := 0) (ss := 0) rfl trivial trivial ⟨Nat.le_refl _, Nat.le_refl _⟩ ⟨_, _, rfl, rfl, Or.inr ⟨by omega, rfl, ⟨hg1.1.1, hg1.1.2.1, hg1.1.2.2.1, hg1.1.2.2.2.1, (show mOrders MB + 1 = mOrders M + 1 by have := hg1.1.2.2.2.2.1; omega), hg1.1.2.2.2.2.2⟩, hg1.2.1, hg1.2.2⟩⟩
    · exact z_re c 1 (v := some (zI ((-4)))) (h := (zw sc B S Z L R M)) (cs := 0) (ss := 0) rfl trivial trivial ⟨Nat.le_refl _, Nat.le_refl _⟩ ⟨M, _, rfl, rfl, Or.inl ⟨by omega, rfl, rfl⟩⟩
set_option maxRecDepth 4000 in
theorem c_X6_walk (l : Launch) (sc : ZSc) (B : ZBk) (S Z : ZSg) (L : ZLn) (R : ZRd) (M : ZMd) (T K : Int → Int) (n nw : Int) (i w k f t : Int) (hB : zBv T K n nw) (hM : zMr T n nw M) (hQ : mWithout M = -9) (hnw : 0 ≤ nw ∧ nw ≤ 12) (hi : (-2147483648 ≤ i ∧ i ≤ 2147483647)) (hw : (-2147483648 ≤ w ∧ w ≤ 2147483647)) (hk : (-2147483648 ≤ k ∧ k ≤ 2147483647)) (hf : (-2147483648 ≤ f ∧ f ≤ 2147483647)) (ht : (-2147483648 ≤ t ∧ t ≤ 2147483647)) : zMet l m_X6_walk [zR 32, zI i, zI w, zI k, zI f, zI t] (zw sc B S Z L R M) (fun v h1 => ∃ M1, zw sc B S Z L R M1 = h1 ∧ ((¬ ((0 ≤ i ∧ i ≤ 19) ∧ 0 ≤ w ∧ w < nw) ∧ v = some (zI (-1)) ∧ zMk M M1) ∨ (((0 ≤ i ∧ i ≤ 19) ∧ 0 ≤ w ∧ w < nw) ∧ ¬ ((0 ≤ k ∧ k ≤ 2) ∧ (0 ≤ f ∧ f ≤ 100) ∧ (0 ≤ t ∧ t ≤ 100) ∧ f ≤ t) ∧ v = some (zI (-2)) ∧ zMk M M1) ∨ (((0 ≤ i ∧ i ≤ 19) ∧ 0 ≤ w ∧ w < nw) ∧ ((0 ≤ k ∧ k ≤ 2) ∧ (0 ≤ f ∧ f ≤ 100) ∧ (0 ≤ t ∧ t ≤ 100) ∧ f ≤ t) ∧ (n = 100) ∧ v = some (zI (-4)) ∧ zMk M M1) ∨ (((0 ≤ i ∧ i ≤ 19) ∧ 0 ≤ w ∧ w < nw) ∧ ((0 ≤ k ∧ k ≤ 2) ∧ (0 ≤ f ∧ f ≤ 100) ∧ (0 ≤ t ∧ t ≤ 100) ∧ f ≤ t) ∧ ¬ (n = 100) ∧ v = some (zI n) ∧ zMg M M1 n (zup (zup (zup (zup (zup (zup (fun _ => -9) 0 0) 1 w) 2 k) 3 f) 4 t) 5 i) 0))) := by
  refine z_method g_X6_walk [some (zR 32), some (zI i), some (zI w), some (zI k), some (zI f), some (zI t), none] rfl rfl (fun V c => ?_)
  obtain ⟨hn, hT, -, hv, hno, hKs⟩ := id hB
  refine z_go c 3 (s1 := (5, [some (zR 32), some (zI i), some (zI w), some (zI k), some (zI f), some (zI t), none], [], (zw sc B S Z L R ((0, (mWays M), (mOne M), (mTwo M), (mPages M), (mOrders M)), ((mSort M), (mTold M), (mLast M), (mWithout M), (mIsIn M), (mNeeds M)), ((mPersons M), (mGaps M), (mWeight M), (mSeen M), (mFew M), (mBroken M)), ((mHolds M), (mMany M), (mOrder M), (mIsGood M), (mFar M)))), 0, 0)) rfl trivial ?_
  have hkM0 : zMk M ((0, (mWays M), (mOne M), (mTwo M), (mPages M), (mOrders M)), ((mSort M), (mTold M), (mLast M), (mWithout M), (mIsIn M), (mNeeds M)), ((mPersons M), (mGaps M), (mWeight M), (mSeen M), (mFew M), (mBroken M)), ((mHolds M), (mMany M), (mOrder M), (mIsGood M), (mFar M))) := ⟨rfl, rfl, rfl, rfl⟩
  generalize (((0, (mWays M), (mOne M), (mTwo M), (mPages M), (mOrders M)), ((mSort M), (mTold M), (mLast M), (mWithout M), (mIsIn M), (mNeeds M)), ((mPersons M), (mGaps M), (mWeight M), (mSeen M), (mFew M), (mBroken M)), ((mHolds M), (mMany M), (mOrder M), (mIsGood M), (mFar M))) : ZMd) = M0 at hkM0 ⊢
  have hM0 := zMr_k hM hkM0
  have hQ0 : mWithout M0 = -9 := hkM0.2.2.2.trans hQ
  have eN0 := hM0.1
  have eW0 := hM0.2.1
  refine z_cS c 4 k_6_57 zv_X6_in (pc := 14) (ls := [some (zR 32), some (zI i), some (zI w), some (zI k), some (zI f), some (zI t), none]) (sk := []) (h := (zw sc B S Z L R M0)) (cs := 0) (ss := 0) (c_X6_in l (zw sc B S Z L R M0) i 0 19 (by omega) (by omega) (by omega)) rfl ⟨(by omega), trivial⟩ rfl ⟨Nat.le_refl _, Nat.le_refl _⟩ ?_
  rintro _ _ ⟨ri11, rfl, ei11, rfl⟩
  show V (14, [some (zR 32), some (zI i), some (zI w), some (zI k), some (zI f), some (zI t), none], [zI ri11], (zw sc B S Z L R M0), 0, 0)
  refine z_br c 0 (ri11 = 0) (25, [some (zR 32), some (zI i), some (zI w), some (zI k), some (zI f), some (zI t), none], [], (zw sc B S Z L R M0), 0, 0) (17, [some (zR 32), some (zI i), some (zI w), some (zI k), some (zI f), some (zI t), none], [], (zw sc B S Z L R M0), 0, 0) rfl ⟨(show (-2147483648 : Int) ≤ ri11 ∧ ri11 ≤ 2147483647 by omega), trivial⟩ (fun h14 => ?_) (fun h14 => ?_)
  · exact z_re c 1 (v := some (zI ((-1)))) (h := (zw sc B S Z L R M0)) (cs := 0) (ss := 0) rfl trivial trivial ⟨Nat.le_refl _, Nat.le_refl _⟩ ⟨_, rfl, Or.inl ⟨by omega, rfl, hkM0⟩⟩
  · refine z_cV c 2 k_6_130 zv_X6_noWay (pc := 22) (ls := [some (zR 32), some (zI i), some (zI w), some (zI k), some (zI f), some (zI t), none]) (sk := []) (h := (zw sc B S Z L R M0)) (cs := 0) (ss := 0) (c_X6_noWay l sc B S Z L R M0 w (show 0 ≤ mWays M0 ∧ mWays M0 ≤ 12 by omega) (by omega)) rfl trivial rfl rfl ⟨Nat.le_refl _, Nat.le_refl _⟩ ?_
    rintro _ _ ⟨rw19, rfl, ew19, rfl⟩
    show V (22, [some (zR 32), some (zI i), some (zI w), some (zI k), some (zI f), some (zI t), none], [zI rw19], (zw sc B S Z L R M0), 0, 0)
    refine z_br c 0 (rw19 = 0) (27, [some (zR 32), some (zI i), some (zI w), some (zI k), some (zI f), some (zI t), none], [], (zw sc B S Z L R M0), 0, 0) (25, [some (zR 32), some (zI i), some (zI w), some (zI k), some (zI f), some (zI t), none], [], (zw sc B S Z L R M0), 0, 0) rfl ⟨(show (-2147483648 : Int) ≤ rw19 ∧ rw19 ≤ 2147483647 by omega), trivial⟩ (fun h22 => ?_) (fun h22 => ?_)
    · refine z_cS c 1 k_6_133 zv_X6_noKind (pc := 31) (ls := [some (zR 32), some (zI i), some (zI w), some (zI k), some (zI f), some (zI t), none]) (sk := []) (h := (zw sc B S Z L R M0)) (cs := 0) (ss := 0) (c_X6_noKind l (zw sc B S Z L R M0) k (by omega)) rfl trivial rfl ⟨Nat.le_refl _, Nat.le_refl _⟩ ?_
      rintro _ _ ⟨r28, rfl, e28, rfl⟩
      show V (31, [some (zR 32), some (zI i), some (zI w), some (zI k), some (zI f), some (zI t), none], [zI r28], (zw sc B S Z L R M0), 0, 0)
      refine z_br c 0 (¬ r28 = 0) (54, [some (zR 32), some (zI i), some (zI w), some (zI k), some (zI f), some (zI t), none], [], (zw sc B S Z L R M0), 0, 0) (34, [some (zR 32), some (zI i), some (zI w), some (zI k), some (zI f), some (zI t), none], [], (zw sc B S Z L R M0), 0, 0) rfl ⟨(show (-2147483648 : Int) ≤ r28 ∧ r28 ≤ 2147483647 by omega), trivial⟩ (fun h31 => ?_) (fun h31 => ?_)
      · exact z_re c 1 (v := some (zI ((-2)))) (h := (zw sc B S Z L R M0)) (cs := 0) (ss := 0) rfl trivial trivial ⟨Nat.le_refl _, Nat.le_refl _⟩ ⟨_, rfl, Or.inr (Or.inl ⟨by omega, by omega, rfl, hkM0⟩)⟩
      · refine z_cS c 5 k_6_57 zv_X6_in (pc := 44) (ls := [some (zR 32), some (zI i), some (zI w), some (zI k), some (zI f), some (zI t), none]) (sk := []) (h := (zw sc B S Z L R M0)) (cs := 0) (ss := 0) (c_X6_in l (zw sc B S Z L R M0) f 0 t (by omega) (by omega) (by omega)) rfl ⟨(by omega), (by omega), trivial⟩ rfl ⟨Nat.le_refl _, Nat.le_refl _⟩ ?_
        rintro _ _ ⟨ri41, rfl, ei41, rfl⟩
        show V (44, [some (zR 32), some (zI i), some (zI w), some (zI k), some (zI f), some (zI t), none], [zI ri41], (zw sc B S Z L R M0), 0, 0)
        refine z_br c 0 (ri41 = 0) (54, [some (zR 32), some (zI i), some (zI w), some (zI k), some (zI f), some (zI t), none], [], (zw sc B S Z L R M0), 0, 0) (47, [some (zR 32), some (zI i), some (zI w), some (zI k), some (zI f), some (zI t), none], [], (zw sc B S Z L R M0), 0, 0) rfl ⟨(show (-2147483648 : Int) ≤ ri41 ∧ ri41 ≤ 2147483647 by omega), trivial⟩ (fun h44 => ?_) (fun h44 => ?_)
        · exact z_re c 1 (v := some (zI ((-2)))) (h := (zw sc B S Z L R M0)) (cs := 0) (ss := 0) rfl trivial trivial ⟨Nat.le_refl _, Nat.le_refl _⟩ ⟨_, rfl, Or.inr (Or.inl ⟨by omega, by omega, rfl, hkM0⟩)⟩
        · refine z_br c 2 (t ≤ 100) (57, [some (zR 32), some (zI i), some (zI w), some (zI k), some (zI f), some (zI t), none], [], (zw sc B S Z L R M0), 0, 0) (54, [some (zR 32), some (zI i), some (zI w), some (zI k), some (zI f), some (zI t), none], [], (zw sc B S Z L R M0), 0, 0) rfl ⟨(show ((-2147483648 : Int) ≤ t ∧ t ≤ 2147483647) ∧ (-2147483648 : Int) ≤ 100 ∧ 100 ≤ 2147483647 by omega), trivial⟩ (fun h51 => ?_) (fun h51 => ?_)
          · refine z_br c 3 (¬ (mPages M0) = 100) (69, [some (zR 32), some (zI i), some (zI w), some (zI k), some (zI f), some (zI t), none], [], (zw sc B S Z L R M0), 0, 0) (66, [some (zR 32), some (zI i), some (zI w), some (zI k), some (zI f), some (zI t), none], [], (zw sc B S Z L R M0), 0, 0) rfl ⟨(show ((-2147483648 : Int) ≤ (mPages M0) ∧ (mPages M0) ≤ 2147483647) ∧ (-2147483648 : Int) ≤ 100 ∧ 100 ≤ 2147483647 by omega), trivial⟩ (fun h63 => ?_) (fun h63 => ?_)
            · refine z_cV c 5 k_6_136 zv_X6_write (pc := 78) (ls := [some (zR 32), some (zI i), some (zI w), some (zI k), some (zI f), some (zI t), none]) (sk := []) (h := (zw sc B S Z L R M0)) (cs := 0) (ss := 0) (c_X6_write l sc B S Z L R M0 n 0 w k f eN0 (by omega)) rfl trivial rfl rfl ⟨Nat.le_refl _, Nat.le_refl _⟩ ?_
              rintro _ _ ⟨MA, rfl, rfl, hg0⟩
              show V (78, [some (zR 32), some (zI i), some (zI w), some (zI k), some (zI f), some (zI t), none], [zI n], (zw sc B S Z L R MA), 0, 0)
              refine z_cV c 4 k_6_140 zv_X6_tell (pc := 87) (ls := [some (zR 32), some (zI i), some (zI w), some (zI k), some (zI f), some (zI t), some (zI n)]) (sk := []) (h := (zw sc B S Z L R MA)) (cs := 0) (ss := 0) (c_tell l sc B S Z L R M0 MA n 0 _ 4 t hg0 (by omega) (by omega)) rfl trivial rfl rfl ⟨Nat.le_refl _, Nat.le_refl _⟩ ?_
              rintro _ _ ⟨rfl, MA1, rfl, hg1⟩
              show V (87, [some (zR 32), some (zI i), some (zI w), some (zI k), some (zI f), some (zI t), some (zI n)], [], (zw sc B S Z L R MA1), 0, 0)
              refine z_cV c 3 k_6_140 zv_X6_tell (pc := 93) (ls := [some (zR 32), some (zI i), some (zI w), some (zI k), some (zI f), some (zI t), some (zI n)]) (sk := []) (h := (zw sc B S Z L R MA1)) (cs := 0) (ss := 0) (c_tell l sc B S Z L R M0 MA1 n 0 _ 5 i hg1 (by omega) (by omega)) rfl trivial rfl rfl ⟨Nat.le_refl _, Nat.le_refl _⟩ ?_
              rintro _ _ ⟨rfl, MA2, rfl, hg2⟩
              show V (93, [some (zR 32), some (zI i), some (zI w), some (zI k), some (zI f), some (zI t), some (zI n)], [], (zw sc B S Z L R MA2), 0, 0)
              exact z_re c 1 (v := some (zI n)) (h := (zw sc B S Z L R MA2)) (cs := 0) (ss := 0) rfl trivial trivial ⟨Nat.le_refl _, Nat.le_refl _⟩ ⟨_, rfl, Or.inr (Or.inr (Or.inr ⟨by omega, by omega, by omega, rfl, zMg_k hkM0 hg2⟩))⟩
            · exact z_re c 1 (v := some (zI ((-4)))) (h := (zw sc B S Z L R M0)) (cs := 0) (ss := 0) rfl trivial trivial ⟨Nat.le_refl _, Nat.le_refl _⟩ ⟨_, rfl, Or.inr (Or.inr (Or.inl ⟨by omega, by omega, by omega, rfl, hkM0⟩))⟩
          · exact z_re c 1 (v := some (zI ((-2)))) (h := (zw sc B S Z L R M0)) (cs := 0) (ss := 0) rfl trivial trivial ⟨Nat.le_refl _, Nat.le_refl _⟩ ⟨_, rfl, Or.inr (Or.inl ⟨by omega, by omega, rfl, hkM0⟩)⟩
    · exact z_re c 1 (v := some (zI ((-1)))) (h := (zw sc B S Z L R M0)) (cs := 0) (ss := 0) rfl trivial trivial ⟨Nat.le_refl _, Nat.le_refl _⟩ ⟨_, rfl, Or.inl ⟨by omega, rfl, hkM0⟩⟩
set_option maxRecDepth 4000 in
theorem c_X6_paper (l : Launch) (sc : ZSc) (B : ZBk) (S Z : ZSg) (L : ZLn) (R : ZRd) (M : ZMd) (T K : Int → Int) (n nw : Int) (w k x : Int) (hB : zBv T K n nw) (hM : zMr T n nw M) (hQ : mWithout M = -9) (hnw : 0 ≤ nw ∧ nw ≤ 12) (hw : (-2147483648 ≤ w ∧ w ≤ 2147483647)) (hk : (-2147483648 ≤ k ∧ k ≤ 2147483647)) (hx : (-2147483648 ≤ x ∧ x ≤ 2147483647)) : zMet l m_X6_paper [zR 32, zI w, zI k, zI x] (zw sc B S Z L R M) (fun v h1 => ∃ M1, zw sc B S Z L R M1 = h1 ∧ ((¬ (0 ≤ w ∧ w < nw) ∧ v = some (zI (-1)) ∧ zMk M M1) ∨ ((0 ≤ w ∧ w < nw) ∧ ¬ ((0 ≤ k ∧ k ≤ 2) ∧ 1 ≤ x ∧ x ≤ 9) ∧ v = some (zI (-2)) ∧ zMk M M1) ∨ ((0 ≤ w ∧ w < nw) ∧ ((0 ≤ k ∧ k ≤ 2) ∧ 1 ≤ x ∧ x ≤ 9) ∧ (n = 100) ∧ v = some (zI (-4)) ∧ zMk M M1) ∨ ((0 ≤ w ∧ w < nw) ∧ ((0 ≤ k ∧ k ≤ 2) ∧ 1 ≤ x ∧ x ≤ 9) ∧ ¬ (n = 100) ∧ v = some (zI n) ∧ zMg M M1 n (zup (zup (zup (zup (zup (fun _ => -9) 0 1) 1 w) 2 k) 3 (-9)) 6 x) 0))) := by
  refine z_method g_X6_paper [some (zR 32), some (zI w), some (zI k), some (zI x), none] rfl rfl (fun V c => ?_)
  obtain ⟨hn, hT, -, hv, hno, hKs⟩ := id hB
  refine z_go c 3 (s1 := (5, [some (zR 32), some (zI w), some (zI k), some (zI x), none], [], (zw sc B S Z L R ((0, (mWays M), (mOne M), (mTwo M), (mPages M), (mOrders M)), ((mSort M), (mTold M), (mLast M), (mWithout M), (mIsIn M), (mNeeds M)), ((mPersons M), (mGaps M), (mWeight M), (mSeen M), (mFew M), (mBroken M)), ((mHolds M), (mMany M), (mOrder M), (mIsGood M), (mFar M)))), 0, 0)) rfl trivial ?_
  have hkM0 : zMk M ((0, (mWays M), (mOne M), (mTwo M), (mPages M), (mOrders M)), ((mSort M), (mTold M), (mLast M), (mWithout M), (mIsIn M), (mNeeds M)), ((mPersons M), (mGaps M), (mWeight M), (mSeen M), (mFew M), (mBroken M)), ((mHolds M), (mMany M), (mOrder M), (mIsGood M), (mFar M))) := ⟨rfl, rfl, rfl, rfl⟩
  generalize (((0, (mWays M), (mOne M), (mTwo M), (mPages M), (mOrders M)), ((mSort M), (mTold M), (mLast M), (mWithout M), (mIsIn M), (mNeeds M)), ((mPersons M), (mGaps M), (mWeight M), (mSeen M), (mFew M), (mBroken M)), ((mHolds M), (mMany M), (mOrder M), (mIsGood M), (mFar M))) : ZMd) = M0 at hkM0 ⊢
  have hM0 := zMr_k hM hkM0
  have hQ0 : mWithout M0 = -9 := hkM0.2.2.2.trans hQ
  have eN0 := hM0.1
  have eW0 := hM0.2.1
  refine z_cV c 2 k_6_130 zv_X6_noWay (pc := 10) (ls := [some (zR 32), some (zI w), some (zI k), some (zI x), none]) (sk := []) (h := (zw sc B S Z L R M0)) (cs := 0) (ss := 0) (c_X6_noWay l sc B S Z L R M0 w (show 0 ≤ mWays M0 ∧ mWays M0 ≤ 12 by omega) (by omega)) rfl trivial rfl rfl ⟨Nat.le_refl _, Nat.le_refl _⟩ ?_
  rintro _ _ ⟨rw7, rfl, ew7, rfl⟩
  show V (10, [some (zR 32), some (zI w), some (zI k), some (zI x), none], [zI rw7], (zw sc B S Z L R M0), 0, 0)
  refine z_br c 0 (rw7 = 0) (15, [some (zR 32), some (zI w), some (zI k), some (zI x), none], [], (zw sc B S Z L R M0), 0, 0) (13, [some (zR 32), some (zI w), some (zI k), some (zI x), none], [], (zw sc B S Z L R M0), 0, 0) rfl ⟨(show (-2147483648 : Int) ≤ rw7 ∧ rw7 ≤ 2147483647 by omega), trivial⟩ (fun h10 => ?_) (fun h10 => ?_)
  · refine z_cS c 1 k_6_133 zv_X6_noKind (pc := 19) (ls := [some (zR 32), some (zI w), some (zI k), some (zI x), none]) (sk := []) (h := (zw sc B S Z L R M0)) (cs := 0) (ss := 0) (c_X6_noKind l (zw sc B S Z L R M0) k (by omega)) rfl trivial rfl ⟨Nat.le_refl _, Nat.le_refl _⟩ ?_
    rintro _ _ ⟨r16, rfl, e16, rfl⟩
    show V (19, [some (zR 32), some (zI w), some (zI k), some (zI x), none], [zI r16], (zw sc B S Z L R M0), 0, 0)
    refine z_br c 0 (¬ r16 = 0) (34, [some (zR 32), some (zI w), some (zI k), some (zI x), none], [], (zw sc B S Z L R M0), 0, 0) (22, [some (zR 32), some (zI w), some (zI k), some (zI x), none], [], (zw sc B S Z L R M0), 0, 0) rfl ⟨(show (-2147483648 : Int) ≤ r16 ∧ r16 ≤ 2147483647 by omega), trivial⟩ (fun h19 => ?_) (fun h19 => ?_)
    · exact z_re c 1 (v := some (zI ((-2)))) (h := (zw sc B S Z L R M0)) (cs := 0) (ss := 0) rfl trivial trivial ⟨Nat.le_refl _, Nat.le_refl _⟩ ⟨_, rfl, Or.inr (Or.inl ⟨by omega, by omega, rfl, hkM0⟩)⟩
    · refine z_cS c 4 k_6_57 zv_X6_in (pc := 31) (ls := [some (zR 32), some (zI w), some (zI k), some (zI x), none]) (sk := []) (h := (zw sc B S Z L R M0)) (cs := 0) (ss := 0) (c_X6_in l (zw sc B S Z L R M0) x 1 9 (by omega) (by omega) (by omega)) rfl ⟨(by omega), trivial⟩ rfl ⟨Nat.le_refl _, Nat.le_refl _⟩ ?_
      rintro _ _ ⟨ri28, rfl, ei28, rfl⟩
      show V (31, [some (zR 32), some (zI w), some (zI k), some (zI x), none], [zI ri28], (zw sc B S Z L R M0), 0, 0)
      refine z_br c 0 (¬ ri28 = 0) (37, [some (zR 32), some (zI w), some (zI k), some (zI x), none], [], (zw sc B S Z L R M0), 0, 0) (34, [some (zR 32), some (zI w), some (zI k), some (zI x), none], [], (zw sc B S Z L R M0), 0, 0) rfl ⟨(show (-2147483648 : Int) ≤ ri28 ∧ ri28 ≤ 2147483647 by omega), trivial⟩ (fun h31 => ?_) (fun h31 => ?_)
      · refine z_br c 3 (¬ (mPages M0) = 100) (49, [some (zR 32), some (zI w), some (zI k), some (zI x), none], [], (zw sc B S Z L R M0), 0, 0) (46, [some (zR 32), some (zI w), some (zI k), some (zI x), none], [], (zw sc B S Z L R M0), 0, 0) rfl ⟨(show ((-2147483648 : Int) ≤ (mPages M0) ∧ (mPages M0) ≤ 2147483647) ∧ (-2147483648 : Int) ≤ 100 ∧ 100 ≤ 2147483647 by omega), trivial⟩ (fun h43 => ?_) (fun h43 => ?_)
        · refine z_cV c 5 k_6_136 zv_X6_write (pc := 58) (ls := [some (zR 32), some (zI w), some (zI k), some (zI x), none]) (sk := []) (h := (zw sc B S Z L R M0)) (cs := 0) (ss := 0) (c_X6_write l sc B S Z L R M0 n 1 w k ((-9)) eN0 (by omega)) rfl trivial rfl rfl ⟨Nat.le_refl _, Nat.le_refl _⟩ ?_
          rintro _ _ ⟨MA, rfl, rfl, hg0⟩
          show V (58, [some (zR 32), some (zI w), some (zI k), some (zI x), none], [zI n], (zw sc B S Z L R MA), 0, 0)
          refine z_cV c 4 k_6_140 zv_X6_tell (pc := 67) (ls := [some (zR 32), some (zI w), some (zI k), some (zI x), some (zI n)]) (sk := []) (h := (zw sc B S Z L R MA)) (cs := 0) (ss := 0) (c_tell l sc B S Z L R M0 MA n 0 _ 6 x hg0 (by omega) (by omega)) rfl trivial rfl rfl ⟨Nat.le_refl _, Nat.le_refl _⟩ ?_
          rintro _ _ ⟨rfl, MA1, rfl, hg1⟩
          show V (67, [some (zR 32), some (zI w), some (zI k), some (zI x), some (zI n)], [], (zw sc B S Z L R MA1), 0, 0)
          exact z_re c 1 (v := some (zI n)) (h := (zw sc B S Z L R MA1)) (cs := 0) (ss := 0) rfl trivial trivial ⟨Nat.le_refl _, Nat.le_refl _⟩ ⟨_, rfl, Or.inr (Or.inr (Or.inr ⟨by omega, by omega, by omega, rfl, zMg_k hkM0 hg1⟩))⟩
        · exact z_re c 1 (v := some (zI ((-4)))) (h := (zw sc B S Z L R M0)) (cs := 0) (ss := 0) rfl trivial trivial ⟨Nat.le_refl _, Nat.le_refl _⟩ ⟨_, rfl, Or.inr (Or.inr (Or.inl ⟨by omega, by omega, by omega, rfl, hkM0⟩))⟩
      · exact z_re c 1 (v := some (zI ((-2)))) (h := (zw sc B S Z L R M0)) (cs := 0) (ss := 0) rfl trivial trivial ⟨Nat.le_refl _, Nat.le_refl _⟩ ⟨_, rfl, Or.inr (Or.inl ⟨by omega, by omega, rfl, hkM0⟩)⟩
  · exact z_re c 1 (v := some (zI ((-1)))) (h := (zw sc B S Z L R M0)) (cs := 0) (ss := 0) rfl trivial trivial ⟨Nat.le_refl _, Nat.le_refl _⟩ ⟨_, rfl, Or.inl ⟨by omega, rfl, hkM0⟩⟩
set_option maxRecDepth 4000 in
theorem c_X6_broke (l : Launch) (sc : ZSc) (B : ZBk) (S Z : ZSg) (L : ZLn) (R : ZRd) (M : ZMd) (T K : Int → Int) (n nw : Int) (w y : Int) (hB : zBv T K n nw) (hM : zMr T n nw M) (hQ : mWithout M = -9) (hnw : 0 ≤ nw ∧ nw ≤ 12) (hw : (-2147483648 ≤ w ∧ w ≤ 2147483647)) (hy : (-2147483648 ≤ y ∧ y ≤ 2147483647)) : zMet l m_X6_broke [zR 32, zI w, zI y] (zw sc B S Z L R M) (fun v h1 => ∃ M1, zw sc B S Z L R M1 = h1 ∧ ((¬ (0 ≤ w ∧ w < nw) ∧ v = some (zI (-1)) ∧ zMk M M1) ∨ ((0 ≤ w ∧ w < nw) ∧ ¬ ((0 ≤ y ∧ y ≤ 100)) ∧ v = some (zI (-2)) ∧ zMk M M1) ∨ ((0 ≤ w ∧ w < nw) ∧ ((0 ≤ y ∧ y ≤ 100)) ∧ (n = 100) ∧ v = some (zI (-4)) ∧ zMk M M1) ∨ ((0 ≤ w ∧ w < nw) ∧ ((0 ≤ y ∧ y ≤ 100)) ∧ ¬ (n = 100) ∧ v = some (zI n) ∧ zMg M M1 n (zup (zup (zup (zup (fun _ => -9) 0 2) 1 w) 2 (-9)) 3 y) 0))) := by
  refine z_method g_X6_broke [some (zR 32), some (zI w), some (zI y)] rfl rfl (fun V c => ?_)
  obtain ⟨hn, hT, -, hv, hno, hKs⟩ := id hB
  refine z_go c 3 (s1 := (5, [some (zR 32), some (zI w), some (zI y)], [], (zw sc B S Z L R ((0, (mWays M), (mOne M), (mTwo M), (mPages M), (mOrders M)), ((mSort M), (mTold M), (mLast M), (mWithout M), (mIsIn M), (mNeeds M)), ((mPersons M), (mGaps M), (mWeight M), (mSeen M), (mFew M), (mBroken M)), ((mHolds M), (mMany M), (mOrder M), (mIsGood M), (mFar M)))), 0, 0)) rfl trivial ?_
  have hkM0 : zMk M ((0, (mWays M), (mOne M), (mTwo M), (mPages M), (mOrders M)), ((mSort M), (mTold M), (mLast M), (mWithout M), (mIsIn M), (mNeeds M)), ((mPersons M), (mGaps M), (mWeight M), (mSeen M), (mFew M), (mBroken M)), ((mHolds M), (mMany M), (mOrder M), (mIsGood M), (mFar M))) := ⟨rfl, rfl, rfl, rfl⟩
  generalize (((0, (mWays M), (mOne M), (mTwo M), (mPages M), (mOrders M)), ((mSort M), (mTold M), (mLast M), (mWithout M), (mIsIn M), (mNeeds M)), ((mPersons M), (mGaps M), (mWeight M), (mSeen M), (mFew M), (mBroken M)), ((mHolds M), (mMany M), (mOrder M), (mIsGood M), (mFar M))) : ZMd) = M0 at hkM0 ⊢
  have hM0 := zMr_k hM hkM0
  have hQ0 : mWithout M0 = -9 := hkM0.2.2.2.trans hQ
  have eN0 := hM0.1
  have eW0 := hM0.2.1
  refine z_cV c 2 k_6_130 zv_X6_noWay (pc := 10) (ls := [some (zR 32), some (zI w), some (zI y)]) (sk := []) (h := (zw sc B S Z L R M0)) (cs := 0) (ss := 0) (c_X6_noWay l sc B S Z L R M0 w (show 0 ≤ mWays M0 ∧ mWays M0 ≤ 12 by omega) (by omega)) rfl trivial rfl rfl ⟨Nat.le_refl _, Nat.le_refl _⟩ ?_
  rintro _ _ ⟨rw7, rfl, ew7, rfl⟩
  show V (10, [some (zR 32), some (zI w), some (zI y)], [zI rw7], (zw sc B S Z L R M0), 0, 0)
  refine z_br c 0 (rw7 = 0) (15, [some (zR 32), some (zI w), some (zI y)], [], (zw sc B S Z L R M0), 0, 0) (13, [some (zR 32), some (zI w), some (zI y)], [], (zw sc B S Z L R M0), 0, 0) rfl ⟨(show (-2147483648 : Int) ≤ rw7 ∧ rw7 ≤ 2147483647 by omega), trivial⟩ (fun h10 => ?_) (fun h10 => ?_)
  · refine z_cS c 1 k_6_143 zv_X6_noYear (pc := 19) (ls := [some (zR 32), some (zI w), some (zI y)]) (sk := []) (h := (zw sc B S Z L R M0)) (cs := 0) (ss := 0) (c_X6_noYear l (zw sc B S Z L R M0) y (by omega)) rfl trivial rfl ⟨Nat.le_refl _, Nat.le_refl _⟩ ?_
    rintro _ _ ⟨r16, rfl, e16, rfl⟩
    show V (19, [some (zR 32), some (zI w), some (zI y)], [zI r16], (zw sc B S Z L R M0), 0, 0)
    refine z_br c 0 (r16 = 0) (25, [some (zR 32), some (zI w), some (zI y)], [], (zw sc B S Z L R M0), 0, 0) (22, [some (zR 32), some (zI w), some (zI y)], [], (zw sc B S Z L R M0), 0, 0) rfl ⟨(show (-2147483648 : Int) ≤ r16 ∧ r16 ≤ 2147483647 by omega), trivial⟩ (fun h19 => ?_) (fun h19 => ?_)
    · refine z_br c 3 (¬ (mPages M0) = 100) (39, [some (zR 32), some (zI w), some (zI y)], [], (zw sc B S Z L R M0), 0, 0) (34, [some (zR 32), some (zI w), some (zI y)], [], (zw sc B S Z L R M0), 0, 0) rfl ⟨(show ((-2147483648 : Int) ≤ (mPages M0) ∧ (mPages M0) ≤ 2147483647) ∧ (-2147483648 : Int) ≤ 100 ∧ 100 ≤ 2147483647 by omega), trivial⟩ (fun h31 => ?_) (fun h31 => ?_)
      · refine z_cV c 5 k_6_136 zv_X6_write (pc := 48) (ls := [some (zR 32), some (zI w), some (zI y)]) (sk := []) (h := (zw sc B S Z L R M0)) (cs := 0) (ss := 0) (c_X6_write l sc B S Z L R M0 n 2 w ((-9)) y eN0 (by omega)) rfl trivial rfl rfl ⟨Nat.le_refl _, Nat.le_refl _⟩ ?_
        rintro _ _ ⟨MA, rfl, rfl, hg0⟩
        show V (48, [some (zR 32), some (zI w), some (zI y)], [zI n], (zw sc B S Z L R MA), 0, 0)
        exact z_re c 0 (v := some (zI n)) (h := (zw sc B S Z L R MA)) (cs := 0) (ss := 0) rfl trivial trivial ⟨Nat.le_refl _, Nat.le_refl _⟩ ⟨_, rfl, Or.inr (Or.inr (Or.inr ⟨by omega, by omega, by omega, rfl, zMg_k hkM0 hg0⟩))⟩
      · exact z_re c 2 (v := some (zI ((-4)))) (h := (zw sc B S Z L R M0)) (cs := 0) (ss := 0) rfl trivial trivial ⟨Nat.le_refl _, Nat.le_refl _⟩ ⟨_, rfl, Or.inr (Or.inr (Or.inl ⟨by omega, by omega, by omega, rfl, hkM0⟩))⟩
    · exact z_re c 1 (v := some (zI ((-2)))) (h := (zw sc B S Z L R M0)) (cs := 0) (ss := 0) rfl trivial trivial ⟨Nat.le_refl _, Nat.le_refl _⟩ ⟨_, rfl, Or.inr (Or.inl ⟨by omega, by omega, rfl, hkM0⟩)⟩
  · exact z_re c 1 (v := some (zI ((-1)))) (h := (zw sc B S Z L R M0)) (cs := 0) (ss := 0) rfl trivial trivial ⟨Nat.le_refl _, Nat.le_refl _⟩ ⟨_, rfl, Or.inl ⟨by omega, rfl, hkM0⟩⟩
set_option maxRecDepth 4000 in
theorem c_X6_stop (l : Launch) (sc : ZSc) (B : ZBk) (S Z : ZSg) (L : ZLn) (R : ZRd) (M : ZMd) (T K : Int → Int) (n nw : Int) (w y d : Int) (hB : zBv T K n nw) (hM : zMr T n nw M) (hQ : mWithout M = -9) (hnw : 0 ≤ nw ∧ nw ≤ 12) (ho : 0 ≤ mOrders M ∧ mOrders M ≤ 20) (hw : (-2147483648 ≤ w ∧ w ≤ 2147483647)) (hy : (-2147483648 ≤ y ∧ y ≤ 2147483647)) (hd : (-2147483648 ≤ d ∧ d ≤ 2147483647)) : zMet l m_X6_stop [zR 32, zI w, zI y, zI d] (zw sc B S Z L R M) (fun v h1 => ∃ M1, zw sc B S Z L R M1 = h1 ∧ ((¬ (0 ≤ w ∧ w < nw) ∧ v = some (zI (-1)) ∧ zMk M M1) ∨ ((0 ≤ w ∧ w < nw) ∧ ¬ ((0 ≤ y ∧ y ≤ 100) ∧ (0 ≤ d ∧ d ≤ 365)) ∧ v = some (zI (-2)) ∧ zMk M M1) ∨ ((0 ≤ w ∧ w < nw) ∧ ((0 ≤ y ∧ y ≤ 100) ∧ (0 ≤ d ∧ d ≤ 365)) ∧ (n = 100 ∨ mOrders M = 20) ∧ v = some (zI (-4)) ∧ zMk M M1) ∨ ((0 ≤ w ∧ w < nw) ∧ ((0 ≤ y ∧ y ≤ 100) ∧ (0 ≤ d ∧ d ≤ 365)) ∧ ¬ (n = 100 ∨ mOrders M = 20) ∧ v = some (zI n) ∧ zMg M M1 n (zup (zup (zup (zup (zup (fun _ => -9) 0 3) 1 w) 2 (-9)) 3 y) 7 d) 1))) := by
  refine z_method g_X6_stop [some (zR 32), some (zI w), some (zI y), some (zI d)] rfl rfl (fun V c => ?_)
  obtain ⟨hn, hT, -, hv, hno, hKs⟩ := id hB
  refine z_go c 3 (s1 := (5, [some (zR 32), some (zI w), some (zI y), some (zI d)], [], (zw sc B S Z L R ((0, (mWays M), (mOne M), (mTwo M), (mPages M), (mOrders M)), ((mSort M), (mTold M), (mLast M), (mWithout M), (mIsIn M), (mNeeds M)), ((mPersons M), (mGaps M), (mWeight M), (mSeen M), (mFew M), (mBroken M)), ((mHolds M), (mMany M), (mOrder M), (mIsGood M), (mFar M)))), 0, 0)) rfl trivial ?_
  have hkM0 : zMk M ((0, (mWays M), (mOne M), (mTwo M), (mPages M), (mOrders M)), ((mSort M), (mTold M), (mLast M), (mWithout M), (mIsIn M), (mNeeds M)), ((mPersons M), (mGaps M), (mWeight M), (mSeen M), (mFew M), (mBroken M)), ((mHolds M), (mMany M), (mOrder M), (mIsGood M), (mFar M))) := ⟨rfl, rfl, rfl, rfl⟩
  generalize (((0, (mWays M), (mOne M), (mTwo M), (mPages M), (mOrders M)), ((mSort M), (mTold M), (mLast M), (mWithout M), (mIsIn M), (mNeeds M)), ((mPersons M), (mGaps M), (mWeight M), (mSeen M), (mFew M), (mBroken M)), ((mHolds M), (mMany M), (mOrder M), (mIsGood M), (mFar M))) : ZMd) = M0 at hkM0 ⊢
  have hM0 := zMr_k hM hkM0
  have hQ0 : mWithout M0 = -9 := hkM0.2.2.2.trans hQ
  have eN0 := hM0.1
  have eW0 := hM0.2.1
  refine z_cV c 2 k_6_130 zv_X6_noWay (pc := 10) (ls := [some (zR 32), some (zI w), some (zI y), some (zI d)]) (sk := []) (h := (zw sc B S Z L R M0)) (cs := 0) (ss := 0) (c_X6_noWay l sc B S Z L R M0 w (show 0 ≤ mWays M0 ∧ mWays M0 ≤ 12 by omega) (by omega)) rfl trivial rfl rfl ⟨Nat.le_refl _, Nat.le_refl _⟩ ?_
  rintro _ _ ⟨rw7, rfl, ew7, rfl⟩
  show V (10, [some (zR 32), some (zI w), some (zI y), some (zI d)], [zI rw7], (zw sc B S Z L R M0), 0, 0)
  refine z_br c 0 (rw7 = 0) (15, [some (zR 32), some (zI w), some (zI y), some (zI d)], [], (zw sc B S Z L R M0), 0, 0) (13, [some (zR 32), some (zI w), some (zI y), some (zI d)], [], (zw sc B S Z L R M0), 0, 0) rfl ⟨(show (-2147483648 : Int) ≤ rw7 ∧ rw7 ≤ 2147483647 by omega), trivial⟩ (fun h10 => ?_) (fun h10 => ?_)
  · refine z_cS c 1 k_6_143 zv_X6_noYear (pc := 19) (ls := [some (zR 32), some (zI w), some (zI y), some (zI d)]) (sk := []) (h := (zw sc B S Z L R M0)) (cs := 0) (ss := 0) (c_X6_noYear l (zw sc B S Z L R M0) y (by omega)) rfl trivial rfl ⟨Nat.le_refl _, Nat.le_refl _⟩ ?_
    rintro _ _ ⟨r16, rfl, e16, rfl⟩
    show V (19, [some (zR 32), some (zI w), some (zI y), some (zI d)], [zI r16], (zw sc B S Z L R M0), 0, 0)
    refine z_br c 0 (¬ r16 = 0) (34, [some (zR 32), some (zI w), some (zI y), some (zI d)], [], (zw sc B S Z L R M0), 0, 0) (22, [some (zR 32), some (zI w), some (zI y), some (zI d)], [], (zw sc B S Z L R M0), 0, 0) rfl ⟨(show (-2147483648 : Int) ≤ r16 ∧ r16 ≤ 2147483647 by omega), trivial⟩ (fun h19 => ?_) (fun h19 => ?_)
    · exact z_re c 2 (v := some (zI ((-2)))) (h := (zw sc B S Z L R M0)) (cs := 0) (ss := 0) rfl trivial trivial ⟨Nat.le_refl _, Nat.le_refl _⟩ ⟨_, rfl, Or.inr (Or.inl ⟨by omega, by omega, rfl, hkM0⟩)⟩
    · refine z_cS c 4 k_6_57 zv_X6_in (pc := 31) (ls := [some (zR 32), some (zI w), some (zI y), some (zI d)]) (sk := []) (h := (zw sc B S Z L R M0)) (cs := 0) (ss := 0) (c_X6_in l (zw sc B S Z L R M0) d 0 365 (by omega) (by omega) (by omega)) rfl ⟨(by omega), trivial⟩ rfl ⟨Nat.le_refl _, Nat.le_refl _⟩ ?_
      rintro _ _ ⟨ri28, rfl, ei28, rfl⟩
      show V (31, [some (zR 32), some (zI w), some (zI y), some (zI d)], [zI ri28], (zw sc B S Z L R M0), 0, 0)
      refine z_br c 0 (¬ ri28 = 0) (39, [some (zR 32), some (zI w), some (zI y), some (zI d)], [], (zw sc B S Z L R M0), 0, 0) (34, [some (zR 32), some (zI w), some (zI y), some (zI d)], [], (zw sc B S Z L R M0), 0, 0) rfl ⟨(show (-2147483648 : Int) ≤ ri28 ∧ ri28 ≤ 2147483647 by omega), trivial⟩ (fun h31 => ?_) (fun h31 => ?_)
      · refine z_cV c 6 k_6_151 zv_X6_ordered (pc := 49) (ls := [some (zR 32), some (zI w), some (zI y), some (zI d)]) (sk := []) (h := (zw sc B S Z L R M0)) (cs := 0) (ss := 0) (c_X6_ordered l sc B S Z L R M0 n 3 w ((-9)) y d eN0 hn (by have := congrArg (fun z => z.2.2.2.2) hkM0.1; have h8 : mOrders M0 = mOrders M := this; omega)) rfl trivial rfl rfl ⟨Nat.le_refl _, Nat.le_refl _⟩ ?_
        rintro v1 _ ⟨MO, r1, rfl, rfl, hor⟩
        have hoM : mOrders M0 = mOrders M := congrArg (fun z => z.2.2.2.2) hkM0.1
        show V (49, [some (zR 32), some (zI w), some (zI y), some (zI d)], [zI r1], (zw sc B S Z L R MO), 0, 0)
        exact z_re c 0 (v := some (zI r1)) (h := (zw sc B S Z L R MO)) (cs := 0) (ss := 0) rfl trivial trivial ⟨Nat.le_refl _, Nat.le_refl _⟩ ⟨_, rfl, by
            rcases hor with ⟨q1, q2, q3⟩ | ⟨q1, q2, q3⟩
            · rw [q3, q2]; exact Or.inr (Or.inr (Or.inl ⟨by omega, by omega, by omega, rfl, hkM0⟩))
            · rw [q2]; exact Or.inr (Or.inr (Or.inr ⟨by omega, by omega, by omega, rfl, zMg_k hkM0 q3⟩))⟩
      · exact z_re c 2 (v := some (zI ((-2)))) (h := (zw sc B S Z L R M0)) (cs := 0) (ss := 0) rfl trivial trivial ⟨Nat.le_refl _, Nat.le_refl _⟩ ⟨_, rfl, Or.inr (Or.inl ⟨by omega, by omega, rfl, hkM0⟩)⟩
  · exact z_re c 1 (v := some (zI ((-1)))) (h := (zw sc B S Z L R M0)) (cs := 0) (ss := 0) rfl trivial trivial ⟨Nat.le_refl _, Nat.le_refl _⟩ ⟨_, rfl, Or.inl ⟨by omega, rfl, hkM0⟩⟩
set_option maxRecDepth 4000 in
theorem c_X6_make (l : Launch) (sc : ZSc) (B : ZBk) (S Z : ZSg) (L : ZLn) (R : ZRd) (M : ZMd) (T K : Int → Int) (n nw : Int) (w k y d : Int) (hB : zBv T K n nw) (hM : zMr T n nw M) (hQ : mWithout M = -9) (hnw : 0 ≤ nw ∧ nw ≤ 12) (ho : 0 ≤ mOrders M ∧ mOrders M ≤ 20) (hw : (-2147483648 ≤ w ∧ w ≤ 2147483647)) (hk : (-2147483648 ≤ k ∧ k ≤ 2147483647)) (hy : (-2147483648 ≤ y ∧ y ≤ 2147483647)) (hd : (-2147483648 ≤ d ∧ d ≤ 2147483647)) : zMet l m_X6_make [zR 32, zI w, zI k, zI y, zI d] (zw sc B S Z L R M) (fun v h1 => ∃ M1, zw sc B S Z L R M1 = h1 ∧ ((¬ (0 ≤ w ∧ w < nw) ∧ v = some (zI (-1)) ∧ zMk M M1) ∨ ((0 ≤ w ∧ w < nw) ∧ ¬ ((0 ≤ k ∧ k ≤ 2) ∧ (0 ≤ y ∧ y ≤ 100) ∧ (0 ≤ d ∧ d ≤ 365)) ∧ v = some (zI (-2)) ∧ zMk M M1) ∨ ((0 ≤ w ∧ w < nw) ∧ ((0 ≤ k ∧ k ≤ 2) ∧ (0 ≤ y ∧ y ≤ 100) ∧ (0 ≤ d ∧ d ≤ 365)) ∧ (n = 100 ∨ mOrders M = 20) ∧ v = some (zI (-4)) ∧ zMk M M1) ∨ ((0 ≤ w ∧ w < nw) ∧ ((0 ≤ k ∧ k ≤ 2) ∧ (0 ≤ y ∧ y ≤ 100) ∧ (0 ≤ d ∧ d ≤ 365)) ∧ ¬ (n = 100 ∨ mOrders M = 20) ∧ v = some (zI n) ∧ zMg M M1 n (zup (zup (zup (zup (zup (fun _ => -9) 0 4) 1 w) 2 k) 3 y) 7 d) 1))) := by
  refine z_method g_X6_make [some (zR 32), some (zI w), some (zI k), some (zI y), some (zI d)] rfl rfl (fun V c => ?_)
  obtain ⟨hn, hT, -, hv, hno, hKs⟩ := id hB
  refine z_go c 3 (s1 := (5, [some (zR 32), some (zI w), some (zI k), some (zI y), some (zI d)], [], (zw sc B S Z L R ((0, (mWays M), (mOne M), (mTwo M), (mPages M), (mOrders M)), ((mSort M), (mTold M), (mLast M), (mWithout M), (mIsIn M), (mNeeds M)), ((mPersons M), (mGaps M), (mWeight M), (mSeen M), (mFew M), (mBroken M)), ((mHolds M), (mMany M), (mOrder M), (mIsGood M), (mFar M)))), 0, 0)) rfl trivial ?_
  have hkM0 : zMk M ((0, (mWays M), (mOne M), (mTwo M), (mPages M), (mOrders M)), ((mSort M), (mTold M), (mLast M), (mWithout M), (mIsIn M), (mNeeds M)), ((mPersons M), (mGaps M), (mWeight M), (mSeen M), (mFew M), (mBroken M)), ((mHolds M), (mMany M), (mOrder M), (mIsGood M), (mFar M))) := ⟨rfl, rfl, rfl, rfl⟩
  generalize (((0, (mWays M), (mOne M), (mTwo M), (mPages M), (mOrders M)), ((mSort M), (mTold M), (mLast M), (mWithout M), (mIsIn M), (mNeeds M)), ((mPersons M), (mGaps M), (mWeight M), (mSeen M), (mFew M), (mBroken M)), ((mHolds M), (mMany M), (mOrder M), (mIsGood M), (mFar M))) : ZMd) = M0 at hkM0 ⊢
  have hM0 := zMr_k hM hkM0
  have hQ0 : mWithout M0 = -9 := hkM0.2.2.2.trans hQ
  have eN0 := hM0.1
  have eW0 := hM0.2.1
  refine z_cV c 2 k_6_130 zv_X6_noWay (pc := 10) (ls := [some (zR 32), some (zI w), some (zI k), some (zI y), some (zI d)]) (sk := []) (h := (zw sc B S Z L R M0)) (cs := 0) (ss := 0) (c_X6_noWay l sc B S Z L R M0 w (show 0 ≤ mWays M0 ∧ mWays M0 ≤ 12 by omega) (by omega)) rfl trivial rfl rfl ⟨Nat.le_refl _, Nat.le_refl _⟩ ?_
  rintro _ _ ⟨rw7, rfl, ew7, rfl⟩
  show V (10, [some (zR 32), some (zI w), some (zI k), some (zI y), some (zI d)], [zI rw7], (zw sc B S Z L R M0), 0, 0)
  refine z_br c 0 (rw7 = 0) (15, [some (zR 32), some (zI w), some (zI k), some (zI y), some (zI d)], [], (zw sc B S Z L R M0), 0, 0) (13, [some (zR 32), some (zI w), some (zI k), some (zI y), some (zI d)], [], (zw sc B S Z L R M0), 0, 0) rfl ⟨(show (-2147483648 : Int) ≤ rw7 ∧ rw7 ≤ 2147483647 by omega), trivial⟩ (fun h10 => ?_) (fun h10 => ?_)
  · refine z_cS c 1 k_6_133 zv_X6_noKind (pc := 19) (ls := [some (zR 32), some (zI w), some (zI k), some (zI y), some (zI d)]) (sk := []) (h := (zw sc B S Z L R M0)) (cs := 0) (ss := 0) (c_X6_noKind l (zw sc B S Z L R M0) k (by omega)) rfl trivial rfl ⟨Nat.le_refl _, Nat.le_refl _⟩ ?_
    rintro _ _ ⟨r16, rfl, e16, rfl⟩
    show V (19, [some (zR 32), some (zI w), some (zI k), some (zI y), some (zI d)], [zI r16], (zw sc B S Z L R M0), 0, 0)
    refine z_br c 0 (¬ r16 = 0) (42, [some (zR 32), some (zI w), some (zI k), some (zI y), some (zI d)], [], (zw sc B S Z L R M0), 0, 0) (22, [some (zR 32), some (zI w), some (zI k), some (zI y), some (zI d)], [], (zw sc B S Z L R M0), 0, 0) rfl ⟨(show (-2147483648 : Int) ≤ r16 ∧ r16 ≤ 2147483647 by omega), trivial⟩ (fun h19 => ?_) (fun h19 => ?_)
    · exact z_re c 2 (v := some (zI ((-2)))) (h := (zw sc B S Z L R M0)) (cs := 0) (ss := 0) rfl trivial trivial ⟨Nat.le_refl _, Nat.le_refl _⟩ ⟨_, rfl, Or.inr (Or.inl ⟨by omega, by omega, rfl, hkM0⟩)⟩
    · refine z_cS c 1 k_6_143 zv_X6_noYear (pc := 26) (ls := [some (zR 32), some (zI w), some (zI k), some (zI y), some (zI d)]) (sk := []) (h := (zw sc B S Z L R M0)) (cs := 0) (ss := 0) (c_X6_noYear l (zw sc B S Z L R M0) y (by omega)) rfl trivial rfl ⟨Nat.le_refl _, Nat.le_refl _⟩ ?_
      rintro _ _ ⟨r23, rfl, e23, rfl⟩
      show V (26, [some (zR 32), some (zI w), some (zI k), some (zI y), some (zI d)], [zI r23], (zw sc B S Z L R M0), 0, 0)
      refine z_br c 0 (¬ r23 = 0) (42, [some (zR 32), some (zI w), some (zI k), some (zI y), some (zI d)], [], (zw sc B S Z L R M0), 0, 0) (29, [some (zR 32), some (zI w), some (zI k), some (zI y), some (zI d)], [], (zw sc B S Z L R M0), 0, 0) rfl ⟨(show (-2147483648 : Int) ≤ r23 ∧ r23 ≤ 2147483647 by omega), trivial⟩ (fun h26 => ?_) (fun h26 => ?_)
      · exact z_re c 2 (v := some (zI ((-2)))) (h := (zw sc B S Z L R M0)) (cs := 0) (ss := 0) rfl trivial trivial ⟨Nat.le_refl _, Nat.le_refl _⟩ ⟨_, rfl, Or.inr (Or.inl ⟨by omega, by omega, rfl, hkM0⟩)⟩
      · refine z_cS c 4 k_6_57 zv_X6_in (pc := 39) (ls := [some (zR 32), some (zI w), some (zI k), some (zI y), some (zI d)]) (sk := []) (h := (zw sc B S Z L R M0)) (cs := 0) (ss := 0) (c_X6_in l (zw sc B S Z L R M0) d 0 365 (by omega) (by omega) (by omega)) rfl ⟨(by omega), trivial⟩ rfl ⟨Nat.le_refl _, Nat.le_refl _⟩ ?_
        rintro _ _ ⟨ri36, rfl, ei36, rfl⟩
        show V (39, [some (zR 32), some (zI w), some (zI k), some (zI y), some (zI d)], [zI ri36], (zw sc B S Z L R M0), 0, 0)
        refine z_br c 0 (¬ ri36 = 0) (47, [some (zR 32), some (zI w), some (zI k), some (zI y), some (zI d)], [], (zw sc B S Z L R M0), 0, 0) (42, [some (zR 32), some (zI w), some (zI k), some (zI y), some (zI d)], [], (zw sc B S Z L R M0), 0, 0) rfl ⟨(show (-2147483648 : Int) ≤ ri36 ∧ ri36 ≤ 2147483647 by omega), trivial⟩ (fun h39 => ?_) (fun h39 => ?_)
        · refine z_cV c 6 k_6_151 zv_X6_ordered (pc := 57) (ls := [some (zR 32), some (zI w), some (zI k), some (zI y), some (zI d)]) (sk := []) (h := (zw sc B S Z L R M0)) (cs := 0) (ss := 0) (c_X6_ordered l sc B S Z L R M0 n 4 w k y d eN0 hn (by have := congrArg (fun z => z.2.2.2.2) hkM0.1; have h8 : mOrders M0 = mOrders M := this; omega)) rfl trivial rfl rfl ⟨Nat.le_refl _, Nat.le_refl _⟩ ?_
          rintro v1 _ ⟨MO, r1, rfl, rfl, hor⟩
          have hoM : mOrders M0 = mOrders M := congrArg (fun z => z.2.2.2.2) hkM0.1
          show V (57, [some (zR 32), some (zI w), some (zI k), some (zI y), some (zI d)], [zI r1], (zw sc B S Z L R MO), 0, 0)
          exact z_re c 0 (v := some (zI r1)) (h := (zw sc B S Z L R MO)) (cs := 0) (ss := 0) rfl trivial trivial ⟨Nat.le_refl _, Nat.le_refl _⟩ ⟨_, rfl, by
              rcases hor with ⟨q1, q2, q3⟩ | ⟨q1, q2, q3⟩
              · rw [q3, q2]; exact Or.inr (Or.inr (Or.inl ⟨by omega, by omega, by omega, rfl, hkM0⟩))
              · rw [q2]; exact Or.inr (Or.inr (Or.inr ⟨by omega, by omega, by omega, rfl, zMg_k hkM0 q3⟩))⟩
        · exact z_re c 2 (v := some (zI ((-2)))) (h := (zw sc B S Z L R M0)) (cs := 0) (ss := 0) rfl trivial trivial ⟨Nat.le_refl _, Nat.le_refl _⟩ ⟨_, rfl, Or.inr (Or.inl ⟨by omega, by omega, rfl, hkM0⟩)⟩
  · exact z_re c 1 (v := some (zI ((-1)))) (h := (zw sc B S Z L R M0)) (cs := 0) (ss := 0) rfl trivial trivial ⟨Nat.le_refl _, Nat.le_refl _⟩ ⟨_, rfl, Or.inl ⟨by omega, rfl, hkM0⟩⟩
set_option maxRecDepth 4000 in
theorem c_X6_statute (l : Launch) (sc : ZSc) (B : ZBk) (S Z : ZSg) (L : ZLn) (R : ZRd) (M : ZMd) (T K : Int → Int) (n nw : Int) (a b c2 d : Int) (hB : zBv T K n nw) (hM : zMr T n nw M) (hQ : mWithout M = -9) (hnw : 0 ≤ nw ∧ nw ≤ 12) (ha : (-2147483648 ≤ a ∧ a ≤ 2147483647)) (hb : (-2147483648 ≤ b ∧ b ≤ 2147483647)) (hc2 : (-2147483648 ≤ c2 ∧ c2 ≤ 2147483647)) (hd : (-2147483648 ≤ d ∧ d ≤ 2147483647)) : zMet l m_X6_statute [zR 32, zI a, zI b, zI c2, zI d] (zw sc B S Z L R M) (fun v h1 => ∃ M1, zw sc B S Z L R M1 = h1 ∧ ((¬ ((0 : Int) ≤ 1) ∧ v = some (zI (-1)) ∧ zMk M M1) ∨ (((0 : Int) ≤ 1) ∧ ¬ ((1 ≤ a ∧ a ≤ 40) ∧ (1 ≤ b ∧ b ≤ 4) ∧ (0 ≤ c2 ∧ c2 ≤ 5) ∧ 1 ≤ d ∧ d ≤ 30) ∧ v = some (zI (-2)) ∧ zMk M M1) ∨ (((0 : Int) ≤ 1) ∧ ((1 ≤ a ∧ a ≤ 40) ∧ (1 ≤ b ∧ b ≤ 4) ∧ (0 ≤ c2 ∧ c2 ≤ 5) ∧ 1 ≤ d ∧ d ≤ 30) ∧ (n = 100) ∧ v = some (zI (-4)) ∧ zMk M M1) ∨ (((0 : Int) ≤ 1) ∧ ((1 ≤ a ∧ a ≤ 40) ∧ (1 ≤ b ∧ b ≤ 4) ∧ (0 ≤ c2 ∧ c2 ≤ 5) ∧ 1 ≤ d ∧ d ≤ 30) ∧ ¬ (n = 100) ∧ v = some (zI n) ∧ zMg M M1 n (zup (zup (zup (zup (zup (zup (zup (zup (fun _ => -9) 0 6) 1 (-9)) 2 (-9)) 3 (-9)) 6 d) 9 a) 10 b) 11 c2) 0))) := by
  refine z_method g_X6_statute [some (zR 32), some (zI a), some (zI b), some (zI c2), some (zI d), none] rfl rfl (fun V c => ?_)
  obtain ⟨hn, hT, -, hv, hno, hKs⟩ := id hB
  refine z_go c 3 (s1 := (5, [some (zR 32), some (zI a), some (zI b), some (zI c2), some (zI d), none], [], (zw sc B S Z L R ((0, (mWays M), (mOne M), (mTwo M), (mPages M), (mOrders M)), ((mSort M), (mTold M), (mLast M), (mWithout M), (mIsIn M), (mNeeds M)), ((mPersons M), (mGaps M), (mWeight M), (mSeen M), (mFew M), (mBroken M)), ((mHolds M), (mMany M), (mOrder M), (mIsGood M), (mFar M)))), 0, 0)) rfl trivial ?_
  have hkM0 : zMk M ((0, (mWays M), (mOne M), (mTwo M), (mPages M), (mOrders M)), ((mSort M), (mTold M), (mLast M), (mWithout M), (mIsIn M), (mNeeds M)), ((mPersons M), (mGaps M), (mWeight M), (mSeen M), (mFew M), (mBroken M)), ((mHolds M), (mMany M), (mOrder M), (mIsGood M), (mFar M))) := ⟨rfl, rfl, rfl, rfl⟩
  generalize (((0, (mWays M), (mOne M), (mTwo M), (mPages M), (mOrders M)), ((mSort M), (mTold M), (mLast M), (mWithout M), (mIsIn M), (mNeeds M)), ((mPersons M), (mGaps M), (mWeight M), (mSeen M), (mFew M), (mBroken M)), ((mHolds M), (mMany M), (mOrder M), (mIsGood M), (mFar M))) : ZMd) = M0 at hkM0 ⊢
  have hM0 := zMr_k hM hkM0
  have hQ0 : mWithout M0 = -9 := hkM0.2.2.2.trans hQ
  have eN0 := hM0.1
  have eW0 := hM0.2.1
  refine z_cS c 4 k_6_57 zv_X6_in (pc := 14) (ls := [some (zR 32), some (zI a), some (zI b), some (zI c2), some (zI d), none]) (sk := []) (h := (zw sc B S Z L R M0)) (cs := 0) (ss := 0) (c_X6_in l (zw sc B S Z L R M0) a 1 40 (by omega) (by omega) (by omega)) rfl ⟨(by omega), trivial⟩ rfl ⟨Nat.le_refl _, Nat.le_refl _⟩ ?_
  rintro _ _ ⟨ri11, rfl, ei11, rfl⟩
  show V (14, [some (zR 32), some (zI a), some (zI b), some (zI c2), some (zI d), none], [zI ri11], (zw sc B S Z L R M0), 0, 0)
  refine z_br c 0 (ri11 = 0) (54, [some (zR 32), some (zI a), some (zI b), some (zI c2), some (zI d), none], [], (zw sc B S Z L R M0), 0, 0) (17, [some (zR 32), some (zI a), some (zI b), some (zI c2), some (zI d), none], [], (zw sc B S Z L R M0), 0, 0) rfl ⟨(show (-2147483648 : Int) ≤ ri11 ∧ ri11 ≤ 2147483647 by omega), trivial⟩ (fun h14 => ?_) (fun h14 => ?_)
  · exact z_re c 1 (v := some (zI ((-2)))) (h := (zw sc B S Z L R M0)) (cs := 0) (ss := 0) rfl trivial trivial ⟨Nat.le_refl _, Nat.le_refl _⟩ ⟨_, rfl, Or.inr (Or.inl ⟨by omega, by omega, rfl, hkM0⟩)⟩
  · refine z_cS c 4 k_6_57 zv_X6_in (pc := 26) (ls := [some (zR 32), some (zI a), some (zI b), some (zI c2), some (zI d), none]) (sk := []) (h := (zw sc B S Z L R M0)) (cs := 0) (ss := 0) (c_X6_in l (zw sc B S Z L R M0) b 1 4 (by omega) (by omega) (by omega)) rfl ⟨(by omega), trivial⟩ rfl ⟨Nat.le_refl _, Nat.le_refl _⟩ ?_
    rintro _ _ ⟨ri23, rfl, ei23, rfl⟩
    show V (26, [some (zR 32), some (zI a), some (zI b), some (zI c2), some (zI d), none], [zI ri23], (zw sc B S Z L R M0), 0, 0)
    refine z_br c 0 (ri23 = 0) (54, [some (zR 32), some (zI a), some (zI b), some (zI c2), some (zI d), none], [], (zw sc B S Z L R M0), 0, 0) (29, [some (zR 32), some (zI a), some (zI b), some (zI c2), some (zI d), none], [], (zw sc B S Z L R M0), 0, 0) rfl ⟨(show (-2147483648 : Int) ≤ ri23 ∧ ri23 ≤ 2147483647 by omega), trivial⟩ (fun h26 => ?_) (fun h26 => ?_)
    · exact z_re c 1 (v := some (zI ((-2)))) (h := (zw sc B S Z L R M0)) (cs := 0) (ss := 0) rfl trivial trivial ⟨Nat.le_refl _, Nat.le_refl _⟩ ⟨_, rfl, Or.inr (Or.inl ⟨by omega, by omega, rfl, hkM0⟩)⟩
    · refine z_cS c 4 k_6_57 zv_X6_in (pc := 38) (ls := [some (zR 32), some (zI a), some (zI b), some (zI c2), some (zI d), none]) (sk := []) (h := (zw sc B S Z L R M0)) (cs := 0) (ss := 0) (c_X6_in l (zw sc B S Z L R M0) c2 0 5 (by omega) (by omega) (by omega)) rfl ⟨(by omega), trivial⟩ rfl ⟨Nat.le_refl _, Nat.le_refl _⟩ ?_
      rintro _ _ ⟨ri35, rfl, ei35, rfl⟩
      show V (38, [some (zR 32), some (zI a), some (zI b), some (zI c2), some (zI d), none], [zI ri35], (zw sc B S Z L R M0), 0, 0)
      refine z_br c 0 (ri35 = 0) (54, [some (zR 32), some (zI a), some (zI b), some (zI c2), some (zI d), none], [], (zw sc B S Z L R M0), 0, 0) (41, [some (zR 32), some (zI a), some (zI b), some (zI c2), some (zI d), none], [], (zw sc B S Z L R M0), 0, 0) rfl ⟨(show (-2147483648 : Int) ≤ ri35 ∧ ri35 ≤ 2147483647 by omega), trivial⟩ (fun h38 => ?_) (fun h38 => ?_)
      · exact z_re c 1 (v := some (zI ((-2)))) (h := (zw sc B S Z L R M0)) (cs := 0) (ss := 0) rfl trivial trivial ⟨Nat.le_refl _, Nat.le_refl _⟩ ⟨_, rfl, Or.inr (Or.inl ⟨by omega, by omega, rfl, hkM0⟩)⟩
      · refine z_cS c 4 k_6_57 zv_X6_in (pc := 51) (ls := [some (zR 32), some (zI a), some (zI b), some (zI c2), some (zI d), none]) (sk := []) (h := (zw sc B S Z L R M0)) (cs := 0) (ss := 0) (c_X6_in l (zw sc B S Z L R M0) d 1 30 (by omega) (by omega) (by omega)) rfl ⟨(by omega), trivial⟩ rfl ⟨Nat.le_refl _, Nat.le_refl _⟩ ?_
        rintro _ _ ⟨ri48, rfl, ei48, rfl⟩
        show V (51, [some (zR 32), some (zI a), some (zI b), some (zI c2), some (zI d), none], [zI ri48], (zw sc B S Z L R M0), 0, 0)
        refine z_br c 0 (¬ ri48 = 0) (57, [some (zR 32), some (zI a), some (zI b), some (zI c2), some (zI d), none], [], (zw sc B S Z L R M0), 0, 0) (54, [some (zR 32), some (zI a), some (zI b), some (zI c2), some (zI d), none], [], (zw sc B S Z L R M0), 0, 0) rfl ⟨(show (-2147483648 : Int) ≤ ri48 ∧ ri48 ≤ 2147483647 by omega), trivial⟩ (fun h51 => ?_) (fun h51 => ?_)
        · refine z_br c 3 (¬ (mPages M0) = 100) (69, [some (zR 32), some (zI a), some (zI b), some (zI c2), some (zI d), none], [], (zw sc B S Z L R M0), 0, 0) (66, [some (zR 32), some (zI a), some (zI b), some (zI c2), some (zI d), none], [], (zw sc B S Z L R M0), 0, 0) rfl ⟨(show ((-2147483648 : Int) ≤ (mPages M0) ∧ (mPages M0) ≤ 2147483647) ∧ (-2147483648 : Int) ≤ 100 ∧ 100 ≤ 2147483647 by omega), trivial⟩ (fun h63 => ?_) (fun h63 => ?_)
          · refine z_cV c 5 k_6_136 zv_X6_write (pc := 81) (ls := [some (zR 32), some (zI a), some (zI b), some (zI c2), some (zI d), none]) (sk := []) (h := (zw sc B S Z L R M0)) (cs := 0) (ss := 0) (c_X6_write l sc B S Z L R M0 n 6 ((-9)) ((-9)) ((-9)) eN0 (by omega)) rfl trivial rfl rfl ⟨Nat.le_refl _, Nat.le_refl _⟩ ?_
            rintro _ _ ⟨MA, rfl, rfl, hg0⟩
            show V (81, [some (zR 32), some (zI a), some (zI b), some (zI c2), some (zI d), none], [zI n], (zw sc B S Z L R MA), 0, 0)
            refine z_cV c 4 k_6_140 zv_X6_tell (pc := 91) (ls := [some (zR 32), some (zI a), some (zI b), some (zI c2), some (zI d), some (zI n)]) (sk := []) (h := (zw sc B S Z L R MA)) (cs := 0) (ss := 0) (c_tell l sc B S Z L R M0 MA n 0 _ 6 d hg0 (by omega) (by omega)) rfl trivial rfl rfl ⟨Nat.le_refl _, Nat.le_refl _⟩ ?_
            rintro _ _ ⟨rfl, MA1, rfl, hg1⟩
            show V (91, [some (zR 32), some (zI a), some (zI b), some (zI c2), some (zI d), some (zI n)], [], (zw sc B S Z L R MA1), 0, 0)
            refine z_cV c 3 k_6_140 zv_X6_tell (pc := 98) (ls := [some (zR 32), some (zI a), some (zI b), some (zI c2), some (zI d), some (zI n)]) (sk := []) (h := (zw sc B S Z L R MA1)) (cs := 0) (ss := 0) (c_tell l sc B S Z L R M0 MA1 n 0 _ 9 a hg1 (by omega) (by omega)) rfl trivial rfl rfl ⟨Nat.le_refl _, Nat.le_refl _⟩ ?_
            rintro _ _ ⟨rfl, MA2, rfl, hg2⟩
            show V (98, [some (zR 32), some (zI a), some (zI b), some (zI c2), some (zI d), some (zI n)], [], (zw sc B S Z L R MA2), 0, 0)
            refine z_cV c 3 k_6_140 zv_X6_tell (pc := 105) (ls := [some (zR 32), some (zI a), some (zI b), some (zI c2), some (zI d), some (zI n)]) (sk := []) (h := (zw sc B S Z L R MA2)) (cs := 0) (ss := 0) (c_tell l sc B S Z L R M0 MA2 n 0 _ 10 b hg2 (by omega) (by omega)) rfl trivial rfl rfl ⟨Nat.le_refl _, Nat.le_refl _⟩ ?_
            rintro _ _ ⟨rfl, MA3, rfl, hg3⟩
            show V (105, [some (zR 32), some (zI a), some (zI b), some (zI c2), some (zI d), some (zI n)], [], (zw sc B S Z L R MA3), 0, 0)
            refine z_cV c 3 k_6_140 zv_X6_tell (pc := 112) (ls := [some (zR 32), some (zI a), some (zI b), some (zI c2), some (zI d), some (zI n)]) (sk := []) (h := (zw sc B S Z L R MA3)) (cs := 0) (ss := 0) (c_tell l sc B S Z L R M0 MA3 n 0 _ 11 c2 hg3 (by omega) (by omega)) rfl trivial rfl rfl ⟨Nat.le_refl _, Nat.le_refl _⟩ ?_
            rintro _ _ ⟨rfl, MA4, rfl, hg4⟩
            show V (112, [some (zR 32), some (zI a), some (zI b), some (zI c2), some (zI d), some (zI n)], [], (zw sc B S Z L R MA4), 0, 0)
            exact z_re c 1 (v := some (zI n)) (h := (zw sc B S Z L R MA4)) (cs := 0) (ss := 0) rfl trivial trivial ⟨Nat.le_refl _, Nat.le_refl _⟩ ⟨_, rfl, Or.inr (Or.inr (Or.inr ⟨by omega, by omega, by omega, rfl, zMg_k hkM0 hg4⟩))⟩
          · exact z_re c 1 (v := some (zI ((-4)))) (h := (zw sc B S Z L R M0)) (cs := 0) (ss := 0) rfl trivial trivial ⟨Nat.le_refl _, Nat.le_refl _⟩ ⟨_, rfl, Or.inr (Or.inr (Or.inl ⟨by omega, by omega, by omega, rfl, hkM0⟩))⟩
        · exact z_re c 1 (v := some (zI ((-2)))) (h := (zw sc B S Z L R M0)) (cs := 0) (ss := 0) rfl trivial trivial ⟨Nat.le_refl _, Nat.le_refl _⟩ ⟨_, rfl, Or.inr (Or.inl ⟨by omega, by omega, rfl, hkM0⟩)⟩
set_option maxRecDepth 4000 in
theorem c_X6_strike (l : Launch) (sc : ZSc) (B : ZBk) (S Z : ZSg) (L : ZLn) (R : ZRd) (M : ZMd) (T K : Int → Int) (n nw : Int) (p : Int) (hB : zBv T K n nw) (hM : zMr T n nw M) (hQ : mWithout M = -9) (hnw : 0 ≤ nw ∧ nw ≤ 12) (hp : (-2147483648 ≤ p ∧ p ≤ 2147483647)) : zMet l m_X6_strike [zR 32, zI p] (zw sc B S Z L R M) (fun v h1 => ∃ M1, zw sc B S Z L R M1 = h1 ∧ ((¬ (0 ≤ p ∧ p < n) ∧ v = some (zI (-1)) ∧ zMk M M1) ∨ ((0 ≤ p ∧ p < n) ∧ ¬ (¬ T (p * 12 + 0) = 5 ∧ K p = -9) ∧ v = some (zI (-3)) ∧ zMk M M1) ∨ ((0 ≤ p ∧ p < n) ∧ (¬ T (p * 12 + 0) = 5 ∧ K p = -9) ∧ (n = 100) ∧ v = some (zI (-4)) ∧ zMk M M1) ∨ ((0 ≤ p ∧ p < n) ∧ (¬ T (p * 12 + 0) = 5 ∧ K p = -9) ∧ ¬ (n = 100) ∧ v = some (zI n) ∧ zMg M M1 n (zup (zup (zup (zup (zup (fun _ => -9) 0 5) 1 (-9)) 2 (-9)) 3 (-9)) 8 p) 0))) := by
  refine z_method g_X6_strike [some (zR 32), some (zI p), none] rfl rfl (fun V c => ?_)
  obtain ⟨hn, hT, -, hv, hno, hKs⟩ := id hB
  refine z_go c 3 (s1 := (5, [some (zR 32), some (zI p), none], [], (zw sc B S Z L R ((0, (mWays M), (mOne M), (mTwo M), (mPages M), (mOrders M)), ((mSort M), (mTold M), (mLast M), (mWithout M), (mIsIn M), (mNeeds M)), ((mPersons M), (mGaps M), (mWeight M), (mSeen M), (mFew M), (mBroken M)), ((mHolds M), (mMany M), (mOrder M), (mIsGood M), (mFar M)))), 0, 0)) rfl trivial ?_
  have hkM0 : zMk M ((0, (mWays M), (mOne M), (mTwo M), (mPages M), (mOrders M)), ((mSort M), (mTold M), (mLast M), (mWithout M), (mIsIn M), (mNeeds M)), ((mPersons M), (mGaps M), (mWeight M), (mSeen M), (mFew M), (mBroken M)), ((mHolds M), (mMany M), (mOrder M), (mIsGood M), (mFar M))) := ⟨rfl, rfl, rfl, rfl⟩
  generalize (((0, (mWays M), (mOne M), (mTwo M), (mPages M), (mOrders M)), ((mSort M), (mTold M), (mLast M), (mWithout M), (mIsIn M), (mNeeds M)), ((mPersons M), (mGaps M), (mWeight M), (mSeen M), (mFew M), (mBroken M)), ((mHolds M), (mMany M), (mOrder M), (mIsGood M), (mFar M))) : ZMd) = M0 at hkM0 ⊢
  have hM0 := zMr_k hM hkM0
  have hQ0 : mWithout M0 = -9 := hkM0.2.2.2.trans hQ
  have eN0 := hM0.1
  have eW0 := hM0.2.1
  refine z_cV c 2 k_6_64 zv_X6_noPage (pc := 10) (ls := [some (zR 32), some (zI p), none]) (sk := []) (h := (zw sc B S Z L R M0)) (cs := 0) (ss := 0) (c_X6_noPage l sc B S Z L R M0 p (show 0 ≤ mPages M0 ∧ mPages M0 ≤ 100 by omega) (by omega)) rfl trivial rfl rfl ⟨Nat.le_refl _, Nat.le_refl _⟩ ?_
  rintro _ _ ⟨rp7, rfl, ep7, rfl⟩
  replace ep7 : (¬ (0 ≤ p ∧ p < mPages M0) ∧ rp7 = 1) ∨ (¬ ¬ (0 ≤ p ∧ p < mPages M0) ∧ rp7 = 0) := ep7
  show V (10, [some (zR 32), some (zI p), none], [zI rp7], (zw sc B S Z L R M0), 0, 0)
  refine z_br c 0 (rp7 = 0) (15, [some (zR 32), some (zI p), none], [], (zw sc B S Z L R M0), 0, 0) (13, [some (zR 32), some (zI p), none], [], (zw sc B S Z L R M0), 0, 0) rfl ⟨(show (-2147483648 : Int) ≤ rp7 ∧ rp7 ≤ 2147483647 by omega), trivial⟩ (fun h10 => ?_) (fun h10 => ?_)
  · refine z_cV c 2 k_6_155 zv_X6_look (pc := 21) (ls := [some (zR 32), some (zI p), none]) (sk := []) (h := (zw sc B S Z L R M0)) (cs := 0) (ss := 0) (c_look l sc B S Z L R M0 T K n nw (-9) ((-9)) hB hM0 hQ0 (by omega) (by omega)) rfl trivial rfl rfl ⟨Nat.le_refl _, Nat.le_refl _⟩ ?_
    rintro _ _ ⟨rfl, ML, rfl, hLL, hk9, hfr9⟩
    have hkML := zMk_trans hkM0 hk9
    have hl := zlast_rng (n := n) (a := ((-9))) hn.1 (by omega)
    have eN1 := hLL.1.1
    have eW1 := hLL.1.2.1
    have hvm : ∀ p : Nat, p < ((zlast n (-9)) + 1).toNat → zvp T nw (p : Int) := fun p h => hv p (by omega)
    have el : (zlast n (-9)) = n - 1 := by unfold zlast; rw [if_pos rfl]
    have qi := hLL.2.2.1 p (by omega) (by omega)
    have qs := hLL.1.2.2.1 p (by omega) (by omega)
    have qt := hT p 0 (by omega) (by omega) (by omega) (by omega)
    rw [zcB_iff] at qi
    unfold zct at qi
    have qk := hKs.1 p (by omega) (by omega)
    have qr : (mIsIn ML p = 1 ∧ K p = -9) ∨ (mIsIn ML p = 0 ∧ ¬ K p = -9) := by
      rcases qi with ⟨g, g2⟩ | ⟨g, g2⟩
      · refine Or.inl ⟨g, ?_⟩
        rcases qk with q1 | ⟨q1, -⟩
        · exact q1
        · omega
      · refine Or.inr ⟨g, fun q1 => g2 ⟨by omega, Or.inl q1⟩⟩
    clear qi
    show V (21, [some (zR 32), some (zI p), none], [], (zw sc B S Z L R ML), 0, 0)
    refine z_br c 5 (((mSort ML) p) = 5) (40, [some (zR 32), some (zI p), none], [], (zw sc B S Z L R ML), 0, 0) (31, [some (zR 32), some (zI p), none], [], (zw sc B S Z L R ML), 0, 0) rfl ⟨(show ((-2147483648 : Int) ≤ ((mSort ML) p) ∧ ((mSort ML) p) ≤ 2147483647) ∧ (-2147483648 : Int) ≤ 5 ∧ 5 ≤ 2147483647 by omega), (show (0 : Int) ≤ p ∧ p < 100 by omega), trivial⟩ (fun h28 => ?_) (fun h28 => ?_)
    · exact z_re c 1 (v := some (zI ((-3)))) (h := (zw sc B S Z L R ML)) (cs := 0) (ss := 0) rfl trivial trivial ⟨Nat.le_refl _, Nat.le_refl _⟩ ⟨_, rfl, Or.inr (Or.inl ⟨by omega, by omega, rfl, hkML⟩)⟩
    · refine z_br c 4 (¬ ((mIsIn ML) p) = 0) (43, [some (zR 32), some (zI p), none], [], (zw sc B S Z L R ML), 0, 0) (40, [some (zR 32), some (zI p), none], [], (zw sc B S Z L R ML), 0, 0) rfl ⟨(show (-2147483648 : Int) ≤ ((mIsIn ML) p) ∧ ((mIsIn ML) p) ≤ 2147483647 by omega), (show (0 : Int) ≤ p ∧ p < 100 by omega), trivial⟩ (fun h37 => ?_) (fun h37 => ?_)
      · refine z_br c 3 (¬ (mPages ML) = 100) (55, [some (zR 32), some (zI p), none], [], (zw sc B S Z L R ML), 0, 0) (52, [some (zR 32), some (zI p), none], [], (zw sc B S Z L R ML), 0, 0) rfl ⟨(show ((-2147483648 : Int) ≤ (mPages ML) ∧ (mPages ML) ≤ 2147483647) ∧ (-2147483648 : Int) ≤ 100 ∧ 100 ≤ 2147483647 by omega), trivial⟩ (fun h49 => ?_) (fun h49 => ?_)
        · refine z_cV c 5 k_6_136 zv_X6_write (pc := 66) (ls := [some (zR 32), some (zI p), none]) (sk := []) (h := (zw sc B S Z L R ML)) (cs := 0) (ss := 0) (c_X6_write l sc B S Z L R ML n 5 ((-9)) ((-9)) ((-9)) hLL.1.1 (by omega)) rfl trivial rfl rfl ⟨Nat.le_refl _, Nat.le_refl _⟩ ?_
          rintro _ _ ⟨MA, rfl, rfl, hg0⟩
          show V (66, [some (zR 32), some (zI p), none], [zI n], (zw sc B S Z L R MA), 0, 0)
          refine z_cV c 4 k_6_140 zv_X6_tell (pc := 74) (ls := [some (zR 32), some (zI p), some (zI n)]) (sk := []) (h := (zw sc B S Z L R MA)) (cs := 0) (ss := 0) (c_tell l sc B S Z L R ML MA n 0 _ 8 p hg0 (by omega) (by omega)) rfl trivial rfl rfl ⟨Nat.le_refl _, Nat.le_refl _⟩ ?_
          rintro _ _ ⟨rfl, MA1, rfl, hg1⟩
          show V (74, [some (zR 32), some (zI p), some (zI n)], [], (zw sc B S Z L R MA1), 0, 0)
          exact z_re c 1 (v := some (zI n)) (h := (zw sc B S Z L R MA1)) (cs := 0) (ss := 0) rfl trivial trivial ⟨Nat.le_refl _, Nat.le_refl _⟩ ⟨_, rfl, Or.inr (Or.inr (Or.inr ⟨by omega, by omega, by omega, rfl, zMg_k hkML hg1⟩))⟩
        · exact z_re c 1 (v := some (zI ((-4)))) (h := (zw sc B S Z L R ML)) (cs := 0) (ss := 0) rfl trivial trivial ⟨Nat.le_refl _, Nat.le_refl _⟩ ⟨_, rfl, Or.inr (Or.inr (Or.inl ⟨by omega, by omega, by omega, rfl, hkML⟩))⟩
      · exact z_re c 1 (v := some (zI ((-3)))) (h := (zw sc B S Z L R ML)) (cs := 0) (ss := 0) rfl trivial trivial ⟨Nat.le_refl _, Nat.le_refl _⟩ ⟨_, rfl, Or.inr (Or.inl ⟨by omega, by omega, rfl, hkML⟩)⟩
  · exact z_re c 1 (v := some (zI ((-1)))) (h := (zw sc B S Z L R M0)) (cs := 0) (ss := 0) rfl trivial trivial ⟨Nat.le_refl _, Nat.le_refl _⟩ ⟨_, rfl, Or.inl ⟨by omega, rfl, hkM0⟩⟩
set_option maxRecDepth 4000 in
theorem c_X6_way (l : Launch) (sc : ZSc) (B : ZBk) (S Z : ZSg) (L : ZLn) (R : ZRd) (M : ZMd) (T K : Int → Int) (n nw : Int) (a b : Int) (hB : zBv T K n nw) (hM : zMr T n nw M) (hQ : mWithout M = -9) (hnw : 0 ≤ nw ∧ nw ≤ 12) (ha : (-2147483648 ≤ a ∧ a ≤ 2147483647)) (hb : (-2147483648 ≤ b ∧ b ≤ 2147483647)) : zMet l m_X6_way [zR 32, zI a, zI b] (zw sc B S Z L R M) (fun v h1 => ∃ M1, zw sc B S Z L R M1 = h1 ∧ ((¬ ((0 ≤ a ∧ a ≤ 9) ∧ 0 ≤ b ∧ b ≤ 9) ∧ v = some (zI (-1)) ∧ zMk M M1) ∨ (((0 ≤ a ∧ a ≤ 9) ∧ 0 ≤ b ∧ b ≤ 9) ∧ a = b ∧ v = some (zI (-3)) ∧ zMk M M1) ∨ (((0 ≤ a ∧ a ≤ 9) ∧ 0 ≤ b ∧ b ≤ 9) ∧ ¬ a = b ∧ nw = 12 ∧ v = some (zI (-4)) ∧ zMk M M1) ∨ (((0 ≤ a ∧ a ≤ 9) ∧ 0 ≤ b ∧ b ≤ 9) ∧ ¬ a = b ∧ ¬ nw = 12 ∧ v = some (zI nw) ∧ mWays M1 = nw + 1 ∧ mOne M1 = zup (mOne M) nw a ∧ mTwo M1 = zup (mTwo M) nw b ∧ M1.1.2.2.2.2 = M.1.2.2.2.2 ∧ mSort M1 = mSort M ∧ mTold M1 = mTold M ∧ mWithout M1 = mWithout M))) := by
  refine z_method g_X6_way [some (zR 32), some (zI a), some (zI b)] rfl rfl (fun V c => ?_)
  obtain ⟨hn, hT, -, hv, hno, hKs⟩ := id hB
  refine z_go c 3 (s1 := (5, [some (zR 32), some (zI a), some (zI b)], [], (zw sc B S Z L R ((0, (mWays M), (mOne M), (mTwo M), (mPages M), (mOrders M)), ((mSort M), (mTold M), (mLast M), (mWithout M), (mIsIn M), (mNeeds M)), ((mPersons M), (mGaps M), (mWeight M), (mSeen M), (mFew M), (mBroken M)), ((mHolds M), (mMany M), (mOrder M), (mIsGood M), (mFar M)))), 0, 0)) rfl trivial ?_
  have hkM0 : zMk M ((0, (mWays M), (mOne M), (mTwo M), (mPages M), (mOrders M)), ((mSort M), (mTold M), (mLast M), (mWithout M), (mIsIn M), (mNeeds M)), ((mPersons M), (mGaps M), (mWeight M), (mSeen M), (mFew M), (mBroken M)), ((mHolds M), (mMany M), (mOrder M), (mIsGood M), (mFar M))) := ⟨rfl, rfl, rfl, rfl⟩
  generalize (((0, (mWays M), (mOne M), (mTwo M), (mPages M), (mOrders M)), ((mSort M), (mTold M), (mLast M), (mWithout M), (mIsIn M), (mNeeds M)), ((mPersons M), (mGaps M), (mWeight M), (mSeen M), (mFew M), (mBroken M)), ((mHolds M), (mMany M), (mOrder M), (mIsGood M), (mFar M))) : ZMd) = M0 at hkM0 ⊢
  have hM0 := zMr_k hM hkM0
  have hQ0 : mWithout M0 = -9 := hkM0.2.2.2.trans hQ
  have eN0 := hM0.1
  have eW0 := hM0.2.1
  refine z_cS c 1 k_6_125 zv_X6_noPlace (pc := 9) (ls := [some (zR 32), some (zI a), some (zI b)]) (sk := []) (h := (zw sc B S Z L R M0)) (cs := 0) (ss := 0) (c_X6_noPlace l (zw sc B S Z L R M0) a (by omega)) rfl trivial rfl ⟨Nat.le_refl _, Nat.le_refl _⟩ ?_
  rintro _ _ ⟨r6, rfl, e6, rfl⟩
  show V (9, [some (zR 32), some (zI a), some (zI b)], [zI r6], (zw sc B S Z L R M0), 0, 0)
  refine z_br c 0 (¬ r6 = 0) (19, [some (zR 32), some (zI a), some (zI b)], [], (zw sc B S Z L R M0), 0, 0) (12, [some (zR 32), some (zI a), some (zI b)], [], (zw sc B S Z L R M0), 0, 0) rfl ⟨(show (-2147483648 : Int) ≤ r6 ∧ r6 ≤ 2147483647 by omega), trivial⟩ (fun h9 => ?_) (fun h9 => ?_)
  · exact z_re c 1 (v := some (zI ((-1)))) (h := (zw sc B S Z L R M0)) (cs := 0) (ss := 0) rfl trivial trivial ⟨Nat.le_refl _, Nat.le_refl _⟩ ⟨_, rfl, Or.inl ⟨by omega, rfl, hkM0⟩⟩
  · refine z_cS c 1 k_6_125 zv_X6_noPlace (pc := 16) (ls := [some (zR 32), some (zI a), some (zI b)]) (sk := []) (h := (zw sc B S Z L R M0)) (cs := 0) (ss := 0) (c_X6_noPlace l (zw sc B S Z L R M0) b (by omega)) rfl trivial rfl ⟨Nat.le_refl _, Nat.le_refl _⟩ ?_
    rintro _ _ ⟨r13, rfl, e13, rfl⟩
    show V (16, [some (zR 32), some (zI a), some (zI b)], [zI r13], (zw sc B S Z L R M0), 0, 0)
    refine z_br c 0 (r13 = 0) (21, [some (zR 32), some (zI a), some (zI b)], [], (zw sc B S Z L R M0), 0, 0) (19, [some (zR 32), some (zI a), some (zI b)], [], (zw sc B S Z L R M0), 0, 0) rfl ⟨(show (-2147483648 : Int) ≤ r13 ∧ r13 ≤ 2147483647 by omega), trivial⟩ (fun h16 => ?_) (fun h16 => ?_)
    · refine z_br c 2 (¬ a = b) (29, [some (zR 32), some (zI a), some (zI b)], [], (zw sc B S Z L R M0), 0, 0) (26, [some (zR 32), some (zI a), some (zI b)], [], (zw sc B S Z L R M0), 0, 0) rfl ⟨(show ((-2147483648 : Int) ≤ a ∧ a ≤ 2147483647) ∧ (-2147483648 : Int) ≤ b ∧ b ≤ 2147483647 by omega), trivial⟩ (fun h23 => ?_) (fun h23 => ?_)
      · refine z_br c 3 (¬ (mWays M0) = 12) (41, [some (zR 32), some (zI a), some (zI b)], [], (zw sc B S Z L R M0), 0, 0) (38, [some (zR 32), some (zI a), some (zI b)], [], (zw sc B S Z L R M0), 0, 0) rfl ⟨(show ((-2147483648 : Int) ≤ (mWays M0) ∧ (mWays M0) ≤ 2147483647) ∧ (-2147483648 : Int) ≤ 12 ∧ 12 ≤ 2147483647 by omega), trivial⟩ (fun h35 => ?_) (fun h35 => ?_)
        · exact z_re c 22 (v := some (zI ((((mWays M0) + 1) - 1)))) (h := (zw sc B S Z L R (((mThrown M0), ((mWays M0) + 1), (zup (mOne M0) ((mWays M0)) a), (zup (mTwo M0) ((mWays M0)) b), (mPages M0), (mOrders M0)), ((mSort M0), (mTold M0), (mLast M0), (mWithout M0), (mIsIn M0), (mNeeds M0)), ((mPersons M0), (mGaps M0), (mWeight M0), (mSeen M0), (mFew M0), (mBroken M0)), ((mHolds M0), (mMany M0), (mOrder M0), (mIsGood M0), (mFar M0))))) (cs := 0) (ss := 0) rfl ⟨(show (0 : Int) ≤ (mWays M0) ∧ (mWays M0) < 12 by omega), (show (0 : Int) ≤ (mWays M0) ∧ (mWays M0) < 12 by omega), trivial⟩ trivial ⟨Nat.le_refl _, Nat.le_refl _⟩ ⟨_, rfl, Or.inr (Or.inr (Or.inr ⟨by omega, by omega, by omega, congrArg (fun z => some (zI z)) (show mWays M0 + 1 - 1 = nw by omega), (show mWays M0 + 1 = nw + 1 by omega), (show zup (mOne M0) (mWays M0) a = _ by rw [eW0, (zMk_ab hkM0).1]), (show zup (mTwo M0) (mWays M0) b = _ by rw [eW0, (zMk_ab hkM0).2]), (congrArg (fun z => z.2.2.2) hkM0.1), hkM0.2⟩))⟩
        · exact z_re c 1 (v := some (zI ((-4)))) (h := (zw sc B S Z L R M0)) (cs := 0) (ss := 0) rfl trivial trivial ⟨Nat.le_refl _, Nat.le_refl _⟩ ⟨_, rfl, Or.inr (Or.inr (Or.inl ⟨by omega, by omega, by omega, rfl, hkM0⟩))⟩
      · exact z_re c 1 (v := some (zI ((-3)))) (h := (zw sc B S Z L R M0)) (cs := 0) (ss := 0) rfl trivial trivial ⟨Nat.le_refl _, Nat.le_refl _⟩ ⟨_, rfl, Or.inr (Or.inl ⟨by omega, by omega, rfl, hkM0⟩)⟩
    · exact z_re c 1 (v := some (zI ((-1)))) (h := (zw sc B S Z L R M0)) (cs := 0) (ss := 0) rfl trivial trivial ⟨Nat.le_refl _, Nat.le_refl _⟩ ⟨_, rfl, Or.inl ⟨by omega, rfl, hkM0⟩⟩
