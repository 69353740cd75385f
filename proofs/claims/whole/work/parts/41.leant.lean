/-! what the model is asked: pages, good, leans -/
theorem zinG_s {g : Int → Int} {p : Int} {c : Nat} : zinG g p (c + 1) = true ↔ zinG g p c = true ∨ g (c : Int) = p := by
  show (zinG g p c || decide (g (c : Int) = p)) = true ↔ _
  rw [Bool.or_eq_true, decide_eq_true_iff]
theorem zinG_up {g : Int → Int} {p c1 x : Int} : ∀ c : Nat, (c : Int) ≤ c1 → (zinG (zup g c1 x) p c = true ↔ zinG g p c = true)
  | 0, _ => Iff.rfl
  | c + 1, h => by
    rw [zinG_s, zinG_s, zinG_up c (by omega)]
    simp only [zup]
    rw [if_neg (by omega)]
theorem zinG_jM {T : Int → Int} {n : Int} {ct : Int → Bool} {w : Int} {m : Nat} {p : Int} : ∀ i : Nat, i ≤ (zof T ct w m).2 → (zinG (zjM T n ct w m i).1 p (zjM T n ct w m i).2.toNat = true ↔ ∃ j : Nat, j < i ∧ (zof T ct w m).1 (j : Int) = p ∧ zqM T n ct w m j = true)
  | 0, _ => ⟨fun h => absurd h (by show ¬ (false = true); decide), fun ⟨j, a, _⟩ => absurd a (Nat.not_lt_zero _)⟩
  | i + 1, hi => by
    have ih := zinG_jM (T := T) (n := n) (ct := ct) (w := w) (m := m) (p := p) i (by omega)
    have hr := zjM_rng (T := T) (n := n) (ct := ct) (w := w) (m := m) i (by omega)
    rw [zjM_s]
    by_cases g : zqM T n ct w m i = true
    · rw [if_pos g]
      generalize zjM T n ct w m i = q at ih hr
      show zinG (zup q.1 q.2 _) p (q.2 + 1).toNat = true ↔ _
      rw [show (q.2 + 1).toNat = q.2.toNat + 1 by omega, zinG_s, zinG_up _ (by omega), ih]
      have e : zup q.1 q.2 ((zof T ct w m).1 (i : Int)) (q.2.toNat : Int) = (zof T ct w m).1 (i : Int) := by
        simp only [zup]
        rw [if_pos (by omega)]
      rw [e]
      constructor
      · rintro (⟨j, a, b⟩ | a)
        · exact ⟨j, by omega, b⟩
        · exact ⟨i, by omega, a, g⟩
      · rintro ⟨j, a, b, c⟩
        rcases (show j < i ∨ j = i by omega) with d | d
        · exact Or.inl ⟨j, d, b, c⟩
        · subst d; exact Or.inr b
    · rw [if_neg g, ih]
      constructor
      · rintro ⟨j, a, b⟩
        exact ⟨j, by omega, b⟩
      · rintro ⟨j, a, b, c⟩
        rcases (show j < i ∨ j = i by omega) with d | d
        · exact ⟨j, d, b, c⟩
        · subst d; exact absurd c g
/-- an order is good, as of a page -/
def zGd (T : Int → Int) (n : Int) (ct : Int → Bool) (m : Nat) (p : Int) : Prop := zinG (zVg T n ct (T (p * 12 + 1)) m).1 p (zVg T n ct (T (p * 12 + 1)) m).2.toNat = true
theorem zGd_iff {T : Int → Int} {n : Int} {ct : Int → Bool} {m : Nat} {p : Int} : zGd T n ct m p ↔ ∃ j : Nat, j < (zof T ct (T (p * 12 + 1)) m).2 ∧ (zof T ct (T (p * 12 + 1)) m).1 (j : Int) = p ∧ zqM T n ct (T (p * 12 + 1)) m j = true := zinG_jM _ (Nat.le_refl _)
theorem zGd_ct {T : Int → Int} {n : Int} {ct : Int → Bool} {m : Nat} {p : Int} (h : zGd T n ct m p) : ct p = true ∧ (T (p * 12 + 0) = 3 ∨ T (p * 12 + 0) = 4) := by
  obtain ⟨j, a, b, c⟩ := zGd_iff.mp h
  have := zof_mem (T := T) (ct := ct) (w := T (p * 12 + 1)) m (j : Int) (by omega) (by omega)
  rw [b] at this
  exact ⟨this.2.1, this.2.2.1⟩
theorem zlP_c {T K : Int → Int} {n w k y l p : Int} : zlP T K n w k y l p = true ↔ zcB K n l (-9) p = true ∧ ¬ zF T K n w l p k y = zF T K n w l (-9) k y := by
  unfold zlP
  rw [Bool.and_eq_true, Bool.not_eq_true', decide_eq_false_iff_not]
  exact ⟨fun h => ⟨h.1, fun z => h.2 z.symm⟩, fun h => ⟨h.1, fun z => h.2 z.symm⟩⟩
set_option maxRecDepth 4000 in
theorem c_X6_page (l : Launch) (sc : ZSc) (B : ZBk) (S Z : ZSg) (L : ZLn) (R : ZRd) (M : ZMd) (T K : Int → Int) (n nw : Int) (p s x : Int) (hB : zBv T K n nw) (hM : zMr T n nw M) (hQ : mWithout M = -9) (hnw : 0 ≤ nw ∧ nw ≤ 12) (hp : (-2147483648 ≤ p ∧ p ≤ 2147483647)) (hs : (-2147483648 ≤ s ∧ s ≤ 2147483647)) (hx : (-2147483648 ≤ x ∧ x ≤ 2147483647)) : zMet l m_X6_page [zR 32, zI p, zI s, zI x] (zw sc B S Z L R M) (fun v h1 => ∃ M1, v = some (zI (if 0 ≤ p ∧ p < n then (if (0 ≤ s ∧ s ≤ 7) ∧ 0 ≤ x ∧ x ≤ 11 then (if s = 7 ∨ s = T (p * 12 + 0) ∨ (s = 3 ∧ (T (p * 12 + 0) = 3 ∨ T (p * 12 + 0) = 4)) then T (p * 12 + x) else -13) else -2) else -1)) ∧ zw sc B S Z L R M1 = h1 ∧ zMk M M1) := by
  refine z_method g_X6_page [some (zR 32), some (zI p), some (zI s), some (zI x), none] rfl rfl (fun V c => ?_)
  obtain ⟨hn, hT, -, hv, hno, hKs⟩ := id hB
  refine z_go c 3 (s1 := (5, [some (zR 32), some (zI p), some (zI s), some (zI x), none], [], (zw sc B S Z L R ((0, (mWays M), (mOne M), (mTwo M), (mPages M), (mOrders M)), ((mSort M), (mTold M), (mLast M), (mWithout M), (mIsIn M), (mNeeds M)), ((mPersons M), (mGaps M), (mWeight M), (mSeen M), (mFew M), (mBroken M)), ((mHolds M), (mMany M), (mOrder M), (mIsGood M), (mFar M)))), 0, 0)) rfl trivial ?_
  have hkM0 : zMk M ((0, (mWays M), (mOne M), (mTwo M), (mPages M), (mOrders M)), ((mSort M), (mTold M), (mLast M), (mWithout M), (mIsIn M), (mNeeds M)), ((mPersons M), (mGaps M), (mWeight M), (mSeen M), (mFew M), (mBroken M)), ((mHolds M), (mMany M), (mOrder M), (mIsGood M), (mFar M))) := ⟨rfl, rfl, rfl, rfl⟩
  generalize (((0, (mWays M), (mOne M), (mTwo M), (mPages M), (mOrders M)), ((mSort M), (mTold M), (mLast M), (mWithout M), (mIsIn M), (mNeeds M)), ((mPersons M), (mGaps M), (mWeight M), (mSeen M), (mFew M), (mBroken M)), ((mHolds M), (mMany M), (mOrder M), (mIsGood M), (mFar M))) : ZMd) = M0 at hkM0 ⊢
  have hM0 := zMr_k hM hkM0
  have hQ0 : mWithout M0 = -9 := hkM0.2.2.2.trans hQ
  have eN0 := hM0.1
  have eW0 := hM0.2.1
  refine z_cV c 2 k_6_64 zv_X6_noPage (pc := 10) (ls := [some (zR 32), some (zI p), some (zI s), some (zI x), none]) (sk := []) (h := (zw sc B S Z L R M0)) (cs := 0) (ss := 0) (c_X6_noPage l sc B S Z L R M0 p (show 0 ≤ mPages M0 ∧ mPages M0 ≤ 100 by omega) (by omega)) rfl trivial rfl rfl ⟨Nat.le_refl _, Nat.le_refl _⟩ ?_
  rintro _ _ ⟨rp7, rfl, ep7, rfl⟩
  replace ep7 : (¬ (0 ≤ p ∧ p < mPages M0) ∧ rp7 = 1) ∨ (¬ ¬ (0 ≤ p ∧ p < mPages M0) ∧ rp7 = 0) := ep7
  show V (10, [some (zR 32), some (zI p), some (zI s), some (zI x), none], [zI rp7], (zw sc B S Z L R M0), 0, 0)
  refine z_br c 0 (rp7 = 0) (15, [some (zR 32), some (zI p), some (zI s), some (zI x), none], [], (zw sc B S Z L R M0), 0, 0) (13, [some (zR 32), some (zI p), some (zI s), some (zI x), none], [], (zw sc B S Z L R M0), 0, 0) rfl ⟨(show (-2147483648 : Int) ≤ rp7 ∧ rp7 ≤ 2147483647 by omega), trivial⟩ (fun h10 => ?_) (fun h10 => ?_)
  · have qs := hM0.2.2.1 p (by omega) (by omega)
    have qt := hT p 0 (by omega) (by omega) (by omega) (by omega)
    refine z_cS c 4 k_6_57 zv_X6_in (pc := 24) (ls := [some (zR 32), some (zI p), some (zI s), some (zI x), none]) (sk := []) (h := (zw sc B S Z L R M0)) (cs := 0) (ss := 0) (c_X6_in l (zw sc B S Z L R M0) s 0 7 (by omega) (by omega) (by omega)) rfl ⟨(by omega), trivial⟩ rfl ⟨Nat.le_refl _, Nat.le_refl _⟩ ?_
    rintro _ _ ⟨ri21, rfl, ei21, rfl⟩
    show V (24, [some (zR 32), some (zI p), some (zI s), some (zI x), none], [zI ri21], (zw sc B S Z L R M0), 0, 0)
    refine z_br c 0 (ri21 = 0) (39, [some (zR 32), some (zI p), some (zI s), some (zI x), none], [], (zw sc B S Z L R M0), 0, 0) (27, [some (zR 32), some (zI p), some (zI s), some (zI x), none], [], (zw sc B S Z L R M0), 0, 0) rfl ⟨(show (-2147483648 : Int) ≤ ri21 ∧ ri21 ≤ 2147483647 by omega), trivial⟩ (fun h24 => ?_) (fun h24 => ?_)
    · exact z_re c 1 (v := some (zI ((-2)))) (h := (zw sc B S Z L R M0)) (cs := 0) (ss := 0) rfl trivial trivial ⟨Nat.le_refl _, Nat.le_refl _⟩ ⟨M0, by rw [if_pos (by omega), if_neg (by omega)], rfl, hkM0⟩
    · refine z_cS c 4 k_6_57 zv_X6_in (pc := 36) (ls := [some (zR 32), some (zI p), some (zI s), some (zI x), none]) (sk := []) (h := (zw sc B S Z L R M0)) (cs := 0) (ss := 0) (c_X6_in l (zw sc B S Z L R M0) x 0 11 (by omega) (by omega) (by omega)) rfl ⟨(by omega), trivial⟩ rfl ⟨Nat.le_refl _, Nat.le_refl _⟩ ?_
      rintro _ _ ⟨ri33, rfl, ei33, rfl⟩
      show V (36, [some (zR 32), some (zI p), some (zI s), some (zI x), none], [zI ri33], (zw sc B S Z L R M0), 0, 0)
      refine z_br c 0 (¬ ri33 = 0) (42, [some (zR 32), some (zI p), some (zI s), some (zI x), none], [], (zw sc B S Z L R M0), 0, 0) (39, [some (zR 32), some (zI p), some (zI s), some (zI x), none], [], (zw sc B S Z L R M0), 0, 0) rfl ⟨(show (-2147483648 : Int) ≤ ri33 ∧ ri33 ≤ 2147483647 by omega), trivial⟩ (fun h36 => ?_) (fun h36 => ?_)
      · refine z_br c 2 (s = 7) (73, [some (zR 32), some (zI p), some (zI s), some (zI x), none], [], (zw sc B S Z L R M0), 0, 0) (48, [some (zR 32), some (zI p), some (zI s), some (zI x), none], [], (zw sc B S Z L R M0), 0, 0) rfl ⟨(show ((-2147483648 : Int) ≤ s ∧ s ≤ 2147483647) ∧ (-2147483648 : Int) ≤ 7 ∧ 7 ≤ 2147483647 by omega), trivial⟩ (fun h45 => ?_) (fun h45 => ?_)
        · refine z_br c 4 (1 = 0) (94, [some (zR 32), some (zI p), some (zI s), some (zI x), some (zI 1)], [], (zw sc B S Z L R M0), 0, 0) (85, [some (zR 32), some (zI p), some (zI s), some (zI x), some (zI 1)], [], (zw sc B S Z L R M0), 0, 0) rfl ⟨(show (-2147483648 : Int) ≤ 1 ∧ 1 ≤ 2147483647 by omega), trivial⟩ (fun h82 => by exfalso; omega) (fun h82 => ?_)
          refine z_cV c 3 k_6_77 zv_X6_get (pc := 91) (ls := [some (zR 32), some (zI p), some (zI s), some (zI x), some (zI 1)]) (sk := []) (h := (zw sc B S Z L R M0)) (cs := 0) (ss := 0) (c_X6_get l sc B S Z L R M0 p x (by omega) (by omega)) rfl trivial rfl rfl ⟨Nat.le_refl _, Nat.le_refl _⟩ ?_
          rintro _ _ ⟨rfl, rfl⟩
          show V (91, [some (zR 32), some (zI p), some (zI s), some (zI x), some (zI 1)], [zI (((mTold M0) (12 * p + x)))], (zw sc B S Z L R M0), 0, 0)
          rw [hM0.2.2.2 p x (by omega) (by omega) (by omega) (by omega)]
          have q88 := hT p x (by omega) (by omega) (by omega) (by omega)
          show V (91, [some (zR 32), some (zI p), some (zI s), some (zI x), some (zI 1)], [zI ((T (p * 12 + x)))], (zw sc B S Z L R M0), 0, 0)
          exact z_re c 1 (v := some (zI ((T (p * 12 + x))))) (h := (zw sc B S Z L R M0)) (cs := 0) (ss := 0) rfl trivial trivial ⟨Nat.le_refl _, Nat.le_refl _⟩ ⟨M0, by rw [if_pos (by omega), if_pos (by omega), if_pos (by omega)], rfl, hkM0⟩
        · refine z_br c 5 (s = ((mSort M0) p)) (73, [some (zR 32), some (zI p), some (zI s), some (zI x), none], [], (zw sc B S Z L R M0), 0, 0) (58, [some (zR 32), some (zI p), some (zI s), some (zI x), none], [], (zw sc B S Z L R M0), 0, 0) rfl ⟨(show ((-2147483648 : Int) ≤ s ∧ s ≤ 2147483647) ∧ (-2147483648 : Int) ≤ ((mSort M0) p) ∧ ((mSort M0) p) ≤ 2147483647 by omega), (show (0 : Int) ≤ p ∧ p < 100 by omega), trivial⟩ (fun h55 => ?_) (fun h55 => ?_)
          · refine z_br c 4 (1 = 0) (94, [some (zR 32), some (zI p), some (zI s), some (zI x), some (zI 1)], [], (zw sc B S Z L R M0), 0, 0) (85, [some (zR 32), some (zI p), some (zI s), some (zI x), some (zI 1)], [], (zw sc B S Z L R M0), 0, 0) rfl ⟨(show (-2147483648 : Int) ≤ 1 ∧ 1 ≤ 2147483647 by omega), trivial⟩ (fun h82 => by exfalso; omega) (fun h82 => ?_)
            refine z_cV c 3 k_6_77 zv_X6_get (pc := 91) (ls := [some (zR 32), some (zI p), some (zI s), some (zI x), some (zI 1)]) (sk := []) (h := (zw sc B S Z L R M0)) (cs := 0) (ss := 0) (c_X6_get l sc B S Z L R M0 p x (by omega) (by omega)) rfl trivial rfl rfl ⟨Nat.le_refl _, Nat.le_refl _⟩ ?_
            rintro _ _ ⟨rfl, rfl⟩
            show V (91, [some (zR 32), some (zI p), some (zI s), some (zI x), some (zI 1)], [zI (((mTold M0) (12 * p + x)))], (zw sc B S Z L R M0), 0, 0)
            rw [hM0.2.2.2 p x (by omega) (by omega) (by omega) (by omega)]
            have q88 := hT p x (by omega) (by omega) (by omega) (by omega)
            show V (91, [some (zR 32), some (zI p), some (zI s), some (zI x), some (zI 1)], [zI ((T (p * 12 + x)))], (zw sc B S Z L R M0), 0, 0)
            exact z_re c 1 (v := some (zI ((T (p * 12 + x))))) (h := (zw sc B S Z L R M0)) (cs := 0) (ss := 0) rfl trivial trivial ⟨Nat.le_refl _, Nat.le_refl _⟩ ⟨M0, by rw [if_pos (by omega), if_pos (by omega), if_pos (by omega)], rfl, hkM0⟩
          · refine z_br c 2 (¬ s = 3) (77, [some (zR 32), some (zI p), some (zI s), some (zI x), none], [], (zw sc B S Z L R M0), 0, 0) (63, [some (zR 32), some (zI p), some (zI s), some (zI x), none], [], (zw sc B S Z L R M0), 0, 0) rfl ⟨(show ((-2147483648 : Int) ≤ s ∧ s ≤ 2147483647) ∧ (-2147483648 : Int) ≤ 3 ∧ 3 ≤ 2147483647 by omega), trivial⟩ (fun h60 => ?_) (fun h60 => ?_)
            · refine z_br c 3 (0 = 0) (94, [some (zR 32), some (zI p), some (zI s), some (zI x), some (zI 0)], [], (zw sc B S Z L R M0), 0, 0) (85, [some (zR 32), some (zI p), some (zI s), some (zI x), some (zI 0)], [], (zw sc B S Z L R M0), 0, 0) rfl ⟨(show (-2147483648 : Int) ≤ 0 ∧ 0 ≤ 2147483647 by omega), trivial⟩ (fun h82 => ?_) (fun h82 => by exfalso; omega)
              exact z_re c 1 (v := some (zI ((-13)))) (h := (zw sc B S Z L R M0)) (cs := 0) (ss := 0) rfl trivial trivial ⟨Nat.le_refl _, Nat.le_refl _⟩ ⟨M0, by rw [if_pos (by omega), if_pos (by omega), if_neg (by omega)], rfl, hkM0⟩
            · refine z_br c 5 (¬ ((mSort M0) p) = 4) (77, [some (zR 32), some (zI p), some (zI s), some (zI x), none], [], (zw sc B S Z L R M0), 0, 0) (73, [some (zR 32), some (zI p), some (zI s), some (zI x), none], [], (zw sc B S Z L R M0), 0, 0) rfl ⟨(show ((-2147483648 : Int) ≤ ((mSort M0) p) ∧ ((mSort M0) p) ≤ 2147483647) ∧ (-2147483648 : Int) ≤ 4 ∧ 4 ≤ 2147483647 by omega), (show (0 : Int) ≤ p ∧ p < 100 by omega), trivial⟩ (fun h70 => ?_) (fun h70 => ?_)
              · refine z_br c 3 (0 = 0) (94, [some (zR 32), some (zI p), some (zI s), some (zI x), some (zI 0)], [], (zw sc B S Z L R M0), 0, 0) (85, [some (zR 32), some (zI p), some (zI s), some (zI x), some (zI 0)], [], (zw sc B S Z L R M0), 0, 0) rfl ⟨(show (-2147483648 : Int) ≤ 0 ∧ 0 ≤ 2147483647 by omega), trivial⟩ (fun h82 => ?_) (fun h82 => by exfalso; omega)
                exact z_re c 1 (v := some (zI ((-13)))) (h := (zw sc B S Z L R M0)) (cs := 0) (ss := 0) rfl trivial trivial ⟨Nat.le_refl _, Nat.le_refl _⟩ ⟨M0, by rw [if_pos (by omega), if_pos (by omega), if_neg (by omega)], rfl, hkM0⟩
              · refine z_br c 4 (1 = 0) (94, [some (zR 32), some (zI p), some (zI s), some (zI x), some (zI 1)], [], (zw sc B S Z L R M0), 0, 0) (85, [some (zR 32), some (zI p), some (zI s), some (zI x), some (zI 1)], [], (zw sc B S Z L R M0), 0, 0) rfl ⟨(show (-2147483648 : Int) ≤ 1 ∧ 1 ≤ 2147483647 by omega), trivial⟩ (fun h82 => by exfalso; omega) (fun h82 => ?_)
                refine z_cV c 3 k_6_77 zv_X6_get (pc := 91) (ls := [some (zR 32), some (zI p), some (zI s), some (zI x), some (zI 1)]) (sk := []) (h := (zw sc B S Z L R M0)) (cs := 0) (ss := 0) (c_X6_get l sc B S Z L R M0 p x (by omega) (by omega)) rfl trivial rfl rfl ⟨Nat.le_refl _, Nat.le_refl _⟩ ?_
                rintro _ _ ⟨rfl, rfl⟩
                show V (91, [some (zR 32), some (zI p), some (zI s), some (zI x), some (zI 1)], [zI (((mTold M0) (12 * p + x)))], (zw sc B S Z L R M0), 0, 0)
                rw [hM0.2.2.2 p x (by omega) (by omega) (by omega) (by omega)]
                have q88 := hT p x (by omega) (by omega) (by omega) (by omega)
                show V (91, [some (zR 32), some (zI p), some (zI s), some (zI x), some (zI 1)], [zI ((T (p * 12 + x)))], (zw sc B S Z L R M0), 0, 0)
                exact z_re c 1 (v := some (zI ((T (p * 12 + x))))) (h := (zw sc B S Z L R M0)) (cs := 0) (ss := 0) rfl trivial trivial ⟨Nat.le_refl _, Nat.le_refl _⟩ ⟨M0, by rw [if_pos (by omega), if_pos (by omega), if_pos (by omega)], rfl, hkM0⟩
      · exact z_re c 1 (v := some (zI ((-2)))) (h := (zw sc B S Z L R M0)) (cs := 0) (ss := 0) rfl trivial trivial ⟨Nat.le_refl _, Nat.le_refl _⟩ ⟨M0, by rw [if_pos (by omega), if_neg (by omega)], rfl, hkM0⟩
  · exact z_re c 1 (v := some (zI ((-1)))) (h := (zw sc B S Z L R M0)) (cs := 0) (ss := 0) rfl trivial trivial ⟨Nat.le_refl _, Nat.le_refl _⟩ ⟨M0, by rw [if_neg (by omega)], rfl, hkM0⟩
set_option maxRecDepth 4000 in
theorem c_X6_counts (l : Launch) (sc : ZSc) (B : ZBk) (S Z : ZSg) (L : ZLn) (R : ZRd) (M : ZMd) (T K : Int → Int) (n nw : Int) (p a : Int) (hB : zBv T K n nw) (hM : zMr T n nw M) (hQ : mWithout M = -9) (hnw : 0 ≤ nw ∧ nw ≤ 12) (hp : (-2147483648 ≤ p ∧ p ≤ 2147483647)) (ha : (-2147483648 ≤ a ∧ a ≤ 2147483647)) : zMet l m_X6_counts [zR 32, zI p, zI a] (zw sc B S Z L R M) (fun v h1 => ∃ M1, v = some (zI (if (0 ≤ p ∧ p < n) ∧ (a = -9 ∨ (0 ≤ a ∧ a < n)) then (if zcB K n (zlast n a) (-9) p = true then 1 else 0) else -1)) ∧ zw sc B S Z L R M1 = h1 ∧ zMk M M1) := by
  refine z_method g_X6_counts [some (zR 32), some (zI p), some (zI a)] rfl rfl (fun V c => ?_)
  obtain ⟨hn, hT, -, hv, hno, hKs⟩ := id hB
  refine z_go c 3 (s1 := (5, [some (zR 32), some (zI p), some (zI a)], [], (zw sc B S Z L R ((0, (mWays M), (mOne M), (mTwo M), (mPages M), (mOrders M)), ((mSort M), (mTold M), (mLast M), (mWithout M), (mIsIn M), (mNeeds M)), ((mPersons M), (mGaps M), (mWeight M), (mSeen M), (mFew M), (mBroken M)), ((mHolds M), (mMany M), (mOrder M), (mIsGood M), (mFar M)))), 0, 0)) rfl trivial ?_
  have hkM0 : zMk M ((0, (mWays M), (mOne M), (mTwo M), (mPages M), (mOrders M)), ((mSort M), (mTold M), (mLast M), (mWithout M), (mIsIn M), (mNeeds M)), ((mPersons M), (mGaps M), (mWeight M), (mSeen M), (mFew M), (mBroken M)), ((mHolds M), (mMany M), (mOrder M), (mIsGood M), (mFar M))) := ⟨rfl, rfl, rfl, rfl⟩
  generalize (((0, (mWays M), (mOne M), (mTwo M), (mPages M), (mOrders M)), ((mSort M), (mTold M), (mLast M), (mWithout M), (mIsIn M), (mNeeds M)), ((mPersons M), (mGaps M), (mWeight M), (mSeen M), (mFew M), (mBroken M)), ((mHolds M), (mMany M), (mOrder M), (mIsGood M), (mFar M))) : ZMd) = M0 at hkM0 ⊢
  have hM0 := zMr_k hM hkM0
  have hQ0 : mWithout M0 = -9 := hkM0.2.2.2.trans hQ
  have eN0 := hM0.1
  have eW0 := hM0.2.1
  refine z_cV c 2 k_6_64 zv_X6_noPage (pc := 10) (ls := [some (zR 32), some (zI p), some (zI a)]) (sk := []) (h := (zw sc B S Z L R M0)) (cs := 0) (ss := 0) (c_X6_noPage l sc B S Z L R M0 p (show 0 ≤ mPages M0 ∧ mPages M0 ≤ 100 by omega) (by omega)) rfl trivial rfl rfl ⟨Nat.le_refl _, Nat.le_refl _⟩ ?_
  rintro _ _ ⟨rp7, rfl, ep7, rfl⟩
  replace ep7 : (¬ (0 ≤ p ∧ p < mPages M0) ∧ rp7 = 1) ∨ (¬ ¬ (0 ≤ p ∧ p < mPages M0) ∧ rp7 = 0) := ep7
  show V (10, [some (zR 32), some (zI p), some (zI a)], [zI rp7], (zw sc B S Z L R M0), 0, 0)
  refine z_br c 0 (¬ rp7 = 0) (21, [some (zR 32), some (zI p), some (zI a)], [], (zw sc B S Z L R M0), 0, 0) (13, [some (zR 32), some (zI p), some (zI a)], [], (zw sc B S Z L R M0), 0, 0) rfl ⟨(show (-2147483648 : Int) ≤ rp7 ∧ rp7 ≤ 2147483647 by omega), trivial⟩ (fun h10 => ?_) (fun h10 => ?_)
  · exact z_re c 1 (v := some (zI ((-1)))) (h := (zw sc B S Z L R M0)) (cs := 0) (ss := 0) rfl trivial trivial ⟨Nat.le_refl _, Nat.le_refl _⟩ ⟨M0, by rw [if_neg (by omega)], rfl, hkM0⟩
  · refine z_cV c 2 k_6_170 zv_X6_noAs (pc := 18) (ls := [some (zR 32), some (zI p), some (zI a)]) (sk := []) (h := (zw sc B S Z L R M0)) (cs := 0) (ss := 0) (c_X6_noAs l sc B S Z L R M0 a (show 0 ≤ mPages M0 ∧ mPages M0 ≤ 100 by omega) (by omega)) rfl trivial rfl rfl ⟨Nat.le_refl _, Nat.le_refl _⟩ ?_
    rintro _ _ ⟨ra15, rfl, ea15, rfl⟩
    show V (18, [some (zR 32), some (zI p), some (zI a)], [zI ra15], (zw sc B S Z L R M0), 0, 0)
    refine z_br c 0 (ra15 = 0) (23, [some (zR 32), some (zI p), some (zI a)], [], (zw sc B S Z L R M0), 0, 0) (21, [some (zR 32), some (zI p), some (zI a)], [], (zw sc B S Z L R M0), 0, 0) rfl ⟨(show (-2147483648 : Int) ≤ ra15 ∧ ra15 ≤ 2147483647 by omega), trivial⟩ (fun h18 => ?_) (fun h18 => ?_)
    · refine z_cV c 2 k_6_155 zv_X6_look (pc := 28) (ls := [some (zR 32), some (zI p), some (zI a)]) (sk := []) (h := (zw sc B S Z L R M0)) (cs := 0) (ss := 0) (c_look l sc B S Z L R M0 T K n nw (-9) a hB hM0 hQ0 (by omega) (by omega)) rfl trivial rfl rfl ⟨Nat.le_refl _, Nat.le_refl _⟩ ?_
      rintro _ _ ⟨rfl, ML, rfl, hLL, hk9, hfr9⟩
      have hkML := zMk_trans hkM0 hk9
      have hl := zlast_rng (n := n) (a := a) hn.1 (by omega)
      have eN1 := hLL.1.1
      have eW1 := hLL.1.2.1
      have hvm : ∀ p : Nat, p < ((zlast n a) + 1).toNat → zvp T nw (p : Int) := fun p h => hv p (by omega)
      show V (28, [some (zR 32), some (zI p), some (zI a)], [], (zw sc B S Z L R ML), 0, 0)
      have qi := hLL.2.2.1 p (by omega) (by omega)
      refine z_br c 4 (((mIsIn ML) p) = 0) (41, [some (zR 32), some (zI p), some (zI a)], [], (zw sc B S Z L R ML), 0, 0) (37, [some (zR 32), some (zI p), some (zI a)], [], (zw sc B S Z L R ML), 0, 0) rfl ⟨(show (-2147483648 : Int) ≤ ((mIsIn ML) p) ∧ ((mIsIn ML) p) ≤ 2147483647 by omega), (show (0 : Int) ≤ p ∧ p < 100 by omega), trivial⟩ (fun h34 => ?_) (fun h34 => ?_)
      · exact z_re c 1 (v := some (zI 0)) (h := (zw sc B S Z L R ML)) (cs := 0) (ss := 0) rfl trivial trivial ⟨Nat.le_refl _, Nat.le_refl _⟩ ⟨ML, by rw [if_pos (by omega), if_neg (by rcases qi with ⟨g, g2⟩ | ⟨g, g2⟩; exfalso; omega; exact g2)], rfl, hkML⟩
      · exact z_re c 2 (v := some (zI 1)) (h := (zw sc B S Z L R ML)) (cs := 0) (ss := 0) rfl trivial trivial ⟨Nat.le_refl _, Nat.le_refl _⟩ ⟨ML, by rw [if_pos (by omega), if_pos (by rcases qi with ⟨g, g2⟩ | ⟨g, g2⟩; exact g2; exfalso; omega)], rfl, hkML⟩
    · exact z_re c 1 (v := some (zI ((-1)))) (h := (zw sc B S Z L R M0)) (cs := 0) (ss := 0) rfl trivial trivial ⟨Nat.le_refl _, Nat.le_refl _⟩ ⟨M0, by rw [if_neg (by omega)], rfl, hkM0⟩
set_option maxRecDepth 4000 in
theorem c_X6_goodOf (l : Launch) (sc : ZSc) (B : ZBk) (S Z : ZSg) (L : ZLn) (R : ZRd) (M : ZMd) (T K : Int → Int) (n nw q l1 : Int) (p : Int) (hB : zBv T K n nw) (hL : zLk T K n nw q l1 M) (hl : -1 ≤ l1 ∧ l1 < n) (hp : 0 ≤ p ∧ p < n) (h34 : T (p * 12 + 0) = 3 ∨ T (p * 12 + 0) = 4) (hnw : nw ≤ 12) : zMet l m_X6_goodOf [zR 32, zI p] (zw sc B S Z L R M) (fun v h1 => ∃ M1 r, v = some (zI r) ∧ ((zGd T n (zcB K n l1 q) (l1 + 1).toNat p ∧ r = 1) ∨ (¬ zGd T n (zcB K n l1 q) (l1 + 1).toNat p ∧ r = 0)) ∧ zw sc B S Z L R M1 = h1 ∧ zMs M M1) := by
  refine z_method g_X6_goodOf [some (zR 32), some (zI p), none, none] rfl rfl (fun V c => ?_)
  obtain ⟨hn, hT, -, hv, hno, hKs⟩ := id hB
  obtain ⟨hM, e1, hI, e2, e3, e4, e5⟩ := id hL
  have eN := hM.1
  have eW := hM.2.1
  have hst := zst_rng (T := T) (ct := (zcB K n l1 q)) (m := (l1 + 1).toNat) (nw := nw) (fun p h => hv p (by omega))
  have qi := hI p (by omega) (by omega)
  have hcn := zof_no T (zcB K n l1 q) (T (p * 12 + 1)) (l1 + 1).toNat
  have hcm := zno_mono T n.toNat (show (l1 + 1).toNat ≤ n.toNat by omega)
  have hvp := zvp_34 (nw := nw) (p := p) (by have := hv p.toNat (by omega); rw [show ((p.toNat : Nat) : Int) = p by omega] at this; exact this) h34
  refine z_br c 4 (¬ ((mIsIn M) p) = 0) (11, [some (zR 32), some (zI p), none, none], [], (zw sc B S Z L R M), 0, 0) (9, [some (zR 32), some (zI p), none, none], [], (zw sc B S Z L R M), 0, 0) rfl ⟨(show (-2147483648 : Int) ≤ ((mIsIn M) p) ∧ ((mIsIn M) p) ≤ 2147483647 by omega), (show (0 : Int) ≤ p ∧ p < 100 by omega), trivial⟩ (fun h6 => ?_) (fun h6 => ?_)
  · refine z_cV c 4 k_6_77 zv_X6_get (pc := 18) (ls := [some (zR 32), some (zI p), none, none]) (sk := [zR 32]) (h := (zw sc B S Z L R M)) (cs := 0) (ss := 0) (c_X6_get l sc B S Z L R M p 1 (by omega) (by omega)) rfl trivial rfl rfl ⟨Nat.le_refl _, Nat.le_refl _⟩ ?_
    rintro _ _ ⟨rfl, rfl⟩
    show V (18, [some (zR 32), some (zI p), none, none], [zI (((mTold M) (12 * p + 1))), zR 32], (zw sc B S Z L R M), 0, 0)
    rw [hM.2.2.2 p 1 (by omega) (by omega) (by omega) (by omega)]
    have q15 := hT p 1 (by omega) (by omega) (by omega) (by omega)
    show V (18, [some (zR 32), some (zI p), none, none], [zI ((T (p * 12 + 1))), zR 32], (zw sc B S Z L R M), 0, 0)
    refine z_cV c 0 k_6_176 zv_X6_prepare (pc := 21) (ls := [some (zR 32), some (zI p), none, none]) (sk := []) (h := (zw sc B S Z L R M)) (cs := 0) (ss := 0) (c_X6_prepare l sc B S Z L R M T K n nw q l1 ((T (p * 12 + 1))) hB hL hl (by omega) hnw) rfl trivial rfl rfl ⟨Nat.le_refl _, Nat.le_refl _⟩ ?_
    rintro _ _ ⟨rfl, MP, rfl, hsP, hPd⟩
    obtain ⟨hP1, hP2, hP3, hP4⟩ := hPd
    show V (21, [some (zR 32), some (zI p), none, none], [], (zw sc B S Z L R MP), 0, 0)
    refine z_go c 4 (s1 := (25, [some (zR 32), some (zI p), some (zI 0), some (zI 0)], [], (zw sc B S Z L R MP), 0, 0)) rfl trivial ?_
    have loop : ∀ (x m : Nat) (b : Int), mMany MP - (m : Int) < (x : Int) → (m : Int) ≤ mMany MP → ((b = 1 ∧ ∃ j : Nat, j < m ∧ (zof T (zcB K n l1 q) (T (p * 12 + 1)) (l1 + 1).toNat).1 (j : Int) = p ∧ zqM T n (zcB K n l1 q) (T (p * 12 + 1)) (l1 + 1).toNat j = true) ∨ (b = 0 ∧ ¬ ∃ j : Nat, j < m ∧ (zof T (zcB K n l1 q) (T (p * 12 + 1)) (l1 + 1).toNat).1 (j : Int) = p ∧ zqM T n (zcB K n l1 q) (T (p * 12 + 1)) (l1 + 1).toNat j = true)) → V (25, [some (zR 32), some (zI p), some (zI b), some (zI ((m : Int)))], [], (zw sc B S Z L R MP), 0, 0) := by
      intro x
      induction x with
      | zero => intro m b h1 h2; exfalso; omega
      | succ x ih =>
        intro m b hm1 hm2 hb
        have hbr : b = 0 ∨ b = 1 := by rcases hb with g | g; exact Or.inr g.1; exact Or.inl g.1
        refine z_br c 3 ((mMany MP) ≤ (m : Int)) (68, [some (zR 32), some (zI p), some (zI b), some (zI ((m : Int)))], [], (zw sc B S Z L R MP), 0, 0) (33, [some (zR 32), some (zI p), some (zI b), some (zI ((m : Int)))], [], (zw sc B S Z L R MP), 0, 0) rfl ⟨(show ((-2147483648 : Int) ≤ (m : Int) ∧ (m : Int) ≤ 2147483647) ∧ (-2147483648 : Int) ≤ (mMany MP) ∧ (mMany MP) ≤ 2147483647 by omega), trivial⟩ (fun h30 => ?_) (fun h30 => ?_)
        · exact z_re c 1 (v := some (zI b)) (h := (zw sc B S Z L R MP)) (cs := 0) (ss := 0) rfl trivial (show b = 0 ∨ b = 1 by omega) ⟨Nat.le_refl _, Nat.le_refl _⟩ ⟨_, b, rfl, (by obtain rfl : m = (zof T (zcB K n l1 q) (T (p * 12 + 1)) (l1 + 1).toNat).2 := (by omega); rcases hb with ⟨g1, g2⟩ | ⟨g1, g2⟩; exact Or.inl ⟨zGd_iff.mpr g2, g1⟩; exact Or.inr ⟨fun z => g2 (zGd_iff.mp z), g1⟩), rfl, hsP⟩
        · have ho := hP3 m (by omega)
          have hg := hP4 m (by omega)
          have hgr : mIsGood MP (m : Int) = 0 ∨ mIsGood MP (m : Int) = 1 := by rcases hg with g | g; exact Or.inr g.1; exact Or.inl g.1
          have hm7 := (zof_mem (T := T) (ct := (zcB K n l1 q)) (w := (T (p * 12 + 1))) (l1 + 1).toNat (m : Int) (by omega) (by omega)).1
          rw [← ho] at hm7
          refine z_br c 1 (¬ b = 0) (56, [some (zR 32), some (zI p), some (zI b), some (zI ((m : Int)))], [], (zw sc B S Z L R MP), 0, 0) (37, [some (zR 32), some (zI p), some (zI b), some (zI ((m : Int)))], [], (zw sc B S Z L R MP), 0, 0) rfl ⟨(show (-2147483648 : Int) ≤ b ∧ b ≤ 2147483647 by omega), trivial⟩ (fun h34 => ?_) (fun h34 => ?_)
          · refine z_go c 2 (s1 := (61, [some (zR 32), some (zI p), some (zI b), some (zI ((m : Int)))], [zI 1], (zw sc B S Z L R MP), 0, 0)) rfl trivial ?_
            exact z_go c 3 (s1 := (25, [some (zR 32), some (zI p), some (zI 1), some (zI (((m : Int) + 1)))], [], (zw sc B S Z L R MP), 0, 0)) rfl trivial (ih (m + 1) _ (by omega) (by omega) (Or.inl ⟨rfl, by
              by_cases g0 : b = 0
              · rcases hg with ⟨g1, g2⟩ | ⟨g1, g2⟩
                · exact ⟨m, by omega, by omega, g2⟩
                · exfalso; omega
              · rcases hb with ⟨-, j, a, z⟩ | ⟨z, -⟩
                · exact ⟨j, by omega, z⟩
                · exact absurd z g0⟩))
          · refine z_br c 5 (¬ ((mOrder MP) ((m : Int))) = p) (60, [some (zR 32), some (zI p), some (zI b), some (zI ((m : Int)))], [], (zw sc B S Z L R MP), 0, 0) (47, [some (zR 32), some (zI p), some (zI b), some (zI ((m : Int)))], [], (zw sc B S Z L R MP), 0, 0) rfl ⟨(show ((-2147483648 : Int) ≤ ((mOrder MP) ((m : Int))) ∧ ((mOrder MP) ((m : Int))) ≤ 2147483647) ∧ (-2147483648 : Int) ≤ p ∧ p ≤ 2147483647 by omega), (show (0 : Int) ≤ (m : Int) ∧ (m : Int) < 20 by omega), trivial⟩ (fun h44 => ?_) (fun h44 => ?_)
            · refine z_go c 1 (s1 := (61, [some (zR 32), some (zI p), some (zI b), some (zI ((m : Int)))], [zI 0], (zw sc B S Z L R MP), 0, 0)) rfl trivial ?_
              exact z_go c 3 (s1 := (25, [some (zR 32), some (zI p), some (zI 0), some (zI (((m : Int) + 1)))], [], (zw sc B S Z L R MP), 0, 0)) rfl trivial (ih (m + 1) _ (by omega) (by omega) (Or.inr ⟨rfl, by
                rintro ⟨j, a, z1, z2⟩
                rcases hb with ⟨z, -⟩ | ⟨-, z⟩
                · omega
                · rcases (show j < m ∨ j = m by omega) with d | d
                  · exact z ⟨j, d, z1, z2⟩
                  · subst d
                    rcases hg with ⟨g1, g2⟩ | ⟨g1, g2⟩
                    · omega
                    · exact g2 z2⟩))
            · refine z_br c 4 (((mIsGood MP) ((m : Int))) = 0) (60, [some (zR 32), some (zI p), some (zI b), some (zI ((m : Int)))], [], (zw sc B S Z L R MP), 0, 0) (56, [some (zR 32), some (zI p), some (zI b), some (zI ((m : Int)))], [], (zw sc B S Z L R MP), 0, 0) rfl ⟨(show (-2147483648 : Int) ≤ ((mIsGood MP) ((m : Int))) ∧ ((mIsGood MP) ((m : Int))) ≤ 2147483647 by omega), (show (0 : Int) ≤ (m : Int) ∧ (m : Int) < 20 by omega), trivial⟩ (fun h53 => ?_) (fun h53 => ?_)
              · refine z_go c 1 (s1 := (61, [some (zR 32), some (zI p), some (zI b), some (zI ((m : Int)))], [zI 0], (zw sc B S Z L R MP), 0, 0)) rfl trivial ?_
                exact z_go c 3 (s1 := (25, [some (zR 32), some (zI p), some (zI 0), some (zI (((m : Int) + 1)))], [], (zw sc B S Z L R MP), 0, 0)) rfl trivial (ih (m + 1) _ (by omega) (by omega) (Or.inr ⟨rfl, by
                  rintro ⟨j, a, z1, z2⟩
                  rcases hb with ⟨z, -⟩ | ⟨-, z⟩
                  · omega
                  · rcases (show j < m ∨ j = m by omega) with d | d
                    · exact z ⟨j, d, z1, z2⟩
                    · subst d
                      rcases hg with ⟨g1, g2⟩ | ⟨g1, g2⟩
                      · omega
                      · exact g2 z2⟩))
              · refine z_go c 2 (s1 := (61, [some (zR 32), some (zI p), some (zI b), some (zI ((m : Int)))], [zI 1], (zw sc B S Z L R MP), 0, 0)) rfl trivial ?_
                exact z_go c 3 (s1 := (25, [some (zR 32), some (zI p), some (zI 1), some (zI (((m : Int) + 1)))], [], (zw sc B S Z L R MP), 0, 0)) rfl trivial (ih (m + 1) _ (by omega) (by omega) (Or.inl ⟨rfl, by
                  by_cases g0 : b = 0
                  · rcases hg with ⟨g1, g2⟩ | ⟨g1, g2⟩
                    · exact ⟨m, by omega, by omega, g2⟩
                    · exfalso; omega
                  · rcases hb with ⟨-, j, a, z⟩ | ⟨z, -⟩
                    · exact ⟨j, by omega, z⟩
                    · exact absurd z g0⟩))
    exact loop 22 0 _ (by omega) (by omega) (Or.inr ⟨rfl, fun ⟨j, a, _⟩ => absurd a (Nat.not_lt_zero _)⟩)
  · exact z_re c 1 (v := some (zI 0)) (h := (zw sc B S Z L R M)) (cs := 0) (ss := 0) rfl trivial (Or.inl rfl) ⟨Nat.le_refl _, Nat.le_refl _⟩ ⟨_, 0, rfl, Or.inr ⟨fun z => by have z2 := (zGd_ct z).1; rcases qi with ⟨g, -⟩ | ⟨-, g⟩; omega; exact g z2, rfl⟩, rfl, zMs_refl _⟩
set_option maxRecDepth 4000 in
theorem c_X6_good (l : Launch) (sc : ZSc) (B : ZBk) (S Z : ZSg) (L : ZLn) (R : ZRd) (M : ZMd) (T K : Int → Int) (n nw : Int) (p a : Int) (hB : zBv T K n nw) (hM : zMr T n nw M) (hQ : mWithout M = -9) (hnw : 0 ≤ nw ∧ nw ≤ 12) (hp : (-2147483648 ≤ p ∧ p ≤ 2147483647)) (ha : (-2147483648 ≤ a ∧ a ≤ 2147483647)) : zMet l m_X6_good [zR 32, zI p, zI a] (zw sc B S Z L R M) (fun v h1 => ∃ M1, v = some (zI (if (0 ≤ p ∧ p < n) ∧ (a = -9 ∨ (0 ≤ a ∧ a < n)) then (if T (p * 12 + 0) = 3 ∨ T (p * 12 + 0) = 4 then (if zinG (zVg T n (zcB K n (zlast n a) (-9)) (T (p * 12 + 1)) ((zlast n a) + 1).toNat).1 p (zVg T n (zcB K n (zlast n a) (-9)) (T (p * 12 + 1)) ((zlast n a) + 1).toNat).2.toNat = true then 1 else 0) else -13) else -1)) ∧ zw sc B S Z L R M1 = h1 ∧ zMk M M1) := by
  refine z_method g_X6_good [some (zR 32), some (zI p), some (zI a)] rfl rfl (fun V c => ?_)
  obtain ⟨hn, hT, -, hv, hno, hKs⟩ := id hB
  refine z_go c 3 (s1 := (5, [some (zR 32), some (zI p), some (zI a)], [], (zw sc B S Z L R ((0, (mWays M), (mOne M), (mTwo M), (mPages M), (mOrders M)), ((mSort M), (mTold M), (mLast M), (mWithout M), (mIsIn M), (mNeeds M)), ((mPersons M), (mGaps M), (mWeight M), (mSeen M), (mFew M), (mBroken M)), ((mHolds M), (mMany M), (mOrder M), (mIsGood M), (mFar M)))), 0, 0)) rfl trivial ?_
  have hkM0 : zMk M ((0, (mWays M), (mOne M), (mTwo M), (mPages M), (mOrders M)), ((mSort M), (mTold M), (mLast M), (mWithout M), (mIsIn M), (mNeeds M)), ((mPersons M), (mGaps M), (mWeight M), (mSeen M), (mFew M), (mBroken M)), ((mHolds M), (mMany M), (mOrder M), (mIsGood M), (mFar M))) := ⟨rfl, rfl, rfl, rfl⟩
  generalize (((0, (mWays M), (mOne M), (mTwo M), (mPages M), (mOrders M)), ((mSort M), (mTold M), (mLast M), (mWithout M), (mIsIn M), (mNeeds M)), ((mPersons M), (mGaps M), (mWeight M), (mSeen M), (mFew M), (mBroken M)), ((mHolds M), (mMany M), (mOrder M), (mIsGood M), (mFar M))) : ZMd) = M0 at hkM0 ⊢
  have hM0 := zMr_k hM hkM0
  have hQ0 : mWithout M0 = -9 := hkM0.2.2.2.trans hQ
  have eN0 := hM0.1
  have eW0 := hM0.2.1
  refine z_cV c 2 k_6_64 zv_X6_noPage (pc := 10) (ls := [some (zR 32), some (zI p), some (zI a)]) (sk := []) (h := (zw sc B S Z L R M0)) (cs := 0) (ss := 0) (c_X6_noPage l sc B S Z L R M0 p (show 0 ≤ mPages M0 ∧ mPages M0 ≤ 100 by omega) (by omega)) rfl trivial rfl rfl ⟨Nat.le_refl _, Nat.le_refl _⟩ ?_
  rintro _ _ ⟨rp7, rfl, ep7, rfl⟩
  replace ep7 : (¬ (0 ≤ p ∧ p < mPages M0) ∧ rp7 = 1) ∨ (¬ ¬ (0 ≤ p ∧ p < mPages M0) ∧ rp7 = 0) := ep7
  show V (10, [some (zR 32), some (zI p), some (zI a)], [zI rp7], (zw sc B S Z L R M0), 0, 0)
  refine z_br c 0 (¬ rp7 = 0) (21, [some (zR 32), some (zI p), some (zI a)], [], (zw sc B S Z L R M0), 0, 0) (13, [some (zR 32), some (zI p), some (zI a)], [], (zw sc B S Z L R M0), 0, 0) rfl ⟨(show (-2147483648 : Int) ≤ rp7 ∧ rp7 ≤ 2147483647 by omega), trivial⟩ (fun h10 => ?_) (fun h10 => ?_)
  · exact z_re c 1 (v := some (zI ((-1)))) (h := (zw sc B S Z L R M0)) (cs := 0) (ss := 0) rfl trivial trivial ⟨Nat.le_refl _, Nat.le_refl _⟩ ⟨M0, by rw [if_neg (by omega)], rfl, hkM0⟩
  · refine z_cV c 2 k_6_170 zv_X6_noAs (pc := 18) (ls := [some (zR 32), some (zI p), some (zI a)]) (sk := []) (h := (zw sc B S Z L R M0)) (cs := 0) (ss := 0) (c_X6_noAs l sc B S Z L R M0 a (show 0 ≤ mPages M0 ∧ mPages M0 ≤ 100 by omega) (by omega)) rfl trivial rfl rfl ⟨Nat.le_refl _, Nat.le_refl _⟩ ?_
    rintro _ _ ⟨ra15, rfl, ea15, rfl⟩
    show V (18, [some (zR 32), some (zI p), some (zI a)], [zI ra15], (zw sc B S Z L R M0), 0, 0)
    refine z_br c 0 (ra15 = 0) (23, [some (zR 32), some (zI p), some (zI a)], [], (zw sc B S Z L R M0), 0, 0) (21, [some (zR 32), some (zI p), some (zI a)], [], (zw sc B S Z L R M0), 0, 0) rfl ⟨(show (-2147483648 : Int) ≤ ra15 ∧ ra15 ≤ 2147483647 by omega), trivial⟩ (fun h18 => ?_) (fun h18 => ?_)
    · have qs := hM0.2.2.1 p (by omega) (by omega)
      have qt := hT p 0 (by omega) (by omega) (by omega) (by omega)
      refine z_br c 5 (((mSort M0) p) = 3) (46, [some (zR 32), some (zI p), some (zI a)], [], (zw sc B S Z L R M0), 0, 0) (33, [some (zR 32), some (zI p), some (zI a)], [], (zw sc B S Z L R M0), 0, 0) rfl ⟨(show ((-2147483648 : Int) ≤ ((mSort M0) p) ∧ ((mSort M0) p) ≤ 2147483647) ∧ (-2147483648 : Int) ≤ 3 ∧ 3 ≤ 2147483647 by omega), (show (0 : Int) ≤ p ∧ p < 100 by omega), trivial⟩ (fun h30 => ?_) (fun h30 => ?_)
      · refine z_cV c 2 k_6_155 zv_X6_look (pc := 51) (ls := [some (zR 32), some (zI p), some (zI a)]) (sk := []) (h := (zw sc B S Z L R M0)) (cs := 0) (ss := 0) (c_look l sc B S Z L R M0 T K n nw (-9) a hB hM0 hQ0 (by omega) (by omega)) rfl trivial rfl rfl ⟨Nat.le_refl _, Nat.le_refl _⟩ ?_
        rintro _ _ ⟨rfl, ML, rfl, hLL, hk9, hfr9⟩
        have hkML := zMk_trans hkM0 hk9
        have hl := zlast_rng (n := n) (a := a) hn.1 (by omega)
        have eN1 := hLL.1.1
        have eW1 := hLL.1.2.1
        have hvm : ∀ p : Nat, p < ((zlast n a) + 1).toNat → zvp T nw (p : Int) := fun p h => hv p (by omega)
        show V (51, [some (zR 32), some (zI p), some (zI a)], [], (zw sc B S Z L R ML), 0, 0)
        refine z_cV c 2 k_6_179 zv_X6_goodOf (pc := 56) (ls := [some (zR 32), some (zI p), some (zI a)]) (sk := []) (h := (zw sc B S Z L R ML)) (cs := 0) (ss := 0) (c_X6_goodOf l sc B S Z L R ML T K n nw (-9) (zlast n a) p hB hLL hl (by omega) (by omega) hnw.2) rfl trivial rfl rfl ⟨Nat.le_refl _, Nat.le_refl _⟩ ?_
        rintro _ _ ⟨MG, rg, rfl, hrg, rfl, hsG⟩
        have hkMG := zMk_trans hkML (zMk_ms hsG)
        have hrgr : rg = 0 ∨ rg = 1 := by rcases hrg with g | g; exact Or.inr g.2; exact Or.inl g.2
        show V (56, [some (zR 32), some (zI p), some (zI a)], [zI rg], (zw sc B S Z L R MG), 0, 0)
        refine z_br c 0 (rg = 0) (63, [some (zR 32), some (zI p), some (zI a)], [], (zw sc B S Z L R MG), 0, 0) (59, [some (zR 32), some (zI p), some (zI a)], [], (zw sc B S Z L R MG), 0, 0) rfl ⟨(show (-2147483648 : Int) ≤ rg ∧ rg ≤ 2147483647 by omega), trivial⟩ (fun h56 => ?_) (fun h56 => ?_)
        · exact z_re c 1 (v := some (zI 0)) (h := (zw sc B S Z L R MG)) (cs := 0) (ss := 0) rfl trivial trivial ⟨Nat.le_refl _, Nat.le_refl _⟩ ⟨MG, by rw [if_pos (by omega), if_pos (by omega), if_neg (by rcases hrg with ⟨g, g2⟩ | ⟨g, g2⟩; exfalso; omega; exact g)], rfl, hkMG⟩
        · exact z_re c 2 (v := some (zI 1)) (h := (zw sc B S Z L R MG)) (cs := 0) (ss := 0) rfl trivial trivial ⟨Nat.le_refl _, Nat.le_refl _⟩ ⟨MG, by rw [if_pos (by omega), if_pos (by omega), if_pos (by rcases hrg with ⟨g, g2⟩ | ⟨g, g2⟩; exact g; exfalso; omega)], rfl, hkMG⟩
      · refine z_br c 5 (((mSort M0) p) = 4) (46, [some (zR 32), some (zI p), some (zI a)], [], (zw sc B S Z L R M0), 0, 0) (43, [some (zR 32), some (zI p), some (zI a)], [], (zw sc B S Z L R M0), 0, 0) rfl ⟨(show ((-2147483648 : Int) ≤ ((mSort M0) p) ∧ ((mSort M0) p) ≤ 2147483647) ∧ (-2147483648 : Int) ≤ 4 ∧ 4 ≤ 2147483647 by omega), (show (0 : Int) ≤ p ∧ p < 100 by omega), trivial⟩ (fun h40 => ?_) (fun h40 => ?_)
        · refine z_cV c 2 k_6_155 zv_X6_look (pc := 51) (ls := [some (zR 32), some (zI p), some (zI a)]) (sk := []) (h := (zw sc B S Z L R M0)) (cs := 0) (ss := 0) (c_look l sc B S Z L R M0 T K n nw (-9) a hB hM0 hQ0 (by omega) (by omega)) rfl trivial rfl rfl ⟨Nat.le_refl _, Nat.le_refl _⟩ ?_
          rintro _ _ ⟨rfl, ML, rfl, hLL, hk9, hfr9⟩
          have hkML := zMk_trans hkM0 hk9
          have hl := zlast_rng (n := n) (a := a) hn.1 (by omega)
          have eN1 := hLL.1.1
          have eW1 := hLL.1.2.1
          have hvm : ∀ p : Nat, p < ((zlast n a) + 1).toNat → zvp T nw (p : Int) := fun p h => hv p (by omega)
          show V (51, [some (zR 32), some (zI p), some (zI a)], [], (zw sc B S Z L R ML), 0, 0)
          refine z_cV c 2 k_6_179 zv_X6_goodOf (pc := 56) (ls := [some (zR 32), some (zI p), some (zI a)]) (sk := []) (h := (zw sc B S Z L R ML)) (cs := 0) (ss := 0) (c_X6_goodOf l sc B S Z L R ML T K n nw (-9) (zlast n a) p hB hLL hl (by omega) (by omega) hnw.2) rfl trivial rfl rfl ⟨Nat.le_refl _, Nat.le_refl _⟩ ?_
          rintro _ _ ⟨MG, rg, rfl, hrg, rfl, hsG⟩
          have hkMG := zMk_trans hkML (zMk_ms hsG)
          have hrgr : rg = 0 ∨ rg = 1 := by rcases hrg with g | g; exact Or.inr g.2; exact Or.inl g.2
          show V (56, [some (zR 32), some (zI p), some (zI a)], [zI rg], (zw sc B S Z L R MG), 0, 0)
          refine z_br c 0 (rg = 0) (63, [some (zR 32), some (zI p), some (zI a)], [], (zw sc B S Z L R MG), 0, 0) (59, [some (zR 32), some (zI p), some (zI a)], [], (zw sc B S Z L R MG), 0, 0) rfl ⟨(show (-2147483648 : Int) ≤ rg ∧ rg ≤ 2147483647 by omega), trivial⟩ (fun h56 => ?_) (fun h56 => ?_)
          · exact z_re c 1 (v := some (zI 0)) (h := (zw sc B S Z L R MG)) (cs := 0) (ss := 0) rfl trivial trivial ⟨Nat.le_refl _, Nat.le_refl _⟩ ⟨MG, by rw [if_pos (by omega), if_pos (by omega), if_neg (by rcases hrg with ⟨g, g2⟩ | ⟨g, g2⟩; exfalso; omega; exact g)], rfl, hkMG⟩
          · exact z_re c 2 (v := some (zI 1)) (h := (zw sc B S Z L R MG)) (cs := 0) (ss := 0) rfl trivial trivial ⟨Nat.le_refl _, Nat.le_refl _⟩ ⟨MG, by rw [if_pos (by omega), if_pos (by omega), if_pos (by rcases hrg with ⟨g, g2⟩ | ⟨g, g2⟩; exact g; exfalso; omega)], rfl, hkMG⟩
        · exact z_re c 1 (v := some (zI ((-13)))) (h := (zw sc B S Z L R M0)) (cs := 0) (ss := 0) rfl trivial trivial ⟨Nat.le_refl _, Nat.le_refl _⟩ ⟨M0, by rw [if_pos (by omega), if_neg (by omega)], rfl, hkM0⟩
    · exact z_re c 1 (v := some (zI ((-1)))) (h := (zw sc B S Z L R M0)) (cs := 0) (ss := 0) rfl trivial trivial ⟨Nat.le_refl _, Nat.le_refl _⟩ ⟨M0, by rw [if_neg (by omega)], rfl, hkM0⟩
set_option maxRecDepth 4000 in
theorem c_X6_forceAs (l : Launch) (sc : ZSc) (B : ZBk) (S Z : ZSg) (L : ZLn) (R : ZRd) (M : ZMd) (T K : Int → Int) (n nw : Int) (w k y a : Int) (hB : zBv T K n nw) (hM : zMr T n nw M) (hQ : mWithout M = -9) (hnw : 0 ≤ nw ∧ nw ≤ 12) (ha : a = -9 ∨ (0 ≤ a ∧ a < n)) (hw : 0 ≤ w ∧ w < nw) (hk : 0 ≤ k ∧ k ≤ 2) (hy : 0 ≤ y ∧ y ≤ 100) : zMet l m_X6_forceAs [zR 32, zI w, zI k, zI y, zI a] (zw sc B S Z L R M) (fun v h1 => ∃ M1, v = some (zI (zF T K n w (zlast n a) (-9) k y)) ∧ zw sc B S Z L R M1 = h1 ∧ zMk M M1) := by
  refine z_method g_X6_forceAs [some (zR 32), some (zI w), some (zI k), some (zI y), some (zI a)] rfl rfl (fun V c => ?_)
  obtain ⟨hn, hT, -, hv, hno, hKs⟩ := id hB
  have hkM0 := zMk_refl M
  have hM0 := hM
  have hQ0 := hQ
  have eN0 := hM0.1
  have eW0 := hM0.2.1
  refine z_cV c 2 k_6_155 zv_X6_look (pc := 6) (ls := [some (zR 32), some (zI w), some (zI k), some (zI y), some (zI a)]) (sk := []) (h := (zw sc B S Z L R M)) (cs := 0) (ss := 0) (c_look l sc B S Z L R M T K n nw (-9) a hB hM0 hQ0 (by omega) (by omega)) rfl trivial rfl rfl ⟨Nat.le_refl _, Nat.le_refl _⟩ ?_
  rintro _ _ ⟨rfl, ML, rfl, hLL, hk9, hfr9⟩
  have hkML := zMk_trans hkM0 hk9
  have hl := zlast_rng (n := n) (a := a) hn.1 (by omega)
  have eN1 := hLL.1.1
  have eW1 := hLL.1.2.1
  have hvm : ∀ p : Nat, p < ((zlast n a) + 1).toNat → zvp T nw (p : Int) := fun p h => hv p (by omega)
  show V (6, [some (zR 32), some (zI w), some (zI k), some (zI y), some (zI a)], [], (zw sc B S Z L R ML), 0, 0)
  refine z_cV c 2 k_6_176 zv_X6_prepare (pc := 11) (ls := [some (zR 32), some (zI w), some (zI k), some (zI y), some (zI a)]) (sk := []) (h := (zw sc B S Z L R ML)) (cs := 0) (ss := 0) (c_X6_prepare l sc B S Z L R ML T K n nw (-9) (zlast n a) w hB hLL hl (by omega) hnw.2) rfl trivial rfl rfl ⟨Nat.le_refl _, Nat.le_refl _⟩ ?_
  rintro _ _ ⟨rfl, MP, rfl, hsP, hPd⟩
  have hLP := zLk_ms hLL hsP
  have hkMP := zMk_trans hkML (zMk_ms hsP)
  show V (11, [some (zR 32), some (zI w), some (zI k), some (zI y), some (zI a)], [], (zw sc B S Z L R MP), 0, 0)
  refine z_cV c 4 k_6_118 zv_X6_forceOf (pc := 18) (ls := [some (zR 32), some (zI w), some (zI k), some (zI y), some (zI a)]) (sk := []) (h := (zw sc B S Z L R MP)) (cs := 0) (ss := 0) (c_fP l sc B S Z L R MP T K n nw (-9) (zlast n a) w k y hB hLP hl (by omega) (by omega) (by omega) hnw.2 hPd) rfl trivial rfl rfl ⟨Nat.le_refl _, Nat.le_refl _⟩ ?_
  rintro _ _ ⟨rfl, rfl⟩
  have hzf := zF_rng T K n w (zlast n a) (-9) k y
  show V (18, [some (zR 32), some (zI w), some (zI k), some (zI y), some (zI a)], [zI ((zF T K n w (zlast n a) (-9) k y))], (zw sc B S Z L R MP), 0, 0)
  exact z_re c 0 (v := some (zI ((zF T K n w (zlast n a) (-9) k y)))) (h := (zw sc B S Z L R MP)) (cs := 0) (ss := 0) rfl trivial trivial ⟨Nat.le_refl _, Nat.le_refl _⟩ ⟨MP, rfl, rfl, hkMP⟩
set_option maxRecDepth 4000 in
theorem c_X6_leansOn (l : Launch) (sc : ZSc) (B : ZBk) (S Z : ZSg) (L : ZLn) (R : ZRd) (M : ZMd) (T K : Int → Int) (n nw : Int) (p wi w k y a : Int) (hB : zBv T K n nw) (hM : zMr T n nw M) (hQ : mWithout M = -9) (hnw : 0 ≤ nw ∧ nw ≤ 12) (hp : 0 ≤ p ∧ p < n) (hwi : -1000 ≤ wi ∧ wi ≤ 1000) (ha : a = -9 ∨ (0 ≤ a ∧ a < n)) (hw : 0 ≤ w ∧ w < nw) (hk : 0 ≤ k ∧ k ≤ 2) (hy : 0 ≤ y ∧ y ≤ 100) : zMet l m_X6_leansOn [zR 32, zI p, zI wi, zI w, zI k, zI y, zI a] (zw sc B S Z L R M) (fun v h1 => ∃ M1 r, v = some (zI r) ∧ (((zcB K n (zlast n a) (-9) p = true ∧ ¬ zF T K n w (zlast n a) p k y = wi) ∧ r = 1) ∨ (¬ (zcB K n (zlast n a) (-9) p = true ∧ ¬ zF T K n w (zlast n a) p k y = wi) ∧ r = 0)) ∧ zw sc B S Z L R M1 = h1 ∧ zMk M M1) := by
  refine z_method g_X6_leansOn [some (zR 32), some (zI p), some (zI wi), some (zI w), some (zI k), some (zI y), some (zI a), none] rfl rfl (fun V c => ?_)
  obtain ⟨hn, hT, -, hv, hno, hKs⟩ := id hB
  have hkM0 := zMk_refl M
  have hM0 := hM
  have hQ0 := hQ
  have eN0 := hM0.1
  have eW0 := hM0.2.1
  refine z_cV c 2 k_6_155 zv_X6_look (pc := 6) (ls := [some (zR 32), some (zI p), some (zI wi), some (zI w), some (zI k), some (zI y), some (zI a), none]) (sk := []) (h := (zw sc B S Z L R M)) (cs := 0) (ss := 0) (c_look l sc B S Z L R M T K n nw (-9) a hB hM0 hQ0 (by omega) (by omega)) rfl trivial rfl rfl ⟨Nat.le_refl _, Nat.le_refl _⟩ ?_
  rintro _ _ ⟨rfl, ML, rfl, hLL, hk9, hfr9⟩
  have hkML := zMk_trans hkM0 hk9
  have hl := zlast_rng (n := n) (a := a) hn.1 (by omega)
  have eN1 := hLL.1.1
  have eW1 := hLL.1.2.1
  have hvm : ∀ p : Nat, p < ((zlast n a) + 1).toNat → zvp T nw (p : Int) := fun p h => hv p (by omega)
  show V (6, [some (zR 32), some (zI p), some (zI wi), some (zI w), some (zI k), some (zI y), some (zI a), none], [], (zw sc B S Z L R ML), 0, 0)
  refine z_go c 1 (s1 := (7, [some (zR 32), some (zI p), some (zI wi), some (zI w), some (zI k), some (zI y), some (zI a), none], [zR 32], (zw sc B S Z L R ML), 0, 0)) rfl trivial ?_
  have qi := hLL.2.2.1 p (by omega) (by omega)
  refine z_br c 3 (¬ ((mIsIn ML) p) = 0) (17, [some (zR 32), some (zI p), some (zI wi), some (zI w), some (zI k), some (zI y), some (zI a), none], [], (zw sc B S Z L R ML), 0, 0) (15, [some (zR 32), some (zI p), some (zI wi), some (zI w), some (zI k), some (zI y), some (zI a), none], [], (zw sc B S Z L R ML), 0, 0) rfl ⟨(show (-2147483648 : Int) ≤ ((mIsIn ML) p) ∧ ((mIsIn ML) p) ≤ 2147483647 by omega), (show (0 : Int) ≤ p ∧ p < 100 by omega), trivial⟩ (fun h12 => ?_) (fun h12 => ?_)
  · refine z_go c 3 (s1 := (22, [some (zR 32), some (zI p), some (zI wi), some (zI w), some (zI k), some (zI y), some (zI a), none], [], (zw sc B S Z L R (((mThrown ML), (mWays ML), (mOne ML), (mTwo ML), (mPages ML), (mOrders ML)), ((mSort ML), (mTold ML), (mLast ML), p, (mIsIn ML), (mNeeds ML)), ((mPersons ML), (mGaps ML), (mWeight ML), (mSeen ML), (mFew ML), (mBroken ML)), ((mHolds ML), (mMany ML), (mOrder ML), (mIsGood ML), (mFar ML)))), 0, 0)) rfl trivial ?_
    have hk1 : (mWithout ((((mThrown ML), (mWays ML), (mOne ML), (mTwo ML), (mPages ML), (mOrders ML)), ((mSort ML), (mTold ML), (mLast ML), p, (mIsIn ML), (mNeeds ML)), ((mPersons ML), (mGaps ML), (mWeight ML), (mSeen ML), (mFew ML), (mBroken ML)), ((mHolds ML), (mMany ML), (mOrder ML), (mIsGood ML), (mFar ML))) : ZMd) = p) ∧ ((((mThrown ML), (mWays ML), (mOne ML), (mTwo ML), (mPages ML), (mOrders ML)), ((mSort ML), (mTold ML), (mLast ML), p, (mIsIn ML), (mNeeds ML)), ((mPersons ML), (mGaps ML), (mWeight ML), (mSeen ML), (mFew ML), (mBroken ML)), ((mHolds ML), (mMany ML), (mOrder ML), (mIsGood ML), (mFar ML))) : ZMd).1 = ML.1 ∧ mSort ((((mThrown ML), (mWays ML), (mOne ML), (mTwo ML), (mPages ML), (mOrders ML)), ((mSort ML), (mTold ML), (mLast ML), p, (mIsIn ML), (mNeeds ML)), ((mPersons ML), (mGaps ML), (mWeight ML), (mSeen ML), (mFew ML), (mBroken ML)), ((mHolds ML), (mMany ML), (mOrder ML), (mIsGood ML), (mFar ML))) : ZMd) = mSort ML ∧ mTold ((((mThrown ML), (mWays ML), (mOne ML), (mTwo ML), (mPages ML), (mOrders ML)), ((mSort ML), (mTold ML), (mLast ML), p, (mIsIn ML), (mNeeds ML)), ((mPersons ML), (mGaps ML), (mWeight ML), (mSeen ML), (mFew ML), (mBroken ML)), ((mHolds ML), (mMany ML), (mOrder ML), (mIsGood ML), (mFar ML))) : ZMd) = mTold ML := ⟨rfl, rfl, rfl, rfl⟩
    generalize ((((mThrown ML), (mWays ML), (mOne ML), (mTwo ML), (mPages ML), (mOrders ML)), ((mSort ML), (mTold ML), (mLast ML), p, (mIsIn ML), (mNeeds ML)), ((mPersons ML), (mGaps ML), (mWeight ML), (mSeen ML), (mFew ML), (mBroken ML)), ((mHolds ML), (mMany ML), (mOrder ML), (mIsGood ML), (mFar ML))) : ZMd) = M2 at hk1 ⊢
    have hM2 : zMr T n nw M2 := ⟨(congrArg (fun z => z.2.2.2.2.1) hk1.2.1).trans hLL.1.1, (congrArg (fun z => z.2.1) hk1.2.1).trans hLL.1.2.1, by rw [hk1.2.2.1]; exact hLL.1.2.2.1, by rw [hk1.2.2.2]; exact hLL.1.2.2.2⟩
    refine z_cV c 2 k_6_155 zv_X6_look (pc := 28) (ls := [some (zR 32), some (zI p), some (zI wi), some (zI w), some (zI k), some (zI y), some (zI a), none]) (sk := []) (h := (zw sc B S Z L R M2)) (cs := 0) (ss := 0) (c_look l sc B S Z L R M2 T K n nw p a hB hM2 hk1.1 (by omega) ha) rfl trivial rfl rfl ⟨Nat.le_refl _, Nat.le_refl _⟩ ?_
    rintro _ _ ⟨rfl, M3, rfl, hL3, hk3, hf3⟩
    show V (28, [some (zR 32), some (zI p), some (zI wi), some (zI w), some (zI k), some (zI y), some (zI a), none], [], (zw sc B S Z L R M3), 0, 0)
    refine z_cV c 2 k_6_176 zv_X6_prepare (pc := 33) (ls := [some (zR 32), some (zI p), some (zI wi), some (zI w), some (zI k), some (zI y), some (zI a), none]) (sk := []) (h := (zw sc B S Z L R M3)) (cs := 0) (ss := 0) (c_X6_prepare l sc B S Z L R M3 T K n nw p (zlast n a) w hB hL3 hl hw hnw.2) rfl trivial rfl rfl ⟨Nat.le_refl _, Nat.le_refl _⟩ ?_
    rintro _ _ ⟨rfl, M4, rfl, hsP, hPd⟩
    have hL4 := zLk_ms hL3 hsP
    show V (33, [some (zR 32), some (zI p), some (zI wi), some (zI w), some (zI k), some (zI y), some (zI a), none], [], (zw sc B S Z L R M4), 0, 0)
    refine z_cV c 4 k_6_118 zv_X6_forceOf (pc := 42) (ls := [some (zR 32), some (zI p), some (zI wi), some (zI w), some (zI k), some (zI y), some (zI a), none]) (sk := []) (h := (zw sc B S Z L R M4)) (cs := 0) (ss := 0) (c_fP l sc B S Z L R M4 T K n nw p (zlast n a) w k y hB hL4 hl hk hw hy hnw.2 hPd) rfl trivial rfl rfl ⟨Nat.le_refl _, Nat.le_refl _⟩ ?_
    rintro _ _ ⟨rfl, rfl⟩
    have hzf := zF_rng T K n w (zlast n a) p k y
    show V (42, [some (zR 32), some (zI p), some (zI wi), some (zI w), some (zI k), some (zI y), some (zI a), none], [zI ((zF T K n w (zlast n a) p k y))], (zw sc B S Z L R M4), 0, 0)
    refine z_go c 4 (s1 := (50, [some (zR 32), some (zI p), some (zI wi), some (zI w), some (zI k), some (zI y), some (zI a), some (zI ((zF T K n w (zlast n a) p k y)))], [], (zw sc B S Z L R (((mThrown M4), (mWays M4), (mOne M4), (mTwo M4), (mPages M4), (mOrders M4)), ((mSort M4), (mTold M4), (mLast M4), (-9), (mIsIn M4), (mNeeds M4)), ((mPersons M4), (mGaps M4), (mWeight M4), (mSeen M4), (mFew M4), (mBroken M4)), ((mHolds M4), (mMany M4), (mOrder M4), (mIsGood M4), (mFar M4)))), 0, 0)) rfl trivial ?_
    have hkE : zMk M (((mThrown M4), (mWays M4), (mOne M4), (mTwo M4), (mPages M4), (mOrders M4)), ((mSort M4), (mTold M4), (mLast M4), (-9), (mIsIn M4), (mNeeds M4)), ((mPersons M4), (mGaps M4), (mWeight M4), (mSeen M4), (mFew M4), (mBroken M4)), ((mHolds M4), (mMany M4), (mOrder M4), (mIsGood M4), (mFar M4))) := ⟨(congrArg (fun g => g.2) hsP.1).trans (hk3.1.trans ((congrArg (fun g => g.2) hk1.2.1).trans hkML.1)), (congrArg (fun g => g.1) hsP.2.1).trans (hk3.2.1.trans (hk1.2.2.1.trans hkML.2.1)), (congrArg (fun g => g.2.1) hsP.2.1).trans (hk3.2.2.1.trans (hk1.2.2.2.trans hkML.2.2.1)), hQ.symm⟩
    generalize ((((mThrown M4), (mWays M4), (mOne M4), (mTwo M4), (mPages M4), (mOrders M4)), ((mSort M4), (mTold M4), (mLast M4), (-9), (mIsIn M4), (mNeeds M4)), ((mPersons M4), (mGaps M4), (mWeight M4), (mSeen M4), (mFew M4), (mBroken M4)), ((mHolds M4), (mMany M4), (mOrder M4), (mIsGood M4), (mFar M4))) : ZMd) = M5 at hkE ⊢
    refine z_br c 2 ((zF T K n w (zlast n a) p k y) = wi) (60, [some (zR 32), some (zI p), some (zI wi), some (zI w), some (zI k), some (zI y), some (zI a), some (zI ((zF T K n w (zlast n a) p k y)))], [], (zw sc B S Z L R M5), 0, 0) (56, [some (zR 32), some (zI p), some (zI wi), some (zI w), some (zI k), some (zI y), some (zI a), some (zI ((zF T K n w (zlast n a) p k y)))], [], (zw sc B S Z L R M5), 0, 0) rfl ⟨(show ((-2147483648 : Int) ≤ (zF T K n w (zlast n a) p k y) ∧ (zF T K n w (zlast n a) p k y) ≤ 2147483647) ∧ (-2147483648 : Int) ≤ wi ∧ wi ≤ 2147483647 by omega), trivial⟩ (fun h53 => ?_) (fun h53 => ?_)
    · exact z_re c 1 (v := some (zI 0)) (h := (zw sc B S Z L R M5)) (cs := 0) (ss := 0) rfl trivial (Or.inl rfl) ⟨Nat.le_refl _, Nat.le_refl _⟩ ⟨_, 0, rfl, Or.inr ⟨fun z => z.2 (by omega), rfl⟩, rfl, hkE⟩
    · exact z_re c 2 (v := some (zI 1)) (h := (zw sc B S Z L R M5)) (cs := 0) (ss := 0) rfl trivial (Or.inr rfl) ⟨Nat.le_refl _, Nat.le_refl _⟩ ⟨_, 1, rfl, Or.inl ⟨⟨(by rcases qi with ⟨g, g2⟩ | ⟨g, g2⟩; exact g2; exfalso; omega), by omega⟩, rfl⟩, rfl, hkE⟩
  · exact z_re c 1 (v := some (zI 0)) (h := (zw sc B S Z L R ML)) (cs := 0) (ss := 0) rfl trivial (Or.inl rfl) ⟨Nat.le_refl _, Nat.le_refl _⟩ ⟨_, 0, rfl, Or.inr ⟨fun z => (by rcases qi with ⟨g, g2⟩ | ⟨g, g2⟩; omega; exact g2 z.1), rfl⟩, rfl, hkML⟩
set_option maxRecDepth 4000 in
theorem c_X6_leans (l : Launch) (sc : ZSc) (B : ZBk) (S Z : ZSg) (L : ZLn) (R : ZRd) (M : ZMd) (T K : Int → Int) (n nw : Int) (p w k y a : Int) (hB : zBv T K n nw) (hM : zMr T n nw M) (hQ : mWithout M = -9) (hnw : 0 ≤ nw ∧ nw ≤ 12) (hp : (-2147483648 ≤ p ∧ p ≤ 2147483647)) (hw : (-2147483648 ≤ w ∧ w ≤ 2147483647)) (hk : (-2147483648 ≤ k ∧ k ≤ 2147483647)) (hy : (-2147483648 ≤ y ∧ y ≤ 2147483647)) (ha : (-2147483648 ≤ a ∧ a ≤ 2147483647)) : zMet l m_X6_leans [zR 32, zI p, zI w, zI k, zI y, zI a] (zw sc B S Z L R M) (fun v h1 => ∃ M1, v = some (zI (if 0 ≤ p ∧ p < n then (if zrO n nw w k y a = 0 then (if (zlP T K n w k y (zlast n a)) p = true then 1 else 0) else zrO n nw w k y a) else -1)) ∧ zw sc B S Z L R M1 = h1 ∧ zMk M M1) := by
  refine z_method g_X6_leans [some (zR 32), some (zI p), some (zI w), some (zI k), some (zI y), some (zI a), none] rfl rfl (fun V c => ?_)
  obtain ⟨hn, hT, -, hv, hno, hKs⟩ := id hB
  refine z_go c 3 (s1 := (5, [some (zR 32), some (zI p), some (zI w), some (zI k), some (zI y), some (zI a), none], [], (zw sc B S Z L R ((0, (mWays M), (mOne M), (mTwo M), (mPages M), (mOrders M)), ((mSort M), (mTold M), (mLast M), (mWithout M), (mIsIn M), (mNeeds M)), ((mPersons M), (mGaps M), (mWeight M), (mSeen M), (mFew M), (mBroken M)), ((mHolds M), (mMany M), (mOrder M), (mIsGood M), (mFar M)))), 0, 0)) rfl trivial ?_
  have hkM0 : zMk M ((0, (mWays M), (mOne M), (mTwo M), (mPages M), (mOrders M)), ((mSort M), (mTold M), (mLast M), (mWithout M), (mIsIn M), (mNeeds M)), ((mPersons M), (mGaps M), (mWeight M), (mSeen M), (mFew M), (mBroken M)), ((mHolds M), (mMany M), (mOrder M), (mIsGood M), (mFar M))) := ⟨rfl, rfl, rfl, rfl⟩
  generalize (((0, (mWays M), (mOne M), (mTwo M), (mPages M), (mOrders M)), ((mSort M), (mTold M), (mLast M), (mWithout M), (mIsIn M), (mNeeds M)), ((mPersons M), (mGaps M), (mWeight M), (mSeen M), (mFew M), (mBroken M)), ((mHolds M), (mMany M), (mOrder M), (mIsGood M), (mFar M))) : ZMd) = M0 at hkM0 ⊢
  have hM0 := zMr_k hM hkM0
  have hQ0 : mWithout M0 = -9 := hkM0.2.2.2.trans hQ
  have eN0 := hM0.1
  have eW0 := hM0.2.1
  refine z_cV c 2 k_6_64 zv_X6_noPage (pc := 10) (ls := [some (zR 32), some (zI p), some (zI w), some (zI k), some (zI y), some (zI a), none]) (sk := []) (h := (zw sc B S Z L R M0)) (cs := 0) (ss := 0) (c_X6_noPage l sc B S Z L R M0 p (show 0 ≤ mPages M0 ∧ mPages M0 ≤ 100 by omega) (by omega)) rfl trivial rfl rfl ⟨Nat.le_refl _, Nat.le_refl _⟩ ?_
  rintro _ _ ⟨rp7, rfl, ep7, rfl⟩
  replace ep7 : (¬ (0 ≤ p ∧ p < mPages M0) ∧ rp7 = 1) ∨ (¬ ¬ (0 ≤ p ∧ p < mPages M0) ∧ rp7 = 0) := ep7
  show V (10, [some (zR 32), some (zI p), some (zI w), some (zI k), some (zI y), some (zI a), none], [zI rp7], (zw sc B S Z L R M0), 0, 0)
  refine z_br c 0 (rp7 = 0) (15, [some (zR 32), some (zI p), some (zI w), some (zI k), some (zI y), some (zI a), none], [], (zw sc B S Z L R M0), 0, 0) (13, [some (zR 32), some (zI p), some (zI w), some (zI k), some (zI y), some (zI a), none], [], (zw sc B S Z L R M0), 0, 0) rfl ⟨(show (-2147483648 : Int) ≤ rp7 ∧ rp7 ≤ 2147483647 by omega), trivial⟩ (fun h10 => ?_) (fun h10 => ?_)
  · refine z_cV c 5 k_6_173 zv_X6_no (pc := 25) (ls := [some (zR 32), some (zI p), some (zI w), some (zI k), some (zI y), some (zI a), none]) (sk := []) (h := (zw sc B S Z L R M0)) (cs := 0) (ss := 0) (c_X6_no l sc B S Z L R M0 T K n nw w k y a hB hM0 hnw (by omega) (by omega) (by omega) (by omega)) rfl trivial rfl rfl ⟨Nat.le_refl _, Nat.le_refl _⟩ ?_
    rintro _ _ ⟨rfl, rfl⟩
    have hzr := zrO_r n nw w k y a
    show V (25, [some (zR 32), some (zI p), some (zI w), some (zI k), some (zI y), some (zI a), none], [zI ((zrO n nw w k y a))], (zw sc B S Z L R M0), 0, 0)
    refine z_br c 2 ((zrO n nw w k y a) = 0) (37, [some (zR 32), some (zI p), some (zI w), some (zI k), some (zI y), some (zI a), some (zI ((zrO n nw w k y a)))], [], (zw sc B S Z L R M0), 0, 0) (32, [some (zR 32), some (zI p), some (zI w), some (zI k), some (zI y), some (zI a), some (zI ((zrO n nw w k y a)))], [], (zw sc B S Z L R M0), 0, 0) rfl ⟨(show (-2147483648 : Int) ≤ (zrO n nw w k y a) ∧ (zrO n nw w k y a) ≤ 2147483647 by omega), trivial⟩ (fun h29 => ?_) (fun h29 => ?_)
    · obtain ⟨hw3, ha3, hk3, hy3⟩ := zrO_0 (by assumption)
      refine z_cV c 7 k_6_182 zv_X6_forceAs (pc := 49) (ls := [some (zR 32), some (zI p), some (zI w), some (zI k), some (zI y), some (zI a), some (zI ((zrO n nw w k y a)))]) (sk := [zI p, zR 32]) (h := (zw sc B S Z L R M0)) (cs := 0) (ss := 0) (c_X6_forceAs l sc B S Z L R M0 T K n nw w k y a hB hM0 hQ0 hnw ha3 hw3 hk3 hy3) rfl trivial rfl rfl ⟨Nat.le_refl _, Nat.le_refl _⟩ ?_
      rintro _ _ ⟨M6, rfl, rfl, hk6⟩
      have hkM6 := zMk_trans hkM0 hk6
      have hM6 := zMr_k hM hkM6
      have hQ6 : mWithout M6 = -9 := hkM6.2.2.2.trans hQ
      have hzf := zF_rng T K n w (zlast n a) (-9) k y
      show V (49, [some (zR 32), some (zI p), some (zI w), some (zI k), some (zI y), some (zI a), some (zI ((zrO n nw w k y a)))], [zI ((zF T K n w (zlast n a) (-9) k y)), zI p, zR 32], (zw sc B S Z L R M6), 0, 0)
      refine z_cV c 4 k_6_185 zv_X6_leansOn (pc := 58) (ls := [some (zR 32), some (zI p), some (zI w), some (zI k), some (zI y), some (zI a), some (zI ((zrO n nw w k y a)))]) (sk := []) (h := (zw sc B S Z L R M6)) (cs := 0) (ss := 0) (c_X6_leansOn l sc B S Z L R M6 T K n nw p (zF T K n w (zlast n a) (-9) k y) w k y a hB hM6 hQ6 hnw (by omega) (by omega) ha3 hw3 hk3 hy3) rfl trivial rfl rfl ⟨Nat.le_refl _, Nat.le_refl _⟩ ?_
      rintro _ _ ⟨M7, r7, rfl, hr7, rfl, hk7⟩
      have hkM7 := zMk_trans hkM6 hk7
      rw [← zlP_c] at hr7
      have hr7r : r7 = 0 ∨ r7 = 1 := by rcases hr7 with g | g; exact Or.inr g.2; exact Or.inl g.2
      show V (58, [some (zR 32), some (zI p), some (zI w), some (zI k), some (zI y), some (zI a), some (zI ((zrO n nw w k y a)))], [zI r7], (zw sc B S Z L R M7), 0, 0)
      refine z_br c 0 (r7 = 0) (65, [some (zR 32), some (zI p), some (zI w), some (zI k), some (zI y), some (zI a), some (zI ((zrO n nw w k y a)))], [], (zw sc B S Z L R M7), 0, 0) (61, [some (zR 32), some (zI p), some (zI w), some (zI k), some (zI y), some (zI a), some (zI ((zrO n nw w k y a)))], [], (zw sc B S Z L R M7), 0, 0) rfl ⟨(show (-2147483648 : Int) ≤ r7 ∧ r7 ≤ 2147483647 by omega), trivial⟩ (fun h58 => ?_) (fun h58 => ?_)
      · exact z_re c 1 (v := some (zI 0)) (h := (zw sc B S Z L R M7)) (cs := 0) (ss := 0) rfl trivial trivial ⟨Nat.le_refl _, Nat.le_refl _⟩ ⟨M7, by rw [if_pos (show 0 ≤ p ∧ p < n by omega), if_pos (by assumption), if_neg (by rcases hr7 with ⟨g, g2⟩ | ⟨g, g2⟩; exfalso; omega; exact g)], rfl, hkM7⟩
      · exact z_re c 2 (v := some (zI 1)) (h := (zw sc B S Z L R M7)) (cs := 0) (ss := 0) rfl trivial trivial ⟨Nat.le_refl _, Nat.le_refl _⟩ ⟨M7, by rw [if_pos (show 0 ≤ p ∧ p < n by omega), if_pos (by assumption), if_pos (by rcases hr7 with ⟨g, g2⟩ | ⟨g, g2⟩; exact g; exfalso; omega)], rfl, hkM7⟩
    · exact z_re c 2 (v := some (zI ((zrO n nw w k y a)))) (h := (zw sc B S Z L R M0)) (cs := 0) (ss := 0) rfl trivial trivial ⟨Nat.le_refl _, Nat.le_refl _⟩ ⟨M0, by rw [if_pos (show 0 ≤ p ∧ p < n by omega), if_neg (by assumption)], rfl, hkM0⟩
  · exact z_re c 1 (v := some (zI ((-1)))) (h := (zw sc B S Z L R M0)) (cs := 0) (ss := 0) rfl trivial trivial ⟨Nat.le_refl _, Nat.le_refl _⟩ ⟨M0, by rw [if_neg (by omega)], rfl, hkM0⟩
set_option maxRecDepth 4000 in
theorem c_X6_lean (l : Launch) (sc : ZSc) (B : ZBk) (S Z : ZSg) (L : ZLn) (R : ZRd) (M : ZMd) (T K : Int → Int) (n nw : Int) (i w k y a : Int) (hB : zBv T K n nw) (hM : zMr T n nw M) (hQ : mWithout M = -9) (hnw : 0 ≤ nw ∧ nw ≤ 12) (hi : (-2147483648 ≤ i ∧ i ≤ 2147483647)) (hw : (-2147483648 ≤ w ∧ w ≤ 2147483647)) (hk : (-2147483648 ≤ k ∧ k ≤ 2147483647)) (hy : (-2147483648 ≤ y ∧ y ≤ 2147483647)) (ha : (-2147483648 ≤ a ∧ a ≤ 2147483647)) : zMet l m_X6_lean [zR 32, zI i, zI w, zI k, zI y, zI a] (zw sc B S Z L R M) (fun v h1 => ∃ M1, v = some (zI (if zrO n nw w k y a = 0 then zth (zlP T K n w k y (zlast n a)) i n.toNat else zrO n nw w k y a)) ∧ zw sc B S Z L R M1 = h1 ∧ zMk M M1) := by
  refine z_method g_X6_lean [some (zR 32), some (zI i), some (zI w), some (zI k), some (zI y), some (zI a), none, none, none, none] rfl rfl (fun V c => ?_)
  obtain ⟨hn, hT, -, hv, hno, hKs⟩ := id hB
  refine z_go c 3 (s1 := (5, [some (zR 32), some (zI i), some (zI w), some (zI k), some (zI y), some (zI a), none, none, none, none], [], (zw sc B S Z L R ((0, (mWays M), (mOne M), (mTwo M), (mPages M), (mOrders M)), ((mSort M), (mTold M), (mLast M), (mWithout M), (mIsIn M), (mNeeds M)), ((mPersons M), (mGaps M), (mWeight M), (mSeen M), (mFew M), (mBroken M)), ((mHolds M), (mMany M), (mOrder M), (mIsGood M), (mFar M)))), 0, 0)) rfl trivial ?_
  have hkM0 : zMk M ((0, (mWays M), (mOne M), (mTwo M), (mPages M), (mOrders M)), ((mSort M), (mTold M), (mLast M), (mWithout M), (mIsIn M), (mNeeds M)), ((mPersons M), (mGaps M), (mWeight M), (mSeen M), (mFew M), (mBroken M)), ((mHolds M), (mMany M), (mOrder M), (mIsGood M), (mFar M))) := ⟨rfl, rfl, rfl, rfl⟩
  generalize (((0, (mWays M), (mOne M), (mTwo M), (mPages M), (mOrders M)), ((mSort M), (mTold M), (mLast M), (mWithout M), (mIsIn M), (mNeeds M)), ((mPersons M), (mGaps M), (mWeight M), (mSeen M), (mFew M), (mBroken M)), ((mHolds M), (mMany M), (mOrder M), (mIsGood M), (mFar M))) : ZMd) = M0 at hkM0 ⊢
  have hM0 := zMr_k hM hkM0
  have hQ0 : mWithout M0 = -9 := hkM0.2.2.2.trans hQ
  have eN0 := hM0.1
  have eW0 := hM0.2.1
  refine z_cV c 5 k_6_173 zv_X6_no (pc := 15) (ls := [some (zR 32), some (zI i), some (zI w), some (zI k), some (zI y), some (zI a), none, none, none, none]) (sk := []) (h := (zw sc B S Z L R M0)) (cs := 0) (ss := 0) (c_X6_no l sc B S Z L R M0 T K n nw w k y a hB hM0 hnw (by omega) (by omega) (by omega) (by omega)) rfl trivial rfl rfl ⟨Nat.le_refl _, Nat.le_refl _⟩ ?_
  rintro _ _ ⟨rfl, rfl⟩
  have hzr := zrO_r n nw w k y a
  show V (15, [some (zR 32), some (zI i), some (zI w), some (zI k), some (zI y), some (zI a), none, none, none, none], [zI ((zrO n nw w k y a))], (zw sc B S Z L R M0), 0, 0)
  refine z_br c 2 ((zrO n nw w k y a) = 0) (25, [some (zR 32), some (zI i), some (zI w), some (zI k), some (zI y), some (zI a), some (zI ((zrO n nw w k y a))), none, none, none], [], (zw sc B S Z L R M0), 0, 0) (22, [some (zR 32), some (zI i), some (zI w), some (zI k), some (zI y), some (zI a), some (zI ((zrO n nw w k y a))), none, none, none], [], (zw sc B S Z L R M0), 0, 0) rfl ⟨(show (-2147483648 : Int) ≤ (zrO n nw w k y a) ∧ (zrO n nw w k y a) ≤ 2147483647 by omega), trivial⟩ (fun h19 => ?_) (fun h19 => ?_)
  · obtain ⟨hw3, ha3, hk3, hy3⟩ := zrO_0 (by assumption)
    refine z_cV c 7 k_6_182 zv_X6_forceAs (pc := 38) (ls := [some (zR 32), some (zI i), some (zI w), some (zI k), some (zI y), some (zI a), some (zI ((zrO n nw w k y a))), some (zI 0), none, none]) (sk := []) (h := (zw sc B S Z L R M0)) (cs := 0) (ss := 0) (c_X6_forceAs l sc B S Z L R M0 T K n nw w k y a hB hM0 hQ0 hnw ha3 hw3 hk3 hy3) rfl trivial rfl rfl ⟨Nat.le_refl _, Nat.le_refl _⟩ ?_
    rintro _ _ ⟨M6, rfl, rfl, hk6⟩
    have hkM6 := zMk_trans hkM0 hk6
    have hM6 := zMr_k hM hkM6
    have hQ6 : mWithout M6 = -9 := hkM6.2.2.2.trans hQ
    have hzf := zF_rng T K n w (zlast n a) (-9) k y
    show V (38, [some (zR 32), some (zI i), some (zI w), some (zI k), some (zI y), some (zI a), some (zI ((zrO n nw w k y a))), some (zI 0), none, none], [zI ((zF T K n w (zlast n a) (-9) k y))], (zw sc B S Z L R M6), 0, 0)
    refine z_go c 3 (s1 := (43, [some (zR 32), some (zI i), some (zI w), some (zI k), some (zI y), some (zI a), some (zI ((zrO n nw w k y a))), some (zI 0), some (zI ((zF T K n w (zlast n a) (-9) k y))), some (zI 0)], [], (zw sc B S Z L R M6), 0, 0)) rfl trivial ?_
    clear hM6 hQ6 hk6
    have loop : ∀ (x m : Nat) (b : Int) (M6 : ZMd), n - (m : Int) < (x : Int) → (m : Int) ≤ n → b = (zpn (zlP T K n w k y (zlast n a)) m : Int) → zth (zlP T K n w k y (zlast n a)) i n.toNat = zmn (fun p => (zlP T K n w k y (zlast n a)) p && decide ((zpn (zlP T K n w k y (zlast n a)) p.toNat : Int) = i)) (m : Int) (n.toNat - m) → zMk M M6 → V (43, [some (zR 32), some (zI i), some (zI w), some (zI k), some (zI y), some (zI a), some (zI ((zrO n nw w k y a))), some (zI b), some (zI ((zF T K n w (zlast n a) (-9) k y))), some (zI ((m : Int)))], [], (zw sc B S Z L R M6), 0, 0) := by
      intro x
      induction x with
      | zero => intro m b M6 h1 h2; exfalso; omega
      | succ x ih =>
        intro m b M6 hm1 hm2 hb hz hkM6
        have hM6 := zMr_k hM hkM6
        have hQ6 : mWithout M6 = -9 := hkM6.2.2.2.trans hQ
        have eN6 := hM6.1
        have hpl := zpn_le (zlP T K n w k y (zlast n a)) m
        refine z_br c 3 ((mPages M6) ≤ (m : Int)) (87, [some (zR 32), some (zI i), some (zI w), some (zI k), some (zI y), some (zI a), some (zI ((zrO n nw w k y a))), some (zI b), some (zI ((zF T K n w (zlast n a) (-9) k y))), some (zI ((m : Int)))], [], (zw sc B S Z L R M6), 0, 0) (52, [some (zR 32), some (zI i), some (zI w), some (zI k), some (zI y), some (zI a), some (zI ((zrO n nw w k y a))), some (zI b), some (zI ((zF T K n w (zlast n a) (-9) k y))), some (zI ((m : Int)))], [], (zw sc B S Z L R M6), 0, 0) rfl ⟨(show ((-2147483648 : Int) ≤ (m : Int) ∧ (m : Int) ≤ 2147483647) ∧ (-2147483648 : Int) ≤ (mPages M6) ∧ (mPages M6) ≤ 2147483647 by omega), trivial⟩ (fun h49 => ?_) (fun h49 => ?_)
        · exact z_re c 1 (v := some (zI ((-9)))) (h := (zw sc B S Z L R M6)) (cs := 0) (ss := 0) rfl trivial trivial ⟨Nat.le_refl _, Nat.le_refl _⟩ ⟨M6, by obtain rfl : m = n.toNat := (by omega); rw [if_pos (by assumption), hz, Nat.sub_self]; rfl, rfl, hkM6⟩
        · have hz2 := zmn_s (P := (fun p => (zlP T K n w k y (zlast n a)) p && decide ((zpn (zlP T K n w k y (zlast n a)) p.toNat : Int) = i))) (a := (m : Int)) (k := n.toNat - m) (by omega)
          have hQm : (fun p => (zlP T K n w k y (zlast n a)) p && decide ((zpn (zlP T K n w k y (zlast n a)) p.toNat : Int) = i)) (m : Int) = true ↔ (zlP T K n w k y (zlast n a)) (m : Int) = true ∧ (zpn (zlP T K n w k y (zlast n a)) m : Int) = i := by
            show ((zlP T K n w k y (zlast n a)) (m : Int) && decide ((zpn (zlP T K n w k y (zlast n a)) ((m : Int)).toNat : Int) = i)) = true ↔ _
            rw [Bool.and_eq_true, decide_eq_true_iff, Int.toNat_natCast]
          refine z_cV c 7 k_6_185 zv_X6_leansOn (pc := 66) (ls := [some (zR 32), some (zI i), some (zI w), some (zI k), some (zI y), some (zI a), some (zI ((zrO n nw w k y a))), some (zI b), some (zI ((zF T K n w (zlast n a) (-9) k y))), some (zI ((m : Int)))]) (sk := []) (h := (zw sc B S Z L R M6)) (cs := 0) (ss := 0) (c_X6_leansOn l sc B S Z L R M6 T K n nw ((m : Int)) (zF T K n w (zlast n a) (-9) k y) w k y a hB hM6 hQ6 hnw (by omega) (by omega) ha3 hw3 hk3 hy3) rfl trivial rfl rfl ⟨Nat.le_refl _, Nat.le_refl _⟩ ?_
          rintro _ _ ⟨M7, r7, rfl, hr7, rfl, hk7⟩
          have hkM7 := zMk_trans hkM6 hk7
          rw [← zlP_c] at hr7
          have hr7r : r7 = 0 ∨ r7 = 1 := by rcases hr7 with g | g; exact Or.inr g.2; exact Or.inl g.2
          show V (66, [some (zR 32), some (zI i), some (zI w), some (zI k), some (zI y), some (zI a), some (zI ((zrO n nw w k y a))), some (zI b), some (zI ((zF T K n w (zlast n a) (-9) k y))), some (zI ((m : Int)))], [zI r7], (zw sc B S Z L R M7), 0, 0)
          refine z_br c 0 (r7 = 0) (81, [some (zR 32), some (zI i), some (zI w), some (zI k), some (zI y), some (zI a), some (zI ((zrO n nw w k y a))), some (zI b), some (zI ((zF T K n w (zlast n a) (-9) k y))), some (zI ((m : Int)))], [], (zw sc B S Z L R M7), 0, 0) (69, [some (zR 32), some (zI i), some (zI w), some (zI k), some (zI y), some (zI a), some (zI ((zrO n nw w k y a))), some (zI b), some (zI ((zF T K n w (zlast n a) (-9) k y))), some (zI ((m : Int)))], [], (zw sc B S Z L R M7), 0, 0) rfl ⟨(show (-2147483648 : Int) ≤ r7 ∧ r7 ≤ 2147483647 by omega), trivial⟩ (fun h66 => ?_) (fun h66 => ?_)
          · have hP7 : ¬ (zlP T K n w k y (zlast n a)) (m : Int) = true := by rcases hr7 with ⟨g, g2⟩ | ⟨g, g2⟩; exfalso; omega; exact g
            have hb2 : b = (zpn (zlP T K n w k y (zlast n a)) (m + 1) : Int) := by
              show b = ((zpn (zlP T K n w k y (zlast n a)) m + (if (zlP T K n w k y (zlast n a)) (m : Int) = true then 1 else 0) : Nat) : Int)
              rw [if_neg hP7]; omega
            have hz3 : zth (zlP T K n w k y (zlast n a)) i n.toNat = zmn (fun p => (zlP T K n w k y (zlast n a)) p && decide ((zpn (zlP T K n w k y (zlast n a)) p.toNat : Int) = i)) ((m : Int) + 1) (n.toNat - m - 1) := by rw [hz, hz2, if_neg (fun z => hP7 (hQm.mp z).1)]
            exact z_go c 2 (s1 := (43, [some (zR 32), some (zI i), some (zI w), some (zI k), some (zI y), some (zI a), some (zI ((zrO n nw w k y a))), some (zI b), some (zI ((zF T K n w (zlast n a) (-9) k y))), some (zI (((m : Int) + 1)))], [], (zw sc B S Z L R M7), 0, 0)) rfl trivial (ih (m + 1) _ _ (by omega) (by omega) hb2 hz3 hkM7)
          · refine z_br c 2 (¬ b = i) (78, [some (zR 32), some (zI i), some (zI w), some (zI k), some (zI y), some (zI a), some (zI ((zrO n nw w k y a))), some (zI b), some (zI ((zF T K n w (zlast n a) (-9) k y))), some (zI ((m : Int)))], [], (zw sc B S Z L R M7), 0, 0) (75, [some (zR 32), some (zI i), some (zI w), some (zI k), some (zI y), some (zI a), some (zI ((zrO n nw w k y a))), some (zI b), some (zI ((zF T K n w (zlast n a) (-9) k y))), some (zI ((m : Int)))], [], (zw sc B S Z L R M7), 0, 0) rfl ⟨(show ((-2147483648 : Int) ≤ b ∧ b ≤ 2147483647) ∧ (-2147483648 : Int) ≤ i ∧ i ≤ 2147483647 by omega), trivial⟩ (fun h72 => ?_) (fun h72 => ?_)
            · refine z_go c 1 (s1 := (81, [some (zR 32), some (zI i), some (zI w), some (zI k), some (zI y), some (zI a), some (zI ((zrO n nw w k y a))), some (zI ((b + 1))), some (zI ((zF T K n w (zlast n a) (-9) k y))), some (zI ((m : Int)))], [], (zw sc B S Z L R M7), 0, 0)) rfl trivial ?_
              have hP7 : (zlP T K n w k y (zlast n a)) (m : Int) = true := by rcases hr7 with ⟨g, g2⟩ | ⟨g, g2⟩; exact g; exfalso; omega
              have hb2 : b + 1 = (zpn (zlP T K n w k y (zlast n a)) (m + 1) : Int) := by
                show b + 1 = ((zpn (zlP T K n w k y (zlast n a)) m + (if (zlP T K n w k y (zlast n a)) (m : Int) = true then 1 else 0) : Nat) : Int)
                rw [if_pos hP7]; omega
              have hz3 : zth (zlP T K n w k y (zlast n a)) i n.toNat = zmn (fun p => (zlP T K n w k y (zlast n a)) p && decide ((zpn (zlP T K n w k y (zlast n a)) p.toNat : Int) = i)) ((m : Int) + 1) (n.toNat - m - 1) := by rw [hz, hz2, if_neg (fun z => by have z2 := (hQm.mp z).2; omega)]
              exact z_go c 2 (s1 := (43, [some (zR 32), some (zI i), some (zI w), some (zI k), some (zI y), some (zI a), some (zI ((zrO n nw w k y a))), some (zI ((b + 1))), some (zI ((zF T K n w (zlast n a) (-9) k y))), some (zI (((m : Int) + 1)))], [], (zw sc B S Z L R M7), 0, 0)) rfl trivial (ih (m + 1) _ _ (by omega) (by omega) hb2 hz3 hkM7)
            · exact z_re c 1 (v := some (zI ((m : Int)))) (h := (zw sc B S Z L R M7)) (cs := 0) (ss := 0) rfl trivial trivial ⟨Nat.le_refl _, Nat.le_refl _⟩ ⟨M7, by rw [if_pos (by assumption), hz, hz2, if_pos (hQm.mpr ⟨(by rcases hr7 with ⟨g, g2⟩ | ⟨g, g2⟩; exact g; exfalso; omega), by omega⟩)], rfl, hkM7⟩
    exact loop 102 0 _ _ (by omega) (by omega) rfl rfl hkM6
  · exact z_re c 1 (v := some (zI ((zrO n nw w k y a)))) (h := (zw sc B S Z L R M0)) (cs := 0) (ss := 0) rfl trivial trivial ⟨Nat.le_refl _, Nat.le_refl _⟩ ⟨M0, by rw [if_neg (by assumption)], rfl, hkM0⟩
