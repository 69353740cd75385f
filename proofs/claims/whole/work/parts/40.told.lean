/-! what the model is asked -/
/-- what stays from call to call -/
def zMk (M M1 : ZMd) : Prop := M1.1.2 = M.1.2 ∧ mSort M1 = mSort M ∧ mTold M1 = mTold M ∧ mWithout M1 = mWithout M
theorem zMk_refl (M : ZMd) : zMk M M := ⟨rfl, rfl, rfl, rfl⟩
theorem zMk_trans {M M1 M2 : ZMd} (h : zMk M M1) (g : zMk M1 M2) : zMk M M2 := ⟨g.1.trans h.1, g.2.1.trans h.2.1, g.2.2.1.trans h.2.2.1, g.2.2.2.trans h.2.2.2⟩
theorem zMk_ms {M M1 : ZMd} (h : zMs M M1) : zMk M M1 := ⟨congrArg (fun g => g.2) h.1, congrArg (fun g => g.1) h.2.1, congrArg (fun g => g.2.1) h.2.1, congrArg (fun g => g.2.2.2.1) h.2.1⟩
theorem zMr_k {T : Int → Int} {n nw : Int} {M M1 : ZMd} (h : zMr T n nw M) (g : zMk M M1) : zMr T n nw M1 := by
  obtain ⟨h1, h2, h3, h4⟩ := h
  obtain ⟨g1, g2, g3, g4⟩ := g
  refine ⟨(congrArg (fun z => z.2.2.2.1) g1).trans h1, (congrArg (fun z => z.1) g1).trans h2, ?_, ?_⟩
  · rw [g2]; exact h3
  · rw [g3]; exact h4
theorem c_look (l : Launch) (sc : ZSc) (B : ZBk) (S Z : ZSg) (L : ZLn) (R : ZRd) (M : ZMd) (T K : Int → Int) (n nw q : Int) (a : Int) (hB : zBv T K n nw) (hM : zMr T n nw M) (hQ : mWithout M = q) (hq : -9 ≤ q ∧ q < 100) (ha : a = -9 ∨ (0 ≤ a ∧ a < n)) : zMet l m_X6_look [zR 32, zI a] (zw sc B S Z L R M) (fun v h1 => v = none ∧ ∃ M1, zw sc B S Z L R M1 = h1 ∧ zLk T K n nw q (zlast n a) M1 ∧ zMk M M1 ∧ mFar M1 = mFar M) := by
  refine zMet_post (c_X6_look l sc B S Z L R M T K n nw q a hB hM hQ hq ha) (fun v h1 h => ?_)
  obtain ⟨hv, I1, h2, h3⟩ := h
  exact ⟨hv, _, h2, ⟨⟨hM.1, hM.2.1, hM.2.2.1, hM.2.2.2⟩, rfl, h3, rfl, rfl, rfl, rfl⟩, ⟨rfl, rfl, rfl, rfl⟩, rfl⟩
theorem zps_pr {T : Int → Int} {ct : Int → Bool} {w nw k y : Int} {m : Nat} (hv : ∀ p : Nat, p < m → zvp T nw (p : Int)) (hk : 0 ≤ k ∧ k ≤ 2) (hy : 0 ≤ y ∧ y ≤ 100) : zps (zVW T ct w m) k y = zpr T ct w k m y := by
  unfold zps zpr
  rw [zbt_all hv hk (fun k2 a2 b2 => zVW_at T ct w m a2 hy)]
theorem zLa_pr {T : Int → Int} {ct : Int → Bool} {w nw k y : Int} {m : Nat} {F : Int → Int} (hv : ∀ p : Nat, p < m → zvp T nw (p : Int)) (hk : 0 ≤ k ∧ k ≤ 2) (hy : 0 ≤ y ∧ y ≤ 100) (hF : ∀ j : Nat, j ≤ 101 → F (j : Int) = zcm (zpr T ct w k m) (zVP T ct m) j) : (if y - zVN T ct m + 1 < 0 then -9 else F (y + 1) - F (y - zVN T ct m + 1)) = zLa T ct w m k y := by
  have hN := (zst_rng (T := T) (ct := ct) (m := m) (nw := nw) hv).1
  unfold zLa
  by_cases g : y - zVN T ct m + 1 < 0
  · rw [if_pos g, if_pos g]
  · rw [if_neg g, if_neg g]
    have h1 := hF (y.toNat + 1) (by omega)
    have h2 := hF (y - zVN T ct m + 1).toNat (by omega)
    rw [show (((y.toNat + 1 : Nat)) : Int) = y + 1 by omega] at h1
    rw [show (((y - zVN T ct m + 1).toNat : Nat) : Int) = y - zVN T ct m + 1 by omega] at h2
    rw [h1, h2]
    rw [zcm_cong (pr := zps (zVW T ct w m) k) (pr' := zpr T ct w k m) (y.toNat + 1) (fun y a b => zps_pr hv hk (by omega)), zcm_cong (pr := zps (zVW T ct w m) k) (pr' := zpr T ct w k m) (y - zVN T ct m + 1).toNat (fun y a b => zps_pr hv hk (by omega))]
def zbm (F : Int → Int) : Nat → Int
  | 0 => -9
  | k + 1 => if ¬ F (k : Int) = 0 then (k : Int) else zbm F k
theorem zbm_3 (F : Int → Int) : zbm F 3 = zmo F := rfl
theorem zbm_rng (F : Int → Int) : ∀ m : Nat, -9 ≤ zbm F m ∧ zbm F m < (m : Int)
  | 0 => ⟨Int.le_refl _, by show (-9 : Int) < 0; decide⟩
  | m + 1 => by
    have h := zbm_rng F m
    unfold zbm
    split <;> omega
theorem zmn_s {P : Int → Bool} {a : Int} {k : Nat} (h : 1 ≤ k) : zmn P a k = if P a = true then a else zmn P (a + 1) (k - 1) := by
  obtain ⟨i, rfl⟩ : ∃ i, k = i + 1 := ⟨k - 1, by omega⟩
  rfl
theorem zrO_0 {n nw w k y a : Int} (h : zrO n nw w k y a = 0) : (0 ≤ w ∧ w < nw) ∧ (a = -9 ∨ (0 ≤ a ∧ a < n)) ∧ (0 ≤ k ∧ k ≤ 2) ∧ (0 ≤ y ∧ y ≤ 100) := by
  rcases zrO_c n nw w k y a with g | g | g
  · exact g.2
  · omega
  · omega
theorem zrO_r (n nw w k y a : Int) : -2 ≤ zrO n nw w k y a ∧ zrO n nw w k y a ≤ 0 := by
  rcases zrO_c n nw w k y a with g | g | g <;> omega
set_option maxRecDepth 4000 in
theorem c_X6_no (l : Launch) (sc : ZSc) (B : ZBk) (S Z : ZSg) (L : ZLn) (R : ZRd) (M : ZMd) (T K : Int → Int) (n nw : Int) (w k y a : Int) (hB : zBv T K n nw) (hM : zMr T n nw M) (hnw : 0 ≤ nw ∧ nw ≤ 12) (hw : (-2147483648 ≤ w ∧ w ≤ 2147483647)) (hk : (-2147483648 ≤ k ∧ k ≤ 2147483647)) (hy : (-2147483648 ≤ y ∧ y ≤ 2147483647)) (ha : (-2147483648 ≤ a ∧ a ≤ 2147483647)) : zMet l m_X6_no [zR 32, zI w, zI k, zI y, zI a] (zw sc B S Z L R M) (zI1 (zrO n nw w k y a) (zw sc B S Z L R M)) := by
  refine z_method g_X6_no [some (zR 32), some (zI w), some (zI k), some (zI y), some (zI a)] rfl rfl (fun V c => ?_)
  obtain ⟨hn, hT, -, hv, hno, hKs⟩ := id hB
  have eN := hM.1
  have eW := hM.2.1
  refine z_cV c 2 k_6_130 zv_X6_noWay (pc := 5) (ls := [some (zR 32), some (zI w), some (zI k), some (zI y), some (zI a)]) (sk := []) (h := (zw sc B S Z L R M)) (cs := 0) (ss := 0) (c_X6_noWay l sc B S Z L R M w (show 0 ≤ (mWays M) ∧ (mWays M) ≤ 12 by omega) (by omega)) rfl trivial rfl rfl ⟨Nat.le_refl _, Nat.le_refl _⟩ ?_
  rintro _ _ ⟨r2, rfl, e2, rfl⟩
  replace e2 : ((¬ (0 ≤ w ∧ w < (mWays M))) ∧ r2 = 1) ∨ (¬ (¬ (0 ≤ w ∧ w < (mWays M))) ∧ r2 = 0) := e2
  show V (5, [some (zR 32), some (zI w), some (zI k), some (zI y), some (zI a)], [zI r2], (zw sc B S Z L R M), 0, 0)
  refine z_br c 0 (¬ r2 = 0) (17, [some (zR 32), some (zI w), some (zI k), some (zI y), some (zI a)], [], (zw sc B S Z L R M), 0, 0) (8, [some (zR 32), some (zI w), some (zI k), some (zI y), some (zI a)], [], (zw sc B S Z L R M), 0, 0) rfl ⟨(show (-2147483648 : Int) ≤ r2 ∧ r2 ≤ 2147483647 by omega), trivial⟩ (fun h5 => ?_) (fun h5 => ?_)
  · exact z_re c 2 (v := some (zI ((-1)))) (h := (zw sc B S Z L R M)) (cs := 0) (ss := 0) rfl trivial trivial ⟨Nat.le_refl _, Nat.le_refl _⟩ ⟨by unfold zrO; rw [if_neg (by omega)], rfl⟩
  · refine z_cV c 2 k_6_170 zv_X6_noAs (pc := 14) (ls := [some (zR 32), some (zI w), some (zI k), some (zI y), some (zI a)]) (sk := []) (h := (zw sc B S Z L R M)) (cs := 0) (ss := 0) (c_X6_noAs l sc B S Z L R M a (show 0 ≤ (mPages M) ∧ (mPages M) ≤ 100 by omega) (by omega)) rfl trivial rfl rfl ⟨Nat.le_refl _, Nat.le_refl _⟩ ?_
    rintro _ _ ⟨r11, rfl, e11, rfl⟩
    replace e11 : ((¬ (a = -9 ∨ (0 ≤ a ∧ a < (mPages M)))) ∧ r11 = 1) ∨ (¬ (¬ (a = -9 ∨ (0 ≤ a ∧ a < (mPages M)))) ∧ r11 = 0) := e11
    show V (14, [some (zR 32), some (zI w), some (zI k), some (zI y), some (zI a)], [zI r11], (zw sc B S Z L R M), 0, 0)
    refine z_br c 0 (r11 = 0) (21, [some (zR 32), some (zI w), some (zI k), some (zI y), some (zI a)], [], (zw sc B S Z L R M), 0, 0) (17, [some (zR 32), some (zI w), some (zI k), some (zI y), some (zI a)], [], (zw sc B S Z L R M), 0, 0) rfl ⟨(show (-2147483648 : Int) ≤ r11 ∧ r11 ≤ 2147483647 by omega), trivial⟩ (fun h14 => ?_) (fun h14 => ?_)
    · refine z_cS c 1 k_6_133 zv_X6_noKind (pc := 25) (ls := [some (zR 32), some (zI w), some (zI k), some (zI y), some (zI a)]) (sk := []) (h := (zw sc B S Z L R M)) (cs := 0) (ss := 0) (c_X6_noKind l (zw sc B S Z L R M) k (by omega)) rfl trivial rfl ⟨Nat.le_refl _, Nat.le_refl _⟩ ?_
      rintro _ _ ⟨r22, rfl, e22, rfl⟩
      show V (25, [some (zR 32), some (zI w), some (zI k), some (zI y), some (zI a)], [zI r22], (zw sc B S Z L R M), 0, 0)
      refine z_br c 0 (¬ r22 = 0) (35, [some (zR 32), some (zI w), some (zI k), some (zI y), some (zI a)], [], (zw sc B S Z L R M), 0, 0) (28, [some (zR 32), some (zI w), some (zI k), some (zI y), some (zI a)], [], (zw sc B S Z L R M), 0, 0) rfl ⟨(show (-2147483648 : Int) ≤ r22 ∧ r22 ≤ 2147483647 by omega), trivial⟩ (fun h25 => ?_) (fun h25 => ?_)
      · exact z_re c 2 (v := some (zI ((-2)))) (h := (zw sc B S Z L R M)) (cs := 0) (ss := 0) rfl trivial trivial ⟨Nat.le_refl _, Nat.le_refl _⟩ ⟨by unfold zrO; rw [if_pos (by omega), if_neg (by omega)], rfl⟩
      · refine z_cS c 1 k_6_143 zv_X6_noYear (pc := 32) (ls := [some (zR 32), some (zI w), some (zI k), some (zI y), some (zI a)]) (sk := []) (h := (zw sc B S Z L R M)) (cs := 0) (ss := 0) (c_X6_noYear l (zw sc B S Z L R M) y (by omega)) rfl trivial rfl ⟨Nat.le_refl _, Nat.le_refl _⟩ ?_
        rintro _ _ ⟨r29, rfl, e29, rfl⟩
        show V (32, [some (zR 32), some (zI w), some (zI k), some (zI y), some (zI a)], [zI r29], (zw sc B S Z L R M), 0, 0)
        refine z_br c 0 (r29 = 0) (40, [some (zR 32), some (zI w), some (zI k), some (zI y), some (zI a)], [], (zw sc B S Z L R M), 0, 0) (35, [some (zR 32), some (zI w), some (zI k), some (zI y), some (zI a)], [], (zw sc B S Z L R M), 0, 0) rfl ⟨(show (-2147483648 : Int) ≤ r29 ∧ r29 ≤ 2147483647 by omega), trivial⟩ (fun h32 => ?_) (fun h32 => ?_)
        · exact z_re c 1 (v := some (zI 0)) (h := (zw sc B S Z L R M)) (cs := 0) (ss := 0) rfl trivial trivial ⟨Nat.le_refl _, Nat.le_refl _⟩ ⟨by unfold zrO; rw [if_pos (by omega), if_pos (by omega)], rfl⟩
        · exact z_re c 2 (v := some (zI ((-2)))) (h := (zw sc B S Z L R M)) (cs := 0) (ss := 0) rfl trivial trivial ⟨Nat.le_refl _, Nat.le_refl _⟩ ⟨by unfold zrO; rw [if_pos (by omega), if_neg (by omega)], rfl⟩
    · exact z_re c 2 (v := some (zI ((-1)))) (h := (zw sc B S Z L R M)) (cs := 0) (ss := 0) rfl trivial trivial ⟨Nat.le_refl _, Nat.le_refl _⟩ ⟨by unfold zrO; rw [if_neg (by omega)], rfl⟩
set_option maxRecDepth 4000 in
theorem c_X6_persons (l : Launch) (sc : ZSc) (B : ZBk) (S Z : ZSg) (L : ZLn) (R : ZRd) (M : ZMd) (T K : Int → Int) (n nw : Int) (w k y a : Int) (hB : zBv T K n nw) (hM : zMr T n nw M) (hQ : mWithout M = -9) (hnw : 0 ≤ nw ∧ nw ≤ 12) (hw : (-2147483648 ≤ w ∧ w ≤ 2147483647)) (hk : (-2147483648 ≤ k ∧ k ≤ 2147483647)) (hy : (-2147483648 ≤ y ∧ y ≤ 2147483647)) (ha : (-2147483648 ≤ a ∧ a ≤ 2147483647)) : zMet l m_X6_persons [zR 32, zI w, zI k, zI y, zI a] (zw sc B S Z L R M) (fun v h1 => ∃ M1, v = some (zI (if zrO n nw w k y a = 0 then zps (zVW T (zcB K n (zlast n a) (-9)) w ((zlast n a) + 1).toNat) k y else zrO n nw w k y a)) ∧ zw sc B S Z L R M1 = h1 ∧ zMk M M1) := by
  refine z_method g_X6_persons [some (zR 32), some (zI w), some (zI k), some (zI y), some (zI a), none] rfl rfl (fun V c => ?_)
  obtain ⟨hn, hT, -, hv, hno, hKs⟩ := id hB
  refine z_go c 3 (s1 := (5, [some (zR 32), some (zI w), some (zI k), some (zI y), some (zI a), none], [], (zw sc B S Z L R ((0, (mWays M), (mOne M), (mTwo M), (mPages M), (mOrders M)), ((mSort M), (mTold M), (mLast M), (mWithout M), (mIsIn M), (mNeeds M)), ((mPersons M), (mGaps M), (mWeight M), (mSeen M), (mFew M), (mBroken M)), ((mHolds M), (mMany M), (mOrder M), (mIsGood M), (mFar M)))), 0, 0)) rfl trivial ?_
  have hkM0 : zMk M ((0, (mWays M), (mOne M), (mTwo M), (mPages M), (mOrders M)), ((mSort M), (mTold M), (mLast M), (mWithout M), (mIsIn M), (mNeeds M)), ((mPersons M), (mGaps M), (mWeight M), (mSeen M), (mFew M), (mBroken M)), ((mHolds M), (mMany M), (mOrder M), (mIsGood M), (mFar M))) := ⟨rfl, rfl, rfl, rfl⟩
  generalize (((0, (mWays M), (mOne M), (mTwo M), (mPages M), (mOrders M)), ((mSort M), (mTold M), (mLast M), (mWithout M), (mIsIn M), (mNeeds M)), ((mPersons M), (mGaps M), (mWeight M), (mSeen M), (mFew M), (mBroken M)), ((mHolds M), (mMany M), (mOrder M), (mIsGood M), (mFar M))) : ZMd) = M0 at hkM0 ⊢
  have hM0 := zMr_k hM hkM0
  have hQ0 : mWithout M0 = -9 := hkM0.2.2.2.trans hQ
  have eN0 := hM0.1
  have eW0 := hM0.2.1
  refine z_cV c 5 k_6_173 zv_X6_no (pc := 14) (ls := [some (zR 32), some (zI w), some (zI k), some (zI y), some (zI a), none]) (sk := []) (h := (zw sc B S Z L R M0)) (cs := 0) (ss := 0) (c_X6_no l sc B S Z L R M0 T K n nw w k y a hB hM0 hnw (by omega) (by omega) (by omega) (by omega)) rfl trivial rfl rfl ⟨Nat.le_refl _, Nat.le_refl _⟩ ?_
  rintro _ _ ⟨rfl, rfl⟩
  have hzr := zrO_r n nw w k y a
  show V (14, [some (zR 32), some (zI w), some (zI k), some (zI y), some (zI a), none], [zI ((zrO n nw w k y a))], (zw sc B S Z L R M0), 0, 0)
  refine z_br c 2 ((zrO n nw w k y a) = 0) (24, [some (zR 32), some (zI w), some (zI k), some (zI y), some (zI a), some (zI ((zrO n nw w k y a)))], [], (zw sc B S Z L R M0), 0, 0) (21, [some (zR 32), some (zI w), some (zI k), some (zI y), some (zI a), some (zI ((zrO n nw w k y a)))], [], (zw sc B S Z L R M0), 0, 0) rfl ⟨(show (-2147483648 : Int) ≤ (zrO n nw w k y a) ∧ (zrO n nw w k y a) ≤ 2147483647 by omega), trivial⟩ (fun h18 => ?_) (fun h18 => ?_)
  · obtain ⟨hw3, ha3, hk3, hy3⟩ := zrO_0 (by assumption)
    refine z_cV c 2 k_6_155 zv_X6_look (pc := 30) (ls := [some (zR 32), some (zI w), some (zI k), some (zI y), some (zI a), some (zI ((zrO n nw w k y a)))]) (sk := []) (h := (zw sc B S Z L R M0)) (cs := 0) (ss := 0) (c_look l sc B S Z L R M0 T K n nw (-9) a hB hM0 hQ0 (by omega) (by omega)) rfl trivial rfl rfl ⟨Nat.le_refl _, Nat.le_refl _⟩ ?_
    rintro _ _ ⟨rfl, ML, rfl, hLL, hk9, hfr9⟩
    have hkML := zMk_trans hkM0 hk9
    have hl := zlast_rng (n := n) (a := a) hn.1 (by omega)
    have eN1 := hLL.1.1
    have eW1 := hLL.1.2.1
    have hvm : ∀ p : Nat, p < ((zlast n a) + 1).toNat → zvp T nw (p : Int) := fun p h => hv p (by omega)
    show V (30, [some (zR 32), some (zI w), some (zI k), some (zI y), some (zI a), some (zI ((zrO n nw w k y a)))], [], (zw sc B S Z L R ML), 0, 0)
    refine z_cV c 3 k_6_101 zv_X6_walks (pc := 36) (ls := [some (zR 32), some (zI w), some (zI k), some (zI y), some (zI a), some (zI ((zrO n nw w k y a)))]) (sk := []) (h := (zw sc B S Z L R ML)) (cs := 0) (ss := 0) (c_walks l sc B S Z L R ML T K n nw (-9) (zlast n a) w k hB hLL hl (by omega) (by omega) hnw.2) rfl trivial rfl rfl ⟨Nat.le_refl _, Nat.le_refl _⟩ ?_
    rintro _ _ ⟨rfl, MW, rfl, hsW, ⟨hsn, hfw⟩, -, -⟩
    have hLW := zLk_ms hLL hsW
    have hkMW := zMk_trans hkML (zMk_ms hsW)
    show V (36, [some (zR 32), some (zI w), some (zI k), some (zI y), some (zI a), some (zI ((zrO n nw w k y a)))], [], (zw sc B S Z L R MW), 0, 0)
    refine z_cS c 4 k_6_93 zv_X6_bits (pc := 45) (ls := [some (zR 32), some (zI w), some (zI k), some (zI y), some (zI a), some (zI ((zrO n nw w k y a)))]) (sk := []) (h := (zw sc B S Z L R MW)) (cs := 0) (ss := 0) (c_X6_bits l (zw sc B S Z L R MW) (((mSeen MW) y)) (by have h8 := hsn y hy3.1 hy3.2; have h9 := zwg_lt (T := T) (ct := (zcB K n (zlast n a) (-9))) (w := w) (k := k) (y := y) (nw := nw) ((zlast n a) + 1).toNat hvm; omega)) rfl ⟨(show (0 : Int) ≤ y ∧ y < 101 by omega), trivial⟩ rfl ⟨Nat.le_refl _, Nat.le_refl _⟩ ?_
    rintro _ _ ⟨rfl, rfl⟩
    show V (45, [some (zR 32), some (zI w), some (zI k), some (zI y), some (zI a), some (zI ((zrO n nw w k y a)))], [zI (((zpop 20 (((mSeen MW) y)).toNat : Nat) : Int))], (zw sc B S Z L R MW), 0, 0)
    exact z_re c 0 (v := some (zI (((zpop 20 (((mSeen MW) y)).toNat : Nat) : Int)))) (h := (zw sc B S Z L R MW)) (cs := 0) (ss := 0) rfl trivial trivial ⟨Nat.le_refl _, Nat.le_refl _⟩ ⟨MW, by rw [if_pos (by assumption), zps_pr hvm hk3 hy3, ← zpr_of hsn hy3], rfl, hkMW⟩
  · exact z_re c 1 (v := some (zI ((zrO n nw w k y a)))) (h := (zw sc B S Z L R M0)) (cs := 0) (ss := 0) rfl trivial trivial ⟨Nat.le_refl _, Nat.le_refl _⟩ ⟨M0, by rw [if_neg (by assumption)], rfl, hkM0⟩
set_option maxRecDepth 4000 in
theorem c_X6_holds (l : Launch) (sc : ZSc) (B : ZBk) (S Z : ZSg) (L : ZLn) (R : ZRd) (M : ZMd) (T K : Int → Int) (n nw : Int) (w k y a : Int) (hB : zBv T K n nw) (hM : zMr T n nw M) (hQ : mWithout M = -9) (hnw : 0 ≤ nw ∧ nw ≤ 12) (hw : (-2147483648 ≤ w ∧ w ≤ 2147483647)) (hk : (-2147483648 ≤ k ∧ k ≤ 2147483647)) (hy : (-2147483648 ≤ y ∧ y ≤ 2147483647)) (ha : (-2147483648 ≤ a ∧ a ≤ 2147483647)) : zMet l m_X6_holds [zR 32, zI w, zI k, zI y, zI a] (zw sc B S Z L R M) (fun v h1 => ∃ M1, v = some (zI (if zrO n nw w k y a = 0 then (if zHo T (zcB K n (zlast n a) (-9)) w ((zlast n a) + 1).toNat k y = true then 1 else 0) else zrO n nw w k y a)) ∧ zw sc B S Z L R M1 = h1 ∧ zMk M M1) := by
  refine z_method g_X6_holds [some (zR 32), some (zI w), some (zI k), some (zI y), some (zI a), none] rfl rfl (fun V c => ?_)
  obtain ⟨hn, hT, -, hv, hno, hKs⟩ := id hB
  refine z_go c 3 (s1 := (5, [some (zR 32), some (zI w), some (zI k), some (zI y), some (zI a), none], [], (zw sc B S Z L R ((0, (mWays M), (mOne M), (mTwo M), (mPages M), (mOrders M)), ((mSort M), (mTold M), (mLast M), (mWithout M), (mIsIn M), (mNeeds M)), ((mPersons M), (mGaps M), (mWeight M), (mSeen M), (mFew M), (mBroken M)), ((mHolds M), (mMany M), (mOrder M), (mIsGood M), (mFar M)))), 0, 0)) rfl trivial ?_
  have hkM0 : zMk M ((0, (mWays M), (mOne M), (mTwo M), (mPages M), (mOrders M)), ((mSort M), (mTold M), (mLast M), (mWithout M), (mIsIn M), (mNeeds M)), ((mPersons M), (mGaps M), (mWeight M), (mSeen M), (mFew M), (mBroken M)), ((mHolds M), (mMany M), (mOrder M), (mIsGood M), (mFar M))) := ⟨rfl, rfl, rfl, rfl⟩
  generalize (((0, (mWays M), (mOne M), (mTwo M), (mPages M), (mOrders M)), ((mSort M), (mTold M), (mLast M), (mWithout M), (mIsIn M), (mNeeds M)), ((mPersons M), (mGaps M), (mWeight M), (mSeen M), (mFew M), (mBroken M)), ((mHolds M), (mMany M), (mOrder M), (mIsGood M), (mFar M))) : ZMd) = M0 at hkM0 ⊢
  have hM0 := zMr_k hM hkM0
  have hQ0 : mWithout M0 = -9 := hkM0.2.2.2.trans hQ
  have eN0 := hM0.1
  have eW0 := hM0.2.1
  refine z_cV c 5 k_6_173 zv_X6_no (pc := 14) (ls := [some (zR 32), some (zI w), some (zI k), some (zI y), some (zI a), none]) (sk := []) (h := (zw sc B S Z L R M0)) (cs := 0) (ss := 0) (c_X6_no l sc B S Z L R M0 T K n nw w k y a hB hM0 hnw (by omega) (by omega) (by omega) (by omega)) rfl trivial rfl rfl ⟨Nat.le_refl _, Nat.le_refl _⟩ ?_
  rintro _ _ ⟨rfl, rfl⟩
  have hzr := zrO_r n nw w k y a
  show V (14, [some (zR 32), some (zI w), some (zI k), some (zI y), some (zI a), none], [zI ((zrO n nw w k y a))], (zw sc B S Z L R M0), 0, 0)
  refine z_br c 2 ((zrO n nw w k y a) = 0) (24, [some (zR 32), some (zI w), some (zI k), some (zI y), some (zI a), some (zI ((zrO n nw w k y a)))], [], (zw sc B S Z L R M0), 0, 0) (21, [some (zR 32), some (zI w), some (zI k), some (zI y), some (zI a), some (zI ((zrO n nw w k y a)))], [], (zw sc B S Z L R M0), 0, 0) rfl ⟨(show (-2147483648 : Int) ≤ (zrO n nw w k y a) ∧ (zrO n nw w k y a) ≤ 2147483647 by omega), trivial⟩ (fun h18 => ?_) (fun h18 => ?_)
  · obtain ⟨hw3, ha3, hk3, hy3⟩ := zrO_0 (by assumption)
    refine z_cV c 2 k_6_155 zv_X6_look (pc := 30) (ls := [some (zR 32), some (zI w), some (zI k), some (zI y), some (zI a), some (zI ((zrO n nw w k y a)))]) (sk := []) (h := (zw sc B S Z L R M0)) (cs := 0) (ss := 0) (c_look l sc B S Z L R M0 T K n nw (-9) a hB hM0 hQ0 (by omega) (by omega)) rfl trivial rfl rfl ⟨Nat.le_refl _, Nat.le_refl _⟩ ?_
    rintro _ _ ⟨rfl, ML, rfl, hLL, hk9, hfr9⟩
    have hkML := zMk_trans hkM0 hk9
    have hl := zlast_rng (n := n) (a := a) hn.1 (by omega)
    have eN1 := hLL.1.1
    have eW1 := hLL.1.2.1
    have hvm : ∀ p : Nat, p < ((zlast n a) + 1).toNat → zvp T nw (p : Int) := fun p h => hv p (by omega)
    show V (30, [some (zR 32), some (zI w), some (zI k), some (zI y), some (zI a), some (zI ((zrO n nw w k y a)))], [], (zw sc B S Z L R ML), 0, 0)
    refine z_cV c 2 k_6_108 zv_X6_spans (pc := 35) (ls := [some (zR 32), some (zI w), some (zI k), some (zI y), some (zI a), some (zI ((zrO n nw w k y a)))]) (sk := []) (h := (zw sc B S Z L R ML)) (cs := 0) (ss := 0) (c_X6_spans l sc B S Z L R ML T K n nw (-9) (zlast n a) w hB hLL hl (by omega) hnw.2) rfl trivial rfl rfl ⟨Nat.le_refl _, Nat.le_refl _⟩ ?_
    rintro _ _ ⟨rfl, MW, rfl, hsW, hS⟩
    have hLW := zLk_ms hLL hsW
    have hkMW := zMk_trans hkML (zMk_ms hsW)
    show V (35, [some (zR 32), some (zI w), some (zI k), some (zI y), some (zI a), some (zI ((zrO n nw w k y a)))], [], (zw sc B S Z L R MW), 0, 0)
    have hs := hS k y hk3.1 hk3.2 hy3.1 hy3.2 (by omega)
    refine z_br c 8 (((mHolds MW) (((101 * k) + y))) = 0) (53, [some (zR 32), some (zI w), some (zI k), some (zI y), some (zI a), some (zI ((zrO n nw w k y a)))], [], (zw sc B S Z L R MW), 0, 0) (49, [some (zR 32), some (zI w), some (zI k), some (zI y), some (zI a), some (zI ((zrO n nw w k y a)))], [], (zw sc B S Z L R MW), 0, 0) rfl ⟨(show (-2147483648 : Int) ≤ ((mHolds MW) (((101 * k) + y))) ∧ ((mHolds MW) (((101 * k) + y))) ≤ 2147483647 by omega), (show (0 : Int) ≤ ((101 * k) + y) ∧ ((101 * k) + y) < 303 by omega), trivial⟩ (fun h46 => ?_) (fun h46 => ?_)
    · exact z_re c 1 (v := some (zI 0)) (h := (zw sc B S Z L R MW)) (cs := 0) (ss := 0) rfl trivial trivial ⟨Nat.le_refl _, Nat.le_refl _⟩ ⟨MW, by rw [if_pos (by assumption), if_neg (by rcases hs with ⟨g, g2⟩ | ⟨g, g2⟩; exfalso; omega; exact g2)], rfl, hkMW⟩
    · exact z_re c 2 (v := some (zI 1)) (h := (zw sc B S Z L R MW)) (cs := 0) (ss := 0) rfl trivial trivial ⟨Nat.le_refl _, Nat.le_refl _⟩ ⟨MW, by rw [if_pos (by assumption), if_pos (by rcases hs with ⟨g, g2⟩ | ⟨g, g2⟩; exact g2; exfalso; omega)], rfl, hkMW⟩
  · exact z_re c 1 (v := some (zI ((zrO n nw w k y a)))) (h := (zw sc B S Z L R M0)) (cs := 0) (ss := 0) rfl trivial trivial ⟨Nat.le_refl _, Nat.le_refl _⟩ ⟨M0, by rw [if_neg (by assumption)], rfl, hkM0⟩
set_option maxRecDepth 4000 in
theorem c_X6_lacking (l : Launch) (sc : ZSc) (B : ZBk) (S Z : ZSg) (L : ZLn) (R : ZRd) (M : ZMd) (T K : Int → Int) (n nw : Int) (w k y a : Int) (hB : zBv T K n nw) (hM : zMr T n nw M) (hQ : mWithout M = -9) (hnw : 0 ≤ nw ∧ nw ≤ 12) (hw : (-2147483648 ≤ w ∧ w ≤ 2147483647)) (hk : (-2147483648 ≤ k ∧ k ≤ 2147483647)) (hy : (-2147483648 ≤ y ∧ y ≤ 2147483647)) (ha : (-2147483648 ≤ a ∧ a ≤ 2147483647)) : zMet l m_X6_lacking [zR 32, zI w, zI k, zI y, zI a] (zw sc B S Z L R M) (fun v h1 => ∃ M1, v = some (zI (if zrO n nw w k y a = 0 then zLa T (zcB K n (zlast n a) (-9)) w ((zlast n a) + 1).toNat k y else zrO n nw w k y a)) ∧ zw sc B S Z L R M1 = h1 ∧ zMk M M1) := by
  refine z_method g_X6_lacking [some (zR 32), some (zI w), some (zI k), some (zI y), some (zI a), none] rfl rfl (fun V c => ?_)
  obtain ⟨hn, hT, -, hv, hno, hKs⟩ := id hB
  refine z_go c 3 (s1 := (5, [some (zR 32), some (zI w), some (zI k), some (zI y), some (zI a), none], [], (zw sc B S Z L R ((0, (mWays M), (mOne M), (mTwo M), (mPages M), (mOrders M)), ((mSort M), (mTold M), (mLast M), (mWithout M), (mIsIn M), (mNeeds M)), ((mPersons M), (mGaps M), (mWeight M), (mSeen M), (mFew M), (mBroken M)), ((mHolds M), (mMany M), (mOrder M), (mIsGood M), (mFar M)))), 0, 0)) rfl trivial ?_
  have hkM0 : zMk M ((0, (mWays M), (mOne M), (mTwo M), (mPages M), (mOrders M)), ((mSort M), (mTold M), (mLast M), (mWithout M), (mIsIn M), (mNeeds M)), ((mPersons M), (mGaps M), (mWeight M), (mSeen M), (mFew M), (mBroken M)), ((mHolds M), (mMany M), (mOrder M), (mIsGood M), (mFar M))) := ⟨rfl, rfl, rfl, rfl⟩
  generalize (((0, (mWays M), (mOne M), (mTwo M), (mPages M), (mOrders M)), ((mSort M), (mTold M), (mLast M), (mWithout M), (mIsIn M), (mNeeds M)), ((mPersons M), (mGaps M), (mWeight M), (mSeen M), (mFew M), (mBroken M)), ((mHolds M), (mMany M), (mOrder M), (mIsGood M), (mFar M))) : ZMd) = M0 at hkM0 ⊢
  have hM0 := zMr_k hM hkM0
  have hQ0 : mWithout M0 = -9 := hkM0.2.2.2.trans hQ
  have eN0 := hM0.1
  have eW0 := hM0.2.1
  refine z_cV c 5 k_6_173 zv_X6_no (pc := 14) (ls := [some (zR 32), some (zI w), some (zI k), some (zI y), some (zI a), none]) (sk := []) (h := (zw sc B S Z L R M0)) (cs := 0) (ss := 0) (c_X6_no l sc B S Z L R M0 T K n nw w k y a hB hM0 hnw (by omega) (by omega) (by omega) (by omega)) rfl trivial rfl rfl ⟨Nat.le_refl _, Nat.le_refl _⟩ ?_
  rintro _ _ ⟨rfl, rfl⟩
  have hzr := zrO_r n nw w k y a
  show V (14, [some (zR 32), some (zI w), some (zI k), some (zI y), some (zI a), none], [zI ((zrO n nw w k y a))], (zw sc B S Z L R M0), 0, 0)
  refine z_br c 2 ((zrO n nw w k y a) = 0) (24, [some (zR 32), some (zI w), some (zI k), some (zI y), some (zI a), some (zI ((zrO n nw w k y a)))], [], (zw sc B S Z L R M0), 0, 0) (21, [some (zR 32), some (zI w), some (zI k), some (zI y), some (zI a), some (zI ((zrO n nw w k y a)))], [], (zw sc B S Z L R M0), 0, 0) rfl ⟨(show (-2147483648 : Int) ≤ (zrO n nw w k y a) ∧ (zrO n nw w k y a) ≤ 2147483647 by omega), trivial⟩ (fun h18 => ?_) (fun h18 => ?_)
  · obtain ⟨hw3, ha3, hk3, hy3⟩ := zrO_0 (by assumption)
    refine z_cV c 2 k_6_155 zv_X6_look (pc := 30) (ls := [some (zR 32), some (zI w), some (zI k), some (zI y), some (zI a), some (zI ((zrO n nw w k y a)))]) (sk := []) (h := (zw sc B S Z L R M0)) (cs := 0) (ss := 0) (c_look l sc B S Z L R M0 T K n nw (-9) a hB hM0 hQ0 (by omega) (by omega)) rfl trivial rfl rfl ⟨Nat.le_refl _, Nat.le_refl _⟩ ?_
    rintro _ _ ⟨rfl, ML, rfl, hLL, hk9, hfr9⟩
    have hkML := zMk_trans hkM0 hk9
    have hl := zlast_rng (n := n) (a := a) hn.1 (by omega)
    have eN1 := hLL.1.1
    have eW1 := hLL.1.2.1
    have hvm : ∀ p : Nat, p < ((zlast n a) + 1).toNat → zvp T nw (p : Int) := fun p h => hv p (by omega)
    show V (30, [some (zR 32), some (zI w), some (zI k), some (zI y), some (zI a), some (zI ((zrO n nw w k y a)))], [], (zw sc B S Z L R ML), 0, 0)
    refine z_cV c 3 k_6_101 zv_X6_walks (pc := 36) (ls := [some (zR 32), some (zI w), some (zI k), some (zI y), some (zI a), some (zI ((zrO n nw w k y a)))]) (sk := []) (h := (zw sc B S Z L R ML)) (cs := 0) (ss := 0) (c_walks l sc B S Z L R ML T K n nw (-9) (zlast n a) w k hB hLL hl (by omega) (by omega) hnw.2) rfl trivial rfl rfl ⟨Nat.le_refl _, Nat.le_refl _⟩ ?_
    rintro _ _ ⟨rfl, MW, rfl, hsW, ⟨hsn, hfw⟩, -, -⟩
    have hLW := zLk_ms hLL hsW
    have hkMW := zMk_trans hkML (zMk_ms hsW)
    show V (36, [some (zR 32), some (zI w), some (zI k), some (zI y), some (zI a), some (zI ((zrO n nw w k y a)))], [], (zw sc B S Z L R MW), 0, 0)
    refine z_cV c 2 k_6_105 zv_X6_few (pc := 41) (ls := [some (zR 32), some (zI w), some (zI k), some (zI y), some (zI a), some (zI ((zrO n nw w k y a)))]) (sk := []) (h := (zw sc B S Z L R MW)) (cs := 0) (ss := 0) (c_X6_few l sc B S Z L R MW y (by omega) (by have := hLW.2.2.2.1; have h3 := zst_rng hvm (ct := (zcB K n (zlast n a) (-9))); omega)) rfl trivial rfl rfl ⟨Nat.le_refl _, Nat.le_refl _⟩ ?_
    rintro _ _ ⟨rfl, rfl⟩
    show V (41, [some (zR 32), some (zI w), some (zI k), some (zI y), some (zI a), some (zI ((zrO n nw w k y a)))], [zI ((if y - mNeeds MW + 1 < 0 then -9 else mFew MW (y + 1) - mFew MW (y - mNeeds MW + 1)))], (zw sc B S Z L R MW), 0, 0)
    exact z_re c 0 (v := some (zI ((if y - mNeeds MW + 1 < 0 then -9 else mFew MW (y + 1) - mFew MW (y - mNeeds MW + 1))))) (h := (zw sc B S Z L R MW)) (cs := 0) (ss := 0) rfl trivial trivial ⟨Nat.le_refl _, Nat.le_refl _⟩ ⟨MW, by rw [if_pos (show zrO n nw w k y a = 0 by assumption), hLW.2.2.2.1, zLa_pr hvm hk3 hy3 (by rw [← hLL.2.2.2.2.1]; exact hfw)], rfl, hkMW⟩
  · exact z_re c 1 (v := some (zI ((zrO n nw w k y a)))) (h := (zw sc B S Z L R M0)) (cs := 0) (ss := 0) rfl trivial trivial ⟨Nat.le_refl _, Nat.le_refl _⟩ ⟨M0, by rw [if_neg (by assumption)], rfl, hkM0⟩
set_option maxRecDepth 4000 in
theorem c_X6_papers (l : Launch) (sc : ZSc) (B : ZBk) (S Z : ZSg) (L : ZLn) (R : ZRd) (M : ZMd) (T K : Int → Int) (n nw : Int) (w k a : Int) (hB : zBv T K n nw) (hM : zMr T n nw M) (hQ : mWithout M = -9) (hnw : 0 ≤ nw ∧ nw ≤ 12) (hw : (-2147483648 ≤ w ∧ w ≤ 2147483647)) (hk : (-2147483648 ≤ k ∧ k ≤ 2147483647)) (ha : (-2147483648 ≤ a ∧ a ≤ 2147483647)) : zMet l m_X6_papers [zR 32, zI w, zI k, zI a] (zw sc B S Z L R M) (fun v h1 => ∃ M1, v = some (zI (if zrO n nw w k 0 a = 0 then zwk (zVS T (zcB K n (zlast n a) (-9)) w ((zlast n a) + 1).toNat) k else zrO n nw w k 0 a)) ∧ zw sc B S Z L R M1 = h1 ∧ zMk M M1) := by
  refine z_method g_X6_papers [some (zR 32), some (zI w), some (zI k), some (zI a), none] rfl rfl (fun V c => ?_)
  obtain ⟨hn, hT, -, hv, hno, hKs⟩ := id hB
  refine z_go c 3 (s1 := (5, [some (zR 32), some (zI w), some (zI k), some (zI a), none], [], (zw sc B S Z L R ((0, (mWays M), (mOne M), (mTwo M), (mPages M), (mOrders M)), ((mSort M), (mTold M), (mLast M), (mWithout M), (mIsIn M), (mNeeds M)), ((mPersons M), (mGaps M), (mWeight M), (mSeen M), (mFew M), (mBroken M)), ((mHolds M), (mMany M), (mOrder M), (mIsGood M), (mFar M)))), 0, 0)) rfl trivial ?_
  have hkM0 : zMk M ((0, (mWays M), (mOne M), (mTwo M), (mPages M), (mOrders M)), ((mSort M), (mTold M), (mLast M), (mWithout M), (mIsIn M), (mNeeds M)), ((mPersons M), (mGaps M), (mWeight M), (mSeen M), (mFew M), (mBroken M)), ((mHolds M), (mMany M), (mOrder M), (mIsGood M), (mFar M))) := ⟨rfl, rfl, rfl, rfl⟩
  generalize (((0, (mWays M), (mOne M), (mTwo M), (mPages M), (mOrders M)), ((mSort M), (mTold M), (mLast M), (mWithout M), (mIsIn M), (mNeeds M)), ((mPersons M), (mGaps M), (mWeight M), (mSeen M), (mFew M), (mBroken M)), ((mHolds M), (mMany M), (mOrder M), (mIsGood M), (mFar M))) : ZMd) = M0 at hkM0 ⊢
  have hM0 := zMr_k hM hkM0
  have hQ0 : mWithout M0 = -9 := hkM0.2.2.2.trans hQ
  have eN0 := hM0.1
  have eW0 := hM0.2.1
  refine z_cV c 5 k_6_173 zv_X6_no (pc := 13) (ls := [some (zR 32), some (zI w), some (zI k), some (zI a), none]) (sk := []) (h := (zw sc B S Z L R M0)) (cs := 0) (ss := 0) (c_X6_no l sc B S Z L R M0 T K n nw w k 0 a hB hM0 hnw (by omega) (by omega) (by omega) (by omega)) rfl trivial rfl rfl ⟨Nat.le_refl _, Nat.le_refl _⟩ ?_
  rintro _ _ ⟨rfl, rfl⟩
  have hzr := zrO_r n nw w k 0 a
  show V (13, [some (zR 32), some (zI w), some (zI k), some (zI a), none], [zI ((zrO n nw w k 0 a))], (zw sc B S Z L R M0), 0, 0)
  refine z_br c 2 ((zrO n nw w k 0 a) = 0) (23, [some (zR 32), some (zI w), some (zI k), some (zI a), some (zI ((zrO n nw w k 0 a)))], [], (zw sc B S Z L R M0), 0, 0) (20, [some (zR 32), some (zI w), some (zI k), some (zI a), some (zI ((zrO n nw w k 0 a)))], [], (zw sc B S Z L R M0), 0, 0) rfl ⟨(show (-2147483648 : Int) ≤ (zrO n nw w k 0 a) ∧ (zrO n nw w k 0 a) ≤ 2147483647 by omega), trivial⟩ (fun h17 => ?_) (fun h17 => ?_)
  · obtain ⟨hw3, ha3, hk3, hy3⟩ := zrO_0 (by assumption)
    refine z_cV c 2 k_6_155 zv_X6_look (pc := 28) (ls := [some (zR 32), some (zI w), some (zI k), some (zI a), some (zI ((zrO n nw w k 0 a)))]) (sk := []) (h := (zw sc B S Z L R M0)) (cs := 0) (ss := 0) (c_look l sc B S Z L R M0 T K n nw (-9) a hB hM0 hQ0 (by omega) (by omega)) rfl trivial rfl rfl ⟨Nat.le_refl _, Nat.le_refl _⟩ ?_
    rintro _ _ ⟨rfl, ML, rfl, hLL, hk9, hfr9⟩
    have hkML := zMk_trans hkM0 hk9
    have hl := zlast_rng (n := n) (a := a) hn.1 (by omega)
    have eN1 := hLL.1.1
    have eW1 := hLL.1.2.1
    have hvm : ∀ p : Nat, p < ((zlast n a) + 1).toNat → zvp T nw (p : Int) := fun p h => hv p (by omega)
    show V (28, [some (zR 32), some (zI w), some (zI k), some (zI a), some (zI ((zrO n nw w k 0 a)))], [], (zw sc B S Z L R ML), 0, 0)
    refine z_cV c 3 k_6_122 zv_X6_papersOf (pc := 34) (ls := [some (zR 32), some (zI w), some (zI k), some (zI a), some (zI ((zrO n nw w k 0 a)))]) (sk := []) (h := (zw sc B S Z L R ML)) (cs := 0) (ss := 0) (c_X6_papersOf l sc B S Z L R ML T K n nw (-9) (zlast n a) w k hB hLL hl (by omega) (by omega) hnw.2) rfl trivial rfl rfl ⟨Nat.le_refl _, Nat.le_refl _⟩ ?_
    rintro _ _ ⟨rfl, rfl⟩
    show V (34, [some (zR 32), some (zI w), some (zI k), some (zI a), some (zI ((zrO n nw w k 0 a)))], [zI ((zpg T (zcB K n (zlast n a) (-9)) w k ((zlast n a) + 1).toNat))], (zw sc B S Z L R ML), 0, 0)
    exact z_re c 0 (v := some (zI ((zpg T (zcB K n (zlast n a) (-9)) w k ((zlast n a) + 1).toNat)))) (h := (zw sc B S Z L R ML)) (cs := 0) (ss := 0) rfl trivial trivial ⟨Nat.le_refl _, Nat.le_refl _⟩ ⟨ML, by rw [if_pos (by assumption), show zwk (zVS T (zcB K n (zlast n a) (-9)) w ((zlast n a) + 1).toNat) k = zpg T (zcB K n (zlast n a) (-9)) w k ((zlast n a) + 1).toNat from zpx_all hk3 _ hvm], rfl, hkML⟩
  · exact z_re c 1 (v := some (zI ((zrO n nw w k 0 a)))) (h := (zw sc B S Z L R M0)) (cs := 0) (ss := 0) rfl trivial trivial ⟨Nat.le_refl _, Nat.le_refl _⟩ ⟨M0, by rw [if_neg (by assumption)], rfl, hkM0⟩
set_option maxRecDepth 4000 in
theorem c_X6_force (l : Launch) (sc : ZSc) (B : ZBk) (S Z : ZSg) (L : ZLn) (R : ZRd) (M : ZMd) (T K : Int → Int) (n nw : Int) (w k y a : Int) (hB : zBv T K n nw) (hM : zMr T n nw M) (hQ : mWithout M = -9) (hnw : 0 ≤ nw ∧ nw ≤ 12) (hw : (-2147483648 ≤ w ∧ w ≤ 2147483647)) (hk : (-2147483648 ≤ k ∧ k ≤ 2147483647)) (hy : (-2147483648 ≤ y ∧ y ≤ 2147483647)) (ha : (-2147483648 ≤ a ∧ a ≤ 2147483647)) : zMet l m_X6_force [zR 32, zI w, zI k, zI y, zI a] (zw sc B S Z L R M) (fun v h1 => ∃ M1, v = some (zI (if zrO n nw w k y a = 0 then zF T K n w (zlast n a) (-9) k y else zrO n nw w k y a)) ∧ zw sc B S Z L R M1 = h1 ∧ zMk M M1) := by
  refine z_method g_X6_force [some (zR 32), some (zI w), some (zI k), some (zI y), some (zI a), none] rfl rfl (fun V c => ?_)
  obtain ⟨hn, hT, -, hv, hno, hKs⟩ := id hB
  refine z_go c 3 (s1 := (5, [some (zR 32), some (zI w), some (zI k), some (zI y), some (zI a), none], [], (zw sc B S Z L R ((0, (mWays M), (mOne M), (mTwo M), (mPages M), (mOrders M)), ((mSort M), (mTold M), (mLast M), (mWithout M), (mIsIn M), (mNeeds M)), ((mPersons M), (mGaps M), (mWeight M), (mSeen M), (mFew M), (mBroken M)), ((mHolds M), (mMany M), (mOrder M), (mIsGood M), (mFar M)))), 0, 0)) rfl trivial ?_
  have hkM0 : zMk M ((0, (mWays M), (mOne M), (mTwo M), (mPages M), (mOrders M)), ((mSort M), (mTold M), (mLast M), (mWithout M), (mIsIn M), (mNeeds M)), ((mPersons M), (mGaps M), (mWeight M), (mSeen M), (mFew M), (mBroken M)), ((mHolds M), (mMany M), (mOrder M), (mIsGood M), (mFar M))) := ⟨rfl, rfl, rfl, rfl⟩
  generalize (((0, (mWays M), (mOne M), (mTwo M), (mPages M), (mOrders M)), ((mSort M), (mTold M), (mLast M), (mWithout M), (mIsIn M), (mNeeds M)), ((mPersons M), (mGaps M), (mWeight M), (mSeen M), (mFew M), (mBroken M)), ((mHolds M), (mMany M), (mOrder M), (mIsGood M), (mFar M))) : ZMd) = M0 at hkM0 ⊢
  have hM0 := zMr_k hM hkM0
  have hQ0 : mWithout M0 = -9 := hkM0.2.2.2.trans hQ
  have eN0 := hM0.1
  have eW0 := hM0.2.1
  refine z_cV c 5 k_6_173 zv_X6_no (pc := 14) (ls := [some (zR 32), some (zI w), some (zI k), some (zI y), some (zI a), none]) (sk := []) (h := (zw sc B S Z L R M0)) (cs := 0) (ss := 0) (c_X6_no l sc B S Z L R M0 T K n nw w k y a hB hM0 hnw (by omega) (by omega) (by omega) (by omega)) rfl trivial rfl rfl ⟨Nat.le_refl _, Nat.le_refl _⟩ ?_
  rintro _ _ ⟨rfl, rfl⟩
  have hzr := zrO_r n nw w k y a
  show V (14, [some (zR 32), some (zI w), some (zI k), some (zI y), some (zI a), none], [zI ((zrO n nw w k y a))], (zw sc B S Z L R M0), 0, 0)
  refine z_br c 2 ((zrO n nw w k y a) = 0) (24, [some (zR 32), some (zI w), some (zI k), some (zI y), some (zI a), some (zI ((zrO n nw w k y a)))], [], (zw sc B S Z L R M0), 0, 0) (21, [some (zR 32), some (zI w), some (zI k), some (zI y), some (zI a), some (zI ((zrO n nw w k y a)))], [], (zw sc B S Z L R M0), 0, 0) rfl ⟨(show (-2147483648 : Int) ≤ (zrO n nw w k y a) ∧ (zrO n nw w k y a) ≤ 2147483647 by omega), trivial⟩ (fun h18 => ?_) (fun h18 => ?_)
  · obtain ⟨hw3, ha3, hk3, hy3⟩ := zrO_0 (by assumption)
    refine z_cV c 2 k_6_155 zv_X6_look (pc := 30) (ls := [some (zR 32), some (zI w), some (zI k), some (zI y), some (zI a), some (zI ((zrO n nw w k y a)))]) (sk := []) (h := (zw sc B S Z L R M0)) (cs := 0) (ss := 0) (c_look l sc B S Z L R M0 T K n nw (-9) a hB hM0 hQ0 (by omega) (by omega)) rfl trivial rfl rfl ⟨Nat.le_refl _, Nat.le_refl _⟩ ?_
    rintro _ _ ⟨rfl, ML, rfl, hLL, hk9, hfr9⟩
    have hkML := zMk_trans hkM0 hk9
    have hl := zlast_rng (n := n) (a := a) hn.1 (by omega)
    have eN1 := hLL.1.1
    have eW1 := hLL.1.2.1
    have hvm : ∀ p : Nat, p < ((zlast n a) + 1).toNat → zvp T nw (p : Int) := fun p h => hv p (by omega)
    show V (30, [some (zR 32), some (zI w), some (zI k), some (zI y), some (zI a), some (zI ((zrO n nw w k y a)))], [], (zw sc B S Z L R ML), 0, 0)
    refine z_cV c 2 k_6_176 zv_X6_prepare (pc := 35) (ls := [some (zR 32), some (zI w), some (zI k), some (zI y), some (zI a), some (zI ((zrO n nw w k y a)))]) (sk := []) (h := (zw sc B S Z L R ML)) (cs := 0) (ss := 0) (c_X6_prepare l sc B S Z L R ML T K n nw (-9) (zlast n a) w hB hLL hl (by omega) hnw.2) rfl trivial rfl rfl ⟨Nat.le_refl _, Nat.le_refl _⟩ ?_
    rintro _ _ ⟨rfl, MP, rfl, hsP, hPd⟩
    have hLP := zLk_ms hLL hsP
    have hkMP := zMk_trans hkML (zMk_ms hsP)
    show V (35, [some (zR 32), some (zI w), some (zI k), some (zI y), some (zI a), some (zI ((zrO n nw w k y a)))], [], (zw sc B S Z L R MP), 0, 0)
    refine z_cV c 4 k_6_118 zv_X6_forceOf (pc := 42) (ls := [some (zR 32), some (zI w), some (zI k), some (zI y), some (zI a), some (zI ((zrO n nw w k y a)))]) (sk := []) (h := (zw sc B S Z L R MP)) (cs := 0) (ss := 0) (c_fP l sc B S Z L R MP T K n nw (-9) (zlast n a) w k y hB hLP hl (by omega) (by omega) (by omega) hnw.2 hPd) rfl trivial rfl rfl ⟨Nat.le_refl _, Nat.le_refl _⟩ ?_
    rintro _ _ ⟨rfl, rfl⟩
    have hzf := zF_rng T K n w (zlast n a) (-9) k y
    show V (42, [some (zR 32), some (zI w), some (zI k), some (zI y), some (zI a), some (zI ((zrO n nw w k y a)))], [zI ((zF T K n w (zlast n a) (-9) k y))], (zw sc B S Z L R MP), 0, 0)
    exact z_re c 0 (v := some (zI ((zF T K n w (zlast n a) (-9) k y)))) (h := (zw sc B S Z L R MP)) (cs := 0) (ss := 0) rfl trivial trivial ⟨Nat.le_refl _, Nat.le_refl _⟩ ⟨MP, by rw [if_pos (by assumption)], rfl, hkMP⟩
  · exact z_re c 1 (v := some (zI ((zrO n nw w k y a)))) (h := (zw sc B S Z L R M0)) (cs := 0) (ss := 0) rfl trivial trivial ⟨Nat.le_refl _, Nat.le_refl _⟩ ⟨M0, by rw [if_neg (by assumption)], rfl, hkM0⟩
set_option maxRecDepth 4000 in
theorem c_X6_most (l : Launch) (sc : ZSc) (B : ZBk) (S Z : ZSg) (L : ZLn) (R : ZRd) (M : ZMd) (T K : Int → Int) (n nw : Int) (w y a : Int) (hB : zBv T K n nw) (hM : zMr T n nw M) (hQ : mWithout M = -9) (hnw : 0 ≤ nw ∧ nw ≤ 12) (hw : (-2147483648 ≤ w ∧ w ≤ 2147483647)) (hy : (-2147483648 ≤ y ∧ y ≤ 2147483647)) (ha : (-2147483648 ≤ a ∧ a ≤ 2147483647)) : zMet l m_X6_most [zR 32, zI w, zI y, zI a] (zw sc B S Z L R M) (fun v h1 => ∃ M1, v = some (zI (if zrO n nw w 0 y a = 0 then zmo (fun k => zF T K n w (zlast n a) (-9) k y) else zrO n nw w 0 y a)) ∧ zw sc B S Z L R M1 = h1 ∧ zMk M M1) := by
  refine z_method g_X6_most [some (zR 32), some (zI w), some (zI y), some (zI a), none, none, none] rfl rfl (fun V c => ?_)
  obtain ⟨hn, hT, -, hv, hno, hKs⟩ := id hB
  refine z_go c 3 (s1 := (5, [some (zR 32), some (zI w), some (zI y), some (zI a), none, none, none], [], (zw sc B S Z L R ((0, (mWays M), (mOne M), (mTwo M), (mPages M), (mOrders M)), ((mSort M), (mTold M), (mLast M), (mWithout M), (mIsIn M), (mNeeds M)), ((mPersons M), (mGaps M), (mWeight M), (mSeen M), (mFew M), (mBroken M)), ((mHolds M), (mMany M), (mOrder M), (mIsGood M), (mFar M)))), 0, 0)) rfl trivial ?_
  have hkM0 : zMk M ((0, (mWays M), (mOne M), (mTwo M), (mPages M), (mOrders M)), ((mSort M), (mTold M), (mLast M), (mWithout M), (mIsIn M), (mNeeds M)), ((mPersons M), (mGaps M), (mWeight M), (mSeen M), (mFew M), (mBroken M)), ((mHolds M), (mMany M), (mOrder M), (mIsGood M), (mFar M))) := ⟨rfl, rfl, rfl, rfl⟩
  generalize (((0, (mWays M), (mOne M), (mTwo M), (mPages M), (mOrders M)), ((mSort M), (mTold M), (mLast M), (mWithout M), (mIsIn M), (mNeeds M)), ((mPersons M), (mGaps M), (mWeight M), (mSeen M), (mFew M), (mBroken M)), ((mHolds M), (mMany M), (mOrder M), (mIsGood M), (mFar M))) : ZMd) = M0 at hkM0 ⊢
  have hM0 := zMr_k hM hkM0
  have hQ0 : mWithout M0 = -9 := hkM0.2.2.2.trans hQ
  have eN0 := hM0.1
  have eW0 := hM0.2.1
  refine z_cV c 5 k_6_173 zv_X6_no (pc := 13) (ls := [some (zR 32), some (zI w), some (zI y), some (zI a), none, none, none]) (sk := []) (h := (zw sc B S Z L R M0)) (cs := 0) (ss := 0) (c_X6_no l sc B S Z L R M0 T K n nw w 0 y a hB hM0 hnw (by omega) (by omega) (by omega) (by omega)) rfl trivial rfl rfl ⟨Nat.le_refl _, Nat.le_refl _⟩ ?_
  rintro _ _ ⟨rfl, rfl⟩
  have hzr := zrO_r n nw w 0 y a
  show V (13, [some (zR 32), some (zI w), some (zI y), some (zI a), none, none, none], [zI ((zrO n nw w 0 y a))], (zw sc B S Z L R M0), 0, 0)
  refine z_br c 2 ((zrO n nw w 0 y a) = 0) (23, [some (zR 32), some (zI w), some (zI y), some (zI a), some (zI ((zrO n nw w 0 y a))), none, none], [], (zw sc B S Z L R M0), 0, 0) (20, [some (zR 32), some (zI w), some (zI y), some (zI a), some (zI ((zrO n nw w 0 y a))), none, none], [], (zw sc B S Z L R M0), 0, 0) rfl ⟨(show (-2147483648 : Int) ≤ (zrO n nw w 0 y a) ∧ (zrO n nw w 0 y a) ≤ 2147483647 by omega), trivial⟩ (fun h17 => ?_) (fun h17 => ?_)
  · obtain ⟨hw3, ha3, hk3, hy3⟩ := zrO_0 (by assumption)
    refine z_cV c 2 k_6_155 zv_X6_look (pc := 28) (ls := [some (zR 32), some (zI w), some (zI y), some (zI a), some (zI ((zrO n nw w 0 y a))), none, none]) (sk := []) (h := (zw sc B S Z L R M0)) (cs := 0) (ss := 0) (c_look l sc B S Z L R M0 T K n nw (-9) a hB hM0 hQ0 (by omega) (by omega)) rfl trivial rfl rfl ⟨Nat.le_refl _, Nat.le_refl _⟩ ?_
    rintro _ _ ⟨rfl, ML, rfl, hLL, hk9, hfr9⟩
    have hkML := zMk_trans hkM0 hk9
    have hl := zlast_rng (n := n) (a := a) hn.1 (by omega)
    have eN1 := hLL.1.1
    have eW1 := hLL.1.2.1
    have hvm : ∀ p : Nat, p < ((zlast n a) + 1).toNat → zvp T nw (p : Int) := fun p h => hv p (by omega)
    show V (28, [some (zR 32), some (zI w), some (zI y), some (zI a), some (zI ((zrO n nw w 0 y a))), none, none], [], (zw sc B S Z L R ML), 0, 0)
    refine z_cV c 2 k_6_176 zv_X6_prepare (pc := 33) (ls := [some (zR 32), some (zI w), some (zI y), some (zI a), some (zI ((zrO n nw w 0 y a))), none, none]) (sk := []) (h := (zw sc B S Z L R ML)) (cs := 0) (ss := 0) (c_X6_prepare l sc B S Z L R ML T K n nw (-9) (zlast n a) w hB hLL hl (by omega) hnw.2) rfl trivial rfl rfl ⟨Nat.le_refl _, Nat.le_refl _⟩ ?_
    rintro _ _ ⟨rfl, MP, rfl, hsP, hPd⟩
    have hLP := zLk_ms hLL hsP
    have hkMP := zMk_trans hkML (zMk_ms hsP)
    show V (33, [some (zR 32), some (zI w), some (zI y), some (zI a), some (zI ((zrO n nw w 0 y a))), none, none], [], (zw sc B S Z L R MP), 0, 0)
    refine z_go c 4 (s1 := (40, [some (zR 32), some (zI w), some (zI y), some (zI a), some (zI ((zrO n nw w 0 y a))), some (zI ((-9))), some (zI 0)], [], (zw sc B S Z L R MP), 0, 0)) rfl trivial ?_
    have loop : ∀ (x m : Nat) (b : Int), 3 - m < x → m ≤ 3 → b = zbm (fun k => zF T K n w (zlast n a) (-9) k y) m → V (40, [some (zR 32), some (zI w), some (zI y), some (zI a), some (zI ((zrO n nw w 0 y a))), some (zI b), some (zI ((m : Int)))], [], (zw sc B S Z L R MP), 0, 0) := by
      intro x
      induction x with
      | zero => intro m b h1 h2; exfalso; omega
      | succ x ih =>
        intro m b hm1 hm2 hb
        refine z_br c 2 (3 ≤ (m : Int)) (72, [some (zR 32), some (zI w), some (zI y), some (zI a), some (zI ((zrO n nw w 0 y a))), some (zI b), some (zI ((m : Int)))], [], (zw sc B S Z L R MP), 0, 0) (46, [some (zR 32), some (zI w), some (zI y), some (zI a), some (zI ((zrO n nw w 0 y a))), some (zI b), some (zI ((m : Int)))], [], (zw sc B S Z L R MP), 0, 0) rfl ⟨(show ((-2147483648 : Int) ≤ (m : Int) ∧ (m : Int) ≤ 2147483647) ∧ (-2147483648 : Int) ≤ 3 ∧ 3 ≤ 2147483647 by omega), trivial⟩ (fun h43 => ?_) (fun h43 => ?_)
        · exact z_re c 1 (v := some (zI b)) (h := (zw sc B S Z L R MP)) (cs := 0) (ss := 0) rfl trivial trivial ⟨Nat.le_refl _, Nat.le_refl _⟩ ⟨MP, by obtain rfl : m = 3 := (by omega); rw [if_pos (by assumption), hb, zbm_3], rfl, hkMP⟩
        · refine z_cV c 4 k_6_118 zv_X6_forceOf (pc := 54) (ls := [some (zR 32), some (zI w), some (zI y), some (zI a), some (zI ((zrO n nw w 0 y a))), some (zI b), some (zI ((m : Int)))]) (sk := []) (h := (zw sc B S Z L R MP)) (cs := 0) (ss := 0) (c_fP l sc B S Z L R MP T K n nw (-9) (zlast n a) w ((m : Int)) y hB hLP hl (by omega) (by omega) (by omega) hnw.2 hPd) rfl trivial rfl rfl ⟨Nat.le_refl _, Nat.le_refl _⟩ ?_
          rintro _ _ ⟨rfl, rfl⟩
          have hzf := zF_rng T K n w (zlast n a) (-9) ((m : Int)) y
          show V (54, [some (zR 32), some (zI w), some (zI y), some (zI a), some (zI ((zrO n nw w 0 y a))), some (zI b), some (zI ((m : Int)))], [zI ((zF T K n w (zlast n a) (-9) ((m : Int)) y))], (zw sc B S Z L R MP), 0, 0)
          refine z_br c 0 ((zF T K n w (zlast n a) (-9) ((m : Int)) y) ≤ 0) (62, [some (zR 32), some (zI w), some (zI y), some (zI a), some (zI ((zrO n nw w 0 y a))), some (zI b), some (zI ((m : Int)))], [], (zw sc B S Z L R MP), 0, 0) (57, [some (zR 32), some (zI w), some (zI y), some (zI a), some (zI ((zrO n nw w 0 y a))), some (zI b), some (zI ((m : Int)))], [], (zw sc B S Z L R MP), 0, 0) rfl ⟨(show (-2147483648 : Int) ≤ (zF T K n w (zlast n a) (-9) ((m : Int)) y) ∧ (zF T K n w (zlast n a) (-9) ((m : Int)) y) ≤ 2147483647 by omega), trivial⟩ (fun h54 => ?_) (fun h54 => ?_)
          · refine z_go c 2 (s1 := (66, [some (zR 32), some (zI w), some (zI y), some (zI a), some (zI ((zrO n nw w 0 y a))), some (zI b), some (zI ((m : Int)))], [], (zw sc B S Z L R MP), 0, 0)) rfl trivial ?_
            exact z_go c 2 (s1 := (40, [some (zR 32), some (zI w), some (zI y), some (zI a), some (zI ((zrO n nw w 0 y a))), some (zI b), some (zI (((m : Int) + 1)))], [], (zw sc B S Z L R MP), 0, 0)) rfl trivial (ih (m + 1) _ (by omega) (by omega) ((by rw [hb]; exact (if_neg (fun z => z (show zF T K n w (zlast n a) (-9) (m : Int) y = 0 by omega))).symm)))
          · refine z_go c 3 (s1 := (66, [some (zR 32), some (zI w), some (zI y), some (zI a), some (zI ((zrO n nw w 0 y a))), some (zI ((m : Int))), some (zI ((m : Int)))], [], (zw sc B S Z L R MP), 0, 0)) rfl trivial ?_
            exact z_go c 2 (s1 := (40, [some (zR 32), some (zI w), some (zI y), some (zI a), some (zI ((zrO n nw w 0 y a))), some (zI ((m : Int))), some (zI (((m : Int) + 1)))], [], (zw sc B S Z L R MP), 0, 0)) rfl trivial (ih (m + 1) _ (by omega) (by omega) ((if_pos (show ¬ zF T K n w (zlast n a) (-9) (m : Int) y = 0 by omega)).symm))
    exact loop 4 0 _ (by omega) (by omega) rfl
  · exact z_re c 1 (v := some (zI ((zrO n nw w 0 y a)))) (h := (zw sc B S Z L R M0)) (cs := 0) (ss := 0) rfl trivial trivial ⟨Nat.le_refl _, Nat.le_refl _⟩ ⟨M0, by rw [if_neg (by assumption)], rfl, hkM0⟩
set_option maxRecDepth 4000 in
theorem c_X6_since (l : Launch) (sc : ZSc) (B : ZBk) (S Z : ZSg) (L : ZLn) (R : ZRd) (M : ZMd) (T K : Int → Int) (n nw : Int) (w k a : Int) (hB : zBv T K n nw) (hM : zMr T n nw M) (hQ : mWithout M = -9) (hnw : 0 ≤ nw ∧ nw ≤ 12) (hw : (-2147483648 ≤ w ∧ w ≤ 2147483647)) (hk : (-2147483648 ≤ k ∧ k ≤ 2147483647)) (ha : (-2147483648 ≤ a ∧ a ≤ 2147483647)) : zMet l m_X6_since [zR 32, zI w, zI k, zI a] (zw sc B S Z L R M) (fun v h1 => ∃ M1, v = some (zI (if zrO n nw w k 0 a = 0 then zmn (fun y => !decide (zF T K n w (zlast n a) (-9) k y = 0)) 0 101 else zrO n nw w k 0 a)) ∧ zw sc B S Z L R M1 = h1 ∧ zMk M M1) := by
  refine z_method g_X6_since [some (zR 32), some (zI w), some (zI k), some (zI a), none, none] rfl rfl (fun V c => ?_)
  obtain ⟨hn, hT, -, hv, hno, hKs⟩ := id hB
  refine z_go c 3 (s1 := (5, [some (zR 32), some (zI w), some (zI k), some (zI a), none, none], [], (zw sc B S Z L R ((0, (mWays M), (mOne M), (mTwo M), (mPages M), (mOrders M)), ((mSort M), (mTold M), (mLast M), (mWithout M), (mIsIn M), (mNeeds M)), ((mPersons M), (mGaps M), (mWeight M), (mSeen M), (mFew M), (mBroken M)), ((mHolds M), (mMany M), (mOrder M), (mIsGood M), (mFar M)))), 0, 0)) rfl trivial ?_
  have hkM0 : zMk M ((0, (mWays M), (mOne M), (mTwo M), (mPages M), (mOrders M)), ((mSort M), (mTold M), (mLast M), (mWithout M), (mIsIn M), (mNeeds M)), ((mPersons M), (mGaps M), (mWeight M), (mSeen M), (mFew M), (mBroken M)), ((mHolds M), (mMany M), (mOrder M), (mIsGood M), (mFar M))) := ⟨rfl, rfl, rfl, rfl⟩
  generalize (((0, (mWays M), (mOne M), (mTwo M), (mPages M), (mOrders M)), ((mSort M), (mTold M), (mLast M), (mWithout M), (mIsIn M), (mNeeds M)), ((mPersons M), (mGaps M), (mWeight M), (mSeen M), (mFew M), (mBroken M)), ((mHolds M), (mMany M), (mOrder M), (mIsGood M), (mFar M))) : ZMd) = M0 at hkM0 ⊢
  have hM0 := zMr_k hM hkM0
  have hQ0 : mWithout M0 = -9 := hkM0.2.2.2.trans hQ
  have eN0 := hM0.1
  have eW0 := hM0.2.1
  refine z_cV c 5 k_6_173 zv_X6_no (pc := 13) (ls := [some (zR 32), some (zI w), some (zI k), some (zI a), none, none]) (sk := []) (h := (zw sc B S Z L R M0)) (cs := 0) (ss := 0) (c_X6_no l sc B S Z L R M0 T K n nw w k 0 a hB hM0 hnw (by omega) (by omega) (by omega) (by omega)) rfl trivial rfl rfl ⟨Nat.le_refl _, Nat.le_refl _⟩ ?_
  rintro _ _ ⟨rfl, rfl⟩
  have hzr := zrO_r n nw w k 0 a
  show V (13, [some (zR 32), some (zI w), some (zI k), some (zI a), none, none], [zI ((zrO n nw w k 0 a))], (zw sc B S Z L R M0), 0, 0)
  refine z_br c 2 ((zrO n nw w k 0 a) = 0) (23, [some (zR 32), some (zI w), some (zI k), some (zI a), some (zI ((zrO n nw w k 0 a))), none], [], (zw sc B S Z L R M0), 0, 0) (20, [some (zR 32), some (zI w), some (zI k), some (zI a), some (zI ((zrO n nw w k 0 a))), none], [], (zw sc B S Z L R M0), 0, 0) rfl ⟨(show (-2147483648 : Int) ≤ (zrO n nw w k 0 a) ∧ (zrO n nw w k 0 a) ≤ 2147483647 by omega), trivial⟩ (fun h17 => ?_) (fun h17 => ?_)
  · obtain ⟨hw3, ha3, hk3, hy3⟩ := zrO_0 (by assumption)
    refine z_cV c 2 k_6_155 zv_X6_look (pc := 28) (ls := [some (zR 32), some (zI w), some (zI k), some (zI a), some (zI ((zrO n nw w k 0 a))), none]) (sk := []) (h := (zw sc B S Z L R M0)) (cs := 0) (ss := 0) (c_look l sc B S Z L R M0 T K n nw (-9) a hB hM0 hQ0 (by omega) (by omega)) rfl trivial rfl rfl ⟨Nat.le_refl _, Nat.le_refl _⟩ ?_
    rintro _ _ ⟨rfl, ML, rfl, hLL, hk9, hfr9⟩
    have hkML := zMk_trans hkM0 hk9
    have hl := zlast_rng (n := n) (a := a) hn.1 (by omega)
    have eN1 := hLL.1.1
    have eW1 := hLL.1.2.1
    have hvm : ∀ p : Nat, p < ((zlast n a) + 1).toNat → zvp T nw (p : Int) := fun p h => hv p (by omega)
    show V (28, [some (zR 32), some (zI w), some (zI k), some (zI a), some (zI ((zrO n nw w k 0 a))), none], [], (zw sc B S Z L R ML), 0, 0)
    refine z_cV c 2 k_6_176 zv_X6_prepare (pc := 33) (ls := [some (zR 32), some (zI w), some (zI k), some (zI a), some (zI ((zrO n nw w k 0 a))), none]) (sk := []) (h := (zw sc B S Z L R ML)) (cs := 0) (ss := 0) (c_X6_prepare l sc B S Z L R ML T K n nw (-9) (zlast n a) w hB hLL hl (by omega) hnw.2) rfl trivial rfl rfl ⟨Nat.le_refl _, Nat.le_refl _⟩ ?_
    rintro _ _ ⟨rfl, MP, rfl, hsP, hPd⟩
    have hLP := zLk_ms hLL hsP
    have hkMP := zMk_trans hkML (zMk_ms hsP)
    show V (33, [some (zR 32), some (zI w), some (zI k), some (zI a), some (zI ((zrO n nw w k 0 a))), none], [], (zw sc B S Z L R MP), 0, 0)
    refine z_go c 2 (s1 := (36, [some (zR 32), some (zI w), some (zI k), some (zI a), some (zI ((zrO n nw w k 0 a))), some (zI 0)], [], (zw sc B S Z L R MP), 0, 0)) rfl trivial ?_
    have loop : ∀ (x m : Nat), 101 - m < x → m ≤ 101 → zmn (fun y => !decide (zF T K n w (zlast n a) (-9) k y = 0)) 0 101 = zmn (fun y => !decide (zF T K n w (zlast n a) (-9) k y = 0)) (m : Int) (101 - m) → V (36, [some (zR 32), some (zI w), some (zI k), some (zI a), some (zI ((zrO n nw w k 0 a))), some (zI ((m : Int)))], [], (zw sc B S Z L R MP), 0, 0) := by
      intro x
      induction x with
      | zero => intro m h1 h2; exfalso; omega
      | succ x ih =>
        intro m hm1 hm2 hz
        refine z_br c 2 (100 < (m : Int)) (63, [some (zR 32), some (zI w), some (zI k), some (zI a), some (zI ((zrO n nw w k 0 a))), some (zI ((m : Int)))], [], (zw sc B S Z L R MP), 0, 0) (43, [some (zR 32), some (zI w), some (zI k), some (zI a), some (zI ((zrO n nw w k 0 a))), some (zI ((m : Int)))], [], (zw sc B S Z L R MP), 0, 0) rfl ⟨(show ((-2147483648 : Int) ≤ (m : Int) ∧ (m : Int) ≤ 2147483647) ∧ (-2147483648 : Int) ≤ 100 ∧ 100 ≤ 2147483647 by omega), trivial⟩ (fun h40 => ?_) (fun h40 => ?_)
        · exact z_re c 1 (v := some (zI ((-9)))) (h := (zw sc B S Z L R MP)) (cs := 0) (ss := 0) rfl trivial trivial ⟨Nat.le_refl _, Nat.le_refl _⟩ ⟨MP, by obtain rfl : m = 101 := (by omega); rw [if_pos (by assumption), hz]; rfl, rfl, hkMP⟩
        · refine z_go c 1 (s1 := (44, [some (zR 32), some (zI w), some (zI k), some (zI a), some (zI ((zrO n nw w k 0 a))), some (zI ((m : Int)))], [zR 32], (zw sc B S Z L R MP), 0, 0)) rfl trivial ?_
          have hz2 := zmn_s (P := (fun y => !decide (zF T K n w (zlast n a) (-9) k y = 0))) (a := (m : Int)) (k := 101 - m) (by omega)
          have hPm : (fun y => !decide (zF T K n w (zlast n a) (-9) k y = 0)) (m : Int) = true ↔ ¬ zF T K n w (zlast n a) (-9) k (m : Int) = 0 := by
            show (!decide (zF T K n w (zlast n a) (-9) k (m : Int) = 0)) = true ↔ _
            rw [Bool.not_eq_true', decide_eq_false_iff_not]
          refine z_cV c 3 k_6_118 zv_X6_forceOf (pc := 51) (ls := [some (zR 32), some (zI w), some (zI k), some (zI a), some (zI ((zrO n nw w k 0 a))), some (zI ((m : Int)))]) (sk := []) (h := (zw sc B S Z L R MP)) (cs := 0) (ss := 0) (c_fP l sc B S Z L R MP T K n nw (-9) (zlast n a) w k ((m : Int)) hB hLP hl (by omega) (by omega) (by omega) hnw.2 hPd) rfl trivial rfl rfl ⟨Nat.le_refl _, Nat.le_refl _⟩ ?_
          rintro _ _ ⟨rfl, rfl⟩
          have hzf := zF_rng T K n w (zlast n a) (-9) k ((m : Int))
          show V (51, [some (zR 32), some (zI w), some (zI k), some (zI a), some (zI ((zrO n nw w k 0 a))), some (zI ((m : Int)))], [zI ((zF T K n w (zlast n a) (-9) k ((m : Int))))], (zw sc B S Z L R MP), 0, 0)
          refine z_br c 0 ((zF T K n w (zlast n a) (-9) k ((m : Int))) ≤ 0) (57, [some (zR 32), some (zI w), some (zI k), some (zI a), some (zI ((zrO n nw w k 0 a))), some (zI ((m : Int)))], [], (zw sc B S Z L R MP), 0, 0) (54, [some (zR 32), some (zI w), some (zI k), some (zI a), some (zI ((zrO n nw w k 0 a))), some (zI ((m : Int)))], [], (zw sc B S Z L R MP), 0, 0) rfl ⟨(show (-2147483648 : Int) ≤ (zF T K n w (zlast n a) (-9) k ((m : Int))) ∧ (zF T K n w (zlast n a) (-9) k ((m : Int))) ≤ 2147483647 by omega), trivial⟩ (fun h51 => ?_) (fun h51 => ?_)
          · exact z_go c 2 (s1 := (36, [some (zR 32), some (zI w), some (zI k), some (zI a), some (zI ((zrO n nw w k 0 a))), some (zI (((m : Int) + 1)))], [], (zw sc B S Z L R MP), 0, 0)) rfl trivial (ih (m + 1) (by omega) (by omega) (by rw [hz, hz2, if_neg (fun z => (hPm.mp z) (by omega))]; rfl))
          · exact z_re c 1 (v := some (zI ((m : Int)))) (h := (zw sc B S Z L R MP)) (cs := 0) (ss := 0) rfl trivial trivial ⟨Nat.le_refl _, Nat.le_refl _⟩ ⟨MP, by rw [if_pos (by assumption), hz, hz2, if_pos (hPm.mpr (by omega))], rfl, hkMP⟩
    exact loop 102 0 (by omega) (by omega) rfl
  · exact z_re c 1 (v := some (zI ((zrO n nw w k 0 a)))) (h := (zw sc B S Z L R M0)) (cs := 0) (ss := 0) rfl trivial trivial ⟨Nat.le_refl _, Nat.le_refl _⟩ ⟨M0, by rw [if_neg (by assumption)], rfl, hkM0⟩
