/-! the model: spans, papers -/
theorem zcm_mono (pr : Int → Int) (P : Int) {a : Nat} : ∀ d : Nat, zcm pr P a ≤ zcm pr P (a + d)
  | 0 => Int.le_refl _
  | d + 1 => by
    have h := zcm_mono pr P (a := a) d
    show _ ≤ zcm pr P (a + d) + _
    split <;> omega
def zfw (pr : Int → Int) (P N e v : Int) : Prop := (e - N + 1 < 0 ∧ v = -9) ∨ (0 ≤ e - N + 1 ∧ v = zcm pr P (e.toNat + 1) - zcm pr P (e - N + 1).toNat ∧ 0 ≤ v ∧ v ≤ 101)
theorem zfw_of {F pr : Int → Int} {P N e : Int} (hN : 1 ≤ N) (he : 0 ≤ e ∧ e ≤ 100) (hF : ∀ j : Nat, j ≤ 101 → F (j : Int) = zcm pr P j) : zfw pr P N e (if e - N + 1 < 0 then -9 else F (e + 1) - F (e - N + 1)) := by
  by_cases g : e - N + 1 < 0
  · rw [if_pos g]; exact Or.inl ⟨g, rfl⟩
  · rw [if_neg g]
    have h1 := hF (e.toNat + 1) (by omega)
    have h2 := hF (e - N + 1).toNat (by omega)
    rw [show (((e.toNat + 1 : Nat)) : Int) = e + 1 by omega] at h1
    rw [show (((e - N + 1).toNat : Nat) : Int) = e - N + 1 by omega] at h2
    have h3 := zcm_rng pr P (e.toNat + 1)
    have h4 := zcm_rng pr P (e - N + 1).toNat
    have h5 := zcm_mono pr P (a := (e - N + 1).toNat) (e.toNat + 1 - (e - N + 1).toNat)
    rw [show (e - N + 1).toNat + (e.toNat + 1 - (e - N + 1).toNat) = e.toNat + 1 by omega] at h5
    exact Or.inr ⟨by omega, by rw [h1, h2], by omega, by omega⟩
theorem zh_val {pr bk : Int → Int} {P N G e v : Int} (h : zfw pr P N e v) : zhold pr bk P N G e = true ↔ ¬ v = -9 ∧ v ≤ G ∧ zlb bk (e.toNat + 1) < e - N + 1 := by
  unfold zhold
  rw [decide_eq_true_iff]
  unfold zfw at h
  omega
theorem zHo_pr {T : Int → Int} {ct : Int → Bool} {w nw k e : Int} {m : Nat} (hv : ∀ p : Nat, p < m → zvp T nw (p : Int)) (hk : 0 ≤ k ∧ k ≤ 2) (he : 0 ≤ e ∧ e ≤ 100) : zHo T ct w m k e = zhold (zpr T ct w k m) (zVB T ct w m) (zVP T ct m) (zVN T ct m) (zVG T ct m) e := by
  refine zhold_cong (fun y a b => ?_) (fun y _ _ => rfl) (zst_rng hv).1.1 he
  unfold zps zpr
  rw [zbt_all hv hk (fun k2 a2 b2 => zVW_at T ct w m a2 ⟨a, b⟩)]
def zSn (T : Int → Int) (ct : Int → Bool) (w : Int) (m : Nat) (b : Int) (H : Int → Int) : Prop := ∀ k e, 0 ≤ k → k ≤ 2 → 0 ≤ e → e ≤ 100 → 101 * k + e < b → (H (101 * k + e) = 1 ∧ zHo T ct w m k e = true) ∨ (H (101 * k + e) = 0 ∧ ¬ zHo T ct w m k e = true)
theorem zSn_put {T : Int → Int} {ct : Int → Bool} {w : Int} {m : Nat} {k e x : Int} {H : Int → Int} (h : zSn T ct w m (101 * k + e) H) (hk : 0 ≤ k ∧ k ≤ 2) (he : 0 ≤ e ∧ e ≤ 100) (hx : (x = 1 ∧ zHo T ct w m k e = true) ∨ (x = 0 ∧ ¬ zHo T ct w m k e = true)) : zSn T ct w m (101 * k + (e + 1)) (zup H (101 * k + e) x) := by
  intro k2 e2 a1 a2 a3 a4 a5
  simp only [zup]
  by_cases g : 101 * k2 + e2 = 101 * k + e
  · obtain ⟨rfl, rfl⟩ : k2 = k ∧ e2 = e := by omega
    rw [if_pos rfl]
    exact hx
  · rw [if_neg g]
    exact h k2 e2 a1 a2 a3 a4 (by omega)
theorem zpg_rng {T : Int → Int} {ct : Int → Bool} {w k nw : Int} : ∀ m : Nat, (∀ p : Nat, p < m → zvp T nw (p : Int)) → 0 ≤ zpg T ct w k m ∧ zpg T ct w k m ≤ 9 * (m : Int)
  | 0, _ => ⟨Int.le_refl _, Int.le_refl _⟩
  | m + 1, hv => by
    have ih := zpg_rng (T := T) (ct := ct) (w := w) (k := k) (nw := nw) m (fun p h => hv p (by omega))
    show 0 ≤ zpg T ct w k m + (if _ then _ else _) ∧ zpg T ct w k m + (if _ then _ else _) ≤ 9 * ((m + 1 : Nat) : Int)
    split
    · rename_i h
      have := zvp_1 (hv m (by omega)) h.2.1
      omega
    · omega
theorem zpg_no {T : Int → Int} {ct : Int → Bool} {w k : Int} {m : Nat} (hn : ct (m : Int) = true → T ((m : Int) * 12 + 0) = 1 → T ((m : Int) * 12 + 1) = w → ¬ k ≤ T ((m : Int) * 12 + 2)) : zpg T ct w k m + 0 = zpg T ct w k (m + 1) := by
  show _ = zpg T ct w k m + (if _ then _ else _)
  rw [if_neg (fun z => hn z.1 z.2.1 z.2.2.1 z.2.2.2)]
theorem zpg_add {T : Int → Int} {ct : Int → Bool} {w k : Int} {m : Nat} (h1 : ct (m : Int) = true) (h2 : T ((m : Int) * 12 + 0) = 1) (h3 : T ((m : Int) * 12 + 1) = w) (h4 : k ≤ T ((m : Int) * 12 + 2)) : zpg T ct w k m + T ((m : Int) * 12 + 6) = zpg T ct w k (m + 1) := by
  show _ = zpg T ct w k m + (if _ then _ else _)
  rw [if_pos ⟨h1, h2, h3, h4⟩]
set_option maxRecDepth 4000 in
theorem c_X6_spans (l : Launch) (sc : ZSc) (B : ZBk) (S Z : ZSg) (L : ZLn) (R : ZRd) (M : ZMd) (T K : Int → Int) (n nw q l1 : Int) (w : Int) (hB : zBv T K n nw) (hL : zLk T K n nw q l1 M) (hl : -1 ≤ l1 ∧ l1 < n) (hw : 0 ≤ w ∧ w < nw) (hnw : nw ≤ 12) : zMet l m_X6_spans [zR 32, zI w] (zw sc B S Z L R M) (fun v h1 => v = none ∧ ∃ M1, zw sc B S Z L R M1 = h1 ∧ zMs M M1 ∧ zSn T (zcB K n l1 q) w (l1 + 1).toNat 303 (mHolds M1)) := by
  refine z_method g_X6_spans [some (zR 32), some (zI w), none, none, none] rfl rfl (fun V c => ?_)
  obtain ⟨hn, hT, -, hv, hno, hKs⟩ := id hB
  obtain ⟨hM, e1, hI, e2, e3, e4, e5⟩ := id hL
  have eN := hM.1
  have eW := hM.2.1
  have hst := zst_rng (T := T) (ct := (zcB K n l1 q)) (m := (l1 + 1).toNat) (nw := nw) (fun p h => hv p (by omega))
  have hfB : ∀ y, 0 ≤ (fun y => zbc T (zcB K n l1 q) w y (l1 + 1).toNat) y ∧ (fun y => zbc T (zcB K n l1 q) w y (l1 + 1).toNat) y ≤ 100 := fun y => by have := zbc_c T (zcB K n l1 q) w y (l1 + 1).toNat; show 0 ≤ zbc T (zcB K n l1 q) w y (l1 + 1).toNat ∧ zbc T (zcB K n l1 q) w y (l1 + 1).toNat ≤ 100; omega
  refine z_cV c 2 k_6_97 zv_X6_breaks (pc := 5) (ls := [some (zR 32), some (zI w), none, none, none]) (sk := []) (h := (zw sc B S Z L R M)) (cs := 0) (ss := 0) (c_X6_breaks l sc B S Z L R M T K n nw q l1 w hB hL hl hw hnw) rfl trivial rfl rfl ⟨Nat.le_refl _, Nat.le_refl _⟩ ?_
  rintro _ _ ⟨rfl, M1, rfl, hs1, hb1⟩
  show V (5, [some (zR 32), some (zI w), none, none, none], [], (zw sc B S Z L R M1), 0, 0)
  refine z_go c 2 (s1 := (7, [some (zR 32), some (zI w), some (zI 0), none, none], [], (zw sc B S Z L R M1), 0, 0)) rfl trivial ?_
  have loop : ∀ (x m : Nat) (M2 : ZMd) (x3 x4 : Option ZV), 3 - m < x → m ≤ 3 → zMs M M2 → (∀ j : Nat, j ≤ 101 → mBroken M2 (j : Int) = zbs (fun y => zbc T (zcB K n l1 q) w y (l1 + 1).toNat) j) → zSn T (zcB K n l1 q) w (l1 + 1).toNat (101 * (m : Int)) (mHolds M2) → V (7, [some (zR 32), some (zI w), some (zI ((m : Int))), x3, x4], [], (zw sc B S Z L R M2), 0, 0) := by
    intro x
    induction x with
    | zero => intro m M2 x3 x4 h1 h2; exfalso; omega
    | succ x ih =>
      intro m M2 x3 x4 hm1 hm2 hs2 hb2 hS2
      refine z_br c 2 (3 ≤ (m : Int)) (101, [some (zR 32), some (zI w), some (zI ((m : Int))), x3, x4], [], (zw sc B S Z L R M2), 0, 0) (12, [some (zR 32), some (zI w), some (zI ((m : Int))), x3, x4], [], (zw sc B S Z L R M2), 0, 0) rfl ⟨(show ((-2147483648 : Int) ≤ (m : Int) ∧ (m : Int) ≤ 2147483647) ∧ (-2147483648 : Int) ≤ 3 ∧ 3 ≤ 2147483647 by omega), trivial⟩ (fun h9 => ?_) (fun h9 => ?_)
      · exact z_re c 0 (v := none) (h := (zw sc B S Z L R M2)) (cs := 0) (ss := 0) rfl trivial trivial ⟨Nat.le_refl _, Nat.le_refl _⟩ ⟨rfl, M2, rfl, hs2, (by obtain rfl : m = 3 := (by omega); exact hS2)⟩
      · refine z_cV c 3 k_6_101 zv_X6_walks (pc := 18) (ls := [some (zR 32), some (zI w), some (zI ((m : Int))), x3, x4]) (sk := []) (h := (zw sc B S Z L R M2)) (cs := 0) (ss := 0) (c_walks l sc B S Z L R M2 T K n nw q l1 w (m : Int) hB (zLk_ms hL hs2) hl (by omega) hw hnw) rfl trivial rfl rfl ⟨Nat.le_refl _, Nat.le_refl _⟩ ?_
        rintro _ _ ⟨rfl, M3, rfl, hs3, ⟨hsn, hfw⟩, hb3, hr3⟩
        rw [← hs3.2.2.1.1] at hfw
        have hs4 := zMs_trans hs2 hs3
        have hL3 := zLk_ms hL hs4
        have eN3 := hL3.2.2.2.1
        have eP3 := hL3.2.2.2.2.1
        have eG3 := hL3.2.2.2.2.2.1
        show V (18, [some (zR 32), some (zI w), some (zI ((m : Int))), x3, x4], [], (zw sc B S Z L R M3), 0, 0)
        refine z_go c 2 (s1 := (20, [some (zR 32), some (zI w), some (zI ((m : Int))), some (zI 0), x4], [], (zw sc B S Z L R M3), 0, 0)) rfl trivial ?_
        have hS3 : zSn T (zcB K n l1 q) w (l1 + 1).toNat (101 * (m : Int) + ((0 : Nat) : Int)) (mHolds M3) := by
          have e9 : mHolds M3 = mHolds M2 := congrArg (fun g => g.1) hr3
          rw [e9, show 101 * (m : Int) + ((0 : Nat) : Int) = 101 * (m : Int) by omega]; exact hS2
        have hb4 : ∀ j : Nat, j ≤ 101 → mBroken M3 (j : Int) = zbs (fun y => zbc T (zcB K n l1 q) w y (l1 + 1).toNat) j := by rw [hb3]; exact hb2
        have loop2 : ∀ (y e : Nat) (H1 : Int → Int) (x4 : Option ZV), 101 - e < y → e ≤ 101 → zSn T (zcB K n l1 q) w (l1 + 1).toNat (101 * (m : Int) + (e : Int)) H1 → V (20, [some (zR 32), some (zI w), some (zI ((m : Int))), some (zI ((e : Int))), x4], [], (zw sc B S Z L R (((mThrown M3), (mWays M3), (mOne M3), (mTwo M3), (mPages M3), (mOrders M3)), ((mSort M3), (mTold M3), (mLast M3), (mWithout M3), (mIsIn M3), (mNeeds M3)), ((mPersons M3), (mGaps M3), (mWeight M3), (mSeen M3), (mFew M3), (mBroken M3)), (H1, (mMany M3), (mOrder M3), (mIsGood M3), (mFar M3)))), 0, 0) := by
          intro y
          induction y with
          | zero => intro e H1 x4 h1 h2; exfalso; omega
          | succ y ih2 =>
            intro e H1 x4 he1 he2 hH
            refine z_br c 2 (100 < (e : Int)) (95, [some (zR 32), some (zI w), some (zI ((m : Int))), some (zI ((e : Int))), x4], [], (zw sc B S Z L R (((mThrown M3), (mWays M3), (mOne M3), (mTwo M3), (mPages M3), (mOrders M3)), ((mSort M3), (mTold M3), (mLast M3), (mWithout M3), (mIsIn M3), (mNeeds M3)), ((mPersons M3), (mGaps M3), (mWeight M3), (mSeen M3), (mFew M3), (mBroken M3)), (H1, (mMany M3), (mOrder M3), (mIsGood M3), (mFar M3)))), 0, 0) (26, [some (zR 32), some (zI w), some (zI ((m : Int))), some (zI ((e : Int))), x4], [], (zw sc B S Z L R (((mThrown M3), (mWays M3), (mOne M3), (mTwo M3), (mPages M3), (mOrders M3)), ((mSort M3), (mTold M3), (mLast M3), (mWithout M3), (mIsIn M3), (mNeeds M3)), ((mPersons M3), (mGaps M3), (mWeight M3), (mSeen M3), (mFew M3), (mBroken M3)), (H1, (mMany M3), (mOrder M3), (mIsGood M3), (mFar M3)))), 0, 0) rfl ⟨(show ((-2147483648 : Int) ≤ (e : Int) ∧ (e : Int) ≤ 2147483647) ∧ (-2147483648 : Int) ≤ 100 ∧ 100 ≤ 2147483647 by omega), trivial⟩ (fun h23 => ?_) (fun h23 => ?_)
            · obtain rfl : e = 101 := by omega
              clear ih2
              refine z_go c 2 (s1 := (7, [some (zR 32), some (zI w), some (zI (((m : Int) + 1))), some (zI (((101 : Nat) : Int))), x4], [], (zw sc B S Z L R (((mThrown M3), (mWays M3), (mOne M3), (mTwo M3), (mPages M3), (mOrders M3)), ((mSort M3), (mTold M3), (mLast M3), (mWithout M3), (mIsIn M3), (mNeeds M3)), ((mPersons M3), (mGaps M3), (mWeight M3), (mSeen M3), (mFew M3), (mBroken M3)), (H1, (mMany M3), (mOrder M3), (mIsGood M3), (mFar M3)))), 0, 0)) rfl trivial ?_
              exact ih (m + 1) _ _ _ (by omega) (by omega) hs4 hb4 (by rw [show 101 * ((m + 1 : Nat) : Int) = 101 * (m : Int) + ((101 : Nat) : Int) by omega]; exact hH)
            · refine z_cV c 2 k_6_105 zv_X6_few (pc := 31) (ls := [some (zR 32), some (zI w), some (zI ((m : Int))), some (zI ((e : Int))), x4]) (sk := []) (h := (zw sc B S Z L R (((mThrown M3), (mWays M3), (mOne M3), (mTwo M3), (mPages M3), (mOrders M3)), ((mSort M3), (mTold M3), (mLast M3), (mWithout M3), (mIsIn M3), (mNeeds M3)), ((mPersons M3), (mGaps M3), (mWeight M3), (mSeen M3), (mFew M3), (mBroken M3)), (H1, (mMany M3), (mOrder M3), (mIsGood M3), (mFar M3))))) (cs := 0) (ss := 0) (c_X6_few l sc B S Z L R (((mThrown M3), (mWays M3), (mOne M3), (mTwo M3), (mPages M3), (mOrders M3)), ((mSort M3), (mTold M3), (mLast M3), (mWithout M3), (mIsIn M3), (mNeeds M3)), ((mPersons M3), (mGaps M3), (mWeight M3), (mSeen M3), (mFew M3), (mBroken M3)), (H1, (mMany M3), (mOrder M3), (mIsGood M3), (mFar M3))) ((e : Int)) (by omega) (show 1 ≤ mNeeds M3 ∧ mNeeds M3 ≤ 40 by omega)) rfl trivial rfl rfl ⟨Nat.le_refl _, Nat.le_refl _⟩ ?_
              rintro _ _ ⟨rfl, rfl⟩
              have hfv := zfw_of (F := mFew M3) (pr := zpr T (zcB K n l1 q) w (m : Int) (l1 + 1).toNat) (P := mPersons M3) (N := mNeeds M3) (e := ((e : Int))) (by omega) (by omega) hfw
              have hv0 : ∀ v, (if ((e : Int)) - mNeeds M3 + 1 < 0 then -9 else mFew M3 (((e : Int)) + 1) - mFew M3 (((e : Int)) - mNeeds M3 + 1)) = v → zfw (zpr T (zcB K n l1 q) w (m : Int) (l1 + 1).toNat) (mPersons M3) (mNeeds M3) ((e : Int)) v := fun v hv => hv ▸ hfv
              show V (31, [some (zR 32), some (zI w), some (zI ((m : Int))), some (zI ((e : Int))), x4], [zI ((if ((e : Int)) - mNeeds M3 + 1 < 0 then -9 else mFew M3 (((e : Int)) + 1) - mFew M3 (((e : Int)) - mNeeds M3 + 1)))], (zw sc B S Z L R (((mThrown M3), (mWays M3), (mOne M3), (mTwo M3), (mPages M3), (mOrders M3)), ((mSort M3), (mTold M3), (mLast M3), (mWithout M3), (mIsIn M3), (mNeeds M3)), ((mPersons M3), (mGaps M3), (mWeight M3), (mSeen M3), (mFew M3), (mBroken M3)), (H1, (mMany M3), (mOrder M3), (mIsGood M3), (mFar M3)))), 0, 0)
              generalize hve : (if ((e : Int)) - mNeeds M3 + 1 < 0 then -9 else mFew M3 (((e : Int)) + 1) - mFew M3 (((e : Int)) - mNeeds M3 + 1)) = v
              have hfz := hv0 v hve
              clear hve hv0 hfv
              rw [eP3, eN3] at hfz
              have hvc : (((e : Int)) - mNeeds M3 + 1 < 0 ∧ v = -9) ∨ (0 ≤ ((e : Int)) - mNeeds M3 + 1 ∧ 0 ≤ v ∧ v ≤ 101) := by unfold zfw at hfz; omega
              show V (31, [some (zR 32), some (zI w), some (zI ((m : Int))), some (zI ((e : Int))), x4], [zI v], (zw sc B S Z L R (((mThrown M3), (mWays M3), (mOne M3), (mTwo M3), (mPages M3), (mOrders M3)), ((mSort M3), (mTold M3), (mLast M3), (mWithout M3), (mIsIn M3), (mNeeds M3)), ((mPersons M3), (mGaps M3), (mWeight M3), (mSeen M3), (mFew M3), (mBroken M3)), (H1, (mMany M3), (mOrder M3), (mIsGood M3), (mFar M3)))), 0, 0)
              refine z_br c 10 (v = (-9)) (87, [some (zR 32), some (zI w), some (zI ((m : Int))), some (zI ((e : Int))), some (zI v)], [zI (((101 * (m : Int)) + (e : Int))), zR 41], (zw sc B S Z L R (((mThrown M3), (mWays M3), (mOne M3), (mTwo M3), (mPages M3), (mOrders M3)), ((mSort M3), (mTold M3), (mLast M3), (mWithout M3), (mIsIn M3), (mNeeds M3)), ((mPersons M3), (mGaps M3), (mWeight M3), (mSeen M3), (mFew M3), (mBroken M3)), (H1, (mMany M3), (mOrder M3), (mIsGood M3), (mFar M3)))), 0, 0) (50, [some (zR 32), some (zI w), some (zI ((m : Int))), some (zI ((e : Int))), some (zI v)], [zI (((101 * (m : Int)) + (e : Int))), zR 41], (zw sc B S Z L R (((mThrown M3), (mWays M3), (mOne M3), (mTwo M3), (mPages M3), (mOrders M3)), ((mSort M3), (mTold M3), (mLast M3), (mWithout M3), (mIsIn M3), (mNeeds M3)), ((mPersons M3), (mGaps M3), (mWeight M3), (mSeen M3), (mFew M3), (mBroken M3)), (H1, (mMany M3), (mOrder M3), (mIsGood M3), (mFar M3)))), 0, 0) rfl ⟨(show ((-2147483648 : Int) ≤ v ∧ v ≤ 2147483647) ∧ (-2147483648 : Int) ≤ (-9) ∧ (-9) ≤ 2147483647 by omega), trivial⟩ (fun h47 => ?_) (fun h47 => ?_)
              · refine z_go c 2 (s1 := (89, [some (zR 32), some (zI w), some (zI ((m : Int))), some (zI ((e : Int))), some (zI v)], [], (zw sc B S Z L R (((mThrown M3), (mWays M3), (mOne M3), (mTwo M3), (mPages M3), (mOrders M3)), ((mSort M3), (mTold M3), (mLast M3), (mWithout M3), (mIsIn M3), (mNeeds M3)), ((mPersons M3), (mGaps M3), (mWeight M3), (mSeen M3), (mFew M3), (mBroken M3)), ((zup H1 (((101 * (m : Int)) + (e : Int))) 0), (mMany M3), (mOrder M3), (mIsGood M3), (mFar M3)))), 0, 0)) rfl ⟨(show ((0 : Int) ≤ ((101 * (m : Int)) + (e : Int)) ∧ ((101 * (m : Int)) + (e : Int)) < 303) ∧ (0 = (0 : Int) ∨ 0 = 1) by omega), trivial⟩ ?_
                have hx := zh_val (bk := zVB T (zcB K n l1 q) w (l1 + 1).toNat) (G := zVG T (zcB K n l1 q) (l1 + 1).toNat) hfz
                rw [← zHo_pr (T := T) (ct := (zcB K n l1 q)) (w := w) (k := (m : Int)) (m := (l1 + 1).toNat) (fun p h => hv p (by omega)) (by omega) (by omega), show ((e : Int)).toNat = e from Int.toNat_natCast e] at hx
                exact z_go c 2 (s1 := (20, [some (zR 32), some (zI w), some (zI ((m : Int))), some (zI (((e : Int) + 1))), some (zI v)], [], (zw sc B S Z L R (((mThrown M3), (mWays M3), (mOne M3), (mTwo M3), (mPages M3), (mOrders M3)), ((mSort M3), (mTold M3), (mLast M3), (mWithout M3), (mIsIn M3), (mNeeds M3)), ((mPersons M3), (mGaps M3), (mWeight M3), (mSeen M3), (mFew M3), (mBroken M3)), ((zup H1 (((101 * (m : Int)) + (e : Int))) 0), (mMany M3), (mOrder M3), (mIsGood M3), (mFar M3)))), 0, 0)) rfl trivial (ih2 (e + 1) _ _ (by omega) (by omega) (zSn_put hH (by omega) (by omega) (Or.inr ⟨rfl, fun z => by have z2 := hx.mp z; omega⟩)))
              · refine z_br c 3 ((mGaps M3) < v) (87, [some (zR 32), some (zI w), some (zI ((m : Int))), some (zI ((e : Int))), some (zI v)], [zI (((101 * (m : Int)) + (e : Int))), zR 41], (zw sc B S Z L R (((mThrown M3), (mWays M3), (mOne M3), (mTwo M3), (mPages M3), (mOrders M3)), ((mSort M3), (mTold M3), (mLast M3), (mWithout M3), (mIsIn M3), (mNeeds M3)), ((mPersons M3), (mGaps M3), (mWeight M3), (mSeen M3), (mFew M3), (mBroken M3)), (H1, (mMany M3), (mOrder M3), (mIsGood M3), (mFar M3)))), 0, 0) (59, [some (zR 32), some (zI w), some (zI ((m : Int))), some (zI ((e : Int))), some (zI v)], [zI (((101 * (m : Int)) + (e : Int))), zR 41], (zw sc B S Z L R (((mThrown M3), (mWays M3), (mOne M3), (mTwo M3), (mPages M3), (mOrders M3)), ((mSort M3), (mTold M3), (mLast M3), (mWithout M3), (mIsIn M3), (mNeeds M3)), ((mPersons M3), (mGaps M3), (mWeight M3), (mSeen M3), (mFew M3), (mBroken M3)), (H1, (mMany M3), (mOrder M3), (mIsGood M3), (mFar M3)))), 0, 0) rfl ⟨(show ((-2147483648 : Int) ≤ v ∧ v ≤ 2147483647) ∧ (-2147483648 : Int) ≤ (mGaps M3) ∧ (mGaps M3) ≤ 2147483647 by omega), trivial⟩ (fun h56 => ?_) (fun h56 => ?_)
                · refine z_go c 2 (s1 := (89, [some (zR 32), some (zI w), some (zI ((m : Int))), some (zI ((e : Int))), some (zI v)], [], (zw sc B S Z L R (((mThrown M3), (mWays M3), (mOne M3), (mTwo M3), (mPages M3), (mOrders M3)), ((mSort M3), (mTold M3), (mLast M3), (mWithout M3), (mIsIn M3), (mNeeds M3)), ((mPersons M3), (mGaps M3), (mWeight M3), (mSeen M3), (mFew M3), (mBroken M3)), ((zup H1 (((101 * (m : Int)) + (e : Int))) 0), (mMany M3), (mOrder M3), (mIsGood M3), (mFar M3)))), 0, 0)) rfl ⟨(show ((0 : Int) ≤ ((101 * (m : Int)) + (e : Int)) ∧ ((101 * (m : Int)) + (e : Int)) < 303) ∧ (0 = (0 : Int) ∨ 0 = 1) by omega), trivial⟩ ?_
                  have hx := zh_val (bk := zVB T (zcB K n l1 q) w (l1 + 1).toNat) (G := zVG T (zcB K n l1 q) (l1 + 1).toNat) hfz
                  rw [← zHo_pr (T := T) (ct := (zcB K n l1 q)) (w := w) (k := (m : Int)) (m := (l1 + 1).toNat) (fun p h => hv p (by omega)) (by omega) (by omega), show ((e : Int)).toNat = e from Int.toNat_natCast e] at hx
                  exact z_go c 2 (s1 := (20, [some (zR 32), some (zI w), some (zI ((m : Int))), some (zI (((e : Int) + 1))), some (zI v)], [], (zw sc B S Z L R (((mThrown M3), (mWays M3), (mOne M3), (mTwo M3), (mPages M3), (mOrders M3)), ((mSort M3), (mTold M3), (mLast M3), (mWithout M3), (mIsIn M3), (mNeeds M3)), ((mPersons M3), (mGaps M3), (mWeight M3), (mSeen M3), (mFew M3), (mBroken M3)), ((zup H1 (((101 * (m : Int)) + (e : Int))) 0), (mMany M3), (mOrder M3), (mIsGood M3), (mFar M3)))), 0, 0)) rfl trivial (ih2 (e + 1) _ _ (by omega) (by omega) (zSn_put hH (by omega) (by omega) (Or.inr ⟨rfl, fun z => by have z2 := hx.mp z; omega⟩)))
                · have hb7 := hb4 (e + 1) (by omega)
                  have hb8 := hb4 ((e : Int) - mNeeds M3 + 1).toNat (by omega)
                  rw [show (((e + 1 : Nat)) : Int) = (e : Int) + 1 by omega] at hb7
                  rw [show ((((e : Int) - mNeeds M3 + 1).toNat : Nat) : Int) = (e : Int) - mNeeds M3 + 1 by omega] at hb8
                  have hbr1 := zbs_rng hfB (e + 1)
                  have hbr2 := zbs_rng hfB ((e : Int) - mNeeds M3 + 1).toNat
                  have hbz := (zbs_iff (f := (fun y => zbc T (zcB K n l1 q) w y (l1 + 1).toNat)) (bk := zVB T (zcB K n l1 q) w (l1 + 1).toNat) (fun y => (hfB y).1) (fun y => (zbc_c T (zcB K n l1 q) w y (l1 + 1).toNat).2) (a := ((e : Int) - mNeeds M3 + 1).toNat) (e + 1 - ((e : Int) - mNeeds M3 + 1).toNat)).2
                  rw [show ((e : Int) - mNeeds M3 + 1).toNat + (e + 1 - ((e : Int) - mNeeds M3 + 1).toNat) = e + 1 by omega, ← hb7, ← hb8] at hbz
                  rw [← hb7] at hbr1
                  rw [← hb8] at hbr2
                  refine z_br c 15 (¬ ((mBroken M3) (((e : Int) + 1))) = ((mBroken M3) ((((e : Int) - (mNeeds M3)) + 1)))) (87, [some (zR 32), some (zI w), some (zI ((m : Int))), some (zI ((e : Int))), some (zI v)], [zI (((101 * (m : Int)) + (e : Int))), zR 41], (zw sc B S Z L R (((mThrown M3), (mWays M3), (mOne M3), (mTwo M3), (mPages M3), (mOrders M3)), ((mSort M3), (mTold M3), (mLast M3), (mWithout M3), (mIsIn M3), (mNeeds M3)), ((mPersons M3), (mGaps M3), (mWeight M3), (mSeen M3), (mFew M3), (mBroken M3)), (H1, (mMany M3), (mOrder M3), (mIsGood M3), (mFar M3)))), 0, 0) (83, [some (zR 32), some (zI w), some (zI ((m : Int))), some (zI ((e : Int))), some (zI v)], [zI (((101 * (m : Int)) + (e : Int))), zR 41], (zw sc B S Z L R (((mThrown M3), (mWays M3), (mOne M3), (mTwo M3), (mPages M3), (mOrders M3)), ((mSort M3), (mTold M3), (mLast M3), (mWithout M3), (mIsIn M3), (mNeeds M3)), ((mPersons M3), (mGaps M3), (mWeight M3), (mSeen M3), (mFew M3), (mBroken M3)), (H1, (mMany M3), (mOrder M3), (mIsGood M3), (mFar M3)))), 0, 0) rfl ⟨(show ((-2147483648 : Int) ≤ ((mBroken M3) (((e : Int) + 1))) ∧ ((mBroken M3) (((e : Int) + 1))) ≤ 2147483647) ∧ (-2147483648 : Int) ≤ ((mBroken M3) ((((e : Int) - (mNeeds M3)) + 1))) ∧ ((mBroken M3) ((((e : Int) - (mNeeds M3)) + 1))) ≤ 2147483647 by omega), (show (0 : Int) ≤ ((e : Int) + 1) ∧ ((e : Int) + 1) < 102 by omega), (show (0 : Int) ≤ (((e : Int) - (mNeeds M3)) + 1) ∧ (((e : Int) - (mNeeds M3)) + 1) < 102 by omega), trivial⟩ (fun h80 => ?_) (fun h80 => ?_)
                  · refine z_go c 2 (s1 := (89, [some (zR 32), some (zI w), some (zI ((m : Int))), some (zI ((e : Int))), some (zI v)], [], (zw sc B S Z L R (((mThrown M3), (mWays M3), (mOne M3), (mTwo M3), (mPages M3), (mOrders M3)), ((mSort M3), (mTold M3), (mLast M3), (mWithout M3), (mIsIn M3), (mNeeds M3)), ((mPersons M3), (mGaps M3), (mWeight M3), (mSeen M3), (mFew M3), (mBroken M3)), ((zup H1 (((101 * (m : Int)) + (e : Int))) 0), (mMany M3), (mOrder M3), (mIsGood M3), (mFar M3)))), 0, 0)) rfl ⟨(show ((0 : Int) ≤ ((101 * (m : Int)) + (e : Int)) ∧ ((101 * (m : Int)) + (e : Int)) < 303) ∧ (0 = (0 : Int) ∨ 0 = 1) by omega), trivial⟩ ?_
                    have hx := zh_val (bk := zVB T (zcB K n l1 q) w (l1 + 1).toNat) (G := zVG T (zcB K n l1 q) (l1 + 1).toNat) hfz
                    rw [← zHo_pr (T := T) (ct := (zcB K n l1 q)) (w := w) (k := (m : Int)) (m := (l1 + 1).toNat) (fun p h => hv p (by omega)) (by omega) (by omega), show ((e : Int)).toNat = e from Int.toNat_natCast e] at hx
                    exact z_go c 2 (s1 := (20, [some (zR 32), some (zI w), some (zI ((m : Int))), some (zI (((e : Int) + 1))), some (zI v)], [], (zw sc B S Z L R (((mThrown M3), (mWays M3), (mOne M3), (mTwo M3), (mPages M3), (mOrders M3)), ((mSort M3), (mTold M3), (mLast M3), (mWithout M3), (mIsIn M3), (mNeeds M3)), ((mPersons M3), (mGaps M3), (mWeight M3), (mSeen M3), (mFew M3), (mBroken M3)), ((zup H1 (((101 * (m : Int)) + (e : Int))) 0), (mMany M3), (mOrder M3), (mIsGood M3), (mFar M3)))), 0, 0)) rfl trivial (ih2 (e + 1) _ _ (by omega) (by omega) (zSn_put hH (by omega) (by omega) (Or.inr ⟨rfl, fun z => by have z2 := hx.mp z; omega⟩)))
                  · refine z_go c 3 (s1 := (89, [some (zR 32), some (zI w), some (zI ((m : Int))), some (zI ((e : Int))), some (zI v)], [], (zw sc B S Z L R (((mThrown M3), (mWays M3), (mOne M3), (mTwo M3), (mPages M3), (mOrders M3)), ((mSort M3), (mTold M3), (mLast M3), (mWithout M3), (mIsIn M3), (mNeeds M3)), ((mPersons M3), (mGaps M3), (mWeight M3), (mSeen M3), (mFew M3), (mBroken M3)), ((zup H1 (((101 * (m : Int)) + (e : Int))) 1), (mMany M3), (mOrder M3), (mIsGood M3), (mFar M3)))), 0, 0)) rfl ⟨(show ((0 : Int) ≤ ((101 * (m : Int)) + (e : Int)) ∧ ((101 * (m : Int)) + (e : Int)) < 303) ∧ (1 = (0 : Int) ∨ 1 = 1) by omega), trivial⟩ ?_
                    have hx := zh_val (bk := zVB T (zcB K n l1 q) w (l1 + 1).toNat) (G := zVG T (zcB K n l1 q) (l1 + 1).toNat) hfz
                    rw [← zHo_pr (T := T) (ct := (zcB K n l1 q)) (w := w) (k := (m : Int)) (m := (l1 + 1).toNat) (fun p h => hv p (by omega)) (by omega) (by omega), show ((e : Int)).toNat = e from Int.toNat_natCast e] at hx
                    exact z_go c 2 (s1 := (20, [some (zR 32), some (zI w), some (zI ((m : Int))), some (zI (((e : Int) + 1))), some (zI v)], [], (zw sc B S Z L R (((mThrown M3), (mWays M3), (mOne M3), (mTwo M3), (mPages M3), (mOrders M3)), ((mSort M3), (mTold M3), (mLast M3), (mWithout M3), (mIsIn M3), (mNeeds M3)), ((mPersons M3), (mGaps M3), (mWeight M3), (mSeen M3), (mFew M3), (mBroken M3)), ((zup H1 (((101 * (m : Int)) + (e : Int))) 1), (mMany M3), (mOrder M3), (mIsGood M3), (mFar M3)))), 0, 0)) rfl trivial (ih2 (e + 1) _ _ (by omega) (by omega) (zSn_put hH (by omega) (by omega) (Or.inl ⟨rfl, hx.mpr (by omega)⟩)))
        have h9 := loop2 102 0 (mHolds M3) x4 (by omega) (by omega) hS3
        rw [zMd_eta] at h9
        exact h9
  exact loop 4 0 _ none none (by omega) (by omega) hs1 hb1 (fun k e a1 a2 a3 a4 a5 => by exfalso; omega)
set_option maxRecDepth 4000 in
theorem c_X6_papersOf (l : Launch) (sc : ZSc) (B : ZBk) (S Z : ZSg) (L : ZLn) (R : ZRd) (M : ZMd) (T K : Int → Int) (n nw q l1 : Int) (w k : Int) (hB : zBv T K n nw) (hL : zLk T K n nw q l1 M) (hl : -1 ≤ l1 ∧ l1 < n) (hk : 0 ≤ k ∧ k ≤ 2) (hw : 0 ≤ w ∧ w < nw) (hnw : nw ≤ 12) : zMet l m_X6_papersOf [zR 32, zI w, zI k] (zw sc B S Z L R M) (zI1 (zpg T (zcB K n l1 q) w k (l1 + 1).toNat) (zw sc B S Z L R M)) := by
  refine z_method g_X6_papersOf [some (zR 32), some (zI w), some (zI k), none, none] rfl rfl (fun V c => ?_)
  obtain ⟨hn, hT, -, hv, hno, hKs⟩ := id hB
  obtain ⟨hM, e1, hI, e2, e3, e4, e5⟩ := id hL
  have eN := hM.1
  have eW := hM.2.1
  have hst := zst_rng (T := T) (ct := (zcB K n l1 q)) (m := (l1 + 1).toNat) (nw := nw) (fun p h => hv p (by omega))
  refine z_go c 4 (s1 := (5, [some (zR 32), some (zI w), some (zI k), some (zI 0), some (zI 0)], [], (zw sc B S Z L R M), 0, 0)) rfl trivial ?_
  have loop : ∀ (x m : Nat) (a : Int), l1 + 1 - (m : Int) < (x : Int) → (m : Int) ≤ l1 + 1 → a = zpg T (zcB K n l1 q) w k m → V (5, [some (zR 32), some (zI w), some (zI k), some (zI a), some (zI ((m : Int)))], [], (zw sc B S Z L R M), 0, 0) := by
    intro x
    induction x with
    | zero => intro m a h1 h2; exfalso; omega
    | succ x ih =>
      intro m a hm1 hm2 ha
      refine z_br c 3 ((mLast M) < (m : Int)) (78, [some (zR 32), some (zI w), some (zI k), some (zI a), some (zI ((m : Int)))], [], (zw sc B S Z L R M), 0, 0) (14, [some (zR 32), some (zI w), some (zI k), some (zI a), some (zI ((m : Int)))], [], (zw sc B S Z L R M), 0, 0) rfl ⟨(show ((-2147483648 : Int) ≤ (m : Int) ∧ (m : Int) ≤ 2147483647) ∧ (-2147483648 : Int) ≤ (mLast M) ∧ (mLast M) ≤ 2147483647 by omega), trivial⟩ (fun h11 => ?_) (fun h11 => ?_)
      · exact z_re c 1 (v := some (zI a)) (h := (zw sc B S Z L R M)) (cs := 0) (ss := 0) rfl trivial trivial ⟨Nat.le_refl _, Nat.le_refl _⟩ ⟨by obtain rfl : m = (l1 + 1).toNat := (by omega); rw [ha], rfl⟩
      · have qi := hI (m : Int) (by omega) (by omega)
        have qs := hM.2.2.1 (m : Int) (by omega) (by omega)
        have qt := hT (m : Int) 0 (by omega) (by omega) (by omega) (by omega)
        refine z_br c 5 (((mIsIn M) ((m : Int))) = 0) (69, [some (zR 32), some (zI w), some (zI k), some (zI a), some (zI ((m : Int)))], [zI a], (zw sc B S Z L R M), 0, 0) (25, [some (zR 32), some (zI w), some (zI k), some (zI a), some (zI ((m : Int)))], [zI a], (zw sc B S Z L R M), 0, 0) rfl ⟨(show (-2147483648 : Int) ≤ ((mIsIn M) ((m : Int))) ∧ ((mIsIn M) ((m : Int))) ≤ 2147483647 by omega), (show (0 : Int) ≤ (m : Int) ∧ (m : Int) < 100 by omega), trivial⟩ (fun h22 => ?_) (fun h22 => ?_)
        · refine z_go c 3 (s1 := (72, [some (zR 32), some (zI w), some (zI k), some (zI ((a + 0))), some (zI ((m : Int)))], [], (zw sc B S Z L R M), 0, 0)) rfl trivial ?_
          exact z_go c 2 (s1 := (5, [some (zR 32), some (zI w), some (zI k), some (zI ((a + 0))), some (zI (((m : Int) + 1)))], [], (zw sc B S Z L R M), 0, 0)) rfl trivial (ih (m + 1) _ (by omega) (by omega) (by rw [ha]; exact zpg_no (fun z1 z2 z3 => by rcases qi with ⟨g, -⟩ | ⟨-, g⟩; omega; exact absurd z1 g)))
        · refine z_br c 5 (¬ ((mSort M) ((m : Int))) = 1) (69, [some (zR 32), some (zI w), some (zI k), some (zI a), some (zI ((m : Int)))], [zI a], (zw sc B S Z L R M), 0, 0) (36, [some (zR 32), some (zI w), some (zI k), some (zI a), some (zI ((m : Int)))], [zI a], (zw sc B S Z L R M), 0, 0) rfl ⟨(show ((-2147483648 : Int) ≤ ((mSort M) ((m : Int))) ∧ ((mSort M) ((m : Int))) ≤ 2147483647) ∧ (-2147483648 : Int) ≤ 1 ∧ 1 ≤ 2147483647 by omega), (show (0 : Int) ≤ (m : Int) ∧ (m : Int) < 100 by omega), trivial⟩ (fun h33 => ?_) (fun h33 => ?_)
          · refine z_go c 3 (s1 := (72, [some (zR 32), some (zI w), some (zI k), some (zI ((a + 0))), some (zI ((m : Int)))], [], (zw sc B S Z L R M), 0, 0)) rfl trivial ?_
            exact z_go c 2 (s1 := (5, [some (zR 32), some (zI w), some (zI k), some (zI ((a + 0))), some (zI (((m : Int) + 1)))], [], (zw sc B S Z L R M), 0, 0)) rfl trivial (ih (m + 1) _ (by omega) (by omega) (by rw [ha]; exact zpg_no (fun z1 z2 z3 => by rcases qi with ⟨g, -⟩ | ⟨-, g⟩; omega; exact absurd z1 g)))
          · have hvp := zvp_1 (hv m (by omega)) (by omega)
            refine z_cV c 3 k_6_77 zv_X6_get (pc := 43) (ls := [some (zR 32), some (zI w), some (zI k), some (zI a), some (zI ((m : Int)))]) (sk := [zI a]) (h := (zw sc B S Z L R M)) (cs := 0) (ss := 0) (c_X6_get l sc B S Z L R M ((m : Int)) 1 (by omega) (by omega)) rfl trivial rfl rfl ⟨Nat.le_refl _, Nat.le_refl _⟩ ?_
            rintro _ _ ⟨rfl, rfl⟩
            show V (43, [some (zR 32), some (zI w), some (zI k), some (zI a), some (zI ((m : Int)))], [zI (((mTold M) (12 * ((m : Int)) + 1))), zI a], (zw sc B S Z L R M), 0, 0)
            rw [hM.2.2.2 ((m : Int)) 1 (by omega) (by omega) (by omega) (by omega)]
            have q40 := hT ((m : Int)) 1 (by omega) (by omega) (by omega) (by omega)
            show V (43, [some (zR 32), some (zI w), some (zI k), some (zI a), some (zI ((m : Int)))], [zI ((T (((m : Int)) * 12 + 1))), zI a], (zw sc B S Z L R M), 0, 0)
            refine z_br c 1 (¬ (T (((m : Int)) * 12 + 1)) = w) (69, [some (zR 32), some (zI w), some (zI k), some (zI a), some (zI ((m : Int)))], [zI a], (zw sc B S Z L R M), 0, 0) (47, [some (zR 32), some (zI w), some (zI k), some (zI a), some (zI ((m : Int)))], [zI a], (zw sc B S Z L R M), 0, 0) rfl ⟨(show ((-2147483648 : Int) ≤ (T (((m : Int)) * 12 + 1)) ∧ (T (((m : Int)) * 12 + 1)) ≤ 2147483647) ∧ (-2147483648 : Int) ≤ w ∧ w ≤ 2147483647 by omega), trivial⟩ (fun h44 => ?_) (fun h44 => ?_)
            · refine z_go c 3 (s1 := (72, [some (zR 32), some (zI w), some (zI k), some (zI ((a + 0))), some (zI ((m : Int)))], [], (zw sc B S Z L R M), 0, 0)) rfl trivial ?_
              exact z_go c 2 (s1 := (5, [some (zR 32), some (zI w), some (zI k), some (zI ((a + 0))), some (zI (((m : Int) + 1)))], [], (zw sc B S Z L R M), 0, 0)) rfl trivial (ih (m + 1) _ (by omega) (by omega) (by rw [ha]; exact zpg_no (fun z1 z2 z3 => by rcases qi with ⟨g, -⟩ | ⟨-, g⟩; omega; exact absurd z1 g)))
            · refine z_cV c 3 k_6_77 zv_X6_get (pc := 54) (ls := [some (zR 32), some (zI w), some (zI k), some (zI a), some (zI ((m : Int)))]) (sk := [zI a]) (h := (zw sc B S Z L R M)) (cs := 0) (ss := 0) (c_X6_get l sc B S Z L R M ((m : Int)) 2 (by omega) (by omega)) rfl trivial rfl rfl ⟨Nat.le_refl _, Nat.le_refl _⟩ ?_
              rintro _ _ ⟨rfl, rfl⟩
              show V (54, [some (zR 32), some (zI w), some (zI k), some (zI a), some (zI ((m : Int)))], [zI (((mTold M) (12 * ((m : Int)) + 2))), zI a], (zw sc B S Z L R M), 0, 0)
              rw [hM.2.2.2 ((m : Int)) 2 (by omega) (by omega) (by omega) (by omega)]
              have q51 := hT ((m : Int)) 2 (by omega) (by omega) (by omega) (by omega)
              show V (54, [some (zR 32), some (zI w), some (zI k), some (zI a), some (zI ((m : Int)))], [zI ((T (((m : Int)) * 12 + 2))), zI a], (zw sc B S Z L R M), 0, 0)
              refine z_br c 1 ((T (((m : Int)) * 12 + 2)) < k) (69, [some (zR 32), some (zI w), some (zI k), some (zI a), some (zI ((m : Int)))], [zI a], (zw sc B S Z L R M), 0, 0) (58, [some (zR 32), some (zI w), some (zI k), some (zI a), some (zI ((m : Int)))], [zI a], (zw sc B S Z L R M), 0, 0) rfl ⟨(show ((-2147483648 : Int) ≤ (T (((m : Int)) * 12 + 2)) ∧ (T (((m : Int)) * 12 + 2)) ≤ 2147483647) ∧ (-2147483648 : Int) ≤ k ∧ k ≤ 2147483647 by omega), trivial⟩ (fun h55 => ?_) (fun h55 => ?_)
              · refine z_go c 3 (s1 := (72, [some (zR 32), some (zI w), some (zI k), some (zI ((a + 0))), some (zI ((m : Int)))], [], (zw sc B S Z L R M), 0, 0)) rfl trivial ?_
                exact z_go c 2 (s1 := (5, [some (zR 32), some (zI w), some (zI k), some (zI ((a + 0))), some (zI (((m : Int) + 1)))], [], (zw sc B S Z L R M), 0, 0)) rfl trivial (ih (m + 1) _ (by omega) (by omega) (by rw [ha]; exact zpg_no (fun z1 z2 z3 => by rcases qi with ⟨g, -⟩ | ⟨-, g⟩; omega; exact absurd z1 g)))
              · refine z_cV c 3 k_6_77 zv_X6_get (pc := 66) (ls := [some (zR 32), some (zI w), some (zI k), some (zI a), some (zI ((m : Int)))]) (sk := [zI a]) (h := (zw sc B S Z L R M)) (cs := 0) (ss := 0) (c_X6_get l sc B S Z L R M ((m : Int)) 6 (by omega) (by omega)) rfl trivial rfl rfl ⟨Nat.le_refl _, Nat.le_refl _⟩ ?_
                rintro _ _ ⟨rfl, rfl⟩
                show V (66, [some (zR 32), some (zI w), some (zI k), some (zI a), some (zI ((m : Int)))], [zI (((mTold M) (12 * ((m : Int)) + 6))), zI a], (zw sc B S Z L R M), 0, 0)
                rw [hM.2.2.2 ((m : Int)) 6 (by omega) (by omega) (by omega) (by omega)]
                have q63 := hT ((m : Int)) 6 (by omega) (by omega) (by omega) (by omega)
                show V (66, [some (zR 32), some (zI w), some (zI k), some (zI a), some (zI ((m : Int)))], [zI ((T (((m : Int)) * 12 + 6))), zI a], (zw sc B S Z L R M), 0, 0)
                refine z_go c 3 (s1 := (72, [some (zR 32), some (zI w), some (zI k), some (zI ((a + (T (((m : Int)) * 12 + 6))))), some (zI ((m : Int)))], [], (zw sc B S Z L R M), 0, 0)) rfl trivial ?_
                exact z_go c 2 (s1 := (5, [some (zR 32), some (zI w), some (zI k), some (zI ((a + (T (((m : Int)) * 12 + 6))))), some (zI (((m : Int) + 1)))], [], (zw sc B S Z L R M), 0, 0)) rfl trivial (ih (m + 1) _ (by omega) (by omega) (by rw [ha]; exact zpg_add (by rcases qi with ⟨-, g⟩ | ⟨g, -⟩; exact g; exfalso; omega) (by omega) (by omega) (by omega)))
  exact loop 102 0 _ (by omega) (by omega) rfl
