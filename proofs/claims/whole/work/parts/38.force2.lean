/-! the model: by what a way is in force -/
theorem zlt_in (H : Int → Bool) : ∀ n : Nat, zlt H n = -9 ∨ ((0 ≤ zlt H n ∧ zlt H n < (n : Int)) ∧ H (zlt H n) = true)
  | 0 => Or.inl rfl
  | n + 1 => by
    unfold zlt
    split
    · rename_i h
      exact Or.inr ⟨by omega, h⟩
    · rcases zlt_in H n with h | ⟨h1, h2⟩
      · exact Or.inl h
      · exact Or.inr ⟨by omega, h2⟩
theorem zlt_ge {H : Int → Bool} {e : Nat} (he : H (e : Int) = true) : ∀ n : Nat, e < n → (e : Int) ≤ zlt H n
  | 0, h => by omega
  | n + 1, h => by
    unfold zlt
    split
    · omega
    · rename_i g
      exact zlt_ge he n (by
        rcases (show e < n ∨ e = n by omega) with h1 | h1
        · exact h1
        · subst h1; exact absurd he g)
/-- the latest good one of the first orders -/
def zlm (T O I : Int → Int) (y : Int) : Nat → Int
  | 0 => -9
  | k + 1 => if I (k : Int) = 1 ∧ T (O (k : Int) * 12 + 3) ≤ y then O (k : Int) else zlm T O I y k
theorem zlm_rng {T O I : Int → Int} {y n : Int} : ∀ k : Nat, (∀ j : Nat, j < k → 0 ≤ O (j : Int) ∧ O (j : Int) < n) → zlm T O I y k = -9 ∨ (0 ≤ zlm T O I y k ∧ zlm T O I y k < n)
  | 0, _ => Or.inl rfl
  | k + 1, h => by
    unfold zlm
    split
    · exact Or.inr (h k (by omega))
    · exact zlm_rng k (fun j a => h j (by omega))
theorem zlm_yes {T O I : Int → Int} {y a : Int} {k : Nat} (h1 : I (k : Int) = 1) (h2 : T (O (k : Int) * 12 + 3) ≤ y) (ha : a = O (k : Int)) : a = zlm T O I y (k + 1) := by
  show a = (if _ then _ else _)
  rw [if_pos ⟨h1, h2⟩]; exact ha
theorem zlm_no {T O I : Int → Int} {y a : Int} {k : Nat} (h : ¬ (I (k : Int) = 1 ∧ T (O (k : Int) * 12 + 3) ≤ y)) (ha : a = zlm T O I y k) : a = zlm T O I y (k + 1) := by
  show a = (if _ then _ else _)
  rw [if_neg h]; exact ha
def zGm (T : Int → Int) (n : Int) (ct : Int → Bool) (w : Int) (m : Nat) (la k y : Int) : Int := zgr2 T n la (zVW T ct w m) (zVB T ct w m) (zVN T ct m) (zVP T ct m) (zVG T ct m) (zVS T ct w m) (zVn T ct m) k y
theorem zGm_3 {T : Int → Int} {n : Int} {ct : Int → Bool} {w : Int} {m : Nat} {la k y : Int} (hl : 0 ≤ la ∧ la < n) (h1 : T (la * 12 + 0) = 4) (h2 : k ≤ T (la * 12 + 2)) : (3 : Int) = zGm T n ct w m la k y := by
  unfold zGm zgr2
  rw [zrd_in ⟨hl, by omega, by omega⟩, zrd_in ⟨hl, by omega, by omega⟩, if_pos ⟨h1, h2⟩]
theorem zGm_2 {T : Int → Int} {n nw : Int} {ct : Int → Bool} {w : Int} {m : Nat} {la k y : Int} (hv : ∀ p : Nat, p < m → zvp T nw (p : Int)) (hk : 0 ≤ k ∧ k ≤ 2) (hl : la = -9) (h : zVn T ct m ≤ zpg T ct w k m) : (2 : Int) = zGm T n ct w m la k y := by
  unfold zGm zgr2
  subst hl
  rw [zrd_out (by omega), if_neg (by omega), if_pos ⟨rfl, by rw [show zwk (zVS T ct w m) k = zpg T ct w k m from zpx_all hk m hv]; exact h⟩]
theorem zGm_n3 {T : Int → Int} {n : Int} {la k : Int} (hl : la = -9 ∨ (0 ≤ la ∧ la < n)) (h : la = -9 ∨ ¬ T (la * 12 + 0) = 4 ∨ T (la * 12 + 2) < k) : ¬ (zrd T n la 0 = 4 ∧ k ≤ zrd T n la 2) := by
  rintro ⟨h1, h2⟩
  rcases hl with e | e
  · rw [zrd_out (by omega)] at h1
    omega
  · rw [zrd_in ⟨e, by omega, by omega⟩] at h1 h2
    omega
theorem zGm_1 {T : Int → Int} {n nw : Int} {ct : Int → Bool} {w : Int} {m : Nat} {la k y bh e : Int} (hv : ∀ p : Nat, p < m → zvp T nw (p : Int)) (hk : 0 ≤ k ∧ k ≤ 2) (hl : la = -9 ∨ (0 ≤ la ∧ la < n)) (h3 : ¬ (zrd T n la 0 = 4 ∧ k ≤ zrd T n la 2)) (h2 : ¬ (la = -9 ∧ zVn T ct m ≤ zpg T ct w k m)) (hb : (la = -9 ∧ bh = -1) ∨ (¬ la = -9 ∧ bh = T (la * 12 + 3))) (hy : 0 ≤ y) (he : 0 ≤ e ∧ e ≤ y) (hh : zHo T ct w m k e = true) (hg : bh < e - zVN T ct m + 1) : (1 : Int) = zGm T n ct w m la k y := by
  unfold zGm zgr2
  rw [if_neg h3, if_neg (fun z => h2 ⟨z.1, by rw [← show zwk (zVS T ct w m) k = zpg T ct w k m from zpx_all hk m hv]; exact z.2⟩)]
  have h5 : e ≤ zld (zhold (zps (zVW T ct w m) k) (zVB T ct w m) (zVP T ct m) (zVN T ct m) (zVG T ct m)) y := by
    have h6 := zlt_ge (H := zHo T ct w m k) (e := e.toNat) (by rw [show ((e.toNat : Nat) : Int) = e by omega]; exact hh) (y.toNat + 1) (by omega)
    rw [show ((e.toNat : Nat) : Int) = e by omega] at h6
    exact h6
  have h7 : zrd T n la 3 ≤ bh := by
    rcases hb with ⟨a, b⟩ | ⟨a, b⟩
    · rw [zrd_out (by omega)]; omega
    · rw [zrd_in ⟨by omega, by omega, by omega⟩]; omega
  rw [if_pos ⟨by omega, by omega⟩]
theorem zGm_0 {T : Int → Int} {n nw : Int} {ct : Int → Bool} {w : Int} {m : Nat} {la k y bh : Int} (hv : ∀ p : Nat, p < m → zvp T nw (p : Int)) (hk : 0 ≤ k ∧ k ≤ 2) (hl : la = -9 ∨ (0 ≤ la ∧ la < n)) (h3 : ¬ (zrd T n la 0 = 4 ∧ k ≤ zrd T n la 2)) (h2 : ¬ (la = -9 ∧ zVn T ct m ≤ zpg T ct w k m)) (hb : (la = -9 ∧ bh = -1) ∨ (¬ la = -9 ∧ bh = T (la * 12 + 3))) (hy : 0 ≤ y) (hh : ∀ e : Nat, (e : Int) ≤ y → zHo T ct w m k (e : Int) = true → (e : Int) - zVN T ct m + 1 ≤ bh) : (0 : Int) = zGm T n ct w m la k y := by
  unfold zGm zgr2
  rw [if_neg h3, if_neg (fun z => h2 ⟨z.1, by rw [← show zwk (zVS T ct w m) k = zpg T ct w k m from zpx_all hk m hv]; exact z.2⟩)]
  rw [if_neg]
  rintro ⟨a1, a2⟩
  rcases zlt_in (zHo T ct w m k) (y.toNat + 1) with h | ⟨h, g⟩
  · exact a1 h
  · have h8 := hh (zlt (zHo T ct w m k) (y.toNat + 1)).toNat (by omega) (by rw [show (((zlt (zHo T ct w m k) (y.toNat + 1)).toNat : Nat) : Int) = zlt (zHo T ct w m k) (y.toNat + 1) by omega]; exact g)
    rw [show (((zlt (zHo T ct w m k) (y.toNat + 1)).toNat : Nat) : Int) = zlt (zHo T ct w m k) (y.toNat + 1) by omega] at h8
    have h9 : zrd T n la 3 < zlt (zHo T ct w m k) (y.toNat + 1) - zVN T ct m + 1 := a2
    rcases hb with ⟨a, b⟩ | ⟨a, b⟩
    · unfold zHo at g
      unfold zhold at g
      rw [decide_eq_true_iff] at g
      change zlt (zHo T ct w m k) (y.toNat + 1) - zVN T ct m + 1 ≤ bh at h8
      have g1 : 0 ≤ zlt (zHo T ct w m k) (y.toNat + 1) - zVN T ct m + 1 := g.1
      omega
    · rw [zrd_in ⟨by omega, by omega, by omega⟩] at h9
      omega
/-- what an order has told -/
theorem zGm_rng (T : Int → Int) (n : Int) (ct : Int → Bool) (w : Int) (m : Nat) (la k y : Int) : 0 ≤ zGm T n ct w m la k y ∧ zGm T n ct w m la k y ≤ 3 := by
  unfold zGm zgr2
  split
  · omega
  · split
    · omega
    · split <;> omega
set_option maxRecDepth 4000 in
theorem c_X6_isAhead (l : Launch) (sc : ZSc) (B : ZBk) (S Z : ZSg) (L : ZLn) (R : ZRd) (M : ZMd) (T K : Int → Int) (n nw : Int) (p q : Int) (hB : zBv T K n nw) (hM : zMr T n nw M) (hp : 0 ≤ p ∧ p < n) (hq : 0 ≤ q ∧ q < n) : zMet l m_X6_isAhead [zR 32, zI p, zI q] (zw sc B S Z L R M) (zIb (T (p * 12 + 3) < T (q * 12 + 3) ∨ (T (p * 12 + 3) = T (q * 12 + 3) ∧ p < q)) (zw sc B S Z L R M)) := by
  refine z_method g_X6_isAhead [some (zR 32), some (zI p), some (zI q)] rfl rfl (fun V c => ?_)
  obtain ⟨hn, hT, -, hv, hno, hKs⟩ := id hB
  have eN := hM.1
  have eW := hM.2.1
  refine z_cV c 3 k_6_77 zv_X6_get (pc := 6) (ls := [some (zR 32), some (zI p), some (zI q)]) (sk := []) (h := (zw sc B S Z L R M)) (cs := 0) (ss := 0) (c_X6_get l sc B S Z L R M p 3 (by omega) (by omega)) rfl trivial rfl rfl ⟨Nat.le_refl _, Nat.le_refl _⟩ ?_
  rintro _ _ ⟨rfl, rfl⟩
  show V (6, [some (zR 32), some (zI p), some (zI q)], [zI (((mTold M) (12 * p + 3)))], (zw sc B S Z L R M), 0, 0)
  rw [hM.2.2.2 p 3 (by omega) (by omega) (by omega) (by omega)]
  have q3 := hT p 3 (by omega) (by omega) (by omega) (by omega)
  show V (6, [some (zR 32), some (zI p), some (zI q)], [zI ((T (p * 12 + 3)))], (zw sc B S Z L R M), 0, 0)
  refine z_cV c 3 k_6_77 zv_X6_get (pc := 12) (ls := [some (zR 32), some (zI p), some (zI q)]) (sk := [zI ((T (p * 12 + 3)))]) (h := (zw sc B S Z L R M)) (cs := 0) (ss := 0) (c_X6_get l sc B S Z L R M q 3 (by omega) (by omega)) rfl trivial rfl rfl ⟨Nat.le_refl _, Nat.le_refl _⟩ ?_
  rintro _ _ ⟨rfl, rfl⟩
  show V (12, [some (zR 32), some (zI p), some (zI q)], [zI (((mTold M) (12 * q + 3))), zI ((T (p * 12 + 3)))], (zw sc B S Z L R M), 0, 0)
  rw [hM.2.2.2 q 3 (by omega) (by omega) (by omega) (by omega)]
  have q9 := hT q 3 (by omega) (by omega) (by omega) (by omega)
  show V (12, [some (zR 32), some (zI p), some (zI q)], [zI ((T (q * 12 + 3))), zI ((T (p * 12 + 3)))], (zw sc B S Z L R M), 0, 0)
  refine z_br c 0 ((T (p * 12 + 3)) < (T (q * 12 + 3))) (35, [some (zR 32), some (zI p), some (zI q)], [], (zw sc B S Z L R M), 0, 0) (15, [some (zR 32), some (zI p), some (zI q)], [], (zw sc B S Z L R M), 0, 0) rfl ⟨(show ((-2147483648 : Int) ≤ (T (p * 12 + 3)) ∧ (T (p * 12 + 3)) ≤ 2147483647) ∧ (-2147483648 : Int) ≤ (T (q * 12 + 3)) ∧ (T (q * 12 + 3)) ≤ 2147483647 by omega), trivial⟩ (fun h12 => ?_) (fun h12 => ?_)
  · exact z_re c 2 (v := some (zI 1)) (h := (zw sc B S Z L R M)) (cs := 0) (ss := 0) rfl trivial (Or.inr rfl) ⟨Nat.le_refl _, Nat.le_refl _⟩ ⟨_, rfl, Or.inl ⟨by omega, rfl⟩, rfl⟩
  · refine z_cV c 3 k_6_77 zv_X6_get (pc := 21) (ls := [some (zR 32), some (zI p), some (zI q)]) (sk := []) (h := (zw sc B S Z L R M)) (cs := 0) (ss := 0) (c_X6_get l sc B S Z L R M p 3 (by omega) (by omega)) rfl trivial rfl rfl ⟨Nat.le_refl _, Nat.le_refl _⟩ ?_
    rintro _ _ ⟨rfl, rfl⟩
    show V (21, [some (zR 32), some (zI p), some (zI q)], [zI (((mTold M) (12 * p + 3)))], (zw sc B S Z L R M), 0, 0)
    rw [hM.2.2.2 p 3 (by omega) (by omega) (by omega) (by omega)]
    have q18 := hT p 3 (by omega) (by omega) (by omega) (by omega)
    show V (21, [some (zR 32), some (zI p), some (zI q)], [zI ((T (p * 12 + 3)))], (zw sc B S Z L R M), 0, 0)
    refine z_cV c 3 k_6_77 zv_X6_get (pc := 27) (ls := [some (zR 32), some (zI p), some (zI q)]) (sk := [zI ((T (p * 12 + 3)))]) (h := (zw sc B S Z L R M)) (cs := 0) (ss := 0) (c_X6_get l sc B S Z L R M q 3 (by omega) (by omega)) rfl trivial rfl rfl ⟨Nat.le_refl _, Nat.le_refl _⟩ ?_
    rintro _ _ ⟨rfl, rfl⟩
    show V (27, [some (zR 32), some (zI p), some (zI q)], [zI (((mTold M) (12 * q + 3))), zI ((T (p * 12 + 3)))], (zw sc B S Z L R M), 0, 0)
    rw [hM.2.2.2 q 3 (by omega) (by omega) (by omega) (by omega)]
    have q24 := hT q 3 (by omega) (by omega) (by omega) (by omega)
    show V (27, [some (zR 32), some (zI p), some (zI q)], [zI ((T (q * 12 + 3))), zI ((T (p * 12 + 3)))], (zw sc B S Z L R M), 0, 0)
    refine z_br c 0 (¬ (T (p * 12 + 3)) = (T (q * 12 + 3))) (39, [some (zR 32), some (zI p), some (zI q)], [], (zw sc B S Z L R M), 0, 0) (30, [some (zR 32), some (zI p), some (zI q)], [], (zw sc B S Z L R M), 0, 0) rfl ⟨(show ((-2147483648 : Int) ≤ (T (p * 12 + 3)) ∧ (T (p * 12 + 3)) ≤ 2147483647) ∧ (-2147483648 : Int) ≤ (T (q * 12 + 3)) ∧ (T (q * 12 + 3)) ≤ 2147483647 by omega), trivial⟩ (fun h27 => ?_) (fun h27 => ?_)
    · exact z_re c 1 (v := some (zI 0)) (h := (zw sc B S Z L R M)) (cs := 0) (ss := 0) rfl trivial (Or.inl rfl) ⟨Nat.le_refl _, Nat.le_refl _⟩ ⟨_, rfl, Or.inr ⟨by omega, rfl⟩, rfl⟩
    · refine z_br c 2 (q ≤ p) (39, [some (zR 32), some (zI p), some (zI q)], [], (zw sc B S Z L R M), 0, 0) (35, [some (zR 32), some (zI p), some (zI q)], [], (zw sc B S Z L R M), 0, 0) rfl ⟨(show ((-2147483648 : Int) ≤ p ∧ p ≤ 2147483647) ∧ (-2147483648 : Int) ≤ q ∧ q ≤ 2147483647 by omega), trivial⟩ (fun h32 => ?_) (fun h32 => ?_)
      · exact z_re c 1 (v := some (zI 0)) (h := (zw sc B S Z L R M)) (cs := 0) (ss := 0) rfl trivial (Or.inl rfl) ⟨Nat.le_refl _, Nat.le_refl _⟩ ⟨_, rfl, Or.inr ⟨by omega, rfl⟩, rfl⟩
      · exact z_re c 2 (v := some (zI 1)) (h := (zw sc B S Z L R M)) (cs := 0) (ss := 0) rfl trivial (Or.inr rfl) ⟨Nat.le_refl _, Nat.le_refl _⟩ ⟨_, rfl, Or.inl ⟨by omega, rfl⟩, rfl⟩
set_option maxRecDepth 4000 in
theorem c_X6_forceOf (l : Launch) (sc : ZSc) (B : ZBk) (S Z : ZSg) (L : ZLn) (R : ZRd) (M : ZMd) (T K : Int → Int) (n nw q l1 : Int) (w k y : Int) (hB : zBv T K n nw) (hL : zLk T K n nw q l1 M) (hl : -1 ≤ l1 ∧ l1 < n) (hk : 0 ≤ k ∧ k ≤ 2) (hw : 0 ≤ w ∧ w < nw) (hy : 0 ≤ y ∧ y ≤ 100) (hnw : nw ≤ 12) (hS : zSn T (zcB K n l1 q) w (l1 + 1).toNat 303 (mHolds M)) (hmy : 0 ≤ mMany M ∧ mMany M ≤ 20) (hO : ∀ j : Nat, (j : Int) < mMany M → 0 ≤ mOrder M (j : Int) ∧ mOrder M (j : Int) < n) (hI : ∀ j : Nat, (j : Int) < mMany M → mIsGood M (j : Int) = 0 ∨ mIsGood M (j : Int) = 1) : zMet l m_X6_forceOf [zR 32, zI w, zI k, zI y] (zw sc B S Z L R M) (zI1 (zGm T n (zcB K n l1 q) w (l1 + 1).toNat (zlm T (mOrder M) (mIsGood M) y (mMany M).toNat) k y) (zw sc B S Z L R M)) := by
  refine z_method g_X6_forceOf [some (zR 32), some (zI w), some (zI k), some (zI y), none, none, none] rfl rfl (fun V c => ?_)
  obtain ⟨hn, hT, -, hv, hno, hKs⟩ := id hB
  obtain ⟨hM, e1, hII, e2, e3, e4, e5⟩ := id hL
  have eN := hM.1
  have eW := hM.2.1
  have hst := zst_rng (T := T) (ct := (zcB K n l1 q)) (m := (l1 + 1).toNat) (nw := nw) (fun p h => hv p (by omega))
  refine z_go c 4 (s1 := (7, [some (zR 32), some (zI w), some (zI k), some (zI y), some (zI ((-9))), some (zI 0), none], [], (zw sc B S Z L R M), 0, 0)) rfl trivial ?_
  have loop : ∀ (x m : Nat) (la : Int), mMany M - (m : Int) < (x : Int) → (m : Int) ≤ mMany M → la = zlm T (mOrder M) (mIsGood M) y m → V (7, [some (zR 32), some (zI w), some (zI k), some (zI y), some (zI la), some (zI ((m : Int))), none], [], (zw sc B S Z L R M), 0, 0) := by
    intro x
    induction x with
    | zero => intro m la h1 h2; exfalso; omega
    | succ x ih =>
      intro m la hm1 hm2 hla
      refine z_br c 3 ((mMany M) ≤ (m : Int)) (62, [some (zR 32), some (zI w), some (zI k), some (zI y), some (zI la), some (zI ((m : Int))), none], [], (zw sc B S Z L R M), 0, 0) (16, [some (zR 32), some (zI w), some (zI k), some (zI y), some (zI la), some (zI ((m : Int))), none], [], (zw sc B S Z L R M), 0, 0) rfl ⟨(show ((-2147483648 : Int) ≤ (m : Int) ∧ (m : Int) ≤ 2147483647) ∧ (-2147483648 : Int) ≤ (mMany M) ∧ (mMany M) ≤ 2147483647 by omega), trivial⟩ (fun h13 => ?_) (fun h13 => ?_)
      · obtain rfl : m = (mMany M).toNat := by omega
        clear ih
        have hlr := zlm_rng (T := T) (O := mOrder M) (I := mIsGood M) (y := y) (n := n) (mMany M).toNat (fun j h => hO j (by omega))
        rw [← hla] at hlr
        generalize some (zI (((mMany M).toNat : Nat) : Int)) = x5
        have j133 : ∀ bh : Int, ¬ (zrd T n la 0 = 4 ∧ k ≤ zrd T n la 2) → ¬ (la = -9 ∧ zVn T (zcB K n l1 q) (l1 + 1).toNat ≤ zpg T (zcB K n l1 q) w k (l1 + 1).toNat) → ((la = -9 ∧ bh = -1) ∨ (¬ la = -9 ∧ bh = T (la * 12 + 3))) → -9 ≤ bh ∧ bh ≤ 1000 → V (133, [some (zR 32), some (zI w), some (zI k), some (zI y), some (zI la), x5, none], [zI bh], (zw sc B S Z L R M), 0, 0) := by
          intro bh hz3 hz2 hbh hbr
          refine z_go c 3 (s1 := (138, [some (zR 32), some (zI w), some (zI k), some (zI y), some (zI la), some (zI bh), some (zI 0)], [], (zw sc B S Z L R M), 0, 0)) rfl trivial ?_
          have loop2 : ∀ (x e : Nat), y + 1 - (e : Int) < (x : Int) → (e : Int) ≤ y + 1 → (∀ e2 : Nat, e2 < e → zHo T (zcB K n l1 q) w (l1 + 1).toNat k (e2 : Int) = true → (e2 : Int) - zVN T (zcB K n l1 q) (l1 + 1).toNat + 1 ≤ bh) → V (138, [some (zR 32), some (zI w), some (zI k), some (zI y), some (zI la), some (zI bh), some (zI ((e : Int)))], [], (zw sc B S Z L R M), 0, 0) := by
            intro x
            induction x with
            | zero => intro e h1 h2; exfalso; omega
            | succ x ih2 =>
              intro e he1 he2 hE
              refine z_br c 2 (y < (e : Int)) (181, [some (zR 32), some (zI w), some (zI k), some (zI y), some (zI la), some (zI bh), some (zI ((e : Int)))], [], (zw sc B S Z L R M), 0, 0) (144, [some (zR 32), some (zI w), some (zI k), some (zI y), some (zI la), some (zI bh), some (zI ((e : Int)))], [], (zw sc B S Z L R M), 0, 0) rfl ⟨(show ((-2147483648 : Int) ≤ (e : Int) ∧ (e : Int) ≤ 2147483647) ∧ (-2147483648 : Int) ≤ y ∧ y ≤ 2147483647 by omega), trivial⟩ (fun h141 => ?_) (fun h141 => ?_)
              · exact z_re c 1 (v := some (zI 0)) (h := (zw sc B S Z L R M)) (cs := 0) (ss := 0) rfl trivial trivial ⟨Nat.le_refl _, Nat.le_refl _⟩ ⟨by rw [← hla]; exact congrArg (fun z => some (zI z)) (zGm_0 (fun p h => hv p (by omega)) hk hlr hz3 hz2 hbh (by omega) (fun e2 h z => hE e2 (by omega) z)), rfl⟩
              · have hs := hS k (e : Int) hk.1 hk.2 (by omega) (by omega) (by omega)
                refine z_br c 8 (((mHolds M) (((101 * k) + (e : Int)))) = 0) (175, [some (zR 32), some (zI w), some (zI k), some (zI y), some (zI la), some (zI bh), some (zI ((e : Int)))], [], (zw sc B S Z L R M), 0, 0) (159, [some (zR 32), some (zI w), some (zI k), some (zI y), some (zI la), some (zI bh), some (zI ((e : Int)))], [], (zw sc B S Z L R M), 0, 0) rfl ⟨(show (-2147483648 : Int) ≤ ((mHolds M) (((101 * k) + (e : Int)))) ∧ ((mHolds M) (((101 * k) + (e : Int)))) ≤ 2147483647 by omega), (show (0 : Int) ≤ ((101 * k) + (e : Int)) ∧ ((101 * k) + (e : Int)) < 303 by omega), trivial⟩ (fun h156 => ?_) (fun h156 => ?_)
                · exact z_go c 2 (s1 := (138, [some (zR 32), some (zI w), some (zI k), some (zI y), some (zI la), some (zI bh), some (zI (((e : Int) + 1)))], [], (zw sc B S Z L R M), 0, 0)) rfl trivial (ih2 (e + 1) (by omega) (by omega) (fun e2 h z => by
                    rcases (show e2 < e ∨ e2 = e by omega) with g | g
                    · exact hE e2 g z
                    · subst g
                      rcases hs with ⟨g1, g2⟩ | ⟨g1, g2⟩
                      · omega
                      · exact absurd z g2))
                · refine z_br c 7 ((((e : Int) - (mNeeds M)) + 1) ≤ bh) (175, [some (zR 32), some (zI w), some (zI k), some (zI y), some (zI la), some (zI bh), some (zI ((e : Int)))], [], (zw sc B S Z L R M), 0, 0) (173, [some (zR 32), some (zI w), some (zI k), some (zI y), some (zI la), some (zI bh), some (zI ((e : Int)))], [], (zw sc B S Z L R M), 0, 0) rfl ⟨(show ((-2147483648 : Int) ≤ (((e : Int) - (mNeeds M)) + 1) ∧ (((e : Int) - (mNeeds M)) + 1) ≤ 2147483647) ∧ (-2147483648 : Int) ≤ bh ∧ bh ≤ 2147483647 by omega), trivial⟩ (fun h170 => ?_) (fun h170 => ?_)
                  · exact z_go c 2 (s1 := (138, [some (zR 32), some (zI w), some (zI k), some (zI y), some (zI la), some (zI bh), some (zI (((e : Int) + 1)))], [], (zw sc B S Z L R M), 0, 0)) rfl trivial (ih2 (e + 1) (by omega) (by omega) (fun e2 h z => by
                      rcases (show e2 < e ∨ e2 = e by omega) with g | g
                      · exact hE e2 g z
                      · subst g
                        rcases hs with ⟨g1, g2⟩ | ⟨g1, g2⟩
                        · omega
                        · exact absurd z g2))
                  · exact z_re c 1 (v := some (zI 1)) (h := (zw sc B S Z L R M)) (cs := 0) (ss := 0) rfl trivial trivial ⟨Nat.le_refl _, Nat.le_refl _⟩ ⟨by rw [← hla]; exact congrArg (fun z => some (zI z)) (zGm_1 (e := (e : Int)) (fun p h => hv p (by omega)) hk hlr hz3 hz2 hbh (by omega) (by omega) (by rcases hs with ⟨g1, g2⟩ | ⟨g1, g2⟩; exact g2; exfalso; omega) (by omega)), rfl⟩
          exact loop2 103 0 (by omega) (by omega) (fun e2 h => absurd h (Nat.not_lt_zero _))
        have j93 : ¬ (zrd T n la 0 = 4 ∧ k ≤ zrd T n la 2) → V (93, [some (zR 32), some (zI w), some (zI k), some (zI y), some (zI la), x5, none], [], (zw sc B S Z L R M), 0, 0) := by
          intro hz3
          refine z_br c 2 (¬ la = (-9)) (115, [some (zR 32), some (zI w), some (zI k), some (zI y), some (zI la), x5, none], [], (zw sc B S Z L R M), 0, 0) (100, [some (zR 32), some (zI w), some (zI k), some (zI y), some (zI la), x5, none], [], (zw sc B S Z L R M), 0, 0) rfl ⟨(show ((-2147483648 : Int) ≤ la ∧ la ≤ 2147483647) ∧ (-2147483648 : Int) ≤ (-9) ∧ (-9) ≤ 2147483647 by omega), trivial⟩ (fun h97 => ?_) (fun h97 => ?_)
          · refine z_br c 2 (¬ la = (-9)) (126, [some (zR 32), some (zI w), some (zI k), some (zI y), some (zI la), x5, none], [], (zw sc B S Z L R M), 0, 0) (122, [some (zR 32), some (zI w), some (zI k), some (zI y), some (zI la), x5, none], [], (zw sc B S Z L R M), 0, 0) rfl ⟨(show ((-2147483648 : Int) ≤ la ∧ la ≤ 2147483647) ∧ (-2147483648 : Int) ≤ (-9) ∧ (-9) ≤ 2147483647 by omega), trivial⟩ (fun h119 => ?_) (fun h119 => ?_)
            · refine z_cV c 3 k_6_77 zv_X6_get (pc := 133) (ls := [some (zR 32), some (zI w), some (zI k), some (zI y), some (zI la), x5, none]) (sk := []) (h := (zw sc B S Z L R M)) (cs := 0) (ss := 0) (c_X6_get l sc B S Z L R M la 3 (by omega) (by omega)) rfl trivial rfl rfl ⟨Nat.le_refl _, Nat.le_refl _⟩ ?_
              rintro _ _ ⟨rfl, rfl⟩
              show V (133, [some (zR 32), some (zI w), some (zI k), some (zI y), some (zI la), x5, none], [zI (((mTold M) (12 * la + 3)))], (zw sc B S Z L R M), 0, 0)
              rw [hM.2.2.2 la 3 (by omega) (by omega) (by omega) (by omega)]
              have q130 := hT la 3 (by omega) (by omega) (by omega) (by omega)
              show V (133, [some (zR 32), some (zI w), some (zI k), some (zI y), some (zI la), x5, none], [zI ((T (la * 12 + 3)))], (zw sc B S Z L R M), 0, 0)
              exact j133 _ hz3 (by omega) (by omega) (by omega)
            · refine z_go c 2 (s1 := (133, [some (zR 32), some (zI w), some (zI k), some (zI y), some (zI la), x5, none], [zI ((-1))], (zw sc B S Z L R M), 0, 0)) rfl trivial ?_
              exact j133 _ hz3 (by omega) (by omega) (by omega)
          · refine z_cV c 3 k_6_122 zv_X6_papersOf (pc := 106) (ls := [some (zR 32), some (zI w), some (zI k), some (zI y), some (zI la), x5, none]) (sk := []) (h := (zw sc B S Z L R M)) (cs := 0) (ss := 0) (c_X6_papersOf l sc B S Z L R M T K n nw q l1 w k hB hL hl hk hw hnw) rfl trivial rfl rfl ⟨Nat.le_refl _, Nat.le_refl _⟩ ?_
            rintro _ _ ⟨rfl, rfl⟩
            have hpr := zpg_rng (T := T) (ct := (zcB K n l1 q)) (w := w) (k := k) (nw := nw) (l1 + 1).toNat (fun p h => hv p (by omega))
            show V (106, [some (zR 32), some (zI w), some (zI k), some (zI y), some (zI la), x5, none], [zI ((zpg T (zcB K n l1 q) w k (l1 + 1).toNat))], (zw sc B S Z L R M), 0, 0)
            refine z_br c 2 ((zpg T (zcB K n l1 q) w k (l1 + 1).toNat) < (mWeight M)) (115, [some (zR 32), some (zI w), some (zI k), some (zI y), some (zI la), x5, none], [], (zw sc B S Z L R M), 0, 0) (113, [some (zR 32), some (zI w), some (zI k), some (zI y), some (zI la), x5, none], [], (zw sc B S Z L R M), 0, 0) rfl ⟨(show ((-2147483648 : Int) ≤ (zpg T (zcB K n l1 q) w k (l1 + 1).toNat) ∧ (zpg T (zcB K n l1 q) w k (l1 + 1).toNat) ≤ 2147483647) ∧ (-2147483648 : Int) ≤ (mWeight M) ∧ (mWeight M) ≤ 2147483647 by omega), trivial⟩ (fun h110 => ?_) (fun h110 => ?_)
            · refine z_br c 2 (¬ la = (-9)) (126, [some (zR 32), some (zI w), some (zI k), some (zI y), some (zI la), x5, none], [], (zw sc B S Z L R M), 0, 0) (122, [some (zR 32), some (zI w), some (zI k), some (zI y), some (zI la), x5, none], [], (zw sc B S Z L R M), 0, 0) rfl ⟨(show ((-2147483648 : Int) ≤ la ∧ la ≤ 2147483647) ∧ (-2147483648 : Int) ≤ (-9) ∧ (-9) ≤ 2147483647 by omega), trivial⟩ (fun h119 => ?_) (fun h119 => ?_)
              · refine z_cV c 3 k_6_77 zv_X6_get (pc := 133) (ls := [some (zR 32), some (zI w), some (zI k), some (zI y), some (zI la), x5, none]) (sk := []) (h := (zw sc B S Z L R M)) (cs := 0) (ss := 0) (c_X6_get l sc B S Z L R M la 3 (by omega) (by omega)) rfl trivial rfl rfl ⟨Nat.le_refl _, Nat.le_refl _⟩ ?_
                rintro _ _ ⟨rfl, rfl⟩
                show V (133, [some (zR 32), some (zI w), some (zI k), some (zI y), some (zI la), x5, none], [zI (((mTold M) (12 * la + 3)))], (zw sc B S Z L R M), 0, 0)
                rw [hM.2.2.2 la 3 (by omega) (by omega) (by omega) (by omega)]
                have q130 := hT la 3 (by omega) (by omega) (by omega) (by omega)
                show V (133, [some (zR 32), some (zI w), some (zI k), some (zI y), some (zI la), x5, none], [zI ((T (la * 12 + 3)))], (zw sc B S Z L R M), 0, 0)
                exact j133 _ hz3 (by omega) (by omega) (by omega)
              · refine z_go c 2 (s1 := (133, [some (zR 32), some (zI w), some (zI k), some (zI y), some (zI la), x5, none], [zI ((-1))], (zw sc B S Z L R M), 0, 0)) rfl trivial ?_
                exact j133 _ hz3 (by omega) (by omega) (by omega)
            · exact z_re c 1 (v := some (zI 2)) (h := (zw sc B S Z L R M)) (cs := 0) (ss := 0) rfl trivial trivial ⟨Nat.le_refl _, Nat.le_refl _⟩ ⟨by rw [← hla]; exact congrArg (fun z => some (zI z)) (zGm_2 (fun p h => hv p (by omega)) hk (by omega) (by omega)), rfl⟩
        refine z_br c 2 (la = (-9)) (93, [some (zR 32), some (zI w), some (zI k), some (zI y), some (zI la), x5, none], [], (zw sc B S Z L R M), 0, 0) (69, [some (zR 32), some (zI w), some (zI k), some (zI y), some (zI la), x5, none], [], (zw sc B S Z L R M), 0, 0) rfl ⟨(show ((-2147483648 : Int) ≤ la ∧ la ≤ 2147483647) ∧ (-2147483648 : Int) ≤ (-9) ∧ (-9) ≤ 2147483647 by omega), trivial⟩ (fun h66 => ?_) (fun h66 => ?_)
        · exact j93 (zGm_n3 hlr (by omega))
        · have qs := hM.2.2.1 la (by omega) (by omega)
          have qt := hT la 0 (by omega) (by omega) (by omega) (by omega)
          refine z_br c 5 (¬ ((mSort M) la) = 4) (93, [some (zR 32), some (zI w), some (zI k), some (zI y), some (zI la), x5, none], [], (zw sc B S Z L R M), 0, 0) (80, [some (zR 32), some (zI w), some (zI k), some (zI y), some (zI la), x5, none], [], (zw sc B S Z L R M), 0, 0) rfl ⟨(show ((-2147483648 : Int) ≤ ((mSort M) la) ∧ ((mSort M) la) ≤ 2147483647) ∧ (-2147483648 : Int) ≤ 4 ∧ 4 ≤ 2147483647 by omega), (show (0 : Int) ≤ la ∧ la < 100 by omega), trivial⟩ (fun h77 => ?_) (fun h77 => ?_)
          · exact j93 (zGm_n3 hlr (by omega))
          · refine z_cV c 4 k_6_77 zv_X6_get (pc := 88) (ls := [some (zR 32), some (zI w), some (zI k), some (zI y), some (zI la), x5, none]) (sk := [zI k]) (h := (zw sc B S Z L R M)) (cs := 0) (ss := 0) (c_X6_get l sc B S Z L R M la 2 (by omega) (by omega)) rfl trivial rfl rfl ⟨Nat.le_refl _, Nat.le_refl _⟩ ?_
            rintro _ _ ⟨rfl, rfl⟩
            show V (88, [some (zR 32), some (zI w), some (zI k), some (zI y), some (zI la), x5, none], [zI (((mTold M) (12 * la + 2))), zI k], (zw sc B S Z L R M), 0, 0)
            rw [hM.2.2.2 la 2 (by omega) (by omega) (by omega) (by omega)]
            have q85 := hT la 2 (by omega) (by omega) (by omega) (by omega)
            show V (88, [some (zR 32), some (zI w), some (zI k), some (zI y), some (zI la), x5, none], [zI ((T (la * 12 + 2))), zI k], (zw sc B S Z L R M), 0, 0)
            refine z_br c 0 ((T (la * 12 + 2)) < k) (93, [some (zR 32), some (zI w), some (zI k), some (zI y), some (zI la), x5, none], [], (zw sc B S Z L R M), 0, 0) (91, [some (zR 32), some (zI w), some (zI k), some (zI y), some (zI la), x5, none], [], (zw sc B S Z L R M), 0, 0) rfl ⟨(show ((-2147483648 : Int) ≤ k ∧ k ≤ 2147483647) ∧ (-2147483648 : Int) ≤ (T (la * 12 + 2)) ∧ (T (la * 12 + 2)) ≤ 2147483647 by omega), trivial⟩ (fun h88 => ?_) (fun h88 => ?_)
            · exact j93 (zGm_n3 hlr (by omega))
            · exact z_re c 1 (v := some (zI 3)) (h := (zw sc B S Z L R M)) (cs := 0) (ss := 0) rfl trivial trivial ⟨Nat.le_refl _, Nat.le_refl _⟩ ⟨by rw [← hla]; exact congrArg (fun z => some (zI z)) (zGm_3 (by omega) (by omega) (by omega)), rfl⟩
      · have ho := hO m (by omega)
        have hi := hI m (by omega)
        refine z_br c 4 (((mIsGood M) ((m : Int))) = 0) (52, [some (zR 32), some (zI w), some (zI k), some (zI y), some (zI la), some (zI ((m : Int))), none], [], (zw sc B S Z L R M), 0, 0) (26, [some (zR 32), some (zI w), some (zI k), some (zI y), some (zI la), some (zI ((m : Int))), none], [], (zw sc B S Z L R M), 0, 0) rfl ⟨(show (-2147483648 : Int) ≤ ((mIsGood M) ((m : Int))) ∧ ((mIsGood M) ((m : Int))) ≤ 2147483647 by omega), (show (0 : Int) ≤ (m : Int) ∧ (m : Int) < 20 by omega), trivial⟩ (fun h23 => ?_) (fun h23 => ?_)
        · refine z_go c 1 (s1 := (54, [some (zR 32), some (zI w), some (zI k), some (zI y), some (zI la), some (zI ((m : Int))), none], [zI la], (zw sc B S Z L R M), 0, 0)) rfl trivial ?_
          exact z_go c 3 (s1 := (7, [some (zR 32), some (zI w), some (zI k), some (zI y), some (zI la), some (zI (((m : Int) + 1))), none], [], (zw sc B S Z L R M), 0, 0)) rfl trivial (ih (m + 1) _ (by omega) (by omega) (zlm_no (fun z => by omega) hla))
        · refine z_cV c 6 k_6_77 zv_X6_get (pc := 38) (ls := [some (zR 32), some (zI w), some (zI k), some (zI y), some (zI la), some (zI ((m : Int))), none]) (sk := []) (h := (zw sc B S Z L R M)) (cs := 0) (ss := 0) (c_X6_get l sc B S Z L R M (((mOrder M) ((m : Int)))) 3 (by omega) (by omega)) rfl ⟨(show (0 : Int) ≤ (m : Int) ∧ (m : Int) < 20 by omega), trivial⟩ rfl rfl ⟨Nat.le_refl _, Nat.le_refl _⟩ ?_
          rintro _ _ ⟨rfl, rfl⟩
          show V (38, [some (zR 32), some (zI w), some (zI k), some (zI y), some (zI la), some (zI ((m : Int))), none], [zI (((mTold M) (12 * (((mOrder M) ((m : Int)))) + 3)))], (zw sc B S Z L R M), 0, 0)
          rw [hM.2.2.2 (((mOrder M) ((m : Int)))) 3 (by omega) (by omega) (by omega) (by omega)]
          have q35 := hT (((mOrder M) ((m : Int)))) 3 (by omega) (by omega) (by omega) (by omega)
          show V (38, [some (zR 32), some (zI w), some (zI k), some (zI y), some (zI la), some (zI ((m : Int))), none], [zI ((T ((((mOrder M) ((m : Int)))) * 12 + 3)))], (zw sc B S Z L R M), 0, 0)
          refine z_br c 1 (y < (T ((((mOrder M) ((m : Int)))) * 12 + 3))) (52, [some (zR 32), some (zI w), some (zI k), some (zI y), some (zI la), some (zI ((m : Int))), none], [], (zw sc B S Z L R M), 0, 0) (42, [some (zR 32), some (zI w), some (zI k), some (zI y), some (zI la), some (zI ((m : Int))), none], [], (zw sc B S Z L R M), 0, 0) rfl ⟨(show ((-2147483648 : Int) ≤ (T ((((mOrder M) ((m : Int)))) * 12 + 3)) ∧ (T ((((mOrder M) ((m : Int)))) * 12 + 3)) ≤ 2147483647) ∧ (-2147483648 : Int) ≤ y ∧ y ≤ 2147483647 by omega), trivial⟩ (fun h39 => ?_) (fun h39 => ?_)
          · refine z_go c 1 (s1 := (54, [some (zR 32), some (zI w), some (zI k), some (zI y), some (zI la), some (zI ((m : Int))), none], [zI la], (zw sc B S Z L R M), 0, 0)) rfl trivial ?_
            exact z_go c 3 (s1 := (7, [some (zR 32), some (zI w), some (zI k), some (zI y), some (zI la), some (zI (((m : Int) + 1))), none], [], (zw sc B S Z L R M), 0, 0)) rfl trivial (ih (m + 1) _ (by omega) (by omega) (zlm_no (fun z => by omega) hla))
          · refine z_go c 5 (s1 := (54, [some (zR 32), some (zI w), some (zI k), some (zI y), some (zI la), some (zI ((m : Int))), none], [zI (((mOrder M) ((m : Int))))], (zw sc B S Z L R M), 0, 0)) rfl ⟨(show (0 : Int) ≤ (m : Int) ∧ (m : Int) < 20 by omega), trivial⟩ ?_
            exact z_go c 3 (s1 := (7, [some (zR 32), some (zI w), some (zI k), some (zI y), some (zI (((mOrder M) ((m : Int))))), some (zI (((m : Int) + 1))), none], [], (zw sc B S Z L R M), 0, 0)) rfl trivial (ih (m + 1) _ (by omega) (by omega) (zlm_yes (by omega) (by omega) rfl))
  exact loop 22 0 _ (by omega) (by omega) rfl
