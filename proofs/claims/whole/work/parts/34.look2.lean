/-! the model: its small methods, and its look -/
theorem zcmp_c (x y : Int) : (x < y ∧ zcmp x y = -1) ∨ (x = y ∧ zcmp x y = 0) ∨ (y < x ∧ zcmp x y = 1) := by
  unfold zcmp
  split
  · omega
  · split <;> omega
/-- the model's book is this one -/
def zMr (T : Int → Int) (n nw : Int) (M : ZMd) : Prop := mPages M = n ∧ mWays M = nw ∧ (∀ p, 0 ≤ p → p < n → mSort M p = T (p * 12 + 0)) ∧ (∀ p f, 0 ≤ p → p < n → 0 ≤ f → f < 12 → mTold M (12 * p + f) = T (p * 12 + f))
def zI1a (l q : Int) (m : Int) (I : Int → Int) : Prop := ∀ j, 0 ≤ j → j < m → (I j = 1 ∧ j ≤ l ∧ ¬ j = q) ∨ (I j = 0 ∧ ¬ (j ≤ l ∧ ¬ j = q))
def zI2 (K : Int → Int) (n l q m : Int) (I : Int → Int) : Prop := ∀ j, 0 ≤ j → j < n → (I j = 1 ∧ j ≤ l ∧ ¬ j = q ∧ (K j = -9 ∨ m ≤ K j ∨ K j = q)) ∨ (I j = 0 ∧ ¬ (j ≤ l ∧ ¬ j = q ∧ (K j = -9 ∨ m ≤ K j ∨ K j = q)))
theorem zI1_put {l q m x : Int} {I : Int → Int} (h : zI1a l q m I) (hx : (x = 1 ∧ m ≤ l ∧ ¬ m = q) ∨ (x = 0 ∧ ¬ (m ≤ l ∧ ¬ m = q))) : zI1a l q (m + 1) (zup I m x) := by
  intro j a b
  simp only [zup]
  by_cases e : j = m
  · rw [if_pos e, e]
    exact hx
  · rw [if_neg e]
    exact h j a (by omega)
theorem zI2_of {T K : Int → Int} {n l q : Int} {I : Int → Int} (hK : zKs T K n) (h : zI1a l q n I) : zI2 K n l q 0 I := by
  intro j a b
  have g := h j a b
  have k := hK.1 j a b
  omega
theorem zI2_skip {T K : Int → Int} {n l q m : Int} {I : Int → Int} (hK : zKs T K n) (hm : 0 ≤ m) (h : zI2 K n l q m I) (hs : T (m * 12 + 0) = 5 → m = q) : zI2 K n l q (m + 1) I := by
  intro j a b
  have g := h j a b
  have k := hK.1 j a b
  by_cases e : K j = m
  · have : m = q := by
      rcases k with k | ⟨-, k, -⟩
      · omega
      · rw [e] at k; exact hs k
    omega
  · omega
theorem zI2_put {T K : Int → Int} {n l q m t : Int} {I : Int → Int} (hK : zKs T K n) (hm : 0 ≤ m ∧ m < n) (h : zI2 K n l q m I) (h5 : T (m * 12 + 0) = 5) (hq : ¬ m = q) (et : T (m * 12 + 8) = t) : zI2 K n l q (m + 1) (zup I t 0) := by
  have k2 := hK.2 m hm.1 hm.2 h5
  rw [et] at k2
  intro j a b
  have g := h j a b
  have k := hK.1 j a b
  simp only [zup]
  by_cases e : j = t
  · rw [if_pos e, e]
    omega
  · rw [if_neg e]
    by_cases e2 : K j = m
    · exfalso
      rcases k with k | ⟨-, -, k⟩
      · omega
      · rw [e2, et] at k; exact e k.symm
    · omega
def zIn (K : Int → Int) (n l q : Int) (I : Int → Int) : Prop := ∀ j, 0 ≤ j → j < n → (I j = 1 ∧ zcB K n l q j = true) ∨ (I j = 0 ∧ ¬ zcB K n l q j = true)
theorem zIn_of {T K : Int → Int} {n l q : Int} {I : Int → Int} (h : zI2 K n l q (l + 1) I) : zIn K n l q I := by
  intro j a b
  have g := h j a b
  by_cases e : zcB K n l q j = true
  · have e2 := zcB_iff.mp e
    unfold zct at e2
    exact Or.inl ⟨by omega, e⟩
  · refine Or.inr ⟨?_, e⟩
    have e2 : ¬ zct K n j l q := fun z => e (zcB_iff.mpr z)
    unfold zct at e2
    omega
set_option maxRecDepth 4000 in
theorem c_X6_in (l : Launch) (h : List ZB) (v lo hi : Int) (hv : (-2147483648 ≤ v ∧ v ≤ 2147483647)) (hlo : (-2147483648 ≤ lo ∧ lo ≤ 2147483647)) (hhi : (-2147483648 ≤ hi ∧ hi ≤ 2147483647)) : zMet l m_X6_in [zL v, zL lo, zL hi] h (zIb (lo ≤ v ∧ v ≤ hi) h) := by
  refine z_method g_X6_in [some (zL v), none, some (zL lo), none, some (zL hi), none] rfl rfl (fun V c => ?_)
  have z1 := zcmp_c v lo
  have z2 := zcmp_c v hi
  refine z_br c 3 ((zcmp v lo) < 0) (17, [some (zL v), none, some (zL lo), none, some (zL hi), none], [], h, 0, 0) (6, [some (zL v), none, some (zL lo), none, some (zL hi), none], [], h, 0, 0) rfl ⟨(show (-2147483648 : Int) ≤ (zcmp v lo) ∧ (zcmp v lo) ≤ 2147483647 by omega), (by omega), trivial⟩ (fun h3 => ?_) (fun h3 => ?_)
  · exact z_re c 1 (v := some (zI 0)) (h := h) (cs := 0) (ss := 0) rfl trivial (Or.inl rfl) ⟨Nat.le_refl _, Nat.le_refl _⟩ ⟨_, rfl, (by omega), rfl⟩
  · refine z_br c 3 (0 < (zcmp v hi)) (17, [some (zL v), none, some (zL lo), none, some (zL hi), none], [], h, 0, 0) (13, [some (zL v), none, some (zL lo), none, some (zL hi), none], [], h, 0, 0) rfl ⟨(show (-2147483648 : Int) ≤ (zcmp v hi) ∧ (zcmp v hi) ≤ 2147483647 by omega), (by omega), trivial⟩ (fun h10 => ?_) (fun h10 => ?_)
    · exact z_re c 1 (v := some (zI 0)) (h := h) (cs := 0) (ss := 0) rfl trivial (Or.inl rfl) ⟨Nat.le_refl _, Nat.le_refl _⟩ ⟨_, rfl, (by omega), rfl⟩
    · exact z_re c 2 (v := some (zI 1)) (h := h) (cs := 0) (ss := 0) rfl trivial (Or.inr rfl) ⟨Nat.le_refl _, Nat.le_refl _⟩ ⟨_, rfl, (by omega), rfl⟩
set_option maxRecDepth 4000 in
theorem c_X6_noPlace (l : Launch) (h : List ZB) (n : Int) (hn : (-2147483648 ≤ n ∧ n ≤ 2147483647)) : zMet l m_X6_noPlace [zI n] h (zIb (¬ (0 ≤ n ∧ n ≤ 9)) h) := by
  refine z_method g_X6_noPlace [some (zI n)] rfl rfl (fun V c => ?_)
  refine z_cS c 4 k_6_57 zv_X6_in (pc := 9) (ls := [some (zI n)]) (sk := []) (h := h) (cs := 0) (ss := 0) (c_X6_in l h n 0 9 (by omega) (by omega) (by omega)) rfl ⟨(by omega), trivial⟩ rfl ⟨Nat.le_refl _, Nat.le_refl _⟩ ?_
  rintro _ _ ⟨r6, rfl, e6, rfl⟩
  show V (9, [some (zI n)], [zI r6], h, 0, 0)
  refine z_br c 0 (¬ r6 = 0) (16, [some (zI n)], [], h, 0, 0) (12, [some (zI n)], [], h, 0, 0) rfl ⟨(show (-2147483648 : Int) ≤ r6 ∧ r6 ≤ 2147483647 by omega), trivial⟩ (fun h9 => ?_) (fun h9 => ?_)
  · exact z_re c 1 (v := some (zI 0)) (h := h) (cs := 0) (ss := 0) rfl trivial (Or.inl rfl) ⟨Nat.le_refl _, Nat.le_refl _⟩ ⟨_, rfl, (by omega), rfl⟩
  · exact z_re c 2 (v := some (zI 1)) (h := h) (cs := 0) (ss := 0) rfl trivial (Or.inr rfl) ⟨Nat.le_refl _, Nat.le_refl _⟩ ⟨_, rfl, (by omega), rfl⟩
set_option maxRecDepth 4000 in
theorem c_X6_noKind (l : Launch) (h : List ZB) (n : Int) (hn : (-2147483648 ≤ n ∧ n ≤ 2147483647)) : zMet l m_X6_noKind [zI n] h (zIb (¬ (0 ≤ n ∧ n ≤ 2)) h) := by
  refine z_method g_X6_noKind [some (zI n)] rfl rfl (fun V c => ?_)
  refine z_cS c 4 k_6_57 zv_X6_in (pc := 9) (ls := [some (zI n)]) (sk := []) (h := h) (cs := 0) (ss := 0) (c_X6_in l h n 0 2 (by omega) (by omega) (by omega)) rfl ⟨(by omega), trivial⟩ rfl ⟨Nat.le_refl _, Nat.le_refl _⟩ ?_
  rintro _ _ ⟨r6, rfl, e6, rfl⟩
  show V (9, [some (zI n)], [zI r6], h, 0, 0)
  refine z_br c 0 (¬ r6 = 0) (16, [some (zI n)], [], h, 0, 0) (12, [some (zI n)], [], h, 0, 0) rfl ⟨(show (-2147483648 : Int) ≤ r6 ∧ r6 ≤ 2147483647 by omega), trivial⟩ (fun h9 => ?_) (fun h9 => ?_)
  · exact z_re c 1 (v := some (zI 0)) (h := h) (cs := 0) (ss := 0) rfl trivial (Or.inl rfl) ⟨Nat.le_refl _, Nat.le_refl _⟩ ⟨_, rfl, (by omega), rfl⟩
  · exact z_re c 2 (v := some (zI 1)) (h := h) (cs := 0) (ss := 0) rfl trivial (Or.inr rfl) ⟨Nat.le_refl _, Nat.le_refl _⟩ ⟨_, rfl, (by omega), rfl⟩
set_option maxRecDepth 4000 in
theorem c_X6_noYear (l : Launch) (h : List ZB) (n : Int) (hn : (-2147483648 ≤ n ∧ n ≤ 2147483647)) : zMet l m_X6_noYear [zI n] h (zIb (¬ (0 ≤ n ∧ n ≤ 100)) h) := by
  refine z_method g_X6_noYear [some (zI n)] rfl rfl (fun V c => ?_)
  refine z_cS c 4 k_6_57 zv_X6_in (pc := 9) (ls := [some (zI n)]) (sk := []) (h := h) (cs := 0) (ss := 0) (c_X6_in l h n 0 100 (by omega) (by omega) (by omega)) rfl ⟨(by omega), trivial⟩ rfl ⟨Nat.le_refl _, Nat.le_refl _⟩ ?_
  rintro _ _ ⟨r6, rfl, e6, rfl⟩
  show V (9, [some (zI n)], [zI r6], h, 0, 0)
  refine z_br c 0 (¬ r6 = 0) (16, [some (zI n)], [], h, 0, 0) (12, [some (zI n)], [], h, 0, 0) rfl ⟨(show (-2147483648 : Int) ≤ r6 ∧ r6 ≤ 2147483647 by omega), trivial⟩ (fun h9 => ?_) (fun h9 => ?_)
  · exact z_re c 1 (v := some (zI 0)) (h := h) (cs := 0) (ss := 0) rfl trivial (Or.inl rfl) ⟨Nat.le_refl _, Nat.le_refl _⟩ ⟨_, rfl, (by omega), rfl⟩
  · exact z_re c 2 (v := some (zI 1)) (h := h) (cs := 0) (ss := 0) rfl trivial (Or.inr rfl) ⟨Nat.le_refl _, Nat.le_refl _⟩ ⟨_, rfl, (by omega), rfl⟩
set_option maxRecDepth 4000 in
theorem c_X6_noWay (l : Launch) (sc : ZSc) (B : ZBk) (S Z : ZSg) (L : ZLn) (R : ZRd) (M : ZMd) (w : Int) (hW : 0 ≤ mWays M ∧ mWays M ≤ 12) (hw : (-2147483648 ≤ w ∧ w ≤ 2147483647)) : zMet l m_X6_noWay [zR 32, zI w] (zw sc B S Z L R M) (zIb (¬ (0 ≤ w ∧ w < mWays M)) (zw sc B S Z L R M)) := by
  refine z_method g_X6_noWay [some (zR 32), some (zI w)] rfl rfl (fun V c => ?_)
  refine z_cS c 8 k_6_57 zv_X6_in (pc := 13) (ls := [some (zR 32), some (zI w)]) (sk := []) (h := (zw sc B S Z L R M)) (cs := 0) (ss := 0) (c_X6_in l (zw sc B S Z L R M) w 0 (((mWays M) - 1)) (by omega) (by omega) (by omega)) rfl ⟨(by omega), (by omega), trivial⟩ rfl ⟨Nat.le_refl _, Nat.le_refl _⟩ ?_
  rintro _ _ ⟨r10, rfl, e10, rfl⟩
  show V (13, [some (zR 32), some (zI w)], [zI r10], (zw sc B S Z L R M), 0, 0)
  refine z_br c 0 (¬ r10 = 0) (20, [some (zR 32), some (zI w)], [], (zw sc B S Z L R M), 0, 0) (16, [some (zR 32), some (zI w)], [], (zw sc B S Z L R M), 0, 0) rfl ⟨(show (-2147483648 : Int) ≤ r10 ∧ r10 ≤ 2147483647 by omega), trivial⟩ (fun h13 => ?_) (fun h13 => ?_)
  · exact z_re c 1 (v := some (zI 0)) (h := (zw sc B S Z L R M)) (cs := 0) (ss := 0) rfl trivial (Or.inl rfl) ⟨Nat.le_refl _, Nat.le_refl _⟩ ⟨_, rfl, (by omega), rfl⟩
  · exact z_re c 2 (v := some (zI 1)) (h := (zw sc B S Z L R M)) (cs := 0) (ss := 0) rfl trivial (Or.inr rfl) ⟨Nat.le_refl _, Nat.le_refl _⟩ ⟨_, rfl, (by omega), rfl⟩
set_option maxRecDepth 4000 in
theorem c_X6_noPage (l : Launch) (sc : ZSc) (B : ZBk) (S Z : ZSg) (L : ZLn) (R : ZRd) (M : ZMd) (w : Int) (hP : 0 ≤ mPages M ∧ mPages M ≤ 100) (hw : (-2147483648 ≤ w ∧ w ≤ 2147483647)) : zMet l m_X6_noPage [zR 32, zI w] (zw sc B S Z L R M) (zIb (¬ (0 ≤ w ∧ w < mPages M)) (zw sc B S Z L R M)) := by
  refine z_method g_X6_noPage [some (zR 32), some (zI w)] rfl rfl (fun V c => ?_)
  refine z_cS c 8 k_6_57 zv_X6_in (pc := 13) (ls := [some (zR 32), some (zI w)]) (sk := []) (h := (zw sc B S Z L R M)) (cs := 0) (ss := 0) (c_X6_in l (zw sc B S Z L R M) w 0 (((mPages M) - 1)) (by omega) (by omega) (by omega)) rfl ⟨(by omega), (by omega), trivial⟩ rfl ⟨Nat.le_refl _, Nat.le_refl _⟩ ?_
  rintro _ _ ⟨r10, rfl, e10, rfl⟩
  show V (13, [some (zR 32), some (zI w)], [zI r10], (zw sc B S Z L R M), 0, 0)
  refine z_br c 0 (¬ r10 = 0) (20, [some (zR 32), some (zI w)], [], (zw sc B S Z L R M), 0, 0) (16, [some (zR 32), some (zI w)], [], (zw sc B S Z L R M), 0, 0) rfl ⟨(show (-2147483648 : Int) ≤ r10 ∧ r10 ≤ 2147483647 by omega), trivial⟩ (fun h13 => ?_) (fun h13 => ?_)
  · exact z_re c 1 (v := some (zI 0)) (h := (zw sc B S Z L R M)) (cs := 0) (ss := 0) rfl trivial (Or.inl rfl) ⟨Nat.le_refl _, Nat.le_refl _⟩ ⟨_, rfl, (by omega), rfl⟩
  · exact z_re c 2 (v := some (zI 1)) (h := (zw sc B S Z L R M)) (cs := 0) (ss := 0) rfl trivial (Or.inr rfl) ⟨Nat.le_refl _, Nat.le_refl _⟩ ⟨_, rfl, (by omega), rfl⟩
set_option maxRecDepth 4000 in
theorem c_X6_noAs (l : Launch) (sc : ZSc) (B : ZBk) (S Z : ZSg) (L : ZLn) (R : ZRd) (M : ZMd) (w : Int) (hP : 0 ≤ mPages M ∧ mPages M ≤ 100) (hw : (-2147483648 ≤ w ∧ w ≤ 2147483647)) : zMet l m_X6_noAs [zR 32, zI w] (zw sc B S Z L R M) (zIb (¬ (w = -9 ∨ (0 ≤ w ∧ w < mPages M))) (zw sc B S Z L R M)) := by
  refine z_method g_X6_noAs [some (zR 32), some (zI w)] rfl rfl (fun V c => ?_)
  refine z_br c 2 (w = (-9)) (18, [some (zR 32), some (zI w)], [], (zw sc B S Z L R M), 0, 0) (6, [some (zR 32), some (zI w)], [], (zw sc B S Z L R M), 0, 0) rfl ⟨(show ((-2147483648 : Int) ≤ w ∧ w ≤ 2147483647) ∧ (-2147483648 : Int) ≤ (-9) ∧ (-9) ≤ 2147483647 by omega), trivial⟩ (fun h3 => ?_) (fun h3 => ?_)
  · exact z_re c 1 (v := some (zI 0)) (h := (zw sc B S Z L R M)) (cs := 0) (ss := 0) rfl trivial (Or.inl rfl) ⟨Nat.le_refl _, Nat.le_refl _⟩ ⟨_, rfl, (by omega), rfl⟩
  · refine z_cV c 2 k_6_64 zv_X6_noPage (pc := 11) (ls := [some (zR 32), some (zI w)]) (sk := []) (h := (zw sc B S Z L R M)) (cs := 0) (ss := 0) (c_X6_noPage l sc B S Z L R M w (show 0 ≤ (mPages M) ∧ (mPages M) ≤ 100 by omega) (by omega)) rfl trivial rfl rfl ⟨Nat.le_refl _, Nat.le_refl _⟩ ?_
    rintro _ _ ⟨r8, rfl, e8, rfl⟩
    replace e8 : ((¬ (0 ≤ w ∧ w < (mPages M))) ∧ r8 = 1) ∨ (¬ (¬ (0 ≤ w ∧ w < (mPages M))) ∧ r8 = 0) := e8
    show V (11, [some (zR 32), some (zI w)], [zI r8], (zw sc B S Z L R M), 0, 0)
    refine z_br c 0 (r8 = 0) (18, [some (zR 32), some (zI w)], [], (zw sc B S Z L R M), 0, 0) (14, [some (zR 32), some (zI w)], [], (zw sc B S Z L R M), 0, 0) rfl ⟨(show (-2147483648 : Int) ≤ r8 ∧ r8 ≤ 2147483647 by omega), trivial⟩ (fun h11 => ?_) (fun h11 => ?_)
    · exact z_re c 1 (v := some (zI 0)) (h := (zw sc B S Z L R M)) (cs := 0) (ss := 0) rfl trivial (Or.inl rfl) ⟨Nat.le_refl _, Nat.le_refl _⟩ ⟨_, rfl, (by omega), rfl⟩
    · exact z_re c 2 (v := some (zI 1)) (h := (zw sc B S Z L R M)) (cs := 0) (ss := 0) rfl trivial (Or.inr rfl) ⟨Nat.le_refl _, Nat.le_refl _⟩ ⟨_, rfl, (by omega), rfl⟩
set_option maxRecDepth 4000 in
theorem c_X6_get (l : Launch) (sc : ZSc) (B : ZBk) (S Z : ZSg) (L : ZLn) (R : ZRd) (M : ZMd) (p w : Int) (hp : 0 ≤ p ∧ p < 100) (hw : 0 ≤ w ∧ w < 12) : zMet l m_X6_get [zR 32, zI p, zI w] (zw sc B S Z L R M) (zI1 (mTold M (12 * p + w)) (zw sc B S Z L R M)) := by
  refine z_method g_X6_get [some (zR 32), some (zI p), some (zI w)] rfl rfl (fun V c => ?_)
  exact z_re c 8 (v := some (zI (((mTold M) (((12 * p) + w)))))) (h := (zw sc B S Z L R M)) (cs := 0) (ss := 0) rfl ⟨(show (0 : Int) ≤ ((12 * p) + w) ∧ ((12 * p) + w) < 1200 by omega), trivial⟩ trivial ⟨Nat.le_refl _, Nat.le_refl _⟩ ⟨rfl, rfl⟩
set_option maxRecDepth 4000 in
theorem c_X6_look (l : Launch) (sc : ZSc) (B : ZBk) (S Z : ZSg) (L : ZLn) (R : ZRd) (M : ZMd) (T K : Int → Int) (n nw q : Int) (a : Int) (hB : zBv T K n nw) (hM : zMr T n nw M) (hQ : mWithout M = q) (hq : -9 ≤ q ∧ q < 100) (ha : a = -9 ∨ (0 ≤ a ∧ a < n)) : zMet l m_X6_look [zR 32, zI a] (zw sc B S Z L R M) (fun v h1 => v = none ∧ ∃ I1, (zw sc B S Z L R (((mThrown M), (mWays M), (mOne M), (mTwo M), (mPages M), (mOrders M)), ((mSort M), (mTold M), (zlast n a), (mWithout M), I1, (zVN T (zcB K n (zlast n a) q) ((zlast n a) + 1).toNat)), ((zVP T (zcB K n (zlast n a) q) ((zlast n a) + 1).toNat), (zVG T (zcB K n (zlast n a) q) ((zlast n a) + 1).toNat), (zVn T (zcB K n (zlast n a) q) ((zlast n a) + 1).toNat), (mSeen M), (mFew M), (mBroken M)), ((mHolds M), (mMany M), (mOrder M), (mIsGood M), (mFar M)))) = h1 ∧ zIn K n (zlast n a) q I1) := by
  refine z_method g_X6_look [some (zR 32), some (zI a), none] rfl rfl (fun V c => ?_)
  obtain ⟨hn, hT, -, hv, hno, hKs⟩ := id hB
  have eN := hM.1
  have hl : -1 ≤ zlast n a ∧ zlast n a < n := zlast_rng hn.1 ha
  have J17 : V (17, [some (zR 32), some (zI a), none], [zI ((zlast n a)), zR 32], (zw sc B S Z L R M), 0, 0) := by
    refine z_go c 3 (s1 := (22, [some (zR 32), some (zI a), some (zI 0)], [], (zw sc B S Z L R (((mThrown M), (mWays M), (mOne M), (mTwo M), (mPages M), (mOrders M)), ((mSort M), (mTold M), (zlast n a), (mWithout M), (mIsIn M), (mNeeds M)), ((mPersons M), (mGaps M), (mWeight M), (mSeen M), (mFew M), (mBroken M)), ((mHolds M), (mMany M), (mOrder M), (mIsGood M), (mFar M)))), 0, 0)) rfl trivial ?_
    have loop : ∀ (x m : Nat) (I1 : Int → Int), n - (m : Int) < (x : Int) → (m : Int) ≤ n → zI1a (zlast n a) q (m : Int) I1 → V (22, [some (zR 32), some (zI a), some (zI ((m : Int)))], [], (zw sc B S Z L R (((mThrown M), (mWays M), (mOne M), (mTwo M), (mPages M), (mOrders M)), ((mSort M), (mTold M), (zlast n a), (mWithout M), I1, (mNeeds M)), ((mPersons M), (mGaps M), (mWeight M), (mSeen M), (mFew M), (mBroken M)), ((mHolds M), (mMany M), (mOrder M), (mIsGood M), (mFar M)))), 0, 0) := by
      intro x
      induction x with
      | zero => intro m I1 h1 h2; exfalso; omega
      | succ x ih =>
        intro m I1 hm1 hm2 hI
        refine z_br c 3 ((mPages M) ≤ (m : Int)) (63, [some (zR 32), some (zI a), some (zI ((m : Int)))], [], (zw sc B S Z L R (((mThrown M), (mWays M), (mOne M), (mTwo M), (mPages M), (mOrders M)), ((mSort M), (mTold M), (zlast n a), (mWithout M), I1, (mNeeds M)), ((mPersons M), (mGaps M), (mWeight M), (mSeen M), (mFew M), (mBroken M)), ((mHolds M), (mMany M), (mOrder M), (mIsGood M), (mFar M)))), 0, 0) (30, [some (zR 32), some (zI a), some (zI ((m : Int)))], [], (zw sc B S Z L R (((mThrown M), (mWays M), (mOne M), (mTwo M), (mPages M), (mOrders M)), ((mSort M), (mTold M), (zlast n a), (mWithout M), I1, (mNeeds M)), ((mPersons M), (mGaps M), (mWeight M), (mSeen M), (mFew M), (mBroken M)), ((mHolds M), (mMany M), (mOrder M), (mIsGood M), (mFar M)))), 0, 0) rfl ⟨(show ((-2147483648 : Int) ≤ (m : Int) ∧ (m : Int) ≤ 2147483647) ∧ (-2147483648 : Int) ≤ (mPages M) ∧ (mPages M) ≤ 2147483647 by omega), trivial⟩ (fun h27 => ?_) (fun h27 => ?_)
        · have hI2 : zI2 K n (zlast n a) q ((0 : Nat) : Int) I1 := zI2_of hKs (fun j a b => hI j a (by omega))
          clear ih hI
          generalize some (zI (m : Int)) = x2
          refine z_go c 2 (s1 := (65, [some (zR 32), some (zI a), some (zI 0)], [], (zw sc B S Z L R (((mThrown M), (mWays M), (mOne M), (mTwo M), (mPages M), (mOrders M)), ((mSort M), (mTold M), (zlast n a), (mWithout M), I1, (mNeeds M)), ((mPersons M), (mGaps M), (mWeight M), (mSeen M), (mFew M), (mBroken M)), ((mHolds M), (mMany M), (mOrder M), (mIsGood M), (mFar M)))), 0, 0)) rfl trivial ?_
          have loop2 : ∀ (y m : Nat) (I1 : Int → Int), (zlast n a) + 1 - (m : Int) < (y : Int) → (m : Int) ≤ (zlast n a) + 1 → zI2 K n (zlast n a) q (m : Int) I1 → V (65, [some (zR 32), some (zI a), some (zI ((m : Int)))], [], (zw sc B S Z L R (((mThrown M), (mWays M), (mOne M), (mTwo M), (mPages M), (mOrders M)), ((mSort M), (mTold M), (zlast n a), (mWithout M), I1, (mNeeds M)), ((mPersons M), (mGaps M), (mWeight M), (mSeen M), (mFew M), (mBroken M)), ((mHolds M), (mMany M), (mOrder M), (mIsGood M), (mFar M)))), 0, 0) := by
            intro y
            induction y with
            | zero => intro m I1 h1 h2; exfalso; omega
            | succ y ih2 =>
              intro m I1 hm1 hm2 hI
              refine z_br c 3 ((zlast n a) < (m : Int)) (110, [some (zR 32), some (zI a), some (zI ((m : Int)))], [], (zw sc B S Z L R (((mThrown M), (mWays M), (mOne M), (mTwo M), (mPages M), (mOrders M)), ((mSort M), (mTold M), (zlast n a), (mWithout M), I1, (mNeeds M)), ((mPersons M), (mGaps M), (mWeight M), (mSeen M), (mFew M), (mBroken M)), ((mHolds M), (mMany M), (mOrder M), (mIsGood M), (mFar M)))), 0, 0) (73, [some (zR 32), some (zI a), some (zI ((m : Int)))], [], (zw sc B S Z L R (((mThrown M), (mWays M), (mOne M), (mTwo M), (mPages M), (mOrders M)), ((mSort M), (mTold M), (zlast n a), (mWithout M), I1, (mNeeds M)), ((mPersons M), (mGaps M), (mWeight M), (mSeen M), (mFew M), (mBroken M)), ((mHolds M), (mMany M), (mOrder M), (mIsGood M), (mFar M)))), 0, 0) rfl ⟨(show ((-2147483648 : Int) ≤ (m : Int) ∧ (m : Int) ≤ 2147483647) ∧ (-2147483648 : Int) ≤ (zlast n a) ∧ (zlast n a) ≤ 2147483647 by omega), trivial⟩ (fun h70 => ?_) (fun h70 => ?_)
              · have hI3 : zIn K n (zlast n a) q I1 := zIn_of (T := T) (by rw [show (zlast n a) + 1 = (m : Int) by omega]; exact hI)
                clear ih2 hI
                generalize some (zI (m : Int)) = x3
                refine z_go c 14 (s1 := (134, [some (zR 32), some (zI a), some (zI 0)], [], (zw sc B S Z L R (((mThrown M), (mWays M), (mOne M), (mTwo M), (mPages M), (mOrders M)), ((mSort M), (mTold M), (zlast n a), (mWithout M), I1, 20), (2, 1, 10, (mSeen M), (mFew M), (mBroken M)), ((mHolds M), (mMany M), (mOrder M), (mIsGood M), (mFar M)))), 0, 0)) rfl trivial ?_
                have loop3 : ∀ (z m : Nat), (zlast n a) + 1 - (m : Int) < (z : Int) → (m : Int) ≤ (zlast n a) + 1 → V (134, [some (zR 32), some (zI a), some (zI ((m : Int)))], [], (zw sc B S Z L R (((mThrown M), (mWays M), (mOne M), (mTwo M), (mPages M), (mOrders M)), ((mSort M), (mTold M), (zlast n a), (mWithout M), I1, (zst T (zS0 T (zcB K n (zlast n a) q) m) 20 9)), ((zst T (zS0 T (zcB K n (zlast n a) q) m) 2 10), (zst T (zS0 T (zcB K n (zlast n a) q) m) 1 11), (zst T (zS0 T (zcB K n (zlast n a) q) m) 10 6), (mSeen M), (mFew M), (mBroken M)), ((mHolds M), (mMany M), (mOrder M), (mIsGood M), (mFar M)))), 0, 0) := by
                  intro z
                  induction z with
                  | zero => intro m h1 h2; exfalso; omega
                  | succ z ih3 =>
                    intro m hm1 hm2
                    have hstep : zS0 T (zcB K n (zlast n a) q) (m + 1) = if (zcB K n (zlast n a) q) (m : Int) = true ∧ T ((m : Int) * 12 + 0) = 6 then (m : Int) else zS0 T (zcB K n (zlast n a) q) m := rfl
                    refine z_br c 3 ((zlast n a) < (m : Int)) (212, [some (zR 32), some (zI a), some (zI ((m : Int)))], [], (zw sc B S Z L R (((mThrown M), (mWays M), (mOne M), (mTwo M), (mPages M), (mOrders M)), ((mSort M), (mTold M), (zlast n a), (mWithout M), I1, (zst T (zS0 T (zcB K n (zlast n a) q) m) 20 9)), ((zst T (zS0 T (zcB K n (zlast n a) q) m) 2 10), (zst T (zS0 T (zcB K n (zlast n a) q) m) 1 11), (zst T (zS0 T (zcB K n (zlast n a) q) m) 10 6), (mSeen M), (mFew M), (mBroken M)), ((mHolds M), (mMany M), (mOrder M), (mIsGood M), (mFar M)))), 0, 0) (142, [some (zR 32), some (zI a), some (zI ((m : Int)))], [], (zw sc B S Z L R (((mThrown M), (mWays M), (mOne M), (mTwo M), (mPages M), (mOrders M)), ((mSort M), (mTold M), (zlast n a), (mWithout M), I1, (zst T (zS0 T (zcB K n (zlast n a) q) m) 20 9)), ((zst T (zS0 T (zcB K n (zlast n a) q) m) 2 10), (zst T (zS0 T (zcB K n (zlast n a) q) m) 1 11), (zst T (zS0 T (zcB K n (zlast n a) q) m) 10 6), (mSeen M), (mFew M), (mBroken M)), ((mHolds M), (mMany M), (mOrder M), (mIsGood M), (mFar M)))), 0, 0) rfl ⟨(show ((-2147483648 : Int) ≤ (m : Int) ∧ (m : Int) ≤ 2147483647) ∧ (-2147483648 : Int) ≤ (zlast n a) ∧ (zlast n a) ≤ 2147483647 by omega), trivial⟩ (fun h139 => ?_) (fun h139 => ?_)
                    · obtain rfl : m = ((zlast n a) + 1).toNat := by omega
                      exact z_re c 0 (v := none) (h := (zw sc B S Z L R (((mThrown M), (mWays M), (mOne M), (mTwo M), (mPages M), (mOrders M)), ((mSort M), (mTold M), (zlast n a), (mWithout M), I1, (zst T (zS0 T (zcB K n (zlast n a) q) ((zlast n a) + 1).toNat) 20 9)), ((zst T (zS0 T (zcB K n (zlast n a) q) ((zlast n a) + 1).toNat) 2 10), (zst T (zS0 T (zcB K n (zlast n a) q) ((zlast n a) + 1).toNat) 1 11), (zst T (zS0 T (zcB K n (zlast n a) q) ((zlast n a) + 1).toNat) 10 6), (mSeen M), (mFew M), (mBroken M)), ((mHolds M), (mMany M), (mOrder M), (mIsGood M), (mFar M))))) (cs := 0) (ss := 0) rfl trivial trivial ⟨Nat.le_refl _, Nat.le_refl _⟩ ⟨rfl, _, rfl, hI3⟩
                    · have qi := hI3 (m : Int) (by omega) (by omega)
                      have qs := hM.2.2.1 (m : Int) (by omega) (by omega)
                      have qt := hT (m : Int) 0 (by omega) (by omega) (by omega) (by omega)
                      refine z_br c 4 ((I1 ((m : Int))) = 0) (206, [some (zR 32), some (zI a), some (zI ((m : Int)))], [], (zw sc B S Z L R (((mThrown M), (mWays M), (mOne M), (mTwo M), (mPages M), (mOrders M)), ((mSort M), (mTold M), (zlast n a), (mWithout M), I1, (zst T (zS0 T (zcB K n (zlast n a) q) m) 20 9)), ((zst T (zS0 T (zcB K n (zlast n a) q) m) 2 10), (zst T (zS0 T (zcB K n (zlast n a) q) m) 1 11), (zst T (zS0 T (zcB K n (zlast n a) q) m) 10 6), (mSeen M), (mFew M), (mBroken M)), ((mHolds M), (mMany M), (mOrder M), (mIsGood M), (mFar M)))), 0, 0) (151, [some (zR 32), some (zI a), some (zI ((m : Int)))], [], (zw sc B S Z L R (((mThrown M), (mWays M), (mOne M), (mTwo M), (mPages M), (mOrders M)), ((mSort M), (mTold M), (zlast n a), (mWithout M), I1, (zst T (zS0 T (zcB K n (zlast n a) q) m) 20 9)), ((zst T (zS0 T (zcB K n (zlast n a) q) m) 2 10), (zst T (zS0 T (zcB K n (zlast n a) q) m) 1 11), (zst T (zS0 T (zcB K n (zlast n a) q) m) 10 6), (mSeen M), (mFew M), (mBroken M)), ((mHolds M), (mMany M), (mOrder M), (mIsGood M), (mFar M)))), 0, 0) rfl ⟨(show (-2147483648 : Int) ≤ (I1 ((m : Int))) ∧ (I1 ((m : Int))) ≤ 2147483647 by omega), (show (0 : Int) ≤ (m : Int) ∧ (m : Int) < 100 by omega), trivial⟩ (fun h148 => ?_) (fun h148 => ?_)
                      · rw [if_neg (fun z => by rcases qi with ⟨g, -⟩ | ⟨-, g⟩; have z2 := z.2; omega; exact g z.1)] at hstep
                        have h9 := ih3 (m + 1) (by omega) (by omega)
                        rw [hstep] at h9
                        exact z_go c 2 (s1 := (134, [some (zR 32), some (zI a), some (zI (((m : Int) + 1)))], [], (zw sc B S Z L R (((mThrown M), (mWays M), (mOne M), (mTwo M), (mPages M), (mOrders M)), ((mSort M), (mTold M), (zlast n a), (mWithout M), I1, (zst T (zS0 T (zcB K n (zlast n a) q) m) 20 9)), ((zst T (zS0 T (zcB K n (zlast n a) q) m) 2 10), (zst T (zS0 T (zcB K n (zlast n a) q) m) 1 11), (zst T (zS0 T (zcB K n (zlast n a) q) m) 10 6), (mSeen M), (mFew M), (mBroken M)), ((mHolds M), (mMany M), (mOrder M), (mIsGood M), (mFar M)))), 0, 0)) rfl trivial h9
                      · refine z_br c 5 (¬ ((mSort M) ((m : Int))) = 6) (206, [some (zR 32), some (zI a), some (zI ((m : Int)))], [], (zw sc B S Z L R (((mThrown M), (mWays M), (mOne M), (mTwo M), (mPages M), (mOrders M)), ((mSort M), (mTold M), (zlast n a), (mWithout M), I1, (zst T (zS0 T (zcB K n (zlast n a) q) m) 20 9)), ((zst T (zS0 T (zcB K n (zlast n a) q) m) 2 10), (zst T (zS0 T (zcB K n (zlast n a) q) m) 1 11), (zst T (zS0 T (zcB K n (zlast n a) q) m) 10 6), (mSeen M), (mFew M), (mBroken M)), ((mHolds M), (mMany M), (mOrder M), (mIsGood M), (mFar M)))), 0, 0) (162, [some (zR 32), some (zI a), some (zI ((m : Int)))], [], (zw sc B S Z L R (((mThrown M), (mWays M), (mOne M), (mTwo M), (mPages M), (mOrders M)), ((mSort M), (mTold M), (zlast n a), (mWithout M), I1, (zst T (zS0 T (zcB K n (zlast n a) q) m) 20 9)), ((zst T (zS0 T (zcB K n (zlast n a) q) m) 2 10), (zst T (zS0 T (zcB K n (zlast n a) q) m) 1 11), (zst T (zS0 T (zcB K n (zlast n a) q) m) 10 6), (mSeen M), (mFew M), (mBroken M)), ((mHolds M), (mMany M), (mOrder M), (mIsGood M), (mFar M)))), 0, 0) rfl ⟨(show ((-2147483648 : Int) ≤ ((mSort M) ((m : Int))) ∧ ((mSort M) ((m : Int))) ≤ 2147483647) ∧ (-2147483648 : Int) ≤ 6 ∧ 6 ≤ 2147483647 by omega), (show (0 : Int) ≤ (m : Int) ∧ (m : Int) < 100 by omega), trivial⟩ (fun h159 => ?_) (fun h159 => ?_)
                        · rw [if_neg (fun z => by rcases qi with ⟨g, -⟩ | ⟨-, g⟩; have z2 := z.2; omega; exact g z.1)] at hstep
                          have h9 := ih3 (m + 1) (by omega) (by omega)
                          rw [hstep] at h9
                          exact z_go c 2 (s1 := (134, [some (zR 32), some (zI a), some (zI (((m : Int) + 1)))], [], (zw sc B S Z L R (((mThrown M), (mWays M), (mOne M), (mTwo M), (mPages M), (mOrders M)), ((mSort M), (mTold M), (zlast n a), (mWithout M), I1, (zst T (zS0 T (zcB K n (zlast n a) q) m) 20 9)), ((zst T (zS0 T (zcB K n (zlast n a) q) m) 2 10), (zst T (zS0 T (zcB K n (zlast n a) q) m) 1 11), (zst T (zS0 T (zcB K n (zlast n a) q) m) 10 6), (mSeen M), (mFew M), (mBroken M)), ((mHolds M), (mMany M), (mOrder M), (mIsGood M), (mFar M)))), 0, 0)) rfl trivial h9
                        · refine z_cV c 4 k_6_77 zv_X6_get (pc := 170) (ls := [some (zR 32), some (zI a), some (zI ((m : Int)))]) (sk := [zR 32]) (h := (zw sc B S Z L R (((mThrown M), (mWays M), (mOne M), (mTwo M), (mPages M), (mOrders M)), ((mSort M), (mTold M), (zlast n a), (mWithout M), I1, (zst T (zS0 T (zcB K n (zlast n a) q) m) 20 9)), ((zst T (zS0 T (zcB K n (zlast n a) q) m) 2 10), (zst T (zS0 T (zcB K n (zlast n a) q) m) 1 11), (zst T (zS0 T (zcB K n (zlast n a) q) m) 10 6), (mSeen M), (mFew M), (mBroken M)), ((mHolds M), (mMany M), (mOrder M), (mIsGood M), (mFar M))))) (cs := 0) (ss := 0) (c_X6_get l sc B S Z L R (((mThrown M), (mWays M), (mOne M), (mTwo M), (mPages M), (mOrders M)), ((mSort M), (mTold M), (zlast n a), (mWithout M), I1, (zst T (zS0 T (zcB K n (zlast n a) q) m) 20 9)), ((zst T (zS0 T (zcB K n (zlast n a) q) m) 2 10), (zst T (zS0 T (zcB K n (zlast n a) q) m) 1 11), (zst T (zS0 T (zcB K n (zlast n a) q) m) 10 6), (mSeen M), (mFew M), (mBroken M)), ((mHolds M), (mMany M), (mOrder M), (mIsGood M), (mFar M))) ((m : Int)) 9 (by omega) (by omega)) rfl trivial rfl rfl ⟨Nat.le_refl _, Nat.le_refl _⟩ ?_
                          rintro _ _ ⟨rfl, rfl⟩
                          show V (170, [some (zR 32), some (zI a), some (zI ((m : Int)))], [zI (((mTold M) (12 * ((m : Int)) + 9))), zR 32], (zw sc B S Z L R (((mThrown M), (mWays M), (mOne M), (mTwo M), (mPages M), (mOrders M)), ((mSort M), (mTold M), (zlast n a), (mWithout M), I1, (zst T (zS0 T (zcB K n (zlast n a) q) m) 20 9)), ((zst T (zS0 T (zcB K n (zlast n a) q) m) 2 10), (zst T (zS0 T (zcB K n (zlast n a) q) m) 1 11), (zst T (zS0 T (zcB K n (zlast n a) q) m) 10 6), (mSeen M), (mFew M), (mBroken M)), ((mHolds M), (mMany M), (mOrder M), (mIsGood M), (mFar M)))), 0, 0)
                          rw [hM.2.2.2 ((m : Int)) 9 (by omega) (by omega) (by omega) (by omega)]
                          have q167 := hT ((m : Int)) 9 (by omega) (by omega) (by omega) (by omega)
                          show V (170, [some (zR 32), some (zI a), some (zI ((m : Int)))], [zI ((T (((m : Int)) * 12 + 9))), zR 32], (zw sc B S Z L R (((mThrown M), (mWays M), (mOne M), (mTwo M), (mPages M), (mOrders M)), ((mSort M), (mTold M), (zlast n a), (mWithout M), I1, (zst T (zS0 T (zcB K n (zlast n a) q) m) 20 9)), ((zst T (zS0 T (zcB K n (zlast n a) q) m) 2 10), (zst T (zS0 T (zcB K n (zlast n a) q) m) 1 11), (zst T (zS0 T (zcB K n (zlast n a) q) m) 10 6), (mSeen M), (mFew M), (mBroken M)), ((mHolds M), (mMany M), (mOrder M), (mIsGood M), (mFar M)))), 0, 0)
                          refine z_cV c 5 k_6_77 zv_X6_get (pc := 181) (ls := [some (zR 32), some (zI a), some (zI ((m : Int)))]) (sk := [zR 32]) (h := (zw sc B S Z L R (((mThrown M), (mWays M), (mOne M), (mTwo M), (mPages M), (mOrders M)), ((mSort M), (mTold M), (zlast n a), (mWithout M), I1, (T (((m : Int)) * 12 + 9))), ((zst T (zS0 T (zcB K n (zlast n a) q) m) 2 10), (zst T (zS0 T (zcB K n (zlast n a) q) m) 1 11), (zst T (zS0 T (zcB K n (zlast n a) q) m) 10 6), (mSeen M), (mFew M), (mBroken M)), ((mHolds M), (mMany M), (mOrder M), (mIsGood M), (mFar M))))) (cs := 0) (ss := 0) (c_X6_get l sc B S Z L R (((mThrown M), (mWays M), (mOne M), (mTwo M), (mPages M), (mOrders M)), ((mSort M), (mTold M), (zlast n a), (mWithout M), I1, (T (((m : Int)) * 12 + 9))), ((zst T (zS0 T (zcB K n (zlast n a) q) m) 2 10), (zst T (zS0 T (zcB K n (zlast n a) q) m) 1 11), (zst T (zS0 T (zcB K n (zlast n a) q) m) 10 6), (mSeen M), (mFew M), (mBroken M)), ((mHolds M), (mMany M), (mOrder M), (mIsGood M), (mFar M))) ((m : Int)) 10 (by omega) (by omega)) rfl trivial rfl rfl ⟨Nat.le_refl _, Nat.le_refl _⟩ ?_
                          rintro _ _ ⟨rfl, rfl⟩
                          show V (181, [some (zR 32), some (zI a), some (zI ((m : Int)))], [zI (((mTold M) (12 * ((m : Int)) + 10))), zR 32], (zw sc B S Z L R (((mThrown M), (mWays M), (mOne M), (mTwo M), (mPages M), (mOrders M)), ((mSort M), (mTold M), (zlast n a), (mWithout M), I1, (T (((m : Int)) * 12 + 9))), ((zst T (zS0 T (zcB K n (zlast n a) q) m) 2 10), (zst T (zS0 T (zcB K n (zlast n a) q) m) 1 11), (zst T (zS0 T (zcB K n (zlast n a) q) m) 10 6), (mSeen M), (mFew M), (mBroken M)), ((mHolds M), (mMany M), (mOrder M), (mIsGood M), (mFar M)))), 0, 0)
                          rw [hM.2.2.2 ((m : Int)) 10 (by omega) (by omega) (by omega) (by omega)]
                          have q178 := hT ((m : Int)) 10 (by omega) (by omega) (by omega) (by omega)
                          show V (181, [some (zR 32), some (zI a), some (zI ((m : Int)))], [zI ((T (((m : Int)) * 12 + 10))), zR 32], (zw sc B S Z L R (((mThrown M), (mWays M), (mOne M), (mTwo M), (mPages M), (mOrders M)), ((mSort M), (mTold M), (zlast n a), (mWithout M), I1, (T (((m : Int)) * 12 + 9))), ((zst T (zS0 T (zcB K n (zlast n a) q) m) 2 10), (zst T (zS0 T (zcB K n (zlast n a) q) m) 1 11), (zst T (zS0 T (zcB K n (zlast n a) q) m) 10 6), (mSeen M), (mFew M), (mBroken M)), ((mHolds M), (mMany M), (mOrder M), (mIsGood M), (mFar M)))), 0, 0)
                          refine z_cV c 5 k_6_77 zv_X6_get (pc := 192) (ls := [some (zR 32), some (zI a), some (zI ((m : Int)))]) (sk := [zR 32]) (h := (zw sc B S Z L R (((mThrown M), (mWays M), (mOne M), (mTwo M), (mPages M), (mOrders M)), ((mSort M), (mTold M), (zlast n a), (mWithout M), I1, (T (((m : Int)) * 12 + 9))), ((T (((m : Int)) * 12 + 10)), (zst T (zS0 T (zcB K n (zlast n a) q) m) 1 11), (zst T (zS0 T (zcB K n (zlast n a) q) m) 10 6), (mSeen M), (mFew M), (mBroken M)), ((mHolds M), (mMany M), (mOrder M), (mIsGood M), (mFar M))))) (cs := 0) (ss := 0) (c_X6_get l sc B S Z L R (((mThrown M), (mWays M), (mOne M), (mTwo M), (mPages M), (mOrders M)), ((mSort M), (mTold M), (zlast n a), (mWithout M), I1, (T (((m : Int)) * 12 + 9))), ((T (((m : Int)) * 12 + 10)), (zst T (zS0 T (zcB K n (zlast n a) q) m) 1 11), (zst T (zS0 T (zcB K n (zlast n a) q) m) 10 6), (mSeen M), (mFew M), (mBroken M)), ((mHolds M), (mMany M), (mOrder M), (mIsGood M), (mFar M))) ((m : Int)) 11 (by omega) (by omega)) rfl trivial rfl rfl ⟨Nat.le_refl _, Nat.le_refl _⟩ ?_
                          rintro _ _ ⟨rfl, rfl⟩
                          show V (192, [some (zR 32), some (zI a), some (zI ((m : Int)))], [zI (((mTold M) (12 * ((m : Int)) + 11))), zR 32], (zw sc B S Z L R (((mThrown M), (mWays M), (mOne M), (mTwo M), (mPages M), (mOrders M)), ((mSort M), (mTold M), (zlast n a), (mWithout M), I1, (T (((m : Int)) * 12 + 9))), ((T (((m : Int)) * 12 + 10)), (zst T (zS0 T (zcB K n (zlast n a) q) m) 1 11), (zst T (zS0 T (zcB K n (zlast n a) q) m) 10 6), (mSeen M), (mFew M), (mBroken M)), ((mHolds M), (mMany M), (mOrder M), (mIsGood M), (mFar M)))), 0, 0)
                          rw [hM.2.2.2 ((m : Int)) 11 (by omega) (by omega) (by omega) (by omega)]
                          have q189 := hT ((m : Int)) 11 (by omega) (by omega) (by omega) (by omega)
                          show V (192, [some (zR 32), some (zI a), some (zI ((m : Int)))], [zI ((T (((m : Int)) * 12 + 11))), zR 32], (zw sc B S Z L R (((mThrown M), (mWays M), (mOne M), (mTwo M), (mPages M), (mOrders M)), ((mSort M), (mTold M), (zlast n a), (mWithout M), I1, (T (((m : Int)) * 12 + 9))), ((T (((m : Int)) * 12 + 10)), (zst T (zS0 T (zcB K n (zlast n a) q) m) 1 11), (zst T (zS0 T (zcB K n (zlast n a) q) m) 10 6), (mSeen M), (mFew M), (mBroken M)), ((mHolds M), (mMany M), (mOrder M), (mIsGood M), (mFar M)))), 0, 0)
                          refine z_cV c 5 k_6_77 zv_X6_get (pc := 203) (ls := [some (zR 32), some (zI a), some (zI ((m : Int)))]) (sk := [zR 32]) (h := (zw sc B S Z L R (((mThrown M), (mWays M), (mOne M), (mTwo M), (mPages M), (mOrders M)), ((mSort M), (mTold M), (zlast n a), (mWithout M), I1, (T (((m : Int)) * 12 + 9))), ((T (((m : Int)) * 12 + 10)), (T (((m : Int)) * 12 + 11)), (zst T (zS0 T (zcB K n (zlast n a) q) m) 10 6), (mSeen M), (mFew M), (mBroken M)), ((mHolds M), (mMany M), (mOrder M), (mIsGood M), (mFar M))))) (cs := 0) (ss := 0) (c_X6_get l sc B S Z L R (((mThrown M), (mWays M), (mOne M), (mTwo M), (mPages M), (mOrders M)), ((mSort M), (mTold M), (zlast n a), (mWithout M), I1, (T (((m : Int)) * 12 + 9))), ((T (((m : Int)) * 12 + 10)), (T (((m : Int)) * 12 + 11)), (zst T (zS0 T (zcB K n (zlast n a) q) m) 10 6), (mSeen M), (mFew M), (mBroken M)), ((mHolds M), (mMany M), (mOrder M), (mIsGood M), (mFar M))) ((m : Int)) 6 (by omega) (by omega)) rfl trivial rfl rfl ⟨Nat.le_refl _, Nat.le_refl _⟩ ?_
                          rintro _ _ ⟨rfl, rfl⟩
                          show V (203, [some (zR 32), some (zI a), some (zI ((m : Int)))], [zI (((mTold M) (12 * ((m : Int)) + 6))), zR 32], (zw sc B S Z L R (((mThrown M), (mWays M), (mOne M), (mTwo M), (mPages M), (mOrders M)), ((mSort M), (mTold M), (zlast n a), (mWithout M), I1, (T (((m : Int)) * 12 + 9))), ((T (((m : Int)) * 12 + 10)), (T (((m : Int)) * 12 + 11)), (zst T (zS0 T (zcB K n (zlast n a) q) m) 10 6), (mSeen M), (mFew M), (mBroken M)), ((mHolds M), (mMany M), (mOrder M), (mIsGood M), (mFar M)))), 0, 0)
                          rw [hM.2.2.2 ((m : Int)) 6 (by omega) (by omega) (by omega) (by omega)]
                          have q200 := hT ((m : Int)) 6 (by omega) (by omega) (by omega) (by omega)
                          show V (203, [some (zR 32), some (zI a), some (zI ((m : Int)))], [zI ((T (((m : Int)) * 12 + 6))), zR 32], (zw sc B S Z L R (((mThrown M), (mWays M), (mOne M), (mTwo M), (mPages M), (mOrders M)), ((mSort M), (mTold M), (zlast n a), (mWithout M), I1, (T (((m : Int)) * 12 + 9))), ((T (((m : Int)) * 12 + 10)), (T (((m : Int)) * 12 + 11)), (zst T (zS0 T (zcB K n (zlast n a) q) m) 10 6), (mSeen M), (mFew M), (mBroken M)), ((mHolds M), (mMany M), (mOrder M), (mIsGood M), (mFar M)))), 0, 0)
                          refine z_go c 1 (s1 := (206, [some (zR 32), some (zI a), some (zI ((m : Int)))], [], (zw sc B S Z L R (((mThrown M), (mWays M), (mOne M), (mTwo M), (mPages M), (mOrders M)), ((mSort M), (mTold M), (zlast n a), (mWithout M), I1, (T (((m : Int)) * 12 + 9))), ((T (((m : Int)) * 12 + 10)), (T (((m : Int)) * 12 + 11)), (T (((m : Int)) * 12 + 6)), (mSeen M), (mFew M), (mBroken M)), ((mHolds M), (mMany M), (mOrder M), (mIsGood M), (mFar M)))), 0, 0)) rfl trivial ?_
                          rw [if_pos ⟨by rcases qi with ⟨-, g⟩ | ⟨g, -⟩; exact g; exfalso; omega, by omega⟩] at hstep
                          have hst : ∀ d f, zst T (zS0 T (zcB K n (zlast n a) q) (m + 1)) d f = T ((m : Int) * 12 + f) := fun d f => by
                            rw [hstep]; unfold zst; rw [if_neg (by omega)]
                          have h9 := ih3 (m + 1) (by omega) (by omega)
                          rw [hst, hst, hst, hst] at h9
                          exact z_go c 2 (s1 := (134, [some (zR 32), some (zI a), some (zI (((m : Int) + 1)))], [], (zw sc B S Z L R (((mThrown M), (mWays M), (mOne M), (mTwo M), (mPages M), (mOrders M)), ((mSort M), (mTold M), (zlast n a), (mWithout M), I1, (T (((m : Int)) * 12 + 9))), ((T (((m : Int)) * 12 + 10)), (T (((m : Int)) * 12 + 11)), (T (((m : Int)) * 12 + 6)), (mSeen M), (mFew M), (mBroken M)), ((mHolds M), (mMany M), (mOrder M), (mIsGood M), (mFar M)))), 0, 0)) rfl trivial h9
                exact loop3 102 0 (by omega) (by omega)
              · have qs := hM.2.2.1 (m : Int) (by omega) (by omega)
                have qt := hT (m : Int) 0 (by omega) (by omega) (by omega) (by omega)
                refine z_br c 5 (¬ ((mSort M) ((m : Int))) = 5) (104, [some (zR 32), some (zI a), some (zI ((m : Int)))], [], (zw sc B S Z L R (((mThrown M), (mWays M), (mOne M), (mTwo M), (mPages M), (mOrders M)), ((mSort M), (mTold M), (zlast n a), (mWithout M), I1, (mNeeds M)), ((mPersons M), (mGaps M), (mWeight M), (mSeen M), (mFew M), (mBroken M)), ((mHolds M), (mMany M), (mOrder M), (mIsGood M), (mFar M)))), 0, 0) (83, [some (zR 32), some (zI a), some (zI ((m : Int)))], [], (zw sc B S Z L R (((mThrown M), (mWays M), (mOne M), (mTwo M), (mPages M), (mOrders M)), ((mSort M), (mTold M), (zlast n a), (mWithout M), I1, (mNeeds M)), ((mPersons M), (mGaps M), (mWeight M), (mSeen M), (mFew M), (mBroken M)), ((mHolds M), (mMany M), (mOrder M), (mIsGood M), (mFar M)))), 0, 0) rfl ⟨(show ((-2147483648 : Int) ≤ ((mSort M) ((m : Int))) ∧ ((mSort M) ((m : Int))) ≤ 2147483647) ∧ (-2147483648 : Int) ≤ 5 ∧ 5 ≤ 2147483647 by omega), (show (0 : Int) ≤ (m : Int) ∧ (m : Int) < 100 by omega), trivial⟩ (fun h80 => ?_) (fun h80 => ?_)
                · exact z_go c 2 (s1 := (65, [some (zR 32), some (zI a), some (zI (((m : Int) + 1)))], [], (zw sc B S Z L R (((mThrown M), (mWays M), (mOne M), (mTwo M), (mPages M), (mOrders M)), ((mSort M), (mTold M), (zlast n a), (mWithout M), I1, (mNeeds M)), ((mPersons M), (mGaps M), (mWeight M), (mSeen M), (mFew M), (mBroken M)), ((mHolds M), (mMany M), (mOrder M), (mIsGood M), (mFar M)))), 0, 0)) rfl trivial (ih2 (m + 1) _ (by omega) (by omega) (zI2_skip hKs (by omega) hI (fun z => by omega)))
                · refine z_br c 3 ((m : Int) = (mWithout M)) (104, [some (zR 32), some (zI a), some (zI ((m : Int)))], [], (zw sc B S Z L R (((mThrown M), (mWays M), (mOne M), (mTwo M), (mPages M), (mOrders M)), ((mSort M), (mTold M), (zlast n a), (mWithout M), I1, (mNeeds M)), ((mPersons M), (mGaps M), (mWeight M), (mSeen M), (mFew M), (mBroken M)), ((mHolds M), (mMany M), (mOrder M), (mIsGood M), (mFar M)))), 0, 0) (91, [some (zR 32), some (zI a), some (zI ((m : Int)))], [], (zw sc B S Z L R (((mThrown M), (mWays M), (mOne M), (mTwo M), (mPages M), (mOrders M)), ((mSort M), (mTold M), (zlast n a), (mWithout M), I1, (mNeeds M)), ((mPersons M), (mGaps M), (mWeight M), (mSeen M), (mFew M), (mBroken M)), ((mHolds M), (mMany M), (mOrder M), (mIsGood M), (mFar M)))), 0, 0) rfl ⟨(show ((-2147483648 : Int) ≤ (m : Int) ∧ (m : Int) ≤ 2147483647) ∧ (-2147483648 : Int) ≤ (mWithout M) ∧ (mWithout M) ≤ 2147483647 by omega), trivial⟩ (fun h88 => ?_) (fun h88 => ?_)
                  · exact z_go c 2 (s1 := (65, [some (zR 32), some (zI a), some (zI (((m : Int) + 1)))], [], (zw sc B S Z L R (((mThrown M), (mWays M), (mOne M), (mTwo M), (mPages M), (mOrders M)), ((mSort M), (mTold M), (zlast n a), (mWithout M), I1, (mNeeds M)), ((mPersons M), (mGaps M), (mWeight M), (mSeen M), (mFew M), (mBroken M)), ((mHolds M), (mMany M), (mOrder M), (mIsGood M), (mFar M)))), 0, 0)) rfl trivial (ih2 (m + 1) _ (by omega) (by omega) (zI2_skip hKs (by omega) hI (fun z => by omega)))
                  · have ht : 0 ≤ T ((m : Int) * 12 + 8) ∧ T ((m : Int) * 12 + 8) < (m : Int) := by
                      have hvp := hv m (by omega)
                      unfold zvp at hvp
                      omega
                    refine z_cV c 5 k_6_77 zv_X6_get (pc := 102) (ls := [some (zR 32), some (zI a), some (zI ((m : Int)))]) (sk := [zR 37]) (h := (zw sc B S Z L R (((mThrown M), (mWays M), (mOne M), (mTwo M), (mPages M), (mOrders M)), ((mSort M), (mTold M), (zlast n a), (mWithout M), I1, (mNeeds M)), ((mPersons M), (mGaps M), (mWeight M), (mSeen M), (mFew M), (mBroken M)), ((mHolds M), (mMany M), (mOrder M), (mIsGood M), (mFar M))))) (cs := 0) (ss := 0) (c_X6_get l sc B S Z L R (((mThrown M), (mWays M), (mOne M), (mTwo M), (mPages M), (mOrders M)), ((mSort M), (mTold M), (zlast n a), (mWithout M), I1, (mNeeds M)), ((mPersons M), (mGaps M), (mWeight M), (mSeen M), (mFew M), (mBroken M)), ((mHolds M), (mMany M), (mOrder M), (mIsGood M), (mFar M))) ((m : Int)) 8 (by omega) (by omega)) rfl trivial rfl rfl ⟨Nat.le_refl _, Nat.le_refl _⟩ ?_
                    rintro _ _ ⟨rfl, rfl⟩
                    show V (102, [some (zR 32), some (zI a), some (zI ((m : Int)))], [zI (((mTold M) (12 * ((m : Int)) + 8))), zR 37], (zw sc B S Z L R (((mThrown M), (mWays M), (mOne M), (mTwo M), (mPages M), (mOrders M)), ((mSort M), (mTold M), (zlast n a), (mWithout M), I1, (mNeeds M)), ((mPersons M), (mGaps M), (mWeight M), (mSeen M), (mFew M), (mBroken M)), ((mHolds M), (mMany M), (mOrder M), (mIsGood M), (mFar M)))), 0, 0)
                    rw [hM.2.2.2 ((m : Int)) 8 (by omega) (by omega) (by omega) (by omega)]
                    have q99 := hT ((m : Int)) 8 (by omega) (by omega) (by omega) (by omega)
                    show V (102, [some (zR 32), some (zI a), some (zI ((m : Int)))], [zI ((T (((m : Int)) * 12 + 8))), zR 37], (zw sc B S Z L R (((mThrown M), (mWays M), (mOne M), (mTwo M), (mPages M), (mOrders M)), ((mSort M), (mTold M), (zlast n a), (mWithout M), I1, (mNeeds M)), ((mPersons M), (mGaps M), (mWeight M), (mSeen M), (mFew M), (mBroken M)), ((mHolds M), (mMany M), (mOrder M), (mIsGood M), (mFar M)))), 0, 0)
                    refine z_go c 2 (s1 := (104, [some (zR 32), some (zI a), some (zI ((m : Int)))], [], (zw sc B S Z L R (((mThrown M), (mWays M), (mOne M), (mTwo M), (mPages M), (mOrders M)), ((mSort M), (mTold M), (zlast n a), (mWithout M), (zup I1 ((T (((m : Int)) * 12 + 8))) 0), (mNeeds M)), ((mPersons M), (mGaps M), (mWeight M), (mSeen M), (mFew M), (mBroken M)), ((mHolds M), (mMany M), (mOrder M), (mIsGood M), (mFar M)))), 0, 0)) rfl ⟨(show ((0 : Int) ≤ (T (((m : Int)) * 12 + 8)) ∧ (T (((m : Int)) * 12 + 8)) < 100) ∧ (0 = (0 : Int) ∨ 0 = 1) by omega), trivial⟩ ?_
                    exact z_go c 2 (s1 := (65, [some (zR 32), some (zI a), some (zI (((m : Int) + 1)))], [], (zw sc B S Z L R (((mThrown M), (mWays M), (mOne M), (mTwo M), (mPages M), (mOrders M)), ((mSort M), (mTold M), (zlast n a), (mWithout M), (zup I1 ((T (((m : Int)) * 12 + 8))) 0), (mNeeds M)), ((mPersons M), (mGaps M), (mWeight M), (mSeen M), (mFew M), (mBroken M)), ((mHolds M), (mMany M), (mOrder M), (mIsGood M), (mFar M)))), 0, 0)) rfl trivial (ih2 (m + 1) _ (by omega) (by omega) (zI2_put hKs (by omega) hI (by omega) (by omega) rfl))
          exact loop2 102 0 _ (by omega) (by omega) hI2
        · refine z_br c 6 ((zlast n a) < (m : Int)) (55, [some (zR 32), some (zI a), some (zI ((m : Int)))], [zI ((m : Int)), zR 37], (zw sc B S Z L R (((mThrown M), (mWays M), (mOne M), (mTwo M), (mPages M), (mOrders M)), ((mSort M), (mTold M), (zlast n a), (mWithout M), I1, (mNeeds M)), ((mPersons M), (mGaps M), (mWeight M), (mSeen M), (mFew M), (mBroken M)), ((mHolds M), (mMany M), (mOrder M), (mIsGood M), (mFar M)))), 0, 0) (43, [some (zR 32), some (zI a), some (zI ((m : Int)))], [zI ((m : Int)), zR 37], (zw sc B S Z L R (((mThrown M), (mWays M), (mOne M), (mTwo M), (mPages M), (mOrders M)), ((mSort M), (mTold M), (zlast n a), (mWithout M), I1, (mNeeds M)), ((mPersons M), (mGaps M), (mWeight M), (mSeen M), (mFew M), (mBroken M)), ((mHolds M), (mMany M), (mOrder M), (mIsGood M), (mFar M)))), 0, 0) rfl ⟨(show ((-2147483648 : Int) ≤ (m : Int) ∧ (m : Int) ≤ 2147483647) ∧ (-2147483648 : Int) ≤ (zlast n a) ∧ (zlast n a) ≤ 2147483647 by omega), trivial⟩ (fun h40 => ?_) (fun h40 => ?_)
          · refine z_go c 4 (s1 := (22, [some (zR 32), some (zI a), some (zI (((m : Int) + 1)))], [], (zw sc B S Z L R (((mThrown M), (mWays M), (mOne M), (mTwo M), (mPages M), (mOrders M)), ((mSort M), (mTold M), (zlast n a), (mWithout M), (zup I1 ((m : Int)) 0), (mNeeds M)), ((mPersons M), (mGaps M), (mWeight M), (mSeen M), (mFew M), (mBroken M)), ((mHolds M), (mMany M), (mOrder M), (mIsGood M), (mFar M)))), 0, 0)) rfl ⟨(show ((0 : Int) ≤ (m : Int) ∧ (m : Int) < 100) ∧ (0 = (0 : Int) ∨ 0 = 1) by omega), trivial⟩ ?_
            exact ih (m + 1) _ (by omega) (by omega) (zI1_put hI (by omega))
          · refine z_br c 3 ((m : Int) = (mWithout M)) (55, [some (zR 32), some (zI a), some (zI ((m : Int)))], [zI ((m : Int)), zR 37], (zw sc B S Z L R (((mThrown M), (mWays M), (mOne M), (mTwo M), (mPages M), (mOrders M)), ((mSort M), (mTold M), (zlast n a), (mWithout M), I1, (mNeeds M)), ((mPersons M), (mGaps M), (mWeight M), (mSeen M), (mFew M), (mBroken M)), ((mHolds M), (mMany M), (mOrder M), (mIsGood M), (mFar M)))), 0, 0) (51, [some (zR 32), some (zI a), some (zI ((m : Int)))], [zI ((m : Int)), zR 37], (zw sc B S Z L R (((mThrown M), (mWays M), (mOne M), (mTwo M), (mPages M), (mOrders M)), ((mSort M), (mTold M), (zlast n a), (mWithout M), I1, (mNeeds M)), ((mPersons M), (mGaps M), (mWeight M), (mSeen M), (mFew M), (mBroken M)), ((mHolds M), (mMany M), (mOrder M), (mIsGood M), (mFar M)))), 0, 0) rfl ⟨(show ((-2147483648 : Int) ≤ (m : Int) ∧ (m : Int) ≤ 2147483647) ∧ (-2147483648 : Int) ≤ (mWithout M) ∧ (mWithout M) ≤ 2147483647 by omega), trivial⟩ (fun h48 => ?_) (fun h48 => ?_)
            · refine z_go c 4 (s1 := (22, [some (zR 32), some (zI a), some (zI (((m : Int) + 1)))], [], (zw sc B S Z L R (((mThrown M), (mWays M), (mOne M), (mTwo M), (mPages M), (mOrders M)), ((mSort M), (mTold M), (zlast n a), (mWithout M), (zup I1 ((m : Int)) 0), (mNeeds M)), ((mPersons M), (mGaps M), (mWeight M), (mSeen M), (mFew M), (mBroken M)), ((mHolds M), (mMany M), (mOrder M), (mIsGood M), (mFar M)))), 0, 0)) rfl ⟨(show ((0 : Int) ≤ (m : Int) ∧ (m : Int) < 100) ∧ (0 = (0 : Int) ∨ 0 = 1) by omega), trivial⟩ ?_
              exact ih (m + 1) _ (by omega) (by omega) (zI1_put hI (by omega))
            · refine z_go c 5 (s1 := (22, [some (zR 32), some (zI a), some (zI (((m : Int) + 1)))], [], (zw sc B S Z L R (((mThrown M), (mWays M), (mOne M), (mTwo M), (mPages M), (mOrders M)), ((mSort M), (mTold M), (zlast n a), (mWithout M), (zup I1 ((m : Int)) 1), (mNeeds M)), ((mPersons M), (mGaps M), (mWeight M), (mSeen M), (mFew M), (mBroken M)), ((mHolds M), (mMany M), (mOrder M), (mIsGood M), (mFar M)))), 0, 0)) rfl ⟨(show ((0 : Int) ≤ (m : Int) ∧ (m : Int) < 100) ∧ (1 = (0 : Int) ∨ 1 = 1) by omega), trivial⟩ ?_
              exact ih (m + 1) _ (by omega) (by omega) (zI1_put hI (by omega))
    exact loop 101 0 _ (by omega) (by omega) (fun j a b => by omega)
  refine z_br c 3 (¬ a = (-9)) (16, [some (zR 32), some (zI a), none], [zR 32], (zw sc B S Z L R M), 0, 0) (7, [some (zR 32), some (zI a), none], [zR 32], (zw sc B S Z L R M), 0, 0) rfl ⟨(show ((-2147483648 : Int) ≤ a ∧ a ≤ 2147483647) ∧ (-2147483648 : Int) ≤ (-9) ∧ (-9) ≤ 2147483647 by omega), trivial⟩ (fun h4 => ?_) (fun h4 => ?_)
  · refine z_go c 1 (s1 := (17, [some (zR 32), some (zI a), none], [zI a, zR 32], (zw sc B S Z L R M), 0, 0)) rfl trivial ?_
    have el : a = (zlast n a) := by unfold zlast; split <;> omega
    rw [← el] at J17
    exact J17
  · refine z_go c 5 (s1 := (17, [some (zR 32), some (zI a), none], [zI (((mPages M) - 1)), zR 32], (zw sc B S Z L R M), 0, 0)) rfl trivial ?_
    have el : ((mPages M) - 1) = (zlast n a) := by unfold zlast; split <;> omega
    rw [← el] at J17
    exact J17
