/-! a way as it is seen: weights, the latest good order, the ground -/
def zwm (W : Int → Int) (k : Int) : Nat → Int
  | 0 => 0
  | m + 1 => zwm W k m + W (k + (m : Int))
theorem zwm_rng {W : Int → Int} (hW : ∀ j, 0 ≤ j → j ≤ 2 → 0 ≤ W j ∧ W j ≤ 1000) {k : Int} (hk : 0 ≤ k) : ∀ m : Nat, k + (m : Int) ≤ 3 → 0 ≤ zwm W k m ∧ zwm W k m ≤ 1000 * (m : Int)
  | 0, _ => ⟨Int.le_refl _, Int.le_refl _⟩
  | m + 1, h => by
    have h1 := zwm_rng hW hk m (by omega)
    have h2 := hW (k + (m : Int)) (by omega) (by omega)
    show 0 ≤ zwm W k m + W (k + (m : Int)) ∧ zwm W k m + W (k + (m : Int)) ≤ 1000 * ((m + 1 : Nat) : Int)
    omega
def zwk (W : Int → Int) (k : Int) : Int := zwm W k (3 - k).toNat
/-- the latest of the first good orders up to a year -/
def zlg (T : Int → Int) (n : Int) (g : Int → Int) (y : Int) : Nat → Int
  | 0 => -9
  | c + 1 => if zrd T n (g (c : Int)) 3 ≤ y then g (c : Int) else zlg T n g y c
theorem zlg_rng {T : Int → Int} {n : Int} {g : Int → Int} {y : Int} : ∀ c : Nat, (∀ i, 0 ≤ i → i < (c : Int) → -9 ≤ g i ∧ g i < 100) → -9 ≤ zlg T n g y c ∧ zlg T n g y c < 100
  | 0, _ => ⟨Int.le_refl _, by show (-9 : Int) < 100; decide⟩
  | c + 1, h => by
    have h1 := zlg_rng (T := T) (n := n) (y := y) c (fun i a b => h i a (by omega))
    have h2 := h (c : Int) (by omega) (by omega)
    show -9 ≤ (if zrd T n (g (c : Int)) 3 ≤ y then g (c : Int) else zlg T n g y c) ∧ (if zrd T n (g (c : Int)) 3 ≤ y then g (c : Int) else zlg T n g y c) < 100
    split <;> omega
set_option maxRecDepth 4000 in
theorem c_X3_weightOf (l : Launch) (sc : ZSc) (B : ZBk) (S Z : ZSg) (L : ZLn) (R : ZRd) (M : ZMd) (k : Int) (hk : 0 ≤ k ∧ k ≤ 2) : zMet l m_X3_weightOf [zR 5, zI k] (zw sc B S Z L R M) (zI1 (zwk (sW S) k) (zw sc B S Z L R M)) := by
  refine z_method g_X3_weightOf [some (zR 5), some (zI k), none, none] rfl rfl (fun V c => ?_)
  refine z_go c 4 (s1 := (4, [some (zR 5), some (zI k), some (zI 0), some (zI k)], [], (zw sc B S Z L R M), 0, 0)) rfl trivial ?_
  have loop : ∀ (q m : Nat), 3 - k - (m : Int) < (q : Int) → k + (m : Int) ≤ 3 → V (4, [some (zR 5), some (zI k), some (zI ((zwm (sW S) k m))), some (zI ((k + (m : Int))))], [], (zw sc B S Z L R M), 0, 0) := by
    intro q
    induction q with
    | zero => intro m h1 h2; exfalso; omega
    | succ q ih =>
      intro m hm hk3
      refine z_br c 2 (3 ≤ (k + (m : Int))) (26, [some (zR 5), some (zI k), some (zI ((zwm (sW S) k m))), some (zI ((k + (m : Int))))], [], (zw sc B S Z L R M), 0, 0) (9, [some (zR 5), some (zI k), some (zI ((zwm (sW S) k m))), some (zI ((k + (m : Int))))], [], (zw sc B S Z L R M), 0, 0) rfl ⟨(show ((-2147483648 : Int) ≤ (k + (m : Int)) ∧ (k + (m : Int)) ≤ 2147483647) ∧ (-2147483648 : Int) ≤ 3 ∧ 3 ≤ 2147483647 by omega), trivial⟩ (fun h6 => ?_) (fun h6 => ?_)
      · obtain rfl : m = (3 - k).toNat := by omega
        exact z_re c 1 (v := some (zI ((zwm (sW S) k (3 - k).toNat)))) (h := (zw sc B S Z L R M)) (cs := 0) (ss := 0) rfl trivial trivial ⟨Nat.le_refl _, Nat.le_refl _⟩ ⟨rfl, rfl⟩
      · refine z_cS c 4 k_3_84 zv_X5_at (pc := 18) (ls := [some (zR 5), some (zI k), some (zI ((zwm (sW S) k m))), some (zI ((k + (m : Int))))]) (sk := [zI ((zwm (sW S) k m))]) (h := (zw sc B S Z L R M)) (cs := 0) (ss := 0) (c_X5_at l (zw sc B S Z L R M) 12 3 (sW S) ((k + (m : Int))) rfl (by decide) (by omega)) rfl trivial rfl ⟨Nat.le_refl _, Nat.le_refl _⟩ ?_
        rintro _ _ ⟨rfl, rfl⟩
        rw [zat_in (by omega)]
        show V (18, [some (zR 5), some (zI k), some (zI ((zwm (sW S) k m))), some (zI ((k + (m : Int))))], [zI (((sW S) ((k + (m : Int))))), zI ((zwm (sW S) k m))], (zw sc B S Z L R M), 0, 0)
        refine z_go c 3 (s1 := (23, [some (zR 5), some (zI k), some (zI (((zwm (sW S) k m) + ((sW S) ((k + (m : Int))))))), some (zI (((k + (m : Int)) + 1)))], [], (zw sc B S Z L R M), 0, 0)) rfl trivial ?_
        have e9 : k + (m : Int) + 1 = k + ((m + 1 : Nat) : Int) := by omega
        rw [e9]
        refine z_go c 1 (s1 := (4, [some (zR 5), some (zI k), some (zI (((zwm (sW S) k m) + ((sW S) ((k + (m : Int))))))), some (zI ((k + ((m + 1 : Nat) : Int))))], [], (zw sc B S Z L R M), 0, 0)) rfl trivial ?_
        exact ih (m + 1) (by omega) (by omega)
  have e8 : k = k + ((0 : Nat) : Int) := by omega
  have h9 := loop 4 0 (by omega) (by omega)
  rw [← e8] at h9
  exact h9
set_option maxRecDepth 4000 in
theorem c_X3_latestGood (l : Launch) (sc : ZSc) (B : ZBk) (S Z : ZSg) (L : ZLn) (R : ZRd) (M : ZMd) (y : Int) (hn : 0 ≤ bN B ∧ bN B ≤ 100) (hT : zBt (bT B) (bN B)) (hg : 0 ≤ sGc S ∧ sGc S ≤ 20) (hgr : ∀ i, 0 ≤ i → i < sGc S → -9 ≤ sG S i ∧ sG S i < 100) (hy : 0 ≤ y ∧ y ≤ 1000) : zMet l m_X3_latestGood [zR 5, zI y] (zw sc B S Z L R M) (zI1 (zlg (bT B) (bN B) (sG S) y (sGc S).toNat) (zw sc B S Z L R M)) := by
  refine z_method g_X3_latestGood [some (zR 5), some (zI y), none, none] rfl rfl (fun V c => ?_)
  refine z_go c 5 (s1 := (7, [some (zR 5), some (zI y), some (zI (((sGc S) - 1))), none], [], (zw sc B S Z L R M), 0, 0)) rfl trivial ?_
  have loop : ∀ (c1 : Nat) (x3 : Option ZV), (c1 : Int) ≤ sGc S → zlg (bT B) (bN B) (sG S) y (sGc S).toNat = zlg (bT B) (bN B) (sG S) y c1 → V (7, [some (zR 5), some (zI y), some (zI (((c1 : Int) - 1))), x3], [], (zw sc B S Z L R M), 0, 0) := by
    intro c1
    induction c1 with
    | zero =>
      intro x3 hc hlg
      refine z_br c 1 ((((0 : Nat) : Int) - 1) < 0) (41, [some (zR 5), some (zI y), some (zI ((((0 : Nat) : Int) - 1))), x3], [], (zw sc B S Z L R M), 0, 0) (11, [some (zR 5), some (zI y), some (zI ((((0 : Nat) : Int) - 1))), x3], [], (zw sc B S Z L R M), 0, 0) rfl ⟨(show (-2147483648 : Int) ≤ (((0 : Nat) : Int) - 1) ∧ (((0 : Nat) : Int) - 1) ≤ 2147483647 by omega), trivial⟩ (fun h8 => ?_) (fun h8 => by exfalso; omega)
      exact z_re c 1 (v := some (zI ((-9)))) (h := (zw sc B S Z L R M)) (cs := 0) (ss := 0) rfl trivial trivial ⟨Nat.le_refl _, Nat.le_refl _⟩ ⟨by rw [hlg]; rfl, rfl⟩
    | succ c1 ih =>
      intro x3 hc hlg
      have hlg3 : zlg (bT B) (bN B) (sG S) y (c1 + 1) = if zrd (bT B) (bN B) (sG S (c1 : Int)) 3 ≤ y then sG S (c1 : Int) else zlg (bT B) (bN B) (sG S) y c1 := rfl
      have e7 : ((c1 + 1 : Nat) : Int) - 1 = (c1 : Int) := by omega
      rw [e7]
      have hgi := hgr (c1 : Int) (by omega) (by omega)
      refine z_br c 1 ((c1 : Int) < 0) (41, [some (zR 5), some (zI y), some (zI ((c1 : Int))), x3], [], (zw sc B S Z L R M), 0, 0) (11, [some (zR 5), some (zI y), some (zI ((c1 : Int))), x3], [], (zw sc B S Z L R M), 0, 0) rfl ⟨(show (-2147483648 : Int) ≤ (c1 : Int) ∧ (c1 : Int) ≤ 2147483647 by omega), trivial⟩ (fun h8 => by exfalso; omega) (fun h8 => ?_)
      refine z_cS c 3 k_3_84 zv_X5_at (pc := 19) (ls := [some (zR 5), some (zI y), some (zI ((c1 : Int))), x3]) (sk := []) (h := (zw sc B S Z L R M)) (cs := 0) (ss := 0) (c_X5_at l (zw sc B S Z L R M) 14 20 (sG S) ((c1 : Int)) rfl (by decide) (by omega)) rfl trivial rfl ⟨Nat.le_refl _, Nat.le_refl _⟩ ?_
      rintro _ _ ⟨rfl, rfl⟩
      rw [zat_in (by omega)]
      show V (19, [some (zR 5), some (zI y), some (zI ((c1 : Int))), x3], [zI (((sG S) ((c1 : Int))))], (zw sc B S Z L R M), 0, 0)
      refine z_cV c 5 k_3_66 zv_X0_read (pc := 29) (ls := [some (zR 5), some (zI y), some (zI ((c1 : Int))), some (zI (((sG S) ((c1 : Int)))))]) (sk := []) (h := (zw sc B S Z L R M)) (cs := 0) (ss := 0) (c_X0_read l sc B S Z L R M (((sG S) ((c1 : Int)))) 3 (show 0 ≤ (bN B) ∧ (bN B) ≤ 100 by omega) (by omega) (by omega)) rfl trivial rfl rfl ⟨Nat.le_refl _, Nat.le_refl _⟩ ?_
      rintro _ _ ⟨rfl, rfl⟩
      have q26 := zrd_rng hT (((sG S) ((c1 : Int)))) 3
      show V (29, [some (zR 5), some (zI y), some (zI ((c1 : Int))), some (zI (((sG S) ((c1 : Int)))))], [zI ((zrd ((bT B)) ((bN B)) (((sG S) ((c1 : Int)))) 3))], (zw sc B S Z L R M), 0, 0)
      refine z_br c 1 (y < (zrd ((bT B)) ((bN B)) (((sG S) ((c1 : Int)))) 3)) (35, [some (zR 5), some (zI y), some (zI ((c1 : Int))), some (zI (((sG S) ((c1 : Int)))))], [], (zw sc B S Z L R M), 0, 0) (33, [some (zR 5), some (zI y), some (zI ((c1 : Int))), some (zI (((sG S) ((c1 : Int)))))], [], (zw sc B S Z L R M), 0, 0) rfl ⟨(show ((-2147483648 : Int) ≤ (zrd ((bT B)) ((bN B)) (((sG S) ((c1 : Int)))) 3) ∧ (zrd ((bT B)) ((bN B)) (((sG S) ((c1 : Int)))) 3) ≤ 2147483647) ∧ (-2147483648 : Int) ≤ y ∧ y ≤ 2147483647 by omega), trivial⟩ (fun h30 => ?_) (fun h30 => ?_)
      · have hlg2 : zlg (bT B) (bN B) (sG S) y (sGc S).toNat = zlg (bT B) (bN B) (sG S) y c1 := by rw [hlg, hlg3, if_neg (by omega)]
        refine z_go c 2 (s1 := (7, [some (zR 5), some (zI y), some (zI ((c1 : Int) - 1)), some (zI (sG S (c1 : Int)))], [], (zw sc B S Z L R M), 0, 0)) rfl trivial ?_
        exact ih _ (by omega) hlg2
      · exact z_re c 1 (v := some (zI (((sG S) ((c1 : Int)))))) (h := (zw sc B S Z L R M)) (cs := 0) (ss := 0) rfl trivial trivial ⟨Nat.le_refl _, Nat.le_refl _⟩ ⟨by rw [hlg, hlg3, if_pos (by omega)], rfl⟩
  have e8 : sGc S = ((sGc S).toNat : Int) := by omega
  have h9 := loop (sGc S).toNat none (by omega) rfl
  rw [← e8] at h9
  exact h9
set_option maxRecDepth 4000 in
theorem c_X3_hasGood (l : Launch) (sc : ZSc) (B : ZBk) (S Z : ZSg) (L : ZLn) (R : ZRd) (M : ZMd) (p : Int) (hg : 0 ≤ sGc S ∧ sGc S ≤ 20) (hgr : ∀ i, 0 ≤ i → i < sGc S → -9 ≤ sG S i ∧ sG S i < 100) (hp : 0 ≤ p ∧ p ≤ 1000) : zMet l m_X3_hasGood [zR 5, zI p] (zw sc B S Z L R M) (zIb (∃ i, 0 ≤ i ∧ i < sGc S ∧ sG S i = p) (zw sc B S Z L R M)) := by
  refine z_method g_X3_hasGood [some (zR 5), some (zI p), none] rfl rfl (fun V c => ?_)
  refine z_go c 2 (s1 := (2, [some (zR 5), some (zI p), some (zI 0)], [], (zw sc B S Z L R M), 0, 0)) rfl trivial ?_
  have loop : ∀ (q : Nat) (i : Int), sGc S - i < (q : Int) → 0 ≤ i → i ≤ sGc S → (∀ j, 0 ≤ j → j < i → ¬ sG S j = p) → V (2, [some (zR 5), some (zI p), some (zI i)], [], (zw sc B S Z L R M), 0, 0) := by
    intro q
    induction q with
    | zero => intro i h1 h2 h3 h4; exfalso; omega
    | succ q ih =>
      intro i hik hi0 hi1 hno
      refine z_br c 3 ((sGc S) ≤ i) (30, [some (zR 5), some (zI p), some (zI i)], [], (zw sc B S Z L R M), 0, 0) (10, [some (zR 5), some (zI p), some (zI i)], [], (zw sc B S Z L R M), 0, 0) rfl ⟨(show ((-2147483648 : Int) ≤ i ∧ i ≤ 2147483647) ∧ (-2147483648 : Int) ≤ (sGc S) ∧ (sGc S) ≤ 2147483647 by omega), trivial⟩ (fun h7 => ?_) (fun h7 => ?_)
      · exact z_re c 1 (v := some (zI 0)) (h := (zw sc B S Z L R M)) (cs := 0) (ss := 0) rfl trivial (Or.inl rfl) ⟨Nat.le_refl _, Nat.le_refl _⟩ ⟨_, rfl, Or.inr ⟨fun ⟨j, a, b, e⟩ => hno j a (by omega) e, rfl⟩, rfl⟩
      · have hgi := hgr i (by omega) (by omega)
        refine z_cS c 3 k_3_84 zv_X5_at (pc := 18) (ls := [some (zR 5), some (zI p), some (zI i)]) (sk := []) (h := (zw sc B S Z L R M)) (cs := 0) (ss := 0) (c_X5_at l (zw sc B S Z L R M) 14 20 (sG S) i rfl (by decide) (by omega)) rfl trivial rfl ⟨Nat.le_refl _, Nat.le_refl _⟩ ?_
        rintro _ _ ⟨rfl, rfl⟩
        rw [zat_in (by omega)]
        show V (18, [some (zR 5), some (zI p), some (zI i)], [zI (((sG S) i))], (zw sc B S Z L R M), 0, 0)
        refine z_br c 1 (¬ ((sG S) i) = p) (24, [some (zR 5), some (zI p), some (zI i)], [], (zw sc B S Z L R M), 0, 0) (22, [some (zR 5), some (zI p), some (zI i)], [], (zw sc B S Z L R M), 0, 0) rfl ⟨(show ((-2147483648 : Int) ≤ ((sG S) i) ∧ ((sG S) i) ≤ 2147483647) ∧ (-2147483648 : Int) ≤ p ∧ p ≤ 2147483647 by omega), trivial⟩ (fun h19 => ?_) (fun h19 => ?_)
        · refine z_go c 2 (s1 := (2, [some (zR 5), some (zI p), some (zI ((i + 1)))], [], (zw sc B S Z L R M), 0, 0)) rfl trivial ?_
          refine ih (i + 1) (by omega) (by omega) (by omega) (fun j a b => ?_)
          rcases (show j < i ∨ j = i by omega) with g | g
          · exact hno j a g
          · rw [g]; omega
        · exact z_re c 1 (v := some (zI 1)) (h := (zw sc B S Z L R M)) (cs := 0) (ss := 0) rfl trivial (Or.inr rfl) ⟨Nat.le_refl _, Nat.le_refl _⟩ ⟨_, rfl, Or.inl ⟨⟨i, by omega, by omega, by omega⟩, rfl⟩, rfl⟩
  exact loop 21 0 (by omega) (by decide) (by omega) (fun j a b => by omega)
theorem zMet_post {l : Launch} {m : ZM} {as : List ZV} {h : List ZB} {P1 P2 : ZP} (hM : zMet l m as h P1) (k : ∀ v h1, P1 v h1 → P2 v h1) : zMet l m as h P2 := by
  intro E hw hb0 p e ha hc hk s m1 args below hf happ hpre hx
  obtain ⟨t, o, a1, a2, a3, ⟨⟨⟨v, h1, b1, b2, b3⟩, b4⟩, b5⟩⟩ := hM E hw hb0 p e ha hc hk s m1 args below hf happ hpre hx
  exact ⟨t, o, a1, a2, a3, ⟨⟨⟨v, h1, b1, k v h1 b2, b3⟩, b4⟩, b5⟩⟩
/-- the rows of a kind are reckoned rightly, or not at all -/
def zrk (W Lk En Rk bk : Int → Int) (N P G : Int) : Prop := ∀ k, 0 ≤ k → k ≤ 2 → Rk k = 0 ∨ (Rk k = 1 ∧ ∀ e, 0 ≤ e → e ≤ 100 → Lk (k * 101 + e) = zcd (zps W k) P e ∧ En (k * 101 + e) = zld (zhold (zps W k) bk P N G) e)
theorem zrk_put {W Lk En Rk bk : Int → Int} {N P G k : Int} (h : zrk W Lk En Rk bk N P G) (hk : 0 ≤ k ∧ k ≤ 2) : zrk W (zrf Lk k (zcd (zps W k) P) 101) (zrf En k (zld (zhold (zps W k) bk P N G)) 101) (zup Rk k 1) bk N P G := by
  intro j h1 h2
  by_cases e : j = k
  · subst e
    refine Or.inr ⟨by simp [zup], fun y a b => ⟨zrf_at (by omega), zrf_at (by omega)⟩⟩
  · have e1 : zup Rk k 1 j = Rk j := by simp [zup, e]
    rw [e1]
    rcases h j h1 h2 with g | ⟨g, g2⟩
    · exact Or.inl g
    · refine Or.inr ⟨g, fun y a b => ?_⟩
      obtain ⟨g3, g4⟩ := g2 y a b
      have ho : ¬ (k * 101 ≤ j * 101 + y ∧ j * 101 + y < k * 101 + 101) := by omega
      simp only [zrf, if_neg ho]
      exact ⟨g3, g4⟩
set_option maxRecDepth 4000 in
theorem c_reckon (l : Launch) (sc : ZSc) (B : ZBk) (S Z : ZSg) (L : ZLn) (R : ZRd) (M : ZMd) (k : Int) (hk : 0 ≤ k ∧ k ≤ 2) (hs : zsr (sP S)) (hW : zwr (pW (sP S))) (hb : ∀ y, 0 ≤ y → y ≤ 100 → 0 ≤ pB (sP S) y ∧ pB (sP S) y ≤ 1) (hR : zrk (pW (sP S)) (pL (sP S)) (pE (sP S)) (pR (sP S)) (pB (sP S)) (pN (sP S)) (pP (sP S)) (pG (sP S))) : zMet l m_X4_reckon [zR 6, zI k] (zw sc B S Z L R M) (fun v h1 => v = none ∧ ∃ Lk En Rk, (zw sc B (((pW ((sP S))), Lk, En, Rk, (pB ((sP S))), (pN ((sP S))), (pP ((sP S))), (pG ((sP S)))), (sW S), (sO S), (sG S), (sOc S), (sGc S), (sWn S), (sWay S), (sLast S), (sWo S)) Z L R M) = h1 ∧ zrk (pW (sP S)) Lk En Rk (pB (sP S)) (pN (sP S)) (pP (sP S)) (pG (sP S)) ∧ Rk k = 1) := by
  rcases hR k hk.1 hk.2 with g | ⟨g, -⟩
  · refine zMet_post (c_X4_reckon l sc B S Z L R M k hk g hs hW hb) (fun v h1 h => ?_)
    obtain ⟨rfl, rfl⟩ := h
    exact ⟨rfl, _, _, _, rfl, zrk_put hR hk, by simp [zup]⟩
  · refine zMet_post (c_X4_reckon_was l sc B S Z L R M k hk g) (fun v h1 h => ?_)
    obtain ⟨rfl, rfl⟩ := h
    exact ⟨rfl, _, _, _, rfl, hR, g⟩
