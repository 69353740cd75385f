/-! the book -/
/-- the book's numbers are small -/
def zBt (T : Int → Int) (n : Int) : Prop := ∀ p w, 0 ≤ p → p < n → 0 ≤ w → w < 12 → -9 ≤ T (p * 12 + w) ∧ T (p * 12 + w) ≤ 1000
def zBk (K : Int → Int) (n : Int) : Prop := ∀ p, 0 ≤ p → p < n → -9 ≤ K p ∧ K p ≤ 100
def zrd (T : Int → Int) (n p w : Int) : Int := if (0 ≤ p ∧ p < n) ∧ 0 ≤ w ∧ w < 12 then T (p * 12 + w) else -9
theorem zrd_in {T : Int → Int} {n p w : Int} (h : (0 ≤ p ∧ p < n) ∧ 0 ≤ w ∧ w < 12) : zrd T n p w = T (p * 12 + w) := if_pos h
theorem zrd_out {T : Int → Int} {n p w : Int} (h : ¬ ((0 ≤ p ∧ p < n) ∧ 0 ≤ w ∧ w < 12)) : zrd T n p w = -9 := if_neg h
theorem zrd_rng {T : Int → Int} {n : Int} (hT : zBt T n) (p w : Int) : -9 ≤ zrd T n p w ∧ zrd T n p w ≤ 1000 := by
  unfold zrd
  split
  · rename_i h
    exact hT p w h.1.1 h.1.2 h.2.1 h.2.2
  · omega
/-- a page counts as of the last one, one page left out -/
def zct (K : Int → Int) (n p l q : Int) : Prop := (0 ≤ p ∧ p < n ∧ p ≤ l ∧ ¬ p = q) ∧ (K p = -9 ∨ l < K p ∨ K p = q)
/-- a page bears on a way -/
def zbe (T : Int → Int) (n p w : Int) : Prop := (zrd T n (if zrd T n p 0 = 5 then zrd T n p 8 else p) 0 = 6) ∨ (zrd T n (if zrd T n p 0 = 5 then zrd T n p 8 else p) 1 = w)
set_option maxRecDepth 4000 in
theorem c_X0_has (l : Launch) (sc : ZSc) (B : ZBk) (S Z : ZSg) (L : ZLn) (R : ZRd) (M : ZMd) (p : Int) (hn : 0 ≤ bN B ∧ bN B ≤ 100) (hp : (-2147483648 ≤ p ∧ p ≤ 2147483647)) : zMet l m_X0_has [zR 2, zI p] (zw sc B S Z L R M) (zIb (0 ≤ p ∧ p < bN B) (zw sc B S Z L R M)) := by
  refine z_method g_X0_has [some (zR 2), some (zI p)] rfl rfl (fun V c => ?_)
  refine z_br c 1 (p < 0) (16, [some (zR 2), some (zI p)], [], (zw sc B S Z L R M), 0, 0) (4, [some (zR 2), some (zI p)], [], (zw sc B S Z L R M), 0, 0) rfl ⟨(show (-2147483648 : Int) ≤ p ∧ p ≤ 2147483647 by omega), trivial⟩ (fun h1 => ?_) (fun h1 => ?_)
  · exact z_re c 1 (v := some (zI 0)) (h := (zw sc B S Z L R M)) (cs := 0) (ss := 0) rfl trivial (Or.inl rfl) ⟨Nat.le_refl _, Nat.le_refl _⟩ ⟨_, rfl, (by omega), rfl⟩
  · refine z_br c 3 ((bN B) ≤ p) (16, [some (zR 2), some (zI p)], [], (zw sc B S Z L R M), 0, 0) (12, [some (zR 2), some (zI p)], [], (zw sc B S Z L R M), 0, 0) rfl ⟨(show ((-2147483648 : Int) ≤ p ∧ p ≤ 2147483647) ∧ (-2147483648 : Int) ≤ (bN B) ∧ (bN B) ≤ 2147483647 by omega), trivial⟩ (fun h9 => ?_) (fun h9 => ?_)
    · exact z_re c 1 (v := some (zI 0)) (h := (zw sc B S Z L R M)) (cs := 0) (ss := 0) rfl trivial (Or.inl rfl) ⟨Nat.le_refl _, Nat.le_refl _⟩ ⟨_, rfl, (by omega), rfl⟩
    · exact z_re c 2 (v := some (zI 1)) (h := (zw sc B S Z L R M)) (cs := 0) (ss := 0) rfl trivial (Or.inr rfl) ⟨Nat.le_refl _, Nat.le_refl _⟩ ⟨_, rfl, (by omega), rfl⟩
set_option maxRecDepth 4000 in
theorem c_X0_hasAs (l : Launch) (sc : ZSc) (B : ZBk) (S Z : ZSg) (L : ZLn) (R : ZRd) (M : ZMd) (p : Int) (hn : 0 ≤ bN B ∧ bN B ≤ 100) (hp : (-2147483648 ≤ p ∧ p ≤ 2147483647)) : zMet l m_X0_hasAs [zR 2, zI p] (zw sc B S Z L R M) (zIb (p = -9 ∨ (0 ≤ p ∧ p < bN B)) (zw sc B S Z L R M)) := by
  refine z_method g_X0_hasAs [some (zR 2), some (zI p)] rfl rfl (fun V c => ?_)
  refine z_br c 2 (p = (-9)) (14, [some (zR 2), some (zI p)], [], (zw sc B S Z L R M), 0, 0) (6, [some (zR 2), some (zI p)], [], (zw sc B S Z L R M), 0, 0) rfl ⟨(show ((-2147483648 : Int) ≤ p ∧ p ≤ 2147483647) ∧ (-2147483648 : Int) ≤ (-9) ∧ (-9) ≤ 2147483647 by omega), trivial⟩ (fun h3 => ?_) (fun h3 => ?_)
  · exact z_re c 2 (v := some (zI 1)) (h := (zw sc B S Z L R M)) (cs := 0) (ss := 0) rfl trivial (Or.inr rfl) ⟨Nat.le_refl _, Nat.le_refl _⟩ ⟨_, rfl, (by omega), rfl⟩
  · refine z_cV c 2 k_0_28 zv_X0_has (pc := 11) (ls := [some (zR 2), some (zI p)]) (sk := []) (h := (zw sc B S Z L R M)) (cs := 0) (ss := 0) (c_X0_has l sc B S Z L R M p (show 0 ≤ (bN B) ∧ (bN B) ≤ 100 by omega) (by omega)) rfl trivial rfl rfl ⟨Nat.le_refl _, Nat.le_refl _⟩ ?_
    rintro _ _ ⟨r8, rfl, e8, rfl⟩
    replace e8 : ((0 ≤ p ∧ p < (bN B)) ∧ r8 = 1) ∨ (¬ (0 ≤ p ∧ p < (bN B)) ∧ r8 = 0) := e8
    show V (11, [some (zR 2), some (zI p)], [zI r8], (zw sc B S Z L R M), 0, 0)
    refine z_br c 0 (r8 = 0) (18, [some (zR 2), some (zI p)], [], (zw sc B S Z L R M), 0, 0) (14, [some (zR 2), some (zI p)], [], (zw sc B S Z L R M), 0, 0) rfl ⟨(show (-2147483648 : Int) ≤ r8 ∧ r8 ≤ 2147483647 by omega), trivial⟩ (fun h11 => ?_) (fun h11 => ?_)
    · exact z_re c 1 (v := some (zI 0)) (h := (zw sc B S Z L R M)) (cs := 0) (ss := 0) rfl trivial (Or.inl rfl) ⟨Nat.le_refl _, Nat.le_refl _⟩ ⟨_, rfl, (by omega), rfl⟩
    · exact z_re c 2 (v := some (zI 1)) (h := (zw sc B S Z L R M)) (cs := 0) (ss := 0) rfl trivial (Or.inr rfl) ⟨Nat.le_refl _, Nat.le_refl _⟩ ⟨_, rfl, (by omega), rfl⟩
def zlast (n as : Int) : Int := if as = -9 then n - 1 else as
set_option maxRecDepth 4000 in
theorem c_X0_lastOf (l : Launch) (sc : ZSc) (B : ZBk) (S Z : ZSg) (L : ZLn) (R : ZRd) (M : ZMd) (p : Int) (hp : (-2147483648 ≤ p ∧ p ≤ 2147483647)) : zMet l m_X0_lastOf [zR 2, zI p] (zw sc B S Z L R M) (zI1 (zlast (bN B) p) (zw sc B S Z L R M)) := by
  refine z_method g_X0_lastOf [some (zR 2), some (zI p)] rfl rfl (fun V c => ?_)
  refine z_br c 2 (¬ p = (-9)) (15, [some (zR 2), some (zI p)], [], (zw sc B S Z L R M), 0, 0) (6, [some (zR 2), some (zI p)], [], (zw sc B S Z L R M), 0, 0) rfl ⟨(show ((-2147483648 : Int) ≤ p ∧ p ≤ 2147483647) ∧ (-2147483648 : Int) ≤ (-9) ∧ (-9) ≤ 2147483647 by omega), trivial⟩ (fun h3 => ?_) (fun h3 => ?_)
  · exact z_re c 1 (v := some (zI p)) (h := (zw sc B S Z L R M)) (cs := 0) (ss := 0) rfl trivial trivial ⟨Nat.le_refl _, Nat.le_refl _⟩ ⟨by congr 2; unfold zlast; split <;> omega, rfl⟩
  · exact z_re c 5 (v := some (zI (((bN B) - 1)))) (h := (zw sc B S Z L R M)) (cs := 0) (ss := 0) rfl trivial trivial ⟨Nat.le_refl _, Nat.le_refl _⟩ ⟨by congr 2; unfold zlast; split <;> omega, rfl⟩
set_option maxRecDepth 4000 in
theorem c_X0_tell (l : Launch) (sc : ZSc) (B : ZBk) (S Z : ZSg) (L : ZLn) (R : ZRd) (M : ZMd) (p w x : Int) (hn : 0 ≤ bN B ∧ bN B ≤ 100) (hp : 0 ≤ p ∧ p < bN B) (hw : 0 ≤ w ∧ w < 12) : zMet l m_X0_tell [zR 2, zI p, zI w, zI x] (zw sc B S Z L R M) (zI0 (zw sc ((zup (bT B) (p * 12 + w) x), (bK B), (bN B), (bO B), (bS B)) S Z L R M)) := by
  refine z_method g_X0_tell [some (zR 2), some (zI p), some (zI w), some (zI x)] rfl rfl (fun V c => ?_)
  refine z_cV c 2 k_0_28 zv_X0_has (pc := 5) (ls := [some (zR 2), some (zI p), some (zI w), some (zI x)]) (sk := []) (h := (zw sc B S Z L R M)) (cs := 0) (ss := 0) (c_X0_has l sc B S Z L R M p (show 0 ≤ (bN B) ∧ (bN B) ≤ 100 by omega) (by omega)) rfl trivial rfl rfl ⟨Nat.le_refl _, Nat.le_refl _⟩ ?_
  rintro _ _ ⟨r2, rfl, e2, rfl⟩
  replace e2 : ((0 ≤ p ∧ p < (bN B)) ∧ r2 = 1) ∨ (¬ (0 ≤ p ∧ p < (bN B)) ∧ r2 = 0) := e2
  show V (5, [some (zR 2), some (zI p), some (zI w), some (zI x)], [zI r2], (zw sc B S Z L R M), 0, 0)
  refine z_br c 0 (r2 = 0) (32, [some (zR 2), some (zI p), some (zI w), some (zI x)], [], (zw sc B S Z L R M), 0, 0) (8, [some (zR 2), some (zI p), some (zI w), some (zI x)], [], (zw sc B S Z L R M), 0, 0) rfl ⟨(show (-2147483648 : Int) ≤ r2 ∧ r2 ≤ 2147483647 by omega), trivial⟩ (fun h5 => by exfalso; omega) (fun h5 => ?_)
  refine z_cS c 3 k_0_47 zv_X5_isWithin (pc := 15) (ls := [some (zR 2), some (zI p), some (zI w), some (zI x)]) (sk := []) (h := (zw sc B S Z L R M)) (cs := 0) (ss := 0) (c_X5_isWithin l (zw sc B S Z L R M) w 0 11 (by omega) (by omega) (by omega)) rfl trivial rfl ⟨Nat.le_refl _, Nat.le_refl _⟩ ?_
  rintro _ _ ⟨r12, rfl, e12, rfl⟩
  show V (15, [some (zR 2), some (zI p), some (zI w), some (zI x)], [zI r12], (zw sc B S Z L R M), 0, 0)
  refine z_br c 0 (r12 = 0) (32, [some (zR 2), some (zI p), some (zI w), some (zI x)], [], (zw sc B S Z L R M), 0, 0) (18, [some (zR 2), some (zI p), some (zI w), some (zI x)], [], (zw sc B S Z L R M), 0, 0) rfl ⟨(show (-2147483648 : Int) ≤ r12 ∧ r12 ≤ 2147483647 by omega), trivial⟩ (fun h15 => by exfalso; omega) (fun h15 => ?_)
  refine z_cS c 8 k_0_39 zv_X5_put (pc := 32) (ls := [some (zR 2), some (zI p), some (zI w), some (zI x)]) (sk := []) (h := (zw sc B S Z L R M)) (cs := 0) (ss := 0) (c_X5_put l (zw sc B S Z L R M) 2 1200 (bT B) (((p * 12) + w)) x rfl (by decide) (by omega)) rfl trivial rfl ⟨Nat.le_refl _, Nat.le_refl _⟩ ?_
  rintro _ _ ⟨rfl, rfl⟩
  show V (32, [some (zR 2), some (zI p), some (zI w), some (zI x)], [], (zw sc ((zpt 1200 (bT B) (((p * 12) + w)) x), (bK B), (bN B), (bO B), (bS B)) S Z L R M), 0, 0)
  exact z_re c 0 (v := none) (h := (zw sc ((zpt 1200 (bT B) (((p * 12) + w)) x), (bK B), (bN B), (bO B), (bS B)) S Z L R M)) (cs := 0) (ss := 0) rfl trivial trivial ⟨Nat.le_refl _, Nat.le_refl _⟩ ⟨rfl, by rw [zpt_in (by omega)]⟩
set_option maxRecDepth 4000 in
theorem c_X0_tell_no (l : Launch) (sc : ZSc) (B : ZBk) (S Z : ZSg) (L : ZLn) (R : ZRd) (M : ZMd) (p w x : Int) (hn : 0 ≤ bN B ∧ bN B ≤ 100) (hp : p = -4) : zMet l m_X0_tell [zR 2, zI p, zI w, zI x] (zw sc B S Z L R M) (zI0 (zw sc B S Z L R M)) := by
  refine z_method g_X0_tell [some (zR 2), some (zI p), some (zI w), some (zI x)] rfl rfl (fun V c => ?_)
  refine z_cV c 2 k_0_28 zv_X0_has (pc := 5) (ls := [some (zR 2), some (zI p), some (zI w), some (zI x)]) (sk := []) (h := (zw sc B S Z L R M)) (cs := 0) (ss := 0) (c_X0_has l sc B S Z L R M p (show 0 ≤ (bN B) ∧ (bN B) ≤ 100 by omega) (by omega)) rfl trivial rfl rfl ⟨Nat.le_refl _, Nat.le_refl _⟩ ?_
  rintro _ _ ⟨r2, rfl, e2, rfl⟩
  replace e2 : ((0 ≤ p ∧ p < (bN B)) ∧ r2 = 1) ∨ (¬ (0 ≤ p ∧ p < (bN B)) ∧ r2 = 0) := e2
  show V (5, [some (zR 2), some (zI p), some (zI w), some (zI x)], [zI r2], (zw sc B S Z L R M), 0, 0)
  refine z_br c 0 (r2 = 0) (32, [some (zR 2), some (zI p), some (zI w), some (zI x)], [], (zw sc B S Z L R M), 0, 0) (8, [some (zR 2), some (zI p), some (zI w), some (zI x)], [], (zw sc B S Z L R M), 0, 0) rfl ⟨(show (-2147483648 : Int) ≤ r2 ∧ r2 ≤ 2147483647 by omega), trivial⟩ (fun h5 => ?_) (fun h5 => by exfalso; omega)
  exact z_re c 0 (v := none) (h := (zw sc B S Z L R M)) (cs := 0) (ss := 0) rfl trivial trivial ⟨Nat.le_refl _, Nat.le_refl _⟩ ⟨rfl, rfl⟩
set_option maxRecDepth 4000 in
theorem c_X0_read (l : Launch) (sc : ZSc) (B : ZBk) (S Z : ZSg) (L : ZLn) (R : ZRd) (M : ZMd) (p w : Int) (hn : 0 ≤ bN B ∧ bN B ≤ 100) (hp : (-2147483648 ≤ p ∧ p ≤ 2147483647)) (hw : (-2147483648 ≤ w ∧ w ≤ 2147483647)) : zMet l m_X0_read [zR 2, zI p, zI w] (zw sc B S Z L R M) (zI1 (zrd (bT B) (bN B) p w) (zw sc B S Z L R M)) := by
  refine z_method g_X0_read [some (zR 2), some (zI p), some (zI w), none] rfl rfl (fun V c => ?_)
  refine z_br c 1 (p < 0) (22, [some (zR 2), some (zI p), some (zI w), none], [], (zw sc B S Z L R M), 0, 0) (4, [some (zR 2), some (zI p), some (zI w), none], [], (zw sc B S Z L R M), 0, 0) rfl ⟨(show (-2147483648 : Int) ≤ p ∧ p ≤ 2147483647 by omega), trivial⟩ (fun h1 => ?_) (fun h1 => ?_)
  · exact z_re c 1 (v := some (zI ((-9)))) (h := (zw sc B S Z L R M)) (cs := 0) (ss := 0) rfl trivial trivial ⟨Nat.le_refl _, Nat.le_refl _⟩ ⟨by rw [zrd_out (by omega)], rfl⟩
  · refine z_br c 3 ((bN B) ≤ p) (22, [some (zR 2), some (zI p), some (zI w), none], [], (zw sc B S Z L R M), 0, 0) (12, [some (zR 2), some (zI p), some (zI w), none], [], (zw sc B S Z L R M), 0, 0) rfl ⟨(show ((-2147483648 : Int) ≤ p ∧ p ≤ 2147483647) ∧ (-2147483648 : Int) ≤ (bN B) ∧ (bN B) ≤ 2147483647 by omega), trivial⟩ (fun h9 => ?_) (fun h9 => ?_)
    · exact z_re c 1 (v := some (zI ((-9)))) (h := (zw sc B S Z L R M)) (cs := 0) (ss := 0) rfl trivial trivial ⟨Nat.le_refl _, Nat.le_refl _⟩ ⟨by rw [zrd_out (by omega)], rfl⟩
    · refine z_br c 1 (w < 0) (22, [some (zR 2), some (zI p), some (zI w), none], [], (zw sc B S Z L R M), 0, 0) (16, [some (zR 2), some (zI p), some (zI w), none], [], (zw sc B S Z L R M), 0, 0) rfl ⟨(show (-2147483648 : Int) ≤ w ∧ w ≤ 2147483647 by omega), trivial⟩ (fun h13 => ?_) (fun h13 => ?_)
      · exact z_re c 1 (v := some (zI ((-9)))) (h := (zw sc B S Z L R M)) (cs := 0) (ss := 0) rfl trivial trivial ⟨Nat.le_refl _, Nat.le_refl _⟩ ⟨by rw [zrd_out (by omega)], rfl⟩
      · refine z_br c 2 (w < 12) (25, [some (zR 2), some (zI p), some (zI w), none], [], (zw sc B S Z L R M), 0, 0) (22, [some (zR 2), some (zI p), some (zI w), none], [], (zw sc B S Z L R M), 0, 0) rfl ⟨(show ((-2147483648 : Int) ≤ w ∧ w ≤ 2147483647) ∧ (-2147483648 : Int) ≤ 12 ∧ 12 ≤ 2147483647 by omega), trivial⟩ (fun h19 => ?_) (fun h19 => ?_)
        · refine z_br c 10 (1200 ≤ ((p * 12) + w)) (50, [some (zR 2), some (zI p), some (zI w), some (zI (((p * 12) + w)))], [], (zw sc B S Z L R M), 0, 0) (41, [some (zR 2), some (zI p), some (zI w), some (zI (((p * 12) + w)))], [], (zw sc B S Z L R M), 0, 0) rfl ⟨(show ((-2147483648 : Int) ≤ ((p * 12) + w) ∧ ((p * 12) + w) ≤ 2147483647) ∧ (-2147483648 : Int) ≤ 1200 ∧ 1200 ≤ 2147483647 by omega), trivial⟩ (fun h38 => by exfalso; omega) (fun h38 => ?_)
          exact z_re c 5 (v := some (zI (((bT B) (((p * 12) + w)))))) (h := (zw sc B S Z L R M)) (cs := 0) (ss := 0) rfl ⟨(show (0 : Int) ≤ ((p * 12) + w) ∧ ((p * 12) + w) < 1200 by omega), trivial⟩ trivial ⟨Nat.le_refl _, Nat.le_refl _⟩ ⟨by rw [zrd_in (by omega)], rfl⟩
        · exact z_re c 1 (v := some (zI ((-9)))) (h := (zw sc B S Z L R M)) (cs := 0) (ss := 0) rfl trivial trivial ⟨Nat.le_refl _, Nat.le_refl _⟩ ⟨by rw [zrd_out (by omega)], rfl⟩
set_option maxRecDepth 4000 in
theorem c_X0_strikeOn (l : Launch) (sc : ZSc) (B : ZBk) (S Z : ZSg) (L : ZLn) (R : ZRd) (M : ZMd) (p : Int) (hn : 0 ≤ bN B ∧ bN B ≤ 100) (hp : 0 ≤ p ∧ p < bN B) : zMet l m_X0_strikeOn [zR 2, zI p] (zw sc B S Z L R M) (zI1 (bK B p) (zw sc B S Z L R M)) := by
  refine z_method g_X0_strikeOn [some (zR 2), some (zI p)] rfl rfl (fun V c => ?_)
  refine z_cV c 2 k_0_28 zv_X0_has (pc := 5) (ls := [some (zR 2), some (zI p)]) (sk := []) (h := (zw sc B S Z L R M)) (cs := 0) (ss := 0) (c_X0_has l sc B S Z L R M p (show 0 ≤ (bN B) ∧ (bN B) ≤ 100 by omega) (by omega)) rfl trivial rfl rfl ⟨Nat.le_refl _, Nat.le_refl _⟩ ?_
  rintro _ _ ⟨r2, rfl, e2, rfl⟩
  replace e2 : ((0 ≤ p ∧ p < (bN B)) ∧ r2 = 1) ∨ (¬ (0 ≤ p ∧ p < (bN B)) ∧ r2 = 0) := e2
  show V (5, [some (zR 2), some (zI p)], [zI r2], (zw sc B S Z L R M), 0, 0)
  refine z_br c 0 (r2 = 0) (19, [some (zR 2), some (zI p)], [], (zw sc B S Z L R M), 0, 0) (8, [some (zR 2), some (zI p)], [], (zw sc B S Z L R M), 0, 0) rfl ⟨(show (-2147483648 : Int) ≤ r2 ∧ r2 ≤ 2147483647 by omega), trivial⟩ (fun h5 => by exfalso; omega) (fun h5 => ?_)
  refine z_cS c 3 k_0_51 zv_X5_at (pc := 16) (ls := [some (zR 2), some (zI p)]) (sk := []) (h := (zw sc B S Z L R M)) (cs := 0) (ss := 0) (c_X5_at l (zw sc B S Z L R M) 4 100 (bK B) p rfl (by decide) (by omega)) rfl trivial rfl ⟨Nat.le_refl _, Nat.le_refl _⟩ ?_
  rintro _ _ ⟨rfl, rfl⟩
  show V (16, [some (zR 2), some (zI p)], [zI ((zat 100 (bK B) p))], (zw sc B S Z L R M), 0, 0)
  exact z_re c 1 (v := some (zI ((zat 100 (bK B) p)))) (h := (zw sc B S Z L R M)) (cs := 0) (ss := 0) rfl trivial trivial ⟨Nat.le_refl _, Nat.le_refl _⟩ ⟨by rw [zat_in (by omega)], rfl⟩
set_option maxRecDepth 4000 in
theorem c_X0_isCounted (l : Launch) (sc : ZSc) (B : ZBk) (S Z : ZSg) (L : ZLn) (R : ZRd) (M : ZMd) (p m q : Int) (hn : 0 ≤ bN B ∧ bN B ≤ 100) (hK : zBk (bK B) (bN B)) (hp : (-2147483648 ≤ p ∧ p ≤ 2147483647)) (hm : (-2147483648 ≤ m ∧ m ≤ 2147483647)) (hq : (-2147483648 ≤ q ∧ q ≤ 2147483647)) : zMet l m_X0_isCounted [zR 2, zI p, zI m, zI q] (zw sc B S Z L R M) (zIb (zct (bK B) (bN B) p m q) (zw sc B S Z L R M)) := by
  refine z_method g_X0_isCounted [some (zR 2), some (zI p), some (zI m), some (zI q), none] rfl rfl (fun V c => ?_)
  refine z_cV c 2 k_0_28 zv_X0_has (pc := 5) (ls := [some (zR 2), some (zI p), some (zI m), some (zI q), none]) (sk := []) (h := (zw sc B S Z L R M)) (cs := 0) (ss := 0) (c_X0_has l sc B S Z L R M p (show 0 ≤ (bN B) ∧ (bN B) ≤ 100 by omega) (by omega)) rfl trivial rfl rfl ⟨Nat.le_refl _, Nat.le_refl _⟩ ?_
  rintro _ _ ⟨r2, rfl, e2, rfl⟩
  replace e2 : ((0 ≤ p ∧ p < (bN B)) ∧ r2 = 1) ∨ (¬ (0 ≤ p ∧ p < (bN B)) ∧ r2 = 0) := e2
  show V (5, [some (zR 2), some (zI p), some (zI m), some (zI q), none], [zI r2], (zw sc B S Z L R M), 0, 0)
  refine z_br c 0 (r2 = 0) (18, [some (zR 2), some (zI p), some (zI m), some (zI q), none], [], (zw sc B S Z L R M), 0, 0) (8, [some (zR 2), some (zI p), some (zI m), some (zI q), none], [], (zw sc B S Z L R M), 0, 0) rfl ⟨(show (-2147483648 : Int) ≤ r2 ∧ r2 ≤ 2147483647 by omega), trivial⟩ (fun h5 => ?_) (fun h5 => ?_)
  · exact z_re c 1 (v := some (zI 0)) (h := (zw sc B S Z L R M)) (cs := 0) (ss := 0) rfl trivial (Or.inl rfl) ⟨Nat.le_refl _, Nat.le_refl _⟩ ⟨_, rfl, (by unfold zct; omega), rfl⟩
  · refine z_br c 2 (m < p) (18, [some (zR 2), some (zI p), some (zI m), some (zI q), none], [], (zw sc B S Z L R M), 0, 0) (13, [some (zR 2), some (zI p), some (zI m), some (zI q), none], [], (zw sc B S Z L R M), 0, 0) rfl ⟨(show ((-2147483648 : Int) ≤ p ∧ p ≤ 2147483647) ∧ (-2147483648 : Int) ≤ m ∧ m ≤ 2147483647 by omega), trivial⟩ (fun h10 => ?_) (fun h10 => ?_)
    · exact z_re c 1 (v := some (zI 0)) (h := (zw sc B S Z L R M)) (cs := 0) (ss := 0) rfl trivial (Or.inl rfl) ⟨Nat.le_refl _, Nat.le_refl _⟩ ⟨_, rfl, (by unfold zct; omega), rfl⟩
    · refine z_br c 2 (¬ p = q) (20, [some (zR 2), some (zI p), some (zI m), some (zI q), none], [], (zw sc B S Z L R M), 0, 0) (18, [some (zR 2), some (zI p), some (zI m), some (zI q), none], [], (zw sc B S Z L R M), 0, 0) rfl ⟨(show ((-2147483648 : Int) ≤ p ∧ p ≤ 2147483647) ∧ (-2147483648 : Int) ≤ q ∧ q ≤ 2147483647 by omega), trivial⟩ (fun h15 => ?_) (fun h15 => ?_)
      · refine z_cV c 2 k_0_55 zv_X0_strikeOn (pc := 25) (ls := [some (zR 2), some (zI p), some (zI m), some (zI q), none]) (sk := []) (h := (zw sc B S Z L R M)) (cs := 0) (ss := 0) (c_X0_strikeOn l sc B S Z L R M p (show 0 ≤ (bN B) ∧ (bN B) ≤ 100 by omega) (show 0 ≤ p ∧ p < (bN B) by omega)) rfl trivial rfl rfl ⟨Nat.le_refl _, Nat.le_refl _⟩ ?_
        rintro _ _ ⟨rfl, rfl⟩
        have q22 := hK p (by omega) (by omega)
        show V (25, [some (zR 2), some (zI p), some (zI m), some (zI q), none], [zI (((bK B) p))], (zw sc B S Z L R M), 0, 0)
        refine z_br c 3 (((bK B) p) = (-9)) (46, [some (zR 2), some (zI p), some (zI m), some (zI q), some (zI (((bK B) p)))], [], (zw sc B S Z L R M), 0, 0) (34, [some (zR 2), some (zI p), some (zI m), some (zI q), some (zI (((bK B) p)))], [], (zw sc B S Z L R M), 0, 0) rfl ⟨(show ((-2147483648 : Int) ≤ ((bK B) p) ∧ ((bK B) p) ≤ 2147483647) ∧ (-2147483648 : Int) ≤ (-9) ∧ (-9) ≤ 2147483647 by omega), trivial⟩ (fun h31 => ?_) (fun h31 => ?_)
        · exact z_re c 2 (v := some (zI 1)) (h := (zw sc B S Z L R M)) (cs := 0) (ss := 0) rfl trivial (Or.inr rfl) ⟨Nat.le_refl _, Nat.le_refl _⟩ ⟨_, rfl, (by unfold zct; omega), rfl⟩
        · refine z_br c 2 (m < ((bK B) p)) (46, [some (zR 2), some (zI p), some (zI m), some (zI q), some (zI (((bK B) p)))], [], (zw sc B S Z L R M), 0, 0) (40, [some (zR 2), some (zI p), some (zI m), some (zI q), some (zI (((bK B) p)))], [], (zw sc B S Z L R M), 0, 0) rfl ⟨(show ((-2147483648 : Int) ≤ ((bK B) p) ∧ ((bK B) p) ≤ 2147483647) ∧ (-2147483648 : Int) ≤ m ∧ m ≤ 2147483647 by omega), trivial⟩ (fun h37 => ?_) (fun h37 => ?_)
          · exact z_re c 2 (v := some (zI 1)) (h := (zw sc B S Z L R M)) (cs := 0) (ss := 0) rfl trivial (Or.inr rfl) ⟨Nat.le_refl _, Nat.le_refl _⟩ ⟨_, rfl, (by unfold zct; omega), rfl⟩
          · refine z_br c 2 (¬ ((bK B) p) = q) (50, [some (zR 2), some (zI p), some (zI m), some (zI q), some (zI (((bK B) p)))], [], (zw sc B S Z L R M), 0, 0) (46, [some (zR 2), some (zI p), some (zI m), some (zI q), some (zI (((bK B) p)))], [], (zw sc B S Z L R M), 0, 0) rfl ⟨(show ((-2147483648 : Int) ≤ ((bK B) p) ∧ ((bK B) p) ≤ 2147483647) ∧ (-2147483648 : Int) ≤ q ∧ q ≤ 2147483647 by omega), trivial⟩ (fun h43 => ?_) (fun h43 => ?_)
            · exact z_re c 1 (v := some (zI 0)) (h := (zw sc B S Z L R M)) (cs := 0) (ss := 0) rfl trivial (Or.inl rfl) ⟨Nat.le_refl _, Nat.le_refl _⟩ ⟨_, rfl, (by unfold zct; omega), rfl⟩
            · exact z_re c 2 (v := some (zI 1)) (h := (zw sc B S Z L R M)) (cs := 0) (ss := 0) rfl trivial (Or.inr rfl) ⟨Nat.le_refl _, Nat.le_refl _⟩ ⟨_, rfl, (by unfold zct; omega), rfl⟩
      · exact z_re c 1 (v := some (zI 0)) (h := (zw sc B S Z L R M)) (cs := 0) (ss := 0) rfl trivial (Or.inl rfl) ⟨Nat.le_refl _, Nat.le_refl _⟩ ⟨_, rfl, (by unfold zct; omega), rfl⟩
set_option maxRecDepth 4000 in
theorem c_X0_bearsOn (l : Launch) (sc : ZSc) (B : ZBk) (S Z : ZSg) (L : ZLn) (R : ZRd) (M : ZMd) (p m : Int) (hn : 0 ≤ bN B ∧ bN B ≤ 100) (hT : zBt (bT B) (bN B)) (hp : (-2147483648 ≤ p ∧ p ≤ 2147483647)) (hm : (-2147483648 ≤ m ∧ m ≤ 2147483647)) : zMet l m_X0_bearsOn [zR 2, zI p, zI m] (zw sc B S Z L R M) (zIb (zbe (bT B) (bN B) p m) (zw sc B S Z L R M)) := by
  refine z_method g_X0_bearsOn [some (zR 2), some (zI p), some (zI m), none] rfl rfl (fun V c => ?_)
  refine z_cV c 3 k_0_58 zv_X0_read (pc := 6) (ls := [some (zR 2), some (zI p), some (zI m), none]) (sk := []) (h := (zw sc B S Z L R M)) (cs := 0) (ss := 0) (c_X0_read l sc B S Z L R M p 0 (show 0 ≤ (bN B) ∧ (bN B) ≤ 100 by omega) (by omega) (by omega)) rfl trivial rfl rfl ⟨Nat.le_refl _, Nat.le_refl _⟩ ?_
  rintro _ _ ⟨rfl, rfl⟩
  have q3 := zrd_rng hT p 0
  show V (6, [some (zR 2), some (zI p), some (zI m), none], [zI ((zrd ((bT B)) ((bN B)) p 0))], (zw sc B S Z L R M), 0, 0)
  refine z_br c 1 (¬ (zrd ((bT B)) ((bN B)) p 0) = 5) (20, [some (zR 2), some (zI p), some (zI m), none], [], (zw sc B S Z L R M), 0, 0) (10, [some (zR 2), some (zI p), some (zI m), none], [], (zw sc B S Z L R M), 0, 0) rfl ⟨(show ((-2147483648 : Int) ≤ (zrd ((bT B)) ((bN B)) p 0) ∧ (zrd ((bT B)) ((bN B)) p 0) ≤ 2147483647) ∧ (-2147483648 : Int) ≤ 5 ∧ 5 ≤ 2147483647 by omega), trivial⟩ (fun h7 => ?_) (fun h7 => ?_)
  · refine z_cV c 5 k_0_58 zv_X0_read (pc := 28) (ls := [some (zR 2), some (zI p), some (zI m), some (zI p)]) (sk := []) (h := (zw sc B S Z L R M)) (cs := 0) (ss := 0) (c_X0_read l sc B S Z L R M p 0 (show 0 ≤ (bN B) ∧ (bN B) ≤ 100 by omega) (by omega) (by omega)) rfl trivial rfl rfl ⟨Nat.le_refl _, Nat.le_refl _⟩ ?_
    rintro _ _ ⟨rfl, rfl⟩
    have q25 := zrd_rng hT p 0
    show V (28, [some (zR 2), some (zI p), some (zI m), some (zI p)], [zI ((zrd ((bT B)) ((bN B)) p 0))], (zw sc B S Z L R M), 0, 0)
    refine z_br c 1 ((zrd ((bT B)) ((bN B)) p 0) = 6) (43, [some (zR 2), some (zI p), some (zI m), some (zI p)], [], (zw sc B S Z L R M), 0, 0) (33, [some (zR 2), some (zI p), some (zI m), some (zI p)], [], (zw sc B S Z L R M), 0, 0) rfl ⟨(show ((-2147483648 : Int) ≤ (zrd ((bT B)) ((bN B)) p 0) ∧ (zrd ((bT B)) ((bN B)) p 0) ≤ 2147483647) ∧ (-2147483648 : Int) ≤ 6 ∧ 6 ≤ 2147483647 by omega), trivial⟩ (fun h30 => ?_) (fun h30 => ?_)
    · exact z_re c 2 (v := some (zI 1)) (h := (zw sc B S Z L R M)) (cs := 0) (ss := 0) rfl trivial (Or.inr rfl) ⟨Nat.le_refl _, Nat.le_refl _⟩ ⟨_, rfl, (by unfold zbe; rw [if_neg h7]; omega), rfl⟩
    · refine z_cV c 3 k_0_58 zv_X0_read (pc := 39) (ls := [some (zR 2), some (zI p), some (zI m), some (zI p)]) (sk := []) (h := (zw sc B S Z L R M)) (cs := 0) (ss := 0) (c_X0_read l sc B S Z L R M p 1 (show 0 ≤ (bN B) ∧ (bN B) ≤ 100 by omega) (by omega) (by omega)) rfl trivial rfl rfl ⟨Nat.le_refl _, Nat.le_refl _⟩ ?_
      rintro _ _ ⟨rfl, rfl⟩
      have q36 := zrd_rng hT p 1
      show V (39, [some (zR 2), some (zI p), some (zI m), some (zI p)], [zI ((zrd ((bT B)) ((bN B)) p 1))], (zw sc B S Z L R M), 0, 0)
      refine z_br c 1 (¬ (zrd ((bT B)) ((bN B)) p 1) = m) (47, [some (zR 2), some (zI p), some (zI m), some (zI p)], [], (zw sc B S Z L R M), 0, 0) (43, [some (zR 2), some (zI p), some (zI m), some (zI p)], [], (zw sc B S Z L R M), 0, 0) rfl ⟨(show ((-2147483648 : Int) ≤ (zrd ((bT B)) ((bN B)) p 1) ∧ (zrd ((bT B)) ((bN B)) p 1) ≤ 2147483647) ∧ (-2147483648 : Int) ≤ m ∧ m ≤ 2147483647 by omega), trivial⟩ (fun h40 => ?_) (fun h40 => ?_)
      · exact z_re c 1 (v := some (zI 0)) (h := (zw sc B S Z L R M)) (cs := 0) (ss := 0) rfl trivial (Or.inl rfl) ⟨Nat.le_refl _, Nat.le_refl _⟩ ⟨_, rfl, (by unfold zbe; rw [if_neg h7]; omega), rfl⟩
      · exact z_re c 2 (v := some (zI 1)) (h := (zw sc B S Z L R M)) (cs := 0) (ss := 0) rfl trivial (Or.inr rfl) ⟨Nat.le_refl _, Nat.le_refl _⟩ ⟨_, rfl, (by unfold zbe; rw [if_neg h7]; omega), rfl⟩
  · refine z_cV c 3 k_0_58 zv_X0_read (pc := 17) (ls := [some (zR 2), some (zI p), some (zI m), none]) (sk := []) (h := (zw sc B S Z L R M)) (cs := 0) (ss := 0) (c_X0_read l sc B S Z L R M p 8 (show 0 ≤ (bN B) ∧ (bN B) ≤ 100 by omega) (by omega) (by omega)) rfl trivial rfl rfl ⟨Nat.le_refl _, Nat.le_refl _⟩ ?_
    rintro _ _ ⟨rfl, rfl⟩
    have q14 := zrd_rng hT p 8
    show V (17, [some (zR 2), some (zI p), some (zI m), none], [zI ((zrd ((bT B)) ((bN B)) p 8))], (zw sc B S Z L R M), 0, 0)
    refine z_cV c 5 k_0_58 zv_X0_read (pc := 28) (ls := [some (zR 2), some (zI p), some (zI m), some (zI ((zrd ((bT B)) ((bN B)) p 8)))]) (sk := []) (h := (zw sc B S Z L R M)) (cs := 0) (ss := 0) (c_X0_read l sc B S Z L R M ((zrd ((bT B)) ((bN B)) p 8)) 0 (show 0 ≤ (bN B) ∧ (bN B) ≤ 100 by omega) (by omega) (by omega)) rfl trivial rfl rfl ⟨Nat.le_refl _, Nat.le_refl _⟩ ?_
    rintro _ _ ⟨rfl, rfl⟩
    have q25 := zrd_rng hT ((zrd ((bT B)) ((bN B)) p 8)) 0
    show V (28, [some (zR 2), some (zI p), some (zI m), some (zI ((zrd ((bT B)) ((bN B)) p 8)))], [zI ((zrd ((bT B)) ((bN B)) ((zrd ((bT B)) ((bN B)) p 8)) 0))], (zw sc B S Z L R M), 0, 0)
    refine z_br c 1 ((zrd ((bT B)) ((bN B)) ((zrd ((bT B)) ((bN B)) p 8)) 0) = 6) (43, [some (zR 2), some (zI p), some (zI m), some (zI ((zrd ((bT B)) ((bN B)) p 8)))], [], (zw sc B S Z L R M), 0, 0) (33, [some (zR 2), some (zI p), some (zI m), some (zI ((zrd ((bT B)) ((bN B)) p 8)))], [], (zw sc B S Z L R M), 0, 0) rfl ⟨(show ((-2147483648 : Int) ≤ (zrd ((bT B)) ((bN B)) ((zrd ((bT B)) ((bN B)) p 8)) 0) ∧ (zrd ((bT B)) ((bN B)) ((zrd ((bT B)) ((bN B)) p 8)) 0) ≤ 2147483647) ∧ (-2147483648 : Int) ≤ 6 ∧ 6 ≤ 2147483647 by omega), trivial⟩ (fun h30 => ?_) (fun h30 => ?_)
    · exact z_re c 2 (v := some (zI 1)) (h := (zw sc B S Z L R M)) (cs := 0) (ss := 0) rfl trivial (Or.inr rfl) ⟨Nat.le_refl _, Nat.le_refl _⟩ ⟨_, rfl, (by unfold zbe; rw [if_pos (Decidable.not_not.mp h7)]; omega), rfl⟩
    · refine z_cV c 3 k_0_58 zv_X0_read (pc := 39) (ls := [some (zR 2), some (zI p), some (zI m), some (zI ((zrd ((bT B)) ((bN B)) p 8)))]) (sk := []) (h := (zw sc B S Z L R M)) (cs := 0) (ss := 0) (c_X0_read l sc B S Z L R M ((zrd ((bT B)) ((bN B)) p 8)) 1 (show 0 ≤ (bN B) ∧ (bN B) ≤ 100 by omega) (by omega) (by omega)) rfl trivial rfl rfl ⟨Nat.le_refl _, Nat.le_refl _⟩ ?_
      rintro _ _ ⟨rfl, rfl⟩
      have q36 := zrd_rng hT ((zrd ((bT B)) ((bN B)) p 8)) 1
      show V (39, [some (zR 2), some (zI p), some (zI m), some (zI ((zrd ((bT B)) ((bN B)) p 8)))], [zI ((zrd ((bT B)) ((bN B)) ((zrd ((bT B)) ((bN B)) p 8)) 1))], (zw sc B S Z L R M), 0, 0)
      refine z_br c 1 (¬ (zrd ((bT B)) ((bN B)) ((zrd ((bT B)) ((bN B)) p 8)) 1) = m) (47, [some (zR 2), some (zI p), some (zI m), some (zI ((zrd ((bT B)) ((bN B)) p 8)))], [], (zw sc B S Z L R M), 0, 0) (43, [some (zR 2), some (zI p), some (zI m), some (zI ((zrd ((bT B)) ((bN B)) p 8)))], [], (zw sc B S Z L R M), 0, 0) rfl ⟨(show ((-2147483648 : Int) ≤ (zrd ((bT B)) ((bN B)) ((zrd ((bT B)) ((bN B)) p 8)) 1) ∧ (zrd ((bT B)) ((bN B)) ((zrd ((bT B)) ((bN B)) p 8)) 1) ≤ 2147483647) ∧ (-2147483648 : Int) ≤ m ∧ m ≤ 2147483647 by omega), trivial⟩ (fun h40 => ?_) (fun h40 => ?_)
      · exact z_re c 1 (v := some (zI 0)) (h := (zw sc B S Z L R M)) (cs := 0) (ss := 0) rfl trivial (Or.inl rfl) ⟨Nat.le_refl _, Nat.le_refl _⟩ ⟨_, rfl, (by unfold zbe; rw [if_pos (Decidable.not_not.mp h7)]; omega), rfl⟩
      · exact z_re c 2 (v := some (zI 1)) (h := (zw sc B S Z L R M)) (cs := 0) (ss := 0) rfl trivial (Or.inr rfl) ⟨Nat.le_refl _, Nat.le_refl _⟩ ⟨_, rfl, (by unfold zbe; rw [if_pos (Decidable.not_not.mp h7)]; omega), rfl⟩
set_option maxRecDepth 4000 in
theorem c_X0_add_full (l : Launch) (sc : ZSc) (B : ZBk) (S Z : ZSg) (L : ZLn) (R : ZRd) (M : ZMd) (s : Int) (hn : 0 ≤ bN B ∧ bN B ≤ 100) (ho : 0 ≤ bO B ∧ bO B ≤ 20) (hs : 0 ≤ s ∧ s ≤ 6) (hf : 100 ≤ bN B ∨ ((s = 3 ∨ s = 4) ∧ 20 ≤ bO B)) : zMet l m_X0_add [zR 2, zI s] (zw sc B S Z L R M) (zI1 (-4) (zw sc B S Z L R M)) := by
  refine z_method g_X0_add [some (zR 2), some (zI s), none, none] rfl rfl (fun V c => ?_)
  refine z_br c 3 (100 ≤ (bN B)) (25, [some (zR 2), some (zI s), none, none], [], (zw sc B S Z L R M), 0, 0) (9, [some (zR 2), some (zI s), none, none], [], (zw sc B S Z L R M), 0, 0) rfl ⟨(show ((-2147483648 : Int) ≤ (bN B) ∧ (bN B) ≤ 2147483647) ∧ (-2147483648 : Int) ≤ 100 ∧ 100 ≤ 2147483647 by omega), trivial⟩ (fun h6 => ?_) (fun h6 => ?_)
  · exact z_re c 1 (v := some (zI ((-4)))) (h := (zw sc B S Z L R M)) (cs := 0) (ss := 0) rfl trivial trivial ⟨Nat.le_refl _, Nat.le_refl _⟩ ⟨rfl, rfl⟩
  · refine z_cS c 1 k_0_32 zv_X5_isOrder (pc := 13) (ls := [some (zR 2), some (zI s), none, none]) (sk := []) (h := (zw sc B S Z L R M)) (cs := 0) (ss := 0) (c_X5_isOrder l (zw sc B S Z L R M) s (by omega)) rfl trivial rfl ⟨Nat.le_refl _, Nat.le_refl _⟩ ?_
    rintro _ _ ⟨r10, rfl, e10, rfl⟩
    show V (13, [some (zR 2), some (zI s), none, none], [zI r10], (zw sc B S Z L R M), 0, 0)
    refine z_br c 0 (r10 = 0) (28, [some (zR 2), some (zI s), none, none], [], (zw sc B S Z L R M), 0, 0) (16, [some (zR 2), some (zI s), none, none], [], (zw sc B S Z L R M), 0, 0) rfl ⟨(show (-2147483648 : Int) ≤ r10 ∧ r10 ≤ 2147483647 by omega), trivial⟩ (fun h13 => by exfalso; omega) (fun h13 => ?_)
    refine z_br c 3 ((bO B) < 20) (28, [some (zR 2), some (zI s), none, none], [], (zw sc B S Z L R M), 0, 0) (25, [some (zR 2), some (zI s), none, none], [], (zw sc B S Z L R M), 0, 0) rfl ⟨(show ((-2147483648 : Int) ≤ (bO B) ∧ (bO B) ≤ 2147483647) ∧ (-2147483648 : Int) ≤ 20 ∧ 20 ≤ 2147483647 by omega), trivial⟩ (fun h22 => by exfalso; omega) (fun h22 => ?_)
    exact z_re c 1 (v := some (zI ((-4)))) (h := (zw sc B S Z L R M)) (cs := 0) (ss := 0) rfl trivial trivial ⟨Nat.le_refl _, Nat.le_refl _⟩ ⟨rfl, rfl⟩
def zfill (T : Int → Int) (b k : Int) : Int → Int := fun j => if b ≤ j ∧ j < b + k then -9 else T j
theorem zfill_0 (T : Int → Int) (b : Int) : zfill T b 0 = T := by
  funext j
  simp only [zfill]
  rw [if_neg (by omega)]
theorem zfill_s {T : Int → Int} {b k : Int} (h : 0 ≤ k) : zup (zfill T b k) (b + k) (-9) = zfill T b (k + 1) := by
  funext j
  simp only [zup, zfill]
  by_cases e : j = b + k
  · rw [if_pos e, if_pos (by omega)]
  · rw [if_neg e]
    by_cases e2 : b ≤ j ∧ j < b + k
    · rw [if_pos e2, if_pos (by omega)]
    · rw [if_neg e2, if_neg (by omega)]
/-- a new page's row -/
def zrow (T : Int → Int) (n s : Int) : Int → Int := zup (zfill T (n * 12) 12) (n * 12 + 0) s
set_option maxRecDepth 4000 in
theorem c_X0_add_page (l : Launch) (sc : ZSc) (B : ZBk) (S Z : ZSg) (L : ZLn) (R : ZRd) (M : ZMd) (s : Int) (hn : 0 ≤ bN B ∧ bN B < 100) (ho : 0 ≤ bO B ∧ bO B ≤ 20) (hs : 0 ≤ s ∧ s ≤ 6) (hf : ¬ s = 3 ∧ ¬ s = 4) : zMet l m_X0_add [zR 2, zI s] (zw sc B S Z L R M) (zI1 (bN B) (zw sc ((zrow (bT B) (bN B) s, zup (bK B) (bN B) (-9), bN B + 1, bO B, bS B)) S Z L R M)) := by
  refine z_method g_X0_add [some (zR 2), some (zI s), none, none] rfl rfl (fun V c => ?_)
  refine z_br c 3 (100 ≤ (bN B)) (25, [some (zR 2), some (zI s), none, none], [], (zw sc B S Z L R M), 0, 0) (9, [some (zR 2), some (zI s), none, none], [], (zw sc B S Z L R M), 0, 0) rfl ⟨(show ((-2147483648 : Int) ≤ (bN B) ∧ (bN B) ≤ 2147483647) ∧ (-2147483648 : Int) ≤ 100 ∧ 100 ≤ 2147483647 by omega), trivial⟩ (fun h6 => by exfalso; omega) (fun h6 => ?_)
  refine z_cS c 1 k_0_32 zv_X5_isOrder (pc := 13) (ls := [some (zR 2), some (zI s), none, none]) (sk := []) (h := (zw sc B S Z L R M)) (cs := 0) (ss := 0) (c_X5_isOrder l (zw sc B S Z L R M) s (by omega)) rfl trivial rfl ⟨Nat.le_refl _, Nat.le_refl _⟩ ?_
  rintro _ _ ⟨r10, rfl, e10, rfl⟩
  show V (13, [some (zR 2), some (zI s), none, none], [zI r10], (zw sc B S Z L R M), 0, 0)
  refine z_br c 0 (r10 = 0) (28, [some (zR 2), some (zI s), none, none], [], (zw sc B S Z L R M), 0, 0) (16, [some (zR 2), some (zI s), none, none], [], (zw sc B S Z L R M), 0, 0) rfl ⟨(show (-2147483648 : Int) ≤ r10 ∧ r10 ≤ 2147483647 by omega), trivial⟩ (fun h13 => ?_) (fun h13 => by exfalso; omega)
  refine z_cS c 10 k_0_32 zv_X5_isOrder (pc := 47) (ls := [some (zR 2), some (zI s), some (zI ((bN B))), none]) (sk := []) (h := (zw sc ((bT B), (bK B), ((bN B) + 1), (bO B), (bS B)) S Z L R M)) (cs := 0) (ss := 0) (c_X5_isOrder l (zw sc ((bT B), (bK B), ((bN B) + 1), (bO B), (bS B)) S Z L R M) s (by omega)) rfl trivial rfl ⟨Nat.le_refl _, Nat.le_refl _⟩ ?_
  rintro _ _ ⟨r44, rfl, e44, rfl⟩
  show V (47, [some (zR 2), some (zI s), some (zI ((bN B))), none], [zI r44], (zw sc ((bT B), (bK B), ((bN B) + 1), (bO B), (bS B)) S Z L R M), 0, 0)
  refine z_br c 0 (r44 = 0) (60, [some (zR 2), some (zI s), some (zI ((bN B))), none], [], (zw sc ((bT B), (bK B), ((bN B) + 1), (bO B), (bS B)) S Z L R M), 0, 0) (50, [some (zR 2), some (zI s), some (zI ((bN B))), none], [], (zw sc ((bT B), (bK B), ((bN B) + 1), (bO B), (bS B)) S Z L R M), 0, 0) rfl ⟨(show (-2147483648 : Int) ≤ r44 ∧ r44 ≤ 2147483647 by omega), trivial⟩ (fun h47 => ?_) (fun h47 => by exfalso; omega)
  refine z_go c 2 (s1 := (62, [some (zR 2), some (zI s), some (zI ((bN B))), some (zI 0)], [], (zw sc ((bT B), (bK B), ((bN B) + 1), (bO B), (bS B)) S Z L R M), 0, 0)) rfl trivial ?_
  have loop : ∀ (k : Nat) (i : Int), 12 - i < (k : Int) → 0 ≤ i → i ≤ 12 → V (62, [some (zR 2), some (zI s), some (zI (bN B)), some (zI i)], [], (zw sc ((zfill (bT B) ((bN B) * 12) i), (bK B), ((bN B) + 1), (bO B), (bS B)) S Z L R M), 0, 0) := by
    intro k
    induction k with
    | zero => intro i h1 h2 h3; exfalso; omega
    | succ k ih =>
      intro i hik hi0 hi1
      refine z_br c 2 (12 ≤ i) (82, [some (zR 2), some (zI s), some (zI ((bN B))), some (zI i)], [], (zw sc ((zfill (bT B) ((bN B) * 12) i), (bK B), ((bN B) + 1), (bO B), (bS B)) S Z L R M), 0, 0) (68, [some (zR 2), some (zI s), some (zI ((bN B))), some (zI i)], [], (zw sc ((zfill (bT B) ((bN B) * 12) i), (bK B), ((bN B) + 1), (bO B), (bS B)) S Z L R M), 0, 0) rfl ⟨(show ((-2147483648 : Int) ≤ i ∧ i ≤ 2147483647) ∧ (-2147483648 : Int) ≤ 12 ∧ 12 ≤ 2147483647 by omega), trivial⟩ (fun h65 => ?_) (fun h65 => ?_)
      · obtain rfl : i = 12 := by omega
        refine z_cV c 4 k_0_35 zv_X0_tell (pc := 89) (ls := [some (zR 2), some (zI s), some (zI ((bN B))), some (zI 12)]) (sk := []) (h := (zw sc ((zfill (bT B) ((bN B) * 12) 12), (bK B), ((bN B) + 1), (bO B), (bS B)) S Z L R M)) (cs := 0) (ss := 0) (c_X0_tell l sc ((zfill (bT B) ((bN B) * 12) 12), (bK B), ((bN B) + 1), (bO B), (bS B)) S Z L R M ((bN B)) 0 s (show 0 ≤ ((bN B) + 1) ∧ ((bN B) + 1) ≤ 100 by omega) (show 0 ≤ ((bN B)) ∧ ((bN B)) < ((bN B) + 1) by omega) (by omega)) rfl trivial rfl rfl ⟨Nat.le_refl _, Nat.le_refl _⟩ ?_
        rintro _ _ ⟨rfl, rfl⟩
        show V (89, [some (zR 2), some (zI s), some (zI ((bN B))), some (zI 12)], [], (zw sc ((zup (zfill (bT B) ((bN B) * 12) 12) (((bN B)) * 12 + 0) s), (bK B), ((bN B) + 1), (bO B), (bS B)) S Z L R M), 0, 0)
        refine z_cS c 4 k_0_39 zv_X5_put (pc := 99) (ls := [some (zR 2), some (zI s), some (zI ((bN B))), some (zI 12)]) (sk := []) (h := (zw sc ((zup (zfill (bT B) ((bN B) * 12) 12) (((bN B)) * 12 + 0) s), (bK B), ((bN B) + 1), (bO B), (bS B)) S Z L R M)) (cs := 0) (ss := 0) (c_X5_put l (zw sc ((zup (zfill (bT B) ((bN B) * 12) 12) (((bN B)) * 12 + 0) s), (bK B), ((bN B) + 1), (bO B), (bS B)) S Z L R M) 3 100 (bK B) ((bN B)) ((-9)) rfl (by decide) (by omega)) rfl trivial rfl ⟨Nat.le_refl _, Nat.le_refl _⟩ ?_
        rintro _ _ ⟨rfl, rfl⟩
        show V (99, [some (zR 2), some (zI s), some (zI ((bN B))), some (zI 12)], [], (zw sc ((zup (zfill (bT B) ((bN B) * 12) 12) (((bN B)) * 12 + 0) s), (zpt 100 (bK B) ((bN B)) ((-9))), ((bN B) + 1), (bO B), (bS B)) S Z L R M), 0, 0)
        exact z_re c 1 (v := some (zI ((bN B)))) (h := (zw sc ((zup (zfill (bT B) ((bN B) * 12) 12) (((bN B)) * 12 + 0) s), (zpt 100 (bK B) ((bN B)) ((-9))), ((bN B) + 1), (bO B), (bS B)) S Z L R M)) (cs := 0) (ss := 0) rfl trivial trivial ⟨Nat.le_refl _, Nat.le_refl _⟩ ⟨rfl, by rw [zpt_in (by omega)]; rfl⟩
      · refine z_cV c 4 k_0_35 zv_X0_tell (pc := 76) (ls := [some (zR 2), some (zI s), some (zI ((bN B))), some (zI i)]) (sk := []) (h := (zw sc ((zfill (bT B) ((bN B) * 12) i), (bK B), ((bN B) + 1), (bO B), (bS B)) S Z L R M)) (cs := 0) (ss := 0) (c_X0_tell l sc ((zfill (bT B) ((bN B) * 12) i), (bK B), ((bN B) + 1), (bO B), (bS B)) S Z L R M ((bN B)) i ((-9)) (show 0 ≤ ((bN B) + 1) ∧ ((bN B) + 1) ≤ 100 by omega) (show 0 ≤ ((bN B)) ∧ ((bN B)) < ((bN B) + 1) by omega) (by omega)) rfl trivial rfl rfl ⟨Nat.le_refl _, Nat.le_refl _⟩ ?_
        rintro _ _ ⟨rfl, rfl⟩
        show V (76, [some (zR 2), some (zI s), some (zI ((bN B))), some (zI i)], [], (zw sc ((zup (zfill (bT B) ((bN B) * 12) i) (((bN B)) * 12 + i) ((-9))), (bK B), ((bN B) + 1), (bO B), (bS B)) S Z L R M), 0, 0)
        refine z_go c 2 (s1 := (62, [some (zR 2), some (zI s), some (zI ((bN B))), some (zI ((i + 1)))], [], (zw sc ((zup (zfill (bT B) ((bN B) * 12) i) (((bN B)) * 12 + i) ((-9))), (bK B), ((bN B) + 1), (bO B), (bS B)) S Z L R M), 0, 0)) rfl trivial ?_
        rw [zfill_s hi0]
        exact ih (i + 1) (by omega) (by omega) (by omega)
  have := loop 13 0 (by decide) (by decide) (by decide)
  rw [zfill_0] at this
  exact this
set_option maxRecDepth 4000 in
theorem c_X0_add_order (l : Launch) (sc : ZSc) (B : ZBk) (S Z : ZSg) (L : ZLn) (R : ZRd) (M : ZMd) (s : Int) (hn : 0 ≤ bN B ∧ bN B < 100) (ho : 0 ≤ bO B ∧ bO B ≤ 20) (hs : 0 ≤ s ∧ s ≤ 6) (hf : (s = 3 ∨ s = 4) ∧ bO B < 20) : zMet l m_X0_add [zR 2, zI s] (zw sc B S Z L R M) (zI1 (bN B) (zw sc ((zrow (bT B) (bN B) s, zup (bK B) (bN B) (-9), bN B + 1, bO B + 1, bS B)) S Z L R M)) := by
  refine z_method g_X0_add [some (zR 2), some (zI s), none, none] rfl rfl (fun V c => ?_)
  refine z_br c 3 (100 ≤ (bN B)) (25, [some (zR 2), some (zI s), none, none], [], (zw sc B S Z L R M), 0, 0) (9, [some (zR 2), some (zI s), none, none], [], (zw sc B S Z L R M), 0, 0) rfl ⟨(show ((-2147483648 : Int) ≤ (bN B) ∧ (bN B) ≤ 2147483647) ∧ (-2147483648 : Int) ≤ 100 ∧ 100 ≤ 2147483647 by omega), trivial⟩ (fun h6 => by exfalso; omega) (fun h6 => ?_)
  refine z_cS c 1 k_0_32 zv_X5_isOrder (pc := 13) (ls := [some (zR 2), some (zI s), none, none]) (sk := []) (h := (zw sc B S Z L R M)) (cs := 0) (ss := 0) (c_X5_isOrder l (zw sc B S Z L R M) s (by omega)) rfl trivial rfl ⟨Nat.le_refl _, Nat.le_refl _⟩ ?_
  rintro _ _ ⟨r10, rfl, e10, rfl⟩
  show V (13, [some (zR 2), some (zI s), none, none], [zI r10], (zw sc B S Z L R M), 0, 0)
  refine z_br c 0 (r10 = 0) (28, [some (zR 2), some (zI s), none, none], [], (zw sc B S Z L R M), 0, 0) (16, [some (zR 2), some (zI s), none, none], [], (zw sc B S Z L R M), 0, 0) rfl ⟨(show (-2147483648 : Int) ≤ r10 ∧ r10 ≤ 2147483647 by omega), trivial⟩ (fun h13 => by exfalso; omega) (fun h13 => ?_)
  refine z_br c 3 ((bO B) < 20) (28, [some (zR 2), some (zI s), none, none], [], (zw sc B S Z L R M), 0, 0) (25, [some (zR 2), some (zI s), none, none], [], (zw sc B S Z L R M), 0, 0) rfl ⟨(show ((-2147483648 : Int) ≤ (bO B) ∧ (bO B) ≤ 2147483647) ∧ (-2147483648 : Int) ≤ 20 ∧ 20 ≤ 2147483647 by omega), trivial⟩ (fun h22 => ?_) (fun h22 => by exfalso; omega)
  refine z_cS c 10 k_0_32 zv_X5_isOrder (pc := 47) (ls := [some (zR 2), some (zI s), some (zI ((bN B))), none]) (sk := []) (h := (zw sc ((bT B), (bK B), ((bN B) + 1), (bO B), (bS B)) S Z L R M)) (cs := 0) (ss := 0) (c_X5_isOrder l (zw sc ((bT B), (bK B), ((bN B) + 1), (bO B), (bS B)) S Z L R M) s (by omega)) rfl trivial rfl ⟨Nat.le_refl _, Nat.le_refl _⟩ ?_
  rintro _ _ ⟨r44, rfl, e44, rfl⟩
  show V (47, [some (zR 2), some (zI s), some (zI ((bN B))), none], [zI r44], (zw sc ((bT B), (bK B), ((bN B) + 1), (bO B), (bS B)) S Z L R M), 0, 0)
  refine z_br c 0 (r44 = 0) (60, [some (zR 2), some (zI s), some (zI ((bN B))), none], [], (zw sc ((bT B), (bK B), ((bN B) + 1), (bO B), (bS B)) S Z L R M), 0, 0) (50, [some (zR 2), some (zI s), some (zI ((bN B))), none], [], (zw sc ((bT B), (bK B), ((bN B) + 1), (bO B), (bS B)) S Z L R M), 0, 0) rfl ⟨(show (-2147483648 : Int) ≤ r44 ∧ r44 ≤ 2147483647 by omega), trivial⟩ (fun h47 => by exfalso; omega) (fun h47 => ?_)
  refine z_go c 8 (s1 := (62, [some (zR 2), some (zI s), some (zI ((bN B))), some (zI 0)], [], (zw sc ((bT B), (bK B), ((bN B) + 1), ((bO B) + 1), (bS B)) S Z L R M), 0, 0)) rfl trivial ?_
  have loop : ∀ (k : Nat) (i : Int), 12 - i < (k : Int) → 0 ≤ i → i ≤ 12 → V (62, [some (zR 2), some (zI s), some (zI (bN B)), some (zI i)], [], (zw sc ((zfill (bT B) ((bN B) * 12) i), (bK B), ((bN B) + 1), ((bO B) + 1), (bS B)) S Z L R M), 0, 0) := by
    intro k
    induction k with
    | zero => intro i h1 h2 h3; exfalso; omega
    | succ k ih =>
      intro i hik hi0 hi1
      refine z_br c 2 (12 ≤ i) (82, [some (zR 2), some (zI s), some (zI ((bN B))), some (zI i)], [], (zw sc ((zfill (bT B) ((bN B) * 12) i), (bK B), ((bN B) + 1), ((bO B) + 1), (bS B)) S Z L R M), 0, 0) (68, [some (zR 2), some (zI s), some (zI ((bN B))), some (zI i)], [], (zw sc ((zfill (bT B) ((bN B) * 12) i), (bK B), ((bN B) + 1), ((bO B) + 1), (bS B)) S Z L R M), 0, 0) rfl ⟨(show ((-2147483648 : Int) ≤ i ∧ i ≤ 2147483647) ∧ (-2147483648 : Int) ≤ 12 ∧ 12 ≤ 2147483647 by omega), trivial⟩ (fun h65 => ?_) (fun h65 => ?_)
      · obtain rfl : i = 12 := by omega
        refine z_cV c 4 k_0_35 zv_X0_tell (pc := 89) (ls := [some (zR 2), some (zI s), some (zI ((bN B))), some (zI 12)]) (sk := []) (h := (zw sc ((zfill (bT B) ((bN B) * 12) 12), (bK B), ((bN B) + 1), ((bO B) + 1), (bS B)) S Z L R M)) (cs := 0) (ss := 0) (c_X0_tell l sc ((zfill (bT B) ((bN B) * 12) 12), (bK B), ((bN B) + 1), ((bO B) + 1), (bS B)) S Z L R M ((bN B)) 0 s (show 0 ≤ ((bN B) + 1) ∧ ((bN B) + 1) ≤ 100 by omega) (show 0 ≤ ((bN B)) ∧ ((bN B)) < ((bN B) + 1) by omega) (by omega)) rfl trivial rfl rfl ⟨Nat.le_refl _, Nat.le_refl _⟩ ?_
        rintro _ _ ⟨rfl, rfl⟩
        show V (89, [some (zR 2), some (zI s), some (zI ((bN B))), some (zI 12)], [], (zw sc ((zup (zfill (bT B) ((bN B) * 12) 12) (((bN B)) * 12 + 0) s), (bK B), ((bN B) + 1), ((bO B) + 1), (bS B)) S Z L R M), 0, 0)
        refine z_cS c 4 k_0_39 zv_X5_put (pc := 99) (ls := [some (zR 2), some (zI s), some (zI ((bN B))), some (zI 12)]) (sk := []) (h := (zw sc ((zup (zfill (bT B) ((bN B) * 12) 12) (((bN B)) * 12 + 0) s), (bK B), ((bN B) + 1), ((bO B) + 1), (bS B)) S Z L R M)) (cs := 0) (ss := 0) (c_X5_put l (zw sc ((zup (zfill (bT B) ((bN B) * 12) 12) (((bN B)) * 12 + 0) s), (bK B), ((bN B) + 1), ((bO B) + 1), (bS B)) S Z L R M) 3 100 (bK B) ((bN B)) ((-9)) rfl (by decide) (by omega)) rfl trivial rfl ⟨Nat.le_refl _, Nat.le_refl _⟩ ?_
        rintro _ _ ⟨rfl, rfl⟩
        show V (99, [some (zR 2), some (zI s), some (zI ((bN B))), some (zI 12)], [], (zw sc ((zup (zfill (bT B) ((bN B) * 12) 12) (((bN B)) * 12 + 0) s), (zpt 100 (bK B) ((bN B)) ((-9))), ((bN B) + 1), ((bO B) + 1), (bS B)) S Z L R M), 0, 0)
        exact z_re c 1 (v := some (zI ((bN B)))) (h := (zw sc ((zup (zfill (bT B) ((bN B) * 12) 12) (((bN B)) * 12 + 0) s), (zpt 100 (bK B) ((bN B)) ((-9))), ((bN B) + 1), ((bO B) + 1), (bS B)) S Z L R M)) (cs := 0) (ss := 0) rfl trivial trivial ⟨Nat.le_refl _, Nat.le_refl _⟩ ⟨rfl, by rw [zpt_in (by omega)]; rfl⟩
      · refine z_cV c 4 k_0_35 zv_X0_tell (pc := 76) (ls := [some (zR 2), some (zI s), some (zI ((bN B))), some (zI i)]) (sk := []) (h := (zw sc ((zfill (bT B) ((bN B) * 12) i), (bK B), ((bN B) + 1), ((bO B) + 1), (bS B)) S Z L R M)) (cs := 0) (ss := 0) (c_X0_tell l sc ((zfill (bT B) ((bN B) * 12) i), (bK B), ((bN B) + 1), ((bO B) + 1), (bS B)) S Z L R M ((bN B)) i ((-9)) (show 0 ≤ ((bN B) + 1) ∧ ((bN B) + 1) ≤ 100 by omega) (show 0 ≤ ((bN B)) ∧ ((bN B)) < ((bN B) + 1) by omega) (by omega)) rfl trivial rfl rfl ⟨Nat.le_refl _, Nat.le_refl _⟩ ?_
        rintro _ _ ⟨rfl, rfl⟩
        show V (76, [some (zR 2), some (zI s), some (zI ((bN B))), some (zI i)], [], (zw sc ((zup (zfill (bT B) ((bN B) * 12) i) (((bN B)) * 12 + i) ((-9))), (bK B), ((bN B) + 1), ((bO B) + 1), (bS B)) S Z L R M), 0, 0)
        refine z_go c 2 (s1 := (62, [some (zR 2), some (zI s), some (zI ((bN B))), some (zI ((i + 1)))], [], (zw sc ((zup (zfill (bT B) ((bN B) * 12) i) (((bN B)) * 12 + i) ((-9))), (bK B), ((bN B) + 1), ((bO B) + 1), (bS B)) S Z L R M), 0, 0)) rfl trivial ?_
        rw [zfill_s hi0]
        exact ih (i + 1) (by omega) (by omega) (by omega)
  have := loop 13 0 (by decide) (by decide) (by decide)
  rw [zfill_0] at this
  exact this
set_option maxRecDepth 4000 in
theorem c_X0_addStrike_full (l : Launch) (sc : ZSc) (B : ZBk) (S Z : ZSg) (L : ZLn) (R : ZRd) (M : ZMd) (p : Int) (hn : 0 ≤ bN B ∧ bN B ≤ 100) (ho : 0 ≤ bO B ∧ bO B ≤ 20) (hf : 100 ≤ bN B) : zMet l m_X0_addStrike [zR 2, zI p] (zw sc B S Z L R M) (zI1 (-4) (zw sc B S Z L R M)) := by
  refine z_method g_X0_addStrike [some (zR 2), some (zI p), none] rfl rfl (fun V c => ?_)
  refine z_cV c 2 k_0_43 zv_X0_add (pc := 5) (ls := [some (zR 2), some (zI p), none]) (sk := []) (h := (zw sc B S Z L R M)) (cs := 0) (ss := 0) (c_X0_add_full l sc B S Z L R M 5 (show 0 ≤ (bN B) ∧ (bN B) ≤ 100 by omega) (show 0 ≤ (bO B) ∧ (bO B) ≤ 20 by omega) (by omega) (show 100 ≤ (bN B) ∨ ((5 = 3 ∨ 5 = 4) ∧ 20 ≤ (bO B)) by omega)) rfl trivial rfl rfl ⟨Nat.le_refl _, Nat.le_refl _⟩ ?_
  rintro _ _ ⟨rfl, rfl⟩
  show V (5, [some (zR 2), some (zI p), none], [zI ((-4))], (zw sc B S Z L R M), 0, 0)
  refine z_cV c 3 k_0_28 zv_X0_has (pc := 11) (ls := [some (zR 2), some (zI p), some (zI ((-4)))]) (sk := []) (h := (zw sc B S Z L R M)) (cs := 0) (ss := 0) (c_X0_has l sc B S Z L R M ((-4)) (show 0 ≤ (bN B) ∧ (bN B) ≤ 100 by omega) (by omega)) rfl trivial rfl rfl ⟨Nat.le_refl _, Nat.le_refl _⟩ ?_
  rintro _ _ ⟨r8, rfl, e8, rfl⟩
  replace e8 : ((0 ≤ ((-4)) ∧ ((-4)) < (bN B)) ∧ r8 = 1) ∨ (¬ (0 ≤ ((-4)) ∧ ((-4)) < (bN B)) ∧ r8 = 0) := e8
  show V (11, [some (zR 2), some (zI p), some (zI ((-4)))], [zI r8], (zw sc B S Z L R M), 0, 0)
  refine z_br c 0 (¬ r8 = 0) (16, [some (zR 2), some (zI p), some (zI ((-4)))], [], (zw sc B S Z L R M), 0, 0) (14, [some (zR 2), some (zI p), some (zI ((-4)))], [], (zw sc B S Z L R M), 0, 0) rfl ⟨(show (-2147483648 : Int) ≤ r8 ∧ r8 ≤ 2147483647 by omega), trivial⟩ (fun h11 => by exfalso; omega) (fun h11 => ?_)
  exact z_re c 1 (v := some (zI ((-4)))) (h := (zw sc B S Z L R M)) (cs := 0) (ss := 0) rfl trivial trivial ⟨Nat.le_refl _, Nat.le_refl _⟩ ⟨rfl, rfl⟩
set_option maxRecDepth 4000 in
theorem c_X0_addStrike_ok (l : Launch) (sc : ZSc) (B : ZBk) (S Z : ZSg) (L : ZLn) (R : ZRd) (M : ZMd) (p : Int) (hn : 0 ≤ bN B ∧ bN B < 100) (ho : 0 ≤ bO B ∧ bO B ≤ 20) (hp : 0 ≤ p ∧ p < bN B) : zMet l m_X0_addStrike [zR 2, zI p] (zw sc B S Z L R M) (zI1 (bN B) (zw sc ((zup (zrow (bT B) (bN B) 5) (bN B * 12 + 8) p, zup (zup (bK B) (bN B) (-9)) p (bN B), bN B + 1, bO B, bS B + 1)) S Z L R M)) := by
  refine z_method g_X0_addStrike [some (zR 2), some (zI p), none] rfl rfl (fun V c => ?_)
  refine z_cV c 2 k_0_43 zv_X0_add (pc := 5) (ls := [some (zR 2), some (zI p), none]) (sk := []) (h := (zw sc B S Z L R M)) (cs := 0) (ss := 0) (c_X0_add_page l sc B S Z L R M 5 (show 0 ≤ (bN B) ∧ (bN B) < 100 by omega) (show 0 ≤ (bO B) ∧ (bO B) ≤ 20 by omega) (by omega) (by omega)) rfl trivial rfl rfl ⟨Nat.le_refl _, Nat.le_refl _⟩ ?_
  rintro _ _ ⟨rfl, rfl⟩
  show V (5, [some (zR 2), some (zI p), none], [zI ((bN B))], (zw sc ((zrow (bT B) (bN B) 5), (zup (bK B) (bN B) (-9)), ((bN B) + 1), (bO B), (bS B)) S Z L R M), 0, 0)
  refine z_cV c 3 k_0_28 zv_X0_has (pc := 11) (ls := [some (zR 2), some (zI p), some (zI ((bN B)))]) (sk := []) (h := (zw sc ((zrow (bT B) (bN B) 5), (zup (bK B) (bN B) (-9)), ((bN B) + 1), (bO B), (bS B)) S Z L R M)) (cs := 0) (ss := 0) (c_X0_has l sc ((zrow (bT B) (bN B) 5), (zup (bK B) (bN B) (-9)), ((bN B) + 1), (bO B), (bS B)) S Z L R M ((bN B)) (show 0 ≤ ((bN B) + 1) ∧ ((bN B) + 1) ≤ 100 by omega) (by omega)) rfl trivial rfl rfl ⟨Nat.le_refl _, Nat.le_refl _⟩ ?_
  rintro _ _ ⟨r8, rfl, e8, rfl⟩
  replace e8 : ((0 ≤ ((bN B)) ∧ ((bN B)) < ((bN B) + 1)) ∧ r8 = 1) ∨ (¬ (0 ≤ ((bN B)) ∧ ((bN B)) < ((bN B) + 1)) ∧ r8 = 0) := e8
  show V (11, [some (zR 2), some (zI p), some (zI ((bN B)))], [zI r8], (zw sc ((zrow (bT B) (bN B) 5), (zup (bK B) (bN B) (-9)), ((bN B) + 1), (bO B), (bS B)) S Z L R M), 0, 0)
  refine z_br c 0 (¬ r8 = 0) (16, [some (zR 2), some (zI p), some (zI ((bN B)))], [], (zw sc ((zrow (bT B) (bN B) 5), (zup (bK B) (bN B) (-9)), ((bN B) + 1), (bO B), (bS B)) S Z L R M), 0, 0) (14, [some (zR 2), some (zI p), some (zI ((bN B)))], [], (zw sc ((zrow (bT B) (bN B) 5), (zup (bK B) (bN B) (-9)), ((bN B) + 1), (bO B), (bS B)) S Z L R M), 0, 0) rfl ⟨(show (-2147483648 : Int) ≤ r8 ∧ r8 ≤ 2147483647 by omega), trivial⟩ (fun h11 => ?_) (fun h11 => by exfalso; omega)
  refine z_cV c 4 k_0_35 zv_X0_tell (pc := 24) (ls := [some (zR 2), some (zI p), some (zI ((bN B)))]) (sk := []) (h := (zw sc ((zrow (bT B) (bN B) 5), (zup (bK B) (bN B) (-9)), ((bN B) + 1), (bO B), (bS B)) S Z L R M)) (cs := 0) (ss := 0) (c_X0_tell l sc ((zrow (bT B) (bN B) 5), (zup (bK B) (bN B) (-9)), ((bN B) + 1), (bO B), (bS B)) S Z L R M ((bN B)) 8 p (show 0 ≤ ((bN B) + 1) ∧ ((bN B) + 1) ≤ 100 by omega) (show 0 ≤ ((bN B)) ∧ ((bN B)) < ((bN B) + 1) by omega) (by omega)) rfl trivial rfl rfl ⟨Nat.le_refl _, Nat.le_refl _⟩ ?_
  rintro _ _ ⟨rfl, rfl⟩
  show V (24, [some (zR 2), some (zI p), some (zI ((bN B)))], [], (zw sc ((zup (zrow (bT B) (bN B) 5) (((bN B)) * 12 + 8) p), (zup (bK B) (bN B) (-9)), ((bN B) + 1), (bO B), (bS B)) S Z L R M), 0, 0)
  refine z_cS c 4 k_0_39 zv_X5_put (pc := 33) (ls := [some (zR 2), some (zI p), some (zI ((bN B)))]) (sk := []) (h := (zw sc ((zup (zrow (bT B) (bN B) 5) (((bN B)) * 12 + 8) p), (zup (bK B) (bN B) (-9)), ((bN B) + 1), (bO B), (bS B)) S Z L R M)) (cs := 0) (ss := 0) (c_X5_put l (zw sc ((zup (zrow (bT B) (bN B) 5) (((bN B)) * 12 + 8) p), (zup (bK B) (bN B) (-9)), ((bN B) + 1), (bO B), (bS B)) S Z L R M) 3 100 (zup (bK B) (bN B) (-9)) p ((bN B)) rfl (by decide) (by omega)) rfl trivial rfl ⟨Nat.le_refl _, Nat.le_refl _⟩ ?_
  rintro _ _ ⟨rfl, rfl⟩
  show V (33, [some (zR 2), some (zI p), some (zI ((bN B)))], [], (zw sc ((zup (zrow (bT B) (bN B) 5) (((bN B)) * 12 + 8) p), (zpt 100 (zup (bK B) (bN B) (-9)) p ((bN B))), ((bN B) + 1), (bO B), (bS B)) S Z L R M), 0, 0)
  exact z_re c 7 (v := some (zI ((bN B)))) (h := (zw sc ((zup (zrow (bT B) (bN B) 5) (((bN B)) * 12 + 8) p), (zpt 100 (zup (bK B) (bN B) (-9)) p ((bN B))), ((bN B) + 1), (bO B), ((bS B) + 1)) S Z L R M)) (cs := 0) (ss := 0) rfl trivial trivial ⟨Nat.le_refl _, Nat.le_refl _⟩ ⟨rfl, by rw [zpt_in (by omega)]⟩
