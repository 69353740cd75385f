/-! what the model is asked: how far -/
theorem zMk_ab {M M1 : ZMd} (h : zMk M M1) : mOne M1 = mOne M ∧ mTwo M1 = mTwo M := ⟨congrArg (fun z => z.2.1) h.1, congrArg (fun z => z.2.2.1) h.1⟩
theorem zDf_ten {op : Int → Bool} {a b G : Int → Int} {nw s : Int} (h : zRv a b nw) (hG : ∀ p, 0 ≤ p → p < 10 → G p = if p = s then 0 else -9) {p : Int} (hp : 0 ≤ p ∧ p < 10) : zgs op a b nw.toNat G 10 p = zDf op a b nw.toNat s p :=
  zqd_one (zdis_ten (zRv_ab h) (zgs_dis (zRv_ab h) (zdis_0 hG) 10) p hp.1 hp.2) (zDf_dis h s p hp.1 hp.2)
theorem zDf_v {op : Int → Bool} {a b : Int → Int} {nw s p : Int} (h : zRv a b nw) (hp : 0 ≤ p ∧ p < 10) : zDf op a b nw.toNat s p = -9 ∨ (0 ≤ zDf op a b nw.toNat s p ∧ zDf op a b nw.toNat s p ≤ 9) := by
  have h9 : zqd (zEd op a b nw.toNat) s p (zDf op a b nw.toNat s p) 9 := zDf_dis (op := op) h s p hp.1 hp.2
  rcases h9 with ⟨e, -⟩ | ⟨d, hd, e, -⟩
  · exact Or.inl e
  · exact Or.inr (by omega)
def zsb (op : Int → Bool) : Nat → Nat
  | 0 => 0
  | m + 1 => if op (m : Int) = true then zsb op m ||| 2 ^ m else zsb op m
theorem zsb_lt (op : Int → Bool) : ∀ m : Nat, zsb op m < 2 ^ m
  | 0 => by show (0 : Nat) < 2 ^ 0; decide
  | m + 1 => by
    have h := zsb_lt op m
    have h2 : 2 ^ m < 2 ^ (m + 1) := Nat.pow_lt_pow_right (by decide) (by omega)
    unfold zsb
    split
    · exact Nat.or_lt_two_pow (by omega) h2
    · omega
theorem zsb_bit (op : Int → Bool) (j : Nat) : ∀ m : Nat, (zsb op m).testBit j = true ↔ j < m ∧ op (j : Int) = true
  | 0 => by simp [zsb]
  | m + 1 => by
    have ih := zsb_bit op j m
    unfold zsb
    split
    · rename_i h
      rw [Nat.testBit_or, Bool.or_eq_true, ih, Nat.testBit_two_pow]
      constructor
      · rintro (⟨a, b⟩ | a)
        · exact ⟨by omega, b⟩
        · have e : m = j := by simpa using a
          subst e; exact ⟨by omega, h⟩
      · rintro ⟨a, b⟩
        rcases (show j < m ∨ j = m by omega) with g | g
        · exact Or.inl ⟨g, b⟩
        · subst g; exact Or.inr (by simp)
    · rename_i h
      rw [ih]
      constructor
      · rintro ⟨a, b⟩; exact ⟨by omega, b⟩
      · rintro ⟨a, b⟩
        rcases (show j < m ∨ j = m by omega) with g | g
        · exact ⟨g, b⟩
        · subst g; exact absurd b h
theorem zsb_test {op : Int → Bool} {s : Int} {m w : Nat} (hs : s = ((zsb op m : Nat) : Int)) (hw : w < m) : (((s.toNat / 2 ^ ((w : Int)).toNat : Nat) : Int) % 2 = 1 ↔ op (w : Int) = true) ∧ (0 ≤ ((s.toNat / 2 ^ ((w : Int)).toNat : Nat) : Int) % 2 ∧ ((s.toNat / 2 ^ ((w : Int)).toNat : Nat) : Int) % 2 ≤ 1) := by
  subst hs
  rw [Int.toNat_natCast, Int.toNat_natCast]
  have h := zsb_bit op w m
  rw [Nat.testBit_eq_decide_div_mod_eq, decide_eq_true_iff] at h
  generalize zsb op m / 2 ^ w = d at h ⊢
  refine ⟨⟨fun z => (h.mp (by omega)).2, fun z => ?_⟩, by omega⟩
  have := h.mpr ⟨hw, z⟩
  omega
theorem zsb_yes {op : Int → Bool} {s : Int} {m : Nat} (hs : s = ((zsb op m : Nat) : Int)) (h : op (m : Int) = true) : ((s.toNat ||| (((2 ^ ((m : Int)).toNat : Nat) : Int)).toNat : Nat) : Int) = ((zsb op (m + 1) : Nat) : Int) := by
  subst hs
  rw [Int.toNat_natCast, Int.toNat_natCast, Int.toNat_natCast]
  show ((zsb op m ||| 2 ^ m : Nat) : Int) = (((if op (m : Int) = true then zsb op m ||| 2 ^ m else zsb op m : Nat)) : Int)
  rw [if_pos h]
theorem zsb_no {op : Int → Bool} {s : Int} {m : Nat} (hs : s = ((zsb op m : Nat) : Int)) (h : ¬ op (m : Int) = true) : ((s.toNat ||| ((0 : Int)).toNat : Nat) : Int) = ((zsb op (m + 1) : Nat) : Int) := by
  subst hs
  rw [Int.toNat_natCast]
  show ((zsb op m ||| 0 : Nat) : Int) = (((if op (m : Int) = true then zsb op m ||| 2 ^ m else zsb op m : Nat)) : Int)
  rw [if_neg h, Nat.or_zero]
theorem zup_id (F : Int → Int) (i : Int) : zup F i (F i) = F := by
  funext j
  simp only [zup]
  by_cases h : j = i
  · rw [if_pos h, h]
  · rw [if_neg h]
theorem zgo_y {F : Int → Int} {h t s : Int} (a : F h = s - 1) (b : F t = -9) : zup F t s = zgo F h t s := (if_pos ⟨a, b⟩).symm
theorem zgo_n {F : Int → Int} {h t s : Int} (a : ¬ (F h = s - 1 ∧ F t = -9)) : zup F t (F t) = zgo F h t s := by
  rw [zup_id]
  exact (if_neg a).symm
theorem zgw_y {op : Int → Bool} {a b F G1 G2 G3 : Int → Int} {s : Int} {m : Nat} (h1 : G1 = zgw op a b s F m) (ho : op (m : Int) = true) (h2 : G2 = zgo G1 (a (m : Int)) (b (m : Int)) s) (h3 : G3 = zgo G2 (b (m : Int)) (a (m : Int)) s) : G3 = zgw op a b s F (m + 1) := by
  show G3 = (if _ then _ else _)
  rw [if_pos ho, h3, h2, h1]
theorem zgw_n {op : Int → Bool} {a b F G1 : Int → Int} {s : Int} {m : Nat} (h1 : G1 = zgw op a b s F m) (ho : ¬ op (m : Int) = true) : G1 = zgw op a b s F (m + 1) := by
  show G1 = (if _ then _ else _)
  rw [if_neg ho, h1]
theorem zOp_iff {T K : Int → Int} {n l k y w : Int} : zOp T K n l k y w = true ↔ ¬ zF T K n w l (-9) k y = 0 := by
  unfold zOp
  rw [Bool.not_eq_true', decide_eq_false_iff_not]
/-- what refuses a question about places -/
def zrW (n f t k y a : Int) : Int := if 0 ≤ t ∧ t ≤ 9 then zrP n f k y a else -1
theorem zrW_0 {n f t k y a : Int} (h : zrW n f t k y a = 0) : (0 ≤ t ∧ t ≤ 9) ∧ zrP n f k y a = 0 ∧ (0 ≤ f ∧ f ≤ 9) ∧ (a = -9 ∨ (0 ≤ a ∧ a < n)) ∧ (0 ≤ k ∧ k ≤ 2) ∧ (0 ≤ y ∧ y ≤ 100) := by
  unfold zrW at h
  split at h
  · rename_i g
    rcases zrP_c n f k y a with z | z | z
    · exact ⟨g, z⟩
    · omega
    · omega
  · omega
theorem zrW_r (n f t k y a : Int) : -2 ≤ zrW n f t k y a ∧ zrW n f t k y a ≤ 0 := by
  unfold zrW
  split
  · rcases zrP_c n f k y a with z | z | z <;> omega
  · omega
theorem zrW_n {n f t k y a : Int} (D : Int) (h : ¬ zrW n f t k y a = 0) : zrW n f t k y a = if 0 ≤ t ∧ t ≤ 9 then (if zrP n f k y a = 0 then D else zrP n f k y a) else -1 := by
  unfold zrW at h ⊢
  by_cases g : 0 ≤ t ∧ t ≤ 9
  · rw [if_pos g] at h
    rw [if_pos g, if_pos g, if_neg h]
  · rw [if_neg g, if_neg g]
theorem zrW_y {n f t k y a D : Int} (h : zrW n f t k y a = 0) : D = if 0 ≤ t ∧ t ≤ 9 then (if zrP n f k y a = 0 then D else zrP n f k y a) else -1 := by
  have z := zrW_0 h
  rw [if_pos z.1, if_pos z.2.1]
theorem zrW_s {n f k y a : Int} : zrW n f f k y a = zrP n f k y a := by
  unfold zrW zrP
  by_cases g : 0 ≤ f ∧ f ≤ 9
  · rw [if_pos g]
  · rw [if_neg g, if_neg (fun z => g z.1)]
theorem zrW_m1 {n f t k y a : Int} (h : ¬ ((0 ≤ f ∧ f ≤ 9) ∧ (0 ≤ t ∧ t ≤ 9) ∧ (a = -9 ∨ (0 ≤ a ∧ a < n)))) : zrW n f t k y a = -1 := by
  unfold zrW zrP
  by_cases g : 0 ≤ t ∧ t ≤ 9
  · rw [if_pos g, if_neg (by omega)]
  · rw [if_neg g]
set_option maxRecDepth 4000 in
theorem c_X6_noWalk (l : Launch) (sc : ZSc) (B : ZBk) (S Z : ZSg) (L : ZLn) (R : ZRd) (M : ZMd) (T K : Int → Int) (n nw : Int) (f t k y a : Int) (hB : zBv T K n nw) (hM : zMr T n nw M) (hnw : 0 ≤ nw ∧ nw ≤ 12) (hf : (-2147483648 ≤ f ∧ f ≤ 2147483647)) (ht : (-2147483648 ≤ t ∧ t ≤ 2147483647)) (hk : (-2147483648 ≤ k ∧ k ≤ 2147483647)) (hy : (-2147483648 ≤ y ∧ y ≤ 2147483647)) (ha : (-2147483648 ≤ a ∧ a ≤ 2147483647)) : zMet l m_X6_noWalk [zR 32, zI f, zI t, zI k, zI y, zI a] (zw sc B S Z L R M) (zI1 (zrW n f t k y a) (zw sc B S Z L R M)) := by
  refine z_method g_X6_noWalk [some (zR 32), some (zI f), some (zI t), some (zI k), some (zI y), some (zI a)] rfl rfl (fun V c => ?_)
  obtain ⟨hn, hT, -, hv, hno, hKs⟩ := id hB
  have eN := hM.1
  have eW := hM.2.1
  refine z_cS c 1 k_6_125 zv_X6_noPlace (pc := 4) (ls := [some (zR 32), some (zI f), some (zI t), some (zI k), some (zI y), some (zI a)]) (sk := []) (h := (zw sc B S Z L R M)) (cs := 0) (ss := 0) (c_X6_noPlace l (zw sc B S Z L R M) f (by omega)) rfl trivial rfl ⟨Nat.le_refl _, Nat.le_refl _⟩ ?_
  rintro _ _ ⟨r1, rfl, e1, rfl⟩
  show V (4, [some (zR 32), some (zI f), some (zI t), some (zI k), some (zI y), some (zI a)], [zI r1], (zw sc B S Z L R M), 0, 0)
  refine z_br c 0 (¬ r1 = 0) (23, [some (zR 32), some (zI f), some (zI t), some (zI k), some (zI y), some (zI a)], [], (zw sc B S Z L R M), 0, 0) (7, [some (zR 32), some (zI f), some (zI t), some (zI k), some (zI y), some (zI a)], [], (zw sc B S Z L R M), 0, 0) rfl ⟨(show (-2147483648 : Int) ≤ r1 ∧ r1 ≤ 2147483647 by omega), trivial⟩ (fun h4 => ?_) (fun h4 => ?_)
  · exact z_re c 2 (v := some (zI ((-1)))) (h := (zw sc B S Z L R M)) (cs := 0) (ss := 0) rfl trivial trivial ⟨Nat.le_refl _, Nat.le_refl _⟩ ⟨by have g := zrW_m1 (n := n) (f := f) (t := t) (k := k) (y := y) (a := a) (by omega); rw [g], rfl⟩
  · refine z_cS c 1 k_6_125 zv_X6_noPlace (pc := 11) (ls := [some (zR 32), some (zI f), some (zI t), some (zI k), some (zI y), some (zI a)]) (sk := []) (h := (zw sc B S Z L R M)) (cs := 0) (ss := 0) (c_X6_noPlace l (zw sc B S Z L R M) t (by omega)) rfl trivial rfl ⟨Nat.le_refl _, Nat.le_refl _⟩ ?_
    rintro _ _ ⟨r8, rfl, e8, rfl⟩
    show V (11, [some (zR 32), some (zI f), some (zI t), some (zI k), some (zI y), some (zI a)], [zI r8], (zw sc B S Z L R M), 0, 0)
    refine z_br c 0 (¬ r8 = 0) (23, [some (zR 32), some (zI f), some (zI t), some (zI k), some (zI y), some (zI a)], [], (zw sc B S Z L R M), 0, 0) (14, [some (zR 32), some (zI f), some (zI t), some (zI k), some (zI y), some (zI a)], [], (zw sc B S Z L R M), 0, 0) rfl ⟨(show (-2147483648 : Int) ≤ r8 ∧ r8 ≤ 2147483647 by omega), trivial⟩ (fun h11 => ?_) (fun h11 => ?_)
    · exact z_re c 2 (v := some (zI ((-1)))) (h := (zw sc B S Z L R M)) (cs := 0) (ss := 0) rfl trivial trivial ⟨Nat.le_refl _, Nat.le_refl _⟩ ⟨by have g := zrW_m1 (n := n) (f := f) (t := t) (k := k) (y := y) (a := a) (by omega); rw [g], rfl⟩
    · refine z_cV c 2 k_6_170 zv_X6_noAs (pc := 20) (ls := [some (zR 32), some (zI f), some (zI t), some (zI k), some (zI y), some (zI a)]) (sk := []) (h := (zw sc B S Z L R M)) (cs := 0) (ss := 0) (c_X6_noAs l sc B S Z L R M a (show 0 ≤ (mPages M) ∧ (mPages M) ≤ 100 by omega) (by omega)) rfl trivial rfl rfl ⟨Nat.le_refl _, Nat.le_refl _⟩ ?_
      rintro _ _ ⟨r17, rfl, e17, rfl⟩
      replace e17 : ((¬ (a = -9 ∨ (0 ≤ a ∧ a < (mPages M)))) ∧ r17 = 1) ∨ (¬ (¬ (a = -9 ∨ (0 ≤ a ∧ a < (mPages M)))) ∧ r17 = 0) := e17
      show V (20, [some (zR 32), some (zI f), some (zI t), some (zI k), some (zI y), some (zI a)], [zI r17], (zw sc B S Z L R M), 0, 0)
      refine z_br c 0 (r17 = 0) (27, [some (zR 32), some (zI f), some (zI t), some (zI k), some (zI y), some (zI a)], [], (zw sc B S Z L R M), 0, 0) (23, [some (zR 32), some (zI f), some (zI t), some (zI k), some (zI y), some (zI a)], [], (zw sc B S Z L R M), 0, 0) rfl ⟨(show (-2147483648 : Int) ≤ r17 ∧ r17 ≤ 2147483647 by omega), trivial⟩ (fun h20 => ?_) (fun h20 => ?_)
      · refine z_cS c 1 k_6_133 zv_X6_noKind (pc := 31) (ls := [some (zR 32), some (zI f), some (zI t), some (zI k), some (zI y), some (zI a)]) (sk := []) (h := (zw sc B S Z L R M)) (cs := 0) (ss := 0) (c_X6_noKind l (zw sc B S Z L R M) k (by omega)) rfl trivial rfl ⟨Nat.le_refl _, Nat.le_refl _⟩ ?_
        rintro _ _ ⟨r28, rfl, e28, rfl⟩
        show V (31, [some (zR 32), some (zI f), some (zI t), some (zI k), some (zI y), some (zI a)], [zI r28], (zw sc B S Z L R M), 0, 0)
        refine z_br c 0 (¬ r28 = 0) (42, [some (zR 32), some (zI f), some (zI t), some (zI k), some (zI y), some (zI a)], [], (zw sc B S Z L R M), 0, 0) (34, [some (zR 32), some (zI f), some (zI t), some (zI k), some (zI y), some (zI a)], [], (zw sc B S Z L R M), 0, 0) rfl ⟨(show (-2147483648 : Int) ≤ r28 ∧ r28 ≤ 2147483647 by omega), trivial⟩ (fun h31 => ?_) (fun h31 => ?_)
        · exact z_re c 2 (v := some (zI ((-2)))) (h := (zw sc B S Z L R M)) (cs := 0) (ss := 0) rfl trivial trivial ⟨Nat.le_refl _, Nat.le_refl _⟩ ⟨by unfold zrW zrP; rw [if_pos (by omega), if_pos (by omega), if_neg (by omega)], rfl⟩
        · refine z_cS c 1 k_6_143 zv_X6_noYear (pc := 39) (ls := [some (zR 32), some (zI f), some (zI t), some (zI k), some (zI y), some (zI a)]) (sk := []) (h := (zw sc B S Z L R M)) (cs := 0) (ss := 0) (c_X6_noYear l (zw sc B S Z L R M) y (by omega)) rfl trivial rfl ⟨Nat.le_refl _, Nat.le_refl _⟩ ?_
          rintro _ _ ⟨r36, rfl, e36, rfl⟩
          show V (39, [some (zR 32), some (zI f), some (zI t), some (zI k), some (zI y), some (zI a)], [zI r36], (zw sc B S Z L R M), 0, 0)
          refine z_br c 0 (r36 = 0) (47, [some (zR 32), some (zI f), some (zI t), some (zI k), some (zI y), some (zI a)], [], (zw sc B S Z L R M), 0, 0) (42, [some (zR 32), some (zI f), some (zI t), some (zI k), some (zI y), some (zI a)], [], (zw sc B S Z L R M), 0, 0) rfl ⟨(show (-2147483648 : Int) ≤ r36 ∧ r36 ≤ 2147483647 by omega), trivial⟩ (fun h39 => ?_) (fun h39 => ?_)
          · exact z_re c 1 (v := some (zI 0)) (h := (zw sc B S Z L R M)) (cs := 0) (ss := 0) rfl trivial trivial ⟨Nat.le_refl _, Nat.le_refl _⟩ ⟨by unfold zrW zrP; rw [if_pos (by omega), if_pos (by omega), if_pos (by omega)], rfl⟩
          · exact z_re c 2 (v := some (zI ((-2)))) (h := (zw sc B S Z L R M)) (cs := 0) (ss := 0) rfl trivial trivial ⟨Nat.le_refl _, Nat.le_refl _⟩ ⟨by unfold zrW zrP; rw [if_pos (by omega), if_pos (by omega), if_neg (by omega)], rfl⟩
      · exact z_re c 2 (v := some (zI ((-1)))) (h := (zw sc B S Z L R M)) (cs := 0) (ss := 0) rfl trivial trivial ⟨Nat.le_refl _, Nat.le_refl _⟩ ⟨by have g := zrW_m1 (n := n) (f := f) (t := t) (k := k) (y := y) (a := a) (by omega); rw [g], rfl⟩
set_option maxRecDepth 4000 in
theorem c_X6_spread (l : Launch) (sc : ZSc) (B : ZBk) (S Z : ZSg) (L : ZLn) (R : ZRd) (M : ZMd) (T K : Int → Int) (n nw : Int) (f k y a : Int) (hB : zBv T K n nw) (hM : zMr T n nw M) (hQ : mWithout M = -9) (hnw : 0 ≤ nw ∧ nw ≤ 12) (hR : zRv (mOne M) (mTwo M) nw) (ha : a = -9 ∨ (0 ≤ a ∧ a < n)) (hf : 0 ≤ f ∧ f ≤ 9) (hk : 0 ≤ k ∧ k ≤ 2) (hy : 0 ≤ y ∧ y ≤ 100) : zMet l m_X6_spread [zR 32, zI f, zI k, zI y, zI a] (zw sc B S Z L R M) (fun v h1 => v = none ∧ ∃ M1, zw sc B S Z L R M1 = h1 ∧ zMk M M1 ∧ zLk T K n nw (-9) (zlast n a) M1 ∧ ∀ p, 0 ≤ p → p < 10 → mFar M1 p = zDf (zOp T K n (zlast n a) k y) (mOne M) (mTwo M) nw.toNat f p) := by
  refine z_method g_X6_spread [some (zR 32), some (zI f), some (zI k), some (zI y), some (zI a), none, none, none] rfl rfl (fun V c => ?_)
  obtain ⟨hn, hT, -, hv, hno, hKs⟩ := id hB
  have hkM0 := zMk_refl M
  have hM0 := hM
  have hQ0 := hQ
  have eN0 := hM0.1
  have eW0 := hM0.2.1
  refine z_cV c 2 k_6_155 zv_X6_look (pc := 6) (ls := [some (zR 32), some (zI f), some (zI k), some (zI y), some (zI a), none, none, none]) (sk := []) (h := (zw sc B S Z L R M)) (cs := 0) (ss := 0) (c_look l sc B S Z L R M T K n nw (-9) a hB hM0 hQ0 (by omega) (by omega)) rfl trivial rfl rfl ⟨Nat.le_refl _, Nat.le_refl _⟩ ?_
  rintro _ _ ⟨rfl, ML, rfl, hLL, hk9, hfr9⟩
  have hkML := zMk_trans hkM0 hk9
  have hl := zlast_rng (n := n) (a := a) hn.1 (by omega)
  have eN1 := hLL.1.1
  have eW1 := hLL.1.2.1
  have hvm : ∀ p : Nat, p < ((zlast n a) + 1).toNat → zvp T nw (p : Int) := fun p h => hv p (by omega)
  show V (6, [some (zR 32), some (zI f), some (zI k), some (zI y), some (zI a), none, none, none], [], (zw sc B S Z L R ML), 0, 0)
  refine z_go c 2 (s1 := (9, [some (zR 32), some (zI f), some (zI k), some (zI y), some (zI a), some (zI 0), none, none], [], (zw sc B S Z L R ML), 0, 0)) rfl trivial ?_
  have loop : ∀ (x m : Nat) (G1 : Int → Int), 10 - m < x → m ≤ 10 → (∀ j, 0 ≤ j → j < (m : Int) → G1 j = if j = f then 0 else -9) → V (9, [some (zR 32), some (zI f), some (zI k), some (zI y), some (zI a), some (zI ((m : Int))), none, none], [], (zw sc B S Z L R (((mThrown ML), (mWays ML), (mOne ML), (mTwo ML), (mPages ML), (mOrders ML)), ((mSort ML), (mTold ML), (mLast ML), (mWithout ML), (mIsIn ML), (mNeeds ML)), ((mPersons ML), (mGaps ML), (mWeight ML), (mSeen ML), (mFew ML), (mBroken ML)), ((mHolds ML), (mMany ML), (mOrder ML), (mIsGood ML), G1))), 0, 0) := by
    intro x
    induction x with
    | zero => intro m G1 h1 h2; exfalso; omega
    | succ x ih =>
      intro m G1 hm1 hm2 hG
      refine z_br c 2 (10 ≤ (m : Int)) (41, [some (zR 32), some (zI f), some (zI k), some (zI y), some (zI a), some (zI ((m : Int))), none, none], [], (zw sc B S Z L R (((mThrown ML), (mWays ML), (mOne ML), (mTwo ML), (mPages ML), (mOrders ML)), ((mSort ML), (mTold ML), (mLast ML), (mWithout ML), (mIsIn ML), (mNeeds ML)), ((mPersons ML), (mGaps ML), (mWeight ML), (mSeen ML), (mFew ML), (mBroken ML)), ((mHolds ML), (mMany ML), (mOrder ML), (mIsGood ML), G1))), 0, 0) (16, [some (zR 32), some (zI f), some (zI k), some (zI y), some (zI a), some (zI ((m : Int))), none, none], [], (zw sc B S Z L R (((mThrown ML), (mWays ML), (mOne ML), (mTwo ML), (mPages ML), (mOrders ML)), ((mSort ML), (mTold ML), (mLast ML), (mWithout ML), (mIsIn ML), (mNeeds ML)), ((mPersons ML), (mGaps ML), (mWeight ML), (mSeen ML), (mFew ML), (mBroken ML)), ((mHolds ML), (mMany ML), (mOrder ML), (mIsGood ML), G1))), 0, 0) rfl ⟨(show ((-2147483648 : Int) ≤ (m : Int) ∧ (m : Int) ≤ 2147483647) ∧ (-2147483648 : Int) ≤ 10 ∧ 10 ≤ 2147483647 by omega), trivial⟩ (fun h13 => ?_) (fun h13 => ?_)
      · obtain rfl : m = 10 := by omega
        clear ih
        have hL8 : zLk T K n nw (-9) (zlast n a) ((((mThrown ML), (mWays ML), (mOne ML), (mTwo ML), (mPages ML), (mOrders ML)), ((mSort ML), (mTold ML), (mLast ML), (mWithout ML), (mIsIn ML), (mNeeds ML)), ((mPersons ML), (mGaps ML), (mWeight ML), (mSeen ML), (mFew ML), (mBroken ML)), ((mHolds ML), (mMany ML), (mOrder ML), (mIsGood ML), G1)) : ZMd) := ⟨⟨hLL.1.1, hLL.1.2.1, hLL.1.2.2.1, hLL.1.2.2.2⟩, hLL.2.1, hLL.2.2.1, hLL.2.2.2.1, hLL.2.2.2.2.1, hLL.2.2.2.2.2.1, hLL.2.2.2.2.2.2⟩
        have hk8 : zMk M ((((mThrown ML), (mWays ML), (mOne ML), (mTwo ML), (mPages ML), (mOrders ML)), ((mSort ML), (mTold ML), (mLast ML), (mWithout ML), (mIsIn ML), (mNeeds ML)), ((mPersons ML), (mGaps ML), (mWeight ML), (mSeen ML), (mFew ML), (mBroken ML)), ((mHolds ML), (mMany ML), (mOrder ML), (mIsGood ML), G1)) : ZMd) := ⟨hkML.1, hkML.2.1, hkML.2.2.1, hkML.2.2.2⟩
        have hf8 : mFar ((((mThrown ML), (mWays ML), (mOne ML), (mTwo ML), (mPages ML), (mOrders ML)), ((mSort ML), (mTold ML), (mLast ML), (mWithout ML), (mIsIn ML), (mNeeds ML)), ((mPersons ML), (mGaps ML), (mWeight ML), (mSeen ML), (mFew ML), (mBroken ML)), ((mHolds ML), (mMany ML), (mOrder ML), (mIsGood ML), G1)) : ZMd) = G1 := rfl
        generalize ((((mThrown ML), (mWays ML), (mOne ML), (mTwo ML), (mPages ML), (mOrders ML)), ((mSort ML), (mTold ML), (mLast ML), (mWithout ML), (mIsIn ML), (mNeeds ML)), ((mPersons ML), (mGaps ML), (mWeight ML), (mSeen ML), (mFew ML), (mBroken ML)), ((mHolds ML), (mMany ML), (mOrder ML), (mIsGood ML), G1)) : ZMd) = M8 at hL8 hk8 hf8 ⊢
        generalize some (zI (((10 : Nat) : Int))) = x5
        refine z_go c 4 (s1 := (47, [some (zR 32), some (zI f), some (zI k), some (zI y), some (zI a), some (zI 0), some (zI 0), none], [], (zw sc B S Z L R M8), 0, 0)) rfl trivial ?_
        have loop2 : ∀ (x m : Nat) (s : Int) (MC : ZMd), nw - (m : Int) < (x : Int) → (m : Int) ≤ nw → s = ((zsb (zOp T K n (zlast n a) k y) m : Nat) : Int) → zMs M8 MC → V (47, [some (zR 32), some (zI f), some (zI k), some (zI y), some (zI a), some (zI s), some (zI ((m : Int))), none], [], (zw sc B S Z L R MC), 0, 0) := by
          intro x
          induction x with
          | zero => intro m s MC h1 h2; exfalso; omega
          | succ x ih2 =>
            intro m s MC hm1 hm2 hs hsC
            have hLC := zLk_ms hL8 hsC
            have eWC := hLC.1.2.1
            have hsl := zsb_lt (zOp T K n (zlast n a) k y) m
            have hs2 : 2 ^ m ≤ 2 ^ 12 := Nat.pow_le_pow_right (by decide) (show m ≤ 12 by omega)
            have hs3 : (2 : Nat) ^ 12 = 4096 := by decide
            refine z_br c 3 ((mWays MC) ≤ (m : Int)) (92, [some (zR 32), some (zI f), some (zI k), some (zI y), some (zI a), some (zI s), some (zI ((m : Int))), none], [], (zw sc B S Z L R MC), 0, 0) (56, [some (zR 32), some (zI f), some (zI k), some (zI y), some (zI a), some (zI s), some (zI ((m : Int))), none], [], (zw sc B S Z L R MC), 0, 0) rfl ⟨(show ((-2147483648 : Int) ≤ (m : Int) ∧ (m : Int) ≤ 2147483647) ∧ (-2147483648 : Int) ≤ (mWays MC) ∧ (mWays MC) ≤ 2147483647 by omega), trivial⟩ (fun h53 => ?_) (fun h53 => ?_)
            · obtain rfl : m = nw.toNat := by omega
              clear ih2
              have hkC := zMk_trans hk8 (zMk_ms hsC)
              have hab := zMk_ab hkC
              have hfC : mFar MC = G1 := hsC.2.2.2.trans hf8
              generalize some (zI (((nw.toNat : Nat) : Int))) = x6
              refine z_go c 2 (s1 := (95, [some (zR 32), some (zI f), some (zI k), some (zI y), some (zI a), some (zI s), some (zI 0), none], [], (zw sc B S Z L R MC), 0, 0)) rfl trivial ?_
              have hF0 : zFr G1 := fun p a b => by rw [hG p a (by omega)]; split <;> omega
              have loop3 : ∀ (x t : Nat) (F1 : Int → Int) (x7 : Option ZV), 10 - t < x → t ≤ 10 → F1 = zgs (zOp T K n (zlast n a) k y) (mOne M) (mTwo M) nw.toNat G1 t → V (95, [some (zR 32), some (zI f), some (zI k), some (zI y), some (zI a), some (zI s), some (zI ((t : Int))), x7], [], (zw sc B S Z L R (((mThrown MC), (mWays MC), (mOne MC), (mTwo MC), (mPages MC), (mOrders MC)), ((mSort MC), (mTold MC), (mLast MC), (mWithout MC), (mIsIn MC), (mNeeds MC)), ((mPersons MC), (mGaps MC), (mWeight MC), (mSeen MC), (mFew MC), (mBroken MC)), ((mHolds MC), (mMany MC), (mOrder MC), (mIsGood MC), F1))), 0, 0) := by
                intro x
                induction x with
                | zero => intro t F1 x7 h1 h2; exfalso; omega
                | succ x ih3 =>
                  intro t F1 x7 ht1 ht2 hF
                  refine z_br c 2 (10 ≤ (t : Int)) (267, [some (zR 32), some (zI f), some (zI k), some (zI y), some (zI a), some (zI s), some (zI ((t : Int))), x7], [], (zw sc B S Z L R (((mThrown MC), (mWays MC), (mOne MC), (mTwo MC), (mPages MC), (mOrders MC)), ((mSort MC), (mTold MC), (mLast MC), (mWithout MC), (mIsIn MC), (mNeeds MC)), ((mPersons MC), (mGaps MC), (mWeight MC), (mSeen MC), (mFew MC), (mBroken MC)), ((mHolds MC), (mMany MC), (mOrder MC), (mIsGood MC), F1))), 0, 0) (102, [some (zR 32), some (zI f), some (zI k), some (zI y), some (zI a), some (zI s), some (zI ((t : Int))), x7], [], (zw sc B S Z L R (((mThrown MC), (mWays MC), (mOne MC), (mTwo MC), (mPages MC), (mOrders MC)), ((mSort MC), (mTold MC), (mLast MC), (mWithout MC), (mIsIn MC), (mNeeds MC)), ((mPersons MC), (mGaps MC), (mWeight MC), (mSeen MC), (mFew MC), (mBroken MC)), ((mHolds MC), (mMany MC), (mOrder MC), (mIsGood MC), F1))), 0, 0) rfl ⟨(show ((-2147483648 : Int) ≤ (t : Int) ∧ (t : Int) ≤ 2147483647) ∧ (-2147483648 : Int) ≤ 10 ∧ 10 ≤ 2147483647 by omega), trivial⟩ (fun h99 => ?_) (fun h99 => ?_)
                  · exact z_re c 0 (v := none) (h := (zw sc B S Z L R (((mThrown MC), (mWays MC), (mOne MC), (mTwo MC), (mPages MC), (mOrders MC)), ((mSort MC), (mTold MC), (mLast MC), (mWithout MC), (mIsIn MC), (mNeeds MC)), ((mPersons MC), (mGaps MC), (mWeight MC), (mSeen MC), (mFew MC), (mBroken MC)), ((mHolds MC), (mMany MC), (mOrder MC), (mIsGood MC), F1)))) (cs := 0) (ss := 0) rfl trivial trivial ⟨Nat.le_refl _, Nat.le_refl _⟩ ⟨rfl, _, rfl, (by exact hkC), ⟨⟨hLC.1.1, hLC.1.2.1, hLC.1.2.2.1, hLC.1.2.2.2⟩, hLC.2.1, hLC.2.2.1, hLC.2.2.2.1, hLC.2.2.2.2.1, hLC.2.2.2.2.2.1, hLC.2.2.2.2.2.2⟩, fun p p0 p1 => (by obtain rfl : t = 10 := (by omega); show F1 p = _; rw [hF]; exact zDf_ten hR (fun j a b => hG j a (by omega)) ⟨p0, p1⟩)⟩
                  · refine z_go c 2 (s1 := (105, [some (zR 32), some (zI f), some (zI k), some (zI y), some (zI a), some (zI s), some (zI ((t : Int))), some (zI 0)], [], (zw sc B S Z L R (((mThrown MC), (mWays MC), (mOne MC), (mTwo MC), (mPages MC), (mOrders MC)), ((mSort MC), (mTold MC), (mLast MC), (mWithout MC), (mIsIn MC), (mNeeds MC)), ((mPersons MC), (mGaps MC), (mWeight MC), (mSeen MC), (mFew MC), (mBroken MC)), ((mHolds MC), (mMany MC), (mOrder MC), (mIsGood MC), F1))), 0, 0)) rfl trivial ?_
                    have hF7 : zFr F1 := by rw [hF]; exact zgs_rng hF0 t (by omega)
                    have loop4 : ∀ (x m : Nat) (F2 : Int → Int), nw - (m : Int) < (x : Int) → (m : Int) ≤ nw → F2 = zgw (zOp T K n (zlast n a) k y) (mOne M) (mTwo M) ((t : Int) + 1) F1 m → V (105, [some (zR 32), some (zI f), some (zI k), some (zI y), some (zI a), some (zI s), some (zI ((t : Int))), some (zI ((m : Int)))], [], (zw sc B S Z L R (((mThrown MC), (mWays MC), (mOne MC), (mTwo MC), (mPages MC), (mOrders MC)), ((mSort MC), (mTold MC), (mLast MC), (mWithout MC), (mIsIn MC), (mNeeds MC)), ((mPersons MC), (mGaps MC), (mWeight MC), (mSeen MC), (mFew MC), (mBroken MC)), ((mHolds MC), (mMany MC), (mOrder MC), (mIsGood MC), F2))), 0, 0) := by
                      intro x
                      induction x with
                      | zero => intro m F2 h1 h2; exfalso; omega
                      | succ x ih4 =>
                        intro m F2 hm3 hm4 hW
                        have hW7 : zFr F2 := by rw [hW]; exact zgw_rng hF7 (by omega) m
                        refine z_br c 3 ((mWays MC) ≤ (m : Int)) (261, [some (zR 32), some (zI f), some (zI k), some (zI y), some (zI a), some (zI s), some (zI ((t : Int))), some (zI ((m : Int)))], [], (zw sc B S Z L R (((mThrown MC), (mWays MC), (mOne MC), (mTwo MC), (mPages MC), (mOrders MC)), ((mSort MC), (mTold MC), (mLast MC), (mWithout MC), (mIsIn MC), (mNeeds MC)), ((mPersons MC), (mGaps MC), (mWeight MC), (mSeen MC), (mFew MC), (mBroken MC)), ((mHolds MC), (mMany MC), (mOrder MC), (mIsGood MC), F2))), 0, 0) (114, [some (zR 32), some (zI f), some (zI k), some (zI y), some (zI a), some (zI s), some (zI ((t : Int))), some (zI ((m : Int)))], [], (zw sc B S Z L R (((mThrown MC), (mWays MC), (mOne MC), (mTwo MC), (mPages MC), (mOrders MC)), ((mSort MC), (mTold MC), (mLast MC), (mWithout MC), (mIsIn MC), (mNeeds MC)), ((mPersons MC), (mGaps MC), (mWeight MC), (mSeen MC), (mFew MC), (mBroken MC)), ((mHolds MC), (mMany MC), (mOrder MC), (mIsGood MC), F2))), 0, 0) rfl ⟨(show ((-2147483648 : Int) ≤ (m : Int) ∧ (m : Int) ≤ 2147483647) ∧ (-2147483648 : Int) ≤ (mWays MC) ∧ (mWays MC) ≤ 2147483647 by omega), trivial⟩ (fun h111 => ?_) (fun h111 => ?_)
                        · obtain rfl : m = nw.toNat := by omega
                          exact z_go c 2 (s1 := (95, [some (zR 32), some (zI f), some (zI k), some (zI y), some (zI a), some (zI s), some (zI (((t : Int) + 1))), some (zI (((nw.toNat : Nat) : Int)))], [], (zw sc B S Z L R (((mThrown MC), (mWays MC), (mOne MC), (mTwo MC), (mPages MC), (mOrders MC)), ((mSort MC), (mTold MC), (mLast MC), (mWithout MC), (mIsIn MC), (mNeeds MC)), ((mPersons MC), (mGaps MC), (mWeight MC), (mSeen MC), (mFew MC), (mBroken MC)), ((mHolds MC), (mMany MC), (mOrder MC), (mIsGood MC), F2))), 0, 0)) rfl trivial (ih3 (t + 1) _ _ (by omega) (by omega) (by rw [hW, hF]; rfl))
                        · have htst := zsb_test (op := (zOp T K n (zlast n a) k y)) (m := nw.toNat) (w := m) hs (by omega)
                          have hab2 := hR.2 (m : Int) (by omega) (by omega)
                          have ha1 : mOne MC (m : Int) = mOne M (m : Int) := by rw [hab.1]
                          have ha2 : mTwo MC (m : Int) = mTwo M (m : Int) := by rw [hab.2]
                          refine z_br c 6 (¬ (((s.toNat / 2 ^ ((m : Int)).toNat : Nat) : Int) % 2) = 1) (255, [some (zR 32), some (zI f), some (zI k), some (zI y), some (zI a), some (zI s), some (zI ((t : Int))), some (zI ((m : Int)))], [], (zw sc B S Z L R (((mThrown MC), (mWays MC), (mOne MC), (mTwo MC), (mPages MC), (mOrders MC)), ((mSort MC), (mTold MC), (mLast MC), (mWithout MC), (mIsIn MC), (mNeeds MC)), ((mPersons MC), (mGaps MC), (mWeight MC), (mSeen MC), (mFew MC), (mBroken MC)), ((mHolds MC), (mMany MC), (mOrder MC), (mIsGood MC), F2))), 0, 0) (125, [some (zR 32), some (zI f), some (zI k), some (zI y), some (zI a), some (zI s), some (zI ((t : Int))), some (zI ((m : Int)))], [], (zw sc B S Z L R (((mThrown MC), (mWays MC), (mOne MC), (mTwo MC), (mPages MC), (mOrders MC)), ((mSort MC), (mTold MC), (mLast MC), (mWithout MC), (mIsIn MC), (mNeeds MC)), ((mPersons MC), (mGaps MC), (mWeight MC), (mSeen MC), (mFew MC), (mBroken MC)), ((mHolds MC), (mMany MC), (mOrder MC), (mIsGood MC), F2))), 0, 0) rfl ⟨(show ((-2147483648 : Int) ≤ (((s.toNat / 2 ^ ((m : Int)).toNat : Nat) : Int) % 2) ∧ (((s.toNat / 2 ^ ((m : Int)).toNat : Nat) : Int) % 2) ≤ 2147483647) ∧ (-2147483648 : Int) ≤ 1 ∧ 1 ≤ 2147483647 by omega), (by omega), (by omega), trivial⟩ (fun h122 => ?_) (fun h122 => ?_)
                          · exact z_go c 2 (s1 := (105, [some (zR 32), some (zI f), some (zI k), some (zI y), some (zI a), some (zI s), some (zI ((t : Int))), some (zI (((m : Int) + 1)))], [], (zw sc B S Z L R (((mThrown MC), (mWays MC), (mOne MC), (mTwo MC), (mPages MC), (mOrders MC)), ((mSort MC), (mTold MC), (mLast MC), (mWithout MC), (mIsIn MC), (mNeeds MC)), ((mPersons MC), (mGaps MC), (mWeight MC), (mSeen MC), (mFew MC), (mBroken MC)), ((mHolds MC), (mMany MC), (mOrder MC), (mIsGood MC), F2))), 0, 0)) rfl trivial (ih4 (m + 1) _ (by omega) (by omega) (zgw_n hW (fun z => by have z2 := htst.1.mpr z; omega)))
                          · have hfa := hW7 (mOne MC (m : Int)) (by omega) (by omega)
                            have hfb := hW7 (mTwo MC (m : Int)) (by omega) (by omega)
                            have j190 : ∀ G2 : Int → Int, G2 = zgo F2 (mOne MC (m : Int)) (mTwo MC (m : Int)) ((t : Int) + 1) → V (190, [some (zR 32), some (zI f), some (zI k), some (zI y), some (zI a), some (zI s), some (zI ((t : Int))), some (zI ((m : Int)))], [], (zw sc B S Z L R (((mThrown MC), (mWays MC), (mOne MC), (mTwo MC), (mPages MC), (mOrders MC)), ((mSort MC), (mTold MC), (mLast MC), (mWithout MC), (mIsIn MC), (mNeeds MC)), ((mPersons MC), (mGaps MC), (mWeight MC), (mSeen MC), (mFew MC), (mBroken MC)), ((mHolds MC), (mMany MC), (mOrder MC), (mIsGood MC), G2))), 0, 0) := by
                              intro G2 hG2
                              have hG7 : zFr G2 := by rw [hG2]; exact zgo_rng hW7 (by omega)
                              have hga := hG7 (mOne MC (m : Int)) (by omega) (by omega)
                              have hgb := hG7 (mTwo MC (m : Int)) (by omega) (by omega)
                              refine z_br c 14 (¬ (G2 (((mTwo MC) ((m : Int))))) = (t : Int)) (242, [some (zR 32), some (zI f), some (zI k), some (zI y), some (zI a), some (zI s), some (zI ((t : Int))), some (zI ((m : Int)))], [zI (((mOne MC) ((m : Int)))), zR 44], (zw sc B S Z L R (((mThrown MC), (mWays MC), (mOne MC), (mTwo MC), (mPages MC), (mOrders MC)), ((mSort MC), (mTold MC), (mLast MC), (mWithout MC), (mIsIn MC), (mNeeds MC)), ((mPersons MC), (mGaps MC), (mWeight MC), (mSeen MC), (mFew MC), (mBroken MC)), ((mHolds MC), (mMany MC), (mOrder MC), (mIsGood MC), G2))), 0, 0) (218, [some (zR 32), some (zI f), some (zI k), some (zI y), some (zI a), some (zI s), some (zI ((t : Int))), some (zI ((m : Int)))], [zI (((mOne MC) ((m : Int)))), zR 44], (zw sc B S Z L R (((mThrown MC), (mWays MC), (mOne MC), (mTwo MC), (mPages MC), (mOrders MC)), ((mSort MC), (mTold MC), (mLast MC), (mWithout MC), (mIsIn MC), (mNeeds MC)), ((mPersons MC), (mGaps MC), (mWeight MC), (mSeen MC), (mFew MC), (mBroken MC)), ((mHolds MC), (mMany MC), (mOrder MC), (mIsGood MC), G2))), 0, 0) rfl ⟨(show ((-2147483648 : Int) ≤ (G2 (((mTwo MC) ((m : Int))))) ∧ (G2 (((mTwo MC) ((m : Int))))) ≤ 2147483647) ∧ (-2147483648 : Int) ≤ (t : Int) ∧ (t : Int) ≤ 2147483647 by omega), (show (0 : Int) ≤ (m : Int) ∧ (m : Int) < 12 by omega), (show (0 : Int) ≤ (m : Int) ∧ (m : Int) < 12 by omega), (show (0 : Int) ≤ ((mTwo MC) ((m : Int))) ∧ ((mTwo MC) ((m : Int))) < 10 by omega), trivial⟩ (fun h215 => ?_) (fun h215 => ?_)
                              · refine z_go c 8 (s1 := (255, [some (zR 32), some (zI f), some (zI k), some (zI y), some (zI a), some (zI s), some (zI ((t : Int))), some (zI ((m : Int)))], [], (zw sc B S Z L R (((mThrown MC), (mWays MC), (mOne MC), (mTwo MC), (mPages MC), (mOrders MC)), ((mSort MC), (mTold MC), (mLast MC), (mWithout MC), (mIsIn MC), (mNeeds MC)), ((mPersons MC), (mGaps MC), (mWeight MC), (mSeen MC), (mFew MC), (mBroken MC)), ((mHolds MC), (mMany MC), (mOrder MC), (mIsGood MC), (zup G2 (((mOne MC) ((m : Int)))) ((G2 (((mOne MC) ((m : Int)))))))))), 0, 0)) rfl ⟨(show (0 : Int) ≤ (m : Int) ∧ (m : Int) < 12 by omega), (show (0 : Int) ≤ ((mOne MC) ((m : Int))) ∧ ((mOne MC) ((m : Int))) < 10 by omega), (show (0 : Int) ≤ ((mOne MC) ((m : Int))) ∧ ((mOne MC) ((m : Int))) < 10 by omega), trivial⟩ ?_
                                exact z_go c 2 (s1 := (105, [some (zR 32), some (zI f), some (zI k), some (zI y), some (zI a), some (zI s), some (zI ((t : Int))), some (zI (((m : Int) + 1)))], [], (zw sc B S Z L R (((mThrown MC), (mWays MC), (mOne MC), (mTwo MC), (mPages MC), (mOrders MC)), ((mSort MC), (mTold MC), (mLast MC), (mWithout MC), (mIsIn MC), (mNeeds MC)), ((mPersons MC), (mGaps MC), (mWeight MC), (mSeen MC), (mFew MC), (mBroken MC)), ((mHolds MC), (mMany MC), (mOrder MC), (mIsGood MC), (zup G2 (((mOne MC) ((m : Int)))) ((G2 (((mOne MC) ((m : Int)))))))))), 0, 0)) rfl trivial (ih4 (m + 1) _ (by omega) (by omega) (zgw_y (G2 := G2) hW (htst.1.mp (by omega)) (by rw [hG2, ha1, ha2]) (by rw [← ha1, ← ha2]; exact zgo_n (fun z => by omega))))
                              · refine z_br c 8 (¬ (G2 (((mOne MC) ((m : Int))))) = (-9)) (242, [some (zR 32), some (zI f), some (zI k), some (zI y), some (zI a), some (zI s), some (zI ((t : Int))), some (zI ((m : Int)))], [zI (((mOne MC) ((m : Int)))), zR 44], (zw sc B S Z L R (((mThrown MC), (mWays MC), (mOne MC), (mTwo MC), (mPages MC), (mOrders MC)), ((mSort MC), (mTold MC), (mLast MC), (mWithout MC), (mIsIn MC), (mNeeds MC)), ((mPersons MC), (mGaps MC), (mWeight MC), (mSeen MC), (mFew MC), (mBroken MC)), ((mHolds MC), (mMany MC), (mOrder MC), (mIsGood MC), G2))), 0, 0) (235, [some (zR 32), some (zI f), some (zI k), some (zI y), some (zI a), some (zI s), some (zI ((t : Int))), some (zI ((m : Int)))], [zI (((mOne MC) ((m : Int)))), zR 44], (zw sc B S Z L R (((mThrown MC), (mWays MC), (mOne MC), (mTwo MC), (mPages MC), (mOrders MC)), ((mSort MC), (mTold MC), (mLast MC), (mWithout MC), (mIsIn MC), (mNeeds MC)), ((mPersons MC), (mGaps MC), (mWeight MC), (mSeen MC), (mFew MC), (mBroken MC)), ((mHolds MC), (mMany MC), (mOrder MC), (mIsGood MC), G2))), 0, 0) rfl ⟨(show ((-2147483648 : Int) ≤ (G2 (((mOne MC) ((m : Int))))) ∧ (G2 (((mOne MC) ((m : Int))))) ≤ 2147483647) ∧ (-2147483648 : Int) ≤ (-9) ∧ (-9) ≤ 2147483647 by omega), (show (0 : Int) ≤ (m : Int) ∧ (m : Int) < 12 by omega), (show (0 : Int) ≤ ((mOne MC) ((m : Int))) ∧ ((mOne MC) ((m : Int))) < 10 by omega), trivial⟩ (fun h232 => ?_) (fun h232 => ?_)
                                · refine z_go c 8 (s1 := (255, [some (zR 32), some (zI f), some (zI k), some (zI y), some (zI a), some (zI s), some (zI ((t : Int))), some (zI ((m : Int)))], [], (zw sc B S Z L R (((mThrown MC), (mWays MC), (mOne MC), (mTwo MC), (mPages MC), (mOrders MC)), ((mSort MC), (mTold MC), (mLast MC), (mWithout MC), (mIsIn MC), (mNeeds MC)), ((mPersons MC), (mGaps MC), (mWeight MC), (mSeen MC), (mFew MC), (mBroken MC)), ((mHolds MC), (mMany MC), (mOrder MC), (mIsGood MC), (zup G2 (((mOne MC) ((m : Int)))) ((G2 (((mOne MC) ((m : Int)))))))))), 0, 0)) rfl ⟨(show (0 : Int) ≤ (m : Int) ∧ (m : Int) < 12 by omega), (show (0 : Int) ≤ ((mOne MC) ((m : Int))) ∧ ((mOne MC) ((m : Int))) < 10 by omega), (show (0 : Int) ≤ ((mOne MC) ((m : Int))) ∧ ((mOne MC) ((m : Int))) < 10 by omega), trivial⟩ ?_
                                  exact z_go c 2 (s1 := (105, [some (zR 32), some (zI f), some (zI k), some (zI y), some (zI a), some (zI s), some (zI ((t : Int))), some (zI (((m : Int) + 1)))], [], (zw sc B S Z L R (((mThrown MC), (mWays MC), (mOne MC), (mTwo MC), (mPages MC), (mOrders MC)), ((mSort MC), (mTold MC), (mLast MC), (mWithout MC), (mIsIn MC), (mNeeds MC)), ((mPersons MC), (mGaps MC), (mWeight MC), (mSeen MC), (mFew MC), (mBroken MC)), ((mHolds MC), (mMany MC), (mOrder MC), (mIsGood MC), (zup G2 (((mOne MC) ((m : Int)))) ((G2 (((mOne MC) ((m : Int)))))))))), 0, 0)) rfl trivial (ih4 (m + 1) _ (by omega) (by omega) (zgw_y (G2 := G2) hW (htst.1.mp (by omega)) (by rw [hG2, ha1, ha2]) (by rw [← ha1, ← ha2]; exact zgo_n (fun z => by omega))))
                                · refine z_go c 5 (s1 := (255, [some (zR 32), some (zI f), some (zI k), some (zI y), some (zI a), some (zI s), some (zI ((t : Int))), some (zI ((m : Int)))], [], (zw sc B S Z L R (((mThrown MC), (mWays MC), (mOne MC), (mTwo MC), (mPages MC), (mOrders MC)), ((mSort MC), (mTold MC), (mLast MC), (mWithout MC), (mIsIn MC), (mNeeds MC)), ((mPersons MC), (mGaps MC), (mWeight MC), (mSeen MC), (mFew MC), (mBroken MC)), ((mHolds MC), (mMany MC), (mOrder MC), (mIsGood MC), (zup G2 (((mOne MC) ((m : Int)))) (((t : Int) + 1)))))), 0, 0)) rfl ⟨(show (0 : Int) ≤ ((mOne MC) ((m : Int))) ∧ ((mOne MC) ((m : Int))) < 10 by omega), trivial⟩ ?_
                                  exact z_go c 2 (s1 := (105, [some (zR 32), some (zI f), some (zI k), some (zI y), some (zI a), some (zI s), some (zI ((t : Int))), some (zI (((m : Int) + 1)))], [], (zw sc B S Z L R (((mThrown MC), (mWays MC), (mOne MC), (mTwo MC), (mPages MC), (mOrders MC)), ((mSort MC), (mTold MC), (mLast MC), (mWithout MC), (mIsIn MC), (mNeeds MC)), ((mPersons MC), (mGaps MC), (mWeight MC), (mSeen MC), (mFew MC), (mBroken MC)), ((mHolds MC), (mMany MC), (mOrder MC), (mIsGood MC), (zup G2 (((mOne MC) ((m : Int)))) (((t : Int) + 1)))))), 0, 0)) rfl trivial (ih4 (m + 1) _ (by omega) (by omega) (zgw_y (G2 := G2) hW (htst.1.mp (by omega)) (by rw [hG2, ha1, ha2]) (by rw [← ha1, ← ha2]; exact zgo_y (by omega) (by omega))))
                            refine z_br c 14 (¬ (F2 (((mOne MC) ((m : Int))))) = (t : Int)) (177, [some (zR 32), some (zI f), some (zI k), some (zI y), some (zI a), some (zI s), some (zI ((t : Int))), some (zI ((m : Int)))], [zI (((mTwo MC) ((m : Int)))), zR 44], (zw sc B S Z L R (((mThrown MC), (mWays MC), (mOne MC), (mTwo MC), (mPages MC), (mOrders MC)), ((mSort MC), (mTold MC), (mLast MC), (mWithout MC), (mIsIn MC), (mNeeds MC)), ((mPersons MC), (mGaps MC), (mWeight MC), (mSeen MC), (mFew MC), (mBroken MC)), ((mHolds MC), (mMany MC), (mOrder MC), (mIsGood MC), F2))), 0, 0) (153, [some (zR 32), some (zI f), some (zI k), some (zI y), some (zI a), some (zI s), some (zI ((t : Int))), some (zI ((m : Int)))], [zI (((mTwo MC) ((m : Int)))), zR 44], (zw sc B S Z L R (((mThrown MC), (mWays MC), (mOne MC), (mTwo MC), (mPages MC), (mOrders MC)), ((mSort MC), (mTold MC), (mLast MC), (mWithout MC), (mIsIn MC), (mNeeds MC)), ((mPersons MC), (mGaps MC), (mWeight MC), (mSeen MC), (mFew MC), (mBroken MC)), ((mHolds MC), (mMany MC), (mOrder MC), (mIsGood MC), F2))), 0, 0) rfl ⟨(show ((-2147483648 : Int) ≤ (F2 (((mOne MC) ((m : Int))))) ∧ (F2 (((mOne MC) ((m : Int))))) ≤ 2147483647) ∧ (-2147483648 : Int) ≤ (t : Int) ∧ (t : Int) ≤ 2147483647 by omega), (show (0 : Int) ≤ (m : Int) ∧ (m : Int) < 12 by omega), (show (0 : Int) ≤ (m : Int) ∧ (m : Int) < 12 by omega), (show (0 : Int) ≤ ((mOne MC) ((m : Int))) ∧ ((mOne MC) ((m : Int))) < 10 by omega), trivial⟩ (fun h150 => ?_) (fun h150 => ?_)
                            · refine z_go c 8 (s1 := (190, [some (zR 32), some (zI f), some (zI k), some (zI y), some (zI a), some (zI s), some (zI ((t : Int))), some (zI ((m : Int)))], [], (zw sc B S Z L R (((mThrown MC), (mWays MC), (mOne MC), (mTwo MC), (mPages MC), (mOrders MC)), ((mSort MC), (mTold MC), (mLast MC), (mWithout MC), (mIsIn MC), (mNeeds MC)), ((mPersons MC), (mGaps MC), (mWeight MC), (mSeen MC), (mFew MC), (mBroken MC)), ((mHolds MC), (mMany MC), (mOrder MC), (mIsGood MC), (zup F2 (((mTwo MC) ((m : Int)))) ((F2 (((mTwo MC) ((m : Int)))))))))), 0, 0)) rfl ⟨(show (0 : Int) ≤ (m : Int) ∧ (m : Int) < 12 by omega), (show (0 : Int) ≤ ((mTwo MC) ((m : Int))) ∧ ((mTwo MC) ((m : Int))) < 10 by omega), (show (0 : Int) ≤ ((mTwo MC) ((m : Int))) ∧ ((mTwo MC) ((m : Int))) < 10 by omega), trivial⟩ ?_
                              exact j190 _ (zgo_n (fun z => by omega))
                            · refine z_br c 8 (¬ (F2 (((mTwo MC) ((m : Int))))) = (-9)) (177, [some (zR 32), some (zI f), some (zI k), some (zI y), some (zI a), some (zI s), some (zI ((t : Int))), some (zI ((m : Int)))], [zI (((mTwo MC) ((m : Int)))), zR 44], (zw sc B S Z L R (((mThrown MC), (mWays MC), (mOne MC), (mTwo MC), (mPages MC), (mOrders MC)), ((mSort MC), (mTold MC), (mLast MC), (mWithout MC), (mIsIn MC), (mNeeds MC)), ((mPersons MC), (mGaps MC), (mWeight MC), (mSeen MC), (mFew MC), (mBroken MC)), ((mHolds MC), (mMany MC), (mOrder MC), (mIsGood MC), F2))), 0, 0) (170, [some (zR 32), some (zI f), some (zI k), some (zI y), some (zI a), some (zI s), some (zI ((t : Int))), some (zI ((m : Int)))], [zI (((mTwo MC) ((m : Int)))), zR 44], (zw sc B S Z L R (((mThrown MC), (mWays MC), (mOne MC), (mTwo MC), (mPages MC), (mOrders MC)), ((mSort MC), (mTold MC), (mLast MC), (mWithout MC), (mIsIn MC), (mNeeds MC)), ((mPersons MC), (mGaps MC), (mWeight MC), (mSeen MC), (mFew MC), (mBroken MC)), ((mHolds MC), (mMany MC), (mOrder MC), (mIsGood MC), F2))), 0, 0) rfl ⟨(show ((-2147483648 : Int) ≤ (F2 (((mTwo MC) ((m : Int))))) ∧ (F2 (((mTwo MC) ((m : Int))))) ≤ 2147483647) ∧ (-2147483648 : Int) ≤ (-9) ∧ (-9) ≤ 2147483647 by omega), (show (0 : Int) ≤ (m : Int) ∧ (m : Int) < 12 by omega), (show (0 : Int) ≤ ((mTwo MC) ((m : Int))) ∧ ((mTwo MC) ((m : Int))) < 10 by omega), trivial⟩ (fun h167 => ?_) (fun h167 => ?_)
                              · refine z_go c 8 (s1 := (190, [some (zR 32), some (zI f), some (zI k), some (zI y), some (zI a), some (zI s), some (zI ((t : Int))), some (zI ((m : Int)))], [], (zw sc B S Z L R (((mThrown MC), (mWays MC), (mOne MC), (mTwo MC), (mPages MC), (mOrders MC)), ((mSort MC), (mTold MC), (mLast MC), (mWithout MC), (mIsIn MC), (mNeeds MC)), ((mPersons MC), (mGaps MC), (mWeight MC), (mSeen MC), (mFew MC), (mBroken MC)), ((mHolds MC), (mMany MC), (mOrder MC), (mIsGood MC), (zup F2 (((mTwo MC) ((m : Int)))) ((F2 (((mTwo MC) ((m : Int)))))))))), 0, 0)) rfl ⟨(show (0 : Int) ≤ (m : Int) ∧ (m : Int) < 12 by omega), (show (0 : Int) ≤ ((mTwo MC) ((m : Int))) ∧ ((mTwo MC) ((m : Int))) < 10 by omega), (show (0 : Int) ≤ ((mTwo MC) ((m : Int))) ∧ ((mTwo MC) ((m : Int))) < 10 by omega), trivial⟩ ?_
                                exact j190 _ (zgo_n (fun z => by omega))
                              · refine z_go c 5 (s1 := (190, [some (zR 32), some (zI f), some (zI k), some (zI y), some (zI a), some (zI s), some (zI ((t : Int))), some (zI ((m : Int)))], [], (zw sc B S Z L R (((mThrown MC), (mWays MC), (mOne MC), (mTwo MC), (mPages MC), (mOrders MC)), ((mSort MC), (mTold MC), (mLast MC), (mWithout MC), (mIsIn MC), (mNeeds MC)), ((mPersons MC), (mGaps MC), (mWeight MC), (mSeen MC), (mFew MC), (mBroken MC)), ((mHolds MC), (mMany MC), (mOrder MC), (mIsGood MC), (zup F2 (((mTwo MC) ((m : Int)))) (((t : Int) + 1)))))), 0, 0)) rfl ⟨(show (0 : Int) ≤ ((mTwo MC) ((m : Int))) ∧ ((mTwo MC) ((m : Int))) < 10 by omega), trivial⟩ ?_
                                exact j190 _ (zgo_y (by omega) (by omega))
                    exact loop4 14 0 _ (by omega) (by omega) rfl
              have h9 := loop3 11 0 (mFar MC) none (by omega) (by omega) hfC
              rw [zMd_eta] at h9
              exact h9
            · refine z_cV c 2 k_6_176 zv_X6_prepare (pc := 62) (ls := [some (zR 32), some (zI f), some (zI k), some (zI y), some (zI a), some (zI s), some (zI ((m : Int))), none]) (sk := []) (h := (zw sc B S Z L R MC)) (cs := 0) (ss := 0) (c_X6_prepare l sc B S Z L R MC T K n nw (-9) (zlast n a) (m : Int) hB hLC hl (by omega) hnw.2) rfl trivial rfl rfl ⟨Nat.le_refl _, Nat.le_refl _⟩ ?_
              rintro _ _ ⟨rfl, MP, rfl, hsP, hPd⟩
              have hLP := zLk_ms hLC hsP
              have hsP8 := zMs_trans hsC hsP
              have eWP := hLP.1.2.1
              show V (62, [some (zR 32), some (zI f), some (zI k), some (zI y), some (zI a), some (zI s), some (zI ((m : Int))), none], [], (zw sc B S Z L R MP), 0, 0)
              refine z_cV c 5 k_6_118 zv_X6_forceOf (pc := 72) (ls := [some (zR 32), some (zI f), some (zI k), some (zI y), some (zI a), some (zI s), some (zI ((m : Int))), none]) (sk := [zI s]) (h := (zw sc B S Z L R MP)) (cs := 0) (ss := 0) (c_fP l sc B S Z L R MP T K n nw (-9) (zlast n a) (m : Int) k y hB hLP hl hk (by omega) hy hnw.2 hPd) rfl trivial rfl rfl ⟨Nat.le_refl _, Nat.le_refl _⟩ ?_
              rintro _ _ ⟨rfl, rfl⟩
              have hzf := zF_rng T K n (m : Int) (zlast n a) (-9) k y
              show V (72, [some (zR 32), some (zI f), some (zI k), some (zI y), some (zI a), some (zI s), some (zI ((m : Int))), none], [zI ((zF T K n (m : Int) (zlast n a) (-9) k y)), zI s], (zw sc B S Z L R MP), 0, 0)
              have hop := zOp_iff (T := T) (K := K) (n := n) (l := (zlast n a)) (k := k) (y := y) (w := (m : Int))
              have hpw : (2 : Nat) ^ ((m : Int)).toNat ≤ 2 ^ 12 := Nat.pow_le_pow_right (by decide) (by omega)
              have hpw0 : (0 : Int) ≤ ((2 ^ ((m : Int)).toNat : Nat) : Int) := Int.natCast_nonneg _
              refine z_br c 0 ((zF T K n (m : Int) (zlast n a) (-9) k y) ≤ 0) (82, [some (zR 32), some (zI f), some (zI k), some (zI y), some (zI a), some (zI s), some (zI ((m : Int))), none], [zI s], (zw sc B S Z L R MP), 0, 0) (75, [some (zR 32), some (zI f), some (zI k), some (zI y), some (zI a), some (zI s), some (zI ((m : Int))), none], [zI s], (zw sc B S Z L R MP), 0, 0) rfl ⟨(show (-2147483648 : Int) ≤ (zF T K n (m : Int) (zlast n a) (-9) k y) ∧ (zF T K n (m : Int) (zlast n a) (-9) k y) ≤ 2147483647 by omega), trivial⟩ (fun h72 => ?_) (fun h72 => ?_)
              · refine z_go c 3 (s1 := (86, [some (zR 32), some (zI f), some (zI k), some (zI y), some (zI a), some (zI (((s.toNat ||| (0 : Int).toNat : Nat) : Int))), some (zI ((m : Int))), none], [], (zw sc B S Z L R MP), 0, 0)) rfl ⟨(by omega), trivial⟩ ?_
                exact z_go c 2 (s1 := (47, [some (zR 32), some (zI f), some (zI k), some (zI y), some (zI a), some (zI (((s.toNat ||| (0 : Int).toNat : Nat) : Int))), some (zI (((m : Int) + 1))), none], [], (zw sc B S Z L R MP), 0, 0)) rfl trivial (ih2 (m + 1) _ _ (by omega) (by omega) (zsb_no hs (fun z => hop.mp z (by omega))) hsP8)
              · refine z_go c 6 (s1 := (86, [some (zR 32), some (zI f), some (zI k), some (zI y), some (zI a), some (zI (((s.toNat ||| (((2 ^ ((m : Int)).toNat : Nat) : Int)).toNat : Nat) : Int))), some (zI ((m : Int))), none], [], (zw sc B S Z L R MP), 0, 0)) rfl ⟨(by omega), (by omega), trivial⟩ ?_
                exact z_go c 2 (s1 := (47, [some (zR 32), some (zI f), some (zI k), some (zI y), some (zI a), some (zI (((s.toNat ||| (((2 ^ ((m : Int)).toNat : Nat) : Int)).toNat : Nat) : Int))), some (zI (((m : Int) + 1))), none], [], (zw sc B S Z L R MP), 0, 0)) rfl trivial (ih2 (m + 1) _ _ (by omega) (by omega) (zsb_yes hs (hop.mpr (by omega))) hsP8)
        exact loop2 14 0 _ _ (by omega) (by omega) rfl (zMs_refl _)
      · refine z_br c 5 (¬ (m : Int) = f) (32, [some (zR 32), some (zI f), some (zI k), some (zI y), some (zI a), some (zI ((m : Int))), none, none], [zI ((m : Int)), zR 44], (zw sc B S Z L R (((mThrown ML), (mWays ML), (mOne ML), (mTwo ML), (mPages ML), (mOrders ML)), ((mSort ML), (mTold ML), (mLast ML), (mWithout ML), (mIsIn ML), (mNeeds ML)), ((mPersons ML), (mGaps ML), (mWeight ML), (mSeen ML), (mFew ML), (mBroken ML)), ((mHolds ML), (mMany ML), (mOrder ML), (mIsGood ML), G1))), 0, 0) (28, [some (zR 32), some (zI f), some (zI k), some (zI y), some (zI a), some (zI ((m : Int))), none, none], [zI ((m : Int)), zR 44], (zw sc B S Z L R (((mThrown ML), (mWays ML), (mOne ML), (mTwo ML), (mPages ML), (mOrders ML)), ((mSort ML), (mTold ML), (mLast ML), (mWithout ML), (mIsIn ML), (mNeeds ML)), ((mPersons ML), (mGaps ML), (mWeight ML), (mSeen ML), (mFew ML), (mBroken ML)), ((mHolds ML), (mMany ML), (mOrder ML), (mIsGood ML), G1))), 0, 0) rfl ⟨(show ((-2147483648 : Int) ≤ (m : Int) ∧ (m : Int) ≤ 2147483647) ∧ (-2147483648 : Int) ≤ f ∧ f ≤ 2147483647 by omega), trivial⟩ (fun h25 => ?_) (fun h25 => ?_)
        · refine z_go c 2 (s1 := (35, [some (zR 32), some (zI f), some (zI k), some (zI y), some (zI a), some (zI ((m : Int))), none, none], [], (zw sc B S Z L R (((mThrown ML), (mWays ML), (mOne ML), (mTwo ML), (mPages ML), (mOrders ML)), ((mSort ML), (mTold ML), (mLast ML), (mWithout ML), (mIsIn ML), (mNeeds ML)), ((mPersons ML), (mGaps ML), (mWeight ML), (mSeen ML), (mFew ML), (mBroken ML)), ((mHolds ML), (mMany ML), (mOrder ML), (mIsGood ML), (zup G1 ((m : Int)) ((-9)))))), 0, 0)) rfl ⟨(show (0 : Int) ≤ (m : Int) ∧ (m : Int) < 10 by omega), trivial⟩ ?_
          exact z_go c 2 (s1 := (9, [some (zR 32), some (zI f), some (zI k), some (zI y), some (zI a), some (zI (((m : Int) + 1))), none, none], [], (zw sc B S Z L R (((mThrown ML), (mWays ML), (mOne ML), (mTwo ML), (mPages ML), (mOrders ML)), ((mSort ML), (mTold ML), (mLast ML), (mWithout ML), (mIsIn ML), (mNeeds ML)), ((mPersons ML), (mGaps ML), (mWeight ML), (mSeen ML), (mFew ML), (mBroken ML)), ((mHolds ML), (mMany ML), (mOrder ML), (mIsGood ML), (zup G1 ((m : Int)) ((-9)))))), 0, 0)) rfl trivial (ih (m + 1) _ (by omega) (by omega) (fun j a b => by
            simp only [zup]
            by_cases g : j = (m : Int)
            · rw [if_pos g]; exact (if_neg (by omega)).symm
            · rw [if_neg g]; exact hG j a (by omega)))
        · refine z_go c 3 (s1 := (35, [some (zR 32), some (zI f), some (zI k), some (zI y), some (zI a), some (zI ((m : Int))), none, none], [], (zw sc B S Z L R (((mThrown ML), (mWays ML), (mOne ML), (mTwo ML), (mPages ML), (mOrders ML)), ((mSort ML), (mTold ML), (mLast ML), (mWithout ML), (mIsIn ML), (mNeeds ML)), ((mPersons ML), (mGaps ML), (mWeight ML), (mSeen ML), (mFew ML), (mBroken ML)), ((mHolds ML), (mMany ML), (mOrder ML), (mIsGood ML), (zup G1 ((m : Int)) 0)))), 0, 0)) rfl ⟨(show (0 : Int) ≤ (m : Int) ∧ (m : Int) < 10 by omega), trivial⟩ ?_
          exact z_go c 2 (s1 := (9, [some (zR 32), some (zI f), some (zI k), some (zI y), some (zI a), some (zI (((m : Int) + 1))), none, none], [], (zw sc B S Z L R (((mThrown ML), (mWays ML), (mOne ML), (mTwo ML), (mPages ML), (mOrders ML)), ((mSort ML), (mTold ML), (mLast ML), (mWithout ML), (mIsIn ML), (mNeeds ML)), ((mPersons ML), (mGaps ML), (mWeight ML), (mSeen ML), (mFew ML), (mBroken ML)), ((mHolds ML), (mMany ML), (mOrder ML), (mIsGood ML), (zup G1 ((m : Int)) 0)))), 0, 0)) rfl trivial (ih (m + 1) _ (by omega) (by omega) (fun j a b => by
            simp only [zup]
            by_cases g : j = (m : Int)
            · rw [if_pos g]; exact (if_pos (by omega)).symm
            · rw [if_neg g]; exact hG j a (by omega)))
  have h9 := loop 11 0 (mFar ML) (by omega) (by omega) (fun j a b => by exfalso; omega)
  rw [zMd_eta] at h9
  exact h9
set_option maxRecDepth 4000 in
theorem c_X6_steps (l : Launch) (sc : ZSc) (B : ZBk) (S Z : ZSg) (L : ZLn) (R : ZRd) (M : ZMd) (T K : Int → Int) (n nw : Int) (f t k y a : Int) (hB : zBv T K n nw) (hM : zMr T n nw M) (hQ : mWithout M = -9) (hnw : 0 ≤ nw ∧ nw ≤ 12) (hR : zRv (mOne M) (mTwo M) nw) (hf : (-2147483648 ≤ f ∧ f ≤ 2147483647)) (ht : (-2147483648 ≤ t ∧ t ≤ 2147483647)) (hk : (-2147483648 ≤ k ∧ k ≤ 2147483647)) (hy : (-2147483648 ≤ y ∧ y ≤ 2147483647)) (ha : (-2147483648 ≤ a ∧ a ≤ 2147483647)) : zMet l m_X6_steps [zR 32, zI f, zI t, zI k, zI y, zI a] (zw sc B S Z L R M) (fun v h1 => ∃ M1, v = some (zI (if 0 ≤ t ∧ t ≤ 9 then (if zrP n f k y a = 0 then (zDf (zOp T K n (zlast n a) k y) (mOne M) (mTwo M) nw.toNat t f) else zrP n f k y a) else -1)) ∧ zw sc B S Z L R M1 = h1 ∧ zMk M M1) := by
  refine z_method g_X6_steps [some (zR 32), some (zI f), some (zI t), some (zI k), some (zI y), some (zI a), none] rfl rfl (fun V c => ?_)
  obtain ⟨hn, hT, -, hv, hno, hKs⟩ := id hB
  refine z_go c 3 (s1 := (5, [some (zR 32), some (zI f), some (zI t), some (zI k), some (zI y), some (zI a), none], [], (zw sc B S Z L R ((0, (mWays M), (mOne M), (mTwo M), (mPages M), (mOrders M)), ((mSort M), (mTold M), (mLast M), (mWithout M), (mIsIn M), (mNeeds M)), ((mPersons M), (mGaps M), (mWeight M), (mSeen M), (mFew M), (mBroken M)), ((mHolds M), (mMany M), (mOrder M), (mIsGood M), (mFar M)))), 0, 0)) rfl trivial ?_
  have hkM0 : zMk M ((0, (mWays M), (mOne M), (mTwo M), (mPages M), (mOrders M)), ((mSort M), (mTold M), (mLast M), (mWithout M), (mIsIn M), (mNeeds M)), ((mPersons M), (mGaps M), (mWeight M), (mSeen M), (mFew M), (mBroken M)), ((mHolds M), (mMany M), (mOrder M), (mIsGood M), (mFar M))) := ⟨rfl, rfl, rfl, rfl⟩
  generalize (((0, (mWays M), (mOne M), (mTwo M), (mPages M), (mOrders M)), ((mSort M), (mTold M), (mLast M), (mWithout M), (mIsIn M), (mNeeds M)), ((mPersons M), (mGaps M), (mWeight M), (mSeen M), (mFew M), (mBroken M)), ((mHolds M), (mMany M), (mOrder M), (mIsGood M), (mFar M))) : ZMd) = M0 at hkM0 ⊢
  have hM0 := zMr_k hM hkM0
  have hQ0 : mWithout M0 = -9 := hkM0.2.2.2.trans hQ
  have eN0 := hM0.1
  have eW0 := hM0.2.1
  have hab0 := zMk_ab hkM0
  have hR0 : zRv (mOne M0) (mTwo M0) nw := by rw [hab0.1, hab0.2]; exact hR
  refine z_cV c 6 k_6_189 zv_X6_noWalk (pc := 16) (ls := [some (zR 32), some (zI f), some (zI t), some (zI k), some (zI y), some (zI a), none]) (sk := []) (h := (zw sc B S Z L R M0)) (cs := 0) (ss := 0) (c_X6_noWalk l sc B S Z L R M0 T K n nw f t k y a hB hM0 hnw (by omega) (by omega) (by omega) (by omega) (by omega)) rfl trivial rfl rfl ⟨Nat.le_refl _, Nat.le_refl _⟩ ?_
  rintro _ _ ⟨rfl, rfl⟩
  have hzr := zrW_r n f t k y a
  show V (16, [some (zR 32), some (zI f), some (zI t), some (zI k), some (zI y), some (zI a), none], [zI ((zrW n f t k y a))], (zw sc B S Z L R M0), 0, 0)
  refine z_br c 2 ((zrW n f t k y a) = 0) (26, [some (zR 32), some (zI f), some (zI t), some (zI k), some (zI y), some (zI a), some (zI ((zrW n f t k y a)))], [], (zw sc B S Z L R M0), 0, 0) (23, [some (zR 32), some (zI f), some (zI t), some (zI k), some (zI y), some (zI a), some (zI ((zrW n f t k y a)))], [], (zw sc B S Z L R M0), 0, 0) rfl ⟨(show (-2147483648 : Int) ≤ (zrW n f t k y a) ∧ (zrW n f t k y a) ≤ 2147483647 by omega), trivial⟩ (fun h20 => ?_) (fun h20 => ?_)
  · obtain ⟨ht3, -, hf3, ha3, hk3, hy3⟩ := zrW_0 (by assumption)
    refine z_cV c 5 k_6_192 zv_X6_spread (pc := 36) (ls := [some (zR 32), some (zI f), some (zI t), some (zI k), some (zI y), some (zI a), some (zI ((zrW n f t k y a)))]) (sk := []) (h := (zw sc B S Z L R M0)) (cs := 0) (ss := 0) (c_X6_spread l sc B S Z L R M0 T K n nw f k y a hB hM0 hQ0 hnw hR0 ha3 (by omega) hk3 hy3) rfl trivial rfl rfl ⟨Nat.le_refl _, Nat.le_refl _⟩ ?_
    rintro _ _ ⟨rfl, MS, rfl, hk9, hLS, hfar⟩
    have hkMS := zMk_trans hkM0 hk9
    have hl := zlast_rng (n := n) (a := a) hn.1 ha3
    rw [hab0.1, hab0.2] at hfar
    have eWS := hLS.1.2.1
    have habS := zMk_ab hkMS
    show V (36, [some (zR 32), some (zI f), some (zI t), some (zI k), some (zI y), some (zI a), some (zI ((zrW n f t k y a)))], [], (zw sc B S Z L R MS), 0, 0)
    have hft := hfar t (by omega) (by omega)
    have hff := hfar f (by omega) (by omega)
    exact z_re c 4 (v := some (zI (((mFar MS) t)))) (h := (zw sc B S Z L R MS)) (cs := 0) (ss := 0) rfl ⟨(show (0 : Int) ≤ t ∧ t < 10 by omega), trivial⟩ trivial ⟨Nat.le_refl _, Nat.le_refl _⟩ ⟨MS, congrArg (fun z => some (zI z)) (Eq.trans (by rw [hfar t ht3.1 (by omega)]; exact zDf_sym hR (by omega) (by omega)) (zrW_y (by assumption))), rfl, hkMS⟩
  · exact z_re c 1 (v := some (zI ((zrW n f t k y a)))) (h := (zw sc B S Z L R M0)) (cs := 0) (ss := 0) rfl trivial trivial ⟨Nat.le_refl _, Nat.le_refl _⟩ ⟨M0, congrArg (fun z => some (zI z)) (zrW_n _ (by assumption)), rfl, hkM0⟩
set_option maxRecDepth 4000 in
theorem c_X6_first (l : Launch) (sc : ZSc) (B : ZBk) (S Z : ZSg) (L : ZLn) (R : ZRd) (M : ZMd) (T K : Int → Int) (n nw : Int) (f t k y a : Int) (hB : zBv T K n nw) (hM : zMr T n nw M) (hQ : mWithout M = -9) (hnw : 0 ≤ nw ∧ nw ≤ 12) (hR : zRv (mOne M) (mTwo M) nw) (hf : (-2147483648 ≤ f ∧ f ≤ 2147483647)) (ht : (-2147483648 ≤ t ∧ t ≤ 2147483647)) (hk : (-2147483648 ≤ k ∧ k ≤ 2147483647)) (hy : (-2147483648 ≤ y ∧ y ≤ 2147483647)) (ha : (-2147483648 ≤ a ∧ a ≤ 2147483647)) : zMet l m_X6_first [zR 32, zI f, zI t, zI k, zI y, zI a] (zw sc B S Z L R M) (fun v h1 => ∃ M1, v = some (zI (if 0 ≤ t ∧ t ≤ 9 then (if zrP n f k y a = 0 then (if (zDf (zOp T K n (zlast n a) k y) (mOne M) (mTwo M) nw.toNat t f) - 1 < 0 then -9 else zmn (znr (zOp T K n (zlast n a) k y) (mOne M) (mTwo M) (fun p => (zDf (zOp T K n (zlast n a) k y) (mOne M) (mTwo M) nw.toNat t p)) f) 0 nw.toNat) else zrP n f k y a) else -1)) ∧ zw sc B S Z L R M1 = h1 ∧ zMk M M1) := by
  refine z_method g_X6_first [some (zR 32), some (zI f), some (zI t), some (zI k), some (zI y), some (zI a), none, none, none] rfl rfl (fun V c => ?_)
  obtain ⟨hn, hT, -, hv, hno, hKs⟩ := id hB
  refine z_go c 3 (s1 := (5, [some (zR 32), some (zI f), some (zI t), some (zI k), some (zI y), some (zI a), none, none, none], [], (zw sc B S Z L R ((0, (mWays M), (mOne M), (mTwo M), (mPages M), (mOrders M)), ((mSort M), (mTold M), (mLast M), (mWithout M), (mIsIn M), (mNeeds M)), ((mPersons M), (mGaps M), (mWeight M), (mSeen M), (mFew M), (mBroken M)), ((mHolds M), (mMany M), (mOrder M), (mIsGood M), (mFar M)))), 0, 0)) rfl trivial ?_
  have hkM0 : zMk M ((0, (mWays M), (mOne M), (mTwo M), (mPages M), (mOrders M)), ((mSort M), (mTold M), (mLast M), (mWithout M), (mIsIn M), (mNeeds M)), ((mPersons M), (mGaps M), (mWeight M), (mSeen M), (mFew M), (mBroken M)), ((mHolds M), (mMany M), (mOrder M), (mIsGood M), (mFar M))) := ⟨rfl, rfl, rfl, rfl⟩
  generalize (((0, (mWays M), (mOne M), (mTwo M), (mPages M), (mOrders M)), ((mSort M), (mTold M), (mLast M), (mWithout M), (mIsIn M), (mNeeds M)), ((mPersons M), (mGaps M), (mWeight M), (mSeen M), (mFew M), (mBroken M)), ((mHolds M), (mMany M), (mOrder M), (mIsGood M), (mFar M))) : ZMd) = M0 at hkM0 ⊢
  have hM0 := zMr_k hM hkM0
  have hQ0 : mWithout M0 = -9 := hkM0.2.2.2.trans hQ
  have eN0 := hM0.1
  have eW0 := hM0.2.1
  have hab0 := zMk_ab hkM0
  have hR0 : zRv (mOne M0) (mTwo M0) nw := by rw [hab0.1, hab0.2]; exact hR
  refine z_cV c 6 k_6_189 zv_X6_noWalk (pc := 16) (ls := [some (zR 32), some (zI f), some (zI t), some (zI k), some (zI y), some (zI a), none, none, none]) (sk := []) (h := (zw sc B S Z L R M0)) (cs := 0) (ss := 0) (c_X6_noWalk l sc B S Z L R M0 T K n nw f t k y a hB hM0 hnw (by omega) (by omega) (by omega) (by omega) (by omega)) rfl trivial rfl rfl ⟨Nat.le_refl _, Nat.le_refl _⟩ ?_
  rintro _ _ ⟨rfl, rfl⟩
  have hzr := zrW_r n f t k y a
  show V (16, [some (zR 32), some (zI f), some (zI t), some (zI k), some (zI y), some (zI a), none, none, none], [zI ((zrW n f t k y a))], (zw sc B S Z L R M0), 0, 0)
  refine z_br c 2 ((zrW n f t k y a) = 0) (26, [some (zR 32), some (zI f), some (zI t), some (zI k), some (zI y), some (zI a), some (zI ((zrW n f t k y a))), none, none], [], (zw sc B S Z L R M0), 0, 0) (23, [some (zR 32), some (zI f), some (zI t), some (zI k), some (zI y), some (zI a), some (zI ((zrW n f t k y a))), none, none], [], (zw sc B S Z L R M0), 0, 0) rfl ⟨(show (-2147483648 : Int) ≤ (zrW n f t k y a) ∧ (zrW n f t k y a) ≤ 2147483647 by omega), trivial⟩ (fun h20 => ?_) (fun h20 => ?_)
  · obtain ⟨ht3, -, hf3, ha3, hk3, hy3⟩ := zrW_0 (by assumption)
    refine z_cV c 5 k_6_192 zv_X6_spread (pc := 36) (ls := [some (zR 32), some (zI f), some (zI t), some (zI k), some (zI y), some (zI a), some (zI ((zrW n f t k y a))), none, none]) (sk := []) (h := (zw sc B S Z L R M0)) (cs := 0) (ss := 0) (c_X6_spread l sc B S Z L R M0 T K n nw t k y a hB hM0 hQ0 hnw hR0 ha3 (by omega) hk3 hy3) rfl trivial rfl rfl ⟨Nat.le_refl _, Nat.le_refl _⟩ ?_
    rintro _ _ ⟨rfl, MS, rfl, hk9, hLS, hfar⟩
    have hkMS := zMk_trans hkM0 hk9
    have hl := zlast_rng (n := n) (a := a) hn.1 ha3
    rw [hab0.1, hab0.2] at hfar
    have eWS := hLS.1.2.1
    have habS := zMk_ab hkMS
    show V (36, [some (zR 32), some (zI f), some (zI t), some (zI k), some (zI y), some (zI a), some (zI ((zrW n f t k y a))), none, none], [], (zw sc B S Z L R MS), 0, 0)
    have hff := hfar f (by omega) (by omega)
    have hfv := zDf_v (op := (zOp T K n (zlast n a) k y)) (s := t) (p := f) hR (by omega)
    refine z_br c 5 (((mFar MS) f) = (-9)) (56, [some (zR 32), some (zI f), some (zI t), some (zI k), some (zI y), some (zI a), some (zI ((zrW n f t k y a))), none, none], [], (zw sc B S Z L R MS), 0, 0) (47, [some (zR 32), some (zI f), some (zI t), some (zI k), some (zI y), some (zI a), some (zI ((zrW n f t k y a))), none, none], [], (zw sc B S Z L R MS), 0, 0) rfl ⟨(show ((-2147483648 : Int) ≤ ((mFar MS) f) ∧ ((mFar MS) f) ≤ 2147483647) ∧ (-2147483648 : Int) ≤ (-9) ∧ (-9) ≤ 2147483647 by omega), (show (0 : Int) ≤ f ∧ f < 10 by omega), trivial⟩ (fun h44 => ?_) (fun h44 => ?_)
    · exact z_re c 1 (v := some (zI ((-9)))) (h := (zw sc B S Z L R MS)) (cs := 0) (ss := 0) rfl trivial trivial ⟨Nat.le_refl _, Nat.le_refl _⟩ ⟨MS, congrArg (fun z => some (zI z)) (Eq.trans (by rw [if_pos (by omega)]) (zrW_y (by assumption))), rfl, hkMS⟩
    · refine z_br c 4 (¬ ((mFar MS) f) = 0) (59, [some (zR 32), some (zI f), some (zI t), some (zI k), some (zI y), some (zI a), some (zI ((zrW n f t k y a))), none, none], [], (zw sc B S Z L R MS), 0, 0) (56, [some (zR 32), some (zI f), some (zI t), some (zI k), some (zI y), some (zI a), some (zI ((zrW n f t k y a))), none, none], [], (zw sc B S Z L R MS), 0, 0) rfl ⟨(show (-2147483648 : Int) ≤ ((mFar MS) f) ∧ ((mFar MS) f) ≤ 2147483647 by omega), (show (0 : Int) ≤ f ∧ f < 10 by omega), trivial⟩ (fun h53 => ?_) (fun h53 => ?_)
      · refine z_go c 2 (s1 := (62, [some (zR 32), some (zI f), some (zI t), some (zI k), some (zI y), some (zI a), some (zI ((zrW n f t k y a))), some (zI 0), none], [], (zw sc B S Z L R MS), 0, 0)) rfl trivial ?_
        have loop : ∀ (x m : Nat) (MC : ZMd) (x8 : Option ZV), nw - (m : Int) < (x : Int) → (m : Int) ≤ nw → zmn (znr (zOp T K n (zlast n a) k y) (mOne M) (mTwo M) (fun p => (zDf (zOp T K n (zlast n a) k y) (mOne M) (mTwo M) nw.toNat t p)) f) 0 nw.toNat = zmn (znr (zOp T K n (zlast n a) k y) (mOne M) (mTwo M) (fun p => (zDf (zOp T K n (zlast n a) k y) (mOne M) (mTwo M) nw.toNat t p)) f) (m : Int) (nw.toNat - m) → zMs MS MC → V (62, [some (zR 32), some (zI f), some (zI t), some (zI k), some (zI y), some (zI a), some (zI ((zrW n f t k y a))), some (zI ((m : Int))), x8], [], (zw sc B S Z L R MC), 0, 0) := by
          intro x
          induction x with
          | zero => intro m MC x8 h1 h2; exfalso; omega
          | succ x ih =>
            intro m MC x8 hm1 hm2 hz hsC
            have hLC := zLk_ms hLS hsC
            have eWC := hLC.1.2.1
            have hkMC := zMk_trans hkMS (zMk_ms hsC)
            have habC := zMk_ab hkMC
            have hfC : mFar MC = mFar MS := hsC.2.2.2
            refine z_br c 3 ((mWays MC) ≤ (m : Int)) (169, [some (zR 32), some (zI f), some (zI t), some (zI k), some (zI y), some (zI a), some (zI ((zrW n f t k y a))), some (zI ((m : Int))), x8], [], (zw sc B S Z L R MC), 0, 0) (71, [some (zR 32), some (zI f), some (zI t), some (zI k), some (zI y), some (zI a), some (zI ((zrW n f t k y a))), some (zI ((m : Int))), x8], [], (zw sc B S Z L R MC), 0, 0) rfl ⟨(show ((-2147483648 : Int) ≤ (m : Int) ∧ (m : Int) ≤ 2147483647) ∧ (-2147483648 : Int) ≤ (mWays MC) ∧ (mWays MC) ≤ 2147483647 by omega), trivial⟩ (fun h68 => ?_) (fun h68 => ?_)
            · exact z_re c 1 (v := some (zI ((-9)))) (h := (zw sc B S Z L R MC)) (cs := 0) (ss := 0) rfl trivial trivial ⟨Nat.le_refl _, Nat.le_refl _⟩ ⟨MC, congrArg (fun z => some (zI z)) (Eq.trans (by obtain rfl : m = nw.toNat := (by omega); rw [if_neg (by omega), hz, Nat.sub_self]; rfl) (zrW_y (by assumption))), rfl, hkMC⟩
            · have hab2 := hR.2 (m : Int) (by omega) (by omega)
              have ha1 : mOne MC (m : Int) = mOne M (m : Int) := by rw [habC.1]
              have ha2 : mTwo MC (m : Int) = mTwo M (m : Int) := by rw [habC.2]
              have hz2 := zmn_s (P := (znr (zOp T K n (zlast n a) k y) (mOne M) (mTwo M) (fun p => (zDf (zOp T K n (zlast n a) k y) (mOne M) (mTwo M) nw.toNat t p)) f)) (a := (m : Int)) (k := nw.toNat - m) (by omega)
              have hQ9 : (znr (zOp T K n (zlast n a) k y) (mOne M) (mTwo M) (fun p => (zDf (zOp T K n (zlast n a) k y) (mOne M) (mTwo M) nw.toNat t p)) f) (m : Int) = true ↔ ¬ zF T K n (m : Int) (zlast n a) (-9) k y = 0 ∧ ((mOne M (m : Int) = f ∧ (zDf (zOp T K n (zlast n a) k y) (mOne M) (mTwo M) nw.toNat t (mTwo M (m : Int))) = (zDf (zOp T K n (zlast n a) k y) (mOne M) (mTwo M) nw.toNat t f) - 1) ∨ (mTwo M (m : Int) = f ∧ (zDf (zOp T K n (zlast n a) k y) (mOne M) (mTwo M) nw.toNat t (mOne M (m : Int))) = (zDf (zOp T K n (zlast n a) k y) (mOne M) (mTwo M) nw.toNat t f) - 1)) := by
                show ((zOp T K n (zlast n a) k y) (m : Int) && (decide _ || decide _)) = true ↔ _
                rw [Bool.and_eq_true, Bool.or_eq_true, decide_eq_true_iff, decide_eq_true_iff, zOp_iff]
              have hf1 := hfar (mOne M (m : Int)) (by omega) (by omega)
              have hf2 := hfar (mTwo M (m : Int)) (by omega) (by omega)
              have hg1 := zDf_v (op := (zOp T K n (zlast n a) k y)) (s := t) (p := mOne M (m : Int)) hR (by omega)
              have hg2 := zDf_v (op := (zOp T K n (zlast n a) k y)) (s := t) (p := mTwo M (m : Int)) hR (by omega)
              rw [← hfC] at hf1 hf2 hff
              rw [← ha1] at hf1 hg1
              rw [← ha2] at hf2 hg2
              rw [← ha1, ← ha2] at hQ9
              refine z_br c 5 (¬ ((mOne MC) ((m : Int))) = f) (92, [some (zR 32), some (zI f), some (zI t), some (zI k), some (zI y), some (zI a), some (zI ((zrW n f t k y a))), some (zI ((m : Int))), x8], [], (zw sc B S Z L R MC), 0, 0) (82, [some (zR 32), some (zI f), some (zI t), some (zI k), some (zI y), some (zI a), some (zI ((zrW n f t k y a))), some (zI ((m : Int))), x8], [], (zw sc B S Z L R MC), 0, 0) rfl ⟨(show ((-2147483648 : Int) ≤ ((mOne MC) ((m : Int))) ∧ ((mOne MC) ((m : Int))) ≤ 2147483647) ∧ (-2147483648 : Int) ≤ f ∧ f ≤ 2147483647 by omega), (show (0 : Int) ≤ (m : Int) ∧ (m : Int) < 12 by omega), trivial⟩ (fun h79 => ?_) (fun h79 => ?_)
              · refine z_br c 5 (¬ ((mTwo MC) ((m : Int))) = f) (113, [some (zR 32), some (zI f), some (zI t), some (zI k), some (zI y), some (zI a), some (zI ((zrW n f t k y a))), some (zI ((m : Int))), x8], [], (zw sc B S Z L R MC), 0, 0) (103, [some (zR 32), some (zI f), some (zI t), some (zI k), some (zI y), some (zI a), some (zI ((zrW n f t k y a))), some (zI ((m : Int))), x8], [], (zw sc B S Z L R MC), 0, 0) rfl ⟨(show ((-2147483648 : Int) ≤ ((mTwo MC) ((m : Int))) ∧ ((mTwo MC) ((m : Int))) ≤ 2147483647) ∧ (-2147483648 : Int) ≤ f ∧ f ≤ 2147483647 by omega), (show (0 : Int) ≤ (m : Int) ∧ (m : Int) < 12 by omega), trivial⟩ (fun h100 => ?_) (fun h100 => ?_)
                · refine z_br c 4 ((-9) = (-9)) (163, [some (zR 32), some (zI f), some (zI t), some (zI k), some (zI y), some (zI a), some (zI ((zrW n f t k y a))), some (zI ((m : Int))), some (zI ((-9)))], [], (zw sc B S Z L R MC), 0, 0) (124, [some (zR 32), some (zI f), some (zI t), some (zI k), some (zI y), some (zI a), some (zI ((zrW n f t k y a))), some (zI ((m : Int))), some (zI ((-9)))], [], (zw sc B S Z L R MC), 0, 0) rfl ⟨(show ((-2147483648 : Int) ≤ (-9) ∧ (-9) ≤ 2147483647) ∧ (-2147483648 : Int) ≤ (-9) ∧ (-9) ≤ 2147483647 by omega), trivial⟩ (fun h121 => ?_) (fun h121 => by exfalso; omega)
                  exact z_go c 2 (s1 := (62, [some (zR 32), some (zI f), some (zI t), some (zI k), some (zI y), some (zI a), some (zI ((zrW n f t k y a))), some (zI (((m : Int) + 1))), some (zI ((-9)))], [], (zw sc B S Z L R MC), 0, 0)) rfl trivial (ih (m + 1) _ _ (by omega) (by omega) (by rw [hz, hz2, if_neg (fun z => by have z2 := hQ9.mp z; omega)]; rfl) hsC)
                · refine z_br c 8 (((mOne MC) ((m : Int))) = (-9)) (163, [some (zR 32), some (zI f), some (zI t), some (zI k), some (zI y), some (zI a), some (zI ((zrW n f t k y a))), some (zI ((m : Int))), some (zI (((mOne MC) ((m : Int)))))], [], (zw sc B S Z L R MC), 0, 0) (124, [some (zR 32), some (zI f), some (zI t), some (zI k), some (zI y), some (zI a), some (zI ((zrW n f t k y a))), some (zI ((m : Int))), some (zI (((mOne MC) ((m : Int)))))], [], (zw sc B S Z L R MC), 0, 0) rfl ⟨(show ((-2147483648 : Int) ≤ ((mOne MC) ((m : Int))) ∧ ((mOne MC) ((m : Int))) ≤ 2147483647) ∧ (-2147483648 : Int) ≤ (-9) ∧ (-9) ≤ 2147483647 by omega), (show (0 : Int) ≤ (m : Int) ∧ (m : Int) < 12 by omega), trivial⟩ (fun h121 => ?_) (fun h121 => ?_)
                  · exact z_go c 2 (s1 := (62, [some (zR 32), some (zI f), some (zI t), some (zI k), some (zI y), some (zI a), some (zI ((zrW n f t k y a))), some (zI (((m : Int) + 1))), some (zI (((mOne MC) ((m : Int)))))], [], (zw sc B S Z L R MC), 0, 0)) rfl trivial (ih (m + 1) _ _ (by omega) (by omega) (by rw [hz, hz2, if_neg (fun z => by have z2 := hQ9.mp z; omega)]; rfl) hsC)
                  · refine z_br c 10 (¬ ((mFar MC) (((mOne MC) ((m : Int))))) = (((mFar MC) f) - 1)) (163, [some (zR 32), some (zI f), some (zI t), some (zI k), some (zI y), some (zI a), some (zI ((zrW n f t k y a))), some (zI ((m : Int))), some (zI (((mOne MC) ((m : Int)))))], [], (zw sc B S Z L R MC), 0, 0) (142, [some (zR 32), some (zI f), some (zI t), some (zI k), some (zI y), some (zI a), some (zI ((zrW n f t k y a))), some (zI ((m : Int))), some (zI (((mOne MC) ((m : Int)))))], [], (zw sc B S Z L R MC), 0, 0) rfl ⟨(show ((-2147483648 : Int) ≤ ((mFar MC) (((mOne MC) ((m : Int))))) ∧ ((mFar MC) (((mOne MC) ((m : Int))))) ≤ 2147483647) ∧ (-2147483648 : Int) ≤ (((mFar MC) f) - 1) ∧ (((mFar MC) f) - 1) ≤ 2147483647 by omega), (show (0 : Int) ≤ ((mOne MC) ((m : Int))) ∧ ((mOne MC) ((m : Int))) < 10 by omega), (show (0 : Int) ≤ f ∧ f < 10 by omega), trivial⟩ (fun h139 => ?_) (fun h139 => ?_)
                    · exact z_go c 2 (s1 := (62, [some (zR 32), some (zI f), some (zI t), some (zI k), some (zI y), some (zI a), some (zI ((zrW n f t k y a))), some (zI (((m : Int) + 1))), some (zI (((mOne MC) ((m : Int)))))], [], (zw sc B S Z L R MC), 0, 0)) rfl trivial (ih (m + 1) _ _ (by omega) (by omega) (by rw [hz, hz2, if_neg (fun z => by have z2 := hQ9.mp z; omega)]; rfl) hsC)
                    · refine z_cV c 2 k_6_176 zv_X6_prepare (pc := 148) (ls := [some (zR 32), some (zI f), some (zI t), some (zI k), some (zI y), some (zI a), some (zI ((zrW n f t k y a))), some (zI ((m : Int))), some (zI (((mOne MC) ((m : Int)))))]) (sk := []) (h := (zw sc B S Z L R MC)) (cs := 0) (ss := 0) (c_X6_prepare l sc B S Z L R MC T K n nw (-9) (zlast n a) (m : Int) hB hLC hl (by omega) hnw.2) rfl trivial rfl rfl ⟨Nat.le_refl _, Nat.le_refl _⟩ ?_
                      rintro _ _ ⟨rfl, MP, rfl, hsP, hPd⟩
                      have hLP := zLk_ms hLC hsP
                      show V (148, [some (zR 32), some (zI f), some (zI t), some (zI k), some (zI y), some (zI a), some (zI ((zrW n f t k y a))), some (zI ((m : Int))), some (zI (((mOne MC) ((m : Int)))))], [], (zw sc B S Z L R MP), 0, 0)
                      refine z_cV c 4 k_6_118 zv_X6_forceOf (pc := 157) (ls := [some (zR 32), some (zI f), some (zI t), some (zI k), some (zI y), some (zI a), some (zI ((zrW n f t k y a))), some (zI ((m : Int))), some (zI (((mOne MC) ((m : Int)))))]) (sk := []) (h := (zw sc B S Z L R MP)) (cs := 0) (ss := 0) (c_fP l sc B S Z L R MP T K n nw (-9) (zlast n a) (m : Int) k y hB hLP hl hk3 (by omega) hy3 hnw.2 hPd) rfl trivial rfl rfl ⟨Nat.le_refl _, Nat.le_refl _⟩ ?_
                      rintro _ _ ⟨rfl, rfl⟩
                      have hzf := zF_rng T K n (m : Int) (zlast n a) (-9) k y
                      show V (157, [some (zR 32), some (zI f), some (zI t), some (zI k), some (zI y), some (zI a), some (zI ((zrW n f t k y a))), some (zI ((m : Int))), some (zI (((mOne MC) ((m : Int)))))], [zI ((zF T K n (m : Int) (zlast n a) (-9) k y))], (zw sc B S Z L R MP), 0, 0)
                      refine z_br c 0 ((zF T K n (m : Int) (zlast n a) (-9) k y) ≤ 0) (163, [some (zR 32), some (zI f), some (zI t), some (zI k), some (zI y), some (zI a), some (zI ((zrW n f t k y a))), some (zI ((m : Int))), some (zI (((mOne MC) ((m : Int)))))], [], (zw sc B S Z L R MP), 0, 0) (160, [some (zR 32), some (zI f), some (zI t), some (zI k), some (zI y), some (zI a), some (zI ((zrW n f t k y a))), some (zI ((m : Int))), some (zI (((mOne MC) ((m : Int)))))], [], (zw sc B S Z L R MP), 0, 0) rfl ⟨(show (-2147483648 : Int) ≤ (zF T K n (m : Int) (zlast n a) (-9) k y) ∧ (zF T K n (m : Int) (zlast n a) (-9) k y) ≤ 2147483647 by omega), trivial⟩ (fun h157 => ?_) (fun h157 => ?_)
                      · exact z_go c 2 (s1 := (62, [some (zR 32), some (zI f), some (zI t), some (zI k), some (zI y), some (zI a), some (zI ((zrW n f t k y a))), some (zI (((m : Int) + 1))), some (zI (((mOne MC) ((m : Int)))))], [], (zw sc B S Z L R MP), 0, 0)) rfl trivial (ih (m + 1) _ _ (by omega) (by omega) (by rw [hz, hz2, if_neg (fun z => by have z2 := hQ9.mp z; omega)]; rfl) (zMs_trans hsC hsP))
                      · exact z_re c 1 (v := some (zI ((m : Int)))) (h := (zw sc B S Z L R MP)) (cs := 0) (ss := 0) rfl trivial trivial ⟨Nat.le_refl _, Nat.le_refl _⟩ ⟨MP, congrArg (fun z => some (zI z)) (Eq.trans (by rw [if_neg (by omega), hz, hz2, if_pos (hQ9.mpr (by omega))]) (zrW_y (by assumption))), rfl, zMk_trans hkMC (zMk_ms hsP)⟩
              · refine z_br c 8 (((mTwo MC) ((m : Int))) = (-9)) (163, [some (zR 32), some (zI f), some (zI t), some (zI k), some (zI y), some (zI a), some (zI ((zrW n f t k y a))), some (zI ((m : Int))), some (zI (((mTwo MC) ((m : Int)))))], [], (zw sc B S Z L R MC), 0, 0) (124, [some (zR 32), some (zI f), some (zI t), some (zI k), some (zI y), some (zI a), some (zI ((zrW n f t k y a))), some (zI ((m : Int))), some (zI (((mTwo MC) ((m : Int)))))], [], (zw sc B S Z L R MC), 0, 0) rfl ⟨(show ((-2147483648 : Int) ≤ ((mTwo MC) ((m : Int))) ∧ ((mTwo MC) ((m : Int))) ≤ 2147483647) ∧ (-2147483648 : Int) ≤ (-9) ∧ (-9) ≤ 2147483647 by omega), (show (0 : Int) ≤ (m : Int) ∧ (m : Int) < 12 by omega), trivial⟩ (fun h121 => ?_) (fun h121 => ?_)
                · exact z_go c 2 (s1 := (62, [some (zR 32), some (zI f), some (zI t), some (zI k), some (zI y), some (zI a), some (zI ((zrW n f t k y a))), some (zI (((m : Int) + 1))), some (zI (((mTwo MC) ((m : Int)))))], [], (zw sc B S Z L R MC), 0, 0)) rfl trivial (ih (m + 1) _ _ (by omega) (by omega) (by rw [hz, hz2, if_neg (fun z => by have z2 := hQ9.mp z; omega)]; rfl) hsC)
                · refine z_br c 10 (¬ ((mFar MC) (((mTwo MC) ((m : Int))))) = (((mFar MC) f) - 1)) (163, [some (zR 32), some (zI f), some (zI t), some (zI k), some (zI y), some (zI a), some (zI ((zrW n f t k y a))), some (zI ((m : Int))), some (zI (((mTwo MC) ((m : Int)))))], [], (zw sc B S Z L R MC), 0, 0) (142, [some (zR 32), some (zI f), some (zI t), some (zI k), some (zI y), some (zI a), some (zI ((zrW n f t k y a))), some (zI ((m : Int))), some (zI (((mTwo MC) ((m : Int)))))], [], (zw sc B S Z L R MC), 0, 0) rfl ⟨(show ((-2147483648 : Int) ≤ ((mFar MC) (((mTwo MC) ((m : Int))))) ∧ ((mFar MC) (((mTwo MC) ((m : Int))))) ≤ 2147483647) ∧ (-2147483648 : Int) ≤ (((mFar MC) f) - 1) ∧ (((mFar MC) f) - 1) ≤ 2147483647 by omega), (show (0 : Int) ≤ ((mTwo MC) ((m : Int))) ∧ ((mTwo MC) ((m : Int))) < 10 by omega), (show (0 : Int) ≤ f ∧ f < 10 by omega), trivial⟩ (fun h139 => ?_) (fun h139 => ?_)
                  · exact z_go c 2 (s1 := (62, [some (zR 32), some (zI f), some (zI t), some (zI k), some (zI y), some (zI a), some (zI ((zrW n f t k y a))), some (zI (((m : Int) + 1))), some (zI (((mTwo MC) ((m : Int)))))], [], (zw sc B S Z L R MC), 0, 0)) rfl trivial (ih (m + 1) _ _ (by omega) (by omega) (by rw [hz, hz2, if_neg (fun z => by have z2 := hQ9.mp z; omega)]; rfl) hsC)
                  · refine z_cV c 2 k_6_176 zv_X6_prepare (pc := 148) (ls := [some (zR 32), some (zI f), some (zI t), some (zI k), some (zI y), some (zI a), some (zI ((zrW n f t k y a))), some (zI ((m : Int))), some (zI (((mTwo MC) ((m : Int)))))]) (sk := []) (h := (zw sc B S Z L R MC)) (cs := 0) (ss := 0) (c_X6_prepare l sc B S Z L R MC T K n nw (-9) (zlast n a) (m : Int) hB hLC hl (by omega) hnw.2) rfl trivial rfl rfl ⟨Nat.le_refl _, Nat.le_refl _⟩ ?_
                    rintro _ _ ⟨rfl, MP, rfl, hsP, hPd⟩
                    have hLP := zLk_ms hLC hsP
                    show V (148, [some (zR 32), some (zI f), some (zI t), some (zI k), some (zI y), some (zI a), some (zI ((zrW n f t k y a))), some (zI ((m : Int))), some (zI (((mTwo MC) ((m : Int)))))], [], (zw sc B S Z L R MP), 0, 0)
                    refine z_cV c 4 k_6_118 zv_X6_forceOf (pc := 157) (ls := [some (zR 32), some (zI f), some (zI t), some (zI k), some (zI y), some (zI a), some (zI ((zrW n f t k y a))), some (zI ((m : Int))), some (zI (((mTwo MC) ((m : Int)))))]) (sk := []) (h := (zw sc B S Z L R MP)) (cs := 0) (ss := 0) (c_fP l sc B S Z L R MP T K n nw (-9) (zlast n a) (m : Int) k y hB hLP hl hk3 (by omega) hy3 hnw.2 hPd) rfl trivial rfl rfl ⟨Nat.le_refl _, Nat.le_refl _⟩ ?_
                    rintro _ _ ⟨rfl, rfl⟩
                    have hzf := zF_rng T K n (m : Int) (zlast n a) (-9) k y
                    show V (157, [some (zR 32), some (zI f), some (zI t), some (zI k), some (zI y), some (zI a), some (zI ((zrW n f t k y a))), some (zI ((m : Int))), some (zI (((mTwo MC) ((m : Int)))))], [zI ((zF T K n (m : Int) (zlast n a) (-9) k y))], (zw sc B S Z L R MP), 0, 0)
                    refine z_br c 0 ((zF T K n (m : Int) (zlast n a) (-9) k y) ≤ 0) (163, [some (zR 32), some (zI f), some (zI t), some (zI k), some (zI y), some (zI a), some (zI ((zrW n f t k y a))), some (zI ((m : Int))), some (zI (((mTwo MC) ((m : Int)))))], [], (zw sc B S Z L R MP), 0, 0) (160, [some (zR 32), some (zI f), some (zI t), some (zI k), some (zI y), some (zI a), some (zI ((zrW n f t k y a))), some (zI ((m : Int))), some (zI (((mTwo MC) ((m : Int)))))], [], (zw sc B S Z L R MP), 0, 0) rfl ⟨(show (-2147483648 : Int) ≤ (zF T K n (m : Int) (zlast n a) (-9) k y) ∧ (zF T K n (m : Int) (zlast n a) (-9) k y) ≤ 2147483647 by omega), trivial⟩ (fun h157 => ?_) (fun h157 => ?_)
                    · exact z_go c 2 (s1 := (62, [some (zR 32), some (zI f), some (zI t), some (zI k), some (zI y), some (zI a), some (zI ((zrW n f t k y a))), some (zI (((m : Int) + 1))), some (zI (((mTwo MC) ((m : Int)))))], [], (zw sc B S Z L R MP), 0, 0)) rfl trivial (ih (m + 1) _ _ (by omega) (by omega) (by rw [hz, hz2, if_neg (fun z => by have z2 := hQ9.mp z; omega)]; rfl) (zMs_trans hsC hsP))
                    · exact z_re c 1 (v := some (zI ((m : Int)))) (h := (zw sc B S Z L R MP)) (cs := 0) (ss := 0) rfl trivial trivial ⟨Nat.le_refl _, Nat.le_refl _⟩ ⟨MP, congrArg (fun z => some (zI z)) (Eq.trans (by rw [if_neg (by omega), hz, hz2, if_pos (hQ9.mpr (by omega))]) (zrW_y (by assumption))), rfl, zMk_trans hkMC (zMk_ms hsP)⟩
        exact loop 14 0 _ none (by omega) (by omega) rfl (zMs_refl _)
      · exact z_re c 1 (v := some (zI ((-9)))) (h := (zw sc B S Z L R MS)) (cs := 0) (ss := 0) rfl trivial trivial ⟨Nat.le_refl _, Nat.le_refl _⟩ ⟨MS, congrArg (fun z => some (zI z)) (Eq.trans (by rw [if_pos (by omega)]) (zrW_y (by assumption))), rfl, hkMS⟩
  · exact z_re c 1 (v := some (zI ((zrW n f t k y a)))) (h := (zw sc B S Z L R M0)) (cs := 0) (ss := 0) rfl trivial trivial ⟨Nat.le_refl _, Nat.le_refl _⟩ ⟨M0, congrArg (fun z => some (zI z)) (zrW_n _ (by assumption)), rfl, hkM0⟩
set_option maxRecDepth 4000 in
theorem c_X6_reach (l : Launch) (sc : ZSc) (B : ZBk) (S Z : ZSg) (L : ZLn) (R : ZRd) (M : ZMd) (T K : Int → Int) (n nw : Int) (f k y a : Int) (hB : zBv T K n nw) (hM : zMr T n nw M) (hQ : mWithout M = -9) (hnw : 0 ≤ nw ∧ nw ≤ 12) (hR : zRv (mOne M) (mTwo M) nw) (hf : (-2147483648 ≤ f ∧ f ≤ 2147483647)) (hk : (-2147483648 ≤ k ∧ k ≤ 2147483647)) (hy : (-2147483648 ≤ y ∧ y ≤ 2147483647)) (ha : (-2147483648 ≤ a ∧ a ≤ 2147483647)) : zMet l m_X6_reach [zR 32, zI f, zI k, zI y, zI a] (zw sc B S Z L R M) (fun v h1 => ∃ M1, v = some (zI (if zrP n f k y a = 0 then zcj (fun p => (zDf (zOp T K n (zlast n a) k y) (mOne M) (mTwo M) nw.toNat f p)) 10 else zrP n f k y a)) ∧ zw sc B S Z L R M1 = h1 ∧ zMk M M1) := by
  refine z_method g_X6_reach [some (zR 32), some (zI f), some (zI k), some (zI y), some (zI a), none, none, none] rfl rfl (fun V c => ?_)
  obtain ⟨hn, hT, -, hv, hno, hKs⟩ := id hB
  refine z_go c 3 (s1 := (5, [some (zR 32), some (zI f), some (zI k), some (zI y), some (zI a), none, none, none], [], (zw sc B S Z L R ((0, (mWays M), (mOne M), (mTwo M), (mPages M), (mOrders M)), ((mSort M), (mTold M), (mLast M), (mWithout M), (mIsIn M), (mNeeds M)), ((mPersons M), (mGaps M), (mWeight M), (mSeen M), (mFew M), (mBroken M)), ((mHolds M), (mMany M), (mOrder M), (mIsGood M), (mFar M)))), 0, 0)) rfl trivial ?_
  have hkM0 : zMk M ((0, (mWays M), (mOne M), (mTwo M), (mPages M), (mOrders M)), ((mSort M), (mTold M), (mLast M), (mWithout M), (mIsIn M), (mNeeds M)), ((mPersons M), (mGaps M), (mWeight M), (mSeen M), (mFew M), (mBroken M)), ((mHolds M), (mMany M), (mOrder M), (mIsGood M), (mFar M))) := ⟨rfl, rfl, rfl, rfl⟩
  generalize (((0, (mWays M), (mOne M), (mTwo M), (mPages M), (mOrders M)), ((mSort M), (mTold M), (mLast M), (mWithout M), (mIsIn M), (mNeeds M)), ((mPersons M), (mGaps M), (mWeight M), (mSeen M), (mFew M), (mBroken M)), ((mHolds M), (mMany M), (mOrder M), (mIsGood M), (mFar M))) : ZMd) = M0 at hkM0 ⊢
  have hM0 := zMr_k hM hkM0
  have hQ0 : mWithout M0 = -9 := hkM0.2.2.2.trans hQ
  have eN0 := hM0.1
  have eW0 := hM0.2.1
  have hab0 := zMk_ab hkM0
  have hR0 : zRv (mOne M0) (mTwo M0) nw := by rw [hab0.1, hab0.2]; exact hR
  refine z_cV c 6 k_6_189 zv_X6_noWalk (pc := 15) (ls := [some (zR 32), some (zI f), some (zI k), some (zI y), some (zI a), none, none, none]) (sk := []) (h := (zw sc B S Z L R M0)) (cs := 0) (ss := 0) (c_X6_noWalk l sc B S Z L R M0 T K n nw f f k y a hB hM0 hnw (by omega) (by omega) (by omega) (by omega) (by omega)) rfl trivial rfl rfl ⟨Nat.le_refl _, Nat.le_refl _⟩ ?_
  rintro _ _ ⟨rfl, rfl⟩
  have hzr := zrW_r n f f k y a
  show V (15, [some (zR 32), some (zI f), some (zI k), some (zI y), some (zI a), none, none, none], [zI ((zrW n f f k y a))], (zw sc B S Z L R M0), 0, 0)
  refine z_br c 2 ((zrW n f f k y a) = 0) (25, [some (zR 32), some (zI f), some (zI k), some (zI y), some (zI a), some (zI ((zrW n f f k y a))), none, none], [], (zw sc B S Z L R M0), 0, 0) (22, [some (zR 32), some (zI f), some (zI k), some (zI y), some (zI a), some (zI ((zrW n f f k y a))), none, none], [], (zw sc B S Z L R M0), 0, 0) rfl ⟨(show (-2147483648 : Int) ≤ (zrW n f f k y a) ∧ (zrW n f f k y a) ≤ 2147483647 by omega), trivial⟩ (fun h19 => ?_) (fun h19 => ?_)
  · obtain ⟨ht3, -, hf3, ha3, hk3, hy3⟩ := zrW_0 (by assumption)
    refine z_cV c 5 k_6_192 zv_X6_spread (pc := 34) (ls := [some (zR 32), some (zI f), some (zI k), some (zI y), some (zI a), some (zI ((zrW n f f k y a))), none, none]) (sk := []) (h := (zw sc B S Z L R M0)) (cs := 0) (ss := 0) (c_X6_spread l sc B S Z L R M0 T K n nw f k y a hB hM0 hQ0 hnw hR0 ha3 (by omega) hk3 hy3) rfl trivial rfl rfl ⟨Nat.le_refl _, Nat.le_refl _⟩ ?_
    rintro _ _ ⟨rfl, MS, rfl, hk9, hLS, hfar⟩
    have hkMS := zMk_trans hkM0 hk9
    have hl := zlast_rng (n := n) (a := a) hn.1 ha3
    rw [hab0.1, hab0.2] at hfar
    have eWS := hLS.1.2.1
    have habS := zMk_ab hkMS
    show V (34, [some (zR 32), some (zI f), some (zI k), some (zI y), some (zI a), some (zI ((zrW n f f k y a))), none, none], [], (zw sc B S Z L R MS), 0, 0)
    refine z_go c 4 (s1 := (40, [some (zR 32), some (zI f), some (zI k), some (zI y), some (zI a), some (zI ((zrW n f f k y a))), some (zI 0), some (zI 0)], [], (zw sc B S Z L R MS), 0, 0)) rfl trivial ?_
    have loop : ∀ (x m : Nat) (b : Int), 10 - m < x → m ≤ 10 → b = zcj (fun p => (zDf (zOp T K n (zlast n a) k y) (mOne M) (mTwo M) nw.toNat f p)) m → V (40, [some (zR 32), some (zI f), some (zI k), some (zI y), some (zI a), some (zI ((zrW n f f k y a))), some (zI b), some (zI ((m : Int)))], [], (zw sc B S Z L R MS), 0, 0) := by
      intro x
      induction x with
      | zero => intro m b h1 h2; exfalso; omega
      | succ x ih =>
        intro m b hm1 hm2 hb
        refine z_br c 2 (10 ≤ (m : Int)) (75, [some (zR 32), some (zI f), some (zI k), some (zI y), some (zI a), some (zI ((zrW n f f k y a))), some (zI b), some (zI ((m : Int)))], [], (zw sc B S Z L R MS), 0, 0) (47, [some (zR 32), some (zI f), some (zI k), some (zI y), some (zI a), some (zI ((zrW n f f k y a))), some (zI b), some (zI ((m : Int)))], [], (zw sc B S Z L R MS), 0, 0) rfl ⟨(show ((-2147483648 : Int) ≤ (m : Int) ∧ (m : Int) ≤ 2147483647) ∧ (-2147483648 : Int) ≤ 10 ∧ 10 ≤ 2147483647 by omega), trivial⟩ (fun h44 => ?_) (fun h44 => ?_)
        · exact z_re c 1 (v := some (zI b)) (h := (zw sc B S Z L R MS)) (cs := 0) (ss := 0) rfl trivial trivial ⟨Nat.le_refl _, Nat.le_refl _⟩ ⟨MS, by obtain rfl : m = 10 := (by omega); have h9 := zrW_s (n := n) (f := f) (k := k) (y := y) (a := a); rw [if_pos (by omega), hb], rfl, hkMS⟩
        · have hfm := hfar (m : Int) (by omega) (by omega)
          have hfv := zDf_v (op := (zOp T K n (zlast n a) k y)) (s := f) (p := (m : Int)) hR (by omega)
          refine z_br c 6 (¬ ((mFar MS) ((m : Int))) = (-9)) (65, [some (zR 32), some (zI f), some (zI k), some (zI y), some (zI a), some (zI ((zrW n f f k y a))), some (zI b), some (zI ((m : Int)))], [zI b], (zw sc B S Z L R MS), 0, 0) (61, [some (zR 32), some (zI f), some (zI k), some (zI y), some (zI a), some (zI ((zrW n f f k y a))), some (zI b), some (zI ((m : Int)))], [zI b], (zw sc B S Z L R MS), 0, 0) rfl ⟨(show ((-2147483648 : Int) ≤ ((mFar MS) ((m : Int))) ∧ ((mFar MS) ((m : Int))) ≤ 2147483647) ∧ (-2147483648 : Int) ≤ (-9) ∧ (-9) ≤ 2147483647 by omega), (show (0 : Int) ≤ (m : Int) ∧ (m : Int) < 10 by omega), trivial⟩ (fun h58 => ?_) (fun h58 => ?_)
          · refine z_go c 3 (s1 := (69, [some (zR 32), some (zI f), some (zI k), some (zI y), some (zI a), some (zI ((zrW n f f k y a))), some (zI ((b + 1))), some (zI ((m : Int)))], [], (zw sc B S Z L R MS), 0, 0)) rfl trivial ?_
            exact z_go c 2 (s1 := (40, [some (zR 32), some (zI f), some (zI k), some (zI y), some (zI a), some (zI ((zrW n f f k y a))), some (zI ((b + 1))), some (zI (((m : Int) + 1)))], [], (zw sc B S Z L R MS), 0, 0)) rfl trivial (ih (m + 1) _ (by omega) (by omega) (by rw [hb]; exact congrArg (fun z => zcj (fun p => (zDf (zOp T K n (zlast n a) k y) (mOne M) (mTwo M) nw.toNat f p)) m + z) (if_neg (show ¬ (zDf (zOp T K n (zlast n a) k y) (mOne M) (mTwo M) nw.toNat f (m : Int)) = -9 by omega)).symm))
          · refine z_go c 4 (s1 := (69, [some (zR 32), some (zI f), some (zI k), some (zI y), some (zI a), some (zI ((zrW n f f k y a))), some (zI ((b + 0))), some (zI ((m : Int)))], [], (zw sc B S Z L R MS), 0, 0)) rfl trivial ?_
            exact z_go c 2 (s1 := (40, [some (zR 32), some (zI f), some (zI k), some (zI y), some (zI a), some (zI ((zrW n f f k y a))), some (zI ((b + 0))), some (zI (((m : Int) + 1)))], [], (zw sc B S Z L R MS), 0, 0)) rfl trivial (ih (m + 1) _ (by omega) (by omega) (by rw [hb]; exact congrArg (fun z => zcj (fun p => (zDf (zOp T K n (zlast n a) k y) (mOne M) (mTwo M) nw.toNat f p)) m + z) (if_pos (show (zDf (zOp T K n (zlast n a) k y) (mOne M) (mTwo M) nw.toNat f (m : Int)) = -9 by omega)).symm))
    exact loop 11 0 _ (by omega) (by omega) rfl
  · exact z_re c 1 (v := some (zI ((zrW n f f k y a)))) (h := (zw sc B S Z L R M0)) (cs := 0) (ss := 0) rfl trivial trivial ⟨Nat.le_refl _, Nat.le_refl _⟩ ⟨M0, by rw [zrW_s] at *; rw [if_neg (by assumption)], rfl, hkM0⟩
