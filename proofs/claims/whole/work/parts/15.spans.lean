/-! the library: fill, bitCount; the spans -/
def zff (f : Int → Int) (x k : Int) : Int → Int := fun j => if 0 ≤ j ∧ j < k then x else f j
theorem zff_0 (f : Int → Int) (x : Int) : zff f x 0 = f := by
  funext j
  simp only [zff]
  rw [if_neg (by omega)]
theorem zff_s {f : Int → Int} {x k : Int} (h : 0 ≤ k) : zup (zff f x k) k x = zff f x (k + 1) := by
  funext j
  simp only [zup, zff]
  by_cases e : j = k
  · rw [if_pos e, if_pos (by omega)]
  · rw [if_neg e]
    by_cases e2 : 0 ≤ j ∧ j < k
    · rw [if_pos e2, if_pos (by omega)]
    · rw [if_neg e2, if_neg (by omega)]
theorem znth_set {h : List ZB} {o : Nat} {b b2 : ZB} (e : znth h o = some b) : znth (h.set o b2) o = some b2 := by
  rw [znth_eq] at e ⊢
  obtain ⟨h1, -⟩ := List.getElem?_eq_some_iff.mp e
  rw [List.getElem?_set_self h1]
set_option maxRecDepth 4000 in
theorem c_fill (l : Launch) (h : List ZB) (o n : Nat) (f : Int → Int) (x : Int) (hb : znth h (o + 1) = some (zA n f)) (hn : n ≤ 100000) : zMet l m_J7_fill_53178 [zR (o + 1), zI x] h (zI0 (h.set (o + 1) (zA n (zff f x n)))) := by
  refine z_method g_J7_fill_53178 [some (zR (o + 1)), some (zI x), none, none] rfl rfl (fun V c => ?_)
  have hnb : Nat.ble n 100000 = true := Nat.ble_eq_true_of_le hn
  refine z_go c 3 (s1 := (3, [some (zR (o + 1)), some (zI x), some (zI 0), none], [zR (o + 1)], h, 0, 0)) rfl trivial ?_
  refine z_alen c hb rfl ?_
  refine z_go c 1 (s1 := (5, [some (zR (o + 1)), some (zI x), some (zI 0), some (zI n)], [], h, 0, 0)) rfl trivial ?_
  have loop : ∀ (k : Nat) (i : Int), (n : Int) - i < (k : Int) → 0 ≤ i → i ≤ (n : Int) → V (5, [some (zR (o + 1)), some (zI x), some (zI i), some (zI n)], [], h.set (o + 1) (zA n (zff f x i)), 0, 0) := by
    intro k
    induction k with
    | zero => intro i h1 h2 h3; exfalso; omega
    | succ k ih =>
      intro i hk hi0 hi
      refine z_br c 2 ((n : Int) ≤ i) (20, [some (zR (o + 1)), some (zI x), some (zI i), some (zI n)], [], h.set (o + 1) (zA n (zff f x i)), 0, 0) (10, [some (zR (o + 1)), some (zI x), some (zI i), some (zI n)], [], h.set (o + 1) (zA n (zff f x i)), 0, 0) rfl ⟨by omega, trivial⟩ (fun h7 => ?_) (fun h7 => ?_)
      · obtain rfl : i = (n : Int) := by omega
        exact z_re c 0 (v := none) (h := h.set (o + 1) (zA n (zff f x n))) (cs := 0) (ss := 0) rfl trivial trivial ⟨Nat.le_refl _, Nat.le_refl _⟩ ⟨rfl, rfl⟩
      · refine z_go c 3 (s1 := (13, [some (zR (o + 1)), some (zI x), some (zI i), some (zI n)], [zI x, zI i, zR (o + 1)], h.set (o + 1) (zA n (zff f x i)), 0, 0)) rfl trivial ?_
        refine z_iast c (znth_set hb) hnb (by omega) rfl ?_
        rw [List.set_set, zff_s hi0]
        exact z_go c 2 (s1 := (5, [some (zR (o + 1)), some (zI x), some (zI (i + 1)), some (zI n)], [], h.set (o + 1) (zA n (zff f x (i + 1))), 0, 0)) rfl trivial (ih (i + 1) (by omega) (by omega) (by omega))
  have h9 := loop (n + 1) 0 (by omega) (by decide) (by omega)
  rw [zff_0, zset_same hb] at h9
  exact h9
set_option maxRecDepth 4000 in
theorem c_bitCount (l : Launch) (h : List ZB) (n : Nat) (hn : n < 1048576) : zMet l m_J6_bitCount_0f7a4 [zI ((n : Int))] h (zI1 ((zpop 20 n : Nat) : Int) h) := by
  refine z_method g_J6_bitCount_0f7a4 [some (zI ((n : Int)))] rfl rfl (fun V c => ?_)
  have hz := zswar_ok hn
  have hz3 := hz.2.2.1
  refine z_go c 8 (s1 := (10, [some (zI (((n : Int) - (((((((n : Int)).toNat / 2 ^ (1 : Int).toNat : Nat) : Int)).toNat &&& (1431655765 : Int).toNat : Nat) : Int))))], [], h, 0, 0)) rfl ⟨(by omega), (show ((0 : Int) ≤ ((n / 2 : Nat) : Int) ∧ ((n / 2 : Nat) : Int) ≤ 2147483647) ∧ (0 : Int) ≤ 1431655765 ∧ (1431655765 : Int) ≤ 2147483647 by omega), trivial⟩ ?_
  obtain ⟨y, ey⟩ : ∃ y : Nat, y = n - ((n / 2) &&& 1431655765) := ⟨_, rfl⟩
  have hhy : ((n : Int) - (((((((n : Int)).toNat / 2 ^ (1 : Int).toNat : Nat) : Int)).toNat &&& (1431655765 : Int).toNat : Nat) : Int)) = (y : Int) := by
    show ((n : Int) - ((n / 2 &&& 1431655765 : Nat) : Int)) = _
    omega
  rw [hhy]
  have by1 : y < 1048576 := by rw [ey]; exact hz.2.2.2
  refine z_go c 10 (s1 := (24, [some (zI ((((((y : Int)).toNat &&& (858993459 : Int).toNat : Nat) : Int) + (((((((y : Int)).toNat / 2 ^ (2 : Int).toNat : Nat) : Int)).toNat &&& (858993459 : Int).toNat : Nat) : Int))))], [], h, 0, 0)) rfl ⟨(by omega), (by omega), (show ((0 : Int) ≤ ((y / 4 : Nat) : Int) ∧ ((y / 4 : Nat) : Int) ≤ 2147483647) ∧ (0 : Int) ≤ 858993459 ∧ (858993459 : Int) ≤ 2147483647 by omega), trivial⟩ ?_
  obtain ⟨z, ez⟩ : ∃ z : Nat, z = (y &&& 858993459) + ((y / 4) &&& 858993459) := ⟨_, rfl⟩
  have hhz : (((((y : Int)).toNat &&& (858993459 : Int).toNat : Nat) : Int) + (((((((y : Int)).toNat / 2 ^ (2 : Int).toNat : Nat) : Int)).toNat &&& (858993459 : Int).toNat : Nat) : Int)) = (z : Int) := by
    show (((y &&& 858993459 : Nat) : Int) + ((y / 4 &&& 858993459 : Nat) : Int)) = _
    omega
  rw [hhz]
  have bz1 : z ≤ y + y / 4 := by
    rw [ez]
    have g1 := Nat.and_le_left (n := y) (m := 858993459)
    have g2 := Nat.and_le_left (n := y / 4) (m := 858993459)
    omega
  refine z_go c 8 (s1 := (34, [some (zI ((((((z : Int) + ((((z : Int)).toNat / 2 ^ (4 : Int).toNat : Nat) : Int))).toNat &&& (252645135 : Int).toNat : Nat) : Int)))], [], h, 0, 0)) rfl ⟨(by omega), (show ((0 : Int) ≤ (z : Int) + ((z / 16 : Nat) : Int) ∧ (z : Int) + ((z / 16 : Nat) : Int) ≤ 2147483647) ∧ (0 : Int) ≤ 252645135 ∧ (252645135 : Int) ≤ 2147483647 by omega), trivial⟩ ?_
  obtain ⟨w, ew⟩ : ∃ w : Nat, w = (z + z / 16) &&& 252645135 := ⟨_, rfl⟩
  have hhw : (((((z : Int) + ((((z : Int)).toNat / 2 ^ (4 : Int).toNat : Nat) : Int))).toNat &&& (252645135 : Int).toNat : Nat) : Int) = (w : Int) := by
    have e9 : ((z : Int) + ((z / 16 : Nat) : Int)).toNat = z + z / 16 := by omega
    show ((((z : Int) + ((z / 16 : Nat) : Int)).toNat &&& 252645135 : Nat) : Int) = _
    rw [e9, ew]
  rw [hhw]
  have bw1 : w ≤ z + z / 16 := by rw [ew]; exact Nat.and_le_left
  refine z_go c 6 (s1 := (41, [some (zI (((w : Int) + ((((w : Int)).toNat / 2 ^ (8 : Int).toNat : Nat) : Int))))], [], h, 0, 0)) rfl ⟨(by omega), trivial⟩ ?_
  obtain ⟨v, ev⟩ : ∃ v : Nat, v = w + w / 256 := ⟨_, rfl⟩
  have hhv : ((w : Int) + ((((w : Int)).toNat / 2 ^ (8 : Int).toNat : Nat) : Int)) = (v : Int) := by
    show ((w : Int) + ((w / 256 : Nat) : Int)) = _
    omega
  rw [hhv]
  have bv1 : v ≤ w + w := by omega
  refine z_go c 6 (s1 := (48, [some (zI (((v : Int) + ((((v : Int)).toNat / 2 ^ (16 : Int).toNat : Nat) : Int))))], [], h, 0, 0)) rfl ⟨(by omega), trivial⟩ ?_
  obtain ⟨u, eu⟩ : ∃ u : Nat, u = v + v / 65536 := ⟨_, rfl⟩
  have hhu : ((v : Int) + ((((v : Int)).toNat / 2 ^ (16 : Int).toNat : Nat) : Int)) = (u : Int) := by
    show ((v : Int) + ((v / 65536 : Nat) : Int)) = _
    omega
  rw [hhu]
  have bu1 : u ≤ v + v := by omega
  exact z_re c 3 (v := some (zI (((u : Int) % 64)))) (h := h) (cs := 0) (ss := 0) rfl ⟨(by omega), trivial⟩ trivial ⟨Nat.le_refl _, Nat.le_refl _⟩ ⟨by
      have e9 : zswar n = u % 64 := by
        rw [eu, ev, ew, ez, ey]
        rfl
      rw [← hz.1, e9]
      rfl, rfl⟩
/-- the spans' own numbers are small -/
def zsr (P : ZSp) : Prop := (1 ≤ pN P ∧ pN P ≤ 40) ∧ (1 ≤ pP P ∧ pP P ≤ 4) ∧ (0 ≤ pG P ∧ pG P ≤ 5)
def zfi (L : Int → Int) (N k e : Int) : Int := if e - N + 1 < 0 then -9 else L (k * 101 + e) - (if e - N + 1 = 0 then 0 else L (k * 101 + (e - N + 1) - 1))
set_option maxRecDepth 4000 in
theorem c_X4_beginOf (l : Launch) (sc : ZSc) (B : ZBk) (S Z : ZSg) (L : ZLn) (R : ZRd) (M : ZMd) (e : Int) : zMet l m_X4_beginOf [zR 6, zI e] (zw sc B S Z L R M) (zI1 (e - pN (sP S) + 1) (zw sc B S Z L R M)) := by
  refine z_method g_X4_beginOf [some (zR 6), some (zI e)] rfl rfl (fun V c => ?_)
  exact z_re c 6 (v := some (zI (((e - (pN ((sP S)))) + 1)))) (h := (zw sc B S Z L R M)) (cs := 0) (ss := 0) rfl trivial trivial ⟨Nat.le_refl _, Nat.le_refl _⟩ ⟨rfl, rfl⟩
set_option maxRecDepth 4000 in
theorem c_X4_rule (l : Launch) (sc : ZSc) (B : ZBk) (S Z : ZSg) (L : ZLn) (R : ZRd) (M : ZMd) (n q g : Int) : zMet l m_X4_rule [zR 6, zI n, zI q, zI g] (zw sc B S Z L R M) (zI0 (zw sc B (((pW ((sP S))), (pL ((sP S))), (pE ((sP S))), (pR ((sP S))), (pB ((sP S))), n, q, g), (sW S), (sO S), (sG S), (sOc S), (sGc S), (sWn S), (sWay S), (sLast S), (sWo S)) Z L R M)) := by
  refine z_method g_X4_rule [some (zR 6), some (zI n), some (zI q), some (zI g)] rfl rfl (fun V c => ?_)
  exact z_re c 9 (v := none) (h := (zw sc B (((pW ((sP S))), (pL ((sP S))), (pE ((sP S))), (pR ((sP S))), (pB ((sP S))), n, q, g), (sW S), (sO S), (sG S), (sOc S), (sGc S), (sWn S), (sWay S), (sLast S), (sWo S)) Z L R M)) (cs := 0) (ss := 0) rfl trivial trivial ⟨Nat.le_refl _, Nat.le_refl _⟩ ⟨rfl, rfl⟩
set_option maxRecDepth 4000 in
theorem c_X4_addBreak (l : Launch) (sc : ZSc) (B : ZBk) (S Z : ZSg) (L : ZLn) (R : ZRd) (M : ZMd) (y : Int) (hy : 0 ≤ y ∧ y ≤ 100) : zMet l m_X4_addBreak [zR 6, zI y] (zw sc B S Z L R M) (zI0 (zw sc B (((pW ((sP S))), (pL ((sP S))), (pE ((sP S))), (pR ((sP S))), (zup (pB (sP S)) y 1), (pN ((sP S))), (pP ((sP S))), (pG ((sP S)))), (sW S), (sO S), (sG S), (sOc S), (sGc S), (sWn S), (sWay S), (sLast S), (sWo S)) Z L R M)) := by
  refine z_method g_X4_addBreak [some (zR 6), some (zI y)] rfl rfl (fun V c => ?_)
  refine z_cS c 4 k_4_43 zv_X5_put (pc := 9) (ls := [some (zR 6), some (zI y)]) (sk := []) (h := (zw sc B S Z L R M)) (cs := 0) (ss := 0) (c_X5_put l (zw sc B S Z L R M) 10 101 (pB ((sP S))) y 1 rfl (by decide) (by omega)) rfl trivial rfl ⟨Nat.le_refl _, Nat.le_refl _⟩ ?_
  rintro _ _ ⟨rfl, rfl⟩
  show V (9, [some (zR 6), some (zI y)], [], (zw sc B (((pW ((sP S))), (pL ((sP S))), (pE ((sP S))), (pR ((sP S))), (zpt 101 (pB ((sP S))) y 1), (pN ((sP S))), (pP ((sP S))), (pG ((sP S)))), (sW S), (sO S), (sG S), (sOc S), (sGc S), (sWn S), (sWay S), (sLast S), (sWo S)) Z L R M), 0, 0)
  exact z_re c 0 (v := none) (h := (zw sc B (((pW ((sP S))), (pL ((sP S))), (pE ((sP S))), (pR ((sP S))), (zpt 101 (pB ((sP S))) y 1), (pN ((sP S))), (pP ((sP S))), (pG ((sP S)))), (sW S), (sO S), (sG S), (sOc S), (sGc S), (sWn S), (sWay S), (sLast S), (sWo S)) Z L R M)) (cs := 0) (ss := 0) rfl trivial trivial ⟨Nat.le_refl _, Nat.le_refl _⟩ ⟨rfl, by rw [zpt_in (by omega)]⟩
set_option maxRecDepth 4000 in
theorem c_X4_latestEnd (l : Launch) (sc : ZSc) (B : ZBk) (S Z : ZSg) (L : ZLn) (R : ZRd) (M : ZMd) (k y : Int) (hk : 0 ≤ k ∧ k ≤ 2) (hy : 0 ≤ y ∧ y ≤ 100) : zMet l m_X4_latestEnd [zR 6, zI k, zI y] (zw sc B S Z L R M) (zI1 (pE (sP S) (k * 101 + y)) (zw sc B S Z L R M)) := by
  refine z_method g_X4_latestEnd [some (zR 6), some (zI k), some (zI y)] rfl rfl (fun V c => ?_)
  refine z_cS c 7 k_4_53 zv_X5_at (pc := 13) (ls := [some (zR 6), some (zI k), some (zI y)]) (sk := []) (h := (zw sc B S Z L R M)) (cs := 0) (ss := 0) (c_X5_at l (zw sc B S Z L R M) 9 303 (pE ((sP S))) (((k * 101) + y)) rfl (by decide) (by omega)) rfl trivial rfl ⟨Nat.le_refl _, Nat.le_refl _⟩ ?_
  rintro _ _ ⟨rfl, rfl⟩
  show V (13, [some (zR 6), some (zI k), some (zI y)], [zI ((zat 303 (pE ((sP S))) (((k * 101) + y))))], (zw sc B S Z L R M), 0, 0)
  exact z_re c 0 (v := some (zI ((zat 303 (pE ((sP S))) (((k * 101) + y)))))) (h := (zw sc B S Z L R M)) (cs := 0) (ss := 0) rfl trivial trivial ⟨Nat.le_refl _, Nat.le_refl _⟩ ⟨by rw [zat_in (by omega)], rfl⟩
set_option maxRecDepth 4000 in
theorem c_X4_fewIn (l : Launch) (sc : ZSc) (B : ZBk) (S Z : ZSg) (L : ZLn) (R : ZRd) (M : ZMd) (k y : Int) (hk : 0 ≤ k ∧ k ≤ 2) (hy : 0 ≤ y ∧ y ≤ 100) (hN : 1 ≤ pN (sP S) ∧ pN (sP S) ≤ 40) : zMet l m_X4_fewIn [zR 6, zI k, zI y] (zw sc B S Z L R M) (zI1 (zfi (pL (sP S)) (pN (sP S)) k y) (zw sc B S Z L R M)) := by
  refine z_method g_X4_fewIn [some (zR 6), some (zI k), some (zI y), none, none] rfl rfl (fun V c => ?_)
  refine z_cV c 2 k_4_61 zv_X4_beginOf (pc := 5) (ls := [some (zR 6), some (zI k), some (zI y), none, none]) (sk := []) (h := (zw sc B S Z L R M)) (cs := 0) (ss := 0) (c_X4_beginOf l sc B S Z L R M y) rfl trivial rfl rfl ⟨Nat.le_refl _, Nat.le_refl _⟩ ?_
  rintro _ _ ⟨rfl, rfl⟩
  show V (5, [some (zR 6), some (zI k), some (zI y), none, none], [zI ((y - (pN ((sP S))) + 1))], (zw sc B S Z L R M), 0, 0)
  refine z_br c 2 (0 ≤ (y - (pN ((sP S))) + 1)) (13, [some (zR 6), some (zI k), some (zI y), some (zI ((y - (pN ((sP S))) + 1))), none], [], (zw sc B S Z L R M), 0, 0) (10, [some (zR 6), some (zI k), some (zI y), some (zI ((y - (pN ((sP S))) + 1))), none], [], (zw sc B S Z L R M), 0, 0) rfl ⟨(show (-2147483648 : Int) ≤ (y - (pN ((sP S))) + 1) ∧ (y - (pN ((sP S))) + 1) ≤ 2147483647 by omega), trivial⟩ (fun h7 => ?_) (fun h7 => ?_)
  · refine z_br c 1 (¬ (y - (pN ((sP S))) + 1) = 0) (21, [some (zR 6), some (zI k), some (zI y), some (zI ((y - (pN ((sP S))) + 1))), none], [], (zw sc B S Z L R M), 0, 0) (17, [some (zR 6), some (zI k), some (zI y), some (zI ((y - (pN ((sP S))) + 1))), none], [], (zw sc B S Z L R M), 0, 0) rfl ⟨(show (-2147483648 : Int) ≤ (y - (pN ((sP S))) + 1) ∧ (y - (pN ((sP S))) + 1) ≤ 2147483647 by omega), trivial⟩ (fun h14 => ?_) (fun h14 => ?_)
    · refine z_cS c 9 k_4_53 zv_X5_at (pc := 36) (ls := [some (zR 6), some (zI k), some (zI y), some (zI ((y - (pN ((sP S))) + 1))), none]) (sk := []) (h := (zw sc B S Z L R M)) (cs := 0) (ss := 0) (c_X5_at l (zw sc B S Z L R M) 8 303 (pL ((sP S))) ((((k * 101) + (y - (pN ((sP S))) + 1)) - 1)) rfl (by decide) (by omega)) rfl trivial rfl ⟨Nat.le_refl _, Nat.le_refl _⟩ ?_
      rintro _ _ ⟨rfl, rfl⟩
      show V (36, [some (zR 6), some (zI k), some (zI y), some (zI ((y - (pN ((sP S))) + 1))), none], [zI ((zat 303 (pL ((sP S))) ((((k * 101) + (y - (pN ((sP S))) + 1)) - 1))))], (zw sc B S Z L R M), 0, 0)
      refine z_cS c 8 k_4_53 zv_X5_at (pc := 51) (ls := [some (zR 6), some (zI k), some (zI y), some (zI ((y - (pN ((sP S))) + 1))), some (zI ((zat 303 (pL ((sP S))) ((((k * 101) + (y - (pN ((sP S))) + 1)) - 1)))))]) (sk := []) (h := (zw sc B S Z L R M)) (cs := 0) (ss := 0) (c_X5_at l (zw sc B S Z L R M) 8 303 (pL ((sP S))) (((k * 101) + y)) rfl (by decide) (by omega)) rfl trivial rfl ⟨Nat.le_refl _, Nat.le_refl _⟩ ?_
      rintro _ _ ⟨rfl, rfl⟩
      show V (51, [some (zR 6), some (zI k), some (zI y), some (zI ((y - (pN ((sP S))) + 1))), some (zI ((zat 303 (pL ((sP S))) ((((k * 101) + (y - (pN ((sP S))) + 1)) - 1)))))], [zI ((zat 303 (pL ((sP S))) (((k * 101) + y))))], (zw sc B S Z L R M), 0, 0)
      exact z_re c 2 (v := some (zI (((zat 303 (pL ((sP S))) (((k * 101) + y))) - (zat 303 (pL ((sP S))) ((((k * 101) + (y - (pN ((sP S))) + 1)) - 1))))))) (h := (zw sc B S Z L R M)) (cs := 0) (ss := 0) rfl trivial trivial ⟨Nat.le_refl _, Nat.le_refl _⟩ ⟨by rw [zat_in (by omega), zat_in (by omega)]; unfold zfi; rw [if_neg (by omega), if_neg (by omega)], rfl⟩
    · refine z_cS c 10 k_4_53 zv_X5_at (pc := 51) (ls := [some (zR 6), some (zI k), some (zI y), some (zI ((y - (pN ((sP S))) + 1))), some (zI 0)]) (sk := []) (h := (zw sc B S Z L R M)) (cs := 0) (ss := 0) (c_X5_at l (zw sc B S Z L R M) 8 303 (pL ((sP S))) (((k * 101) + y)) rfl (by decide) (by omega)) rfl trivial rfl ⟨Nat.le_refl _, Nat.le_refl _⟩ ?_
      rintro _ _ ⟨rfl, rfl⟩
      show V (51, [some (zR 6), some (zI k), some (zI y), some (zI ((y - (pN ((sP S))) + 1))), some (zI 0)], [zI ((zat 303 (pL ((sP S))) (((k * 101) + y))))], (zw sc B S Z L R M), 0, 0)
      exact z_re c 2 (v := some (zI (((zat 303 (pL ((sP S))) (((k * 101) + y))) - 0)))) (h := (zw sc B S Z L R M)) (cs := 0) (ss := 0) rfl trivial trivial ⟨Nat.le_refl _, Nat.le_refl _⟩ ⟨by rw [zat_in (by omega)]; unfold zfi; rw [if_neg (by omega), if_pos (by omega)], rfl⟩
  · exact z_re c 1 (v := some (zI ((-9)))) (h := (zw sc B S Z L R M)) (cs := 0) (ss := 0) rfl trivial trivial ⟨Nat.le_refl _, Nat.le_refl _⟩ ⟨by unfold zfi; rw [if_pos (by omega)], rfl⟩
set_option maxRecDepth 4000 in
theorem c_X4_clear (l : Launch) (sc : ZSc) (B : ZBk) (S Z : ZSg) (L : ZLn) (R : ZRd) (M : ZMd) : zMet l m_X4_clear [zR 6] (zw sc B S Z L R M) (zI0 (zw sc B (((zff (pW (sP S)) 0 303), (pL ((sP S))), (pE ((sP S))), (zff (pR (sP S)) 0 3), (zff (pB (sP S)) 0 101), (pN ((sP S))), (pP ((sP S))), (pG ((sP S)))), (sW S), (sO S), (sG S), (sOc S), (sGc S), (sWn S), (sWay S), (sLast S), (sWo S)) Z L R M)) := by
  refine z_method g_X4_clear [some (zR 6)] rfl rfl (fun V c => ?_)
  refine z_cS c 3 k_4_37 zv_J7_fill_53178 (pc := 8) (ls := [some (zR 6)]) (sk := []) (h := (zw sc B S Z L R M)) (cs := 0) (ss := 0) (c_fill l (zw sc B S Z L R M) 6 303 (pW ((sP S))) 0 rfl (by decide)) rfl trivial rfl ⟨Nat.le_refl _, Nat.le_refl _⟩ ?_
  rintro _ _ ⟨rfl, rfl⟩
  show V (8, [some (zR 6)], [], (zw sc B (((zff (pW ((sP S))) 0 303), (pL ((sP S))), (pE ((sP S))), (pR ((sP S))), (pB ((sP S))), (pN ((sP S))), (pP ((sP S))), (pG ((sP S)))), (sW S), (sO S), (sG S), (sOc S), (sGc S), (sWn S), (sWay S), (sLast S), (sWo S)) Z L R M), 0, 0)
  refine z_cS c 3 k_4_37 zv_J7_fill_53178 (pc := 16) (ls := [some (zR 6)]) (sk := []) (h := (zw sc B (((zff (pW ((sP S))) 0 303), (pL ((sP S))), (pE ((sP S))), (pR ((sP S))), (pB ((sP S))), (pN ((sP S))), (pP ((sP S))), (pG ((sP S)))), (sW S), (sO S), (sG S), (sOc S), (sGc S), (sWn S), (sWay S), (sLast S), (sWo S)) Z L R M)) (cs := 0) (ss := 0) (c_fill l (zw sc B (((zff (pW ((sP S))) 0 303), (pL ((sP S))), (pE ((sP S))), (pR ((sP S))), (pB ((sP S))), (pN ((sP S))), (pP ((sP S))), (pG ((sP S)))), (sW S), (sO S), (sG S), (sOc S), (sGc S), (sWn S), (sWay S), (sLast S), (sWo S)) Z L R M) 9 3 (pR ((sP S))) 0 rfl (by decide)) rfl trivial rfl ⟨Nat.le_refl _, Nat.le_refl _⟩ ?_
  rintro _ _ ⟨rfl, rfl⟩
  show V (16, [some (zR 6)], [], (zw sc B (((zff (pW ((sP S))) 0 303), (pL ((sP S))), (pE ((sP S))), (zff (pR ((sP S))) 0 3), (pB ((sP S))), (pN ((sP S))), (pP ((sP S))), (pG ((sP S)))), (sW S), (sO S), (sG S), (sOc S), (sGc S), (sWn S), (sWay S), (sLast S), (sWo S)) Z L R M), 0, 0)
  refine z_cS c 3 k_4_37 zv_J7_fill_53178 (pc := 24) (ls := [some (zR 6)]) (sk := []) (h := (zw sc B (((zff (pW ((sP S))) 0 303), (pL ((sP S))), (pE ((sP S))), (zff (pR ((sP S))) 0 3), (pB ((sP S))), (pN ((sP S))), (pP ((sP S))), (pG ((sP S)))), (sW S), (sO S), (sG S), (sOc S), (sGc S), (sWn S), (sWay S), (sLast S), (sWo S)) Z L R M)) (cs := 0) (ss := 0) (c_fill l (zw sc B (((zff (pW ((sP S))) 0 303), (pL ((sP S))), (pE ((sP S))), (zff (pR ((sP S))) 0 3), (pB ((sP S))), (pN ((sP S))), (pP ((sP S))), (pG ((sP S)))), (sW S), (sO S), (sG S), (sOc S), (sGc S), (sWn S), (sWay S), (sLast S), (sWo S)) Z L R M) 10 101 (pB ((sP S))) 0 rfl (by decide)) rfl trivial rfl ⟨Nat.le_refl _, Nat.le_refl _⟩ ?_
  rintro _ _ ⟨rfl, rfl⟩
  show V (24, [some (zR 6)], [], (zw sc B (((zff (pW ((sP S))) 0 303), (pL ((sP S))), (pE ((sP S))), (zff (pR ((sP S))) 0 3), (zff (pB ((sP S))) 0 101), (pN ((sP S))), (pP ((sP S))), (pG ((sP S)))), (sW S), (sO S), (sG S), (sOc S), (sGc S), (sWn S), (sWay S), (sLast S), (sWo S)) Z L R M), 0, 0)
  exact z_re c 0 (v := none) (h := (zw sc B (((zff (pW ((sP S))) 0 303), (pL ((sP S))), (pE ((sP S))), (zff (pR ((sP S))) 0 3), (zff (pB ((sP S))) 0 101), (pN ((sP S))), (pP ((sP S))), (pG ((sP S)))), (sW S), (sO S), (sG S), (sOc S), (sGc S), (sWn S), (sWay S), (sLast S), (sWo S)) Z L R M)) (cs := 0) (ss := 0) rfl trivial trivial ⟨Nat.le_refl _, Nat.le_refl _⟩ ⟨rfl, rfl⟩
def zaw (W : Int → Int) (a b i : Int) : Int → Int := fun j => if a ≤ j ∧ j < i then (((W j).toNat ||| b.toNat : Nat) : Int) else W j
theorem zaw_0 (W : Int → Int) (a b : Int) : zaw W a b a = W := by
  funext j
  simp only [zaw]
  rw [if_neg (by omega)]
theorem zaw_at (W : Int → Int) (a b i : Int) : zaw W a b i i = W i := by
  simp only [zaw]
  rw [if_neg (by omega)]
theorem zaw_s {W : Int → Int} {a b i : Int} (h : a ≤ i) : zup (zaw W a b i) i (((zaw W a b i i).toNat ||| b.toNat : Nat) : Int) = zaw W a b (i + 1) := by
  rw [zaw_at]
  funext j
  simp only [zup, zaw]
  by_cases e : j = i
  · rw [if_pos e, if_pos (by omega), e]
  · rw [if_neg e]
    by_cases e2 : a ≤ j ∧ j < i
    · rw [if_pos e2, if_pos (by omega)]
    · rw [if_neg e2, if_neg (by omega)]
/-- the rows of who went hold 20 bits -/
def zwr (W : Int → Int) : Prop := ∀ j, 0 ≤ j → j < 303 → 0 ≤ W j ∧ W j < 1048576
set_option maxRecDepth 4000 in
theorem c_X4_addWalk (l : Launch) (sc : ZSc) (B : ZBk) (S Z : ZSg) (L : ZLn) (R : ZRd) (M : ZMd) (w k f t : Int) (hw : 0 ≤ w ∧ w ≤ 19) (hk : 0 ≤ k ∧ k ≤ 2) (hf : 0 ≤ f ∧ f ≤ t ∧ t ≤ 100) (hW : zwr (pW (sP S))) : zMet l m_X4_addWalk [zR 6, zI w, zI k, zI f, zI t] (zw sc B S Z L R M) (zI0 (zw sc B (((zaw (pW (sP S)) (k * 101 + f) ((2 ^ w.toNat : Nat) : Int) (k * 101 + t + 1)), (pL ((sP S))), (pE ((sP S))), (pR ((sP S))), (pB ((sP S))), (pN ((sP S))), (pP ((sP S))), (pG ((sP S)))), (sW S), (sO S), (sG S), (sOc S), (sGc S), (sWn S), (sWay S), (sLast S), (sWo S)) Z L R M)) := by
  refine z_method g_X4_addWalk [some (zR 6), some (zI w), some (zI k), some (zI f), some (zI t), none, none, none] rfl rfl (fun V c => ?_)
  have hb : (2 ^ w.toNat : Nat) < 1048576 := Nat.lt_of_lt_of_le (Nat.pow_lt_pow_right (a := 2) (by decide) (show w.toNat < 20 by omega)) (by decide)
  have hb0 : (0 : Int) ≤ ((2 ^ w.toNat : Nat) : Int) := Int.natCast_nonneg _
  refine z_go c 16 (s1 := (22, [some (zR 6), some (zI w), some (zI k), some (zI f), some (zI t), some (zI (((2 ^ w.toNat : Nat) : Int))), some (zI (((k * 101) + f))), some (zI (((k * 101) + t)))], [], (zw sc B S Z L R M), 0, 0)) rfl ⟨(by omega), trivial⟩ ?_
  have loop : ∀ (q : Nat) (i : Int), k * 101 + t + 1 - i < (q : Int) → k * 101 + f ≤ i → i ≤ k * 101 + t + 1 → V (22, [some (zR 6), some (zI w), some (zI k), some (zI f), some (zI t), some (zI (((2 ^ w.toNat : Nat) : Int))), some (zI i), some (zI (((k * 101) + t)))], [], (zw sc B (((zaw (pW (sP S)) (k * 101 + f) ((2 ^ w.toNat : Nat) : Int) i), (pL ((sP S))), (pE ((sP S))), (pR ((sP S))), (pB ((sP S))), (pN ((sP S))), (pP ((sP S))), (pG ((sP S)))), (sW S), (sO S), (sG S), (sOc S), (sGc S), (sWn S), (sWay S), (sLast S), (sWo S)) Z L R M), 0, 0) := by
    intro q
    induction q with
    | zero => intro i h1 h2 h3; exfalso; omega
    | succ q ih =>
      intro i hik hi0 hi1
      refine z_br c 1 (i < 0) (62, [some (zR 6), some (zI w), some (zI k), some (zI f), some (zI t), some (zI (((2 ^ w.toNat : Nat) : Int))), some (zI i), some (zI (((k * 101) + t)))], [], (zw sc B (((zaw (pW (sP S)) (k * 101 + f) ((2 ^ w.toNat : Nat) : Int) i), (pL ((sP S))), (pE ((sP S))), (pR ((sP S))), (pB ((sP S))), (pN ((sP S))), (pP ((sP S))), (pG ((sP S)))), (sW S), (sO S), (sG S), (sOc S), (sGc S), (sWn S), (sWay S), (sLast S), (sWo S)) Z L R M), 0, 0) (27, [some (zR 6), some (zI w), some (zI k), some (zI f), some (zI t), some (zI (((2 ^ w.toNat : Nat) : Int))), some (zI i), some (zI (((k * 101) + t)))], [], (zw sc B (((zaw (pW (sP S)) (k * 101 + f) ((2 ^ w.toNat : Nat) : Int) i), (pL ((sP S))), (pE ((sP S))), (pR ((sP S))), (pB ((sP S))), (pN ((sP S))), (pP ((sP S))), (pG ((sP S)))), (sW S), (sO S), (sG S), (sOc S), (sGc S), (sWn S), (sWay S), (sLast S), (sWo S)) Z L R M), 0, 0) rfl ⟨(show (-2147483648 : Int) ≤ i ∧ i ≤ 2147483647 by omega), trivial⟩ (fun h24 => by exfalso; omega) (fun h24 => ?_)
      refine z_br c 2 (((k * 101) + t) < i) (62, [some (zR 6), some (zI w), some (zI k), some (zI f), some (zI t), some (zI (((2 ^ w.toNat : Nat) : Int))), some (zI i), some (zI (((k * 101) + t)))], [], (zw sc B (((zaw (pW (sP S)) (k * 101 + f) ((2 ^ w.toNat : Nat) : Int) i), (pL ((sP S))), (pE ((sP S))), (pR ((sP S))), (pB ((sP S))), (pN ((sP S))), (pP ((sP S))), (pG ((sP S)))), (sW S), (sO S), (sG S), (sOc S), (sGc S), (sWn S), (sWay S), (sLast S), (sWo S)) Z L R M), 0, 0) (34, [some (zR 6), some (zI w), some (zI k), some (zI f), some (zI t), some (zI (((2 ^ w.toNat : Nat) : Int))), some (zI i), some (zI (((k * 101) + t)))], [], (zw sc B (((zaw (pW (sP S)) (k * 101 + f) ((2 ^ w.toNat : Nat) : Int) i), (pL ((sP S))), (pE ((sP S))), (pR ((sP S))), (pB ((sP S))), (pN ((sP S))), (pP ((sP S))), (pG ((sP S)))), (sW S), (sO S), (sG S), (sOc S), (sGc S), (sWn S), (sWay S), (sLast S), (sWo S)) Z L R M), 0, 0) rfl ⟨(show ((-2147483648 : Int) ≤ i ∧ i ≤ 2147483647) ∧ (-2147483648 : Int) ≤ ((k * 101) + t) ∧ ((k * 101) + t) ≤ 2147483647 by omega), trivial⟩ (fun h31 => ?_) (fun h31 => ?_)
      · obtain rfl : i = k * 101 + t + 1 := by omega
        exact z_re c 0 (v := none) (h := (zw sc B (((zaw (pW (sP S)) (k * 101 + f) ((2 ^ w.toNat : Nat) : Int) (k * 101 + t + 1)), (pL ((sP S))), (pE ((sP S))), (pR ((sP S))), (pB ((sP S))), (pN ((sP S))), (pP ((sP S))), (pG ((sP S)))), (sW S), (sO S), (sG S), (sOc S), (sGc S), (sWn S), (sWay S), (sLast S), (sWo S)) Z L R M)) (cs := 0) (ss := 0) rfl trivial trivial ⟨Nat.le_refl _, Nat.le_refl _⟩ ⟨rfl, rfl⟩
      · refine z_br c 4 (303 ≤ i) (62, [some (zR 6), some (zI w), some (zI k), some (zI f), some (zI t), some (zI (((2 ^ w.toNat : Nat) : Int))), some (zI i), some (zI (((k * 101) + t)))], [], (zw sc B (((zaw (pW (sP S)) (k * 101 + f) ((2 ^ w.toNat : Nat) : Int) i), (pL ((sP S))), (pE ((sP S))), (pR ((sP S))), (pB ((sP S))), (pN ((sP S))), (pP ((sP S))), (pG ((sP S)))), (sW S), (sO S), (sG S), (sOc S), (sGc S), (sWn S), (sWay S), (sLast S), (sWo S)) Z L R M), 0, 0) (44, [some (zR 6), some (zI w), some (zI k), some (zI f), some (zI t), some (zI (((2 ^ w.toNat : Nat) : Int))), some (zI i), some (zI (((k * 101) + t)))], [], (zw sc B (((zaw (pW (sP S)) (k * 101 + f) ((2 ^ w.toNat : Nat) : Int) i), (pL ((sP S))), (pE ((sP S))), (pR ((sP S))), (pB ((sP S))), (pN ((sP S))), (pP ((sP S))), (pG ((sP S)))), (sW S), (sO S), (sG S), (sOc S), (sGc S), (sWn S), (sWay S), (sLast S), (sWo S)) Z L R M), 0, 0) rfl ⟨(show ((-2147483648 : Int) ≤ i ∧ i ≤ 2147483647) ∧ (-2147483648 : Int) ≤ 303 ∧ 303 ≤ 2147483647 by omega), trivial⟩ (fun h41 => by exfalso; omega) (fun h41 => ?_)
        have hWi := hW i (by omega) (by omega)
        refine z_go c 10 (s1 := (22, [some (zR 6), some (zI w), some (zI k), some (zI f), some (zI t), some (zI (((2 ^ w.toNat : Nat) : Int))), some (zI ((i + 1))), some (zI (((k * 101) + t)))], [], (zw sc B (((zup (zaw (pW (sP S)) (k * 101 + f) ((2 ^ w.toNat : Nat) : Int) i) i ((((((zaw (pW (sP S)) (k * 101 + f) ((2 ^ w.toNat : Nat) : Int) i) i)).toNat ||| (((2 ^ w.toNat : Nat) : Int)).toNat : Nat) : Int))), (pL ((sP S))), (pE ((sP S))), (pR ((sP S))), (pB ((sP S))), (pN ((sP S))), (pP ((sP S))), (pG ((sP S)))), (sW S), (sO S), (sG S), (sOc S), (sGc S), (sWn S), (sWay S), (sLast S), (sWo S)) Z L R M), 0, 0)) rfl ⟨(show (0 : Int) ≤ i ∧ i < 303 by omega), (show (0 ≤ zaw (pW (sP S)) (k * 101 + f) ((2 ^ w.toNat : Nat) : Int) i i ∧ zaw (pW (sP S)) (k * 101 + f) ((2 ^ w.toNat : Nat) : Int) i i ≤ 2147483647) ∧ (0 : Int) ≤ ((2 ^ w.toNat : Nat) : Int) ∧ ((2 ^ w.toNat : Nat) : Int) ≤ 2147483647 by rw [zaw_at]; omega), (show (0 : Int) ≤ i ∧ i < 303 by omega), trivial⟩ ?_
        rw [zaw_s (by omega)]
        exact ih (i + 1) (by omega) (by omega) (by omega)
  have h9 := loop 200 (k * 101 + f) (by omega) (by omega) (by omega)
  rw [zaw_0] at h9
  exact h9
def zbt (W : Int → Int) (y k : Int) : Nat → Nat
  | 0 => 0
  | m + 1 => zbt W y k m ||| (W ((k + (m : Int)) * 101 + y)).toNat
theorem zbt_lt {W : Int → Int} (hW : zwr W) {y k : Int} (hk : 0 ≤ k) (hy : 0 ≤ y ∧ y ≤ 100) : ∀ m : Nat, k + (m : Int) ≤ 3 → zbt W y k m < 1048576
  | 0, _ => by show (0 : Nat) < 1048576; decide
  | m + 1, h => by
    have h1 := zbt_lt hW hk hy m (by omega)
    have h2 := hW ((k + (m : Int)) * 101 + y) (by omega) (by omega)
    exact Nat.or_lt_two_pow (n := 20) h1 (by omega)
/-- how many went by a kind or a greater one in a year, by the rows of the kinds alone -/
def zps (W : Int → Int) (k y : Int) : Int := ((zpop 20 (zbt W y k (3 - k).toNat) : Nat) : Int)
theorem zpop_le : ∀ (k x : Nat), zpop k x ≤ k
  | 0, _ => Nat.le_refl _
  | k + 1, x => by
    have h := zpop_le k x
    show zpop k x + x / 2 ^ k % 2 ≤ k + 1
    omega
theorem zps_rng (W : Int → Int) (k y : Int) : 0 ≤ zps W k y ∧ zps W k y ≤ 20 := by
  unfold zps
  have := zpop_le 20 (zbt W y k (3 - k).toNat)
  omega
set_option maxRecDepth 4000 in
theorem c_X4_personsIn (l : Launch) (sc : ZSc) (B : ZBk) (S Z : ZSg) (L : ZLn) (R : ZRd) (M : ZMd) (k y : Int) (hk : 0 ≤ k ∧ k ≤ 2) (hy : 0 ≤ y ∧ y ≤ 100) (hW : zwr (pW (sP S))) : zMet l m_X4_personsIn [zR 6, zI k, zI y] (zw sc B S Z L R M) (zI1 (zps (pW (sP S)) k y) (zw sc B S Z L R M)) := by
  refine z_method g_X4_personsIn [some (zR 6), some (zI k), some (zI y), none, none] rfl rfl (fun V c => ?_)
  refine z_go c 8 (s1 := (10, [some (zR 6), some (zI k), some (zI y), some (zI 0), some (zI (((k * 101) + y)))], [], (zw sc B S Z L R M), 0, 0)) rfl trivial ?_
  have loop : ∀ (q m : Nat), 3 - k - (m : Int) < (q : Int) → k + (m : Int) ≤ 3 → V (10, [some (zR 6), some (zI k), some (zI y), some (zI (((zbt (pW (sP S)) y k m : Nat) : Int))), some (zI (((k + (m : Int)) * 101 + y)))], [], (zw sc B S Z L R M), 0, 0) := by
    intro q
    induction q with
    | zero => intro m h1 h2; exfalso; omega
    | succ q ih =>
      intro m hm hk3
      have hbt := zbt_lt hW hk.1 hy m hk3
      refine z_br c 1 (((k + (m : Int)) * 101 + y) < 0) (41, [some (zR 6), some (zI k), some (zI y), some (zI (((zbt (pW (sP S)) y k m : Nat) : Int))), some (zI (((k + (m : Int)) * 101 + y)))], [], (zw sc B S Z L R M), 0, 0) (15, [some (zR 6), some (zI k), some (zI y), some (zI (((zbt (pW (sP S)) y k m : Nat) : Int))), some (zI (((k + (m : Int)) * 101 + y)))], [], (zw sc B S Z L R M), 0, 0) rfl ⟨(show (-2147483648 : Int) ≤ ((k + (m : Int)) * 101 + y) ∧ ((k + (m : Int)) * 101 + y) ≤ 2147483647 by omega), trivial⟩ (fun h12 => by exfalso; omega) (fun h12 => ?_)
      refine z_br c 4 (303 ≤ ((k + (m : Int)) * 101 + y)) (41, [some (zR 6), some (zI k), some (zI y), some (zI (((zbt (pW (sP S)) y k m : Nat) : Int))), some (zI (((k + (m : Int)) * 101 + y)))], [], (zw sc B S Z L R M), 0, 0) (25, [some (zR 6), some (zI k), some (zI y), some (zI (((zbt (pW (sP S)) y k m : Nat) : Int))), some (zI (((k + (m : Int)) * 101 + y)))], [], (zw sc B S Z L R M), 0, 0) rfl ⟨(show ((-2147483648 : Int) ≤ ((k + (m : Int)) * 101 + y) ∧ ((k + (m : Int)) * 101 + y) ≤ 2147483647) ∧ (-2147483648 : Int) ≤ 303 ∧ 303 ≤ 2147483647 by omega), trivial⟩ (fun h22 => ?_) (fun h22 => ?_)
      · obtain rfl : m = (3 - k).toNat := by omega
        refine z_cS c 1 k_4_47 zv_J6_bitCount_0f7a4 (pc := 45) (ls := [some (zR 6), some (zI k), some (zI y), some (zI (((zbt (pW (sP S)) y k (3 - k).toNat : Nat) : Int))), some (zI (((k + ((3 - k).toNat : Int)) * 101 + y)))]) (sk := []) (h := (zw sc B S Z L R M)) (cs := 0) (ss := 0) (c_bitCount l (zw sc B S Z L R M) (zbt (pW (sP S)) y k (3 - k).toNat) hbt) rfl trivial rfl ⟨Nat.le_refl _, Nat.le_refl _⟩ ?_
        rintro _ _ ⟨rfl, rfl⟩
        show V (45, [some (zR 6), some (zI k), some (zI y), some (zI (((zbt (pW (sP S)) y k (3 - k).toNat : Nat) : Int))), some (zI (((k + ((3 - k).toNat : Int)) * 101 + y)))], [zI (((zpop 20 (zbt (pW (sP S)) y k (3 - k).toNat) : Nat) : Int))], (zw sc B S Z L R M), 0, 0)
        exact z_re c 0 (v := some (zI (((zpop 20 (zbt (pW (sP S)) y k (3 - k).toNat) : Nat) : Int)))) (h := (zw sc B S Z L R M)) (cs := 0) (ss := 0) rfl trivial trivial ⟨Nat.le_refl _, Nat.le_refl _⟩ ⟨rfl, rfl⟩
      · have hWi := hW ((k + (m : Int)) * 101 + y) (by omega) (by omega)
        refine z_go c 9 (s1 := (10, [some (zR 6), some (zI k), some (zI y), some (zI ((((((zbt (pW (sP S)) y k m : Nat) : Int)).toNat ||| (((pW ((sP S))) (((k + (m : Int)) * 101 + y)))).toNat : Nat) : Int))), some (zI ((((k + (m : Int)) * 101 + y) + 101)))], [], (zw sc B S Z L R M), 0, 0)) rfl ⟨(show (0 : Int) ≤ ((k + (m : Int)) * 101 + y) ∧ ((k + (m : Int)) * 101 + y) < 303 by omega), (by omega), trivial⟩ ?_
        have e9 : ((k + (m : Int)) * 101 + y + 101) = (k + ((m + 1 : Nat) : Int)) * 101 + y := by omega
        rw [e9]
        exact ih (m + 1) (by omega) (by omega)
  have e8 : (k * 101) + y = (k + ((0 : Nat) : Int)) * 101 + y := by omega
  rw [e8]
  exact loop 4 0 (by omega) (by omega)
