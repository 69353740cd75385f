/-! the small methods: no cells, or one array of any place -/
set_option maxRecDepth 4000 in
theorem c_X5_isWithin (l : Launch) (h : List ZB) (n a b : Int) (hn : (-2147483648 ≤ n ∧ n ≤ 2147483647)) (ha : (-2147483648 ≤ a ∧ a ≤ 2147483647)) (hb : (-2147483648 ≤ b ∧ b ≤ 2147483647)) : zMet l m_X5_isWithin [zI n, zI a, zI b] h (zIb (a ≤ n ∧ n ≤ b) h) := by
  refine z_method g_X5_isWithin [some (zI n), some (zI a), some (zI b)] rfl rfl (fun V c => ?_)
  refine z_br c 2 (n < a) (14, [some (zI n), some (zI a), some (zI b)], [], h, 0, 0) (5, [some (zI n), some (zI a), some (zI b)], [], h, 0, 0) rfl ⟨(show ((-2147483648 : Int) ≤ n ∧ n ≤ 2147483647) ∧ (-2147483648 : Int) ≤ a ∧ a ≤ 2147483647 by omega), trivial⟩ (fun h2 => ?_) (fun h2 => ?_)
  · exact z_re c 1 (v := some (zI 0)) (h := h) (cs := 0) (ss := 0) rfl trivial (Or.inl rfl) ⟨Nat.le_refl _, Nat.le_refl _⟩ ⟨_, rfl, (by omega), rfl⟩
  · refine z_br c 2 (b < n) (14, [some (zI n), some (zI a), some (zI b)], [], h, 0, 0) (10, [some (zI n), some (zI a), some (zI b)], [], h, 0, 0) rfl ⟨(show ((-2147483648 : Int) ≤ n ∧ n ≤ 2147483647) ∧ (-2147483648 : Int) ≤ b ∧ b ≤ 2147483647 by omega), trivial⟩ (fun h7 => ?_) (fun h7 => ?_)
    · exact z_re c 1 (v := some (zI 0)) (h := h) (cs := 0) (ss := 0) rfl trivial (Or.inl rfl) ⟨Nat.le_refl _, Nat.le_refl _⟩ ⟨_, rfl, (by omega), rfl⟩
    · exact z_re c 2 (v := some (zI 1)) (h := h) (cs := 0) (ss := 0) rfl trivial (Or.inr rfl) ⟨Nat.le_refl _, Nat.le_refl _⟩ ⟨_, rfl, (by omega), rfl⟩
set_option maxRecDepth 4000 in
theorem c_X5_isPlace (l : Launch) (h : List ZB) (n : Int) (hn : (-2147483648 ≤ n ∧ n ≤ 2147483647)) : zMet l m_X5_isPlace [zI n] h (zIb (0 ≤ n ∧ n ≤ 9) h) := by
  refine z_method g_X5_isPlace [some (zI n)] rfl rfl (fun V c => ?_)
  refine z_cS c 3 k_5_49 zv_X5_isWithin (pc := 7) (ls := [some (zI n)]) (sk := []) (h := h) (cs := 0) (ss := 0) (c_X5_isWithin l h n 0 9 (by omega) (by omega) (by omega)) rfl trivial rfl ⟨Nat.le_refl _, Nat.le_refl _⟩ ?_
  rintro _ _ ⟨r4, rfl, e4, rfl⟩
  show V (7, [some (zI n)], [zI r4], h, 0, 0)
  exact z_re c 0 (v := some (zI r4)) (h := h) (cs := 0) (ss := 0) rfl trivial (show r4 = 0 ∨ r4 = 1 by omega) ⟨Nat.le_refl _, Nat.le_refl _⟩ ⟨_, rfl, (by omega), rfl⟩
set_option maxRecDepth 4000 in
theorem c_X5_isKind (l : Launch) (h : List ZB) (n : Int) (hn : (-2147483648 ≤ n ∧ n ≤ 2147483647)) : zMet l m_X5_isKind [zI n] h (zIb (0 ≤ n ∧ n ≤ 2) h) := by
  refine z_method g_X5_isKind [some (zI n)] rfl rfl (fun V c => ?_)
  refine z_cS c 3 k_5_49 zv_X5_isWithin (pc := 6) (ls := [some (zI n)]) (sk := []) (h := h) (cs := 0) (ss := 0) (c_X5_isWithin l h n 0 2 (by omega) (by omega) (by omega)) rfl trivial rfl ⟨Nat.le_refl _, Nat.le_refl _⟩ ?_
  rintro _ _ ⟨r3, rfl, e3, rfl⟩
  show V (6, [some (zI n)], [zI r3], h, 0, 0)
  exact z_re c 0 (v := some (zI r3)) (h := h) (cs := 0) (ss := 0) rfl trivial (show r3 = 0 ∨ r3 = 1 by omega) ⟨Nat.le_refl _, Nat.le_refl _⟩ ⟨_, rfl, (by omega), rfl⟩
set_option maxRecDepth 4000 in
theorem c_X5_isYear (l : Launch) (h : List ZB) (n : Int) (hn : (-2147483648 ≤ n ∧ n ≤ 2147483647)) : zMet l m_X5_isYear [zI n] h (zIb (0 ≤ n ∧ n ≤ 100) h) := by
  refine z_method g_X5_isYear [some (zI n)] rfl rfl (fun V c => ?_)
  refine z_cS c 3 k_5_49 zv_X5_isWithin (pc := 7) (ls := [some (zI n)]) (sk := []) (h := h) (cs := 0) (ss := 0) (c_X5_isWithin l h n 0 100 (by omega) (by omega) (by omega)) rfl trivial rfl ⟨Nat.le_refl _, Nat.le_refl _⟩ ?_
  rintro _ _ ⟨r4, rfl, e4, rfl⟩
  show V (7, [some (zI n)], [zI r4], h, 0, 0)
  exact z_re c 0 (v := some (zI r4)) (h := h) (cs := 0) (ss := 0) rfl trivial (show r4 = 0 ∨ r4 = 1 by omega) ⟨Nat.le_refl _, Nat.le_refl _⟩ ⟨_, rfl, (by omega), rfl⟩
set_option maxRecDepth 4000 in
theorem c_X5_isOrder (l : Launch) (h : List ZB) (n : Int) (hn : (-2147483648 ≤ n ∧ n ≤ 2147483647)) : zMet l m_X5_isOrder [zI n] h (zIb (n = 3 ∨ n = 4) h) := by
  refine z_method g_X5_isOrder [some (zI n)] rfl rfl (fun V c => ?_)
  refine z_br c 2 (n = 3) (10, [some (zI n)], [], h, 0, 0) (5, [some (zI n)], [], h, 0, 0) rfl ⟨(show ((-2147483648 : Int) ≤ n ∧ n ≤ 2147483647) ∧ (-2147483648 : Int) ≤ 3 ∧ 3 ≤ 2147483647 by omega), trivial⟩ (fun h2 => ?_) (fun h2 => ?_)
  · exact z_re c 2 (v := some (zI 1)) (h := h) (cs := 0) (ss := 0) rfl trivial (Or.inr rfl) ⟨Nat.le_refl _, Nat.le_refl _⟩ ⟨_, rfl, (by omega), rfl⟩
  · refine z_br c 2 (¬ n = 4) (14, [some (zI n)], [], h, 0, 0) (10, [some (zI n)], [], h, 0, 0) rfl ⟨(show ((-2147483648 : Int) ≤ n ∧ n ≤ 2147483647) ∧ (-2147483648 : Int) ≤ 4 ∧ 4 ≤ 2147483647 by omega), trivial⟩ (fun h7 => ?_) (fun h7 => ?_)
    · exact z_re c 1 (v := some (zI 0)) (h := h) (cs := 0) (ss := 0) rfl trivial (Or.inl rfl) ⟨Nat.le_refl _, Nat.le_refl _⟩ ⟨_, rfl, (by omega), rfl⟩
    · exact z_re c 2 (v := some (zI 1)) (h := h) (cs := 0) (ss := 0) rfl trivial (Or.inr rfl) ⟨Nat.le_refl _, Nat.le_refl _⟩ ⟨_, rfl, (by omega), rfl⟩
set_option maxRecDepth 4000 in
theorem c_X5_isTakenAs (l : Launch) (h : List ZB) (n a : Int) (hn : (-2147483648 ≤ n ∧ n ≤ 2147483647)) (ha : (-2147483648 ≤ a ∧ a ≤ 2147483647)) : zMet l m_X5_isTakenAs [zI n, zI a] h (zIb (a = 7 ∨ a = n ∨ (a = 3 ∧ (n = 3 ∨ n = 4))) h) := by
  refine z_method g_X5_isTakenAs [some (zI n), some (zI a)] rfl rfl (fun V c => ?_)
  refine z_br c 2 (a = 7) (23, [some (zI n), some (zI a)], [], h, 0, 0) (6, [some (zI n), some (zI a)], [], h, 0, 0) rfl ⟨(show ((-2147483648 : Int) ≤ a ∧ a ≤ 2147483647) ∧ (-2147483648 : Int) ≤ 7 ∧ 7 ≤ 2147483647 by omega), trivial⟩ (fun h3 => ?_) (fun h3 => ?_)
  · exact z_re c 2 (v := some (zI 1)) (h := h) (cs := 0) (ss := 0) rfl trivial (Or.inr rfl) ⟨Nat.le_refl _, Nat.le_refl _⟩ ⟨_, rfl, (by omega), rfl⟩
  · refine z_br c 2 (a = n) (23, [some (zI n), some (zI a)], [], h, 0, 0) (11, [some (zI n), some (zI a)], [], h, 0, 0) rfl ⟨(show ((-2147483648 : Int) ≤ a ∧ a ≤ 2147483647) ∧ (-2147483648 : Int) ≤ n ∧ n ≤ 2147483647 by omega), trivial⟩ (fun h8 => ?_) (fun h8 => ?_)
    · exact z_re c 2 (v := some (zI 1)) (h := h) (cs := 0) (ss := 0) rfl trivial (Or.inr rfl) ⟨Nat.le_refl _, Nat.le_refl _⟩ ⟨_, rfl, (by omega), rfl⟩
    · refine z_br c 2 (¬ a = 3) (27, [some (zI n), some (zI a)], [], h, 0, 0) (16, [some (zI n), some (zI a)], [], h, 0, 0) rfl ⟨(show ((-2147483648 : Int) ≤ a ∧ a ≤ 2147483647) ∧ (-2147483648 : Int) ≤ 3 ∧ 3 ≤ 2147483647 by omega), trivial⟩ (fun h13 => ?_) (fun h13 => ?_)
      · exact z_re c 1 (v := some (zI 0)) (h := h) (cs := 0) (ss := 0) rfl trivial (Or.inl rfl) ⟨Nat.le_refl _, Nat.le_refl _⟩ ⟨_, rfl, (by omega), rfl⟩
      · refine z_cS c 1 k_5_128 zv_X5_isOrder (pc := 20) (ls := [some (zI n), some (zI a)]) (sk := []) (h := h) (cs := 0) (ss := 0) (c_X5_isOrder l h n (by omega)) rfl trivial rfl ⟨Nat.le_refl _, Nat.le_refl _⟩ ?_
        rintro _ _ ⟨r17, rfl, e17, rfl⟩
        show V (20, [some (zI n), some (zI a)], [zI r17], h, 0, 0)
        refine z_br c 0 (r17 = 0) (27, [some (zI n), some (zI a)], [], h, 0, 0) (23, [some (zI n), some (zI a)], [], h, 0, 0) rfl ⟨(show (-2147483648 : Int) ≤ r17 ∧ r17 ≤ 2147483647 by omega), trivial⟩ (fun h20 => ?_) (fun h20 => ?_)
        · exact z_re c 1 (v := some (zI 0)) (h := h) (cs := 0) (ss := 0) rfl trivial (Or.inl rfl) ⟨Nat.le_refl _, Nat.le_refl _⟩ ⟨_, rfl, (by omega), rfl⟩
        · exact z_re c 2 (v := some (zI 1)) (h := h) (cs := 0) (ss := 0) rfl trivial (Or.inr rfl) ⟨Nat.le_refl _, Nat.le_refl _⟩ ⟨_, rfl, (by omega), rfl⟩
set_option maxRecDepth 4000 in
theorem c_X5_yes (l : Launch) (h : List ZB) (n : Int) (hn : n = 0 ∨ n = 1) : zMet l m_X5_yes [zI n] h (zI1 n h) := by
  refine z_method g_X5_yes [some (zI n)] rfl rfl (fun V c => ?_)
  refine z_br c 1 (n = 0) (8, [some (zI n)], [], h, 0, 0) (4, [some (zI n)], [], h, 0, 0) rfl ⟨(show (-2147483648 : Int) ≤ n ∧ n ≤ 2147483647 by omega), trivial⟩ (fun h1 => ?_) (fun h1 => ?_)
  · exact z_re c 1 (v := some (zI 0)) (h := h) (cs := 0) (ss := 0) rfl trivial trivial ⟨Nat.le_refl _, Nat.le_refl _⟩ ⟨by congr 2; omega, rfl⟩
  · exact z_re c 2 (v := some (zI 1)) (h := h) (cs := 0) (ss := 0) rfl trivial trivial ⟨Nat.le_refl _, Nat.le_refl _⟩ ⟨by congr 2; omega, rfl⟩
def zat (n : Nat) (f : Int → Int) (i : Int) : Int := if 0 ≤ i ∧ i < (n : Int) then f i else -9
theorem zat_in {n : Nat} {f : Int → Int} {i : Int} (h : 0 ≤ i ∧ i < (n : Int)) : zat n f i = f i := if_pos h
theorem zat_out {n : Nat} {f : Int → Int} {i : Int} (h : ¬ (0 ≤ i ∧ i < (n : Int))) : zat n f i = -9 := if_neg h
def zpt (n : Nat) (f : Int → Int) (i x : Int) : Int → Int := fun j => if j = i ∧ 0 ≤ i ∧ i < (n : Int) then x else f j
theorem zpt_in {n : Nat} {f : Int → Int} {i x : Int} (h : 0 ≤ i ∧ i < (n : Int)) : zpt n f i x = zup f i x := by
  funext j
  simp only [zpt, zup, h, and_true]
theorem zpt_out {n : Nat} {f : Int → Int} {i x : Int} (h : ¬ (0 ≤ i ∧ i < (n : Int))) : zpt n f i x = f := by
  funext j
  simp only [zpt, h, and_false, if_false]
theorem zset_same {h : List ZB} {o : Nat} {b : ZB} (e : znth h o = some b) : h.set o b = h := by
  rw [znth_eq] at e
  obtain ⟨h1, h2⟩ := List.getElem?_eq_some_iff.mp e
  rw [← h2, List.set_getElem_self]
set_option maxRecDepth 4000 in
/-- at(row, i) of any row -/
theorem c_X5_at (l : Launch) (h : List ZB) (o n : Nat) (f : Int → Int) (i : Int) (hb : znth h o = some (zA n f)) (hn : n ≤ 100000) (hi : -2147483648 ≤ i ∧ i ≤ 2147483647) (ho : Nat.ble 1 o = true := by rfl) : zMet l m_X5_at [zR o, zI i] h (zI1 (zat n f i) h) := by
  obtain ⟨o, rfl⟩ : ∃ k, o = k + 1 := ⟨o - 1, by have := Nat.le_of_ble_eq_true ho; omega⟩
  refine z_method g_X5_at [some (zR (o + 1)), some (zI i)] rfl rfl (fun V c => ?_)
  have hnb : Nat.ble n 100000 = true := Nat.ble_eq_true_of_le hn
  refine z_br c 1 (i < 0) (16, [some (zR (o + 1)), some (zI i)], [], h, 0, 0) (4, [some (zR (o + 1)), some (zI i)], [], h, 0, 0) rfl ⟨by omega, trivial⟩ (fun h1 => ?_) (fun h1 => ?_)
  · exact z_re c 1 (v := some (zI (-9))) (h := h) (cs := 0) (ss := 0) rfl trivial trivial ⟨Nat.le_refl _, Nat.le_refl _⟩ ⟨by rw [zat_out (by omega)], rfl⟩
  · refine z_go c 2 (s1 := (6, [some (zR (o + 1)), some (zI i)], [zR (o + 1), zI i], h, 0, 0)) rfl trivial ?_
    refine z_alen c hb rfl ?_
    refine z_br c 0 ((n : Int) ≤ i) (16, [some (zR (o + 1)), some (zI i)], [], h, 0, 0) (10, [some (zR (o + 1)), some (zI i)], [], h, 0, 0) rfl ⟨by omega, trivial⟩ (fun h2 => ?_) (fun h2 => ?_)
    · exact z_re c 1 (v := some (zI (-9))) (h := h) (cs := 0) (ss := 0) rfl trivial trivial ⟨Nat.le_refl _, Nat.le_refl _⟩ ⟨by rw [zat_out (by omega)], rfl⟩
    · refine z_go c 2 (s1 := (12, [some (zR (o + 1)), some (zI i)], [zI i, zR (o + 1)], h, 0, 0)) rfl trivial ?_
      refine z_iald c hb hnb (by omega) rfl ?_
      exact z_re c 1 (v := some (zI (f i))) (h := h) (cs := 0) (ss := 0) rfl trivial trivial ⟨Nat.le_refl _, Nat.le_refl _⟩ ⟨by rw [zat_in (by omega)], rfl⟩
set_option maxRecDepth 4000 in
/-- put(row, i, x) of any row -/
theorem c_X5_put (l : Launch) (h : List ZB) (o n : Nat) (f : Int → Int) (i x : Int) (hb : znth h (o + 1) = some (zA n f)) (hn : n ≤ 100000) (hi : -2147483648 ≤ i ∧ i ≤ 2147483647) : zMet l m_X5_put [zR (o + 1), zI i, zI x] h (zI0 (h.set (o + 1) (zA n (zpt n f i x)))) := by
  refine z_method g_X5_put [some (zR (o + 1)), some (zI i), some (zI x)] rfl rfl (fun V c => ?_)
  have hnb : Nat.ble n 100000 = true := Nat.ble_eq_true_of_le hn
  refine z_br c 1 (i < 0) (14, [some (zR (o + 1)), some (zI i), some (zI x)], [], h, 0, 0) (4, [some (zR (o + 1)), some (zI i), some (zI x)], [], h, 0, 0) rfl ⟨by omega, trivial⟩ (fun h1 => ?_) (fun h1 => ?_)
  · exact z_re c 0 (v := none) (h := h) (cs := 0) (ss := 0) rfl trivial trivial ⟨Nat.le_refl _, Nat.le_refl _⟩ ⟨rfl, by rw [zpt_out (by omega), zset_same hb]⟩
  · refine z_go c 2 (s1 := (6, [some (zR (o + 1)), some (zI i), some (zI x)], [zR (o + 1), zI i], h, 0, 0)) rfl trivial ?_
    refine z_alen c hb rfl ?_
    refine z_br c 0 ((n : Int) ≤ i) (14, [some (zR (o + 1)), some (zI i), some (zI x)], [], h, 0, 0) (10, [some (zR (o + 1)), some (zI i), some (zI x)], [], h, 0, 0) rfl ⟨by omega, trivial⟩ (fun h2 => ?_) (fun h2 => ?_)
    · exact z_re c 0 (v := none) (h := h) (cs := 0) (ss := 0) rfl trivial trivial ⟨Nat.le_refl _, Nat.le_refl _⟩ ⟨rfl, by rw [zpt_out (by omega), zset_same hb]⟩
    · refine z_go c 3 (s1 := (13, [some (zR (o + 1)), some (zI i), some (zI x)], [zI x, zI i, zR (o + 1)], h, 0, 0)) rfl trivial ?_
      refine z_iast c hb hnb (by omega) rfl ?_
      exact z_re c 0 (v := none) (h := h.set (o + 1) (zA n (zup f i x))) (cs := 0) (ss := 0) rfl trivial trivial ⟨Nat.le_refl _, Nat.le_refl _⟩ ⟨rfl, by rw [zpt_in (by omega)]⟩
