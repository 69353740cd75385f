/-! the library: fill, bitCount; the spans -/
def zff (f : Int → Int) (x k : Int) : Int → Int := fun j => if 0 ≤ j ∧ j < k then x else f j
theorem zff_0 (f : Int → Int) (x : Int) : zff f x 0 = f := by
  funext j
  simp only [zff]
  rw [if_neg (by omega)]
theorem zff_s {f : Int → Int} {x k : Int} (h : 0 ≤ k) : zup (zff f x k) k x = zff f x (k + 1) := by
  funext j
  simp only [zup, zff]
  by_cases e : j = k
  · rw [if_pos e, if_pos (by omega)]
  · rw [if_neg e]
    by_cases e2 : 0 ≤ j ∧ j < k
    · rw [if_pos e2, if_pos (by omega)]
    · rw [if_neg e2, if_neg (by omega)]
theorem znth_set {h : List ZB} {o : Nat} {b b2 : ZB} (e : znth h o = some b) : znth (h.set o b2) o = some b2 := by
  rw [znth_eq] at e ⊢
  obtain ⟨h1, -⟩ := List.getElem?_eq_some_iff.mp e
  rw [List.getElem?_set_self h1]
set_option maxRecDepth 4000 in
theorem c_fill (l : Launch) (h : List ZB) (o n : Nat) (f : Int → Int) (x : Int) (hb : znth h (o + 1) = some (zA n f)) (hn : n ≤ 100000) : zMet l m_J7_fill_53178 [zR (o + 1), zI x] h (zI0 (h.set (o + 1) (zA n (zff f x n)))) := by
  refine z_method g_J7_fill_53178 [some (zR (o + 1)), some (zI x), none, none] rfl rfl (fun V c => ?_)
  have hnb : Nat.ble n 100000 = true := Nat.ble_eq_true_of_le hn
  refine z_go c 3 (s1 := (3, [some (zR (o + 1)), some (zI x), some (zI 0), none], [zR (o + 1)], h, 0, 0)) rfl trivial ?_
  refine z_alen c hb rfl ?_
  refine z_go c 1 (s1 := (5, [some (zR (o + 1)), some (zI x), some (zI 0), some (zI n)], [], h, 0, 0)) rfl trivial ?_
  have loop : ∀ (k : Nat) (i : Int), (n : Int) - i < (k : Int) → 0 ≤ i → i ≤ (n : Int) → V (5, [some (zR (o + 1)), some (zI x), some (zI i), some (zI n)], [], h.set (o + 1) (zA n (zff f x i)), 0, 0) := by
    intro k
    induction k with
    | zero => intro i h1 h2 h3; exfalso; omega
    | succ k ih =>
      intro i hk hi0 hi
      refine z_br c 2 ((n : Int) ≤ i) (20, [some (zR (o + 1)), some (zI x), some (zI i), some (zI n)], [], h.set (o + 1) (zA n (zff f x i)), 0, 0) (10, [some (zR (o + 1)), some (zI x), some (zI i), some (zI n)], [], h.set (o + 1) (zA n (zff f x i)), 0, 0) rfl ⟨by omega, trivial⟩ (fun h7 => ?_) (fun h7 => ?_)
      · obtain rfl : i = (n : Int) := by omega
        exact z_re c 0 (v := none) (h := h.set (o + 1) (zA n (zff f x n))) (cs := 0) (ss := 0) rfl trivial trivial ⟨Nat.le_refl _, Nat.le_refl _⟩ ⟨rfl, rfl⟩
      · refine z_go c 3 (s1 := (13, [some (zR (o + 1)), some (zI x), some (zI i), some (zI n)], [zI x, zI i, zR (o + 1)], h.set (o + 1) (zA n (zff f x i)), 0, 0)) rfl trivial ?_
        refine z_iast c (znth_set hb) hnb (by omega) rfl ?_
        rw [List.set_set, zff_s hi0]
        exact z_go c 2 (s1 := (5, [some (zR (o + 1)), some (zI x), some (zI (i + 1)), some (zI n)], [], h.set (o + 1) (zA n (zff f x (i + 1))), 0, 0)) rfl trivial (ih (i + 1) (by omega) (by omega) (by omega))
  have h9 := loop (n + 1) 0 (by omega) (by decide) (by omega)
  rw [zff_0, zset_same hb] at h9
  exact h9
set_option maxRecDepth 4000 in
theorem c_bitCount (l : Launch) (h : List ZB) (n : Nat) (hn : n < 1048576) : zMet l m_J6_bitCount_0f7a4 [zI ((n : Int))] h (zI1 ((zpop 20 n : Nat) : Int) h) := by
  refine z_method g_J6_bitCount_0f7a4 [some (zI ((n : Int)))] rfl rfl (fun V c => ?_)
  have hz := zswar_ok hn
  have hz3 := hz.2.2.1
  refine z_go c 8 (s1 := (10, [some (zI (((n : Int) - (((((((n : Int)).toNat / 2 ^ (1 : Int).toNat : Nat) : Int)).toNat &&& (1431655765 : Int).toNat : Nat) : Int))))], [], h, 0, 0)) rfl ⟨(by omega), (show ((0 : Int) ≤ ((n / 2 : Nat) : Int) ∧ ((n / 2 : Nat) : Int) ≤ 2147483647) ∧ (0 : Int) ≤ 1431655765 ∧ (1431655765 : Int) ≤ 2147483647 by omega), trivial⟩ ?_
  obtain ⟨y, ey⟩ : ∃ y : Nat, y = n - ((n / 2) &&& 1431655765) := ⟨_, rfl⟩
  have hhy : ((n : Int) - (((((((n : Int)).toNat / 2 ^ (1 : Int).toNat : Nat) : Int)).toNat &&& (1431655765 : Int).toNat : Nat) : Int)) = (y : Int) := by
    show ((n : Int) - ((n / 2 &&& 1431655765 : Nat) : Int)) = _
    omega
  rw [hhy]
  have by1 : y < 1048576 := by rw [ey]; exact hz.2.2.2
  refine z_go c 10 (s1 := (24, [some (zI ((((((y : Int)).toNat &&& (858993459 : Int).toNat : Nat) : Int) + (((((((y : Int)).toNat / 2 ^ (2 : Int).toNat : Nat) : Int)).toNat &&& (858993459 : Int).toNat : Nat) : Int))))], [], h, 0, 0)) rfl ⟨(by omega), (by omega), (show ((0 : Int) ≤ ((y / 4 : Nat) : Int) ∧ ((y / 4 : Nat) : Int) ≤ 2147483647) ∧ (0 : Int) ≤ 858993459 ∧ (858993459 : Int) ≤ 2147483647 by omega), trivial⟩ ?_
  obtain ⟨z, ez⟩ : ∃ z : Nat, z = (y &&& 858993459) + ((y / 4) &&& 858993459) := ⟨_, rfl⟩
  have hhz : (((((y : Int)).toNat &&& (858993459 : Int).toNat : Nat) : Int) + (((((((y : Int)).toNat / 2 ^ (2 : Int).toNat : Nat) : Int)).toNat &&& (858993459 : Int).toNat : Nat) : Int)) = (z : Int) := by
    show (((y &&& 858993459 : Nat) : Int) + ((y / 4 &&& 858993459 : Nat) : Int)) = _
    omega
  rw [hhz]
  have bz1 : z ≤ y + y / 4 := by
    rw [ez]
    have g1 := Nat.and_le_left (n := y) (m := 858993459)
    have g2 := Nat.and_le_left (n := y / 4) (m := 858993459)
    omega
  refine z_go c 8 (s1 := (34, [some (zI ((((((z : Int) + ((((z : Int)).toNat / 2 ^ (4 : Int).toNat : Nat) : Int))).toNat &&& (252645135 : Int).toNat : Nat) : Int)))], [], h, 0, 0)) rfl ⟨(by omega), (show ((0 : Int) ≤ (z : Int) + ((z / 16 : Nat) : Int) ∧ (z : Int) + ((z / 16 : Nat) : Int) ≤ 2147483647) ∧ (0 : Int) ≤ 252645135 ∧ (252645135 : Int) ≤ 2147483647 by omega), trivial⟩ ?_
  obtain ⟨w, ew⟩ : ∃ w : Nat, w = (z + z / 16) &&& 252645135 := ⟨_, rfl⟩
  have hhw : (((((z : Int) + ((((z : Int)).toNat / 2 ^ (4 : Int).toNat : Nat) : Int))).toNat &&& (252645135 : Int).toNat : Nat) : Int) = (w : Int) := by
    have e9 : ((z : Int) + ((z / 16 : Nat) : Int)).toNat = z + z / 16 := by omega
    show ((((z : Int) + ((z / 16 : Nat) : Int)).toNat &&& 252645135 : Nat) : Int) = _
    rw [e9, ew]
  rw [hhw]
  have bw1 : w ≤ z + z / 16 := by rw [ew]; exact Nat.and_le_left
  refine z_go c 6 (s1 := (41, [some (zI (((w : Int) + ((((w : Int)).toNat / 2 ^ (8 : Int).toNat : Nat) : Int))))], [], h, 0, 0)) rfl ⟨(by omega), trivial⟩ ?_
  obtain ⟨v, ev⟩ : ∃ v : Nat, v = w + w / 256 := ⟨_, rfl⟩
  have hhv : ((w : Int) + ((((w : Int)).toNat / 2 ^ (8 : Int).toNat : Nat) : Int)) = (v : Int) := by
    show ((w : Int) + ((w / 256 : Nat) : Int)) = _
    omega
  rw [hhv]
  have bv1 : v ≤ w + w := by omega
  refine z_go c 6 (s1 := (48, [some (zI (((v : Int) + ((((v : Int)).toNat / 2 ^ (16 : Int).toNat : Nat) : Int))))], [], h, 0, 0)) rfl ⟨(by omega), trivial⟩ ?_
  obtain ⟨u, eu⟩ : ∃ u : Nat, u = v + v / 65536 := ⟨_, rfl⟩
  have hhu : ((v : Int) + ((((v : Int)).toNat / 2 ^ (16 : Int).toNat : Nat) : Int)) = (u : Int) := by
    show ((v : Int) + ((v / 65536 : Nat) : Int)) = _
    omega
  rw [hhu]
  have bu1 : u ≤ v + v := by omega
  exact z_re c 3 (v := some (zI (((u : Int) % 64)))) (h := h) (cs := 0) (ss := 0) rfl ⟨(by omega), trivial⟩ trivial ⟨Nat.le_refl _, Nat.le_refl _⟩ ⟨by
      have e9 : zswar n = u % 64 := by
        rw [eu, ev, ew, ez, ey]
        rfl
      rw [← hz.1, e9]
      rfl, rfl⟩
