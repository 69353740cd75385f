/-! most, since, good, leans, lean -/
def zmo (F : Int → Int) : Int := if ¬ F 2 = 0 then 2 else if ¬ F 1 = 0 then 1 else if ¬ F 0 = 0 then 0 else -9
theorem zmn_c {P : Int → Bool} : ∀ (k : Nat) (a : Int), 0 ≤ a → (zmn P a k = -9 ∧ ∀ j, a ≤ j → j < a + (k : Int) → ¬ P j = true) ∨ ((a ≤ zmn P a k ∧ zmn P a k < a + (k : Int)) ∧ P (zmn P a k) = true ∧ ∀ j, a ≤ j → j < zmn P a k → ¬ P j = true)
  | 0, a, _ => Or.inl ⟨rfl, fun j h1 h2 => by omega⟩
  | k + 1, a, ha => by
    unfold zmn
    split
    · rename_i h
      exact Or.inr ⟨by omega, h, fun j h1 h2 => by omega⟩
    · rename_i h
      rcases zmn_c (P := P) k (a + 1) (by omega) with ⟨e, n⟩ | ⟨r, e, n⟩
      · refine Or.inl ⟨e, fun j h1 h2 => ?_⟩
        by_cases g : j = a
        · rw [g]; exact h
        · exact n j (by omega) (by omega)
      · refine Or.inr ⟨by omega, e, fun j h1 h2 => ?_⟩
        by_cases g : j = a
        · rw [g]; exact h
        · exact n j (by omega) (by omega)
theorem zpn_ex (P : Int → Bool) : ∀ (m i : Nat), i < zpn P m → ∃ p : Nat, p < m ∧ P (p : Int) = true ∧ zpn P p = i
  | 0, i, h => absurd h (Nat.not_lt_zero _)
  | m + 1, i, h => by
    unfold zpn at h
    by_cases g : P (m : Int) = true
    · rw [if_pos g] at h
      by_cases e : i = zpn P m
      · exact ⟨m, by omega, g, e.symm⟩
      · obtain ⟨p, h1, h2⟩ := zpn_ex P m i (by omega)
        exact ⟨p, by omega, h2⟩
    · rw [if_neg g] at h
      obtain ⟨p, h1, h2⟩ := zpn_ex P m i (by omega)
      exact ⟨p, by omega, h2⟩
def zth (P : Int → Bool) (i : Int) (n : Nat) : Int := zmn (fun p => P p && decide ((zpn P p.toNat : Int) = i)) 0 n
theorem zit {P : Int → Bool} {i l : Int} {L : ZLn} {N : Nat} (hP : ∀ p, P p = true → p ≤ l) (hl : -1 ≤ l ∧ l < (N : Int)) (hN : N ≤ 100) (hL : zLi P (l + 1).toNat L) : (if i < lN1 L then zat 100 (lP L) i else -9) = zth P i N := by
  obtain ⟨h1, h2⟩ := hL
  have hle := zpn_le P (l + 1).toNat
  have hc := zmn_c (P := fun p => P p && decide ((zpn P p.toNat : Int) = i)) N 0 (Int.le_refl _)
  show _ = zmn (fun p => P p && decide ((zpn P p.toNat : Int) = i)) 0 N
  by_cases g : 0 ≤ i ∧ i < lN1 L
  · rw [if_pos g.2, zat_in (by omega)]
    obtain ⟨p, p1, p2, p3⟩ := zpn_ex P (l + 1).toNat i.toNat (by omega)
    have e := h2 p p1 p2
    rw [p3, show ((i.toNat : Nat) : Int) = i by omega] at e
    rw [e]
    rcases hc with ⟨c1, c2⟩ | ⟨c1, c2, c3⟩
    · exact absurd (by rw [Bool.and_eq_true]; exact ⟨p2, decide_eq_true (by rw [Int.toNat_natCast]; omega)⟩) (c2 (p : Int) (by omega) (by omega))
    · generalize zmn (fun p => P p && decide ((zpn P p.toNat : Int) = i)) 0 N = q at c1 c2 c3 ⊢
      rw [Bool.and_eq_true, decide_eq_true_iff] at c2
      have hq : ((q.toNat : Nat) : Int) = q := by omega
      have hPq : P ((q.toNat : Nat) : Int) = true := by rw [hq]; exact c2.1
      rcases Nat.lt_trichotomy p q.toNat with x | x | x
      · have := zpn_lt p2 x
        omega
      · omega
      · have := zpn_lt hPq x
        omega
  · have e : (if i < lN1 L then zat 100 (lP L) i else -9) = -9 := by
      split
      · rw [zat_out (by omega)]
      · rfl
    rw [e]
    rcases hc with ⟨c1, c2⟩ | ⟨c1, c2, c3⟩
    · exact c1.symm
    · exfalso
      generalize zmn (fun p => P p && decide ((zpn P p.toNat : Int) = i)) 0 N = q at c1 c2 c3
      rw [Bool.and_eq_true, decide_eq_true_iff] at c2
      have hq : ((q.toNat : Nat) : Int) = q := by omega
      have hPq : P ((q.toNat : Nat) : Int) = true := by rw [hq]; exact c2.1
      have h4 := hP q c2.1
      have := zpn_lt hPq (show q.toNat < (l + 1).toNat by omega)
      omega
set_option maxRecDepth 4000 in
theorem c_X5_most (l : Launch) (sn : Nat) (sf : Int → Int) (B : ZBk) (S Z : ZSg) (L : ZLn) (R : ZRd) (M : ZMd) (w y a : Int) (hB : zBv (bT B) (bK B) (bN B) (rN R)) (hch_S : zch (bT B) (bK B) (bN B) S) (hr : 0 ≤ rN R ∧ rN R ≤ 12) (hw : (-2147483648 ≤ w ∧ w ≤ 2147483647)) (hy : (-2147483648 ≤ y ∧ y ≤ 2147483647)) (ha : (-2147483648 ≤ a ∧ a ≤ 2147483647)) : zMet l m_X5_most [zR 1, zI w, zI y, zI a] (zw ((sn, sf, 5, 5, 22)) B S Z L R M) (fun v h1 => ∃ S1, v = some (zI (if (zrO (bN B) (rN R) w 0 y a) = 0 then zmo (fun k => zF (bT B) (bK B) (bN B) w (zlast (bN B) a) (-9) k y) else (zrO (bN B) (rN R) w 0 y a))) ∧ (zw ((sn, sf, 5, 5, 22)) B S1 Z L R M) = h1 ∧ zch (bT B) (bK B) (bN B) S1) := by
  refine z_method g_X5_most [some (zR 1), some (zI w), some (zI y), some (zI a), none, none] rfl rfl (fun V c => ?_)
  have hn := hB.1
  refine z_cV c 5 k_5_96 zv_X5_refusalOf (pc := 8) (ls := [some (zR 1), some (zI w), some (zI y), some (zI a), none, none]) (sk := []) (h := (zw ((sn, sf, 5, 5, 22)) B S Z L R M)) (cs := 0) (ss := 0) (c_X5_refusalOf l sn sf B S Z L R M w 0 y a hn hr (by omega) (by omega) (by omega) (by omega)) rfl trivial rfl rfl ⟨Nat.le_refl _, Nat.le_refl _⟩ ?_
  rintro _ _ ⟨rfl, rfl⟩
  have hro := zrO_c (bN B) (rN R) w 0 y a
  show V (8, [some (zR 1), some (zI w), some (zI y), some (zI a), none, none], [zI ((zrO (bN B) (rN R) w 0 y a))], (zw ((sn, sf, 5, 5, 22)) B S Z L R M), 0, 0)
  refine z_br c 2 ((zrO (bN B) (rN R) w 0 y a) = 0) (18, [some (zR 1), some (zI w), some (zI y), some (zI a), some (zI ((zrO (bN B) (rN R) w 0 y a))), none], [], (zw ((sn, sf, 5, 5, 22)) B S Z L R M), 0, 0) (15, [some (zR 1), some (zI w), some (zI y), some (zI a), some (zI ((zrO (bN B) (rN R) w 0 y a))), none], [], (zw ((sn, sf, 5, 5, 22)) B S Z L R M), 0, 0) rfl ⟨(show (-2147483648 : Int) ≤ (zrO (bN B) (rN R) w 0 y a) ∧ (zrO (bN B) (rN R) w 0 y a) ≤ 2147483647 by omega), trivial⟩ (fun h12 => ?_) (fun h12 => ?_)
  · obtain ⟨g0, g1, g2, g3, g4⟩ := hro.resolve_right (by omega)
    have hl := zlast_rng hn.1 g2
    refine z_cV c 6 k_5_86 zv_X0_lastOf (pc := 31) (ls := [some (zR 1), some (zI w), some (zI y), some (zI a), some (zI ((zrO (bN B) (rN R) w 0 y a))), none]) (sk := [zI w, zR 5]) (h := (zw ((sn, sf, 5, 5, 22)) B S Z L R M)) (cs := 0) (ss := 0) (c_X0_lastOf l ((sn, sf, 5, 5, 22)) B S Z L R M a (by omega)) rfl trivial rfl rfl ⟨Nat.le_refl _, Nat.le_refl _⟩ ?_
    rintro _ _ ⟨rfl, rfl⟩
    show V (31, [some (zR 1), some (zI w), some (zI y), some (zI a), some (zI ((zrO (bN B) (rN R) w 0 y a))), none], [zI ((zlast ((bN B)) a)), zI w, zR 5], (zw ((sn, sf, 5, 5, 22)) B S Z L R M), 0, 0)
    refine z_cV c 1 k_5_100 zv_X3_look (pc := 36) (ls := [some (zR 1), some (zI w), some (zI y), some (zI a), some (zI ((zrO (bN B) (rN R) w 0 y a))), none]) (sk := []) (h := (zw ((sn, sf, 5, 5, 22)) B S Z L R M)) (cs := 0) (ss := 0) (c_lookS l ((sn, sf, 5, 5, 22)) B S Z L R M (rN R) w ((zlast ((bN B)) a)) ((-9)) hB (by omega) hl (by omega) hch_S) rfl trivial rfl rfl ⟨Nat.le_refl _, Nat.le_refl _⟩ ?_
    rintro _ _ ⟨rfl, S33, rfl, hsi_S33, ha_S33, hb_S33, hc_S33⟩
    have hch_S33 := zch_of hsi_S33 ha_S33 hb_S33 hc_S33 (by omega) (by omega) (by omega)
    obtain ⟨v1, v2, v3⟩ := zBv_lim hB hl
    obtain ⟨r1, r2, r3, r4, r5, r6, r7⟩ := zSi_rng hsi_S33 v1 v2 v3
    show V (36, [some (zR 1), some (zI w), some (zI y), some (zI a), some (zI ((zrO (bN B) (rN R) w 0 y a))), none], [], (zw ((sn, sf, 5, 5, 22)) B S33 Z L R M), 0, 0)
    refine z_go c 2 (s1 := (39, [some (zR 1), some (zI w), some (zI y), some (zI a), some (zI ((zrO (bN B) (rN R) w 0 y a))), some (zI 2)], [], (zw ((sn, sf, 5, 5, 22)) B S33 Z L R M), 0, 0)) rfl trivial ?_
    show V (39, [some (zR 1), some (zI w), some (zI y), some (zI a), some (zI ((zrO (bN B) (rN R) w 0 y a))), some (zI 2)], [], (zw ((sn, sf, 5, 5, 22)) B S33 Z L R M), 0, 0)
    refine z_br c 1 (2 < 0) (66, [some (zR 1), some (zI w), some (zI y), some (zI a), some (zI ((zrO (bN B) (rN R) w 0 y a))), some (zI 2)], [], (zw ((sn, sf, 5, 5, 22)) B S33 Z L R M), 0, 0) (44, [some (zR 1), some (zI w), some (zI y), some (zI a), some (zI ((zrO (bN B) (rN R) w 0 y a))), some (zI 2)], [], (zw ((sn, sf, 5, 5, 22)) B S33 Z L R M), 0, 0) rfl ⟨(show (-2147483648 : Int) ≤ 2 ∧ 2 ≤ 2147483647 by omega), trivial⟩ (fun h41 => by exfalso; omega) (fun h41 => ?_)
    refine z_cV c 4 k_5_125 zv_X3_ground (pc := 54) (ls := [some (zR 1), some (zI w), some (zI y), some (zI a), some (zI ((zrO (bN B) (rN R) w 0 y a))), some (zI 2)]) (sk := []) (h := (zw ((sn, sf, 5, 5, 22)) B S33 Z L R M)) (cs := 0) (ss := 0) (c_gS l ((sn, sf, 5, 5, 22)) B S33 Z L R M (rN R) w ((zlast ((bN B)) a)) ((-9)) 2 y hB hl hsi_S33 (by omega) (by omega)) rfl trivial rfl rfl ⟨Nat.le_refl _, Nat.le_refl _⟩ ?_
    rintro _ _ ⟨S51, rfl, rfl, hsi_S51, ha1_S51, hb1_S51, hc1_S51⟩
    have ha_S51 := ha1_S51.trans ha_S33
    have hb_S51 := hb1_S51.trans hb_S33
    have hc_S51 := hc1_S51.trans hc_S33
    have hch_S51 := zch_of hsi_S51 ha_S51 hb_S51 hc_S51 (by omega) (by omega) (by omega)
    have q51 := zF_rng (bT B) (bK B) (bN B) w ((zlast ((bN B)) a)) ((-9)) 2 y
    show V (54, [some (zR 1), some (zI w), some (zI y), some (zI a), some (zI ((zrO (bN B) (rN R) w 0 y a))), some (zI 2)], [zI ((zF (bT B) (bK B) (bN B) w ((zlast ((bN B)) a)) ((-9)) 2 y))], (zw ((sn, sf, 5, 5, 22)) B S51 Z L R M), 0, 0)
    refine z_br c 0 ((zF (bT B) (bK B) (bN B) w ((zlast ((bN B)) a)) ((-9)) 2 y) = 0) (60, [some (zR 1), some (zI w), some (zI y), some (zI a), some (zI ((zrO (bN B) (rN R) w 0 y a))), some (zI 2)], [], (zw ((sn, sf, 5, 5, 22)) B S51 Z L R M), 0, 0) (57, [some (zR 1), some (zI w), some (zI y), some (zI a), some (zI ((zrO (bN B) (rN R) w 0 y a))), some (zI 2)], [], (zw ((sn, sf, 5, 5, 22)) B S51 Z L R M), 0, 0) rfl ⟨(show (-2147483648 : Int) ≤ (zF (bT B) (bK B) (bN B) w ((zlast ((bN B)) a)) ((-9)) 2 y) ∧ (zF (bT B) (bK B) (bN B) w ((zlast ((bN B)) a)) ((-9)) 2 y) ≤ 2147483647 by omega), trivial⟩ (fun h54 => ?_) (fun h54 => ?_)
    · refine z_go c 2 (s1 := (39, [some (zR 1), some (zI w), some (zI y), some (zI a), some (zI ((zrO (bN B) (rN R) w 0 y a))), some (zI ((2 + (-1))))], [], (zw ((sn, sf, 5, 5, 22)) B S51 Z L R M), 0, 0)) rfl trivial ?_
      show V (39, [some (zR 1), some (zI w), some (zI y), some (zI a), some (zI ((zrO (bN B) (rN R) w 0 y a))), some (zI 1)], [], (zw ((sn, sf, 5, 5, 22)) B S51 Z L R M), 0, 0)
      refine z_br c 1 (1 < 0) (66, [some (zR 1), some (zI w), some (zI y), some (zI a), some (zI ((zrO (bN B) (rN R) w 0 y a))), some (zI 1)], [], (zw ((sn, sf, 5, 5, 22)) B S51 Z L R M), 0, 0) (44, [some (zR 1), some (zI w), some (zI y), some (zI a), some (zI ((zrO (bN B) (rN R) w 0 y a))), some (zI 1)], [], (zw ((sn, sf, 5, 5, 22)) B S51 Z L R M), 0, 0) rfl ⟨(show (-2147483648 : Int) ≤ 1 ∧ 1 ≤ 2147483647 by omega), trivial⟩ (fun h41 => by exfalso; omega) (fun h41 => ?_)
      refine z_cV c 4 k_5_125 zv_X3_ground (pc := 54) (ls := [some (zR 1), some (zI w), some (zI y), some (zI a), some (zI ((zrO (bN B) (rN R) w 0 y a))), some (zI 1)]) (sk := []) (h := (zw ((sn, sf, 5, 5, 22)) B S51 Z L R M)) (cs := 0) (ss := 0) (c_gS l ((sn, sf, 5, 5, 22)) B S51 Z L R M (rN R) w ((zlast ((bN B)) a)) ((-9)) 1 y hB hl hsi_S51 (by omega) (by omega)) rfl trivial rfl rfl ⟨Nat.le_refl _, Nat.le_refl _⟩ ?_
      rintro _ _ ⟨S51, rfl, rfl, hsi_S51, ha1_S51, hb1_S51, hc1_S51⟩
      have ha_S51 := ha1_S51.trans ha_S51
      have hb_S51 := hb1_S51.trans hb_S51
      have hc_S51 := hc1_S51.trans hc_S51
      have hch_S51 := zch_of hsi_S51 ha_S51 hb_S51 hc_S51 (by omega) (by omega) (by omega)
      have q51 := zF_rng (bT B) (bK B) (bN B) w ((zlast ((bN B)) a)) ((-9)) 1 y
      show V (54, [some (zR 1), some (zI w), some (zI y), some (zI a), some (zI ((zrO (bN B) (rN R) w 0 y a))), some (zI 1)], [zI ((zF (bT B) (bK B) (bN B) w ((zlast ((bN B)) a)) ((-9)) 1 y))], (zw ((sn, sf, 5, 5, 22)) B S51 Z L R M), 0, 0)
      refine z_br c 0 ((zF (bT B) (bK B) (bN B) w ((zlast ((bN B)) a)) ((-9)) 1 y) = 0) (60, [some (zR 1), some (zI w), some (zI y), some (zI a), some (zI ((zrO (bN B) (rN R) w 0 y a))), some (zI 1)], [], (zw ((sn, sf, 5, 5, 22)) B S51 Z L R M), 0, 0) (57, [some (zR 1), some (zI w), some (zI y), some (zI a), some (zI ((zrO (bN B) (rN R) w 0 y a))), some (zI 1)], [], (zw ((sn, sf, 5, 5, 22)) B S51 Z L R M), 0, 0) rfl ⟨(show (-2147483648 : Int) ≤ (zF (bT B) (bK B) (bN B) w ((zlast ((bN B)) a)) ((-9)) 1 y) ∧ (zF (bT B) (bK B) (bN B) w ((zlast ((bN B)) a)) ((-9)) 1 y) ≤ 2147483647 by omega), trivial⟩ (fun h54 => ?_) (fun h54 => ?_)
      · refine z_go c 2 (s1 := (39, [some (zR 1), some (zI w), some (zI y), some (zI a), some (zI ((zrO (bN B) (rN R) w 0 y a))), some (zI ((1 + (-1))))], [], (zw ((sn, sf, 5, 5, 22)) B S51 Z L R M), 0, 0)) rfl trivial ?_
        show V (39, [some (zR 1), some (zI w), some (zI y), some (zI a), some (zI ((zrO (bN B) (rN R) w 0 y a))), some (zI 0)], [], (zw ((sn, sf, 5, 5, 22)) B S51 Z L R M), 0, 0)
        refine z_br c 1 (0 < 0) (66, [some (zR 1), some (zI w), some (zI y), some (zI a), some (zI ((zrO (bN B) (rN R) w 0 y a))), some (zI 0)], [], (zw ((sn, sf, 5, 5, 22)) B S51 Z L R M), 0, 0) (44, [some (zR 1), some (zI w), some (zI y), some (zI a), some (zI ((zrO (bN B) (rN R) w 0 y a))), some (zI 0)], [], (zw ((sn, sf, 5, 5, 22)) B S51 Z L R M), 0, 0) rfl ⟨(show (-2147483648 : Int) ≤ 0 ∧ 0 ≤ 2147483647 by omega), trivial⟩ (fun h41 => by exfalso; omega) (fun h41 => ?_)
        refine z_cV c 4 k_5_125 zv_X3_ground (pc := 54) (ls := [some (zR 1), some (zI w), some (zI y), some (zI a), some (zI ((zrO (bN B) (rN R) w 0 y a))), some (zI 0)]) (sk := []) (h := (zw ((sn, sf, 5, 5, 22)) B S51 Z L R M)) (cs := 0) (ss := 0) (c_gS l ((sn, sf, 5, 5, 22)) B S51 Z L R M (rN R) w ((zlast ((bN B)) a)) ((-9)) 0 y hB hl hsi_S51 (by omega) (by omega)) rfl trivial rfl rfl ⟨Nat.le_refl _, Nat.le_refl _⟩ ?_
        rintro _ _ ⟨S51, rfl, rfl, hsi_S51, ha1_S51, hb1_S51, hc1_S51⟩
        have ha_S51 := ha1_S51.trans ha_S51
        have hb_S51 := hb1_S51.trans hb_S51
        have hc_S51 := hc1_S51.trans hc_S51
        have hch_S51 := zch_of hsi_S51 ha_S51 hb_S51 hc_S51 (by omega) (by omega) (by omega)
        have q51 := zF_rng (bT B) (bK B) (bN B) w ((zlast ((bN B)) a)) ((-9)) 0 y
        show V (54, [some (zR 1), some (zI w), some (zI y), some (zI a), some (zI ((zrO (bN B) (rN R) w 0 y a))), some (zI 0)], [zI ((zF (bT B) (bK B) (bN B) w ((zlast ((bN B)) a)) ((-9)) 0 y))], (zw ((sn, sf, 5, 5, 22)) B S51 Z L R M), 0, 0)
        refine z_br c 0 ((zF (bT B) (bK B) (bN B) w ((zlast ((bN B)) a)) ((-9)) 0 y) = 0) (60, [some (zR 1), some (zI w), some (zI y), some (zI a), some (zI ((zrO (bN B) (rN R) w 0 y a))), some (zI 0)], [], (zw ((sn, sf, 5, 5, 22)) B S51 Z L R M), 0, 0) (57, [some (zR 1), some (zI w), some (zI y), some (zI a), some (zI ((zrO (bN B) (rN R) w 0 y a))), some (zI 0)], [], (zw ((sn, sf, 5, 5, 22)) B S51 Z L R M), 0, 0) rfl ⟨(show (-2147483648 : Int) ≤ (zF (bT B) (bK B) (bN B) w ((zlast ((bN B)) a)) ((-9)) 0 y) ∧ (zF (bT B) (bK B) (bN B) w ((zlast ((bN B)) a)) ((-9)) 0 y) ≤ 2147483647 by omega), trivial⟩ (fun h54 => ?_) (fun h54 => ?_)
        · refine z_go c 2 (s1 := (39, [some (zR 1), some (zI w), some (zI y), some (zI a), some (zI ((zrO (bN B) (rN R) w 0 y a))), some (zI ((0 + (-1))))], [], (zw ((sn, sf, 5, 5, 22)) B S51 Z L R M), 0, 0)) rfl trivial ?_
          show V (39, [some (zR 1), some (zI w), some (zI y), some (zI a), some (zI ((zrO (bN B) (rN R) w 0 y a))), some (zI ((-1)))], [], (zw ((sn, sf, 5, 5, 22)) B S51 Z L R M), 0, 0)
          refine z_br c 1 ((-1) < 0) (66, [some (zR 1), some (zI w), some (zI y), some (zI a), some (zI ((zrO (bN B) (rN R) w 0 y a))), some (zI ((-1)))], [], (zw ((sn, sf, 5, 5, 22)) B S51 Z L R M), 0, 0) (44, [some (zR 1), some (zI w), some (zI y), some (zI a), some (zI ((zrO (bN B) (rN R) w 0 y a))), some (zI ((-1)))], [], (zw ((sn, sf, 5, 5, 22)) B S51 Z L R M), 0, 0) rfl ⟨(show (-2147483648 : Int) ≤ (-1) ∧ (-1) ≤ 2147483647 by omega), trivial⟩ (fun h41 => ?_) (fun h41 => by exfalso; omega)
          exact z_re c 1 (v := some (zI ((-9)))) (h := (zw ((sn, sf, 5, 5, 22)) B S51 Z L R M)) (cs := 0) (ss := 0) rfl trivial trivial ⟨Nat.le_refl _, Nat.le_refl _⟩ ⟨_, by rw [if_pos (by omega)]; unfold zmo; dsimp only; rw [if_neg (by omega), if_neg (by omega), if_neg (by omega)], rfl, hch_S51⟩
        · exact z_re c 1 (v := some (zI 0)) (h := (zw ((sn, sf, 5, 5, 22)) B S51 Z L R M)) (cs := 0) (ss := 0) rfl trivial trivial ⟨Nat.le_refl _, Nat.le_refl _⟩ ⟨_, by rw [if_pos (by omega)]; unfold zmo; dsimp only; rw [if_neg (by omega), if_neg (by omega), if_pos (by omega)], rfl, hch_S51⟩
      · exact z_re c 1 (v := some (zI 1)) (h := (zw ((sn, sf, 5, 5, 22)) B S51 Z L R M)) (cs := 0) (ss := 0) rfl trivial trivial ⟨Nat.le_refl _, Nat.le_refl _⟩ ⟨_, by rw [if_pos (by omega)]; unfold zmo; dsimp only; rw [if_neg (by omega), if_pos (by omega)], rfl, hch_S51⟩
    · exact z_re c 1 (v := some (zI 2)) (h := (zw ((sn, sf, 5, 5, 22)) B S51 Z L R M)) (cs := 0) (ss := 0) rfl trivial trivial ⟨Nat.le_refl _, Nat.le_refl _⟩ ⟨_, by rw [if_pos (by omega)]; unfold zmo; dsimp only; rw [if_pos (by omega)], rfl, hch_S51⟩
  · exact z_re c 1 (v := some (zI ((zrO (bN B) (rN R) w 0 y a)))) (h := (zw ((sn, sf, 5, 5, 22)) B S Z L R M)) (cs := 0) (ss := 0) rfl trivial trivial ⟨Nat.le_refl _, Nat.le_refl _⟩ ⟨S, by rw [if_neg (by omega)], rfl, hch_S⟩
set_option maxRecDepth 4000 in
theorem c_X5_since (l : Launch) (sn : Nat) (sf : Int → Int) (B : ZBk) (S Z : ZSg) (L : ZLn) (R : ZRd) (M : ZMd) (w k a : Int) (hB : zBv (bT B) (bK B) (bN B) (rN R)) (hch_S : zch (bT B) (bK B) (bN B) S) (hr : 0 ≤ rN R ∧ rN R ≤ 12) (hw : (-2147483648 ≤ w ∧ w ≤ 2147483647)) (hk : (-2147483648 ≤ k ∧ k ≤ 2147483647)) (ha : (-2147483648 ≤ a ∧ a ≤ 2147483647)) : zMet l m_X5_since [zR 1, zI w, zI k, zI a] (zw ((sn, sf, 5, 5, 22)) B S Z L R M) (fun v h1 => ∃ S1, v = some (zI (if (zrO (bN B) (rN R) w k 0 a) = 0 then zmn (fun y => !decide (zF (bT B) (bK B) (bN B) w (zlast (bN B) a) (-9) k y = 0)) 0 101 else (zrO (bN B) (rN R) w k 0 a))) ∧ (zw ((sn, sf, 5, 5, 22)) B S1 Z L R M) = h1 ∧ zch (bT B) (bK B) (bN B) S1) := by
  refine z_method g_X5_since [some (zR 1), some (zI w), some (zI k), some (zI a), none, none] rfl rfl (fun V c => ?_)
  have hn := hB.1
  refine z_cV c 5 k_5_96 zv_X5_refusalOf (pc := 8) (ls := [some (zR 1), some (zI w), some (zI k), some (zI a), none, none]) (sk := []) (h := (zw ((sn, sf, 5, 5, 22)) B S Z L R M)) (cs := 0) (ss := 0) (c_X5_refusalOf l sn sf B S Z L R M w k 0 a hn hr (by omega) (by omega) (by omega) (by omega)) rfl trivial rfl rfl ⟨Nat.le_refl _, Nat.le_refl _⟩ ?_
  rintro _ _ ⟨rfl, rfl⟩
  have hro := zrO_c (bN B) (rN R) w k 0 a
  show V (8, [some (zR 1), some (zI w), some (zI k), some (zI a), none, none], [zI ((zrO (bN B) (rN R) w k 0 a))], (zw ((sn, sf, 5, 5, 22)) B S Z L R M), 0, 0)
  refine z_br c 2 ((zrO (bN B) (rN R) w k 0 a) = 0) (18, [some (zR 1), some (zI w), some (zI k), some (zI a), some (zI ((zrO (bN B) (rN R) w k 0 a))), none], [], (zw ((sn, sf, 5, 5, 22)) B S Z L R M), 0, 0) (15, [some (zR 1), some (zI w), some (zI k), some (zI a), some (zI ((zrO (bN B) (rN R) w k 0 a))), none], [], (zw ((sn, sf, 5, 5, 22)) B S Z L R M), 0, 0) rfl ⟨(show (-2147483648 : Int) ≤ (zrO (bN B) (rN R) w k 0 a) ∧ (zrO (bN B) (rN R) w k 0 a) ≤ 2147483647 by omega), trivial⟩ (fun h12 => ?_) (fun h12 => ?_)
  · obtain ⟨g0, g1, g2, g3, g4⟩ := hro.resolve_right (by omega)
    have hl := zlast_rng hn.1 g2
    refine z_cV c 6 k_5_86 zv_X0_lastOf (pc := 31) (ls := [some (zR 1), some (zI w), some (zI k), some (zI a), some (zI ((zrO (bN B) (rN R) w k 0 a))), none]) (sk := [zI w, zR 5]) (h := (zw ((sn, sf, 5, 5, 22)) B S Z L R M)) (cs := 0) (ss := 0) (c_X0_lastOf l ((sn, sf, 5, 5, 22)) B S Z L R M a (by omega)) rfl trivial rfl rfl ⟨Nat.le_refl _, Nat.le_refl _⟩ ?_
    rintro _ _ ⟨rfl, rfl⟩
    show V (31, [some (zR 1), some (zI w), some (zI k), some (zI a), some (zI ((zrO (bN B) (rN R) w k 0 a))), none], [zI ((zlast ((bN B)) a)), zI w, zR 5], (zw ((sn, sf, 5, 5, 22)) B S Z L R M), 0, 0)
    refine z_cV c 1 k_5_100 zv_X3_look (pc := 36) (ls := [some (zR 1), some (zI w), some (zI k), some (zI a), some (zI ((zrO (bN B) (rN R) w k 0 a))), none]) (sk := []) (h := (zw ((sn, sf, 5, 5, 22)) B S Z L R M)) (cs := 0) (ss := 0) (c_lookS l ((sn, sf, 5, 5, 22)) B S Z L R M (rN R) w ((zlast ((bN B)) a)) ((-9)) hB (by omega) hl (by omega) hch_S) rfl trivial rfl rfl ⟨Nat.le_refl _, Nat.le_refl _⟩ ?_
    rintro _ _ ⟨rfl, S33, rfl, hsi_S33, ha_S33, hb_S33, hc_S33⟩
    have hch_S33 := zch_of hsi_S33 ha_S33 hb_S33 hc_S33 (by omega) (by omega) (by omega)
    obtain ⟨v1, v2, v3⟩ := zBv_lim hB hl
    obtain ⟨r1, r2, r3, r4, r5, r6, r7⟩ := zSi_rng hsi_S33 v1 v2 v3
    show V (36, [some (zR 1), some (zI w), some (zI k), some (zI a), some (zI ((zrO (bN B) (rN R) w k 0 a))), none], [], (zw ((sn, sf, 5, 5, 22)) B S33 Z L R M), 0, 0)
    refine z_go c 2 (s1 := (39, [some (zR 1), some (zI w), some (zI k), some (zI a), some (zI ((zrO (bN B) (rN R) w k 0 a))), some (zI 0)], [], (zw ((sn, sf, 5, 5, 22)) B S33 Z L R M), 0, 0)) rfl trivial ?_
    have loop : ∀ (x m : Nat) (S1 : ZSg), 101 - m < x → m ≤ 101 → zSi (bT B) (bN B) (zcB (bK B) (bN B) (zlast (bN B) a) (-9)) ((zlast (bN B) a) + 1).toNat w S1 → sWay S1 = w → sLast S1 = (zlast (bN B) a) → sWo S1 = -9 → zmn (fun y => !decide (zF (bT B) (bK B) (bN B) w (zlast (bN B) a) (-9) k y = 0)) 0 101 = zmn (fun y => !decide (zF (bT B) (bK B) (bN B) w (zlast (bN B) a) (-9) k y = 0)) (m : Int) (101 - m) → V (39, [some (zR 1), some (zI w), some (zI k), some (zI a), some (zI ((zrO (bN B) (rN R) w k 0 a))), some (zI ((m : Int)))], [], (zw ((sn, sf, 5, 5, 22)) B S1 Z L R M), 0, 0) := by
      intro x
      induction x with
      | zero => intro m S1 h1 h2; exfalso; omega
      | succ x ih =>
        intro m S1 hm1 hm2 hsi_S1 ha_S1 hb_S1 hc_S1 hz
        have hch_S1 := zch_of hsi_S1 ha_S1 hb_S1 hc_S1 (by omega) (by omega) (by omega)
        refine z_br c 2 (101 ≤ (m : Int)) (68, [some (zR 1), some (zI w), some (zI k), some (zI a), some (zI ((zrO (bN B) (rN R) w k 0 a))), some (zI ((m : Int)))], [], (zw ((sn, sf, 5, 5, 22)) B S1 Z L R M), 0, 0) (46, [some (zR 1), some (zI w), some (zI k), some (zI a), some (zI ((zrO (bN B) (rN R) w k 0 a))), some (zI ((m : Int)))], [], (zw ((sn, sf, 5, 5, 22)) B S1 Z L R M), 0, 0) rfl ⟨(show ((-2147483648 : Int) ≤ (m : Int) ∧ (m : Int) ≤ 2147483647) ∧ (-2147483648 : Int) ≤ 101 ∧ 101 ≤ 2147483647 by omega), trivial⟩ (fun h43 => ?_) (fun h43 => ?_)
        · exact z_re c 1 (v := some (zI ((-9)))) (h := (zw ((sn, sf, 5, 5, 22)) B S1 Z L R M)) (cs := 0) (ss := 0) rfl trivial trivial ⟨Nat.le_refl _, Nat.le_refl _⟩ ⟨_, by rw [if_pos (by omega)]; rw [hz, show 101 - m = 0 by omega]; rfl, rfl, hch_S1⟩
        · have hz2 : zmn (fun y => !decide (zF (bT B) (bK B) (bN B) w (zlast (bN B) a) (-9) k y = 0)) (m : Int) (101 - m) = if (fun y => !decide (zF (bT B) (bK B) (bN B) w (zlast (bN B) a) (-9) k y = 0)) (m : Int) = true then (m : Int) else zmn (fun y => !decide (zF (bT B) (bK B) (bN B) w (zlast (bN B) a) (-9) k y = 0)) ((m : Int) + 1) (101 - (m + 1)) := by
            rw [show 101 - m = (101 - (m + 1)) + 1 by omega]; rfl
          have hnr : (fun y => !decide (zF (bT B) (bK B) (bN B) w (zlast (bN B) a) (-9) k y = 0)) (m : Int) = true ↔ ¬ zF (bT B) (bK B) (bN B) w (zlast (bN B) a) (-9) k (m : Int) = 0 := by simp
          refine z_cV c 4 k_5_125 zv_X3_ground (pc := 56) (ls := [some (zR 1), some (zI w), some (zI k), some (zI a), some (zI ((zrO (bN B) (rN R) w k 0 a))), some (zI ((m : Int)))]) (sk := []) (h := (zw ((sn, sf, 5, 5, 22)) B S1 Z L R M)) (cs := 0) (ss := 0) (c_gS l ((sn, sf, 5, 5, 22)) B S1 Z L R M (rN R) w ((zlast ((bN B)) a)) ((-9)) k ((m : Int)) hB hl hsi_S1 (by omega) (by omega)) rfl trivial rfl rfl ⟨Nat.le_refl _, Nat.le_refl _⟩ ?_
          rintro _ _ ⟨S53, rfl, rfl, hsi_S53, ha1_S53, hb1_S53, hc1_S53⟩
          have ha_S53 := ha1_S53.trans ha_S1
          have hb_S53 := hb1_S53.trans hb_S1
          have hc_S53 := hc1_S53.trans hc_S1
          have hch_S53 := zch_of hsi_S53 ha_S53 hb_S53 hc_S53 (by omega) (by omega) (by omega)
          have q53 := zF_rng (bT B) (bK B) (bN B) w ((zlast ((bN B)) a)) ((-9)) k ((m : Int))
          show V (56, [some (zR 1), some (zI w), some (zI k), some (zI a), some (zI ((zrO (bN B) (rN R) w k 0 a))), some (zI ((m : Int)))], [zI ((zF (bT B) (bK B) (bN B) w ((zlast ((bN B)) a)) ((-9)) k ((m : Int))))], (zw ((sn, sf, 5, 5, 22)) B S53 Z L R M), 0, 0)
          refine z_br c 0 ((zF (bT B) (bK B) (bN B) w ((zlast ((bN B)) a)) ((-9)) k ((m : Int))) = 0) (62, [some (zR 1), some (zI w), some (zI k), some (zI a), some (zI ((zrO (bN B) (rN R) w k 0 a))), some (zI ((m : Int)))], [], (zw ((sn, sf, 5, 5, 22)) B S53 Z L R M), 0, 0) (59, [some (zR 1), some (zI w), some (zI k), some (zI a), some (zI ((zrO (bN B) (rN R) w k 0 a))), some (zI ((m : Int)))], [], (zw ((sn, sf, 5, 5, 22)) B S53 Z L R M), 0, 0) rfl ⟨(show (-2147483648 : Int) ≤ (zF (bT B) (bK B) (bN B) w ((zlast ((bN B)) a)) ((-9)) k ((m : Int))) ∧ (zF (bT B) (bK B) (bN B) w ((zlast ((bN B)) a)) ((-9)) k ((m : Int))) ≤ 2147483647 by omega), trivial⟩ (fun h56 => ?_) (fun h56 => ?_)
          · have hno : ¬ (fun y => !decide (zF (bT B) (bK B) (bN B) w (zlast (bN B) a) (-9) k y = 0)) (m : Int) = true := fun z => by have z1 := hnr.mp z; omega
            rw [if_neg hno] at hz2
            exact z_go c 2 (s1 := (39, [some (zR 1), some (zI w), some (zI k), some (zI a), some (zI ((zrO (bN B) (rN R) w k 0 a))), some (zI (((m : Int) + 1)))], [], (zw ((sn, sf, 5, 5, 22)) B S53 Z L R M), 0, 0)) rfl trivial (ih (m + 1) S53 (by omega) (by omega) hsi_S53 ha_S53 hb_S53 hc_S53 (hz.trans hz2))
          · exact z_re c 1 (v := some (zI ((m : Int)))) (h := (zw ((sn, sf, 5, 5, 22)) B S53 Z L R M)) (cs := 0) (ss := 0) rfl trivial trivial ⟨Nat.le_refl _, Nat.le_refl _⟩ ⟨_, by rw [if_pos (by omega)]; rw [hz, hz2, if_pos (hnr.mpr (by omega))], rfl, hch_S53⟩
    exact loop 102 0 S33 (by omega) (by omega) hsi_S33 ha_S33 hb_S33 hc_S33 rfl
  · exact z_re c 1 (v := some (zI ((zrO (bN B) (rN R) w k 0 a)))) (h := (zw ((sn, sf, 5, 5, 22)) B S Z L R M)) (cs := 0) (ss := 0) rfl trivial trivial ⟨Nat.le_refl _, Nat.le_refl _⟩ ⟨S, by rw [if_neg (by omega)], rfl, hch_S⟩
set_option maxRecDepth 4000 in
theorem c_X5_good (l : Launch) (sn : Nat) (sf : Int → Int) (B : ZBk) (S Z : ZSg) (L : ZLn) (R : ZRd) (M : ZMd) (p a : Int) (hB : zBv (bT B) (bK B) (bN B) (rN R)) (hch_S : zch (bT B) (bK B) (bN B) S) (hr : 0 ≤ rN R ∧ rN R ≤ 12) (hp : (-2147483648 ≤ p ∧ p ≤ 2147483647)) (ha : (-2147483648 ≤ a ∧ a ≤ 2147483647)) : zMet l m_X5_good [zR 1, zI p, zI a] (zw ((sn, sf, 5, 5, 22)) B S Z L R M) (fun v h1 => ∃ S1, v = some (zI (if (0 ≤ p ∧ p < bN B) ∧ (a = -9 ∨ (0 ≤ a ∧ a < bN B)) then (if bT B (p * 12 + 0) = 3 ∨ bT B (p * 12 + 0) = 4 then (if (zinG (zVg (bT B) (bN B) (zcB (bK B) (bN B) (zlast (bN B) a) (-9)) (bT B (p * 12 + 1)) ((zlast (bN B) a) + 1).toNat).1 p (zVg (bT B) (bN B) (zcB (bK B) (bN B) (zlast (bN B) a) (-9)) (bT B (p * 12 + 1)) ((zlast (bN B) a) + 1).toNat).2.toNat) = true then 1 else 0) else -13) else -1)) ∧ (zw ((sn, sf, 5, 5, 22)) B S1 Z L R M) = h1 ∧ zch (bT B) (bK B) (bN B) S1) := by
  refine z_method g_X5_good [some (zR 1), some (zI p), some (zI a)] rfl rfl (fun V c => ?_)
  have hn := hB.1
  refine z_cV c 3 k_5_69 zv_X0_has (pc := 8) (ls := [some (zR 1), some (zI p), some (zI a)]) (sk := []) (h := (zw ((sn, sf, 5, 5, 22)) B S Z L R M)) (cs := 0) (ss := 0) (c_X0_has l ((sn, sf, 5, 5, 22)) B S Z L R M p (show 0 ≤ (bN B) ∧ (bN B) ≤ 100 by omega) (by omega)) rfl trivial rfl rfl ⟨Nat.le_refl _, Nat.le_refl _⟩ ?_
  rintro _ _ ⟨r5, rfl, e5, rfl⟩
  replace e5 : ((0 ≤ p ∧ p < (bN B)) ∧ r5 = 1) ∨ (¬ (0 ≤ p ∧ p < (bN B)) ∧ r5 = 0) := e5
  show V (8, [some (zR 1), some (zI p), some (zI a)], [zI r5], (zw ((sn, sf, 5, 5, 22)) B S Z L R M), 0, 0)
  refine z_br c 0 (r5 = 0) (22, [some (zR 1), some (zI p), some (zI a)], [], (zw ((sn, sf, 5, 5, 22)) B S Z L R M), 0, 0) (11, [some (zR 1), some (zI p), some (zI a)], [], (zw ((sn, sf, 5, 5, 22)) B S Z L R M), 0, 0) rfl ⟨(show (-2147483648 : Int) ≤ r5 ∧ r5 ≤ 2147483647 by omega), trivial⟩ (fun h8 => ?_) (fun h8 => ?_)
  · exact z_re c 1 (v := some (zI ((-1)))) (h := (zw ((sn, sf, 5, 5, 22)) B S Z L R M)) (cs := 0) (ss := 0) rfl trivial trivial ⟨Nat.le_refl _, Nat.le_refl _⟩ ⟨S, by rw [if_neg (by omega)], rfl, hch_S⟩
  · refine z_cV c 3 k_5_83 zv_X0_hasAs (pc := 19) (ls := [some (zR 1), some (zI p), some (zI a)]) (sk := []) (h := (zw ((sn, sf, 5, 5, 22)) B S Z L R M)) (cs := 0) (ss := 0) (c_X0_hasAs l ((sn, sf, 5, 5, 22)) B S Z L R M a (show 0 ≤ (bN B) ∧ (bN B) ≤ 100 by omega) (by omega)) rfl trivial rfl rfl ⟨Nat.le_refl _, Nat.le_refl _⟩ ?_
    rintro _ _ ⟨r16, rfl, e16, rfl⟩
    replace e16 : ((a = -9 ∨ (0 ≤ a ∧ a < (bN B))) ∧ r16 = 1) ∨ (¬ (a = -9 ∨ (0 ≤ a ∧ a < (bN B))) ∧ r16 = 0) := e16
    show V (19, [some (zR 1), some (zI p), some (zI a)], [zI r16], (zw ((sn, sf, 5, 5, 22)) B S Z L R M), 0, 0)
    refine z_br c 0 (¬ r16 = 0) (24, [some (zR 1), some (zI p), some (zI a)], [], (zw ((sn, sf, 5, 5, 22)) B S Z L R M), 0, 0) (22, [some (zR 1), some (zI p), some (zI a)], [], (zw ((sn, sf, 5, 5, 22)) B S Z L R M), 0, 0) rfl ⟨(show (-2147483648 : Int) ≤ r16 ∧ r16 ≤ 2147483647 by omega), trivial⟩ (fun h19 => ?_) (fun h19 => ?_)
    · refine z_cV c 4 k_5_70 zv_X0_read (pc := 33) (ls := [some (zR 1), some (zI p), some (zI a)]) (sk := []) (h := (zw ((sn, sf, 5, 5, 22)) B S Z L R M)) (cs := 0) (ss := 0) (c_X0_read l ((sn, sf, 5, 5, 22)) B S Z L R M p 0 (show 0 ≤ (bN B) ∧ (bN B) ≤ 100 by omega) (by omega) (by omega)) rfl trivial rfl rfl ⟨Nat.le_refl _, Nat.le_refl _⟩ ?_
      rintro _ _ ⟨rfl, rfl⟩
      have q30 := zrd_rng hB.2.1 p 0
      rw [zrd_in (by omega)] at q30 ⊢
      show V (33, [some (zR 1), some (zI p), some (zI a)], [zI ((bT B (p * 12 + 0)))], (zw ((sn, sf, 5, 5, 22)) B S Z L R M), 0, 0)
      refine z_cS c 0 k_5_128 zv_X5_isOrder (pc := 36) (ls := [some (zR 1), some (zI p), some (zI a)]) (sk := []) (h := (zw ((sn, sf, 5, 5, 22)) B S Z L R M)) (cs := 0) (ss := 0) (c_X5_isOrder l (zw ((sn, sf, 5, 5, 22)) B S Z L R M) ((bT B (p * 12 + 0))) (by omega)) rfl trivial rfl ⟨Nat.le_refl _, Nat.le_refl _⟩ ?_
      rintro _ _ ⟨r33, rfl, e33, rfl⟩
      show V (36, [some (zR 1), some (zI p), some (zI a)], [zI r33], (zw ((sn, sf, 5, 5, 22)) B S Z L R M), 0, 0)
      refine z_br c 0 (¬ r33 = 0) (42, [some (zR 1), some (zI p), some (zI a)], [], (zw ((sn, sf, 5, 5, 22)) B S Z L R M), 0, 0) (39, [some (zR 1), some (zI p), some (zI a)], [], (zw ((sn, sf, 5, 5, 22)) B S Z L R M), 0, 0) rfl ⟨(show (-2147483648 : Int) ≤ r33 ∧ r33 ≤ 2147483647 by omega), trivial⟩ (fun h36 => ?_) (fun h36 => ?_)
      · have hl : -1 ≤ zlast (bN B) a ∧ zlast (bN B) a < bN B := zlast_rng hn.1 (by omega)
        have hvp := hB.2.2.2.1 p.toNat (by omega)
        rw [show ((p.toNat : Nat) : Int) = p by omega] at hvp
        have hway : 0 ≤ bT B (p * 12 + 1) ∧ bT B (p * 12 + 1) < rN R := by unfold zvp at hvp; omega
        have hA : (0 ≤ p ∧ p < bN B) ∧ (a = -9 ∨ (0 ≤ a ∧ a < bN B)) := by omega
        have hC : bT B (p * 12 + 0) = 3 ∨ bT B (p * 12 + 0) = 4 := by omega
        refine z_cV c 6 k_5_70 zv_X0_read (pc := 55) (ls := [some (zR 1), some (zI p), some (zI a)]) (sk := [zR 5]) (h := (zw ((sn, sf, 5, 5, 22)) B S Z L R M)) (cs := 0) (ss := 0) (c_X0_read l ((sn, sf, 5, 5, 22)) B S Z L R M p 1 (show 0 ≤ (bN B) ∧ (bN B) ≤ 100 by omega) (by omega) (by omega)) rfl trivial rfl rfl ⟨Nat.le_refl _, Nat.le_refl _⟩ ?_
        rintro _ _ ⟨rfl, rfl⟩
        have q52 := zrd_rng hB.2.1 p 1
        rw [zrd_in (by omega)] at q52 ⊢
        show V (55, [some (zR 1), some (zI p), some (zI a)], [zI ((bT B (p * 12 + 1))), zR 5], (zw ((sn, sf, 5, 5, 22)) B S Z L R M), 0, 0)
        refine z_cV c 3 k_5_86 zv_X0_lastOf (pc := 63) (ls := [some (zR 1), some (zI p), some (zI a)]) (sk := [zI ((bT B (p * 12 + 1))), zR 5]) (h := (zw ((sn, sf, 5, 5, 22)) B S Z L R M)) (cs := 0) (ss := 0) (c_X0_lastOf l ((sn, sf, 5, 5, 22)) B S Z L R M a (by omega)) rfl trivial rfl rfl ⟨Nat.le_refl _, Nat.le_refl _⟩ ?_
        rintro _ _ ⟨rfl, rfl⟩
        show V (63, [some (zR 1), some (zI p), some (zI a)], [zI ((zlast ((bN B)) a)), zI ((bT B (p * 12 + 1))), zR 5], (zw ((sn, sf, 5, 5, 22)) B S Z L R M), 0, 0)
        refine z_cV c 1 k_5_100 zv_X3_look (pc := 68) (ls := [some (zR 1), some (zI p), some (zI a)]) (sk := []) (h := (zw ((sn, sf, 5, 5, 22)) B S Z L R M)) (cs := 0) (ss := 0) (c_lookS l ((sn, sf, 5, 5, 22)) B S Z L R M (rN R) ((bT B (p * 12 + 1))) ((zlast ((bN B)) a)) ((-9)) hB (by omega) hl (by omega) hch_S) rfl trivial rfl rfl ⟨Nat.le_refl _, Nat.le_refl _⟩ ?_
        rintro _ _ ⟨rfl, S65, rfl, hsi_S65, ha_S65, hb_S65, hc_S65⟩
        have hch_S65 := zch_of hsi_S65 ha_S65 hb_S65 hc_S65 (by omega) (by omega) (by omega)
        obtain ⟨v1, v2, v3⟩ := zBv_lim hB hl
        obtain ⟨r1, r2, r3, r4, r5, r6, r7⟩ := zSi_rng hsi_S65 v1 v2 v3
        show V (68, [some (zR 1), some (zI p), some (zI a)], [], (zw ((sn, sf, 5, 5, 22)) B S65 Z L R M), 0, 0)
        refine z_cV c 3 k_5_131 zv_X3_hasGood (pc := 76) (ls := [some (zR 1), some (zI p), some (zI a)]) (sk := []) (h := (zw ((sn, sf, 5, 5, 22)) B S65 Z L R M)) (cs := 0) (ss := 0) (c_X3_hasGood l ((sn, sf, 5, 5, 22)) B S65 Z L R M p r6 r7 (by omega)) rfl trivial rfl rfl ⟨Nat.le_refl _, Nat.le_refl _⟩ ?_
        rintro _ _ ⟨g76, rfl, eg, rfl⟩
        show V (76, [some (zR 1), some (zI p), some (zI a)], [zI g76], (zw ((sn, sf, 5, 5, 22)) B S65 Z L R M), 0, 0)
        have hgg : (if (zinG (zVg (bT B) (bN B) (zcB (bK B) (bN B) (zlast (bN B) a) (-9)) (bT B (p * 12 + 1)) ((zlast (bN B) a) + 1).toNat).1 p (zVg (bT B) (bN B) (zcB (bK B) (bN B) (zlast (bN B) a) (-9)) (bT B (p * 12 + 1)) ((zlast (bN B) a) + 1).toNat).2.toNat) = true then (1 : Int) else 0) = g76 := by
          have q1 := hsi_S65.2.2.2.2.1
          have q2 := zinG_iff (g := (zVg (bT B) (bN B) (zcB (bK B) (bN B) (zlast (bN B) a) (-9)) (bT B (p * 12 + 1)) ((zlast (bN B) a) + 1).toNat).1) (p := p) (zVg (bT B) (bN B) (zcB (bK B) (bN B) (zlast (bN B) a) (-9)) (bT B (p * 12 + 1)) ((zlast (bN B) a) + 1).toNat).2.toNat
          rcases eg with ⟨⟨i, i1, i2, i3⟩, e⟩ | ⟨e2, e⟩
          · rw [if_pos (q2.mpr ⟨i, i1, by omega, by rw [← q1.2 i i1 i2]; exact i3⟩), e]
          · rw [if_neg (fun z => by
              obtain ⟨i, i1, i2, i3⟩ := q2.mp z
              exact e2 ⟨i, i1, by omega, by rw [q1.2 i i1 (by omega)]; exact i3⟩), e]
        refine z_cS c 0 k_5_92 zv_X5_yes (pc := 79) (ls := [some (zR 1), some (zI p), some (zI a)]) (sk := []) (h := (zw ((sn, sf, 5, 5, 22)) B S65 Z L R M)) (cs := 0) (ss := 0) (c_X5_yes l (zw ((sn, sf, 5, 5, 22)) B S65 Z L R M) g76 (by omega)) rfl trivial rfl ⟨Nat.le_refl _, Nat.le_refl _⟩ ?_
        rintro _ _ ⟨rfl, rfl⟩
        show V (79, [some (zR 1), some (zI p), some (zI a)], [zI g76], (zw ((sn, sf, 5, 5, 22)) B S65 Z L R M), 0, 0)
        exact z_re c 0 (v := some (zI g76)) (h := (zw ((sn, sf, 5, 5, 22)) B S65 Z L R M)) (cs := 0) (ss := 0) rfl trivial trivial ⟨Nat.le_refl _, Nat.le_refl _⟩ ⟨_, by rw [if_pos hA, if_pos hC, hgg], rfl, hch_S65⟩
      · exact z_re c 1 (v := some (zI ((-13)))) (h := (zw ((sn, sf, 5, 5, 22)) B S Z L R M)) (cs := 0) (ss := 0) rfl trivial trivial ⟨Nat.le_refl _, Nat.le_refl _⟩ ⟨S, by rw [if_pos (by omega), if_neg (by omega)], rfl, hch_S⟩
    · exact z_re c 1 (v := some (zI ((-1)))) (h := (zw ((sn, sf, 5, 5, 22)) B S Z L R M)) (cs := 0) (ss := 0) rfl trivial trivial ⟨Nat.le_refl _, Nat.le_refl _⟩ ⟨S, by rw [if_neg (by omega)], rfl, hch_S⟩
set_option maxRecDepth 4000 in
theorem c_X5_leans (l : Launch) (sn : Nat) (sf : Int → Int) (B : ZBk) (S Z : ZSg) (L : ZLn) (R : ZRd) (M : ZMd) (p w k y a : Int) (hB : zBv (bT B) (bK B) (bN B) (rN R)) (hch_S : zch (bT B) (bK B) (bN B) S) (hch_Z : zch (bT B) (bK B) (bN B) Z) (hr : 0 ≤ rN R ∧ rN R ≤ 12) (hp : (-2147483648 ≤ p ∧ p ≤ 2147483647)) (hw : (-2147483648 ≤ w ∧ w ≤ 2147483647)) (hk : (-2147483648 ≤ k ∧ k ≤ 2147483647)) (hy : (-2147483648 ≤ y ∧ y ≤ 2147483647)) (ha : (-2147483648 ≤ a ∧ a ≤ 2147483647)) : zMet l m_X5_leans [zR 1, zI p, zI w, zI k, zI y, zI a] (zw ((sn, sf, 5, 5, 22)) B S Z L R M) (fun v h1 => ∃ S1 Z1, v = some (zI (if 0 ≤ p ∧ p < bN B then (if (zrO (bN B) (rN R) w k y a) = 0 then (if (zlP (bT B) (bK B) (bN B) w k y (zlast (bN B) a)) p = true then 1 else 0) else (zrO (bN B) (rN R) w k y a)) else -1)) ∧ (zw ((sn, sf, 5, 5, 22)) B S1 Z1 L R M) = h1 ∧ zch (bT B) (bK B) (bN B) S1 ∧ zch (bT B) (bK B) (bN B) Z1) := by
  refine z_method g_X5_leans [some (zR 1), some (zI p), some (zI w), some (zI k), some (zI y), some (zI a), none] rfl rfl (fun V c => ?_)
  have hn := hB.1
  refine z_cV c 3 k_5_69 zv_X0_has (pc := 8) (ls := [some (zR 1), some (zI p), some (zI w), some (zI k), some (zI y), some (zI a), none]) (sk := []) (h := (zw ((sn, sf, 5, 5, 22)) B S Z L R M)) (cs := 0) (ss := 0) (c_X0_has l ((sn, sf, 5, 5, 22)) B S Z L R M p (show 0 ≤ (bN B) ∧ (bN B) ≤ 100 by omega) (by omega)) rfl trivial rfl rfl ⟨Nat.le_refl _, Nat.le_refl _⟩ ?_
  rintro _ _ ⟨r5, rfl, e5, rfl⟩
  replace e5 : ((0 ≤ p ∧ p < (bN B)) ∧ r5 = 1) ∨ (¬ (0 ≤ p ∧ p < (bN B)) ∧ r5 = 0) := e5
  show V (8, [some (zR 1), some (zI p), some (zI w), some (zI k), some (zI y), some (zI a), none], [zI r5], (zw ((sn, sf, 5, 5, 22)) B S Z L R M), 0, 0)
  refine z_br c 0 (¬ r5 = 0) (13, [some (zR 1), some (zI p), some (zI w), some (zI k), some (zI y), some (zI a), none], [], (zw ((sn, sf, 5, 5, 22)) B S Z L R M), 0, 0) (11, [some (zR 1), some (zI p), some (zI w), some (zI k), some (zI y), some (zI a), none], [], (zw ((sn, sf, 5, 5, 22)) B S Z L R M), 0, 0) rfl ⟨(show (-2147483648 : Int) ≤ r5 ∧ r5 ≤ 2147483647 by omega), trivial⟩ (fun h8 => ?_) (fun h8 => ?_)
  · refine z_cV c 5 k_5_96 zv_X5_refusalOf (pc := 23) (ls := [some (zR 1), some (zI p), some (zI w), some (zI k), some (zI y), some (zI a), none]) (sk := []) (h := (zw ((sn, sf, 5, 5, 22)) B S Z L R M)) (cs := 0) (ss := 0) (c_X5_refusalOf l sn sf B S Z L R M w k y a hn hr (by omega) (by omega) (by omega) (by omega)) rfl trivial rfl rfl ⟨Nat.le_refl _, Nat.le_refl _⟩ ?_
    rintro _ _ ⟨rfl, rfl⟩
    have hro := zrO_c (bN B) (rN R) w k y a
    show V (23, [some (zR 1), some (zI p), some (zI w), some (zI k), some (zI y), some (zI a), none], [zI ((zrO (bN B) (rN R) w k y a))], (zw ((sn, sf, 5, 5, 22)) B S Z L R M), 0, 0)
    refine z_br c 2 ((zrO (bN B) (rN R) w k y a) = 0) (33, [some (zR 1), some (zI p), some (zI w), some (zI k), some (zI y), some (zI a), some (zI ((zrO (bN B) (rN R) w k y a)))], [], (zw ((sn, sf, 5, 5, 22)) B S Z L R M), 0, 0) (30, [some (zR 1), some (zI p), some (zI w), some (zI k), some (zI y), some (zI a), some (zI ((zrO (bN B) (rN R) w k y a)))], [], (zw ((sn, sf, 5, 5, 22)) B S Z L R M), 0, 0) rfl ⟨(show (-2147483648 : Int) ≤ (zrO (bN B) (rN R) w k y a) ∧ (zrO (bN B) (rN R) w k y a) ≤ 2147483647 by omega), trivial⟩ (fun h27 => ?_) (fun h27 => ?_)
    · obtain ⟨g0, g1, g2, g3, g4⟩ := hro.resolve_right (by omega)
      have hl := zlast_rng hn.1 g2
      refine z_cV c 9 k_5_86 zv_X0_lastOf (pc := 51) (ls := [some (zR 1), some (zI p), some (zI w), some (zI k), some (zI y), some (zI a), some (zI ((zrO (bN B) (rN R) w k y a)))]) (sk := [zI y, zI k, zI w, zI p, zR 20]) (h := (zw ((sn, sf, 5, 5, 22)) B S Z L R M)) (cs := 0) (ss := 0) (c_X0_lastOf l ((sn, sf, 5, 5, 22)) B S Z L R M a (by omega)) rfl trivial rfl rfl ⟨Nat.le_refl _, Nat.le_refl _⟩ ?_
      rintro _ _ ⟨rfl, rfl⟩
      show V (51, [some (zR 1), some (zI p), some (zI w), some (zI k), some (zI y), some (zI a), some (zI ((zrO (bN B) (rN R) w k y a)))], [zI ((zlast ((bN B)) a)), zI y, zI k, zI w, zI p, zR 20], (zw ((sn, sf, 5, 5, 22)) B S Z L R M), 0, 0)
      refine z_cV c 0 k_5_134 zv_X1_isOn (pc := 54) (ls := [some (zR 1), some (zI p), some (zI w), some (zI k), some (zI y), some (zI a), some (zI ((zrO (bN B) (rN R) w k y a)))]) (sk := []) (h := (zw ((sn, sf, 5, 5, 22)) B S Z L R M)) (cs := 0) (ss := 0) (c_X1_isOn l sn sf B S Z L R M (rN R) p w k y ((zlast ((bN B)) a)) hB hch_S hch_Z (by omega) (by omega) (by omega) (by omega) hl) rfl trivial rfl rfl ⟨Nat.le_refl _, Nat.le_refl _⟩ ?_
      rintro _ _ ⟨g51, S51, Z51, rfl, eg, rfl, hch_S51, hch_Z51⟩
      show V (54, [some (zR 1), some (zI p), some (zI w), some (zI k), some (zI y), some (zI a), some (zI ((zrO (bN B) (rN R) w k y a)))], [zI g51], (zw ((sn, sf, 5, 5, 22)) B S51 Z51 L R M), 0, 0)
      have hgg : (if (zlP (bT B) (bK B) (bN B) w k y (zlast (bN B) a)) p = true then (1 : Int) else 0) = g51 := by
        rcases eg with ⟨e1, e⟩ | ⟨e1, e⟩
        · rw [if_pos (zlP_iff.mpr e1), e]
        · rw [if_neg (fun z => e1 (zlP_iff.mp z)), e]
      refine z_cS c 0 k_5_92 zv_X5_yes (pc := 57) (ls := [some (zR 1), some (zI p), some (zI w), some (zI k), some (zI y), some (zI a), some (zI ((zrO (bN B) (rN R) w k y a)))]) (sk := []) (h := (zw ((sn, sf, 5, 5, 22)) B S51 Z51 L R M)) (cs := 0) (ss := 0) (c_X5_yes l (zw ((sn, sf, 5, 5, 22)) B S51 Z51 L R M) g51 (by omega)) rfl trivial rfl ⟨Nat.le_refl _, Nat.le_refl _⟩ ?_
      rintro _ _ ⟨rfl, rfl⟩
      show V (57, [some (zR 1), some (zI p), some (zI w), some (zI k), some (zI y), some (zI a), some (zI ((zrO (bN B) (rN R) w k y a)))], [zI g51], (zw ((sn, sf, 5, 5, 22)) B S51 Z51 L R M), 0, 0)
      exact z_re c 0 (v := some (zI g51)) (h := (zw ((sn, sf, 5, 5, 22)) B S51 Z51 L R M)) (cs := 0) (ss := 0) rfl trivial trivial ⟨Nat.le_refl _, Nat.le_refl _⟩ ⟨_, _, by rw [if_pos (by omega), if_pos (by omega), hgg], rfl, hch_S51, hch_Z51⟩
    · exact z_re c 1 (v := some (zI ((zrO (bN B) (rN R) w k y a)))) (h := (zw ((sn, sf, 5, 5, 22)) B S Z L R M)) (cs := 0) (ss := 0) rfl trivial trivial ⟨Nat.le_refl _, Nat.le_refl _⟩ ⟨S, Z, by rw [if_pos (by omega), if_neg (by omega)], rfl, hch_S, hch_Z⟩
  · exact z_re c 1 (v := some (zI ((-1)))) (h := (zw ((sn, sf, 5, 5, 22)) B S Z L R M)) (cs := 0) (ss := 0) rfl trivial trivial ⟨Nat.le_refl _, Nat.le_refl _⟩ ⟨S, Z, by rw [if_neg (by omega)], rfl, hch_S, hch_Z⟩
set_option maxRecDepth 4000 in
theorem c_X5_lean (l : Launch) (sn : Nat) (sf : Int → Int) (B : ZBk) (S Z : ZSg) (L : ZLn) (R : ZRd) (M : ZMd) (i w k y a : Int) (hB : zBv (bT B) (bK B) (bN B) (rN R)) (hch_S : zch (bT B) (bK B) (bN B) S) (hch_Z : zch (bT B) (bK B) (bN B) Z) (hchL : zLch (bT B) (bK B) (bN B) L) (hr : 0 ≤ rN R ∧ rN R ≤ 12) (hi : (-2147483648 ≤ i ∧ i ≤ 2147483647)) (hw : (-2147483648 ≤ w ∧ w ≤ 2147483647)) (hk : (-2147483648 ≤ k ∧ k ≤ 2147483647)) (hy : (-2147483648 ≤ y ∧ y ≤ 2147483647)) (ha : (-2147483648 ≤ a ∧ a ≤ 2147483647)) : zMet l m_X5_lean [zR 1, zI i, zI w, zI k, zI y, zI a] (zw ((sn, sf, 5, 5, 22)) B S Z L R M) (fun v h1 => ∃ S1 Z1 L1, v = some (zI (if (zrO (bN B) (rN R) w k y a) = 0 then zth (zlP (bT B) (bK B) (bN B) w k y (zlast (bN B) a)) i (bN B).toNat else (zrO (bN B) (rN R) w k y a))) ∧ (zw ((sn, sf, 5, 5, 22)) B S1 Z1 L1 R M) = h1 ∧ zch (bT B) (bK B) (bN B) S1 ∧ zch (bT B) (bK B) (bN B) Z1 ∧ zLch (bT B) (bK B) (bN B) L1) := by
  refine z_method g_X5_lean [some (zR 1), some (zI i), some (zI w), some (zI k), some (zI y), some (zI a), none] rfl rfl (fun V c => ?_)
  have hn := hB.1
  refine z_cV c 5 k_5_96 zv_X5_refusalOf (pc := 10) (ls := [some (zR 1), some (zI i), some (zI w), some (zI k), some (zI y), some (zI a), none]) (sk := []) (h := (zw ((sn, sf, 5, 5, 22)) B S Z L R M)) (cs := 0) (ss := 0) (c_X5_refusalOf l sn sf B S Z L R M w k y a hn hr (by omega) (by omega) (by omega) (by omega)) rfl trivial rfl rfl ⟨Nat.le_refl _, Nat.le_refl _⟩ ?_
  rintro _ _ ⟨rfl, rfl⟩
  have hro := zrO_c (bN B) (rN R) w k y a
  show V (10, [some (zR 1), some (zI i), some (zI w), some (zI k), some (zI y), some (zI a), none], [zI ((zrO (bN B) (rN R) w k y a))], (zw ((sn, sf, 5, 5, 22)) B S Z L R M), 0, 0)
  refine z_br c 2 ((zrO (bN B) (rN R) w k y a) = 0) (20, [some (zR 1), some (zI i), some (zI w), some (zI k), some (zI y), some (zI a), some (zI ((zrO (bN B) (rN R) w k y a)))], [], (zw ((sn, sf, 5, 5, 22)) B S Z L R M), 0, 0) (17, [some (zR 1), some (zI i), some (zI w), some (zI k), some (zI y), some (zI a), some (zI ((zrO (bN B) (rN R) w k y a)))], [], (zw ((sn, sf, 5, 5, 22)) B S Z L R M), 0, 0) rfl ⟨(show (-2147483648 : Int) ≤ (zrO (bN B) (rN R) w k y a) ∧ (zrO (bN B) (rN R) w k y a) ≤ 2147483647 by omega), trivial⟩ (fun h14 => ?_) (fun h14 => ?_)
  · obtain ⟨g0, g1, g2, g3, g4⟩ := hro.resolve_right (by omega)
    have hl := zlast_rng hn.1 g2
    refine z_cV c 8 k_5_86 zv_X0_lastOf (pc := 37) (ls := [some (zR 1), some (zI i), some (zI w), some (zI k), some (zI y), some (zI a), some (zI ((zrO (bN B) (rN R) w k y a)))]) (sk := [zI y, zI k, zI w, zR 20]) (h := (zw ((sn, sf, 5, 5, 22)) B S Z L R M)) (cs := 0) (ss := 0) (c_X0_lastOf l ((sn, sf, 5, 5, 22)) B S Z L R M a (by omega)) rfl trivial rfl rfl ⟨Nat.le_refl _, Nat.le_refl _⟩ ?_
    rintro _ _ ⟨rfl, rfl⟩
    show V (37, [some (zR 1), some (zI i), some (zI w), some (zI k), some (zI y), some (zI a), some (zI ((zrO (bN B) (rN R) w k y a)))], [zI ((zlast ((bN B)) a)), zI y, zI k, zI w, zR 20], (zw ((sn, sf, 5, 5, 22)) B S Z L R M), 0, 0)
    refine z_cV c 0 k_5_138 zv_X1_find (pc := 40) (ls := [some (zR 1), some (zI i), some (zI w), some (zI k), some (zI y), some (zI a), some (zI ((zrO (bN B) (rN R) w k y a)))]) (sk := []) (h := (zw ((sn, sf, 5, 5, 22)) B S Z L R M)) (cs := 0) (ss := 0) (c_X1_find l sn sf B S Z L R M (rN R) w k y ((zlast ((bN B)) a)) hB hch_S hch_Z hchL (by omega) (by omega) (by omega) hl) rfl trivial rfl rfl ⟨Nat.le_refl _, Nat.le_refl _⟩ ?_
    rintro _ _ ⟨rfl, S37, Z37, L37, rfl, hch_S37, hch_Z37, hli, hl1, hl2, hl3, hl4⟩
    have hpl := zpn_le (zlP (bT B) (bK B) (bN B) w k y (zlast (bN B) a)) ((zlast (bN B) a) + 1).toNat
    have hln := hli.1
    show V (40, [some (zR 1), some (zI i), some (zI w), some (zI k), some (zI y), some (zI a), some (zI ((zrO (bN B) (rN R) w k y a)))], [], (zw ((sn, sf, 5, 5, 22)) B S37 Z37 L37 R M), 0, 0)
    refine z_cV c 3 k_5_142 zv_X1_pageAt (pc := 48) (ls := [some (zR 1), some (zI i), some (zI w), some (zI k), some (zI y), some (zI a), some (zI ((zrO (bN B) (rN R) w k y a)))]) (sk := []) (h := (zw ((sn, sf, 5, 5, 22)) B S37 Z37 L37 R M)) (cs := 0) (ss := 0) (c_X1_pageAt l sn sf B S37 Z37 L37 R M i (by omega) (by omega)) rfl trivial rfl rfl ⟨Nat.le_refl _, Nat.le_refl _⟩ ?_
    rintro _ _ ⟨rfl, rfl⟩
    show V (48, [some (zR 1), some (zI i), some (zI w), some (zI k), some (zI y), some (zI a), some (zI ((zrO (bN B) (rN R) w k y a)))], [zI ((if i < lN1 L37 then zat 100 (lP L37) i else -9))], (zw ((sn, sf, 5, 5, 22)) B S37 Z37 L37 R M), 0, 0)
    exact z_re c 0 (v := some (zI ((if i < lN1 L37 then zat 100 (lP L37) i else -9)))) (h := (zw ((sn, sf, 5, 5, 22)) B S37 Z37 L37 R M)) (cs := 0) (ss := 0) rfl trivial trivial ⟨Nat.le_refl _, Nat.le_refl _⟩ ⟨S37, Z37, L37, by rw [zit (N := (bN B).toNat) (fun p hp => (zlP_iff.mp hp).1.1.2.2.1) (by omega) (by omega) hli, if_pos g0], rfl, hch_S37, hch_Z37, ⟨by omega, Or.inr (by rw [hl1, hl2, hl3, hl4]; exact hli)⟩⟩
  · exact z_re c 1 (v := some (zI ((zrO (bN B) (rN R) w k y a)))) (h := (zw ((sn, sf, 5, 5, 22)) B S Z L R M)) (cs := 0) (ss := 0) rfl trivial trivial ⟨Nat.le_refl _, Nat.le_refl _⟩ ⟨S, Z, L, by rw [if_neg (by omega)], rfl, hch_S, hch_Z, hchL⟩
