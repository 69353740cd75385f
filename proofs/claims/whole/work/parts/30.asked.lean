/-! what is asked of the ways, by the class: each answer in the words of the book -/
def zrO (n nw w k y a : Int) : Int := if (0 ≤ w ∧ w < nw) ∧ (a = -9 ∨ (0 ≤ a ∧ a < n)) then (if (0 ≤ k ∧ k ≤ 2) ∧ (0 ≤ y ∧ y ≤ 100) then 0 else -2) else -1
theorem zrO_c (n nw w k y a : Int) : (zrO n nw w k y a = 0 ∧ (0 ≤ w ∧ w < nw) ∧ (a = -9 ∨ (0 ≤ a ∧ a < n)) ∧ (0 ≤ k ∧ k ≤ 2) ∧ (0 ≤ y ∧ y ≤ 100)) ∨ zrO n nw w k y a = -1 ∨ zrO n nw w k y a = -2 := by
  unfold zrO
  split
  · split <;> omega
  · omega
def zrP (n p k y a : Int) : Int := if (0 ≤ p ∧ p ≤ 9) ∧ (a = -9 ∨ (0 ≤ a ∧ a < n)) then (if (0 ≤ k ∧ k ≤ 2) ∧ (0 ≤ y ∧ y ≤ 100) then 0 else -2) else -1
theorem zrP_c (n p k y a : Int) : (zrP n p k y a = 0 ∧ (0 ≤ p ∧ p ≤ 9) ∧ (a = -9 ∨ (0 ≤ a ∧ a < n)) ∧ (0 ≤ k ∧ k ≤ 2) ∧ (0 ≤ y ∧ y ≤ 100)) ∨ zrP n p k y a = -1 ∨ zrP n p k y a = -2 := by
  unfold zrP
  split
  · split <;> omega
  · omega
theorem zlast_rng {n a : Int} (hn : 0 ≤ n) (h : a = -9 ∨ (0 ≤ a ∧ a < n)) : -1 ≤ zlast n a ∧ zlast n a < n := by
  unfold zlast
  split <;> omega
/-- a span holds; how many years of it have too few -/
def zHo (T : Int → Int) (ct : Int → Bool) (w : Int) (m : Nat) (k e : Int) : Bool := zhold (zps (zVW T ct w m) k) (zVB T ct w m) (zVP T ct m) (zVN T ct m) (zVG T ct m) e
def zLa (T : Int → Int) (ct : Int → Bool) (w : Int) (m : Nat) (k e : Int) : Int := if e - zVN T ct m + 1 < 0 then -9 else zcm (zps (zVW T ct w m) k) (zVP T ct m) (e.toNat + 1) - zcm (zps (zVW T ct w m) k) (zVP T ct m) (e - zVN T ct m + 1).toNat
theorem zld_eq {H : Int → Bool} {y : Int} (hy : 0 ≤ y) : zld H y = y ↔ H y = true := by
  unfold zld
  have e : ((y.toNat : Nat) : Int) = y := by omega
  show (if H ((y.toNat : Nat) : Int) = true then ((y.toNat : Nat) : Int) else zlt H y.toNat) = y ↔ _
  rw [e]
  have := zlt_rng H y.toNat
  constructor
  · intro h
    by_cases g : H y = true
    · exact g
    · rw [if_neg g] at h; omega
  · intro g
    rw [if_pos g]
theorem zSi_ho {T : Int → Int} {n : Int} {ct : Int → Bool} {m : Nat} {w nw : Int} {S : ZSg} (h : zSi T n ct m w S) (hv : ∀ p : Nat, p < m → zvp T nw (p : Int)) {k y : Int} (hk : 0 ≤ k ∧ k ≤ 2) (hy : 0 ≤ y ∧ y ≤ 100) : zhold (zps (pW (sP S)) k) (pB (sP S)) (pP (sP S)) (pN (sP S)) (pG (sP S)) y = zHo T ct w m k y := by
  obtain ⟨h1, h2, ⟨h3, h4, h5, h6⟩, -⟩ := h
  have hs := zst_rng (ct := ct) hv
  unfold zHo
  rw [h3, h4, h5]
  exact zhold_cong (fun y a b => zps_cong h1 hk ⟨a, b⟩) h2 (by omega) hy
theorem zSi_la {T : Int → Int} {n : Int} {ct : Int → Bool} {m : Nat} {w nw : Int} {S : ZSg} (h : zSi T n ct m w S) (hv : ∀ p : Nat, p < m → zvp T nw (p : Int)) {k y : Int} (hk : 0 ≤ k ∧ k ≤ 2) (hy : 0 ≤ y ∧ y ≤ 100) {Lk : Int → Int} (hL : ∀ e, 0 ≤ e → e ≤ 100 → Lk (k * 101 + e) = zcd (zps (pW (sP S)) k) (pP (sP S)) e) : zfi Lk (pN (sP S)) k y = zLa T ct w m k y := by
  obtain ⟨h1, h2, ⟨h3, h4, h5, h6⟩, -⟩ := h
  have hs := zst_rng (ct := ct) hv
  unfold zfi zLa
  rw [h3]
  by_cases g : y - zVN T ct m + 1 < 0
  · rw [if_pos g, if_pos g]
  · rw [if_neg g, if_neg g]
    have e1 : ∀ e, 0 ≤ e → e ≤ 100 → Lk (k * 101 + e) = zcm (zps (zVW T ct w m) k) (zVP T ct m) (e.toNat + 1) := by
      intro e a b
      rw [hL e a b, h4]
      exact zcm_cong _ (fun y a b => zps_cong h1 hk ⟨a, by omega⟩)
    rw [e1 y hy.1 hy.2]
    by_cases g2 : y - zVN T ct m + 1 = 0
    · rw [if_pos g2, g2]; rfl
    · rw [if_neg g2, show k * 101 + (y - zVN T ct m + 1) - 1 = k * 101 + (y - zVN T ct m) by omega, e1 _ (by omega) (by omega), show (y - zVN T ct m + 1).toNat = (y - zVN T ct m).toNat + 1 by omega]
def zinG (g : Int → Int) (p : Int) : Nat → Bool
  | 0 => false
  | c + 1 => zinG g p c || decide (g (c : Int) = p)
theorem zinG_iff {g : Int → Int} {p : Int} : ∀ c : Nat, zinG g p c = true ↔ ∃ i : Int, 0 ≤ i ∧ i < (c : Int) ∧ g i = p
  | 0 => ⟨fun h => absurd h (by simp [zinG]), fun ⟨i, a, b, _⟩ => by omega⟩
  | c + 1 => by
    unfold zinG
    rw [Bool.or_eq_true, zinG_iff c, decide_eq_true_iff]
    constructor
    · rintro (⟨i, a, b, e⟩ | e)
      · exact ⟨i, a, by omega, e⟩
      · exact ⟨(c : Int), by omega, by omega, e⟩
    · rintro ⟨i, a, b, e⟩
      by_cases g2 : i = (c : Int)
      · subst g2; exact Or.inr e
      · exact Or.inl ⟨i, a, by omega, e⟩
set_option maxRecDepth 4000 in
theorem c_X5_refusalOf (l : Launch) (sn : Nat) (sf : Int → Int) (B : ZBk) (S Z : ZSg) (L : ZLn) (R : ZRd) (M : ZMd) (w k y a : Int) (hn : 0 ≤ bN B ∧ bN B ≤ 100) (hr : 0 ≤ rN R ∧ rN R ≤ 12) (hw : (-2147483648 ≤ w ∧ w ≤ 2147483647)) (hk : (-2147483648 ≤ k ∧ k ≤ 2147483647)) (hy : (-2147483648 ≤ y ∧ y ≤ 2147483647)) (ha : (-2147483648 ≤ a ∧ a ≤ 2147483647)) : zMet l m_X5_refusalOf [zR 1, zI w, zI k, zI y, zI a] (zw ((sn, sf, 5, 5, 22)) B S Z L R M) (zI1 (zrO (bN B) (rN R) w k y a) (zw ((sn, sf, 5, 5, 22)) B S Z L R M)) := by
  refine z_method g_X5_refusalOf [some (zR 1), some (zI w), some (zI k), some (zI y), some (zI a)] rfl rfl (fun V c => ?_)
  refine z_cV c 3 k_5_53 zv_X2_has (pc := 8) (ls := [some (zR 1), some (zI w), some (zI k), some (zI y), some (zI a)]) (sk := []) (h := (zw ((sn, sf, 5, 5, 22)) B S Z L R M)) (cs := 0) (ss := 0) (c_X2_has l ((sn, sf, 5, 5, 22)) B S Z L R M w (show 0 ≤ (rN R) ∧ (rN R) ≤ 12 by omega) (by omega)) rfl trivial rfl rfl ⟨Nat.le_refl _, Nat.le_refl _⟩ ?_
  rintro _ _ ⟨r5, rfl, e5, rfl⟩
  replace e5 : ((0 ≤ w ∧ w < (rN R)) ∧ r5 = 1) ∨ (¬ (0 ≤ w ∧ w < (rN R)) ∧ r5 = 0) := e5
  show V (8, [some (zR 1), some (zI w), some (zI k), some (zI y), some (zI a)], [zI r5], (zw ((sn, sf, 5, 5, 22)) B S Z L R M), 0, 0)
  refine z_br c 0 (r5 = 0) (23, [some (zR 1), some (zI w), some (zI k), some (zI y), some (zI a)], [], (zw ((sn, sf, 5, 5, 22)) B S Z L R M), 0, 0) (11, [some (zR 1), some (zI w), some (zI k), some (zI y), some (zI a)], [], (zw ((sn, sf, 5, 5, 22)) B S Z L R M), 0, 0) rfl ⟨(show (-2147483648 : Int) ≤ r5 ∧ r5 ≤ 2147483647 by omega), trivial⟩ (fun h8 => ?_) (fun h8 => ?_)
  · exact z_re c 1 (v := some (zI ((-1)))) (h := (zw ((sn, sf, 5, 5, 22)) B S Z L R M)) (cs := 0) (ss := 0) rfl trivial trivial ⟨Nat.le_refl _, Nat.le_refl _⟩ ⟨by unfold zrO; rw [if_neg (by omega)], rfl⟩
  · refine z_cV c 3 k_5_83 zv_X0_hasAs (pc := 20) (ls := [some (zR 1), some (zI w), some (zI k), some (zI y), some (zI a)]) (sk := []) (h := (zw ((sn, sf, 5, 5, 22)) B S Z L R M)) (cs := 0) (ss := 0) (c_X0_hasAs l ((sn, sf, 5, 5, 22)) B S Z L R M a (show 0 ≤ (bN B) ∧ (bN B) ≤ 100 by omega) (by omega)) rfl trivial rfl rfl ⟨Nat.le_refl _, Nat.le_refl _⟩ ?_
    rintro _ _ ⟨r17, rfl, e17, rfl⟩
    replace e17 : ((a = -9 ∨ (0 ≤ a ∧ a < (bN B))) ∧ r17 = 1) ∨ (¬ (a = -9 ∨ (0 ≤ a ∧ a < (bN B))) ∧ r17 = 0) := e17
    show V (20, [some (zR 1), some (zI w), some (zI k), some (zI y), some (zI a)], [zI r17], (zw ((sn, sf, 5, 5, 22)) B S Z L R M), 0, 0)
    refine z_br c 0 (¬ r17 = 0) (25, [some (zR 1), some (zI w), some (zI k), some (zI y), some (zI a)], [], (zw ((sn, sf, 5, 5, 22)) B S Z L R M), 0, 0) (23, [some (zR 1), some (zI w), some (zI k), some (zI y), some (zI a)], [], (zw ((sn, sf, 5, 5, 22)) B S Z L R M), 0, 0) rfl ⟨(show (-2147483648 : Int) ≤ r17 ∧ r17 ≤ 2147483647 by omega), trivial⟩ (fun h20 => ?_) (fun h20 => ?_)
    · refine z_cS c 1 k_5_56 zv_X5_isKind (pc := 29) (ls := [some (zR 1), some (zI w), some (zI k), some (zI y), some (zI a)]) (sk := []) (h := (zw ((sn, sf, 5, 5, 22)) B S Z L R M)) (cs := 0) (ss := 0) (c_X5_isKind l (zw ((sn, sf, 5, 5, 22)) B S Z L R M) k (by omega)) rfl trivial rfl ⟨Nat.le_refl _, Nat.le_refl _⟩ ?_
      rintro _ _ ⟨r26, rfl, e26, rfl⟩
      show V (29, [some (zR 1), some (zI w), some (zI k), some (zI y), some (zI a)], [zI r26], (zw ((sn, sf, 5, 5, 22)) B S Z L R M), 0, 0)
      refine z_br c 0 (r26 = 0) (43, [some (zR 1), some (zI w), some (zI k), some (zI y), some (zI a)], [], (zw ((sn, sf, 5, 5, 22)) B S Z L R M), 0, 0) (32, [some (zR 1), some (zI w), some (zI k), some (zI y), some (zI a)], [], (zw ((sn, sf, 5, 5, 22)) B S Z L R M), 0, 0) rfl ⟨(show (-2147483648 : Int) ≤ r26 ∧ r26 ≤ 2147483647 by omega), trivial⟩ (fun h29 => ?_) (fun h29 => ?_)
      · exact z_re c 1 (v := some (zI ((-2)))) (h := (zw ((sn, sf, 5, 5, 22)) B S Z L R M)) (cs := 0) (ss := 0) rfl trivial trivial ⟨Nat.le_refl _, Nat.le_refl _⟩ ⟨by unfold zrO; rw [if_pos (by omega), if_neg (by omega)], rfl⟩
      · refine z_cS c 1 k_5_59 zv_X5_isYear (pc := 36) (ls := [some (zR 1), some (zI w), some (zI k), some (zI y), some (zI a)]) (sk := []) (h := (zw ((sn, sf, 5, 5, 22)) B S Z L R M)) (cs := 0) (ss := 0) (c_X5_isYear l (zw ((sn, sf, 5, 5, 22)) B S Z L R M) y (by omega)) rfl trivial rfl ⟨Nat.le_refl _, Nat.le_refl _⟩ ?_
        rintro _ _ ⟨r33, rfl, e33, rfl⟩
        show V (36, [some (zR 1), some (zI w), some (zI k), some (zI y), some (zI a)], [zI r33], (zw ((sn, sf, 5, 5, 22)) B S Z L R M), 0, 0)
        refine z_br c 0 (r33 = 0) (43, [some (zR 1), some (zI w), some (zI k), some (zI y), some (zI a)], [], (zw ((sn, sf, 5, 5, 22)) B S Z L R M), 0, 0) (39, [some (zR 1), some (zI w), some (zI k), some (zI y), some (zI a)], [], (zw ((sn, sf, 5, 5, 22)) B S Z L R M), 0, 0) rfl ⟨(show (-2147483648 : Int) ≤ r33 ∧ r33 ≤ 2147483647 by omega), trivial⟩ (fun h36 => ?_) (fun h36 => ?_)
        · exact z_re c 1 (v := some (zI ((-2)))) (h := (zw ((sn, sf, 5, 5, 22)) B S Z L R M)) (cs := 0) (ss := 0) rfl trivial trivial ⟨Nat.le_refl _, Nat.le_refl _⟩ ⟨by unfold zrO; rw [if_pos (by omega), if_neg (by omega)], rfl⟩
        · exact z_re c 2 (v := some (zI 0)) (h := (zw ((sn, sf, 5, 5, 22)) B S Z L R M)) (cs := 0) (ss := 0) rfl trivial trivial ⟨Nat.le_refl _, Nat.le_refl _⟩ ⟨by unfold zrO; rw [if_pos (by omega), if_pos (by omega)], rfl⟩
    · exact z_re c 1 (v := some (zI ((-1)))) (h := (zw ((sn, sf, 5, 5, 22)) B S Z L R M)) (cs := 0) (ss := 0) rfl trivial trivial ⟨Nat.le_refl _, Nat.le_refl _⟩ ⟨by unfold zrO; rw [if_neg (by omega)], rfl⟩
set_option maxRecDepth 4000 in
theorem c_X5_refusalFrom (l : Launch) (sn : Nat) (sf : Int → Int) (B : ZBk) (S Z : ZSg) (L : ZLn) (R : ZRd) (M : ZMd) (w k y a : Int) (hn : 0 ≤ bN B ∧ bN B ≤ 100) (hw : (-2147483648 ≤ w ∧ w ≤ 2147483647)) (hk : (-2147483648 ≤ k ∧ k ≤ 2147483647)) (hy : (-2147483648 ≤ y ∧ y ≤ 2147483647)) (ha : (-2147483648 ≤ a ∧ a ≤ 2147483647)) : zMet l m_X5_refusalFrom [zR 1, zI w, zI k, zI y, zI a] (zw ((sn, sf, 5, 5, 22)) B S Z L R M) (zI1 (zrP (bN B) w k y a) (zw ((sn, sf, 5, 5, 22)) B S Z L R M)) := by
  refine z_method g_X5_refusalFrom [some (zR 1), some (zI w), some (zI k), some (zI y), some (zI a)] rfl rfl (fun V c => ?_)
  refine z_cS c 1 k_5_41 zv_X5_isPlace (pc := 4) (ls := [some (zR 1), some (zI w), some (zI k), some (zI y), some (zI a)]) (sk := []) (h := (zw ((sn, sf, 5, 5, 22)) B S Z L R M)) (cs := 0) (ss := 0) (c_X5_isPlace l (zw ((sn, sf, 5, 5, 22)) B S Z L R M) w (by omega)) rfl trivial rfl ⟨Nat.le_refl _, Nat.le_refl _⟩ ?_
  rintro _ _ ⟨r1, rfl, e1, rfl⟩
  show V (4, [some (zR 1), some (zI w), some (zI k), some (zI y), some (zI a)], [zI r1], (zw ((sn, sf, 5, 5, 22)) B S Z L R M), 0, 0)
  refine z_br c 0 (r1 = 0) (19, [some (zR 1), some (zI w), some (zI k), some (zI y), some (zI a)], [], (zw ((sn, sf, 5, 5, 22)) B S Z L R M), 0, 0) (7, [some (zR 1), some (zI w), some (zI k), some (zI y), some (zI a)], [], (zw ((sn, sf, 5, 5, 22)) B S Z L R M), 0, 0) rfl ⟨(show (-2147483648 : Int) ≤ r1 ∧ r1 ≤ 2147483647 by omega), trivial⟩ (fun h4 => ?_) (fun h4 => ?_)
  · exact z_re c 1 (v := some (zI ((-1)))) (h := (zw ((sn, sf, 5, 5, 22)) B S Z L R M)) (cs := 0) (ss := 0) rfl trivial trivial ⟨Nat.le_refl _, Nat.le_refl _⟩ ⟨by unfold zrP; rw [if_neg (by omega)], rfl⟩
  · refine z_cV c 3 k_5_83 zv_X0_hasAs (pc := 16) (ls := [some (zR 1), some (zI w), some (zI k), some (zI y), some (zI a)]) (sk := []) (h := (zw ((sn, sf, 5, 5, 22)) B S Z L R M)) (cs := 0) (ss := 0) (c_X0_hasAs l ((sn, sf, 5, 5, 22)) B S Z L R M a (show 0 ≤ (bN B) ∧ (bN B) ≤ 100 by omega) (by omega)) rfl trivial rfl rfl ⟨Nat.le_refl _, Nat.le_refl _⟩ ?_
    rintro _ _ ⟨r13, rfl, e13, rfl⟩
    replace e13 : ((a = -9 ∨ (0 ≤ a ∧ a < (bN B))) ∧ r13 = 1) ∨ (¬ (a = -9 ∨ (0 ≤ a ∧ a < (bN B))) ∧ r13 = 0) := e13
    show V (16, [some (zR 1), some (zI w), some (zI k), some (zI y), some (zI a)], [zI r13], (zw ((sn, sf, 5, 5, 22)) B S Z L R M), 0, 0)
    refine z_br c 0 (¬ r13 = 0) (21, [some (zR 1), some (zI w), some (zI k), some (zI y), some (zI a)], [], (zw ((sn, sf, 5, 5, 22)) B S Z L R M), 0, 0) (19, [some (zR 1), some (zI w), some (zI k), some (zI y), some (zI a)], [], (zw ((sn, sf, 5, 5, 22)) B S Z L R M), 0, 0) rfl ⟨(show (-2147483648 : Int) ≤ r13 ∧ r13 ≤ 2147483647 by omega), trivial⟩ (fun h16 => ?_) (fun h16 => ?_)
    · refine z_cS c 1 k_5_56 zv_X5_isKind (pc := 25) (ls := [some (zR 1), some (zI w), some (zI k), some (zI y), some (zI a)]) (sk := []) (h := (zw ((sn, sf, 5, 5, 22)) B S Z L R M)) (cs := 0) (ss := 0) (c_X5_isKind l (zw ((sn, sf, 5, 5, 22)) B S Z L R M) k (by omega)) rfl trivial rfl ⟨Nat.le_refl _, Nat.le_refl _⟩ ?_
      rintro _ _ ⟨r22, rfl, e22, rfl⟩
      show V (25, [some (zR 1), some (zI w), some (zI k), some (zI y), some (zI a)], [zI r22], (zw ((sn, sf, 5, 5, 22)) B S Z L R M), 0, 0)
      refine z_br c 0 (r22 = 0) (39, [some (zR 1), some (zI w), some (zI k), some (zI y), some (zI a)], [], (zw ((sn, sf, 5, 5, 22)) B S Z L R M), 0, 0) (28, [some (zR 1), some (zI w), some (zI k), some (zI y), some (zI a)], [], (zw ((sn, sf, 5, 5, 22)) B S Z L R M), 0, 0) rfl ⟨(show (-2147483648 : Int) ≤ r22 ∧ r22 ≤ 2147483647 by omega), trivial⟩ (fun h25 => ?_) (fun h25 => ?_)
      · exact z_re c 1 (v := some (zI ((-2)))) (h := (zw ((sn, sf, 5, 5, 22)) B S Z L R M)) (cs := 0) (ss := 0) rfl trivial trivial ⟨Nat.le_refl _, Nat.le_refl _⟩ ⟨by unfold zrP; rw [if_pos (by omega), if_neg (by omega)], rfl⟩
      · refine z_cS c 1 k_5_59 zv_X5_isYear (pc := 32) (ls := [some (zR 1), some (zI w), some (zI k), some (zI y), some (zI a)]) (sk := []) (h := (zw ((sn, sf, 5, 5, 22)) B S Z L R M)) (cs := 0) (ss := 0) (c_X5_isYear l (zw ((sn, sf, 5, 5, 22)) B S Z L R M) y (by omega)) rfl trivial rfl ⟨Nat.le_refl _, Nat.le_refl _⟩ ?_
        rintro _ _ ⟨r29, rfl, e29, rfl⟩
        show V (32, [some (zR 1), some (zI w), some (zI k), some (zI y), some (zI a)], [zI r29], (zw ((sn, sf, 5, 5, 22)) B S Z L R M), 0, 0)
        refine z_br c 0 (r29 = 0) (39, [some (zR 1), some (zI w), some (zI k), some (zI y), some (zI a)], [], (zw ((sn, sf, 5, 5, 22)) B S Z L R M), 0, 0) (35, [some (zR 1), some (zI w), some (zI k), some (zI y), some (zI a)], [], (zw ((sn, sf, 5, 5, 22)) B S Z L R M), 0, 0) rfl ⟨(show (-2147483648 : Int) ≤ r29 ∧ r29 ≤ 2147483647 by omega), trivial⟩ (fun h32 => ?_) (fun h32 => ?_)
        · exact z_re c 1 (v := some (zI ((-2)))) (h := (zw ((sn, sf, 5, 5, 22)) B S Z L R M)) (cs := 0) (ss := 0) rfl trivial trivial ⟨Nat.le_refl _, Nat.le_refl _⟩ ⟨by unfold zrP; rw [if_pos (by omega), if_neg (by omega)], rfl⟩
        · exact z_re c 2 (v := some (zI 0)) (h := (zw ((sn, sf, 5, 5, 22)) B S Z L R M)) (cs := 0) (ss := 0) rfl trivial trivial ⟨Nat.le_refl _, Nat.le_refl _⟩ ⟨by unfold zrP; rw [if_pos (by omega), if_pos (by omega)], rfl⟩
    · exact z_re c 1 (v := some (zI ((-1)))) (h := (zw ((sn, sf, 5, 5, 22)) B S Z L R M)) (cs := 0) (ss := 0) rfl trivial trivial ⟨Nat.le_refl _, Nat.le_refl _⟩ ⟨by unfold zrP; rw [if_neg (by omega)], rfl⟩
set_option maxRecDepth 4000 in
theorem c_X5_persons (l : Launch) (sn : Nat) (sf : Int → Int) (B : ZBk) (S Z : ZSg) (L : ZLn) (R : ZRd) (M : ZMd) (w k y a : Int) (hB : zBv (bT B) (bK B) (bN B) (rN R)) (hch_S : zch (bT B) (bK B) (bN B) S) (hr : 0 ≤ rN R ∧ rN R ≤ 12) (hw : (-2147483648 ≤ w ∧ w ≤ 2147483647)) (hk : (-2147483648 ≤ k ∧ k ≤ 2147483647)) (hy : (-2147483648 ≤ y ∧ y ≤ 2147483647)) (ha : (-2147483648 ≤ a ∧ a ≤ 2147483647)) : zMet l m_X5_persons [zR 1, zI w, zI k, zI y, zI a] (zw ((sn, sf, 5, 5, 22)) B S Z L R M) (fun v h1 => ∃ S1, v = some (zI (if (zrO (bN B) (rN R) w k y a) = 0 then zps (zVW (bT B) (zcB (bK B) (bN B) (zlast (bN B) a) (-9)) w ((zlast (bN B) a) + 1).toNat) k y else (zrO (bN B) (rN R) w k y a))) ∧ (zw ((sn, sf, 5, 5, 22)) B S1 Z L R M) = h1 ∧ zch (bT B) (bK B) (bN B) S1) := by
  refine z_method g_X5_persons [some (zR 1), some (zI w), some (zI k), some (zI y), some (zI a), none] rfl rfl (fun V c => ?_)
  have hn := hB.1
  refine z_cV c 5 k_5_96 zv_X5_refusalOf (pc := 9) (ls := [some (zR 1), some (zI w), some (zI k), some (zI y), some (zI a), none]) (sk := []) (h := (zw ((sn, sf, 5, 5, 22)) B S Z L R M)) (cs := 0) (ss := 0) (c_X5_refusalOf l sn sf B S Z L R M w k y a hn hr (by omega) (by omega) (by omega) (by omega)) rfl trivial rfl rfl ⟨Nat.le_refl _, Nat.le_refl _⟩ ?_
  rintro _ _ ⟨rfl, rfl⟩
  have hro := zrO_c (bN B) (rN R) w k y a
  show V (9, [some (zR 1), some (zI w), some (zI k), some (zI y), some (zI a), none], [zI ((zrO (bN B) (rN R) w k y a))], (zw ((sn, sf, 5, 5, 22)) B S Z L R M), 0, 0)
  refine z_br c 2 ((zrO (bN B) (rN R) w k y a) = 0) (19, [some (zR 1), some (zI w), some (zI k), some (zI y), some (zI a), some (zI ((zrO (bN B) (rN R) w k y a)))], [], (zw ((sn, sf, 5, 5, 22)) B S Z L R M), 0, 0) (16, [some (zR 1), some (zI w), some (zI k), some (zI y), some (zI a), some (zI ((zrO (bN B) (rN R) w k y a)))], [], (zw ((sn, sf, 5, 5, 22)) B S Z L R M), 0, 0) rfl ⟨(show (-2147483648 : Int) ≤ (zrO (bN B) (rN R) w k y a) ∧ (zrO (bN B) (rN R) w k y a) ≤ 2147483647 by omega), trivial⟩ (fun h13 => ?_) (fun h13 => ?_)
  · obtain ⟨g0, g1, g2, g3, g4⟩ := hro.resolve_right (by omega)
    have hl := zlast_rng hn.1 g2
    refine z_cV c 6 k_5_86 zv_X0_lastOf (pc := 33) (ls := [some (zR 1), some (zI w), some (zI k), some (zI y), some (zI a), some (zI ((zrO (bN B) (rN R) w k y a)))]) (sk := [zI w, zR 5]) (h := (zw ((sn, sf, 5, 5, 22)) B S Z L R M)) (cs := 0) (ss := 0) (c_X0_lastOf l ((sn, sf, 5, 5, 22)) B S Z L R M a (by omega)) rfl trivial rfl rfl ⟨Nat.le_refl _, Nat.le_refl _⟩ ?_
    rintro _ _ ⟨rfl, rfl⟩
    show V (33, [some (zR 1), some (zI w), some (zI k), some (zI y), some (zI a), some (zI ((zrO (bN B) (rN R) w k y a)))], [zI ((zlast ((bN B)) a)), zI w, zR 5], (zw ((sn, sf, 5, 5, 22)) B S Z L R M), 0, 0)
    refine z_cV c 1 k_5_100 zv_X3_look (pc := 38) (ls := [some (zR 1), some (zI w), some (zI k), some (zI y), some (zI a), some (zI ((zrO (bN B) (rN R) w k y a)))]) (sk := []) (h := (zw ((sn, sf, 5, 5, 22)) B S Z L R M)) (cs := 0) (ss := 0) (c_lookS l ((sn, sf, 5, 5, 22)) B S Z L R M (rN R) w ((zlast ((bN B)) a)) ((-9)) hB (by omega) hl (by omega) hch_S) rfl trivial rfl rfl ⟨Nat.le_refl _, Nat.le_refl _⟩ ?_
    rintro _ _ ⟨rfl, S35, rfl, hsi_S35, ha_S35, hb_S35, hc_S35⟩
    have hch_S35 := zch_of hsi_S35 ha_S35 hb_S35 hc_S35 (by omega) (by omega) (by omega)
    obtain ⟨v1, v2, v3⟩ := zBv_lim hB hl
    obtain ⟨r1, r2, r3, r4, r5, r6, r7⟩ := zSi_rng hsi_S35 v1 v2 v3
    show V (38, [some (zR 1), some (zI w), some (zI k), some (zI y), some (zI a), some (zI ((zrO (bN B) (rN R) w k y a)))], [], (zw ((sn, sf, 5, 5, 22)) B S35 Z L R M), 0, 0)
    refine z_cV c 5 k_5_107 zv_X4_personsIn (pc := 50) (ls := [some (zR 1), some (zI w), some (zI k), some (zI y), some (zI a), some (zI ((zrO (bN B) (rN R) w k y a)))]) (sk := []) (h := (zw ((sn, sf, 5, 5, 22)) B S35 Z L R M)) (cs := 0) (ss := 0) (c_X4_personsIn l ((sn, sf, 5, 5, 22)) B S35 Z L R M k y (by omega) (by omega) r2) rfl trivial rfl rfl ⟨Nat.le_refl _, Nat.le_refl _⟩ ?_
    rintro _ _ ⟨rfl, rfl⟩
    show V (50, [some (zR 1), some (zI w), some (zI k), some (zI y), some (zI a), some (zI ((zrO (bN B) (rN R) w k y a)))], [zI ((zps (pW (sP S35)) k y))], (zw ((sn, sf, 5, 5, 22)) B S35 Z L R M), 0, 0)
    exact z_re c 0 (v := some (zI ((zps (pW (sP S35)) k y)))) (h := (zw ((sn, sf, 5, 5, 22)) B S35 Z L R M)) (cs := 0) (ss := 0) rfl trivial trivial ⟨Nat.le_refl _, Nat.le_refl _⟩ ⟨_, by rw [if_pos (by omega)]; rw [zps_cong hsi_S35.1 (by omega) (by omega)], rfl, hch_S35⟩
  · exact z_re c 1 (v := some (zI ((zrO (bN B) (rN R) w k y a)))) (h := (zw ((sn, sf, 5, 5, 22)) B S Z L R M)) (cs := 0) (ss := 0) rfl trivial trivial ⟨Nat.le_refl _, Nat.le_refl _⟩ ⟨S, by rw [if_neg (by omega)], rfl, hch_S⟩
set_option maxRecDepth 4000 in
theorem c_X5_holds (l : Launch) (sn : Nat) (sf : Int → Int) (B : ZBk) (S Z : ZSg) (L : ZLn) (R : ZRd) (M : ZMd) (w k y a : Int) (hB : zBv (bT B) (bK B) (bN B) (rN R)) (hch_S : zch (bT B) (bK B) (bN B) S) (hr : 0 ≤ rN R ∧ rN R ≤ 12) (hw : (-2147483648 ≤ w ∧ w ≤ 2147483647)) (hk : (-2147483648 ≤ k ∧ k ≤ 2147483647)) (hy : (-2147483648 ≤ y ∧ y ≤ 2147483647)) (ha : (-2147483648 ≤ a ∧ a ≤ 2147483647)) : zMet l m_X5_holds [zR 1, zI w, zI k, zI y, zI a] (zw ((sn, sf, 5, 5, 22)) B S Z L R M) (fun v h1 => ∃ S1, v = some (zI (if (zrO (bN B) (rN R) w k y a) = 0 then (if zHo (bT B) (zcB (bK B) (bN B) (zlast (bN B) a) (-9)) w ((zlast (bN B) a) + 1).toNat k y = true then 1 else 0) else (zrO (bN B) (rN R) w k y a))) ∧ (zw ((sn, sf, 5, 5, 22)) B S1 Z L R M) = h1 ∧ zch (bT B) (bK B) (bN B) S1) := by
  refine z_method g_X5_holds [some (zR 1), some (zI w), some (zI k), some (zI y), some (zI a), none] rfl rfl (fun V c => ?_)
  have hn := hB.1
  refine z_cV c 5 k_5_96 zv_X5_refusalOf (pc := 9) (ls := [some (zR 1), some (zI w), some (zI k), some (zI y), some (zI a), none]) (sk := []) (h := (zw ((sn, sf, 5, 5, 22)) B S Z L R M)) (cs := 0) (ss := 0) (c_X5_refusalOf l sn sf B S Z L R M w k y a hn hr (by omega) (by omega) (by omega) (by omega)) rfl trivial rfl rfl ⟨Nat.le_refl _, Nat.le_refl _⟩ ?_
  rintro _ _ ⟨rfl, rfl⟩
  have hro := zrO_c (bN B) (rN R) w k y a
  show V (9, [some (zR 1), some (zI w), some (zI k), some (zI y), some (zI a), none], [zI ((zrO (bN B) (rN R) w k y a))], (zw ((sn, sf, 5, 5, 22)) B S Z L R M), 0, 0)
  refine z_br c 2 ((zrO (bN B) (rN R) w k y a) = 0) (19, [some (zR 1), some (zI w), some (zI k), some (zI y), some (zI a), some (zI ((zrO (bN B) (rN R) w k y a)))], [], (zw ((sn, sf, 5, 5, 22)) B S Z L R M), 0, 0) (16, [some (zR 1), some (zI w), some (zI k), some (zI y), some (zI a), some (zI ((zrO (bN B) (rN R) w k y a)))], [], (zw ((sn, sf, 5, 5, 22)) B S Z L R M), 0, 0) rfl ⟨(show (-2147483648 : Int) ≤ (zrO (bN B) (rN R) w k y a) ∧ (zrO (bN B) (rN R) w k y a) ≤ 2147483647 by omega), trivial⟩ (fun h13 => ?_) (fun h13 => ?_)
  · obtain ⟨g0, g1, g2, g3, g4⟩ := hro.resolve_right (by omega)
    have hl := zlast_rng hn.1 g2
    refine z_cV c 6 k_5_86 zv_X0_lastOf (pc := 33) (ls := [some (zR 1), some (zI w), some (zI k), some (zI y), some (zI a), some (zI ((zrO (bN B) (rN R) w k y a)))]) (sk := [zI w, zR 5]) (h := (zw ((sn, sf, 5, 5, 22)) B S Z L R M)) (cs := 0) (ss := 0) (c_X0_lastOf l ((sn, sf, 5, 5, 22)) B S Z L R M a (by omega)) rfl trivial rfl rfl ⟨Nat.le_refl _, Nat.le_refl _⟩ ?_
    rintro _ _ ⟨rfl, rfl⟩
    show V (33, [some (zR 1), some (zI w), some (zI k), some (zI y), some (zI a), some (zI ((zrO (bN B) (rN R) w k y a)))], [zI ((zlast ((bN B)) a)), zI w, zR 5], (zw ((sn, sf, 5, 5, 22)) B S Z L R M), 0, 0)
    refine z_cV c 1 k_5_100 zv_X3_look (pc := 38) (ls := [some (zR 1), some (zI w), some (zI k), some (zI y), some (zI a), some (zI ((zrO (bN B) (rN R) w k y a)))]) (sk := []) (h := (zw ((sn, sf, 5, 5, 22)) B S Z L R M)) (cs := 0) (ss := 0) (c_lookS l ((sn, sf, 5, 5, 22)) B S Z L R M (rN R) w ((zlast ((bN B)) a)) ((-9)) hB (by omega) hl (by omega) hch_S) rfl trivial rfl rfl ⟨Nat.le_refl _, Nat.le_refl _⟩ ?_
    rintro _ _ ⟨rfl, S35, rfl, hsi_S35, ha_S35, hb_S35, hc_S35⟩
    have hch_S35 := zch_of hsi_S35 ha_S35 hb_S35 hc_S35 (by omega) (by omega) (by omega)
    obtain ⟨v1, v2, v3⟩ := zBv_lim hB hl
    obtain ⟨r1, r2, r3, r4, r5, r6, r7⟩ := zSi_rng hsi_S35 v1 v2 v3
    show V (38, [some (zR 1), some (zI w), some (zI k), some (zI y), some (zI a), some (zI ((zrO (bN B) (rN R) w k y a)))], [], (zw ((sn, sf, 5, 5, 22)) B S35 Z L R M), 0, 0)
    refine z_cV c 4 k_5_112 zv_X4_reckon (pc := 49) (ls := [some (zR 1), some (zI w), some (zI k), some (zI y), some (zI a), some (zI ((zrO (bN B) (rN R) w k y a)))]) (sk := []) (h := (zw ((sn, sf, 5, 5, 22)) B S35 Z L R M)) (cs := 0) (ss := 0) (c_reckon l ((sn, sf, 5, 5, 22)) B S35 Z L R M k (by omega) r1 r2 r3 hsi_S35.2.2.2.2.2) rfl trivial rfl rfl ⟨Nat.le_refl _, Nat.le_refl _⟩ ?_
    rintro _ _ ⟨rfl, L46, E46, R46, rfl, hR46, hK46⟩
    obtain ⟨-, hrk⟩ := (hR46 k (by omega) (by omega)).resolve_left (by omega)
    have hch2 : zch (bT B) (bK B) (bN B) (((pW ((sP S35))), L46, E46, R46, (pB ((sP S35))), (pN ((sP S35))), (pP ((sP S35))), (pG ((sP S35)))), (sW S35), (sO S35), (sG S35), (sOc S35), (sGc S35), (sWn S35), (sWay S35), (sLast S35), (sWo S35)) := zch_of (w := w) (l := zlast (bN B) a) (q := -9) ⟨hsi_S35.1, hsi_S35.2.1, hsi_S35.2.2.1, hsi_S35.2.2.2.1, hsi_S35.2.2.2.2.1, hR46⟩ ha_S35 hb_S35 hc_S35 (by omega) (by omega) (by omega)
    show V (49, [some (zR 1), some (zI w), some (zI k), some (zI y), some (zI a), some (zI ((zrO (bN B) (rN R) w k y a)))], [], (zw ((sn, sf, 5, 5, 22)) B (((pW ((sP S35))), L46, E46, R46, (pB ((sP S35))), (pN ((sP S35))), (pP ((sP S35))), (pG ((sP S35)))), (sW S35), (sO S35), (sG S35), (sOc S35), (sGc S35), (sWn S35), (sWay S35), (sLast S35), (sWo S35)) Z L R M), 0, 0)
    refine z_cV c 5 k_5_116 zv_X4_latestEnd (pc := 61) (ls := [some (zR 1), some (zI w), some (zI k), some (zI y), some (zI a), some (zI ((zrO (bN B) (rN R) w k y a)))]) (sk := []) (h := (zw ((sn, sf, 5, 5, 22)) B (((pW ((sP S35))), L46, E46, R46, (pB ((sP S35))), (pN ((sP S35))), (pP ((sP S35))), (pG ((sP S35)))), (sW S35), (sO S35), (sG S35), (sOc S35), (sGc S35), (sWn S35), (sWay S35), (sLast S35), (sWo S35)) Z L R M)) (cs := 0) (ss := 0) (c_X4_latestEnd l ((sn, sf, 5, 5, 22)) B (((pW ((sP S35))), L46, E46, R46, (pB ((sP S35))), (pN ((sP S35))), (pP ((sP S35))), (pG ((sP S35)))), (sW S35), (sO S35), (sG S35), (sOc S35), (sGc S35), (sWn S35), (sWay S35), (sLast S35), (sWo S35)) Z L R M k y (by omega) (by omega)) rfl trivial rfl rfl ⟨Nat.le_refl _, Nat.le_refl _⟩ ?_
    rintro _ _ ⟨rfl, rfl⟩
    obtain ⟨-, hE⟩ := hrk y (by omega) (by omega)
    have hE1 := zld_eq (H := zhold (zps (pW (sP S35)) k) (pB (sP S35)) (pP (sP S35)) (pN (sP S35)) (pG (sP S35))) (y := y) (by omega)
    rw [zSi_ho hsi_S35 v1 (by omega) (by omega)] at hE1
    have hE2 := zlt_rng (zhold (zps (pW (sP S35)) k) (pB (sP S35)) (pP (sP S35)) (pN (sP S35)) (pG (sP S35))) (y.toNat + 1)
    unfold zld at hE hE1
    show V (61, [some (zR 1), some (zI w), some (zI k), some (zI y), some (zI a), some (zI ((zrO (bN B) (rN R) w k y a)))], [zI ((E46 (k * 101 + y)))], (zw ((sn, sf, 5, 5, 22)) B (((pW ((sP S35))), L46, E46, R46, (pB ((sP S35))), (pN ((sP S35))), (pP ((sP S35))), (pG ((sP S35)))), (sW S35), (sO S35), (sG S35), (sOc S35), (sGc S35), (sWn S35), (sWay S35), (sLast S35), (sWo S35)) Z L R M), 0, 0)
    refine z_br c 1 (¬ (E46 (k * 101 + y)) = y) (69, [some (zR 1), some (zI w), some (zI k), some (zI y), some (zI a), some (zI ((zrO (bN B) (rN R) w k y a)))], [], (zw ((sn, sf, 5, 5, 22)) B (((pW ((sP S35))), L46, E46, R46, (pB ((sP S35))), (pN ((sP S35))), (pP ((sP S35))), (pG ((sP S35)))), (sW S35), (sO S35), (sG S35), (sOc S35), (sGc S35), (sWn S35), (sWay S35), (sLast S35), (sWo S35)) Z L R M), 0, 0) (65, [some (zR 1), some (zI w), some (zI k), some (zI y), some (zI a), some (zI ((zrO (bN B) (rN R) w k y a)))], [], (zw ((sn, sf, 5, 5, 22)) B (((pW ((sP S35))), L46, E46, R46, (pB ((sP S35))), (pN ((sP S35))), (pP ((sP S35))), (pG ((sP S35)))), (sW S35), (sO S35), (sG S35), (sOc S35), (sGc S35), (sWn S35), (sWay S35), (sLast S35), (sWo S35)) Z L R M), 0, 0) rfl ⟨(show ((-2147483648 : Int) ≤ (E46 (k * 101 + y)) ∧ (E46 (k * 101 + y)) ≤ 2147483647) ∧ (-2147483648 : Int) ≤ y ∧ y ≤ 2147483647 by omega), trivial⟩ (fun h62 => ?_) (fun h62 => ?_)
    · refine z_cS c 1 k_5_92 zv_X5_yes (pc := 73) (ls := [some (zR 1), some (zI w), some (zI k), some (zI y), some (zI a), some (zI ((zrO (bN B) (rN R) w k y a)))]) (sk := []) (h := (zw ((sn, sf, 5, 5, 22)) B (((pW ((sP S35))), L46, E46, R46, (pB ((sP S35))), (pN ((sP S35))), (pP ((sP S35))), (pG ((sP S35)))), (sW S35), (sO S35), (sG S35), (sOc S35), (sGc S35), (sWn S35), (sWay S35), (sLast S35), (sWo S35)) Z L R M)) (cs := 0) (ss := 0) (c_X5_yes l (zw ((sn, sf, 5, 5, 22)) B (((pW ((sP S35))), L46, E46, R46, (pB ((sP S35))), (pN ((sP S35))), (pP ((sP S35))), (pG ((sP S35)))), (sW S35), (sO S35), (sG S35), (sOc S35), (sGc S35), (sWn S35), (sWay S35), (sLast S35), (sWo S35)) Z L R M) 0 (by omega)) rfl trivial rfl ⟨Nat.le_refl _, Nat.le_refl _⟩ ?_
      rintro _ _ ⟨rfl, rfl⟩
      show V (73, [some (zR 1), some (zI w), some (zI k), some (zI y), some (zI a), some (zI ((zrO (bN B) (rN R) w k y a)))], [zI 0], (zw ((sn, sf, 5, 5, 22)) B (((pW ((sP S35))), L46, E46, R46, (pB ((sP S35))), (pN ((sP S35))), (pP ((sP S35))), (pG ((sP S35)))), (sW S35), (sO S35), (sG S35), (sOc S35), (sGc S35), (sWn S35), (sWay S35), (sLast S35), (sWo S35)) Z L R M), 0, 0)
      exact z_re c 0 (v := some (zI 0)) (h := (zw ((sn, sf, 5, 5, 22)) B (((pW ((sP S35))), L46, E46, R46, (pB ((sP S35))), (pN ((sP S35))), (pP ((sP S35))), (pG ((sP S35)))), (sW S35), (sO S35), (sG S35), (sOc S35), (sGc S35), (sWn S35), (sWay S35), (sLast S35), (sWo S35)) Z L R M)) (cs := 0) (ss := 0) rfl trivial trivial ⟨Nat.le_refl _, Nat.le_refl _⟩ ⟨_, by rw [if_pos (by omega)]; rw [if_neg (by rw [← hE1]; omega)], rfl, hch2⟩
    · refine z_cS c 2 k_5_92 zv_X5_yes (pc := 73) (ls := [some (zR 1), some (zI w), some (zI k), some (zI y), some (zI a), some (zI ((zrO (bN B) (rN R) w k y a)))]) (sk := []) (h := (zw ((sn, sf, 5, 5, 22)) B (((pW ((sP S35))), L46, E46, R46, (pB ((sP S35))), (pN ((sP S35))), (pP ((sP S35))), (pG ((sP S35)))), (sW S35), (sO S35), (sG S35), (sOc S35), (sGc S35), (sWn S35), (sWay S35), (sLast S35), (sWo S35)) Z L R M)) (cs := 0) (ss := 0) (c_X5_yes l (zw ((sn, sf, 5, 5, 22)) B (((pW ((sP S35))), L46, E46, R46, (pB ((sP S35))), (pN ((sP S35))), (pP ((sP S35))), (pG ((sP S35)))), (sW S35), (sO S35), (sG S35), (sOc S35), (sGc S35), (sWn S35), (sWay S35), (sLast S35), (sWo S35)) Z L R M) 1 (by omega)) rfl trivial rfl ⟨Nat.le_refl _, Nat.le_refl _⟩ ?_
      rintro _ _ ⟨rfl, rfl⟩
      show V (73, [some (zR 1), some (zI w), some (zI k), some (zI y), some (zI a), some (zI ((zrO (bN B) (rN R) w k y a)))], [zI 1], (zw ((sn, sf, 5, 5, 22)) B (((pW ((sP S35))), L46, E46, R46, (pB ((sP S35))), (pN ((sP S35))), (pP ((sP S35))), (pG ((sP S35)))), (sW S35), (sO S35), (sG S35), (sOc S35), (sGc S35), (sWn S35), (sWay S35), (sLast S35), (sWo S35)) Z L R M), 0, 0)
      exact z_re c 0 (v := some (zI 1)) (h := (zw ((sn, sf, 5, 5, 22)) B (((pW ((sP S35))), L46, E46, R46, (pB ((sP S35))), (pN ((sP S35))), (pP ((sP S35))), (pG ((sP S35)))), (sW S35), (sO S35), (sG S35), (sOc S35), (sGc S35), (sWn S35), (sWay S35), (sLast S35), (sWo S35)) Z L R M)) (cs := 0) (ss := 0) rfl trivial trivial ⟨Nat.le_refl _, Nat.le_refl _⟩ ⟨_, by rw [if_pos (by omega)]; rw [if_pos (by rw [← hE1]; omega)], rfl, hch2⟩
  · exact z_re c 1 (v := some (zI ((zrO (bN B) (rN R) w k y a)))) (h := (zw ((sn, sf, 5, 5, 22)) B S Z L R M)) (cs := 0) (ss := 0) rfl trivial trivial ⟨Nat.le_refl _, Nat.le_refl _⟩ ⟨S, by rw [if_neg (by omega)], rfl, hch_S⟩
set_option maxRecDepth 4000 in
theorem c_X5_lacking (l : Launch) (sn : Nat) (sf : Int → Int) (B : ZBk) (S Z : ZSg) (L : ZLn) (R : ZRd) (M : ZMd) (w k y a : Int) (hB : zBv (bT B) (bK B) (bN B) (rN R)) (hch_S : zch (bT B) (bK B) (bN B) S) (hr : 0 ≤ rN R ∧ rN R ≤ 12) (hw : (-2147483648 ≤ w ∧ w ≤ 2147483647)) (hk : (-2147483648 ≤ k ∧ k ≤ 2147483647)) (hy : (-2147483648 ≤ y ∧ y ≤ 2147483647)) (ha : (-2147483648 ≤ a ∧ a ≤ 2147483647)) : zMet l m_X5_lacking [zR 1, zI w, zI k, zI y, zI a] (zw ((sn, sf, 5, 5, 22)) B S Z L R M) (fun v h1 => ∃ S1, v = some (zI (if (zrO (bN B) (rN R) w k y a) = 0 then zLa (bT B) (zcB (bK B) (bN B) (zlast (bN B) a) (-9)) w ((zlast (bN B) a) + 1).toNat k y else (zrO (bN B) (rN R) w k y a))) ∧ (zw ((sn, sf, 5, 5, 22)) B S1 Z L R M) = h1 ∧ zch (bT B) (bK B) (bN B) S1) := by
  refine z_method g_X5_lacking [some (zR 1), some (zI w), some (zI k), some (zI y), some (zI a), none] rfl rfl (fun V c => ?_)
  have hn := hB.1
  refine z_cV c 5 k_5_96 zv_X5_refusalOf (pc := 9) (ls := [some (zR 1), some (zI w), some (zI k), some (zI y), some (zI a), none]) (sk := []) (h := (zw ((sn, sf, 5, 5, 22)) B S Z L R M)) (cs := 0) (ss := 0) (c_X5_refusalOf l sn sf B S Z L R M w k y a hn hr (by omega) (by omega) (by omega) (by omega)) rfl trivial rfl rfl ⟨Nat.le_refl _, Nat.le_refl _⟩ ?_
  rintro _ _ ⟨rfl, rfl⟩
  have hro := zrO_c (bN B) (rN R) w k y a
  show V (9, [some (zR 1), some (zI w), some (zI k), some (zI y), some (zI a), none], [zI ((zrO (bN B) (rN R) w k y a))], (zw ((sn, sf, 5, 5, 22)) B S Z L R M), 0, 0)
  refine z_br c 2 ((zrO (bN B) (rN R) w k y a) = 0) (19, [some (zR 1), some (zI w), some (zI k), some (zI y), some (zI a), some (zI ((zrO (bN B) (rN R) w k y a)))], [], (zw ((sn, sf, 5, 5, 22)) B S Z L R M), 0, 0) (16, [some (zR 1), some (zI w), some (zI k), some (zI y), some (zI a), some (zI ((zrO (bN B) (rN R) w k y a)))], [], (zw ((sn, sf, 5, 5, 22)) B S Z L R M), 0, 0) rfl ⟨(show (-2147483648 : Int) ≤ (zrO (bN B) (rN R) w k y a) ∧ (zrO (bN B) (rN R) w k y a) ≤ 2147483647 by omega), trivial⟩ (fun h13 => ?_) (fun h13 => ?_)
  · obtain ⟨g0, g1, g2, g3, g4⟩ := hro.resolve_right (by omega)
    have hl := zlast_rng hn.1 g2
    refine z_cV c 6 k_5_86 zv_X0_lastOf (pc := 33) (ls := [some (zR 1), some (zI w), some (zI k), some (zI y), some (zI a), some (zI ((zrO (bN B) (rN R) w k y a)))]) (sk := [zI w, zR 5]) (h := (zw ((sn, sf, 5, 5, 22)) B S Z L R M)) (cs := 0) (ss := 0) (c_X0_lastOf l ((sn, sf, 5, 5, 22)) B S Z L R M a (by omega)) rfl trivial rfl rfl ⟨Nat.le_refl _, Nat.le_refl _⟩ ?_
    rintro _ _ ⟨rfl, rfl⟩
    show V (33, [some (zR 1), some (zI w), some (zI k), some (zI y), some (zI a), some (zI ((zrO (bN B) (rN R) w k y a)))], [zI ((zlast ((bN B)) a)), zI w, zR 5], (zw ((sn, sf, 5, 5, 22)) B S Z L R M), 0, 0)
    refine z_cV c 1 k_5_100 zv_X3_look (pc := 38) (ls := [some (zR 1), some (zI w), some (zI k), some (zI y), some (zI a), some (zI ((zrO (bN B) (rN R) w k y a)))]) (sk := []) (h := (zw ((sn, sf, 5, 5, 22)) B S Z L R M)) (cs := 0) (ss := 0) (c_lookS l ((sn, sf, 5, 5, 22)) B S Z L R M (rN R) w ((zlast ((bN B)) a)) ((-9)) hB (by omega) hl (by omega) hch_S) rfl trivial rfl rfl ⟨Nat.le_refl _, Nat.le_refl _⟩ ?_
    rintro _ _ ⟨rfl, S35, rfl, hsi_S35, ha_S35, hb_S35, hc_S35⟩
    have hch_S35 := zch_of hsi_S35 ha_S35 hb_S35 hc_S35 (by omega) (by omega) (by omega)
    obtain ⟨v1, v2, v3⟩ := zBv_lim hB hl
    obtain ⟨r1, r2, r3, r4, r5, r6, r7⟩ := zSi_rng hsi_S35 v1 v2 v3
    show V (38, [some (zR 1), some (zI w), some (zI k), some (zI y), some (zI a), some (zI ((zrO (bN B) (rN R) w k y a)))], [], (zw ((sn, sf, 5, 5, 22)) B S35 Z L R M), 0, 0)
    refine z_cV c 4 k_5_112 zv_X4_reckon (pc := 49) (ls := [some (zR 1), some (zI w), some (zI k), some (zI y), some (zI a), some (zI ((zrO (bN B) (rN R) w k y a)))]) (sk := []) (h := (zw ((sn, sf, 5, 5, 22)) B S35 Z L R M)) (cs := 0) (ss := 0) (c_reckon l ((sn, sf, 5, 5, 22)) B S35 Z L R M k (by omega) r1 r2 r3 hsi_S35.2.2.2.2.2) rfl trivial rfl rfl ⟨Nat.le_refl _, Nat.le_refl _⟩ ?_
    rintro _ _ ⟨rfl, L46, E46, R46, rfl, hR46, hK46⟩
    obtain ⟨-, hrk⟩ := (hR46 k (by omega) (by omega)).resolve_left (by omega)
    have hch2 : zch (bT B) (bK B) (bN B) (((pW ((sP S35))), L46, E46, R46, (pB ((sP S35))), (pN ((sP S35))), (pP ((sP S35))), (pG ((sP S35)))), (sW S35), (sO S35), (sG S35), (sOc S35), (sGc S35), (sWn S35), (sWay S35), (sLast S35), (sWo S35)) := zch_of (w := w) (l := zlast (bN B) a) (q := -9) ⟨hsi_S35.1, hsi_S35.2.1, hsi_S35.2.2.1, hsi_S35.2.2.2.1, hsi_S35.2.2.2.2.1, hR46⟩ ha_S35 hb_S35 hc_S35 (by omega) (by omega) (by omega)
    show V (49, [some (zR 1), some (zI w), some (zI k), some (zI y), some (zI a), some (zI ((zrO (bN B) (rN R) w k y a)))], [], (zw ((sn, sf, 5, 5, 22)) B (((pW ((sP S35))), L46, E46, R46, (pB ((sP S35))), (pN ((sP S35))), (pP ((sP S35))), (pG ((sP S35)))), (sW S35), (sO S35), (sG S35), (sOc S35), (sGc S35), (sWn S35), (sWay S35), (sLast S35), (sWo S35)) Z L R M), 0, 0)
    refine z_cV c 5 k_5_119 zv_X4_fewIn (pc := 61) (ls := [some (zR 1), some (zI w), some (zI k), some (zI y), some (zI a), some (zI ((zrO (bN B) (rN R) w k y a)))]) (sk := []) (h := (zw ((sn, sf, 5, 5, 22)) B (((pW ((sP S35))), L46, E46, R46, (pB ((sP S35))), (pN ((sP S35))), (pP ((sP S35))), (pG ((sP S35)))), (sW S35), (sO S35), (sG S35), (sOc S35), (sGc S35), (sWn S35), (sWay S35), (sLast S35), (sWo S35)) Z L R M)) (cs := 0) (ss := 0) (c_X4_fewIn l ((sn, sf, 5, 5, 22)) B (((pW ((sP S35))), L46, E46, R46, (pB ((sP S35))), (pN ((sP S35))), (pP ((sP S35))), (pG ((sP S35)))), (sW S35), (sO S35), (sG S35), (sOc S35), (sGc S35), (sWn S35), (sWay S35), (sLast S35), (sWo S35)) Z L R M k y (by omega) (by omega) r1.1) rfl trivial rfl rfl ⟨Nat.le_refl _, Nat.le_refl _⟩ ?_
    rintro _ _ ⟨rfl, rfl⟩
    show V (61, [some (zR 1), some (zI w), some (zI k), some (zI y), some (zI a), some (zI ((zrO (bN B) (rN R) w k y a)))], [zI ((zfi L46 (pN ((sP S35))) k y))], (zw ((sn, sf, 5, 5, 22)) B (((pW ((sP S35))), L46, E46, R46, (pB ((sP S35))), (pN ((sP S35))), (pP ((sP S35))), (pG ((sP S35)))), (sW S35), (sO S35), (sG S35), (sOc S35), (sGc S35), (sWn S35), (sWay S35), (sLast S35), (sWo S35)) Z L R M), 0, 0)
    exact z_re c 0 (v := some (zI ((zfi L46 (pN ((sP S35))) k y)))) (h := (zw ((sn, sf, 5, 5, 22)) B (((pW ((sP S35))), L46, E46, R46, (pB ((sP S35))), (pN ((sP S35))), (pP ((sP S35))), (pG ((sP S35)))), (sW S35), (sO S35), (sG S35), (sOc S35), (sGc S35), (sWn S35), (sWay S35), (sLast S35), (sWo S35)) Z L R M)) (cs := 0) (ss := 0) rfl trivial trivial ⟨Nat.le_refl _, Nat.le_refl _⟩ ⟨_, by rw [if_pos (by omega)]; rw [zSi_la hsi_S35 v1 (by omega) (by omega) (fun e a b => (hrk e a b).1)], rfl, hch2⟩
  · exact z_re c 1 (v := some (zI ((zrO (bN B) (rN R) w k y a)))) (h := (zw ((sn, sf, 5, 5, 22)) B S Z L R M)) (cs := 0) (ss := 0) rfl trivial trivial ⟨Nat.le_refl _, Nat.le_refl _⟩ ⟨S, by rw [if_neg (by omega)], rfl, hch_S⟩
set_option maxRecDepth 4000 in
theorem c_X5_papers (l : Launch) (sn : Nat) (sf : Int → Int) (B : ZBk) (S Z : ZSg) (L : ZLn) (R : ZRd) (M : ZMd) (w k a : Int) (hB : zBv (bT B) (bK B) (bN B) (rN R)) (hch_S : zch (bT B) (bK B) (bN B) S) (hr : 0 ≤ rN R ∧ rN R ≤ 12) (hw : (-2147483648 ≤ w ∧ w ≤ 2147483647)) (hk : (-2147483648 ≤ k ∧ k ≤ 2147483647)) (ha : (-2147483648 ≤ a ∧ a ≤ 2147483647)) : zMet l m_X5_papers [zR 1, zI w, zI k, zI a] (zw ((sn, sf, 5, 5, 22)) B S Z L R M) (fun v h1 => ∃ S1, v = some (zI (if (zrO (bN B) (rN R) w k 0 a) = 0 then zwk (zVS (bT B) (zcB (bK B) (bN B) (zlast (bN B) a) (-9)) w ((zlast (bN B) a) + 1).toNat) k else (zrO (bN B) (rN R) w k 0 a))) ∧ (zw ((sn, sf, 5, 5, 22)) B S1 Z L R M) = h1 ∧ zch (bT B) (bK B) (bN B) S1) := by
  refine z_method g_X5_papers [some (zR 1), some (zI w), some (zI k), some (zI a), none] rfl rfl (fun V c => ?_)
  have hn := hB.1
  refine z_cV c 5 k_5_96 zv_X5_refusalOf (pc := 8) (ls := [some (zR 1), some (zI w), some (zI k), some (zI a), none]) (sk := []) (h := (zw ((sn, sf, 5, 5, 22)) B S Z L R M)) (cs := 0) (ss := 0) (c_X5_refusalOf l sn sf B S Z L R M w k 0 a hn hr (by omega) (by omega) (by omega) (by omega)) rfl trivial rfl rfl ⟨Nat.le_refl _, Nat.le_refl _⟩ ?_
  rintro _ _ ⟨rfl, rfl⟩
  have hro := zrO_c (bN B) (rN R) w k 0 a
  show V (8, [some (zR 1), some (zI w), some (zI k), some (zI a), none], [zI ((zrO (bN B) (rN R) w k 0 a))], (zw ((sn, sf, 5, 5, 22)) B S Z L R M), 0, 0)
  refine z_br c 2 ((zrO (bN B) (rN R) w k 0 a) = 0) (18, [some (zR 1), some (zI w), some (zI k), some (zI a), some (zI ((zrO (bN B) (rN R) w k 0 a)))], [], (zw ((sn, sf, 5, 5, 22)) B S Z L R M), 0, 0) (15, [some (zR 1), some (zI w), some (zI k), some (zI a), some (zI ((zrO (bN B) (rN R) w k 0 a)))], [], (zw ((sn, sf, 5, 5, 22)) B S Z L R M), 0, 0) rfl ⟨(show (-2147483648 : Int) ≤ (zrO (bN B) (rN R) w k 0 a) ∧ (zrO (bN B) (rN R) w k 0 a) ≤ 2147483647 by omega), trivial⟩ (fun h12 => ?_) (fun h12 => ?_)
  · obtain ⟨g0, g1, g2, g3, g4⟩ := hro.resolve_right (by omega)
    have hl := zlast_rng hn.1 g2
    refine z_cV c 6 k_5_86 zv_X0_lastOf (pc := 31) (ls := [some (zR 1), some (zI w), some (zI k), some (zI a), some (zI ((zrO (bN B) (rN R) w k 0 a)))]) (sk := [zI w, zR 5]) (h := (zw ((sn, sf, 5, 5, 22)) B S Z L R M)) (cs := 0) (ss := 0) (c_X0_lastOf l ((sn, sf, 5, 5, 22)) B S Z L R M a (by omega)) rfl trivial rfl rfl ⟨Nat.le_refl _, Nat.le_refl _⟩ ?_
    rintro _ _ ⟨rfl, rfl⟩
    show V (31, [some (zR 1), some (zI w), some (zI k), some (zI a), some (zI ((zrO (bN B) (rN R) w k 0 a)))], [zI ((zlast ((bN B)) a)), zI w, zR 5], (zw ((sn, sf, 5, 5, 22)) B S Z L R M), 0, 0)
    refine z_cV c 1 k_5_100 zv_X3_look (pc := 36) (ls := [some (zR 1), some (zI w), some (zI k), some (zI a), some (zI ((zrO (bN B) (rN R) w k 0 a)))]) (sk := []) (h := (zw ((sn, sf, 5, 5, 22)) B S Z L R M)) (cs := 0) (ss := 0) (c_lookS l ((sn, sf, 5, 5, 22)) B S Z L R M (rN R) w ((zlast ((bN B)) a)) ((-9)) hB (by omega) hl (by omega) hch_S) rfl trivial rfl rfl ⟨Nat.le_refl _, Nat.le_refl _⟩ ?_
    rintro _ _ ⟨rfl, S33, rfl, hsi_S33, ha_S33, hb_S33, hc_S33⟩
    have hch_S33 := zch_of hsi_S33 ha_S33 hb_S33 hc_S33 (by omega) (by omega) (by omega)
    obtain ⟨v1, v2, v3⟩ := zBv_lim hB hl
    obtain ⟨r1, r2, r3, r4, r5, r6, r7⟩ := zSi_rng hsi_S33 v1 v2 v3
    show V (36, [some (zR 1), some (zI w), some (zI k), some (zI a), some (zI ((zrO (bN B) (rN R) w k 0 a)))], [], (zw ((sn, sf, 5, 5, 22)) B S33 Z L R M), 0, 0)
    refine z_cV c 3 k_5_122 zv_X3_weightOf (pc := 44) (ls := [some (zR 1), some (zI w), some (zI k), some (zI a), some (zI ((zrO (bN B) (rN R) w k 0 a)))]) (sk := []) (h := (zw ((sn, sf, 5, 5, 22)) B S33 Z L R M)) (cs := 0) (ss := 0) (c_X3_weightOf l ((sn, sf, 5, 5, 22)) B S33 Z L R M k (by omega)) rfl trivial rfl rfl ⟨Nat.le_refl _, Nat.le_refl _⟩ ?_
    rintro _ _ ⟨rfl, rfl⟩
    show V (44, [some (zR 1), some (zI w), some (zI k), some (zI a), some (zI ((zrO (bN B) (rN R) w k 0 a)))], [zI ((zwk ((sW S33)) k))], (zw ((sn, sf, 5, 5, 22)) B S33 Z L R M), 0, 0)
    exact z_re c 0 (v := some (zI ((zwk ((sW S33)) k)))) (h := (zw ((sn, sf, 5, 5, 22)) B S33 Z L R M)) (cs := 0) (ss := 0) rfl trivial trivial ⟨Nat.le_refl _, Nat.le_refl _⟩ ⟨_, by rw [if_pos (by omega)]; unfold zwk; rw [zwm_cong _ (fun j a b => hsi_S33.2.2.2.1 j (by omega) (by omega))], rfl, hch_S33⟩
  · exact z_re c 1 (v := some (zI ((zrO (bN B) (rN R) w k 0 a)))) (h := (zw ((sn, sf, 5, 5, 22)) B S Z L R M)) (cs := 0) (ss := 0) rfl trivial trivial ⟨Nat.le_refl _, Nat.le_refl _⟩ ⟨S, by rw [if_neg (by omega)], rfl, hch_S⟩
set_option maxRecDepth 4000 in
theorem c_X5_force (l : Launch) (sn : Nat) (sf : Int → Int) (B : ZBk) (S Z : ZSg) (L : ZLn) (R : ZRd) (M : ZMd) (w k y a : Int) (hB : zBv (bT B) (bK B) (bN B) (rN R)) (hch_S : zch (bT B) (bK B) (bN B) S) (hr : 0 ≤ rN R ∧ rN R ≤ 12) (hw : (-2147483648 ≤ w ∧ w ≤ 2147483647)) (hk : (-2147483648 ≤ k ∧ k ≤ 2147483647)) (hy : (-2147483648 ≤ y ∧ y ≤ 2147483647)) (ha : (-2147483648 ≤ a ∧ a ≤ 2147483647)) : zMet l m_X5_force [zR 1, zI w, zI k, zI y, zI a] (zw ((sn, sf, 5, 5, 22)) B S Z L R M) (fun v h1 => ∃ S1, v = some (zI (if (zrO (bN B) (rN R) w k y a) = 0 then zF (bT B) (bK B) (bN B) w (zlast (bN B) a) (-9) k y else (zrO (bN B) (rN R) w k y a))) ∧ (zw ((sn, sf, 5, 5, 22)) B S1 Z L R M) = h1 ∧ zch (bT B) (bK B) (bN B) S1) := by
  refine z_method g_X5_force [some (zR 1), some (zI w), some (zI k), some (zI y), some (zI a), none] rfl rfl (fun V c => ?_)
  have hn := hB.1
  refine z_cV c 5 k_5_96 zv_X5_refusalOf (pc := 9) (ls := [some (zR 1), some (zI w), some (zI k), some (zI y), some (zI a), none]) (sk := []) (h := (zw ((sn, sf, 5, 5, 22)) B S Z L R M)) (cs := 0) (ss := 0) (c_X5_refusalOf l sn sf B S Z L R M w k y a hn hr (by omega) (by omega) (by omega) (by omega)) rfl trivial rfl rfl ⟨Nat.le_refl _, Nat.le_refl _⟩ ?_
  rintro _ _ ⟨rfl, rfl⟩
  have hro := zrO_c (bN B) (rN R) w k y a
  show V (9, [some (zR 1), some (zI w), some (zI k), some (zI y), some (zI a), none], [zI ((zrO (bN B) (rN R) w k y a))], (zw ((sn, sf, 5, 5, 22)) B S Z L R M), 0, 0)
  refine z_br c 2 ((zrO (bN B) (rN R) w k y a) = 0) (19, [some (zR 1), some (zI w), some (zI k), some (zI y), some (zI a), some (zI ((zrO (bN B) (rN R) w k y a)))], [], (zw ((sn, sf, 5, 5, 22)) B S Z L R M), 0, 0) (16, [some (zR 1), some (zI w), some (zI k), some (zI y), some (zI a), some (zI ((zrO (bN B) (rN R) w k y a)))], [], (zw ((sn, sf, 5, 5, 22)) B S Z L R M), 0, 0) rfl ⟨(show (-2147483648 : Int) ≤ (zrO (bN B) (rN R) w k y a) ∧ (zrO (bN B) (rN R) w k y a) ≤ 2147483647 by omega), trivial⟩ (fun h13 => ?_) (fun h13 => ?_)
  · obtain ⟨g0, g1, g2, g3, g4⟩ := hro.resolve_right (by omega)
    have hl := zlast_rng hn.1 g2
    refine z_cV c 6 k_5_86 zv_X0_lastOf (pc := 33) (ls := [some (zR 1), some (zI w), some (zI k), some (zI y), some (zI a), some (zI ((zrO (bN B) (rN R) w k y a)))]) (sk := [zI w, zR 5]) (h := (zw ((sn, sf, 5, 5, 22)) B S Z L R M)) (cs := 0) (ss := 0) (c_X0_lastOf l ((sn, sf, 5, 5, 22)) B S Z L R M a (by omega)) rfl trivial rfl rfl ⟨Nat.le_refl _, Nat.le_refl _⟩ ?_
    rintro _ _ ⟨rfl, rfl⟩
    show V (33, [some (zR 1), some (zI w), some (zI k), some (zI y), some (zI a), some (zI ((zrO (bN B) (rN R) w k y a)))], [zI ((zlast ((bN B)) a)), zI w, zR 5], (zw ((sn, sf, 5, 5, 22)) B S Z L R M), 0, 0)
    refine z_cV c 1 k_5_100 zv_X3_look (pc := 38) (ls := [some (zR 1), some (zI w), some (zI k), some (zI y), some (zI a), some (zI ((zrO (bN B) (rN R) w k y a)))]) (sk := []) (h := (zw ((sn, sf, 5, 5, 22)) B S Z L R M)) (cs := 0) (ss := 0) (c_lookS l ((sn, sf, 5, 5, 22)) B S Z L R M (rN R) w ((zlast ((bN B)) a)) ((-9)) hB (by omega) hl (by omega) hch_S) rfl trivial rfl rfl ⟨Nat.le_refl _, Nat.le_refl _⟩ ?_
    rintro _ _ ⟨rfl, S35, rfl, hsi_S35, ha_S35, hb_S35, hc_S35⟩
    have hch_S35 := zch_of hsi_S35 ha_S35 hb_S35 hc_S35 (by omega) (by omega) (by omega)
    obtain ⟨v1, v2, v3⟩ := zBv_lim hB hl
    obtain ⟨r1, r2, r3, r4, r5, r6, r7⟩ := zSi_rng hsi_S35 v1 v2 v3
    show V (38, [some (zR 1), some (zI w), some (zI k), some (zI y), some (zI a), some (zI ((zrO (bN B) (rN R) w k y a)))], [], (zw ((sn, sf, 5, 5, 22)) B S35 Z L R M), 0, 0)
    refine z_cV c 4 k_5_125 zv_X3_ground (pc := 47) (ls := [some (zR 1), some (zI w), some (zI k), some (zI y), some (zI a), some (zI ((zrO (bN B) (rN R) w k y a)))]) (sk := []) (h := (zw ((sn, sf, 5, 5, 22)) B S35 Z L R M)) (cs := 0) (ss := 0) (c_gS l ((sn, sf, 5, 5, 22)) B S35 Z L R M (rN R) w ((zlast ((bN B)) a)) ((-9)) k y hB hl hsi_S35 (by omega) (by omega)) rfl trivial rfl rfl ⟨Nat.le_refl _, Nat.le_refl _⟩ ?_
    rintro _ _ ⟨S44, rfl, rfl, hsi_S44, ha1_S44, hb1_S44, hc1_S44⟩
    have ha_S44 := ha1_S44.trans ha_S35
    have hb_S44 := hb1_S44.trans hb_S35
    have hc_S44 := hc1_S44.trans hc_S35
    have hch_S44 := zch_of hsi_S44 ha_S44 hb_S44 hc_S44 (by omega) (by omega) (by omega)
    have q44 := zF_rng (bT B) (bK B) (bN B) w ((zlast ((bN B)) a)) ((-9)) k y
    show V (47, [some (zR 1), some (zI w), some (zI k), some (zI y), some (zI a), some (zI ((zrO (bN B) (rN R) w k y a)))], [zI ((zF (bT B) (bK B) (bN B) w ((zlast ((bN B)) a)) ((-9)) k y))], (zw ((sn, sf, 5, 5, 22)) B S44 Z L R M), 0, 0)
    exact z_re c 0 (v := some (zI ((zF (bT B) (bK B) (bN B) w ((zlast ((bN B)) a)) ((-9)) k y)))) (h := (zw ((sn, sf, 5, 5, 22)) B S44 Z L R M)) (cs := 0) (ss := 0) rfl trivial trivial ⟨Nat.le_refl _, Nat.le_refl _⟩ ⟨_, by rw [if_pos (by omega)], rfl, hch_S44⟩
  · exact z_re c 1 (v := some (zI ((zrO (bN B) (rN R) w k y a)))) (h := (zw ((sn, sf, 5, 5, 22)) B S Z L R M)) (cs := 0) (ss := 0) rfl trivial trivial ⟨Nat.le_refl _, Nat.le_refl _⟩ ⟨S, by rw [if_neg (by omega)], rfl, hch_S⟩
