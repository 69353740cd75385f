/-! a look and the ground in the words of the book; the leaning -/
/-- a book that is told as it must be -/
def zBv (T K : Int → Int) (n nw : Int) : Prop := (0 ≤ n ∧ n ≤ 100) ∧ zBt T n ∧ zBk K n ∧ (∀ p : Nat, (p : Int) < n → zvp T nw (p : Int)) ∧ zno T n.toNat ≤ 20 ∧ zKs T K n
/-- by what a way is in force as of a page, one page left out -/
def zF (T K : Int → Int) (n w l q k y : Int) : Int := zfs T n (zcB K n l q) w (l + 1).toNat k y
theorem zF_rng (T K : Int → Int) (n w l q k y : Int) : 0 ≤ zF T K n w l q k y ∧ zF T K n w l q k y ≤ 3 := zgr_rng _ _ _ _ _ _ _ _ _ _ _ _ _
theorem zch_of {T K : Int → Int} {n w l q : Int} {S : ZSg} (h : zSi T n (zcB K n l q) (l + 1).toNat w S) (e1 : sWay S = w) (e2 : sLast S = l) (e3 : sWo S = q) (hw : 0 ≤ w ∧ w ≤ 100) (hl : -1 ≤ l ∧ l < n) (hq : -9 ≤ q ∧ q ≤ 100) : zch T K n S := by
  refine ⟨by omega, Or.inr ?_⟩
  rw [e1, e2, e3]
  exact h
theorem c_lookS (l : Launch) (sc : ZSc) (B : ZBk) (S Z : ZSg) (L : ZLn) (R : ZRd) (M : ZMd) (nw w l1 q : Int) (hB : zBv (bT B) (bK B) (bN B) nw) (hw : 0 ≤ w ∧ w ≤ 100) (hl : -1 ≤ l1 ∧ l1 < bN B) (hq : -9 ≤ q ∧ q < 100) (hch : zch (bT B) (bK B) (bN B) S) : zMet l m_X3_look [zR 5, zI w, zI l1, zI q] (zw sc B S Z L R M) (fun v h1 => v = none ∧ ∃ S1, (zw sc B S1 Z L R M) = h1 ∧ zSi (bT B) (bN B) (zcB (bK B) (bN B) l1 q) (l1 + 1).toNat w S1 ∧ sWay S1 = w ∧ sLast S1 = l1 ∧ sWo S1 = q) :=
  c_X3_look l sc B S Z L R M nw w l1 q hB.1 hB.2.1 hB.2.2.1 hB.2.2.2.1 hB.2.2.2.2.1 hw hl hq hch
theorem c_lookZ (l : Launch) (sn : Nat) (sf : Int → Int) (B : ZBk) (S Z : ZSg) (L : ZLn) (R : ZRd) (M : ZMd) (nw w l1 q : Int) (hB : zBv (bT B) (bK B) (bN B) nw) (hw : 0 ≤ w ∧ w ≤ 100) (hl : -1 ≤ l1 ∧ l1 < bN B) (hq : -9 ≤ q ∧ q < 100) (hch : zch (bT B) (bK B) (bN B) Z) : zMet l m_X3_look [zR 22, zI w, zI l1, zI q] (zw (sn, sf, 5, 5, 22) B S Z L R M) (fun v h1 => v = none ∧ ∃ S1, (zw (sn, sf, 5, 5, 22) B S S1 L R M) = h1 ∧ zSi (bT B) (bN B) (zcB (bK B) (bN B) l1 q) (l1 + 1).toNat w S1 ∧ sWay S1 = w ∧ sLast S1 = l1 ∧ sWo S1 = q) :=
  c_look_Z l sn sf B S Z L R M nw w l1 q hB.1 hB.2.1 hB.2.2.1 hB.2.2.2.1 hB.2.2.2.2.1 hw hl hq hch
theorem zBv_lim {T K : Int → Int} {n nw l : Int} (hB : zBv T K n nw) (hl : -1 ≤ l ∧ l < n) : (∀ p : Nat, p < (l + 1).toNat → zvp T nw (p : Int)) ∧ (l + 1).toNat ≤ 100 ∧ zno T (l + 1).toNat ≤ 20 := by
  obtain ⟨h1, -, -, h4, h5, -⟩ := hB
  refine ⟨fun p h => h4 p (by omega), by omega, ?_⟩
  have := zno_mono T n.toNat (show (l + 1).toNat ≤ n.toNat by omega)
  omega
theorem c_gS (l : Launch) (sc : ZSc) (B : ZBk) (S Z : ZSg) (L : ZLn) (R : ZRd) (M : ZMd) (nw w l1 q k y : Int) (hB : zBv (bT B) (bK B) (bN B) nw) (hl : -1 ≤ l1 ∧ l1 < bN B) (hsi : zSi (bT B) (bN B) (zcB (bK B) (bN B) l1 q) (l1 + 1).toNat w S) (hk : 0 ≤ k ∧ k ≤ 2) (hy : 0 ≤ y ∧ y ≤ 100) : zMet l m_X3_ground [zR 5, zI k, zI y] (zw sc B S Z L R M) (fun v h1 => ∃ S1, v = some (zI (zF (bT B) (bK B) (bN B) w l1 q k y)) ∧ (zw sc B S1 Z L R M) = h1 ∧ zSi (bT B) (bN B) (zcB (bK B) (bN B) l1 q) (l1 + 1).toNat w S1 ∧ sWay S1 = sWay S ∧ sLast S1 = sLast S ∧ sWo S1 = sWo S) := by
  obtain ⟨v1, v2, v3⟩ := zBv_lim hB hl
  obtain ⟨r1, r2, r3, r4, r5, r6, r7⟩ := zSi_rng hsi v1 v2 v3
  refine zMet_post (c_X3_ground l sc B S Z L R M k y hB.1 hB.2.1 r1 r2 r3 hsi.2.2.2.2.2 r4 r5 r6 r7 hk hy) (fun v h1 g => ?_)
  obtain ⟨Lk, En, Rk, rfl, rfl, hrk⟩ := g
  refine ⟨_, ?_, rfl, ⟨hsi.1, hsi.2.1, hsi.2.2.1, hsi.2.2.2.1, hsi.2.2.2.2.1, hrk⟩, rfl, rfl, rfl⟩
  rw [zSi_gr hsi v1 hk hy]
  rfl
theorem c_gZ (l : Launch) (sn : Nat) (sf : Int → Int) (B : ZBk) (S Z : ZSg) (L : ZLn) (R : ZRd) (M : ZMd) (nw w l1 q k y : Int) (hB : zBv (bT B) (bK B) (bN B) nw) (hl : -1 ≤ l1 ∧ l1 < bN B) (hsi : zSi (bT B) (bN B) (zcB (bK B) (bN B) l1 q) (l1 + 1).toNat w Z) (hk : 0 ≤ k ∧ k ≤ 2) (hy : 0 ≤ y ∧ y ≤ 100) : zMet l m_X3_ground [zR 22, zI k, zI y] (zw (sn, sf, 5, 5, 22) B S Z L R M) (fun v h1 => ∃ S1, v = some (zI (zF (bT B) (bK B) (bN B) w l1 q k y)) ∧ (zw (sn, sf, 5, 5, 22) B S S1 L R M) = h1 ∧ zSi (bT B) (bN B) (zcB (bK B) (bN B) l1 q) (l1 + 1).toNat w S1 ∧ sWay S1 = sWay Z ∧ sLast S1 = sLast Z ∧ sWo S1 = sWo Z) := by
  obtain ⟨v1, v2, v3⟩ := zBv_lim hB hl
  obtain ⟨r1, r2, r3, r4, r5, r6, r7⟩ := zSi_rng hsi v1 v2 v3
  refine zMet_post (c_ground_Z l sn sf B S Z L R M k y hB.1 hB.2.1 r1 r2 r3 hsi.2.2.2.2.2 r4 r5 r6 r7 hk hy) (fun v h1 g => ?_)
  obtain ⟨Lk, En, Rk, rfl, rfl, hrk⟩ := g
  refine ⟨_, ?_, rfl, ⟨hsi.1, hsi.2.1, hsi.2.2.1, hsi.2.2.2.1, hsi.2.2.2.2.1, hrk⟩, rfl, rfl, rfl⟩
  rw [zSi_gr hsi v1 hk hy]
  rfl
/-- the pages on which a force leans, counted -/
def zlP (T K : Int → Int) (n w k y l : Int) : Int → Bool := fun p => zcB K n l (-9) p && !decide (zF T K n w l (-9) k y = zF T K n w l p k y)
theorem zlP_iff {T K : Int → Int} {n w k y l p : Int} : zlP T K n w k y l p = true ↔ zct K n p l (-9) ∧ ¬ zF T K n w l (-9) k y = zF T K n w l p k y := by
  unfold zlP
  rw [Bool.and_eq_true, zcB_iff, Bool.not_eq_true', decide_eq_false_iff_not]
def zpn (P : Int → Bool) : Nat → Nat
  | 0 => 0
  | m + 1 => zpn P m + (if P (m : Int) = true then 1 else 0)
theorem zpn_le (P : Int → Bool) : ∀ m : Nat, zpn P m ≤ m
  | 0 => Nat.le_refl _
  | m + 1 => by
    have ih := zpn_le P m
    unfold zpn
    split <;> omega
theorem zpn_mono (P : Int → Bool) {a : Nat} : ∀ b : Nat, a ≤ b → zpn P a ≤ zpn P b
  | 0, h => by rw [show a = 0 by omega]; exact Nat.le_refl _
  | b + 1, h => by
    rcases (show a ≤ b ∨ a = b + 1 by omega) with g | g
    · have := zpn_mono P b g
      show zpn P a ≤ zpn P b + _
      omega
    · rw [g]; exact Nat.le_refl _
theorem zpn_lt {P : Int → Bool} {p m : Nat} (hp : P (p : Int) = true) (h : p < m) : zpn P p < zpn P m := by
  have h1 := zpn_mono P m (show p + 1 ≤ m by omega)
  have h2 : zpn P (p + 1) = zpn P p + 1 := by
    show zpn P p + _ = _
    rw [if_pos hp]
  omega
def zLi (P : Int → Bool) (m : Nat) (L : ZLn) : Prop := lN1 L = (zpn P m : Int) ∧ ∀ p : Nat, p < m → P (p : Int) = true → lP L (zpn P p : Int) = (p : Int)
def zLch (T K : Int → Int) (n : Int) (L : ZLn) : Prop := ((-9 ≤ lWay L ∧ lWay L ≤ 100) ∧ (-9 ≤ lKind L ∧ lKind L ≤ 100) ∧ (-9 ≤ lYear L ∧ lYear L ≤ 100) ∧ (-9 ≤ lLast L ∧ lLast L < n)) ∧ (lWay L = -9 ∨ zLi (zlP T K n (lWay L) (lKind L) (lYear L) (lLast L)) (lLast L + 1).toNat L)
set_option maxRecDepth 4000 in
theorem c_X1_isNear (l : Launch) (sn : Nat) (sf : Int → Int) (B : ZBk) (S Z : ZSg) (L : ZLn) (R : ZRd) (M : ZMd) (nw p w l1 : Int) (hB : zBv (bT B) (bK B) (bN B) nw) (hp : (-2147483648 ≤ p ∧ p ≤ 2147483647)) (hw : (-2147483648 ≤ w ∧ w ≤ 2147483647)) (hl : (-2147483648 ≤ l1 ∧ l1 ≤ 2147483647)) : zMet l m_X1_isNear [zR 20, zI p, zI w, zI l1] (zw ((sn, sf, 5, 5, 22)) B S Z L R M) (zIb (zct (bK B) (bN B) p l1 (-9) ∧ zbe (bT B) (bN B) p w) (zw ((sn, sf, 5, 5, 22)) B S Z L R M)) := by
  refine z_method g_X1_isNear [some (zR 20), some (zI p), some (zI w), some (zI l1)] rfl rfl (fun V c => ?_)
  have hn := hB.1
  refine z_cV c 5 k_1_63 zv_X0_isCounted (pc := 11) (ls := [some (zR 20), some (zI p), some (zI w), some (zI l1)]) (sk := []) (h := (zw ((sn, sf, 5, 5, 22)) B S Z L R M)) (cs := 0) (ss := 0) (c_X0_isCounted l ((sn, sf, 5, 5, 22)) B S Z L R M p l1 ((-9)) (show 0 ≤ (bN B) ∧ (bN B) ≤ 100 by omega) hB.2.2.1 (by omega) (by omega) (by omega)) rfl trivial rfl rfl ⟨Nat.le_refl _, Nat.le_refl _⟩ ?_
  rintro _ _ ⟨r8, rfl, e8, rfl⟩
  show V (11, [some (zR 20), some (zI p), some (zI w), some (zI l1)], [zI r8], (zw ((sn, sf, 5, 5, 22)) B S Z L R M), 0, 0)
  refine z_br c 0 (r8 = 0) (30, [some (zR 20), some (zI p), some (zI w), some (zI l1)], [], (zw ((sn, sf, 5, 5, 22)) B S Z L R M), 0, 0) (14, [some (zR 20), some (zI p), some (zI w), some (zI l1)], [], (zw ((sn, sf, 5, 5, 22)) B S Z L R M), 0, 0) rfl ⟨(show (-2147483648 : Int) ≤ r8 ∧ r8 ≤ 2147483647 by omega), trivial⟩ (fun h11 => ?_) (fun h11 => ?_)
  · exact z_re c 1 (v := some (zI 0)) (h := (zw ((sn, sf, 5, 5, 22)) B S Z L R M)) (cs := 0) (ss := 0) rfl trivial (Or.inl rfl) ⟨Nat.le_refl _, Nat.le_refl _⟩ ⟨_, rfl, Or.inr ⟨fun z => by first | (rcases e20 with ⟨-, g⟩ | ⟨g, -⟩; omega; exact g z.2) | (rcases e8 with ⟨-, g⟩ | ⟨g, -⟩; omega; exact g z.1), rfl⟩, rfl⟩
  · refine z_cV c 4 k_1_68 zv_X0_bearsOn (pc := 23) (ls := [some (zR 20), some (zI p), some (zI w), some (zI l1)]) (sk := []) (h := (zw ((sn, sf, 5, 5, 22)) B S Z L R M)) (cs := 0) (ss := 0) (c_X0_bearsOn l ((sn, sf, 5, 5, 22)) B S Z L R M p w (show 0 ≤ (bN B) ∧ (bN B) ≤ 100 by omega) hB.2.1 (by omega) (by omega)) rfl trivial rfl rfl ⟨Nat.le_refl _, Nat.le_refl _⟩ ?_
    rintro _ _ ⟨r20, rfl, e20, rfl⟩
    show V (23, [some (zR 20), some (zI p), some (zI w), some (zI l1)], [zI r20], (zw ((sn, sf, 5, 5, 22)) B S Z L R M), 0, 0)
    refine z_br c 0 (r20 = 0) (30, [some (zR 20), some (zI p), some (zI w), some (zI l1)], [], (zw ((sn, sf, 5, 5, 22)) B S Z L R M), 0, 0) (26, [some (zR 20), some (zI p), some (zI w), some (zI l1)], [], (zw ((sn, sf, 5, 5, 22)) B S Z L R M), 0, 0) rfl ⟨(show (-2147483648 : Int) ≤ r20 ∧ r20 ≤ 2147483647 by omega), trivial⟩ (fun h23 => ?_) (fun h23 => ?_)
    · exact z_re c 1 (v := some (zI 0)) (h := (zw ((sn, sf, 5, 5, 22)) B S Z L R M)) (cs := 0) (ss := 0) rfl trivial (Or.inl rfl) ⟨Nat.le_refl _, Nat.le_refl _⟩ ⟨_, rfl, Or.inr ⟨fun z => by first | (rcases e20 with ⟨-, g⟩ | ⟨g, -⟩; omega; exact g z.2) | (rcases e8 with ⟨-, g⟩ | ⟨g, -⟩; omega; exact g z.1), rfl⟩, rfl⟩
    · exact z_re c 2 (v := some (zI 1)) (h := (zw ((sn, sf, 5, 5, 22)) B S Z L R M)) (cs := 0) (ss := 0) rfl trivial (Or.inr rfl) ⟨Nat.le_refl _, Nat.le_refl _⟩ ⟨_, rfl, Or.inl ⟨⟨by rcases e8 with ⟨g, -⟩ | ⟨-, g⟩; exact g; exfalso; omega, by rcases e20 with ⟨g, -⟩ | ⟨-, g⟩; exact g; exfalso; omega⟩, rfl⟩, rfl⟩
set_option maxRecDepth 4000 in
theorem c_X1_isOn (l : Launch) (sn : Nat) (sf : Int → Int) (B : ZBk) (S Z : ZSg) (L : ZLn) (R : ZRd) (M : ZMd) (nw p w k y l1 : Int) (hB : zBv (bT B) (bK B) (bN B) nw) (hch_S : zch (bT B) (bK B) (bN B) S) (hch_Z : zch (bT B) (bK B) (bN B) Z) (hp : 0 ≤ p ∧ p < bN B) (hw : 0 ≤ w ∧ w ≤ 100) (hk : 0 ≤ k ∧ k ≤ 2) (hy : 0 ≤ y ∧ y ≤ 100) (hl : -1 ≤ l1 ∧ l1 < bN B) : zMet l m_X1_isOn [zR 20, zI p, zI w, zI k, zI y, zI l1] (zw ((sn, sf, 5, 5, 22)) B S Z L R M) (fun v h1 => ∃ r S1 Z1, v = some (zI r) ∧ (((zct (bK B) (bN B) p l1 (-9) ∧ ¬ zF (bT B) (bK B) (bN B) w l1 (-9) k y = zF (bT B) (bK B) (bN B) w l1 p k y) ∧ r = 1) ∨ (¬ (zct (bK B) (bN B) p l1 (-9) ∧ ¬ zF (bT B) (bK B) (bN B) w l1 (-9) k y = zF (bT B) (bK B) (bN B) w l1 p k y) ∧ r = 0)) ∧ (zw ((sn, sf, 5, 5, 22)) B S1 Z1 L R M) = h1 ∧ zch (bT B) (bK B) (bN B) S1 ∧ zch (bT B) (bK B) (bN B) Z1) := by
  refine z_method g_X1_isOn [some (zR 20), some (zI p), some (zI w), some (zI k), some (zI y), some (zI l1)] rfl rfl (fun V c => ?_)
  have hn := hB.1
  refine z_cV c 4 k_1_47 zv_X1_isNear (pc := 8) (ls := [some (zR 20), some (zI p), some (zI w), some (zI k), some (zI y), some (zI l1)]) (sk := []) (h := (zw ((sn, sf, 5, 5, 22)) B S Z L R M)) (cs := 0) (ss := 0) (c_X1_isNear l sn sf B S Z L R M nw p w l1 hB (by omega) (by omega) (by omega)) rfl trivial rfl rfl ⟨Nat.le_refl _, Nat.le_refl _⟩ ?_
  rintro _ _ ⟨r5, rfl, e5, rfl⟩
  show V (8, [some (zR 20), some (zI p), some (zI w), some (zI k), some (zI y), some (zI l1)], [zI r5], (zw ((sn, sf, 5, 5, 22)) B S Z L R M), 0, 0)
  refine z_br c 0 (¬ r5 = 0) (13, [some (zR 20), some (zI p), some (zI w), some (zI k), some (zI y), some (zI l1)], [], (zw ((sn, sf, 5, 5, 22)) B S Z L R M), 0, 0) (11, [some (zR 20), some (zI p), some (zI w), some (zI k), some (zI y), some (zI l1)], [], (zw ((sn, sf, 5, 5, 22)) B S Z L R M), 0, 0) rfl ⟨(show (-2147483648 : Int) ≤ r5 ∧ r5 ≤ 2147483647 by omega), trivial⟩ (fun h8 => ?_) (fun h8 => ?_)
  · refine z_cV c 5 k_1_51 zv_X3_look (pc := 25) (ls := [some (zR 20), some (zI p), some (zI w), some (zI k), some (zI y), some (zI l1)]) (sk := []) (h := (zw ((sn, sf, 5, 5, 22)) B S Z L R M)) (cs := 0) (ss := 0) (c_lookS l ((sn, sf, 5, 5, 22)) B S Z L R M nw w l1 ((-9)) hB (by omega) (show -1 ≤ l1 ∧ l1 < bN B by omega) (by omega) hch_S) rfl trivial rfl rfl ⟨Nat.le_refl _, Nat.le_refl _⟩ ?_
    rintro _ _ ⟨rfl, S22, rfl, hsi_S22, ha_S22, hb_S22, hc_S22⟩
    have hch_S22 := zch_of hsi_S22 ha_S22 hb_S22 hc_S22 (by omega) (by omega) (by omega)
    show V (25, [some (zR 20), some (zI p), some (zI w), some (zI k), some (zI y), some (zI l1)], [], (zw ((sn, sf, 5, 5, 22)) B S22 Z L R M), 0, 0)
    refine z_cV c 5 k_1_51 zv_X3_look (pc := 36) (ls := [some (zR 20), some (zI p), some (zI w), some (zI k), some (zI y), some (zI l1)]) (sk := []) (h := (zw ((sn, sf, 5, 5, 22)) B S22 Z L R M)) (cs := 0) (ss := 0) (c_lookZ l sn sf B S22 Z L R M nw w l1 p hB (by omega) (show -1 ≤ l1 ∧ l1 < bN B by omega) (by omega) hch_Z) rfl trivial rfl rfl ⟨Nat.le_refl _, Nat.le_refl _⟩ ?_
    rintro _ _ ⟨rfl, Z33, rfl, hsi_Z33, ha_Z33, hb_Z33, hc_Z33⟩
    have hch_Z33 := zch_of hsi_Z33 ha_Z33 hb_Z33 hc_Z33 (by omega) (by omega) (by omega)
    show V (36, [some (zR 20), some (zI p), some (zI w), some (zI k), some (zI y), some (zI l1)], [], (zw ((sn, sf, 5, 5, 22)) B S22 Z33 L R M), 0, 0)
    refine z_cV c 4 k_1_55 zv_X3_ground (pc := 46) (ls := [some (zR 20), some (zI p), some (zI w), some (zI k), some (zI y), some (zI l1)]) (sk := []) (h := (zw ((sn, sf, 5, 5, 22)) B S22 Z33 L R M)) (cs := 0) (ss := 0) (c_gS l ((sn, sf, 5, 5, 22)) B S22 Z33 L R M nw w l1 ((-9)) k y hB (by omega) hsi_S22 (by omega) (by omega)) rfl trivial rfl rfl ⟨Nat.le_refl _, Nat.le_refl _⟩ ?_
    rintro _ _ ⟨S43, rfl, rfl, hsi_S43, ha1_S43, hb1_S43, hc1_S43⟩
    have ha_S43 := ha1_S43.trans ha_S22
    have hb_S43 := hb1_S43.trans hb_S22
    have hc_S43 := hc1_S43.trans hc_S22
    have hch_S43 := zch_of hsi_S43 ha_S43 hb_S43 hc_S43 (by omega) (by omega) (by omega)
    have q43 := zF_rng (bT B) (bK B) (bN B) w l1 ((-9)) k y
    show V (46, [some (zR 20), some (zI p), some (zI w), some (zI k), some (zI y), some (zI l1)], [zI ((zF (bT B) (bK B) (bN B) w l1 ((-9)) k y))], (zw ((sn, sf, 5, 5, 22)) B S43 Z33 L R M), 0, 0)
    refine z_cV c 4 k_1_55 zv_X3_ground (pc := 56) (ls := [some (zR 20), some (zI p), some (zI w), some (zI k), some (zI y), some (zI l1)]) (sk := [zI ((zF (bT B) (bK B) (bN B) w l1 ((-9)) k y))]) (h := (zw ((sn, sf, 5, 5, 22)) B S43 Z33 L R M)) (cs := 0) (ss := 0) (c_gZ l sn sf B S43 Z33 L R M nw w l1 p k y hB (by omega) hsi_Z33 (by omega) (by omega)) rfl trivial rfl rfl ⟨Nat.le_refl _, Nat.le_refl _⟩ ?_
    rintro _ _ ⟨Z53, rfl, rfl, hsi_Z53, ha1_Z53, hb1_Z53, hc1_Z53⟩
    have ha_Z53 := ha1_Z53.trans ha_Z33
    have hb_Z53 := hb1_Z53.trans hb_Z33
    have hc_Z53 := hc1_Z53.trans hc_Z33
    have hch_Z53 := zch_of hsi_Z53 ha_Z53 hb_Z53 hc_Z53 (by omega) (by omega) (by omega)
    have q53 := zF_rng (bT B) (bK B) (bN B) w l1 p k y
    show V (56, [some (zR 20), some (zI p), some (zI w), some (zI k), some (zI y), some (zI l1)], [zI ((zF (bT B) (bK B) (bN B) w l1 p k y)), zI ((zF (bT B) (bK B) (bN B) w l1 ((-9)) k y))], (zw ((sn, sf, 5, 5, 22)) B S43 Z53 L R M), 0, 0)
    refine z_br c 0 ((zF (bT B) (bK B) (bN B) w l1 ((-9)) k y) = (zF (bT B) (bK B) (bN B) w l1 p k y)) (63, [some (zR 20), some (zI p), some (zI w), some (zI k), some (zI y), some (zI l1)], [], (zw ((sn, sf, 5, 5, 22)) B S43 Z53 L R M), 0, 0) (59, [some (zR 20), some (zI p), some (zI w), some (zI k), some (zI y), some (zI l1)], [], (zw ((sn, sf, 5, 5, 22)) B S43 Z53 L R M), 0, 0) rfl ⟨(show ((-2147483648 : Int) ≤ (zF (bT B) (bK B) (bN B) w l1 ((-9)) k y) ∧ (zF (bT B) (bK B) (bN B) w l1 ((-9)) k y) ≤ 2147483647) ∧ (-2147483648 : Int) ≤ (zF (bT B) (bK B) (bN B) w l1 p k y) ∧ (zF (bT B) (bK B) (bN B) w l1 p k y) ≤ 2147483647 by omega), trivial⟩ (fun h56 => ?_) (fun h56 => ?_)
    · exact z_re c 1 (v := some (zI 0)) (h := (zw ((sn, sf, 5, 5, 22)) B S43 Z53 L R M)) (cs := 0) (ss := 0) rfl trivial (Or.inl rfl) ⟨Nat.le_refl _, Nat.le_refl _⟩ ⟨_, _, _, rfl, Or.inr ⟨fun z => by have z2 := z.2; omega, rfl⟩, rfl, hch_S43, hch_Z53⟩
    · exact z_re c 2 (v := some (zI 1)) (h := (zw ((sn, sf, 5, 5, 22)) B S43 Z53 L R M)) (cs := 0) (ss := 0) rfl trivial (Or.inr rfl) ⟨Nat.le_refl _, Nat.le_refl _⟩ ⟨_, _, _, rfl, Or.inl ⟨⟨by rcases e5 with ⟨g, -⟩ | ⟨-, g⟩; exact g.1; exfalso; omega, by omega⟩, rfl⟩, rfl, hch_S43, hch_Z53⟩
  · exact z_re c 1 (v := some (zI 0)) (h := (zw ((sn, sf, 5, 5, 22)) B S Z L R M)) (cs := 0) (ss := 0) rfl trivial (Or.inl rfl) ⟨Nat.le_refl _, Nat.le_refl _⟩ ⟨_, S, Z, rfl, Or.inr ⟨fun z => by
          rcases e5 with ⟨-, g⟩ | ⟨g, -⟩
          · omega
          · exact z.2 (zfs_near hB.2.2.2.1 hB.2.2.2.2.2 hw.1 hl z.1 (fun z2 => g ⟨z.1, z2⟩) k y).symm, rfl⟩, rfl, hch_S, hch_Z⟩
set_option maxRecDepth 4000 in
theorem c_X1_find (l : Launch) (sn : Nat) (sf : Int → Int) (B : ZBk) (S Z : ZSg) (L : ZLn) (R : ZRd) (M : ZMd) (nw w k y l1 : Int) (hB : zBv (bT B) (bK B) (bN B) nw) (hch_S : zch (bT B) (bK B) (bN B) S) (hch_Z : zch (bT B) (bK B) (bN B) Z) (hchL : zLch (bT B) (bK B) (bN B) L) (hw : 0 ≤ w ∧ w ≤ 100) (hk : 0 ≤ k ∧ k ≤ 2) (hy : 0 ≤ y ∧ y ≤ 100) (hl : -1 ≤ l1 ∧ l1 < bN B) : zMet l m_X1_find [zR 20, zI w, zI k, zI y, zI l1] (zw ((sn, sf, 5, 5, 22)) B S Z L R M) (fun v h1 => v = none ∧ ∃ S1 Z1 L1, (zw ((sn, sf, 5, 5, 22)) B S1 Z1 L1 R M) = h1 ∧ zch (bT B) (bK B) (bN B) S1 ∧ zch (bT B) (bK B) (bN B) Z1 ∧ zLi (zlP (bT B) (bK B) (bN B) w k y l1) (l1 + 1).toNat L1 ∧ lWay L1 = w ∧ lKind L1 = k ∧ lYear L1 = y ∧ lLast L1 = l1) := by
  refine z_method g_X1_find [some (zR 20), some (zI w), some (zI k), some (zI y), some (zI l1), none, none] rfl rfl (fun V c => ?_)
  have hn := hB.1
  obtain ⟨⟨hc1, hc2, hc3, hc4⟩, -⟩ := id hchL
  have J34 : V (34, [some (zR 20), some (zI w), some (zI k), some (zI y), some (zI l1), none, none], [], (zw ((sn, sf, 5, 5, 22)) B S Z L R M), 0, 0) := by
    refine z_cV c 22 k_1_51 zv_X3_look (pc := 77) (ls := [some (zR 20), some (zI w), some (zI k), some (zI y), some (zI l1), none, none]) (sk := []) (h := (zw ((sn, sf, 5, 5, 22)) B S Z ((lP L), 0, w, k, y, l1) R M)) (cs := 0) (ss := 0) (c_lookS l ((sn, sf, 5, 5, 22)) B S Z ((lP L), 0, w, k, y, l1) R M nw w l1 ((-9)) hB (by omega) (show -1 ≤ l1 ∧ l1 < bN B by omega) (by omega) hch_S) rfl trivial rfl rfl ⟨Nat.le_refl _, Nat.le_refl _⟩ ?_
    rintro _ _ ⟨rfl, S74, rfl, hsi_S74, ha_S74, hb_S74, hc_S74⟩
    have hch_S74 := zch_of hsi_S74 ha_S74 hb_S74 hc_S74 (by omega) (by omega) (by omega)
    show V (77, [some (zR 20), some (zI w), some (zI k), some (zI y), some (zI l1), none, none], [], (zw ((sn, sf, 5, 5, 22)) B S74 Z ((lP L), 0, w, k, y, l1) R M), 0, 0)
    refine z_cV c 6 k_1_55 zv_X3_ground (pc := 92) (ls := [some (zR 20), some (zI w), some (zI k), some (zI y), some (zI l1), none, none]) (sk := []) (h := (zw ((sn, sf, 5, 5, 22)) B S74 Z ((lP L), 0, w, k, y, l1) R M)) (cs := 0) (ss := 0) (c_gS l ((sn, sf, 5, 5, 22)) B S74 Z ((lP L), 0, w, k, y, l1) R M nw w l1 ((-9)) k y hB (by omega) hsi_S74 (by omega) (by omega)) rfl trivial rfl rfl ⟨Nat.le_refl _, Nat.le_refl _⟩ ?_
    rintro _ _ ⟨S89, rfl, rfl, hsi_S89, ha1_S89, hb1_S89, hc1_S89⟩
    have ha_S89 := ha1_S89.trans ha_S74
    have hb_S89 := hb1_S89.trans hb_S74
    have hc_S89 := hc1_S89.trans hc_S74
    have hch_S89 := zch_of hsi_S89 ha_S89 hb_S89 hc_S89 (by omega) (by omega) (by omega)
    have q89 := zF_rng (bT B) (bK B) (bN B) w l1 ((-9)) k y
    show V (92, [some (zR 20), some (zI w), some (zI k), some (zI y), some (zI l1), none, none], [zI ((zF (bT B) (bK B) (bN B) w l1 ((-9)) k y))], (zw ((sn, sf, 5, 5, 22)) B S89 Z ((lP L), 0, w, k, y, l1) R M), 0, 0)
    refine z_go c 3 (s1 := (97, [some (zR 20), some (zI w), some (zI k), some (zI y), some (zI l1), some (zI ((zF (bT B) (bK B) (bN B) w l1 ((-9)) k y))), some (zI 0)], [], (zw ((sn, sf, 5, 5, 22)) B S89 Z ((lP L), 0, w, k, y, l1) R M), 0, 0)) rfl trivial ?_
    have loop : ∀ (x m : Nat) (D1 : Int → Int) (Z1 : ZSg), l1 + 1 - (m : Int) < (x : Int) → (m : Int) ≤ l1 + 1 → zch (bT B) (bK B) (bN B) Z1 → (∀ p : Nat, p < m → (zlP (bT B) (bK B) (bN B) w k y l1) (p : Int) = true → D1 (zpn (zlP (bT B) (bK B) (bN B) w k y l1) p : Int) = (p : Int)) → V (97, [some (zR 20), some (zI w), some (zI k), some (zI y), some (zI l1), some (zI ((zF (bT B) (bK B) (bN B) w l1 ((-9)) k y))), some (zI ((m : Int)))], [], (zw ((sn, sf, 5, 5, 22)) B S89 Z1 (D1, (zpn (zlP (bT B) (bK B) (bN B) w k y l1) m : Int), w, k, y, l1) R M), 0, 0) := by
      intro x
      induction x with
      | zero => intro m D1 Z1 h1 h2; exfalso; omega
      | succ x ih =>
        intro m D1 Z1 hm1 hm2 hch_Z1 hD
        have hcl := zpn_le (zlP (bT B) (bK B) (bN B) w k y l1) m
        have hstep : zpn (zlP (bT B) (bK B) (bN B) w k y l1) (m + 1) = zpn (zlP (bT B) (bK B) (bN B) w k y l1) m + (if (zlP (bT B) (bK B) (bN B) w k y l1) (m : Int) = true then 1 else 0) := rfl
        refine z_br c 3 (l1 < (m : Int)) (202, [some (zR 20), some (zI w), some (zI k), some (zI y), some (zI l1), some (zI ((zF (bT B) (bK B) (bN B) w l1 ((-9)) k y))), some (zI ((m : Int)))], [], (zw ((sn, sf, 5, 5, 22)) B S89 Z1 (D1, (zpn (zlP (bT B) (bK B) (bN B) w k y l1) m : Int), w, k, y, l1) R M), 0, 0) (106, [some (zR 20), some (zI w), some (zI k), some (zI y), some (zI l1), some (zI ((zF (bT B) (bK B) (bN B) w l1 ((-9)) k y))), some (zI ((m : Int)))], [], (zw ((sn, sf, 5, 5, 22)) B S89 Z1 (D1, (zpn (zlP (bT B) (bK B) (bN B) w k y l1) m : Int), w, k, y, l1) R M), 0, 0) rfl ⟨(show ((-2147483648 : Int) ≤ (m : Int) ∧ (m : Int) ≤ 2147483647) ∧ (-2147483648 : Int) ≤ l1 ∧ l1 ≤ 2147483647 by omega), trivial⟩ (fun h103 => ?_) (fun h103 => ?_)
        · have em : m = (l1 + 1).toNat := by omega
          exact z_re c 0 (v := none) (h := (zw ((sn, sf, 5, 5, 22)) B S89 Z1 (D1, (zpn (zlP (bT B) (bK B) (bN B) w k y l1) m : Int), w, k, y, l1) R M)) (cs := 0) (ss := 0) rfl trivial trivial ⟨Nat.le_refl _, Nat.le_refl _⟩ ⟨rfl, _, _, _, rfl, hch_S89, hch_Z1, by rw [← em]; exact ⟨rfl, hD⟩, rfl, rfl, rfl, rfl⟩
        · refine z_br c 2 (100 ≤ (m : Int)) (202, [some (zR 20), some (zI w), some (zI k), some (zI y), some (zI l1), some (zI ((zF (bT B) (bK B) (bN B) w l1 ((-9)) k y))), some (zI ((m : Int)))], [], (zw ((sn, sf, 5, 5, 22)) B S89 Z1 (D1, (zpn (zlP (bT B) (bK B) (bN B) w k y l1) m : Int), w, k, y, l1) R M), 0, 0) (113, [some (zR 20), some (zI w), some (zI k), some (zI y), some (zI l1), some (zI ((zF (bT B) (bK B) (bN B) w l1 ((-9)) k y))), some (zI ((m : Int)))], [], (zw ((sn, sf, 5, 5, 22)) B S89 Z1 (D1, (zpn (zlP (bT B) (bK B) (bN B) w k y l1) m : Int), w, k, y, l1) R M), 0, 0) rfl ⟨(show ((-2147483648 : Int) ≤ (m : Int) ∧ (m : Int) ≤ 2147483647) ∧ (-2147483648 : Int) ≤ 100 ∧ 100 ≤ 2147483647 by omega), trivial⟩ (fun h110 => by exfalso; omega) (fun h110 => ?_)
          refine z_cV c 6 k_1_47 zv_X1_isNear (pc := 127) (ls := [some (zR 20), some (zI w), some (zI k), some (zI y), some (zI l1), some (zI ((zF (bT B) (bK B) (bN B) w l1 ((-9)) k y))), some (zI ((m : Int)))]) (sk := []) (h := (zw ((sn, sf, 5, 5, 22)) B S89 Z1 (D1, (zpn (zlP (bT B) (bK B) (bN B) w k y l1) m : Int), w, k, y, l1) R M)) (cs := 0) (ss := 0) (c_X1_isNear l sn sf B S89 Z1 (D1, (zpn (zlP (bT B) (bK B) (bN B) w k y l1) m : Int), w, k, y, l1) R M nw ((m : Int)) w l1 hB (by omega) (by omega) (by omega)) rfl trivial rfl rfl ⟨Nat.le_refl _, Nat.le_refl _⟩ ?_
          rintro _ _ ⟨r124, rfl, e124, rfl⟩
          show V (127, [some (zR 20), some (zI w), some (zI k), some (zI y), some (zI l1), some (zI ((zF (bT B) (bK B) (bN B) w l1 ((-9)) k y))), some (zI ((m : Int)))], [zI r124], (zw ((sn, sf, 5, 5, 22)) B S89 Z1 (D1, (zpn (zlP (bT B) (bK B) (bN B) w k y l1) m : Int), w, k, y, l1) R M), 0, 0)
          refine z_br c 0 (¬ r124 = 0) (133, [some (zR 20), some (zI w), some (zI k), some (zI y), some (zI l1), some (zI ((zF (bT B) (bK B) (bN B) w l1 ((-9)) k y))), some (zI ((m : Int)))], [], (zw ((sn, sf, 5, 5, 22)) B S89 Z1 (D1, (zpn (zlP (bT B) (bK B) (bN B) w k y l1) m : Int), w, k, y, l1) R M), 0, 0) (130, [some (zR 20), some (zI w), some (zI k), some (zI y), some (zI l1), some (zI ((zF (bT B) (bK B) (bN B) w l1 ((-9)) k y))), some (zI ((m : Int)))], [], (zw ((sn, sf, 5, 5, 22)) B S89 Z1 (D1, (zpn (zlP (bT B) (bK B) (bN B) w k y l1) m : Int), w, k, y, l1) R M), 0, 0) rfl ⟨(show (-2147483648 : Int) ≤ r124 ∧ r124 ≤ 2147483647 by omega), trivial⟩ (fun h127 => ?_) (fun h127 => ?_)
          · refine z_cV c 7 k_1_51 zv_X3_look (pc := 150) (ls := [some (zR 20), some (zI w), some (zI k), some (zI y), some (zI l1), some (zI ((zF (bT B) (bK B) (bN B) w l1 ((-9)) k y))), some (zI ((m : Int)))]) (sk := []) (h := (zw ((sn, sf, 5, 5, 22)) B S89 Z1 (D1, (zpn (zlP (bT B) (bK B) (bN B) w k y l1) m : Int), w, k, y, l1) R M)) (cs := 0) (ss := 0) (c_lookZ l sn sf B S89 Z1 (D1, (zpn (zlP (bT B) (bK B) (bN B) w k y l1) m : Int), w, k, y, l1) R M nw w l1 ((m : Int)) hB (by omega) (show -1 ≤ l1 ∧ l1 < bN B by omega) (by omega) hch_Z1) rfl trivial rfl rfl ⟨Nat.le_refl _, Nat.le_refl _⟩ ?_
            rintro _ _ ⟨rfl, Z147, rfl, hsi_Z147, ha_Z147, hb_Z147, hc_Z147⟩
            have hch_Z147 := zch_of hsi_Z147 ha_Z147 hb_Z147 hc_Z147 (by omega) (by omega) (by omega)
            show V (150, [some (zR 20), some (zI w), some (zI k), some (zI y), some (zI l1), some (zI ((zF (bT B) (bK B) (bN B) w l1 ((-9)) k y))), some (zI ((m : Int)))], [], (zw ((sn, sf, 5, 5, 22)) B S89 Z147 (D1, (zpn (zlP (bT B) (bK B) (bN B) w k y l1) m : Int), w, k, y, l1) R M), 0, 0)
            refine z_cV c 6 k_1_55 zv_X3_ground (pc := 165) (ls := [some (zR 20), some (zI w), some (zI k), some (zI y), some (zI l1), some (zI ((zF (bT B) (bK B) (bN B) w l1 ((-9)) k y))), some (zI ((m : Int)))]) (sk := []) (h := (zw ((sn, sf, 5, 5, 22)) B S89 Z147 (D1, (zpn (zlP (bT B) (bK B) (bN B) w k y l1) m : Int), w, k, y, l1) R M)) (cs := 0) (ss := 0) (c_gZ l sn sf B S89 Z147 (D1, (zpn (zlP (bT B) (bK B) (bN B) w k y l1) m : Int), w, k, y, l1) R M nw w l1 ((m : Int)) k y hB (by omega) hsi_Z147 (by omega) (by omega)) rfl trivial rfl rfl ⟨Nat.le_refl _, Nat.le_refl _⟩ ?_
            rintro _ _ ⟨Z162, rfl, rfl, hsi_Z162, ha1_Z162, hb1_Z162, hc1_Z162⟩
            have ha_Z162 := ha1_Z162.trans ha_Z147
            have hb_Z162 := hb1_Z162.trans hb_Z147
            have hc_Z162 := hc1_Z162.trans hc_Z147
            have hch_Z162 := zch_of hsi_Z162 ha_Z162 hb_Z162 hc_Z162 (by omega) (by omega) (by omega)
            have q162 := zF_rng (bT B) (bK B) (bN B) w l1 ((m : Int)) k y
            show V (165, [some (zR 20), some (zI w), some (zI k), some (zI y), some (zI l1), some (zI ((zF (bT B) (bK B) (bN B) w l1 ((-9)) k y))), some (zI ((m : Int)))], [zI ((zF (bT B) (bK B) (bN B) w l1 ((m : Int)) k y))], (zw ((sn, sf, 5, 5, 22)) B S89 Z162 (D1, (zpn (zlP (bT B) (bK B) (bN B) w k y l1) m : Int), w, k, y, l1) R M), 0, 0)
            refine z_br c 1 (¬ (zF (bT B) (bK B) (bN B) w l1 ((m : Int)) k y) = (zF (bT B) (bK B) (bN B) w l1 ((-9)) k y)) (173, [some (zR 20), some (zI w), some (zI k), some (zI y), some (zI l1), some (zI ((zF (bT B) (bK B) (bN B) w l1 ((-9)) k y))), some (zI ((m : Int)))], [], (zw ((sn, sf, 5, 5, 22)) B S89 Z162 (D1, (zpn (zlP (bT B) (bK B) (bN B) w k y l1) m : Int), w, k, y, l1) R M), 0, 0) (170, [some (zR 20), some (zI w), some (zI k), some (zI y), some (zI l1), some (zI ((zF (bT B) (bK B) (bN B) w l1 ((-9)) k y))), some (zI ((m : Int)))], [], (zw ((sn, sf, 5, 5, 22)) B S89 Z162 (D1, (zpn (zlP (bT B) (bK B) (bN B) w k y l1) m : Int), w, k, y, l1) R M), 0, 0) rfl ⟨(show ((-2147483648 : Int) ≤ (zF (bT B) (bK B) (bN B) w l1 ((m : Int)) k y) ∧ (zF (bT B) (bK B) (bN B) w l1 ((m : Int)) k y) ≤ 2147483647) ∧ (-2147483648 : Int) ≤ (zF (bT B) (bK B) (bN B) w l1 ((-9)) k y) ∧ (zF (bT B) (bK B) (bN B) w l1 ((-9)) k y) ≤ 2147483647 by omega), trivial⟩ (fun h167 => ?_) (fun h167 => ?_)
            · refine z_cS c 5 k_1_59 zv_X5_put (pc := 186) (ls := [some (zR 20), some (zI w), some (zI k), some (zI y), some (zI l1), some (zI ((zF (bT B) (bK B) (bN B) w l1 ((-9)) k y))), some (zI ((m : Int)))]) (sk := []) (h := (zw ((sn, sf, 5, 5, 22)) B S89 Z162 (D1, (zpn (zlP (bT B) (bK B) (bN B) w k y l1) m : Int), w, k, y, l1) R M)) (cs := 0) (ss := 0) (c_X5_put l (zw ((sn, sf, 5, 5, 22)) B S89 Z162 (D1, (zpn (zlP (bT B) (bK B) (bN B) w k y l1) m : Int), w, k, y, l1) R M) 20 100 D1 ((zpn (zlP (bT B) (bK B) (bN B) w k y l1) m : Int)) ((m : Int)) rfl (by decide) (by omega)) rfl trivial rfl ⟨Nat.le_refl _, Nat.le_refl _⟩ ?_
              rintro _ _ ⟨rfl, rfl⟩
              rw [zpt_in (by omega)]
              show V (186, [some (zR 20), some (zI w), some (zI k), some (zI y), some (zI l1), some (zI ((zF (bT B) (bK B) (bN B) w l1 ((-9)) k y))), some (zI ((m : Int)))], [], (zw ((sn, sf, 5, 5, 22)) B S89 Z162 ((zup D1 (zpn (zlP (bT B) (bK B) (bN B) w k y l1) m : Int) (m : Int)), (zpn (zlP (bT B) (bK B) (bN B) w k y l1) m : Int), w, k, y, l1) R M), 0, 0)
              refine z_go c 6 (s1 := (196, [some (zR 20), some (zI w), some (zI k), some (zI y), some (zI l1), some (zI ((zF (bT B) (bK B) (bN B) w l1 ((-9)) k y))), some (zI ((m : Int)))], [], (zw ((sn, sf, 5, 5, 22)) B S89 Z162 ((zup D1 (zpn (zlP (bT B) (bK B) (bN B) w k y l1) m : Int) (m : Int)), ((zpn (zlP (bT B) (bK B) (bN B) w k y l1) m : Int) + 1), w, k, y, l1) R M), 0, 0)) rfl trivial ?_
              have hP : (zlP (bT B) (bK B) (bN B) w k y l1) (m : Int) = true := by
                rcases e124 with ⟨g, -⟩ | ⟨-, g⟩
                · exact zlP_iff.mpr ⟨g.1, by omega⟩
                · exfalso; omega
              refine z_go c 2 (s1 := (97, [some (zR 20), some (zI w), some (zI k), some (zI y), some (zI l1), some (zI ((zF (bT B) (bK B) (bN B) w l1 ((-9)) k y))), some (zI (((m : Int) + 1)))], [], (zw ((sn, sf, 5, 5, 22)) B S89 Z162 ((zup D1 (zpn (zlP (bT B) (bK B) (bN B) w k y l1) m : Int) (m : Int)), ((zpn (zlP (bT B) (bK B) (bN B) w k y l1) m : Int) + 1), w, k, y, l1) R M), 0, 0)) rfl trivial ?_
              rw [if_pos hP] at hstep
              have h9 := ih (m + 1) (zup D1 (zpn (zlP (bT B) (bK B) (bN B) w k y l1) m : Int) (m : Int)) Z162 (by omega) (by omega) hch_Z162 (fun p h hp => by
                by_cases e : p = m
                · subst e; simp [zup]
                · have g := zpn_lt hp (show p < m by omega)
                  simp only [zup]
                  rw [if_neg (by omega)]
                  exact hD p (by omega) hp)
              rw [hstep] at h9
              exact h9
            · refine z_go c 1 (s1 := (196, [some (zR 20), some (zI w), some (zI k), some (zI y), some (zI l1), some (zI ((zF (bT B) (bK B) (bN B) w l1 ((-9)) k y))), some (zI ((m : Int)))], [], (zw ((sn, sf, 5, 5, 22)) B S89 Z162 (D1, (zpn (zlP (bT B) (bK B) (bN B) w k y l1) m : Int), w, k, y, l1) R M), 0, 0)) rfl trivial ?_
              have hP : ¬ (zlP (bT B) (bK B) (bN B) w k y l1) (m : Int) = true := fun z => by
                have z2 := (zlP_iff.mp z).2
                omega
              refine z_go c 2 (s1 := (97, [some (zR 20), some (zI w), some (zI k), some (zI y), some (zI l1), some (zI ((zF (bT B) (bK B) (bN B) w l1 ((-9)) k y))), some (zI (((m : Int) + 1)))], [], (zw ((sn, sf, 5, 5, 22)) B S89 Z162 (D1, (zpn (zlP (bT B) (bK B) (bN B) w k y l1) m : Int), w, k, y, l1) R M), 0, 0)) rfl trivial ?_
              rw [if_neg hP] at hstep
              have h9 := ih (m + 1) D1 Z162 (by omega) (by omega) hch_Z162 (fun p h hp => by
                by_cases e : p = m
                · subst e; exact absurd hp hP
                · exact hD p (by omega) hp)
              rw [hstep] at h9
              exact h9
          · refine z_go c 1 (s1 := (196, [some (zR 20), some (zI w), some (zI k), some (zI y), some (zI l1), some (zI ((zF (bT B) (bK B) (bN B) w l1 ((-9)) k y))), some (zI ((m : Int)))], [], (zw ((sn, sf, 5, 5, 22)) B S89 Z1 (D1, (zpn (zlP (bT B) (bK B) (bN B) w k y l1) m : Int), w, k, y, l1) R M), 0, 0)) rfl trivial ?_
            have hP : ¬ (zlP (bT B) (bK B) (bN B) w k y l1) (m : Int) = true := fun z => by
              have z2 := zlP_iff.mp z
              rcases e124 with ⟨-, g⟩ | ⟨g, -⟩
              · omega
              · exact z2.2 (zfs_near hB.2.2.2.1 hB.2.2.2.2.2 hw.1 hl z2.1 (fun z3 => g ⟨z2.1, z3⟩) k y).symm
            refine z_go c 2 (s1 := (97, [some (zR 20), some (zI w), some (zI k), some (zI y), some (zI l1), some (zI ((zF (bT B) (bK B) (bN B) w l1 ((-9)) k y))), some (zI (((m : Int) + 1)))], [], (zw ((sn, sf, 5, 5, 22)) B S89 Z1 (D1, (zpn (zlP (bT B) (bK B) (bN B) w k y l1) m : Int), w, k, y, l1) R M), 0, 0)) rfl trivial ?_
            rw [if_neg hP] at hstep
            have h9 := ih (m + 1) D1 Z1 (by omega) (by omega) hch_Z1 (fun p h hp => by
              by_cases e : p = m
              · subst e; exact absurd hp hP
              · exact hD p (by omega) hp)
            rw [hstep] at h9
            exact h9
    exact loop 101 0 _ Z (by omega) (by omega) hch_Z (fun p h => by omega)
  refine z_br c 3 (¬ (lWay L) = w) (34, [some (zR 20), some (zI w), some (zI k), some (zI y), some (zI l1), none, none], [], (zw ((sn, sf, 5, 5, 22)) B S Z L R M), 0, 0) (8, [some (zR 20), some (zI w), some (zI k), some (zI y), some (zI l1), none, none], [], (zw ((sn, sf, 5, 5, 22)) B S Z L R M), 0, 0) rfl ⟨(show ((-2147483648 : Int) ≤ (lWay L) ∧ (lWay L) ≤ 2147483647) ∧ (-2147483648 : Int) ≤ w ∧ w ≤ 2147483647 by omega), trivial⟩ (fun h5 => ?_) (fun h5 => ?_)
  · exact J34
  · refine z_br c 3 (¬ (lKind L) = k) (34, [some (zR 20), some (zI w), some (zI k), some (zI y), some (zI l1), none, none], [], (zw ((sn, sf, 5, 5, 22)) B S Z L R M), 0, 0) (16, [some (zR 20), some (zI w), some (zI k), some (zI y), some (zI l1), none, none], [], (zw ((sn, sf, 5, 5, 22)) B S Z L R M), 0, 0) rfl ⟨(show ((-2147483648 : Int) ≤ (lKind L) ∧ (lKind L) ≤ 2147483647) ∧ (-2147483648 : Int) ≤ k ∧ k ≤ 2147483647 by omega), trivial⟩ (fun h13 => ?_) (fun h13 => ?_)
    · exact J34
    · refine z_br c 3 (¬ (lYear L) = y) (34, [some (zR 20), some (zI w), some (zI k), some (zI y), some (zI l1), none, none], [], (zw ((sn, sf, 5, 5, 22)) B S Z L R M), 0, 0) (24, [some (zR 20), some (zI w), some (zI k), some (zI y), some (zI l1), none, none], [], (zw ((sn, sf, 5, 5, 22)) B S Z L R M), 0, 0) rfl ⟨(show ((-2147483648 : Int) ≤ (lYear L) ∧ (lYear L) ≤ 2147483647) ∧ (-2147483648 : Int) ≤ y ∧ y ≤ 2147483647 by omega), trivial⟩ (fun h21 => ?_) (fun h21 => ?_)
      · exact J34
      · refine z_br c 3 (¬ (lLast L) = l1) (34, [some (zR 20), some (zI w), some (zI k), some (zI y), some (zI l1), none, none], [], (zw ((sn, sf, 5, 5, 22)) B S Z L R M), 0, 0) (33, [some (zR 20), some (zI w), some (zI k), some (zI y), some (zI l1), none, none], [], (zw ((sn, sf, 5, 5, 22)) B S Z L R M), 0, 0) rfl ⟨(show ((-2147483648 : Int) ≤ (lLast L) ∧ (lLast L) ≤ 2147483647) ∧ (-2147483648 : Int) ≤ l1 ∧ l1 ≤ 2147483647 by omega), trivial⟩ (fun h30 => ?_) (fun h30 => ?_)
        · exact J34
        · exact z_re c 0 (v := none) (h := (zw ((sn, sf, 5, 5, 22)) B S Z L R M)) (cs := 0) (ss := 0) rfl trivial trivial ⟨Nat.le_refl _, Nat.le_refl _⟩ ⟨rfl, S, Z, L, rfl, hch_S, hch_Z, by have e := hchL.2.resolve_left (by omega); rw [show lWay L = w by omega, show lKind L = k by omega, show lYear L = y by omega, show lLast L = l1 by omega] at e; exact e, by omega, by omega, by omega, by omega⟩
set_option maxRecDepth 4000 in
theorem c_X1_pageAt (l : Launch) (sn : Nat) (sf : Int → Int) (B : ZBk) (S Z : ZSg) (L : ZLn) (R : ZRd) (M : ZMd) (i : Int) (hi : (-2147483648 ≤ i ∧ i ≤ 2147483647)) (hs : (-2147483648 ≤ lN1 L ∧ lN1 L ≤ 2147483647)) : zMet l m_X1_pageAt [zR 20, zI i] (zw ((sn, sf, 5, 5, 22)) B S Z L R M) (zI1 (if i < lN1 L then zat 100 (lP L) i else -9) (zw ((sn, sf, 5, 5, 22)) B S Z L R M)) := by
  refine z_method g_X1_pageAt [some (zR 20), some (zI i)] rfl rfl (fun V c => ?_)
  refine z_br c 3 ((lN1 L) ≤ i) (19, [some (zR 20), some (zI i)], [], (zw ((sn, sf, 5, 5, 22)) B S Z L R M), 0, 0) (8, [some (zR 20), some (zI i)], [], (zw ((sn, sf, 5, 5, 22)) B S Z L R M), 0, 0) rfl ⟨(show ((-2147483648 : Int) ≤ i ∧ i ≤ 2147483647) ∧ (-2147483648 : Int) ≤ (lN1 L) ∧ (lN1 L) ≤ 2147483647 by omega), trivial⟩ (fun h5 => ?_) (fun h5 => ?_)
  · exact z_re c 1 (v := some (zI ((-9)))) (h := (zw ((sn, sf, 5, 5, 22)) B S Z L R M)) (cs := 0) (ss := 0) rfl trivial trivial ⟨Nat.le_refl _, Nat.le_refl _⟩ ⟨by rw [if_neg (by omega)], rfl⟩
  · refine z_cS c 3 k_1_72 zv_X5_at (pc := 16) (ls := [some (zR 20), some (zI i)]) (sk := []) (h := (zw ((sn, sf, 5, 5, 22)) B S Z L R M)) (cs := 0) (ss := 0) (c_X5_at l (zw ((sn, sf, 5, 5, 22)) B S Z L R M) 21 100 (lP L) i rfl (by decide) (by omega)) rfl trivial rfl ⟨Nat.le_refl _, Nat.le_refl _⟩ ?_
    rintro _ _ ⟨rfl, rfl⟩
    show V (16, [some (zR 20), some (zI i)], [zI ((zat 100 (lP L) i))], (zw ((sn, sf, 5, 5, 22)) B S Z L R M), 0, 0)
    exact z_re c 1 (v := some (zI ((zat 100 (lP L) i)))) (h := (zw ((sn, sf, 5, 5, 22)) B S Z L R M)) (cs := 0) (ss := 0) rfl trivial trivial ⟨Nat.le_refl _, Nat.le_refl _⟩ ⟨by rw [if_pos (by omega)], rfl⟩
