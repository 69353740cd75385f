/-! from here to there, totals, pages -/
theorem zgw_cong {op op2 : Int → Bool} {a b : Int → Int} {s : Int} {F : Int → Int} : ∀ m : Nat, (∀ w : Nat, w < m → op (w : Int) = op2 (w : Int)) → zgw op a b s F m = zgw op2 a b s F m
  | 0, _ => rfl
  | m + 1, h => by
    unfold zgw
    rw [zgw_cong m (fun w hw => h w (by omega)), h m (by omega)]
theorem zgs_cong {op op2 : Int → Bool} {a b : Int → Int} {nw : Nat} {F : Int → Int} (h : ∀ w : Nat, w < nw → op (w : Int) = op2 (w : Int)) : ∀ t : Nat, zgs op a b nw F t = zgs op2 a b nw F t
  | 0 => rfl
  | t + 1 => by
    unfold zgs
    rw [zgs_cong h t, zgw_cong nw h]
/-- how far each place is from one -/
def zDf (op : Int → Bool) (a b : Int → Int) (nw : Nat) (s p : Int) : Int := zgs op a b nw (fun p => if p = s then 0 else -9) 9 p
/-- the ways that are in force -/
def zOp (T K : Int → Int) (n l k y : Int) : Int → Bool := fun j => !decide (zF T K n j l (-9) k y = 0)
theorem zRv_ab {a b : Int → Int} {nw : Int} (h : zRv a b nw) : ∀ w : Nat, w < nw.toNat → (0 ≤ a (w : Int) ∧ a (w : Int) < 10) ∧ (0 ≤ b (w : Int) ∧ b (w : Int) < 10) := by
  intro w hw
  have := h.2 (w : Int) (by omega) (by omega)
  omega
theorem zDf_dis {op : Int → Bool} {a b : Int → Int} {nw : Int} (h : zRv a b nw) (s : Int) : zdis (zEd op a b nw.toNat) s 9 (fun p => zDf op a b nw.toNat s p) := zgs_dis (zRv_ab h) (zdis_0 (fun p _ _ => rfl)) 9
theorem zDf_at {op op2 : Int → Bool} {a b F : Int → Int} {nw s : Int} (h : zRv a b nw) (ho : ∀ w : Nat, w < nw.toNat → op (w : Int) = op2 (w : Int)) {p : Int} (hp : 0 ≤ p ∧ p < 10) : zgs op a b nw.toNat (zm0 F s) 9 p = zDf op2 a b nw.toNat s p := by
  rw [zgs_cong ho 9]
  refine zqd_one (zgs_dis (zRv_ab h) (zdis_0 (fun p p0 p1 => ?_)) 9 p hp.1 hp.2) (zDf_dis h s p hp.1 hp.2)
  simp only [zm0, zup, zff]
  split
  · rfl
  · rw [if_pos (by omega)]
theorem zDf_rng {op : Int → Bool} {a b : Int → Int} {nw : Nat} {s : Int} : zFr (fun p => zDf op a b nw s p) := by
  refine zgs_rng (fun p _ _ => ?_) 9 (by decide)
  show -9 ≤ (if p = s then (0 : Int) else -9) ∧ (if p = s then (0 : Int) else -9) ≤ 10
  split <;> omega
theorem zDf_sym {op : Int → Bool} {a b : Int → Int} {nw : Int} (h : zRv a b nw) {s p : Int} (hs : 0 ≤ s ∧ s < 10) (hp : 0 ≤ p ∧ p < 10) : zDf op a b nw.toNat s p = zDf op a b nw.toNat p s :=
  zqd_one (zDf_dis h s p hp.1 hp.2) (zqd_sym (fun _ _ => zEd_sym) (zDf_dis h p s hs.1 hs.2))
theorem zmn_cong {P Q : Int → Bool} : ∀ (k : Nat) (a : Int), (∀ j, a ≤ j → j < a + (k : Int) → P j = Q j) → zmn P a k = zmn Q a k
  | 0, _, _ => rfl
  | k + 1, a, h => by
    unfold zmn
    rw [zmn_cong k (a + 1) (fun j h1 h2 => h j (by omega) (by omega)), h a (by omega) (by omega)]
theorem zcj_cong {F G : Int → Int} : ∀ m : Nat, (∀ p, 0 ≤ p → p < (m : Int) → F p = G p) → zcj F m = zcj G m
  | 0, _ => rfl
  | m + 1, h => by
    unfold zcj
    rw [zcj_cong m (fun p a b => h p a (by omega)), h (m : Int) (by omega) (by omega)]
/-- the good orders of the first ways -/
def zgS (T K : Int → Int) (n : Int) : Nat → Int
  | 0 => 0
  | m + 1 => zgS T K n m + (zVg T n (zcB K n (zlast n (-9)) (-9)) (m : Int) (zlast n (-9) + 1).toNat).2
set_option maxRecDepth 4000 in
theorem c_X5_measure (l : Launch) (sn : Nat) (sf : Int → Int) (B : ZBk) (S Z : ZSg) (L : ZLn) (R : ZRd) (M : ZMd) (s k y a : Int) (hB : zBv (bT B) (bK B) (bN B) (rN R)) (hch_S : zch (bT B) (bK B) (bN B) S) (hr : 0 ≤ rN R ∧ rN R ≤ 12) (hR : zRv (rS R) (rE R) (rN R)) (hO : zRo (rO R)) (hs : 0 ≤ s ∧ s < 10) (hk : 0 ≤ k ∧ k ≤ 2) (hy : 0 ≤ y ∧ y ≤ 100) (ha : a = -9 ∨ (0 ≤ a ∧ a < bN B)) : zMet l m_X5_measure [zR 1, zI s, zI k, zI y, zI a] (zw ((sn, sf, 5, 5, 22)) B S Z L R M) (fun v h1 => v = none ∧ ∃ S1 O1 F1, (zw ((sn, sf, 5, 5, 22)) B S1 Z L ((rS R), (rE R), O1, F1, (rN R)) M) = h1 ∧ zch (bT B) (bK B) (bN B) S1 ∧ zRo O1 ∧ zFr F1 ∧ (∀ w : Nat, w < (rN R).toNat → zop O1 (w : Int) = (zOp (bT B) (bK B) (bN B) (zlast (bN B) a) k y) (w : Int)) ∧ ∀ p, 0 ≤ p → p < 10 → F1 p = (zDf (zOp (bT B) (bK B) (bN B) (zlast (bN B) a) k y) (rS R) (rE R) (rN R).toNat s p)) := by
  refine z_method g_X5_measure [some (zR 1), some (zI s), some (zI k), some (zI y), some (zI a), none, none] rfl rfl (fun V c => ?_)
  have hn := hB.1
  refine z_cV c 3 k_5_86 zv_X0_lastOf (pc := 9) (ls := [some (zR 1), some (zI s), some (zI k), some (zI y), some (zI a), none, none]) (sk := []) (h := (zw ((sn, sf, 5, 5, 22)) B S Z L R M)) (cs := 0) (ss := 0) (c_X0_lastOf l ((sn, sf, 5, 5, 22)) B S Z L R M a (by omega)) rfl trivial rfl rfl ⟨Nat.le_refl _, Nat.le_refl _⟩ ?_
  rintro _ _ ⟨rfl, rfl⟩
  show V (9, [some (zR 1), some (zI s), some (zI k), some (zI y), some (zI a), none, none], [zI ((zlast ((bN B)) a))], (zw ((sn, sf, 5, 5, 22)) B S Z L R M), 0, 0)
  refine z_go c 3 (s1 := (14, [some (zR 1), some (zI s), some (zI k), some (zI y), some (zI a), some (zI ((zlast ((bN B)) a))), some (zI 0)], [], (zw ((sn, sf, 5, 5, 22)) B S Z L R M), 0, 0)) rfl trivial ?_
  have hl : -1 ≤ zlast (bN B) a ∧ zlast (bN B) a < bN B := zlast_rng hn.1 ha
  have loop : ∀ (x m : Nat) (S1 : ZSg) (O1 : Int → Int), rN R - (m : Int) < (x : Int) → (m : Int) ≤ rN R → zch (bT B) (bK B) (bN B) S1 → zRo O1 → (∀ w : Nat, w < m → zop O1 (w : Int) = (zOp (bT B) (bK B) (bN B) (zlast (bN B) a) k y) (w : Int)) → V (14, [some (zR 1), some (zI s), some (zI k), some (zI y), some (zI a), some (zI ((zlast ((bN B)) a))), some (zI ((m : Int)))], [], (zw ((sn, sf, 5, 5, 22)) B S1 Z L ((rS R), (rE R), O1, (rF R), (rN R)) M), 0, 0) := by
    intro x
    induction x with
    | zero => intro m S1 O1 h1 h2; exfalso; omega
    | succ x ih =>
      intro m S1 O1 hm1 hm2 hch_S1 hO1 hop
      refine z_br c 4 ((rN R) ≤ (m : Int)) (71, [some (zR 1), some (zI s), some (zI k), some (zI y), some (zI a), some (zI ((zlast ((bN B)) a))), some (zI ((m : Int)))], [], (zw ((sn, sf, 5, 5, 22)) B S1 Z L ((rS R), (rE R), O1, (rF R), (rN R)) M), 0, 0) (26, [some (zR 1), some (zI s), some (zI k), some (zI y), some (zI a), some (zI ((zlast ((bN B)) a))), some (zI ((m : Int)))], [], (zw ((sn, sf, 5, 5, 22)) B S1 Z L ((rS R), (rE R), O1, (rF R), (rN R)) M), 0, 0) rfl ⟨(show ((-2147483648 : Int) ≤ (m : Int) ∧ (m : Int) ≤ 2147483647) ∧ (-2147483648 : Int) ≤ (rN R) ∧ (rN R) ≤ 2147483647 by omega), trivial⟩ (fun h23 => ?_) (fun h23 => ?_)
      · obtain rfl : m = (rN R).toNat := by omega
        refine z_cV c 3 k_5_176 zv_X2_measureFrom (pc := 79) (ls := [some (zR 1), some (zI s), some (zI k), some (zI y), some (zI a), some (zI ((zlast ((bN B)) a))), some (zI (((rN R).toNat : Int)))]) (sk := []) (h := (zw ((sn, sf, 5, 5, 22)) B S1 Z L ((rS R), (rE R), O1, (rF R), (rN R)) M)) (cs := 0) (ss := 0) (c_X2_measureFrom l ((sn, sf, 5, 5, 22)) B S1 Z L ((rS R), (rE R), O1, (rF R), (rN R)) M s (zm0 (rF R) s) (by omega) hR.2 hO1 hs rfl) rfl trivial rfl rfl ⟨Nat.le_refl _, Nat.le_refl _⟩ ?_
        rintro _ _ ⟨rfl, rfl⟩
        show V (79, [some (zR 1), some (zI s), some (zI k), some (zI y), some (zI a), some (zI ((zlast ((bN B)) a))), some (zI (((rN R).toNat : Int)))], [], (zw ((sn, sf, 5, 5, 22)) B S1 Z L ((rS R), (rE R), O1, (zgs (zop O1) (rS R) (rE R) (rN R).toNat (zm0 (rF R) s) 9), (rN R)) M), 0, 0)
        exact z_re c 0 (v := none) (h := (zw ((sn, sf, 5, 5, 22)) B S1 Z L ((rS R), (rE R), O1, (zgs (zop O1) (rS R) (rE R) (rN R).toNat (zm0 (rF R) s) 9), (rN R)) M)) (cs := 0) (ss := 0) rfl trivial trivial ⟨Nat.le_refl _, Nat.le_refl _⟩ ⟨rfl, S1, O1, _, rfl, hch_S1, hO1, zgs_rng (zm0_rng _ _) 9 (by decide), hop, fun p h1 h2 => zDf_at hR hop ⟨h1, h2⟩⟩
      · refine z_cV c 5 k_5_100 zv_X3_look (pc := 39) (ls := [some (zR 1), some (zI s), some (zI k), some (zI y), some (zI a), some (zI ((zlast ((bN B)) a))), some (zI ((m : Int)))]) (sk := []) (h := (zw ((sn, sf, 5, 5, 22)) B S1 Z L ((rS R), (rE R), O1, (rF R), (rN R)) M)) (cs := 0) (ss := 0) (c_lookS l ((sn, sf, 5, 5, 22)) B S1 Z L ((rS R), (rE R), O1, (rF R), (rN R)) M (rN R) ((m : Int)) ((zlast ((bN B)) a)) ((-9)) hB (by omega) hl (by omega) hch_S1) rfl trivial rfl rfl ⟨Nat.le_refl _, Nat.le_refl _⟩ ?_
        rintro _ _ ⟨rfl, S36, rfl, hsi_S36, ha_S36, hb_S36, hc_S36⟩
        have hch_S36 := zch_of hsi_S36 ha_S36 hb_S36 hc_S36 (by omega) (by omega) (by omega)
        obtain ⟨v1, v2, v3⟩ := zBv_lim hB hl
        obtain ⟨r1, r2, r3, r4, r5, r6, r7⟩ := zSi_rng hsi_S36 v1 v2 v3
        show V (39, [some (zR 1), some (zI s), some (zI k), some (zI y), some (zI a), some (zI ((zlast ((bN B)) a))), some (zI ((m : Int)))], [], (zw ((sn, sf, 5, 5, 22)) B S36 Z L ((rS R), (rE R), O1, (rF R), (rN R)) M), 0, 0)
        refine z_cV c 7 k_5_125 zv_X3_ground (pc := 54) (ls := [some (zR 1), some (zI s), some (zI k), some (zI y), some (zI a), some (zI ((zlast ((bN B)) a))), some (zI ((m : Int)))]) (sk := [zI ((m : Int)), zR 15]) (h := (zw ((sn, sf, 5, 5, 22)) B S36 Z L ((rS R), (rE R), O1, (rF R), (rN R)) M)) (cs := 0) (ss := 0) (c_gS l ((sn, sf, 5, 5, 22)) B S36 Z L ((rS R), (rE R), O1, (rF R), (rN R)) M (rN R) ((m : Int)) ((zlast ((bN B)) a)) ((-9)) k y hB hl hsi_S36 (by omega) (by omega)) rfl trivial rfl rfl ⟨Nat.le_refl _, Nat.le_refl _⟩ ?_
        rintro _ _ ⟨S51, rfl, rfl, hsi_S51, ha1_S51, hb1_S51, hc1_S51⟩
        have ha_S51 := ha1_S51.trans ha_S36
        have hb_S51 := hb1_S51.trans hb_S36
        have hc_S51 := hc1_S51.trans hc_S36
        have hch_S51 := zch_of hsi_S51 ha_S51 hb_S51 hc_S51 (by omega) (by omega) (by omega)
        have q51 := zF_rng (bT B) (bK B) (bN B) ((m : Int)) ((zlast ((bN B)) a)) ((-9)) k y
        show V (54, [some (zR 1), some (zI s), some (zI k), some (zI y), some (zI a), some (zI ((zlast ((bN B)) a))), some (zI ((m : Int)))], [zI ((zF (bT B) (bK B) (bN B) ((m : Int)) ((zlast ((bN B)) a)) ((-9)) k y)), zI ((m : Int)), zR 15], (zw ((sn, sf, 5, 5, 22)) B S51 Z L ((rS R), (rE R), O1, (rF R), (rN R)) M), 0, 0)
        refine z_br c 0 ((zF (bT B) (bK B) (bN B) ((m : Int)) ((zlast ((bN B)) a)) ((-9)) k y) = 0) (61, [some (zR 1), some (zI s), some (zI k), some (zI y), some (zI a), some (zI ((zlast ((bN B)) a))), some (zI ((m : Int)))], [zI ((m : Int)), zR 15], (zw ((sn, sf, 5, 5, 22)) B S51 Z L ((rS R), (rE R), O1, (rF R), (rN R)) M), 0, 0) (57, [some (zR 1), some (zI s), some (zI k), some (zI y), some (zI a), some (zI ((zlast ((bN B)) a))), some (zI ((m : Int)))], [zI ((m : Int)), zR 15], (zw ((sn, sf, 5, 5, 22)) B S51 Z L ((rS R), (rE R), O1, (rF R), (rN R)) M), 0, 0) rfl ⟨(show (-2147483648 : Int) ≤ (zF (bT B) (bK B) (bN B) ((m : Int)) ((zlast ((bN B)) a)) ((-9)) k y) ∧ (zF (bT B) (bK B) (bN B) ((m : Int)) ((zlast ((bN B)) a)) ((-9)) k y) ≤ 2147483647 by omega), trivial⟩ (fun h54 => ?_) (fun h54 => ?_)
        · refine z_go c 1 (s1 := (62, [some (zR 1), some (zI s), some (zI k), some (zI y), some (zI a), some (zI ((zlast ((bN B)) a))), some (zI ((m : Int)))], [zI 0, zI ((m : Int)), zR 15], (zw ((sn, sf, 5, 5, 22)) B S51 Z L ((rS R), (rE R), O1, (rF R), (rN R)) M), 0, 0)) rfl trivial ?_
          have hOn : zRo (zup O1 (m : Int) 0) := by
            intro j a b
            simp only [zup]
            split
            · omega
            · exact hO1 j a b
          have hopn : ∀ w : Nat, w < m + 1 → zop (zup O1 (m : Int) 0) (w : Int) = (zOp (bT B) (bK B) (bN B) (zlast (bN B) a) k y) (w : Int) := by
            intro w hw
            by_cases g : w = m
            · subst g
              simp only [zop, zOp, zup, if_true]
              simp [h54]
            · have e : zup O1 (m : Int) 0 (w : Int) = O1 (w : Int) := by
                simp only [zup]
                rw [if_neg (by omega)]
              rw [← hop w (by omega)]
              show (!decide (zup O1 (m : Int) 0 (w : Int) = 0)) = (!decide (O1 (w : Int) = 0))
              simp only [e]
          refine z_cV c 0 k_5_172 zv_X2_open (pc := 65) (ls := [some (zR 1), some (zI s), some (zI k), some (zI y), some (zI a), some (zI ((zlast ((bN B)) a))), some (zI ((m : Int)))]) (sk := []) (h := (zw ((sn, sf, 5, 5, 22)) B S51 Z L ((rS R), (rE R), O1, (rF R), (rN R)) M)) (cs := 0) (ss := 0) (c_X2_open l ((sn, sf, 5, 5, 22)) B S51 Z L ((rS R), (rE R), O1, (rF R), (rN R)) M ((m : Int)) 0 (by omega) (by omega)) rfl trivial rfl rfl ⟨Nat.le_refl _, Nat.le_refl _⟩ ?_
          rintro _ _ ⟨rfl, rfl⟩
          show V (65, [some (zR 1), some (zI s), some (zI k), some (zI y), some (zI a), some (zI ((zlast ((bN B)) a))), some (zI ((m : Int)))], [], (zw ((sn, sf, 5, 5, 22)) B S51 Z L ((rS R), (rE R), (zup O1 ((m : Int)) 0), (rF R), (rN R)) M), 0, 0)
          exact z_go c 2 (s1 := (14, [some (zR 1), some (zI s), some (zI k), some (zI y), some (zI a), some (zI ((zlast ((bN B)) a))), some (zI (((m : Int) + 1)))], [], (zw ((sn, sf, 5, 5, 22)) B S51 Z L ((rS R), (rE R), (zup O1 ((m : Int)) 0), (rF R), (rN R)) M), 0, 0)) rfl trivial (ih (m + 1) S51 _ (by omega) (by omega) hch_S51 hOn hopn)
        · refine z_go c 2 (s1 := (62, [some (zR 1), some (zI s), some (zI k), some (zI y), some (zI a), some (zI ((zlast ((bN B)) a))), some (zI ((m : Int)))], [zI 1, zI ((m : Int)), zR 15], (zw ((sn, sf, 5, 5, 22)) B S51 Z L ((rS R), (rE R), O1, (rF R), (rN R)) M), 0, 0)) rfl trivial ?_
          have hOn : zRo (zup O1 (m : Int) 1) := by
            intro j a b
            simp only [zup]
            split
            · omega
            · exact hO1 j a b
          have hopn : ∀ w : Nat, w < m + 1 → zop (zup O1 (m : Int) 1) (w : Int) = (zOp (bT B) (bK B) (bN B) (zlast (bN B) a) k y) (w : Int) := by
            intro w hw
            by_cases g : w = m
            · subst g
              simp only [zop, zOp, zup, if_true]
              simp [h54]
            · have e : zup O1 (m : Int) 1 (w : Int) = O1 (w : Int) := by
                simp only [zup]
                rw [if_neg (by omega)]
              rw [← hop w (by omega)]
              show (!decide (zup O1 (m : Int) 1 (w : Int) = 0)) = (!decide (O1 (w : Int) = 0))
              simp only [e]
          refine z_cV c 0 k_5_172 zv_X2_open (pc := 65) (ls := [some (zR 1), some (zI s), some (zI k), some (zI y), some (zI a), some (zI ((zlast ((bN B)) a))), some (zI ((m : Int)))]) (sk := []) (h := (zw ((sn, sf, 5, 5, 22)) B S51 Z L ((rS R), (rE R), O1, (rF R), (rN R)) M)) (cs := 0) (ss := 0) (c_X2_open l ((sn, sf, 5, 5, 22)) B S51 Z L ((rS R), (rE R), O1, (rF R), (rN R)) M ((m : Int)) 1 (by omega) (by omega)) rfl trivial rfl rfl ⟨Nat.le_refl _, Nat.le_refl _⟩ ?_
          rintro _ _ ⟨rfl, rfl⟩
          show V (65, [some (zR 1), some (zI s), some (zI k), some (zI y), some (zI a), some (zI ((zlast ((bN B)) a))), some (zI ((m : Int)))], [], (zw ((sn, sf, 5, 5, 22)) B S51 Z L ((rS R), (rE R), (zup O1 ((m : Int)) 1), (rF R), (rN R)) M), 0, 0)
          exact z_go c 2 (s1 := (14, [some (zR 1), some (zI s), some (zI k), some (zI y), some (zI a), some (zI ((zlast ((bN B)) a))), some (zI (((m : Int) + 1)))], [], (zw ((sn, sf, 5, 5, 22)) B S51 Z L ((rS R), (rE R), (zup O1 ((m : Int)) 1), (rF R), (rN R)) M), 0, 0)) rfl trivial (ih (m + 1) S51 _ (by omega) (by omega) hch_S51 hOn hopn)
  exact loop 13 0 S (rO R) (by omega) (by omega) hch_S hO (fun w h => absurd h (Nat.not_lt_zero _))
set_option maxRecDepth 4000 in
theorem c_X5_steps (l : Launch) (sn : Nat) (sf : Int → Int) (B : ZBk) (S Z : ZSg) (L : ZLn) (R : ZRd) (M : ZMd) (f t k y a : Int) (hB : zBv (bT B) (bK B) (bN B) (rN R)) (hch_S : zch (bT B) (bK B) (bN B) S) (hr : 0 ≤ rN R ∧ rN R ≤ 12) (hR : zRv (rS R) (rE R) (rN R)) (hO : zRo (rO R)) (hF : zFr (rF R)) (hf2 : (-2147483648 ≤ f ∧ f ≤ 2147483647)) (ht2 : (-2147483648 ≤ t ∧ t ≤ 2147483647)) (hk2 : (-2147483648 ≤ k ∧ k ≤ 2147483647)) (hy2 : (-2147483648 ≤ y ∧ y ≤ 2147483647)) (ha2 : (-2147483648 ≤ a ∧ a ≤ 2147483647)) : zMet l m_X5_steps [zR 1, zI f, zI t, zI k, zI y, zI a] (zw ((sn, sf, 5, 5, 22)) B S Z L R M) (fun v h1 => ∃ S1 O1 F1, v = some (zI (if 0 ≤ t ∧ t ≤ 9 then (if (zrP (bN B) f k y a) = 0 then (zDf (zOp (bT B) (bK B) (bN B) (zlast (bN B) a) k y) (rS R) (rE R) (rN R).toNat t f) else (zrP (bN B) f k y a)) else -1)) ∧ (zw ((sn, sf, 5, 5, 22)) B S1 Z L ((rS R), (rE R), O1, F1, (rN R)) M) = h1 ∧ zch (bT B) (bK B) (bN B) S1 ∧ zRo O1 ∧ zFr F1) := by
  refine z_method g_X5_steps [some (zR 1), some (zI f), some (zI t), some (zI k), some (zI y), some (zI a), none] rfl rfl (fun V c => ?_)
  have hn := hB.1
  refine z_cS c 1 k_5_41 zv_X5_isPlace (pc := 4) (ls := [some (zR 1), some (zI f), some (zI t), some (zI k), some (zI y), some (zI a), none]) (sk := []) (h := (zw ((sn, sf, 5, 5, 22)) B S Z L R M)) (cs := 0) (ss := 0) (c_X5_isPlace l (zw ((sn, sf, 5, 5, 22)) B S Z L R M) t (by omega)) rfl trivial rfl ⟨Nat.le_refl _, Nat.le_refl _⟩ ?_
  rintro _ _ ⟨r1, rfl, e1, rfl⟩
  show V (4, [some (zR 1), some (zI f), some (zI t), some (zI k), some (zI y), some (zI a), none], [zI r1], (zw ((sn, sf, 5, 5, 22)) B S Z L R M), 0, 0)
  refine z_br c 0 (¬ r1 = 0) (9, [some (zR 1), some (zI f), some (zI t), some (zI k), some (zI y), some (zI a), none], [], (zw ((sn, sf, 5, 5, 22)) B S Z L R M), 0, 0) (7, [some (zR 1), some (zI f), some (zI t), some (zI k), some (zI y), some (zI a), none], [], (zw ((sn, sf, 5, 5, 22)) B S Z L R M), 0, 0) rfl ⟨(show (-2147483648 : Int) ≤ r1 ∧ r1 ≤ 2147483647 by omega), trivial⟩ (fun h4 => ?_) (fun h4 => ?_)
  · refine z_cV c 5 k_5_145 zv_X5_refusalFrom (pc := 19) (ls := [some (zR 1), some (zI f), some (zI t), some (zI k), some (zI y), some (zI a), none]) (sk := []) (h := (zw ((sn, sf, 5, 5, 22)) B S Z L R M)) (cs := 0) (ss := 0) (c_X5_refusalFrom l sn sf B S Z L R M f k y a hn (by omega) (by omega) (by omega) (by omega)) rfl trivial rfl rfl ⟨Nat.le_refl _, Nat.le_refl _⟩ ?_
    rintro _ _ ⟨rfl, rfl⟩
    have hro := zrP_c (bN B) f k y a
    show V (19, [some (zR 1), some (zI f), some (zI t), some (zI k), some (zI y), some (zI a), none], [zI ((zrP (bN B) f k y a))], (zw ((sn, sf, 5, 5, 22)) B S Z L R M), 0, 0)
    refine z_br c 2 ((zrP (bN B) f k y a) = 0) (29, [some (zR 1), some (zI f), some (zI t), some (zI k), some (zI y), some (zI a), some (zI ((zrP (bN B) f k y a)))], [], (zw ((sn, sf, 5, 5, 22)) B S Z L R M), 0, 0) (26, [some (zR 1), some (zI f), some (zI t), some (zI k), some (zI y), some (zI a), some (zI ((zrP (bN B) f k y a)))], [], (zw ((sn, sf, 5, 5, 22)) B S Z L R M), 0, 0) rfl ⟨(show (-2147483648 : Int) ≤ (zrP (bN B) f k y a) ∧ (zrP (bN B) f k y a) ≤ 2147483647 by omega), trivial⟩ (fun h23 => ?_) (fun h23 => ?_)
    · obtain ⟨g0, g1, g2, g3, g4⟩ := hro.resolve_right (by omega)
      refine z_cV c 5 k_5_148 zv_X5_measure (pc := 39) (ls := [some (zR 1), some (zI f), some (zI t), some (zI k), some (zI y), some (zI a), some (zI ((zrP (bN B) f k y a)))]) (sk := []) (h := (zw ((sn, sf, 5, 5, 22)) B S Z L R M)) (cs := 0) (ss := 0) (c_X5_measure l sn sf B S Z L R M t k y a hB hch_S hr hR hO (by omega) (by omega) (by omega) (by omega)) rfl trivial rfl rfl ⟨Nat.le_refl _, Nat.le_refl _⟩ ?_
      rintro _ _ ⟨rfl, S1, O1, F1, rfl, hch_S1, hO1, hF1, hop, hfar⟩
      show V (39, [some (zR 1), some (zI f), some (zI t), some (zI k), some (zI y), some (zI a), some (zI ((zrP (bN B) f k y a)))], [], (zw ((sn, sf, 5, 5, 22)) B S1 Z L ((rS R), (rE R), O1, F1, (rN R)) M), 0, 0)
      refine z_cV c 3 k_5_151 zv_X2_farOf (pc := 47) (ls := [some (zR 1), some (zI f), some (zI t), some (zI k), some (zI y), some (zI a), some (zI ((zrP (bN B) f k y a)))]) (sk := []) (h := (zw ((sn, sf, 5, 5, 22)) B S1 Z L ((rS R), (rE R), O1, F1, (rN R)) M)) (cs := 0) (ss := 0) (c_X2_farOf l ((sn, sf, 5, 5, 22)) B S1 Z L ((rS R), (rE R), O1, F1, (rN R)) M f (by omega)) rfl trivial rfl rfl ⟨Nat.le_refl _, Nat.le_refl _⟩ ?_
      rintro _ _ ⟨rfl, rfl⟩
      show V (47, [some (zR 1), some (zI f), some (zI t), some (zI k), some (zI y), some (zI a), some (zI ((zrP (bN B) f k y a)))], [zI (F1 f)], (zw ((sn, sf, 5, 5, 22)) B S1 Z L ((rS R), (rE R), O1, F1, (rN R)) M), 0, 0)
      rw [hfar f (by omega) (by omega)]
      show V (47, [some (zR 1), some (zI f), some (zI t), some (zI k), some (zI y), some (zI a), some (zI ((zrP (bN B) f k y a)))], [zI ((zDf (zOp (bT B) (bK B) (bN B) (zlast (bN B) a) k y) (rS R) (rE R) (rN R).toNat t f))], (zw ((sn, sf, 5, 5, 22)) B S1 Z L ((rS R), (rE R), O1, F1, (rN R)) M), 0, 0)
      exact z_re c 0 (v := some (zI ((zDf (zOp (bT B) (bK B) (bN B) (zlast (bN B) a) k y) (rS R) (rE R) (rN R).toNat t f)))) (h := (zw ((sn, sf, 5, 5, 22)) B S1 Z L ((rS R), (rE R), O1, F1, (rN R)) M)) (cs := 0) (ss := 0) rfl trivial trivial ⟨Nat.le_refl _, Nat.le_refl _⟩ ⟨_, _, _, by rw [if_pos (by omega), if_pos (by omega)], rfl, hch_S1, hO1, hF1⟩
    · exact z_re c 1 (v := some (zI ((zrP (bN B) f k y a)))) (h := (zw ((sn, sf, 5, 5, 22)) B S Z L R M)) (cs := 0) (ss := 0) rfl trivial trivial ⟨Nat.le_refl _, Nat.le_refl _⟩ ⟨S, (rO R), (rF R), by rw [if_pos (by omega), if_neg (by omega)], rfl, hch_S, hO, hF⟩
  · exact z_re c 1 (v := some (zI ((-1)))) (h := (zw ((sn, sf, 5, 5, 22)) B S Z L R M)) (cs := 0) (ss := 0) rfl trivial trivial ⟨Nat.le_refl _, Nat.le_refl _⟩ ⟨S, (rO R), (rF R), by rw [if_neg (by omega)], rfl, hch_S, hO, hF⟩
set_option maxRecDepth 4000 in
theorem c_X5_first (l : Launch) (sn : Nat) (sf : Int → Int) (B : ZBk) (S Z : ZSg) (L : ZLn) (R : ZRd) (M : ZMd) (f t k y a : Int) (hB : zBv (bT B) (bK B) (bN B) (rN R)) (hch_S : zch (bT B) (bK B) (bN B) S) (hr : 0 ≤ rN R ∧ rN R ≤ 12) (hR : zRv (rS R) (rE R) (rN R)) (hO : zRo (rO R)) (hF : zFr (rF R)) (hf2 : (-2147483648 ≤ f ∧ f ≤ 2147483647)) (ht2 : (-2147483648 ≤ t ∧ t ≤ 2147483647)) (hk2 : (-2147483648 ≤ k ∧ k ≤ 2147483647)) (hy2 : (-2147483648 ≤ y ∧ y ≤ 2147483647)) (ha2 : (-2147483648 ≤ a ∧ a ≤ 2147483647)) : zMet l m_X5_first [zR 1, zI f, zI t, zI k, zI y, zI a] (zw ((sn, sf, 5, 5, 22)) B S Z L R M) (fun v h1 => ∃ S1 O1 F1, v = some (zI (if 0 ≤ t ∧ t ≤ 9 then (if (zrP (bN B) f k y a) = 0 then (if (zDf (zOp (bT B) (bK B) (bN B) (zlast (bN B) a) k y) (rS R) (rE R) (rN R).toNat t f) - 1 < 0 then -9 else zmn (znr (zOp (bT B) (bK B) (bN B) (zlast (bN B) a) k y) (rS R) (rE R) (fun p => (zDf (zOp (bT B) (bK B) (bN B) (zlast (bN B) a) k y) (rS R) (rE R) (rN R).toNat t p)) f) 0 (rN R).toNat) else (zrP (bN B) f k y a)) else -1)) ∧ (zw ((sn, sf, 5, 5, 22)) B S1 Z L ((rS R), (rE R), O1, F1, (rN R)) M) = h1 ∧ zch (bT B) (bK B) (bN B) S1 ∧ zRo O1 ∧ zFr F1) := by
  refine z_method g_X5_first [some (zR 1), some (zI f), some (zI t), some (zI k), some (zI y), some (zI a), none] rfl rfl (fun V c => ?_)
  have hn := hB.1
  refine z_cS c 1 k_5_41 zv_X5_isPlace (pc := 4) (ls := [some (zR 1), some (zI f), some (zI t), some (zI k), some (zI y), some (zI a), none]) (sk := []) (h := (zw ((sn, sf, 5, 5, 22)) B S Z L R M)) (cs := 0) (ss := 0) (c_X5_isPlace l (zw ((sn, sf, 5, 5, 22)) B S Z L R M) t (by omega)) rfl trivial rfl ⟨Nat.le_refl _, Nat.le_refl _⟩ ?_
  rintro _ _ ⟨r1, rfl, e1, rfl⟩
  show V (4, [some (zR 1), some (zI f), some (zI t), some (zI k), some (zI y), some (zI a), none], [zI r1], (zw ((sn, sf, 5, 5, 22)) B S Z L R M), 0, 0)
  refine z_br c 0 (¬ r1 = 0) (9, [some (zR 1), some (zI f), some (zI t), some (zI k), some (zI y), some (zI a), none], [], (zw ((sn, sf, 5, 5, 22)) B S Z L R M), 0, 0) (7, [some (zR 1), some (zI f), some (zI t), some (zI k), some (zI y), some (zI a), none], [], (zw ((sn, sf, 5, 5, 22)) B S Z L R M), 0, 0) rfl ⟨(show (-2147483648 : Int) ≤ r1 ∧ r1 ≤ 2147483647 by omega), trivial⟩ (fun h4 => ?_) (fun h4 => ?_)
  · refine z_cV c 5 k_5_145 zv_X5_refusalFrom (pc := 19) (ls := [some (zR 1), some (zI f), some (zI t), some (zI k), some (zI y), some (zI a), none]) (sk := []) (h := (zw ((sn, sf, 5, 5, 22)) B S Z L R M)) (cs := 0) (ss := 0) (c_X5_refusalFrom l sn sf B S Z L R M f k y a hn (by omega) (by omega) (by omega) (by omega)) rfl trivial rfl rfl ⟨Nat.le_refl _, Nat.le_refl _⟩ ?_
    rintro _ _ ⟨rfl, rfl⟩
    have hro := zrP_c (bN B) f k y a
    show V (19, [some (zR 1), some (zI f), some (zI t), some (zI k), some (zI y), some (zI a), none], [zI ((zrP (bN B) f k y a))], (zw ((sn, sf, 5, 5, 22)) B S Z L R M), 0, 0)
    refine z_br c 2 ((zrP (bN B) f k y a) = 0) (29, [some (zR 1), some (zI f), some (zI t), some (zI k), some (zI y), some (zI a), some (zI ((zrP (bN B) f k y a)))], [], (zw ((sn, sf, 5, 5, 22)) B S Z L R M), 0, 0) (26, [some (zR 1), some (zI f), some (zI t), some (zI k), some (zI y), some (zI a), some (zI ((zrP (bN B) f k y a)))], [], (zw ((sn, sf, 5, 5, 22)) B S Z L R M), 0, 0) rfl ⟨(show (-2147483648 : Int) ≤ (zrP (bN B) f k y a) ∧ (zrP (bN B) f k y a) ≤ 2147483647 by omega), trivial⟩ (fun h23 => ?_) (fun h23 => ?_)
    · obtain ⟨g0, g1, g2, g3, g4⟩ := hro.resolve_right (by omega)
      have hA : 0 ≤ t ∧ t ≤ 9 := by omega
      refine z_cV c 5 k_5_148 zv_X5_measure (pc := 39) (ls := [some (zR 1), some (zI f), some (zI t), some (zI k), some (zI y), some (zI a), some (zI ((zrP (bN B) f k y a)))]) (sk := []) (h := (zw ((sn, sf, 5, 5, 22)) B S Z L R M)) (cs := 0) (ss := 0) (c_X5_measure l sn sf B S Z L R M t k y a hB hch_S hr hR hO (by omega) (by omega) (by omega) (by omega)) rfl trivial rfl rfl ⟨Nat.le_refl _, Nat.le_refl _⟩ ?_
      rintro _ _ ⟨rfl, S1, O1, F1, rfl, hch_S1, hO1, hF1, hop, hfar⟩
      show V (39, [some (zR 1), some (zI f), some (zI t), some (zI k), some (zI y), some (zI a), some (zI ((zrP (bN B) f k y a)))], [], (zw ((sn, sf, 5, 5, 22)) B S1 Z L ((rS R), (rE R), O1, F1, (rN R)) M), 0, 0)
      refine z_cV c 3 k_5_154 zv_X2_wayNearer (pc := 47) (ls := [some (zR 1), some (zI f), some (zI t), some (zI k), some (zI y), some (zI a), some (zI ((zrP (bN B) f k y a)))]) (sk := []) (h := (zw ((sn, sf, 5, 5, 22)) B S1 Z L ((rS R), (rE R), O1, F1, (rN R)) M)) (cs := 0) (ss := 0) (c_X2_wayNearer l ((sn, sf, 5, 5, 22)) B S1 Z L ((rS R), (rE R), O1, F1, (rN R)) M f (by omega) hR.2 hO1 hF1 (by omega)) rfl trivial rfl rfl ⟨Nat.le_refl _, Nat.le_refl _⟩ ?_
      rintro _ _ ⟨rfl, rfl⟩
      have hw1 : zmn (znr (zop O1) (rS R) (rE R) F1 f) 0 (rN R).toNat = zmn (znr (zOp (bT B) (bK B) (bN B) (zlast (bN B) a) k y) (rS R) (rE R) (fun p => (zDf (zOp (bT B) (bK B) (bN B) (zlast (bN B) a) k y) (rS R) (rE R) (rN R).toNat t p)) f) 0 (rN R).toNat := by
        apply zmn_cong
        intro j j0 j1
        have hj := hR.2 j j0 (by omega)
        unfold znr
        rw [show zop O1 j = (zOp (bT B) (bK B) (bN B) (zlast (bN B) a) k y) j by have := hop j.toNat (by omega); rw [show ((j.toNat : Nat) : Int) = j by omega] at this; exact this, hfar _ hj.1.1 (by omega), hfar _ hj.2.1.1 (by omega), hfar f (by omega) (by omega)]
      show V (47, [some (zR 1), some (zI f), some (zI t), some (zI k), some (zI y), some (zI a), some (zI ((zrP (bN B) f k y a)))], [zI (if F1 f - 1 < 0 then -9 else zmn (znr (zop O1) (rS R) (rE R) F1 f) 0 (rN R).toNat)], (zw ((sn, sf, 5, 5, 22)) B S1 Z L ((rS R), (rE R), O1, F1, (rN R)) M), 0, 0)
      rw [hw1, hfar f (by omega) (by omega)]
      show V (47, [some (zR 1), some (zI f), some (zI t), some (zI k), some (zI y), some (zI a), some (zI ((zrP (bN B) f k y a)))], [zI ((if (zDf (zOp (bT B) (bK B) (bN B) (zlast (bN B) a) k y) (rS R) (rE R) (rN R).toNat t f) - 1 < 0 then -9 else zmn (znr (zOp (bT B) (bK B) (bN B) (zlast (bN B) a) k y) (rS R) (rE R) (fun p => (zDf (zOp (bT B) (bK B) (bN B) (zlast (bN B) a) k y) (rS R) (rE R) (rN R).toNat t p)) f) 0 (rN R).toNat))], (zw ((sn, sf, 5, 5, 22)) B S1 Z L ((rS R), (rE R), O1, F1, (rN R)) M), 0, 0)
      exact z_re c 0 (v := some (zI ((if (zDf (zOp (bT B) (bK B) (bN B) (zlast (bN B) a) k y) (rS R) (rE R) (rN R).toNat t f) - 1 < 0 then -9 else zmn (znr (zOp (bT B) (bK B) (bN B) (zlast (bN B) a) k y) (rS R) (rE R) (fun p => (zDf (zOp (bT B) (bK B) (bN B) (zlast (bN B) a) k y) (rS R) (rE R) (rN R).toNat t p)) f) 0 (rN R).toNat)))) (h := (zw ((sn, sf, 5, 5, 22)) B S1 Z L ((rS R), (rE R), O1, F1, (rN R)) M)) (cs := 0) (ss := 0) rfl trivial trivial ⟨Nat.le_refl _, Nat.le_refl _⟩ ⟨_, _, _, by rw [if_pos hA, if_pos g0], rfl, hch_S1, hO1, hF1⟩
    · exact z_re c 1 (v := some (zI ((zrP (bN B) f k y a)))) (h := (zw ((sn, sf, 5, 5, 22)) B S Z L R M)) (cs := 0) (ss := 0) rfl trivial trivial ⟨Nat.le_refl _, Nat.le_refl _⟩ ⟨S, (rO R), (rF R), by rw [if_pos (by omega), if_neg (by omega)], rfl, hch_S, hO, hF⟩
  · exact z_re c 1 (v := some (zI ((-1)))) (h := (zw ((sn, sf, 5, 5, 22)) B S Z L R M)) (cs := 0) (ss := 0) rfl trivial trivial ⟨Nat.le_refl _, Nat.le_refl _⟩ ⟨S, (rO R), (rF R), by rw [if_neg (by omega)], rfl, hch_S, hO, hF⟩
set_option maxRecDepth 4000 in
theorem c_X5_reach (l : Launch) (sn : Nat) (sf : Int → Int) (B : ZBk) (S Z : ZSg) (L : ZLn) (R : ZRd) (M : ZMd) (f k y a : Int) (hB : zBv (bT B) (bK B) (bN B) (rN R)) (hch_S : zch (bT B) (bK B) (bN B) S) (hr : 0 ≤ rN R ∧ rN R ≤ 12) (hR : zRv (rS R) (rE R) (rN R)) (hO : zRo (rO R)) (hF : zFr (rF R)) (hf2 : (-2147483648 ≤ f ∧ f ≤ 2147483647)) (hk2 : (-2147483648 ≤ k ∧ k ≤ 2147483647)) (hy2 : (-2147483648 ≤ y ∧ y ≤ 2147483647)) (ha2 : (-2147483648 ≤ a ∧ a ≤ 2147483647)) : zMet l m_X5_reach [zR 1, zI f, zI k, zI y, zI a] (zw ((sn, sf, 5, 5, 22)) B S Z L R M) (fun v h1 => ∃ S1 O1 F1, v = some (zI (if (zrP (bN B) f k y a) = 0 then zcj (fun p => (zDf (zOp (bT B) (bK B) (bN B) (zlast (bN B) a) k y) (rS R) (rE R) (rN R).toNat f p)) 10 else (zrP (bN B) f k y a))) ∧ (zw ((sn, sf, 5, 5, 22)) B S1 Z L ((rS R), (rE R), O1, F1, (rN R)) M) = h1 ∧ zch (bT B) (bK B) (bN B) S1 ∧ zRo O1 ∧ zFr F1) := by
  refine z_method g_X5_reach [some (zR 1), some (zI f), some (zI k), some (zI y), some (zI a), none] rfl rfl (fun V c => ?_)
  have hn := hB.1
  refine z_cV c 5 k_5_145 zv_X5_refusalFrom (pc := 9) (ls := [some (zR 1), some (zI f), some (zI k), some (zI y), some (zI a), none]) (sk := []) (h := (zw ((sn, sf, 5, 5, 22)) B S Z L R M)) (cs := 0) (ss := 0) (c_X5_refusalFrom l sn sf B S Z L R M f k y a hn (by omega) (by omega) (by omega) (by omega)) rfl trivial rfl rfl ⟨Nat.le_refl _, Nat.le_refl _⟩ ?_
  rintro _ _ ⟨rfl, rfl⟩
  have hro := zrP_c (bN B) f k y a
  show V (9, [some (zR 1), some (zI f), some (zI k), some (zI y), some (zI a), none], [zI ((zrP (bN B) f k y a))], (zw ((sn, sf, 5, 5, 22)) B S Z L R M), 0, 0)
  refine z_br c 2 ((zrP (bN B) f k y a) = 0) (19, [some (zR 1), some (zI f), some (zI k), some (zI y), some (zI a), some (zI ((zrP (bN B) f k y a)))], [], (zw ((sn, sf, 5, 5, 22)) B S Z L R M), 0, 0) (16, [some (zR 1), some (zI f), some (zI k), some (zI y), some (zI a), some (zI ((zrP (bN B) f k y a)))], [], (zw ((sn, sf, 5, 5, 22)) B S Z L R M), 0, 0) rfl ⟨(show (-2147483648 : Int) ≤ (zrP (bN B) f k y a) ∧ (zrP (bN B) f k y a) ≤ 2147483647 by omega), trivial⟩ (fun h13 => ?_) (fun h13 => ?_)
  · obtain ⟨g0, g1, g2, g3, g4⟩ := hro.resolve_right (by omega)
    refine z_cV c 5 k_5_148 zv_X5_measure (pc := 28) (ls := [some (zR 1), some (zI f), some (zI k), some (zI y), some (zI a), some (zI ((zrP (bN B) f k y a)))]) (sk := []) (h := (zw ((sn, sf, 5, 5, 22)) B S Z L R M)) (cs := 0) (ss := 0) (c_X5_measure l sn sf B S Z L R M f k y a hB hch_S hr hR hO (by omega) (by omega) (by omega) (by omega)) rfl trivial rfl rfl ⟨Nat.le_refl _, Nat.le_refl _⟩ ?_
    rintro _ _ ⟨rfl, S1, O1, F1, rfl, hch_S1, hO1, hF1, hop, hfar⟩
    show V (28, [some (zR 1), some (zI f), some (zI k), some (zI y), some (zI a), some (zI ((zrP (bN B) f k y a)))], [], (zw ((sn, sf, 5, 5, 22)) B S1 Z L ((rS R), (rE R), O1, F1, (rN R)) M), 0, 0)
    refine z_cV c 2 k_5_157 zv_X2_comeTo (pc := 35) (ls := [some (zR 1), some (zI f), some (zI k), some (zI y), some (zI a), some (zI ((zrP (bN B) f k y a)))]) (sk := []) (h := (zw ((sn, sf, 5, 5, 22)) B S1 Z L ((rS R), (rE R), O1, F1, (rN R)) M)) (cs := 0) (ss := 0) (c_X2_comeTo l ((sn, sf, 5, 5, 22)) B S1 Z L ((rS R), (rE R), O1, F1, (rN R)) M hF1) rfl trivial rfl rfl ⟨Nat.le_refl _, Nat.le_refl _⟩ ?_
    rintro _ _ ⟨rfl, rfl⟩
    rw [zcj_cong (G := fun p => (zDf (zOp (bT B) (bK B) (bN B) (zlast (bN B) a) k y) (rS R) (rE R) (rN R).toNat f p)) 10 (fun p h1 h2 => hfar p h1 (by omega))]
    show V (35, [some (zR 1), some (zI f), some (zI k), some (zI y), some (zI a), some (zI ((zrP (bN B) f k y a)))], [zI ((zcj (fun p => (zDf (zOp (bT B) (bK B) (bN B) (zlast (bN B) a) k y) (rS R) (rE R) (rN R).toNat f p)) 10))], (zw ((sn, sf, 5, 5, 22)) B S1 Z L ((rS R), (rE R), O1, F1, (rN R)) M), 0, 0)
    exact z_re c 0 (v := some (zI ((zcj (fun p => (zDf (zOp (bT B) (bK B) (bN B) (zlast (bN B) a) k y) (rS R) (rE R) (rN R).toNat f p)) 10)))) (h := (zw ((sn, sf, 5, 5, 22)) B S1 Z L ((rS R), (rE R), O1, F1, (rN R)) M)) (cs := 0) (ss := 0) rfl trivial trivial ⟨Nat.le_refl _, Nat.le_refl _⟩ ⟨_, _, _, by rw [if_pos g0], rfl, hch_S1, hO1, hF1⟩
  · exact z_re c 1 (v := some (zI ((zrP (bN B) f k y a)))) (h := (zw ((sn, sf, 5, 5, 22)) B S Z L R M)) (cs := 0) (ss := 0) rfl trivial trivial ⟨Nat.le_refl _, Nat.le_refl _⟩ ⟨S, (rO R), (rF R), by rw [if_neg (by omega)], rfl, hch_S, hO, hF⟩
