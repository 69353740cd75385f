/-! the roads: a walk is measured step by step -/
/-- the ways are ways between places -/
def zRv (a b : Int → Int) (nw : Int) : Prop := (0 ≤ nw ∧ nw ≤ 12) ∧ ∀ w, 0 ≤ w → w < nw → (0 ≤ a w ∧ a w ≤ 9) ∧ (0 ≤ b w ∧ b w ≤ 9) ∧ ¬ a w = b w
def zRo (O : Int → Int) : Prop := ∀ w, 0 ≤ w → w < 12 → O w = 0 ∨ O w = 1
def zFr (F : Int → Int) : Prop := ∀ p, 0 ≤ p → p < 10 → -9 ≤ F p ∧ F p ≤ 10
def zop (O : Int → Int) : Int → Bool := fun w => !decide (O w = 0)
def zgo (F : Int → Int) (h t s : Int) : Int → Int := if F h = s - 1 ∧ F t = -9 then zup F t s else F
def zgw (op : Int → Bool) (a b : Int → Int) (s : Int) (F : Int → Int) : Nat → Int → Int
  | 0 => F
  | m + 1 => if op (m : Int) = true then zgo (zgo (zgw op a b s F m) (a (m : Int)) (b (m : Int)) s) (b (m : Int)) (a (m : Int)) s else zgw op a b s F m
def zgs (op : Int → Bool) (a b : Int → Int) (nw : Nat) (F : Int → Int) : Nat → Int → Int
  | 0 => F
  | t + 1 => zgw op a b ((t : Int) + 1) (zgs op a b nw F t) nw
theorem zgo_rng {F : Int → Int} {h t s : Int} (hF : zFr F) (hs : 1 ≤ s ∧ s ≤ 10) : zFr (zgo F h t s) := by
  intro p a b
  have := hF p a b
  unfold zgo
  split
  · simp only [zup]
    split <;> omega
  · exact this
theorem zgw_rng {op : Int → Bool} {a b : Int → Int} {s : Int} {F : Int → Int} (hF : zFr F) (hs : 1 ≤ s ∧ s ≤ 10) : ∀ m : Nat, zFr (zgw op a b s F m)
  | 0 => hF
  | m + 1 => by
    unfold zgw
    split
    · exact zgo_rng (zgo_rng (zgw_rng hF hs m) hs) hs
    · exact zgw_rng hF hs m
theorem zgs_rng {op : Int → Bool} {a b : Int → Int} {nw : Nat} {F : Int → Int} (hF : zFr F) : ∀ t : Nat, t ≤ 10 → zFr (zgs op a b nw F t)
  | 0, _ => hF
  | t + 1, h => zgw_rng (zgs_rng hF t (by omega)) (by omega) nw
/-- the first of which it is so -/
def zmn (P : Int → Bool) (a : Int) : Nat → Int
  | 0 => -9
  | k + 1 => if P a = true then a else zmn P (a + 1) k
/-- how many places are come to -/
def zcj (F : Int → Int) : Nat → Int
  | 0 => 0
  | m + 1 => zcj F m + (if F (m : Int) = -9 then 0 else 1)
theorem zcj_rng (F : Int → Int) : ∀ m : Nat, 0 ≤ zcj F m ∧ zcj F m ≤ (m : Int)
  | 0 => ⟨Int.le_refl _, Int.le_refl _⟩
  | m + 1 => by
    have ih := zcj_rng F m
    unfold zcj
    split <;> omega
/-- F0: a measure that begins at a place -/
def zF0 (s : Int) : Int → Int := fun p => if p = s then 0 else if 0 ≤ p ∧ p < 10 then -9 else 0
def znr (op : Int → Bool) (a b F : Int → Int) (p : Int) : Int → Bool := fun w => op w && (decide (a w = p ∧ F (b w) = F p - 1) || decide (b w = p ∧ F (a w) = F p - 1))
set_option maxRecDepth 4000 in
theorem c_X2_has (l : Launch) (sc : ZSc) (B : ZBk) (S Z : ZSg) (L : ZLn) (R : ZRd) (M : ZMd) (p : Int) (hn : 0 ≤ rN R ∧ rN R ≤ 12) (hp : (-2147483648 ≤ p ∧ p ≤ 2147483647)) : zMet l m_X2_has [zR 15, zI p] (zw sc B S Z L R M) (zIb (0 ≤ p ∧ p < rN R) (zw sc B S Z L R M)) := by
  refine z_method g_X2_has [some (zR 15), some (zI p)] rfl rfl (fun V c => ?_)
  refine z_br c 1 (p < 0) (16, [some (zR 15), some (zI p)], [], (zw sc B S Z L R M), 0, 0) (4, [some (zR 15), some (zI p)], [], (zw sc B S Z L R M), 0, 0) rfl ⟨(show (-2147483648 : Int) ≤ p ∧ p ≤ 2147483647 by omega), trivial⟩ (fun h1 => ?_) (fun h1 => ?_)
  · exact z_re c 1 (v := some (zI 0)) (h := (zw sc B S Z L R M)) (cs := 0) (ss := 0) rfl trivial (Or.inl rfl) ⟨Nat.le_refl _, Nat.le_refl _⟩ ⟨_, rfl, (by omega), rfl⟩
  · refine z_br c 3 ((rN R) ≤ p) (16, [some (zR 15), some (zI p)], [], (zw sc B S Z L R M), 0, 0) (12, [some (zR 15), some (zI p)], [], (zw sc B S Z L R M), 0, 0) rfl ⟨(show ((-2147483648 : Int) ≤ p ∧ p ≤ 2147483647) ∧ (-2147483648 : Int) ≤ (rN R) ∧ (rN R) ≤ 2147483647 by omega), trivial⟩ (fun h9 => ?_) (fun h9 => ?_)
    · exact z_re c 1 (v := some (zI 0)) (h := (zw sc B S Z L R M)) (cs := 0) (ss := 0) rfl trivial (Or.inl rfl) ⟨Nat.le_refl _, Nat.le_refl _⟩ ⟨_, rfl, (by omega), rfl⟩
    · exact z_re c 2 (v := some (zI 1)) (h := (zw sc B S Z L R M)) (cs := 0) (ss := 0) rfl trivial (Or.inr rfl) ⟨Nat.le_refl _, Nat.le_refl _⟩ ⟨_, rfl, (by omega), rfl⟩
set_option maxRecDepth 4000 in
theorem c_X2_add_full (l : Launch) (sc : ZSc) (B : ZBk) (S Z : ZSg) (L : ZLn) (R : ZRd) (M : ZMd) (a b : Int) (hn : rN R = 12) : zMet l m_X2_add [zR 15, zI a, zI b] (zw sc B S Z L R M) (zI1 (-4) (zw sc B S Z L R M)) := by
  refine z_method g_X2_add [some (zR 15), some (zI a), some (zI b)] rfl rfl (fun V c => ?_)
  refine z_br c 3 ((rN R) < 12) (12, [some (zR 15), some (zI a), some (zI b)], [], (zw sc B S Z L R M), 0, 0) (9, [some (zR 15), some (zI a), some (zI b)], [], (zw sc B S Z L R M), 0, 0) rfl ⟨(show ((-2147483648 : Int) ≤ (rN R) ∧ (rN R) ≤ 2147483647) ∧ (-2147483648 : Int) ≤ 12 ∧ 12 ≤ 2147483647 by omega), trivial⟩ (fun h6 => by exfalso; omega) (fun h6 => ?_)
  exact z_re c 1 (v := some (zI ((-4)))) (h := (zw sc B S Z L R M)) (cs := 0) (ss := 0) rfl trivial trivial ⟨Nat.le_refl _, Nat.le_refl _⟩ ⟨rfl, rfl⟩
set_option maxRecDepth 4000 in
theorem c_X2_add_ok (l : Launch) (sc : ZSc) (B : ZBk) (S Z : ZSg) (L : ZLn) (R : ZRd) (M : ZMd) (a b : Int) (hn : 0 ≤ rN R ∧ rN R < 12) : zMet l m_X2_add [zR 15, zI a, zI b] (zw sc B S Z L R M) (zI1 (rN R) (zw sc B S Z L ((zup (rS R) (rN R) a), (zup (rE R) (rN R) b), (rO R), (rF R), (rN R + 1)) M)) := by
  refine z_method g_X2_add [some (zR 15), some (zI a), some (zI b)] rfl rfl (fun V c => ?_)
  refine z_br c 3 ((rN R) < 12) (12, [some (zR 15), some (zI a), some (zI b)], [], (zw sc B S Z L R M), 0, 0) (9, [some (zR 15), some (zI a), some (zI b)], [], (zw sc B S Z L R M), 0, 0) rfl ⟨(show ((-2147483648 : Int) ≤ (rN R) ∧ (rN R) ≤ 2147483647) ∧ (-2147483648 : Int) ≤ 12 ∧ 12 ≤ 2147483647 by omega), trivial⟩ (fun h6 => ?_) (fun h6 => by exfalso; omega)
  refine z_cS c 5 k_2_28 zv_X5_put (pc := 24) (ls := [some (zR 15), some (zI a), some (zI b)]) (sk := []) (h := (zw sc B S Z L R M)) (cs := 0) (ss := 0) (c_X5_put l (zw sc B S Z L R M) 15 12 (rS R) ((rN R)) a rfl (by decide) (by omega)) rfl trivial rfl ⟨Nat.le_refl _, Nat.le_refl _⟩ ?_
  rintro _ _ ⟨rfl, rfl⟩
  rw [zpt_in (by omega)]
  show V (24, [some (zR 15), some (zI a), some (zI b)], [], (zw sc B S Z L ((zup (rS R) ((rN R)) a), (rE R), (rO R), (rF R), (rN R)) M), 0, 0)
  refine z_cS c 5 k_2_28 zv_X5_put (pc := 36) (ls := [some (zR 15), some (zI a), some (zI b)]) (sk := []) (h := (zw sc B S Z L ((zup (rS R) ((rN R)) a), (rE R), (rO R), (rF R), (rN R)) M)) (cs := 0) (ss := 0) (c_X5_put l (zw sc B S Z L ((zup (rS R) ((rN R)) a), (rE R), (rO R), (rF R), (rN R)) M) 16 12 (rE R) ((rN R)) b rfl (by decide) (by omega)) rfl trivial rfl ⟨Nat.le_refl _, Nat.le_refl _⟩ ?_
  rintro _ _ ⟨rfl, rfl⟩
  rw [zpt_in (by omega)]
  show V (36, [some (zR 15), some (zI a), some (zI b)], [], (zw sc B S Z L ((zup (rS R) ((rN R)) a), (zup (rE R) ((rN R)) b), (rO R), (rF R), (rN R)) M), 0, 0)
  exact z_re c 10 (v := some (zI ((((rN R) + 1) - 1)))) (h := (zw sc B S Z L ((zup (rS R) ((rN R)) a), (zup (rE R) ((rN R)) b), (rO R), (rF R), ((rN R) + 1)) M)) (cs := 0) (ss := 0) rfl trivial trivial ⟨Nat.le_refl _, Nat.le_refl _⟩ ⟨by congr 2; omega, rfl⟩
set_option maxRecDepth 4000 in
theorem c_X2_open (l : Launch) (sc : ZSc) (B : ZBk) (S Z : ZSg) (L : ZLn) (R : ZRd) (M : ZMd) (w o : Int) (hw : 0 ≤ w ∧ w < 12) (ho : o = 0 ∨ o = 1) : zMet l m_X2_open [zR 15, zI w, zI o] (zw sc B S Z L R M) (zI0 (zw sc B S Z L ((rS R), (rE R), (zup (rO R) w o), (rF R), (rN R)) M)) := by
  refine z_method g_X2_open [some (zR 15), some (zI w), some (zI o)] rfl rfl (fun V c => ?_)
  refine z_cS c 4 k_2_32 zv_X5_yes (pc := 9) (ls := [some (zR 15), some (zI w), some (zI o)]) (sk := [zI w, zR 18]) (h := (zw sc B S Z L R M)) (cs := 0) (ss := 0) (c_X5_yes l (zw sc B S Z L R M) o (by omega)) rfl trivial rfl ⟨Nat.le_refl _, Nat.le_refl _⟩ ?_
  rintro _ _ ⟨rfl, rfl⟩
  show V (9, [some (zR 15), some (zI w), some (zI o)], [zI o, zI w, zR 18], (zw sc B S Z L R M), 0, 0)
  refine z_cS c 0 k_2_28 zv_X5_put (pc := 12) (ls := [some (zR 15), some (zI w), some (zI o)]) (sk := []) (h := (zw sc B S Z L R M)) (cs := 0) (ss := 0) (c_X5_put l (zw sc B S Z L R M) 17 12 (rO R) w o rfl (by decide) (by omega)) rfl trivial rfl ⟨Nat.le_refl _, Nat.le_refl _⟩ ?_
  rintro _ _ ⟨rfl, rfl⟩
  rw [zpt_in (by omega)]
  show V (12, [some (zR 15), some (zI w), some (zI o)], [], (zw sc B S Z L ((rS R), (rE R), (zup (rO R) w o), (rF R), (rN R)) M), 0, 0)
  exact z_re c 0 (v := none) (h := (zw sc B S Z L ((rS R), (rE R), (zup (rO R) w o), (rF R), (rN R)) M)) (cs := 0) (ss := 0) rfl trivial trivial ⟨Nat.le_refl _, Nat.le_refl _⟩ ⟨rfl, rfl⟩
set_option maxRecDepth 4000 in
theorem c_X2_farOf (l : Launch) (sc : ZSc) (B : ZBk) (S Z : ZSg) (L : ZLn) (R : ZRd) (M : ZMd) (p : Int) (hp : 0 ≤ p ∧ p < 10) : zMet l m_X2_farOf [zR 15, zI p] (zw sc B S Z L R M) (zI1 (rF R p) (zw sc B S Z L R M)) := by
  refine z_method g_X2_farOf [some (zR 15), some (zI p)] rfl rfl (fun V c => ?_)
  refine z_cS c 3 k_2_42 zv_X5_at (pc := 8) (ls := [some (zR 15), some (zI p)]) (sk := []) (h := (zw sc B S Z L R M)) (cs := 0) (ss := 0) (c_X5_at l (zw sc B S Z L R M) 19 10 (rF R) p rfl (by decide) (by omega)) rfl trivial rfl ⟨Nat.le_refl _, Nat.le_refl _⟩ ?_
  rintro _ _ ⟨rfl, rfl⟩
  rw [zat_in (by omega)]
  show V (8, [some (zR 15), some (zI p)], [zI (((rF R) p))], (zw sc B S Z L R M), 0, 0)
  exact z_re c 0 (v := some (zI (((rF R) p)))) (h := (zw sc B S Z L R M)) (cs := 0) (ss := 0) rfl trivial trivial ⟨Nat.le_refl _, Nat.le_refl _⟩ ⟨rfl, rfl⟩
set_option maxRecDepth 4000 in
theorem c_X2_goOn (l : Launch) (sc : ZSc) (B : ZBk) (S Z : ZSg) (L : ZLn) (R : ZRd) (M : ZMd) (x t s : Int) (hF : zFr (rF R)) (hh : 0 ≤ x ∧ x < 10) (ht : 0 ≤ t ∧ t < 10) (hs : 1 ≤ s ∧ s ≤ 10) : zMet l m_X2_goOn [zR 15, zI x, zI t, zI s] (zw sc B S Z L R M) (zI0 (zw sc B S Z L ((rS R), (rE R), (rO R), (zgo (rF R) x t s), (rN R)) M)) := by
  refine z_method g_X2_goOn [some (zR 15), some (zI x), some (zI t), some (zI s)] rfl rfl (fun V c => ?_)
  refine z_cV c 2 k_2_50 zv_X2_farOf (pc := 5) (ls := [some (zR 15), some (zI x), some (zI t), some (zI s)]) (sk := []) (h := (zw sc B S Z L R M)) (cs := 0) (ss := 0) (c_X2_farOf l sc B S Z L R M x (by omega)) rfl trivial rfl rfl ⟨Nat.le_refl _, Nat.le_refl _⟩ ?_
  rintro _ _ ⟨rfl, rfl⟩
  have q2 := hF x (by omega) (by omega)
  show V (5, [some (zR 15), some (zI x), some (zI t), some (zI s)], [zI (((rF R) x))], (zw sc B S Z L R M), 0, 0)
  refine z_br c 3 (¬ ((rF R) x) = (s - 1)) (30, [some (zR 15), some (zI x), some (zI t), some (zI s)], [], (zw sc B S Z L R M), 0, 0) (11, [some (zR 15), some (zI x), some (zI t), some (zI s)], [], (zw sc B S Z L R M), 0, 0) rfl ⟨(show ((-2147483648 : Int) ≤ ((rF R) x) ∧ ((rF R) x) ≤ 2147483647) ∧ (-2147483648 : Int) ≤ (s - 1) ∧ (s - 1) ≤ 2147483647 by omega), trivial⟩ (fun h8 => ?_) (fun h8 => ?_)
  · exact z_re c 0 (v := none) (h := (zw sc B S Z L R M)) (cs := 0) (ss := 0) rfl trivial trivial ⟨Nat.le_refl _, Nat.le_refl _⟩ ⟨rfl, by unfold zgo; rw [if_neg (fun z => by have z1 := z.1; have z2 := z.2; omega)]⟩
  · refine z_cV c 2 k_2_50 zv_X2_farOf (pc := 16) (ls := [some (zR 15), some (zI x), some (zI t), some (zI s)]) (sk := []) (h := (zw sc B S Z L R M)) (cs := 0) (ss := 0) (c_X2_farOf l sc B S Z L R M t (by omega)) rfl trivial rfl rfl ⟨Nat.le_refl _, Nat.le_refl _⟩ ?_
    rintro _ _ ⟨rfl, rfl⟩
    have q13 := hF t (by omega) (by omega)
    show V (16, [some (zR 15), some (zI x), some (zI t), some (zI s)], [zI (((rF R) t))], (zw sc B S Z L R M), 0, 0)
    refine z_br c 1 (¬ ((rF R) t) = (-9)) (30, [some (zR 15), some (zI x), some (zI t), some (zI s)], [], (zw sc B S Z L R M), 0, 0) (21, [some (zR 15), some (zI x), some (zI t), some (zI s)], [], (zw sc B S Z L R M), 0, 0) rfl ⟨(show ((-2147483648 : Int) ≤ ((rF R) t) ∧ ((rF R) t) ≤ 2147483647) ∧ (-2147483648 : Int) ≤ (-9) ∧ (-9) ≤ 2147483647 by omega), trivial⟩ (fun h18 => ?_) (fun h18 => ?_)
    · exact z_re c 0 (v := none) (h := (zw sc B S Z L R M)) (cs := 0) (ss := 0) rfl trivial trivial ⟨Nat.le_refl _, Nat.le_refl _⟩ ⟨rfl, by unfold zgo; rw [if_neg (fun z => by have z1 := z.1; have z2 := z.2; omega)]⟩
    · refine z_cS c 4 k_2_28 zv_X5_put (pc := 30) (ls := [some (zR 15), some (zI x), some (zI t), some (zI s)]) (sk := []) (h := (zw sc B S Z L R M)) (cs := 0) (ss := 0) (c_X5_put l (zw sc B S Z L R M) 18 10 (rF R) t s rfl (by decide) (by omega)) rfl trivial rfl ⟨Nat.le_refl _, Nat.le_refl _⟩ ?_
      rintro _ _ ⟨rfl, rfl⟩
      rw [zpt_in (by omega)]
      show V (30, [some (zR 15), some (zI x), some (zI t), some (zI s)], [], (zw sc B S Z L ((rS R), (rE R), (rO R), (zup (rF R) t s), (rN R)) M), 0, 0)
      exact z_re c 0 (v := none) (h := (zw sc B S Z L ((rS R), (rE R), (rO R), (zup (rF R) t s), (rN R)) M)) (cs := 0) (ss := 0) rfl trivial trivial ⟨Nat.le_refl _, Nat.le_refl _⟩ ⟨rfl, by unfold zgo; rw [if_pos ⟨by omega, by omega⟩]⟩
def zm0 (F : Int → Int) (s : Int) : Int → Int := zup (zff F (-9) 10) s 0
theorem zm0_rng (F : Int → Int) (s : Int) : zFr (zm0 F s) := by
  intro p a b
  simp only [zm0, zup, zff]
  split
  · omega
  · rw [if_pos (by omega)]; omega
set_option maxRecDepth 4000 in
theorem c_X2_measureFrom (l : Launch) (sc : ZSc) (B : ZBk) (S Z : ZSg) (L : ZLn) (R : ZRd) (M : ZMd) (s : Int) (F0 : Int → Int) (hn : 0 ≤ rN R ∧ rN R ≤ 12) (hR : ∀ w, 0 ≤ w → w < rN R → (0 ≤ rS R w ∧ rS R w ≤ 9) ∧ (0 ≤ rE R w ∧ rE R w ≤ 9) ∧ ¬ rS R w = rE R w) (hO : zRo (rO R)) (hs : 0 ≤ s ∧ s < 10) (e0 : (zm0 (rF R) s) = F0) : zMet l m_X2_measureFrom [zR 15, zI s] (zw sc B S Z L R M) (zI0 (zw sc B S Z L ((rS R), (rE R), (rO R), (zgs (zop (rO R)) (rS R) (rE R) (rN R).toNat F0 9), (rN R)) M)) := by
  refine z_method g_X2_measureFrom [some (zR 15), some (zI s), none, none] rfl rfl (fun V c => ?_)
  refine z_cS c 3 k_2_36 zv_J7_fill_53178 (pc := 9) (ls := [some (zR 15), some (zI s), none, none]) (sk := []) (h := (zw sc B S Z L R M)) (cs := 0) (ss := 0) (c_fill l (zw sc B S Z L R M) 18 10 (rF R) ((-9)) rfl (by decide)) rfl trivial rfl ⟨Nat.le_refl _, Nat.le_refl _⟩ ?_
  rintro _ _ ⟨rfl, rfl⟩
  show V (9, [some (zR 15), some (zI s), none, none], [], (zw sc B S Z L ((rS R), (rE R), (rO R), (zff (rF R) ((-9)) 10), (rN R)) M), 0, 0)
  refine z_cS c 4 k_2_28 zv_X5_put (pc := 18) (ls := [some (zR 15), some (zI s), none, none]) (sk := []) (h := (zw sc B S Z L ((rS R), (rE R), (rO R), (zff (rF R) ((-9)) 10), (rN R)) M)) (cs := 0) (ss := 0) (c_X5_put l (zw sc B S Z L ((rS R), (rE R), (rO R), (zff (rF R) ((-9)) 10), (rN R)) M) 18 10 (zff (rF R) ((-9)) 10) s 0 rfl (by decide) (by omega)) rfl trivial rfl ⟨Nat.le_refl _, Nat.le_refl _⟩ ?_
  rintro _ _ ⟨rfl, rfl⟩
  rw [zpt_in (by omega)]
  have hF0 : zFr F0 := by rw [← e0]; exact zm0_rng _ _
  show V (18, [some (zR 15), some (zI s), none, none], [], (zw sc B S Z L ((rS R), (rE R), (rO R), (zm0 (rF R) s), (rN R)) M), 0, 0)
  rw [e0]
  show V (18, [some (zR 15), some (zI s), none, none], [], (zw sc B S Z L ((rS R), (rE R), (rO R), F0, (rN R)) M), 0, 0)
  refine z_go c 2 (s1 := (20, [some (zR 15), some (zI s), some (zI 1), none], [], (zw sc B S Z L ((rS R), (rE R), (rO R), F0, (rN R)) M), 0, 0)) rfl trivial ?_
  have loop : ∀ (x t : Nat) (x3 : Option ZV), 9 - t < x → t ≤ 9 → V (20, [some (zR 15), some (zI s), some (zI (((t : Int) + 1))), x3], [], (zw sc B S Z L ((rS R), (rE R), (rO R), (zgs (zop (rO R)) (rS R) (rE R) (rN R).toNat F0 t), (rN R)) M), 0, 0) := by
    intro x
    induction x with
    | zero => intro t x3 h1 h2; exfalso; omega
    | succ x ih =>
      intro t x3 ht1 ht2
      have hFt : zFr (zgs (zop (rO R)) (rS R) (rE R) (rN R).toNat F0 t) := zgs_rng hF0 t (by omega)
      refine z_br c 2 (10 ≤ ((t : Int) + 1)) (104, [some (zR 15), some (zI s), some (zI (((t : Int) + 1))), x3], [], (zw sc B S Z L ((rS R), (rE R), (rO R), (zgs (zop (rO R)) (rS R) (rE R) (rN R).toNat F0 t), (rN R)) M), 0, 0) (26, [some (zR 15), some (zI s), some (zI (((t : Int) + 1))), x3], [], (zw sc B S Z L ((rS R), (rE R), (rO R), (zgs (zop (rO R)) (rS R) (rE R) (rN R).toNat F0 t), (rN R)) M), 0, 0) rfl ⟨(show ((-2147483648 : Int) ≤ ((t : Int) + 1) ∧ ((t : Int) + 1) ≤ 2147483647) ∧ (-2147483648 : Int) ≤ 10 ∧ 10 ≤ 2147483647 by omega), trivial⟩ (fun h23 => ?_) (fun h23 => ?_)
      · obtain rfl : t = 9 := by omega
        exact z_re c 0 (v := none) (h := (zw sc B S Z L ((rS R), (rE R), (rO R), (zgs (zop (rO R)) (rS R) (rE R) (rN R).toNat F0 9), (rN R)) M)) (cs := 0) (ss := 0) rfl trivial trivial ⟨Nat.le_refl _, Nat.le_refl _⟩ ⟨rfl, rfl⟩
      · refine z_go c 2 (s1 := (28, [some (zR 15), some (zI s), some (zI (((t : Int) + 1))), some (zI 0)], [], (zw sc B S Z L ((rS R), (rE R), (rO R), (zgs (zop (rO R)) (rS R) (rE R) (rN R).toNat F0 t), (rN R)) M), 0, 0)) rfl trivial ?_
        have loop2 : ∀ (y m : Nat), rN R - (m : Int) < (y : Int) → (m : Int) ≤ rN R → V (28, [some (zR 15), some (zI s), some (zI (((t : Int) + 1))), some (zI ((m : Int)))], [], (zw sc B S Z L ((rS R), (rE R), (rO R), (zgw (zop (rO R)) (rS R) (rE R) ((t : Int) + 1) (zgs (zop (rO R)) (rS R) (rE R) (rN R).toNat F0 t) m), (rN R)) M), 0, 0) := by
          intro y
          induction y with
          | zero => intro m h1 h2; exfalso; omega
          | succ y ih2 =>
            intro m hm1 hm2
            have hFm : zFr (zgw (zop (rO R)) (rS R) (rE R) ((t : Int) + 1) (zgs (zop (rO R)) (rS R) (rE R) (rN R).toNat F0 t) m) := zgw_rng hFt (by omega) m
            have hstep : (zgw (zop (rO R)) (rS R) (rE R) ((t : Int) + 1) (zgs (zop (rO R)) (rS R) (rE R) (rN R).toNat F0 t) (m + 1)) = if (zop (rO R)) (m : Int) = true then zgo (zgo (zgw (zop (rO R)) (rS R) (rE R) ((t : Int) + 1) (zgs (zop (rO R)) (rS R) (rE R) (rN R).toNat F0 t) m) (rS R (m : Int)) (rE R (m : Int)) ((t : Int) + 1)) (rE R (m : Int)) (rS R (m : Int)) ((t : Int) + 1) else (zgw (zop (rO R)) (rS R) (rE R) ((t : Int) + 1) (zgs (zop (rO R)) (rS R) (rE R) (rN R).toNat F0 t) m) := rfl
            refine z_br c 3 ((rN R) ≤ (m : Int)) (98, [some (zR 15), some (zI s), some (zI (((t : Int) + 1))), some (zI ((m : Int)))], [], (zw sc B S Z L ((rS R), (rE R), (rO R), (zgw (zop (rO R)) (rS R) (rE R) ((t : Int) + 1) (zgs (zop (rO R)) (rS R) (rE R) (rN R).toNat F0 t) m), (rN R)) M), 0, 0) (36, [some (zR 15), some (zI s), some (zI (((t : Int) + 1))), some (zI ((m : Int)))], [], (zw sc B S Z L ((rS R), (rE R), (rO R), (zgw (zop (rO R)) (rS R) (rE R) ((t : Int) + 1) (zgs (zop (rO R)) (rS R) (rE R) (rN R).toNat F0 t) m), (rN R)) M), 0, 0) rfl ⟨(show ((-2147483648 : Int) ≤ (m : Int) ∧ (m : Int) ≤ 2147483647) ∧ (-2147483648 : Int) ≤ (rN R) ∧ (rN R) ≤ 2147483647 by omega), trivial⟩ (fun h33 => ?_) (fun h33 => ?_)
            · obtain rfl : m = (rN R).toNat := by omega
              have h9 := ih (t + 1) (some (zI ((rN R).toNat : Int))) (by omega) (by omega)
              exact z_go c 2 (s1 := (20, [some (zR 15), some (zI s), some (zI (((t : Int) + 1 + 1))), some (zI (((rN R).toNat : Int)))], [], (zw sc B S Z L ((rS R), (rE R), (rO R), (zgw (zop (rO R)) (rS R) (rE R) ((t : Int) + 1) (zgs (zop (rO R)) (rS R) (rE R) (rN R).toNat F0 t) (rN R).toNat), (rN R)) M), 0, 0)) rfl trivial h9
            · have hom := hO (m : Int) (by omega) (by omega)
              obtain ⟨ha, hb, -⟩ := hR (m : Int) (by omega) (by omega)
              refine z_cS c 3 k_2_42 zv_X5_at (pc := 44) (ls := [some (zR 15), some (zI s), some (zI (((t : Int) + 1))), some (zI ((m : Int)))]) (sk := []) (h := (zw sc B S Z L ((rS R), (rE R), (rO R), (zgw (zop (rO R)) (rS R) (rE R) ((t : Int) + 1) (zgs (zop (rO R)) (rS R) (rE R) (rN R).toNat F0 t) m), (rN R)) M)) (cs := 0) (ss := 0) (c_X5_at l (zw sc B S Z L ((rS R), (rE R), (rO R), (zgw (zop (rO R)) (rS R) (rE R) ((t : Int) + 1) (zgs (zop (rO R)) (rS R) (rE R) (rN R).toNat F0 t) m), (rN R)) M) 18 12 (rO R) ((m : Int)) rfl (by decide) (by omega)) rfl trivial rfl ⟨Nat.le_refl _, Nat.le_refl _⟩ ?_
              rintro _ _ ⟨rfl, rfl⟩
              rw [zat_in (by omega)]
              show V (44, [some (zR 15), some (zI s), some (zI (((t : Int) + 1))), some (zI ((m : Int)))], [zI (((rO R) ((m : Int))))], (zw sc B S Z L ((rS R), (rE R), (rO R), (zgw (zop (rO R)) (rS R) (rE R) ((t : Int) + 1) (zgs (zop (rO R)) (rS R) (rE R) (rN R).toNat F0 t) m), (rN R)) M), 0, 0)
              refine z_br c 0 (¬ ((rO R) ((m : Int))) = 0) (50, [some (zR 15), some (zI s), some (zI (((t : Int) + 1))), some (zI ((m : Int)))], [], (zw sc B S Z L ((rS R), (rE R), (rO R), (zgw (zop (rO R)) (rS R) (rE R) ((t : Int) + 1) (zgs (zop (rO R)) (rS R) (rE R) (rN R).toNat F0 t) m), (rN R)) M), 0, 0) (47, [some (zR 15), some (zI s), some (zI (((t : Int) + 1))), some (zI ((m : Int)))], [], (zw sc B S Z L ((rS R), (rE R), (rO R), (zgw (zop (rO R)) (rS R) (rE R) ((t : Int) + 1) (zgs (zop (rO R)) (rS R) (rE R) (rN R).toNat F0 t) m), (rN R)) M), 0, 0) rfl ⟨(show (-2147483648 : Int) ≤ ((rO R) ((m : Int))) ∧ ((rO R) ((m : Int))) ≤ 2147483647 by omega), trivial⟩ (fun h44 => ?_) (fun h44 => ?_)
              · refine z_cS c 4 k_2_42 zv_X5_at (pc := 59) (ls := [some (zR 15), some (zI s), some (zI (((t : Int) + 1))), some (zI ((m : Int)))]) (sk := [zR 15]) (h := (zw sc B S Z L ((rS R), (rE R), (rO R), (zgw (zop (rO R)) (rS R) (rE R) ((t : Int) + 1) (zgs (zop (rO R)) (rS R) (rE R) (rN R).toNat F0 t) m), (rN R)) M)) (cs := 0) (ss := 0) (c_X5_at l (zw sc B S Z L ((rS R), (rE R), (rO R), (zgw (zop (rO R)) (rS R) (rE R) ((t : Int) + 1) (zgs (zop (rO R)) (rS R) (rE R) (rN R).toNat F0 t) m), (rN R)) M) 16 12 (rS R) ((m : Int)) rfl (by decide) (by omega)) rfl trivial rfl ⟨Nat.le_refl _, Nat.le_refl _⟩ ?_
                rintro _ _ ⟨rfl, rfl⟩
                rw [zat_in (by omega)]
                show V (59, [some (zR 15), some (zI s), some (zI (((t : Int) + 1))), some (zI ((m : Int)))], [zI (((rS R) ((m : Int)))), zR 15], (zw sc B S Z L ((rS R), (rE R), (rO R), (zgw (zop (rO R)) (rS R) (rE R) ((t : Int) + 1) (zgs (zop (rO R)) (rS R) (rE R) (rN R).toNat F0 t) m), (rN R)) M), 0, 0)
                refine z_cS c 3 k_2_42 zv_X5_at (pc := 67) (ls := [some (zR 15), some (zI s), some (zI (((t : Int) + 1))), some (zI ((m : Int)))]) (sk := [zI (((rS R) ((m : Int)))), zR 15]) (h := (zw sc B S Z L ((rS R), (rE R), (rO R), (zgw (zop (rO R)) (rS R) (rE R) ((t : Int) + 1) (zgs (zop (rO R)) (rS R) (rE R) (rN R).toNat F0 t) m), (rN R)) M)) (cs := 0) (ss := 0) (c_X5_at l (zw sc B S Z L ((rS R), (rE R), (rO R), (zgw (zop (rO R)) (rS R) (rE R) ((t : Int) + 1) (zgs (zop (rO R)) (rS R) (rE R) (rN R).toNat F0 t) m), (rN R)) M) 17 12 (rE R) ((m : Int)) rfl (by decide) (by omega)) rfl trivial rfl ⟨Nat.le_refl _, Nat.le_refl _⟩ ?_
                rintro _ _ ⟨rfl, rfl⟩
                rw [zat_in (by omega)]
                show V (67, [some (zR 15), some (zI s), some (zI (((t : Int) + 1))), some (zI ((m : Int)))], [zI (((rE R) ((m : Int)))), zI (((rS R) ((m : Int)))), zR 15], (zw sc B S Z L ((rS R), (rE R), (rO R), (zgw (zop (rO R)) (rS R) (rE R) ((t : Int) + 1) (zgs (zop (rO R)) (rS R) (rE R) (rN R).toNat F0 t) m), (rN R)) M), 0, 0)
                refine z_cV c 1 k_2_46 zv_X2_goOn (pc := 71) (ls := [some (zR 15), some (zI s), some (zI (((t : Int) + 1))), some (zI ((m : Int)))]) (sk := []) (h := (zw sc B S Z L ((rS R), (rE R), (rO R), (zgw (zop (rO R)) (rS R) (rE R) ((t : Int) + 1) (zgs (zop (rO R)) (rS R) (rE R) (rN R).toNat F0 t) m), (rN R)) M)) (cs := 0) (ss := 0) (c_X2_goOn l sc B S Z L ((rS R), (rE R), (rO R), (zgw (zop (rO R)) (rS R) (rE R) ((t : Int) + 1) (zgs (zop (rO R)) (rS R) (rE R) (rN R).toNat F0 t) m), (rN R)) M (((rS R) ((m : Int)))) (((rE R) ((m : Int)))) (((t : Int) + 1)) hFm (by omega) (by omega) (by omega)) rfl trivial rfl rfl ⟨Nat.le_refl _, Nat.le_refl _⟩ ?_
                rintro _ _ ⟨rfl, rfl⟩
                show V (71, [some (zR 15), some (zI s), some (zI (((t : Int) + 1))), some (zI ((m : Int)))], [], (zw sc B S Z L ((rS R), (rE R), (rO R), (zgo (zgw (zop (rO R)) (rS R) (rE R) ((t : Int) + 1) (zgs (zop (rO R)) (rS R) (rE R) (rN R).toNat F0 t) m) (((rS R) ((m : Int)))) (((rE R) ((m : Int)))) (((t : Int) + 1))), (rN R)) M), 0, 0)
                refine z_cS c 4 k_2_42 zv_X5_at (pc := 80) (ls := [some (zR 15), some (zI s), some (zI (((t : Int) + 1))), some (zI ((m : Int)))]) (sk := [zR 15]) (h := (zw sc B S Z L ((rS R), (rE R), (rO R), (zgo (zgw (zop (rO R)) (rS R) (rE R) ((t : Int) + 1) (zgs (zop (rO R)) (rS R) (rE R) (rN R).toNat F0 t) m) (((rS R) ((m : Int)))) (((rE R) ((m : Int)))) (((t : Int) + 1))), (rN R)) M)) (cs := 0) (ss := 0) (c_X5_at l (zw sc B S Z L ((rS R), (rE R), (rO R), (zgo (zgw (zop (rO R)) (rS R) (rE R) ((t : Int) + 1) (zgs (zop (rO R)) (rS R) (rE R) (rN R).toNat F0 t) m) (((rS R) ((m : Int)))) (((rE R) ((m : Int)))) (((t : Int) + 1))), (rN R)) M) 17 12 (rE R) ((m : Int)) rfl (by decide) (by omega)) rfl trivial rfl ⟨Nat.le_refl _, Nat.le_refl _⟩ ?_
                rintro _ _ ⟨rfl, rfl⟩
                rw [zat_in (by omega)]
                show V (80, [some (zR 15), some (zI s), some (zI (((t : Int) + 1))), some (zI ((m : Int)))], [zI (((rE R) ((m : Int)))), zR 15], (zw sc B S Z L ((rS R), (rE R), (rO R), (zgo (zgw (zop (rO R)) (rS R) (rE R) ((t : Int) + 1) (zgs (zop (rO R)) (rS R) (rE R) (rN R).toNat F0 t) m) (((rS R) ((m : Int)))) (((rE R) ((m : Int)))) (((t : Int) + 1))), (rN R)) M), 0, 0)
                refine z_cS c 3 k_2_42 zv_X5_at (pc := 88) (ls := [some (zR 15), some (zI s), some (zI (((t : Int) + 1))), some (zI ((m : Int)))]) (sk := [zI (((rE R) ((m : Int)))), zR 15]) (h := (zw sc B S Z L ((rS R), (rE R), (rO R), (zgo (zgw (zop (rO R)) (rS R) (rE R) ((t : Int) + 1) (zgs (zop (rO R)) (rS R) (rE R) (rN R).toNat F0 t) m) (((rS R) ((m : Int)))) (((rE R) ((m : Int)))) (((t : Int) + 1))), (rN R)) M)) (cs := 0) (ss := 0) (c_X5_at l (zw sc B S Z L ((rS R), (rE R), (rO R), (zgo (zgw (zop (rO R)) (rS R) (rE R) ((t : Int) + 1) (zgs (zop (rO R)) (rS R) (rE R) (rN R).toNat F0 t) m) (((rS R) ((m : Int)))) (((rE R) ((m : Int)))) (((t : Int) + 1))), (rN R)) M) 16 12 (rS R) ((m : Int)) rfl (by decide) (by omega)) rfl trivial rfl ⟨Nat.le_refl _, Nat.le_refl _⟩ ?_
                rintro _ _ ⟨rfl, rfl⟩
                rw [zat_in (by omega)]
                show V (88, [some (zR 15), some (zI s), some (zI (((t : Int) + 1))), some (zI ((m : Int)))], [zI (((rS R) ((m : Int)))), zI (((rE R) ((m : Int)))), zR 15], (zw sc B S Z L ((rS R), (rE R), (rO R), (zgo (zgw (zop (rO R)) (rS R) (rE R) ((t : Int) + 1) (zgs (zop (rO R)) (rS R) (rE R) (rN R).toNat F0 t) m) (((rS R) ((m : Int)))) (((rE R) ((m : Int)))) (((t : Int) + 1))), (rN R)) M), 0, 0)
                refine z_cV c 1 k_2_46 zv_X2_goOn (pc := 92) (ls := [some (zR 15), some (zI s), some (zI (((t : Int) + 1))), some (zI ((m : Int)))]) (sk := []) (h := (zw sc B S Z L ((rS R), (rE R), (rO R), (zgo (zgw (zop (rO R)) (rS R) (rE R) ((t : Int) + 1) (zgs (zop (rO R)) (rS R) (rE R) (rN R).toNat F0 t) m) (((rS R) ((m : Int)))) (((rE R) ((m : Int)))) (((t : Int) + 1))), (rN R)) M)) (cs := 0) (ss := 0) (c_X2_goOn l sc B S Z L ((rS R), (rE R), (rO R), (zgo (zgw (zop (rO R)) (rS R) (rE R) ((t : Int) + 1) (zgs (zop (rO R)) (rS R) (rE R) (rN R).toNat F0 t) m) (((rS R) ((m : Int)))) (((rE R) ((m : Int)))) (((t : Int) + 1))), (rN R)) M (((rE R) ((m : Int)))) (((rS R) ((m : Int)))) (((t : Int) + 1)) (zgo_rng hFm (by omega)) (by omega) (by omega) (by omega)) rfl trivial rfl rfl ⟨Nat.le_refl _, Nat.le_refl _⟩ ?_
                rintro _ _ ⟨rfl, rfl⟩
                show V (92, [some (zR 15), some (zI s), some (zI (((t : Int) + 1))), some (zI ((m : Int)))], [], (zw sc B S Z L ((rS R), (rE R), (rO R), (zgo (zgo (zgw (zop (rO R)) (rS R) (rE R) ((t : Int) + 1) (zgs (zop (rO R)) (rS R) (rE R) (rN R).toNat F0 t) m) (((rS R) ((m : Int)))) (((rE R) ((m : Int)))) (((t : Int) + 1))) (((rE R) ((m : Int)))) (((rS R) ((m : Int)))) (((t : Int) + 1))), (rN R)) M), 0, 0)
                rw [if_pos (by simp only [zop]; simp; omega)] at hstep
                have h9 := ih2 (m + 1) (by omega) (by omega)
                rw [hstep] at h9
                exact z_go c 2 (s1 := (28, [some (zR 15), some (zI s), some (zI (((t : Int) + 1))), some (zI (((m : Int) + 1)))], [], (zw sc B S Z L ((rS R), (rE R), (rO R), (zgo (zgo (zgw (zop (rO R)) (rS R) (rE R) ((t : Int) + 1) (zgs (zop (rO R)) (rS R) (rE R) (rN R).toNat F0 t) m) (((rS R) ((m : Int)))) (((rE R) ((m : Int)))) (((t : Int) + 1))) (((rE R) ((m : Int)))) (((rS R) ((m : Int)))) (((t : Int) + 1))), (rN R)) M), 0, 0)) rfl trivial h9
              · refine z_go c 1 (s1 := (92, [some (zR 15), some (zI s), some (zI (((t : Int) + 1))), some (zI ((m : Int)))], [], (zw sc B S Z L ((rS R), (rE R), (rO R), (zgw (zop (rO R)) (rS R) (rE R) ((t : Int) + 1) (zgs (zop (rO R)) (rS R) (rE R) (rN R).toNat F0 t) m), (rN R)) M), 0, 0)) rfl trivial ?_
                rw [if_neg (by simp only [zop]; simp; omega)] at hstep
                have h9 := ih2 (m + 1) (by omega) (by omega)
                rw [hstep] at h9
                exact z_go c 2 (s1 := (28, [some (zR 15), some (zI s), some (zI (((t : Int) + 1))), some (zI (((m : Int) + 1)))], [], (zw sc B S Z L ((rS R), (rE R), (rO R), (zgw (zop (rO R)) (rS R) (rE R) ((t : Int) + 1) (zgs (zop (rO R)) (rS R) (rE R) (rN R).toNat F0 t) m), (rN R)) M), 0, 0)) rfl trivial h9
        exact loop2 13 0 (by omega) (by omega)
  have h9 := loop 10 0 none (by omega) (by omega)
  exact h9
set_option maxRecDepth 4000 in
theorem c_X2_wayNearer (l : Launch) (sc : ZSc) (B : ZBk) (S Z : ZSg) (L : ZLn) (R : ZRd) (M : ZMd) (p : Int) (hn : 0 ≤ rN R ∧ rN R ≤ 12) (hR : ∀ w, 0 ≤ w → w < rN R → (0 ≤ rS R w ∧ rS R w ≤ 9) ∧ (0 ≤ rE R w ∧ rE R w ≤ 9) ∧ ¬ rS R w = rE R w) (hO : zRo (rO R)) (hF : zFr (rF R)) (hp : 0 ≤ p ∧ p < 10) : zMet l m_X2_wayNearer [zR 15, zI p] (zw sc B S Z L R M) (zI1 (if rF R p - 1 < 0 then -9 else zmn (znr (zop (rO R)) (rS R) (rE R) (rF R) p) 0 (rN R).toNat) (zw sc B S Z L R M)) := by
  refine z_method g_X2_wayNearer [some (zR 15), some (zI p), none, none] rfl rfl (fun V c => ?_)
  refine z_cV c 2 k_2_50 zv_X2_farOf (pc := 5) (ls := [some (zR 15), some (zI p), none, none]) (sk := []) (h := (zw sc B S Z L R M)) (cs := 0) (ss := 0) (c_X2_farOf l sc B S Z L R M p (by omega)) rfl trivial rfl rfl ⟨Nat.le_refl _, Nat.le_refl _⟩ ?_
  rintro _ _ ⟨rfl, rfl⟩
  have q2 := hF p (by omega) (by omega)
  show V (5, [some (zR 15), some (zI p), none, none], [zI (((rF R) p))], (zw sc B S Z L R M), 0, 0)
  refine z_br c 4 (0 ≤ (((rF R) p) - 1)) (15, [some (zR 15), some (zI p), some (zI ((((rF R) p) - 1))), none], [], (zw sc B S Z L R M), 0, 0) (12, [some (zR 15), some (zI p), some (zI ((((rF R) p) - 1))), none], [], (zw sc B S Z L R M), 0, 0) rfl ⟨(show (-2147483648 : Int) ≤ (((rF R) p) - 1) ∧ (((rF R) p) - 1) ≤ 2147483647 by omega), trivial⟩ (fun h9 => ?_) (fun h9 => ?_)
  · refine z_go c 2 (s1 := (17, [some (zR 15), some (zI p), some (zI ((((rF R) p) - 1))), some (zI 0)], [], (zw sc B S Z L R M), 0, 0)) rfl trivial ?_
    have loop : ∀ (x m : Nat), rN R - (m : Int) < (x : Int) → (m : Int) ≤ rN R → zmn (znr (zop (rO R)) (rS R) (rE R) (rF R) p) 0 (rN R).toNat = zmn (znr (zop (rO R)) (rS R) (rE R) (rF R) p) (m : Int) ((rN R).toNat - m) → V (17, [some (zR 15), some (zI p), some (zI ((((rF R) p) - 1))), some (zI ((m : Int)))], [], (zw sc B S Z L R M), 0, 0) := by
      intro x
      induction x with
      | zero => intro m h1 h2; exfalso; omega
      | succ x ih =>
        intro m hm1 hm2 hz
        refine z_br c 3 ((rN R) ≤ (m : Int)) (105, [some (zR 15), some (zI p), some (zI ((((rF R) p) - 1))), some (zI ((m : Int)))], [], (zw sc B S Z L R M), 0, 0) (25, [some (zR 15), some (zI p), some (zI ((((rF R) p) - 1))), some (zI ((m : Int)))], [], (zw sc B S Z L R M), 0, 0) rfl ⟨(show ((-2147483648 : Int) ≤ (m : Int) ∧ (m : Int) ≤ 2147483647) ∧ (-2147483648 : Int) ≤ (rN R) ∧ (rN R) ≤ 2147483647 by omega), trivial⟩ (fun h22 => ?_) (fun h22 => ?_)
        · exact z_re c 1 (v := some (zI ((-9)))) (h := (zw sc B S Z L R M)) (cs := 0) (ss := 0) rfl trivial trivial ⟨Nat.le_refl _, Nat.le_refl _⟩ ⟨by rw [if_neg (by omega), hz, show (rN R).toNat - m = 0 by omega]; rfl, rfl⟩
        · have hom := hO (m : Int) (by omega) (by omega)
          obtain ⟨ha, hb, hab⟩ := hR (m : Int) (by omega) (by omega)
          have hz2 : zmn (znr (zop (rO R)) (rS R) (rE R) (rF R) p) (m : Int) ((rN R).toNat - m) = if (znr (zop (rO R)) (rS R) (rE R) (rF R) p) (m : Int) = true then (m : Int) else zmn (znr (zop (rO R)) (rS R) (rE R) (rF R) p) ((m : Int) + 1) ((rN R).toNat - (m + 1)) := by
            rw [show (rN R).toNat - m = ((rN R).toNat - (m + 1)) + 1 by omega]; rfl
          have hnr : (znr (zop (rO R)) (rS R) (rE R) (rF R) p) (m : Int) = true ↔ ¬ rO R (m : Int) = 0 ∧ ((rS R (m : Int) = p ∧ rF R (rE R (m : Int)) = rF R p - 1) ∨ (rE R (m : Int) = p ∧ rF R (rS R (m : Int)) = rF R p - 1)) := by
            simp only [znr, zop]; simp
          refine z_cS c 3 k_2_42 zv_X5_at (pc := 33) (ls := [some (zR 15), some (zI p), some (zI ((((rF R) p) - 1))), some (zI ((m : Int)))]) (sk := []) (h := (zw sc B S Z L R M)) (cs := 0) (ss := 0) (c_X5_at l (zw sc B S Z L R M) 18 12 (rO R) ((m : Int)) rfl (by decide) (by omega)) rfl trivial rfl ⟨Nat.le_refl _, Nat.le_refl _⟩ ?_
          rintro _ _ ⟨rfl, rfl⟩
          rw [zat_in (by omega)]
          show V (33, [some (zR 15), some (zI p), some (zI ((((rF R) p) - 1))), some (zI ((m : Int)))], [zI (((rO R) ((m : Int))))], (zw sc B S Z L R M), 0, 0)
          refine z_br c 0 (¬ ((rO R) ((m : Int))) = 0) (39, [some (zR 15), some (zI p), some (zI ((((rF R) p) - 1))), some (zI ((m : Int)))], [], (zw sc B S Z L R M), 0, 0) (36, [some (zR 15), some (zI p), some (zI ((((rF R) p) - 1))), some (zI ((m : Int)))], [], (zw sc B S Z L R M), 0, 0) rfl ⟨(show (-2147483648 : Int) ≤ ((rO R) ((m : Int))) ∧ ((rO R) ((m : Int))) ≤ 2147483647 by omega), trivial⟩ (fun h33 => ?_) (fun h33 => ?_)
          · refine z_cS c 3 k_2_42 zv_X5_at (pc := 47) (ls := [some (zR 15), some (zI p), some (zI ((((rF R) p) - 1))), some (zI ((m : Int)))]) (sk := []) (h := (zw sc B S Z L R M)) (cs := 0) (ss := 0) (c_X5_at l (zw sc B S Z L R M) 16 12 (rS R) ((m : Int)) rfl (by decide) (by omega)) rfl trivial rfl ⟨Nat.le_refl _, Nat.le_refl _⟩ ?_
            rintro _ _ ⟨rfl, rfl⟩
            rw [zat_in (by omega)]
            show V (47, [some (zR 15), some (zI p), some (zI ((((rF R) p) - 1))), some (zI ((m : Int)))], [zI (((rS R) ((m : Int))))], (zw sc B S Z L R M), 0, 0)
            refine z_br c 1 (¬ ((rS R) ((m : Int))) = p) (69, [some (zR 15), some (zI p), some (zI ((((rF R) p) - 1))), some (zI ((m : Int)))], [], (zw sc B S Z L R M), 0, 0) (51, [some (zR 15), some (zI p), some (zI ((((rF R) p) - 1))), some (zI ((m : Int)))], [], (zw sc B S Z L R M), 0, 0) rfl ⟨(show ((-2147483648 : Int) ≤ ((rS R) ((m : Int))) ∧ ((rS R) ((m : Int))) ≤ 2147483647) ∧ (-2147483648 : Int) ≤ p ∧ p ≤ 2147483647 by omega), trivial⟩ (fun h48 => ?_) (fun h48 => ?_)
            · refine z_cS c 3 k_2_42 zv_X5_at (pc := 77) (ls := [some (zR 15), some (zI p), some (zI ((((rF R) p) - 1))), some (zI ((m : Int)))]) (sk := []) (h := (zw sc B S Z L R M)) (cs := 0) (ss := 0) (c_X5_at l (zw sc B S Z L R M) 17 12 (rE R) ((m : Int)) rfl (by decide) (by omega)) rfl trivial rfl ⟨Nat.le_refl _, Nat.le_refl _⟩ ?_
              rintro _ _ ⟨rfl, rfl⟩
              rw [zat_in (by omega)]
              show V (77, [some (zR 15), some (zI p), some (zI ((((rF R) p) - 1))), some (zI ((m : Int)))], [zI (((rE R) ((m : Int))))], (zw sc B S Z L R M), 0, 0)
              refine z_br c 1 (¬ ((rE R) ((m : Int))) = p) (99, [some (zR 15), some (zI p), some (zI ((((rF R) p) - 1))), some (zI ((m : Int)))], [], (zw sc B S Z L R M), 0, 0) (81, [some (zR 15), some (zI p), some (zI ((((rF R) p) - 1))), some (zI ((m : Int)))], [], (zw sc B S Z L R M), 0, 0) rfl ⟨(show ((-2147483648 : Int) ≤ ((rE R) ((m : Int))) ∧ ((rE R) ((m : Int))) ≤ 2147483647) ∧ (-2147483648 : Int) ≤ p ∧ p ≤ 2147483647 by omega), trivial⟩ (fun h78 => ?_) (fun h78 => ?_)
              · have hno : ¬ (znr (zop (rO R)) (rS R) (rE R) (rF R) p) (m : Int) = true := fun z => by have z1 := hnr.mp z; omega
                rw [if_neg hno] at hz2
                exact z_go c 2 (s1 := (17, [some (zR 15), some (zI p), some (zI ((((rF R) p) - 1))), some (zI (((m : Int) + 1)))], [], (zw sc B S Z L R M), 0, 0)) rfl trivial (ih (m + 1) (by omega) (by omega) (hz.trans hz2))
              · refine z_cS c 4 k_2_42 zv_X5_at (pc := 90) (ls := [some (zR 15), some (zI p), some (zI ((((rF R) p) - 1))), some (zI ((m : Int)))]) (sk := [zR 15]) (h := (zw sc B S Z L R M)) (cs := 0) (ss := 0) (c_X5_at l (zw sc B S Z L R M) 16 12 (rS R) ((m : Int)) rfl (by decide) (by omega)) rfl trivial rfl ⟨Nat.le_refl _, Nat.le_refl _⟩ ?_
                rintro _ _ ⟨rfl, rfl⟩
                rw [zat_in (by omega)]
                show V (90, [some (zR 15), some (zI p), some (zI ((((rF R) p) - 1))), some (zI ((m : Int)))], [zI (((rS R) ((m : Int)))), zR 15], (zw sc B S Z L R M), 0, 0)
                refine z_cV c 0 k_2_50 zv_X2_farOf (pc := 93) (ls := [some (zR 15), some (zI p), some (zI ((((rF R) p) - 1))), some (zI ((m : Int)))]) (sk := []) (h := (zw sc B S Z L R M)) (cs := 0) (ss := 0) (c_X2_farOf l sc B S Z L R M (((rS R) ((m : Int)))) (by omega)) rfl trivial rfl rfl ⟨Nat.le_refl _, Nat.le_refl _⟩ ?_
                rintro _ _ ⟨rfl, rfl⟩
                have q90 := hF (((rS R) ((m : Int)))) (by omega) (by omega)
                show V (93, [some (zR 15), some (zI p), some (zI ((((rF R) p) - 1))), some (zI ((m : Int)))], [zI (((rF R) (((rS R) ((m : Int))))))], (zw sc B S Z L R M), 0, 0)
                refine z_br c 1 (¬ ((rF R) (((rS R) ((m : Int))))) = (((rF R) p) - 1)) (99, [some (zR 15), some (zI p), some (zI ((((rF R) p) - 1))), some (zI ((m : Int)))], [], (zw sc B S Z L R M), 0, 0) (97, [some (zR 15), some (zI p), some (zI ((((rF R) p) - 1))), some (zI ((m : Int)))], [], (zw sc B S Z L R M), 0, 0) rfl ⟨(show ((-2147483648 : Int) ≤ ((rF R) (((rS R) ((m : Int))))) ∧ ((rF R) (((rS R) ((m : Int))))) ≤ 2147483647) ∧ (-2147483648 : Int) ≤ (((rF R) p) - 1) ∧ (((rF R) p) - 1) ≤ 2147483647 by omega), trivial⟩ (fun h94 => ?_) (fun h94 => ?_)
                · have hno : ¬ (znr (zop (rO R)) (rS R) (rE R) (rF R) p) (m : Int) = true := fun z => by have z1 := hnr.mp z; omega
                  rw [if_neg hno] at hz2
                  exact z_go c 2 (s1 := (17, [some (zR 15), some (zI p), some (zI ((((rF R) p) - 1))), some (zI (((m : Int) + 1)))], [], (zw sc B S Z L R M), 0, 0)) rfl trivial (ih (m + 1) (by omega) (by omega) (hz.trans hz2))
                · exact z_re c 1 (v := some (zI ((m : Int)))) (h := (zw sc B S Z L R M)) (cs := 0) (ss := 0) rfl trivial trivial ⟨Nat.le_refl _, Nat.le_refl _⟩ ⟨by rw [if_neg (by omega), hz, hz2, if_pos (hnr.mpr (by omega))], rfl⟩
            · refine z_cS c 4 k_2_42 zv_X5_at (pc := 60) (ls := [some (zR 15), some (zI p), some (zI ((((rF R) p) - 1))), some (zI ((m : Int)))]) (sk := [zR 15]) (h := (zw sc B S Z L R M)) (cs := 0) (ss := 0) (c_X5_at l (zw sc B S Z L R M) 17 12 (rE R) ((m : Int)) rfl (by decide) (by omega)) rfl trivial rfl ⟨Nat.le_refl _, Nat.le_refl _⟩ ?_
              rintro _ _ ⟨rfl, rfl⟩
              rw [zat_in (by omega)]
              show V (60, [some (zR 15), some (zI p), some (zI ((((rF R) p) - 1))), some (zI ((m : Int)))], [zI (((rE R) ((m : Int)))), zR 15], (zw sc B S Z L R M), 0, 0)
              refine z_cV c 0 k_2_50 zv_X2_farOf (pc := 63) (ls := [some (zR 15), some (zI p), some (zI ((((rF R) p) - 1))), some (zI ((m : Int)))]) (sk := []) (h := (zw sc B S Z L R M)) (cs := 0) (ss := 0) (c_X2_farOf l sc B S Z L R M (((rE R) ((m : Int)))) (by omega)) rfl trivial rfl rfl ⟨Nat.le_refl _, Nat.le_refl _⟩ ?_
              rintro _ _ ⟨rfl, rfl⟩
              have q60 := hF (((rE R) ((m : Int)))) (by omega) (by omega)
              show V (63, [some (zR 15), some (zI p), some (zI ((((rF R) p) - 1))), some (zI ((m : Int)))], [zI (((rF R) (((rE R) ((m : Int))))))], (zw sc B S Z L R M), 0, 0)
              refine z_br c 1 (¬ ((rF R) (((rE R) ((m : Int))))) = (((rF R) p) - 1)) (69, [some (zR 15), some (zI p), some (zI ((((rF R) p) - 1))), some (zI ((m : Int)))], [], (zw sc B S Z L R M), 0, 0) (67, [some (zR 15), some (zI p), some (zI ((((rF R) p) - 1))), some (zI ((m : Int)))], [], (zw sc B S Z L R M), 0, 0) rfl ⟨(show ((-2147483648 : Int) ≤ ((rF R) (((rE R) ((m : Int))))) ∧ ((rF R) (((rE R) ((m : Int))))) ≤ 2147483647) ∧ (-2147483648 : Int) ≤ (((rF R) p) - 1) ∧ (((rF R) p) - 1) ≤ 2147483647 by omega), trivial⟩ (fun h64 => ?_) (fun h64 => ?_)
              · refine z_cS c 3 k_2_42 zv_X5_at (pc := 77) (ls := [some (zR 15), some (zI p), some (zI ((((rF R) p) - 1))), some (zI ((m : Int)))]) (sk := []) (h := (zw sc B S Z L R M)) (cs := 0) (ss := 0) (c_X5_at l (zw sc B S Z L R M) 17 12 (rE R) ((m : Int)) rfl (by decide) (by omega)) rfl trivial rfl ⟨Nat.le_refl _, Nat.le_refl _⟩ ?_
                rintro _ _ ⟨rfl, rfl⟩
                rw [zat_in (by omega)]
                show V (77, [some (zR 15), some (zI p), some (zI ((((rF R) p) - 1))), some (zI ((m : Int)))], [zI (((rE R) ((m : Int))))], (zw sc B S Z L R M), 0, 0)
                refine z_br c 1 (¬ ((rE R) ((m : Int))) = p) (99, [some (zR 15), some (zI p), some (zI ((((rF R) p) - 1))), some (zI ((m : Int)))], [], (zw sc B S Z L R M), 0, 0) (81, [some (zR 15), some (zI p), some (zI ((((rF R) p) - 1))), some (zI ((m : Int)))], [], (zw sc B S Z L R M), 0, 0) rfl ⟨(show ((-2147483648 : Int) ≤ ((rE R) ((m : Int))) ∧ ((rE R) ((m : Int))) ≤ 2147483647) ∧ (-2147483648 : Int) ≤ p ∧ p ≤ 2147483647 by omega), trivial⟩ (fun h78 => ?_) (fun h78 => ?_)
                · have hno : ¬ (znr (zop (rO R)) (rS R) (rE R) (rF R) p) (m : Int) = true := fun z => by have z1 := hnr.mp z; omega
                  rw [if_neg hno] at hz2
                  exact z_go c 2 (s1 := (17, [some (zR 15), some (zI p), some (zI ((((rF R) p) - 1))), some (zI (((m : Int) + 1)))], [], (zw sc B S Z L R M), 0, 0)) rfl trivial (ih (m + 1) (by omega) (by omega) (hz.trans hz2))
                · refine z_cS c 4 k_2_42 zv_X5_at (pc := 90) (ls := [some (zR 15), some (zI p), some (zI ((((rF R) p) - 1))), some (zI ((m : Int)))]) (sk := [zR 15]) (h := (zw sc B S Z L R M)) (cs := 0) (ss := 0) (c_X5_at l (zw sc B S Z L R M) 16 12 (rS R) ((m : Int)) rfl (by decide) (by omega)) rfl trivial rfl ⟨Nat.le_refl _, Nat.le_refl _⟩ ?_
                  rintro _ _ ⟨rfl, rfl⟩
                  rw [zat_in (by omega)]
                  show V (90, [some (zR 15), some (zI p), some (zI ((((rF R) p) - 1))), some (zI ((m : Int)))], [zI (((rS R) ((m : Int)))), zR 15], (zw sc B S Z L R M), 0, 0)
                  refine z_cV c 0 k_2_50 zv_X2_farOf (pc := 93) (ls := [some (zR 15), some (zI p), some (zI ((((rF R) p) - 1))), some (zI ((m : Int)))]) (sk := []) (h := (zw sc B S Z L R M)) (cs := 0) (ss := 0) (c_X2_farOf l sc B S Z L R M (((rS R) ((m : Int)))) (by omega)) rfl trivial rfl rfl ⟨Nat.le_refl _, Nat.le_refl _⟩ ?_
                  rintro _ _ ⟨rfl, rfl⟩
                  have q90 := hF (((rS R) ((m : Int)))) (by omega) (by omega)
                  show V (93, [some (zR 15), some (zI p), some (zI ((((rF R) p) - 1))), some (zI ((m : Int)))], [zI (((rF R) (((rS R) ((m : Int))))))], (zw sc B S Z L R M), 0, 0)
                  refine z_br c 1 (¬ ((rF R) (((rS R) ((m : Int))))) = (((rF R) p) - 1)) (99, [some (zR 15), some (zI p), some (zI ((((rF R) p) - 1))), some (zI ((m : Int)))], [], (zw sc B S Z L R M), 0, 0) (97, [some (zR 15), some (zI p), some (zI ((((rF R) p) - 1))), some (zI ((m : Int)))], [], (zw sc B S Z L R M), 0, 0) rfl ⟨(show ((-2147483648 : Int) ≤ ((rF R) (((rS R) ((m : Int))))) ∧ ((rF R) (((rS R) ((m : Int))))) ≤ 2147483647) ∧ (-2147483648 : Int) ≤ (((rF R) p) - 1) ∧ (((rF R) p) - 1) ≤ 2147483647 by omega), trivial⟩ (fun h94 => ?_) (fun h94 => ?_)
                  · have hno : ¬ (znr (zop (rO R)) (rS R) (rE R) (rF R) p) (m : Int) = true := fun z => by have z1 := hnr.mp z; omega
                    rw [if_neg hno] at hz2
                    exact z_go c 2 (s1 := (17, [some (zR 15), some (zI p), some (zI ((((rF R) p) - 1))), some (zI (((m : Int) + 1)))], [], (zw sc B S Z L R M), 0, 0)) rfl trivial (ih (m + 1) (by omega) (by omega) (hz.trans hz2))
                  · exact z_re c 1 (v := some (zI ((m : Int)))) (h := (zw sc B S Z L R M)) (cs := 0) (ss := 0) rfl trivial trivial ⟨Nat.le_refl _, Nat.le_refl _⟩ ⟨by rw [if_neg (by omega), hz, hz2, if_pos (hnr.mpr (by omega))], rfl⟩
              · exact z_re c 1 (v := some (zI ((m : Int)))) (h := (zw sc B S Z L R M)) (cs := 0) (ss := 0) rfl trivial trivial ⟨Nat.le_refl _, Nat.le_refl _⟩ ⟨by rw [if_neg (by omega), hz, hz2, if_pos (hnr.mpr (by omega))], rfl⟩
          · refine z_go c 1 (s1 := (99, [some (zR 15), some (zI p), some (zI ((((rF R) p) - 1))), some (zI ((m : Int)))], [], (zw sc B S Z L R M), 0, 0)) rfl trivial ?_
            have hno : ¬ (znr (zop (rO R)) (rS R) (rE R) (rF R) p) (m : Int) = true := fun z => by have z1 := hnr.mp z; omega
            rw [if_neg hno] at hz2
            exact z_go c 2 (s1 := (17, [some (zR 15), some (zI p), some (zI ((((rF R) p) - 1))), some (zI (((m : Int) + 1)))], [], (zw sc B S Z L R M), 0, 0)) rfl trivial (ih (m + 1) (by omega) (by omega) (hz.trans hz2))
    exact loop 13 0 (by omega) (by omega) rfl
  · exact z_re c 1 (v := some (zI ((-9)))) (h := (zw sc B S Z L R M)) (cs := 0) (ss := 0) rfl trivial trivial ⟨Nat.le_refl _, Nat.le_refl _⟩ ⟨by rw [if_pos (by omega)], rfl⟩
set_option maxRecDepth 4000 in
theorem c_X2_comeTo (l : Launch) (sc : ZSc) (B : ZBk) (S Z : ZSg) (L : ZLn) (R : ZRd) (M : ZMd) (hF : zFr (rF R)) : zMet l m_X2_comeTo [zR 15] (zw sc B S Z L R M) (zI1 (zcj (rF R) 10) (zw sc B S Z L R M)) := by
  refine z_method g_X2_comeTo [some (zR 15), none, none] rfl rfl (fun V c => ?_)
  refine z_go c 4 (s1 := (4, [some (zR 15), some (zI 0), some (zI 0)], [], (zw sc B S Z L R M), 0, 0)) rfl trivial ?_
  have loop : ∀ (x m : Nat), 10 - m < x → m ≤ 10 → V (4, [some (zR 15), some (zI ((zcj (rF R) m))), some (zI ((m : Int)))], [], (zw sc B S Z L R M), 0, 0) := by
    intro x
    induction x with
    | zero => intro m h1 h2; exfalso; omega
    | succ x ih =>
      intro m hm1 hm2
      have hcr := zcj_rng (rF R) m
      have hstep : zcj (rF R) (m + 1) = zcj (rF R) m + (if rF R (m : Int) = -9 then 0 else 1) := rfl
      refine z_br c 2 (10 ≤ (m : Int)) (29, [some (zR 15), some (zI ((zcj (rF R) m))), some (zI ((m : Int)))], [], (zw sc B S Z L R M), 0, 0) (10, [some (zR 15), some (zI ((zcj (rF R) m))), some (zI ((m : Int)))], [], (zw sc B S Z L R M), 0, 0) rfl ⟨(show ((-2147483648 : Int) ≤ (m : Int) ∧ (m : Int) ≤ 2147483647) ∧ (-2147483648 : Int) ≤ 10 ∧ 10 ≤ 2147483647 by omega), trivial⟩ (fun h7 => ?_) (fun h7 => ?_)
      · obtain rfl : m = 10 := by omega
        exact z_re c 1 (v := some (zI ((zcj (rF R) 10)))) (h := (zw sc B S Z L R M)) (cs := 0) (ss := 0) rfl trivial trivial ⟨Nat.le_refl _, Nat.le_refl _⟩ ⟨rfl, rfl⟩
      · refine z_cV c 2 k_2_50 zv_X2_farOf (pc := 15) (ls := [some (zR 15), some (zI ((zcj (rF R) m))), some (zI ((m : Int)))]) (sk := []) (h := (zw sc B S Z L R M)) (cs := 0) (ss := 0) (c_X2_farOf l sc B S Z L R M ((m : Int)) (by omega)) rfl trivial rfl rfl ⟨Nat.le_refl _, Nat.le_refl _⟩ ?_
        rintro _ _ ⟨rfl, rfl⟩
        have q12 := hF ((m : Int)) (by omega) (by omega)
        show V (15, [some (zR 15), some (zI ((zcj (rF R) m))), some (zI ((m : Int)))], [zI (((rF R) ((m : Int))))], (zw sc B S Z L R M), 0, 0)
        refine z_br c 1 (((rF R) ((m : Int))) = (-9)) (23, [some (zR 15), some (zI ((zcj (rF R) m))), some (zI ((m : Int)))], [], (zw sc B S Z L R M), 0, 0) (20, [some (zR 15), some (zI ((zcj (rF R) m))), some (zI ((m : Int)))], [], (zw sc B S Z L R M), 0, 0) rfl ⟨(show ((-2147483648 : Int) ≤ ((rF R) ((m : Int))) ∧ ((rF R) ((m : Int))) ≤ 2147483647) ∧ (-2147483648 : Int) ≤ (-9) ∧ (-9) ≤ 2147483647 by omega), trivial⟩ (fun h17 => ?_) (fun h17 => ?_)
        · rw [if_pos (by omega), Int.add_zero] at hstep
          have h9 := ih (m + 1) (by omega) (by omega)
          rw [hstep] at h9
          exact z_go c 2 (s1 := (4, [some (zR 15), some (zI ((zcj (rF R) m))), some (zI (((m : Int) + 1)))], [], (zw sc B S Z L R M), 0, 0)) rfl trivial h9
        · refine z_go c 1 (s1 := (23, [some (zR 15), some (zI (((zcj (rF R) m) + 1))), some (zI ((m : Int)))], [], (zw sc B S Z L R M), 0, 0)) rfl trivial ?_
          rw [if_neg (by omega)] at hstep
          have h9 := ih (m + 1) (by omega) (by omega)
          rw [hstep] at h9
          exact z_go c 2 (s1 := (4, [some (zR 15), some (zI (((zcj (rF R) m) + 1))), some (zI (((m : Int) + 1)))], [], (zw sc B S Z L R M), 0, 0)) rfl trivial h9
  exact loop 11 0 (by omega) (by omega)
