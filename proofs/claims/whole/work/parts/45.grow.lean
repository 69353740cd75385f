/-! a book that grows: all that was seen stays -/
def zAg (T T1 : Int → Int) (n : Int) : Prop := ∀ j, j < n * 12 → T1 j = T j
def zKg (K K1 : Int → Int) (n : Int) : Prop := ∀ p, 0 ≤ p → p < n → K1 p = K p ∨ (K p = -9 ∧ K1 p = n)
theorem zcB_grow {K K1 : Int → Int} {n l q : Int} (h : zKg K K1 n) (hl : l < n) : zcB K n l q = zcB K1 (n + 1) l q := by
  funext p
  apply Bool.eq_iff_iff.mpr
  rw [zcB_iff, zcB_iff]
  unfold zct
  constructor
  · rintro ⟨a, b⟩
    refine ⟨by omega, ?_⟩
    rcases h p a.1 a.2.1 with g | ⟨g1, g2⟩
    · rw [g]; exact b
    · rw [g2]; exact Or.inr (Or.inl hl)
  · rintro ⟨a, b⟩
    refine ⟨by omega, ?_⟩
    rcases h p a.1 (by omega) with g | ⟨g1, g2⟩
    · rw [← g]; exact b
    · exact Or.inl g1
theorem zlike_grow {T T1 : Int → Int} {ct : Int → Bool} {n w : Int} {m : Nat} (h : zAg T T1 n) (hm : (m : Int) ≤ n) : zlike T T1 ct ct w m := fun i hi => ⟨fun f a b => (h _ (by omega)).symm, fun _ => rfl⟩
theorem zch_grow {T T1 K K1 : Int → Int} {n : Int} {S : ZSg} (h : zch T K n S) (ha : zAg T T1 n) (hk : zKg K K1 n) (hn : 0 ≤ n) : zch T1 K1 (n + 1) S := by
  obtain ⟨⟨h1, h2, h3⟩, h4⟩ := h
  refine ⟨⟨h1, by omega, h3⟩, ?_⟩
  rcases h4 with h4 | h4
  · exact Or.inl h4
  · rw [← zcB_grow hk h2.2]
    exact Or.inr (zSi_cong h4 (zlike_grow ha (by omega)) (by omega) (by omega))
theorem zF_grow {T T1 K K1 : Int → Int} {n w l q k y : Int} (ha : zAg T T1 n) (hk : zKg K K1 n) (hn : 0 ≤ n) (hl : l < n) : zF T K n w l q k y = zF T1 K1 (n + 1) w l q k y := by
  unfold zF
  rw [← zcB_grow hk hl]
  exact (zvw_cong (zlike_grow ha (by omega)) (by omega) (by omega)).2.2.2.2.2 k y
theorem zlP_grow {T T1 K K1 : Int → Int} {n w l k y : Int} (ha : zAg T T1 n) (hk : zKg K K1 n) (hn : 0 ≤ n) (hl : l < n) : zlP T K n w k y l = zlP T1 K1 (n + 1) w k y l := by
  funext p
  unfold zlP
  rw [← zcB_grow hk hl, ← zF_grow ha hk hn hl, ← zF_grow ha hk hn hl]
theorem zLch_grow {T T1 K K1 : Int → Int} {n : Int} {L : ZLn} (h : zLch T K n L) (ha : zAg T T1 n) (hk : zKg K K1 n) (hn : 0 ≤ n) : zLch T1 K1 (n + 1) L := by
  obtain ⟨⟨h1, h2, h3, h4⟩, h5⟩ := h
  refine ⟨⟨h1, h2, h3, by omega⟩, ?_⟩
  rcases h5 with h5 | h5
  · exact Or.inl h5
  · rw [← zlP_grow ha hk hn h4.2]
    exact Or.inr h5
theorem zvp_grow {T T1 : Int → Int} {nw p : Int} (hp : 0 ≤ p) (h : zAg T T1 (p + 1)) (hz : zvp T nw p) : zvp T1 nw p := by
  have e : ∀ f, f < 12 → T1 (p * 12 + f) = T (p * 12 + f) := fun f hf => h _ (by omega)
  unfold zvp at hz ⊢
  rw [e 0 (by omega), e 1 (by omega), e 2 (by omega), e 3 (by omega), e 4 (by omega), e 5 (by omega), e 6 (by omega), e 7 (by omega), e 8 (by omega), e 9 (by omega), e 10 (by omega), e 11 (by omega)]
  rcases hz with z | z | z | z | z | z | z
  · exact Or.inl z
  · exact Or.inr (Or.inl z)
  · exact Or.inr (Or.inr (Or.inl z))
  · exact Or.inr (Or.inr (Or.inr (Or.inl z)))
  · exact Or.inr (Or.inr (Or.inr (Or.inr (Or.inl z))))
  · refine Or.inr (Or.inr (Or.inr (Or.inr (Or.inr (Or.inl ⟨z.1, z.2.1, z.2.2.1, ?_⟩)))))
    rw [h _ (by omega)]
    exact z.2.2.2
  · exact Or.inr (Or.inr (Or.inr (Or.inr (Or.inr (Or.inr z)))))
theorem zvp_nw {T : Int → Int} {nw p : Int} (hz : zvp T nw p) : zvp T (nw + 1) p := by
  unfold zvp at hz ⊢
  rcases hz with z | z | z | z | z | z | z
  · exact Or.inl ⟨z.1, ⟨z.2.1.1, by omega⟩, z.2.2⟩
  · exact Or.inr (Or.inl ⟨z.1, ⟨z.2.1.1, by omega⟩, z.2.2⟩)
  · exact Or.inr (Or.inr (Or.inl ⟨z.1, ⟨z.2.1.1, by omega⟩, z.2.2⟩))
  · exact Or.inr (Or.inr (Or.inr (Or.inl ⟨z.1, ⟨z.2.1.1, by omega⟩, z.2.2⟩)))
  · exact Or.inr (Or.inr (Or.inr (Or.inr (Or.inl ⟨z.1, ⟨z.2.1.1, by omega⟩, z.2.2⟩))))
  · exact Or.inr (Or.inr (Or.inr (Or.inr (Or.inr (Or.inl z)))))
  · exact Or.inr (Or.inr (Or.inr (Or.inr (Or.inr (Or.inr z)))))
theorem zno_cong {T T1 : Int → Int} {n : Int} (h : zAg T T1 n) : ∀ m : Nat, (m : Int) ≤ n → zno T1 m = zno T m
  | 0, _ => rfl
  | m + 1, hm => by
    unfold zno
    rw [zno_cong h m (by omega), h ((m : Int) * 12 + 0) (by omega)]
theorem zsk_cong {K K1 : Int → Int} : ∀ m : Nat, (∀ p : Nat, p < m → K1 (p : Int) = K (p : Int)) → zsk K1 m = zsk K m
  | 0, _ => rfl
  | m + 1, h => by
    unfold zsk
    rw [zsk_cong m (fun p hp => h p (by omega)), h m (by omega)]
theorem zsk_put {K : Int → Int} {p x : Int} (hx : ¬ x = -9) (hp : 0 ≤ p ∧ K p = -9) : ∀ m : Nat, zsk (zup K p x) m = zsk K m + (if p < (m : Int) then 1 else 0)
  | 0 => by rw [if_neg (by omega)]; rfl
  | m + 1 => by
    have ih := zsk_put (K := K) (x := x) hx hp m
    show zsk (zup K p x) m + (if zup K p x (m : Int) = -9 then 0 else 1) = zsk K m + (if K (m : Int) = -9 then 0 else 1) + _
    rw [ih]
    by_cases g : (m : Int) = p
    · have e : zup K p x (m : Int) = x := by simp only [zup]; rw [if_pos g]
      have e2 : K (m : Int) = -9 := by rw [g]; exact hp.2
      rw [e, if_neg hx, if_neg (show ¬ p < (m : Int) by omega), if_pos e2, if_pos (show p < ((m + 1 : Nat) : Int) by omega)]
    · have e : zup K p x (m : Int) = K (m : Int) := by simp only [zup]; rw [if_neg g]
      rw [e]
      by_cases g2 : p < (m : Int)
      · rw [if_pos g2, if_pos (show p < ((m + 1 : Nat) : Int) by omega)]; omega
      · rw [if_neg g2, if_neg (show ¬ p < ((m + 1 : Nat) : Int) by omega)]; omega
theorem zvp_5 {T : Int → Int} {nw p : Int} (h : zvp T nw p) (h0 : T (p * 12 + 0) = 5) : 0 ≤ T (p * 12 + 8) ∧ T (p * 12 + 8) < p := by
  rcases h with h | h | h | h | h | h | h
  · exfalso; have := h.1; omega
  · exfalso; have := h.1; omega
  · exfalso; have := h.1; omega
  · exfalso; have := h.1; omega
  · exfalso; have := h.1; omega
  · exact h.2.2.1
  · exfalso; have := h.1; omega
/-- class and model, between two calls -/
def zCI (B : ZBk) (S Z : ZSg) (L : ZLn) (R : ZRd) (M : ZMd) : Prop := zBv (bT B) (bK B) (bN B) (rN R) ∧ zch (bT B) (bK B) (bN B) S ∧ zch (bT B) (bK B) (bN B) Z ∧ zLch (bT B) (bK B) (bN B) L ∧ (zRv (rS R) (rE R) (rN R) ∧ zRo (rO R) ∧ zFr (rF R)) ∧ (bO B = (zno (bT B) (bN B).toNat : Int) ∧ bS B = zsk (bK B) (bN B).toNat) ∧ zMr (bT B) (bN B) (rN R) M ∧ mWithout M = -9 ∧ mOrders M = bO B ∧ mOne M = rS R ∧ mTwo M = rE R
theorem zCI_ask {B : ZBk} {S Z S1 Z1 : ZSg} {L L1 : ZLn} {R : ZRd} {O1 F1 : Int → Int} {M M1 : ZMd} (h : zCI B S Z L R M) (hS : zch (bT B) (bK B) (bN B) S1) (hZ : zch (bT B) (bK B) (bN B) Z1) (hL : zLch (bT B) (bK B) (bN B) L1) (hO : zRo O1) (hF : zFr F1) (hM : zMk M M1) : zCI B S1 Z1 L1 (rS R, rE R, O1, F1, rN R) M1 := by
  obtain ⟨h1, -, -, -, ⟨h5, -, -⟩, h6, h7, h8, h9, h10, h11⟩ := h
  exact ⟨h1, hS, hZ, hL, ⟨h5, hO, hF⟩, h6, zMr_k h7 hM, hM.2.2.2.trans h8, (congrArg (fun z => z.2.2.2.2) hM.1).trans h9, (zMk_ab hM).1.trans h10, (zMk_ab hM).2.trans h11⟩
theorem zMr_grow {T T1 row rowM : Int → Int} {n nw d : Int} {M M1 : ZMd} (h : zMr T n nw M) (hg : zgr1 T T1 n row) (hm : zMg M M1 n rowM d) (hr : ∀ f, 0 ≤ f → f < 12 → row f = rowM f) : zMr T1 (n + 1) nw M1 := by
  obtain ⟨h1, h2, h3, h4⟩ := h
  obtain ⟨⟨a1, a2, a3, a4, a5, a6⟩, b1, b2, b3⟩ := hm
  refine ⟨a1, a2.trans h2, fun p p0 p1 => ?_, fun p f p0 p1 f0 f1 => ?_⟩
  · rw [b1 p p0 (by omega)]
    by_cases g : p = n
    · subst g
      rw [if_pos rfl, hg.2 0 (by omega) (by omega)]
      exact (hr 0 (by omega) (by omega)).symm
    · rw [if_neg g, h3 p p0 (by omega)]
      exact (hg.1 _ (by omega)).symm
  · by_cases g : p = n
    · subst g
      rw [b3 f f0 f1, hg.2 f f0 f1]
      exact (hr f f0 f1).symm
    · rw [b2 _ (by omega), h4 p f p0 (by omega) f0 f1]
      exact (hg.1 _ (by omega)).symm
theorem zgr_rng2 {T T1 row : Int → Int} {n : Int} (hT : zBt T n) (hg : zgr1 T T1 n row) (hr : ∀ f, 0 ≤ f → f < 12 → -9 ≤ row f ∧ row f ≤ 1000) : zBt T1 (n + 1) := by
  intro p f p0 p1 f0 f1
  by_cases g : p = n
  · subst g
    rw [hg.2 f f0 f1]; exact hr f f0 f1
  · rw [hg.1 _ (by omega)]; exact hT p f p0 (by omega) f0 f1
theorem zvp_all {T T1 row : Int → Int} {n nw : Int} (hn : 0 ≤ n) (hv : ∀ p : Nat, (p : Int) < n → zvp T nw (p : Int)) (hg : zgr1 T T1 n row) (hz : zvp T1 nw n) : ∀ p : Nat, (p : Int) < n + 1 → zvp T1 nw (p : Int) := by
  intro p hp
  by_cases g : (p : Int) = n
  · rw [g]; exact hz
  · exact zvp_grow (by omega) (fun j hj => hg.1 j (by omega)) (hv p (by omega))
theorem zno_grow {T T1 row : Int → Int} {n : Int} (hn : 0 ≤ n) (hg : zgr1 T T1 n row) : zno T1 (n + 1).toNat = zno T n.toNat + (if row 0 = 3 ∨ row 0 = 4 then 1 else 0) := by
  have e : (n + 1).toNat = n.toNat + 1 := by omega
  have h0 : T1 ((n.toNat : Int) * 12 + 0) = row 0 := by
    rw [show ((n.toNat : Nat) : Int) = n by omega]; exact hg.2 0 (by omega) (by omega)
  rw [e]
  show zno T1 n.toNat + (if T1 ((n.toNat : Int) * 12 + 0) = 3 ∨ T1 ((n.toNat : Int) * 12 + 0) = 4 then 1 else 0) = _
  rw [h0, zno_cong (n := n) hg.1 n.toNat (by omega)]
theorem zCI_add {B : ZBk} {S Z : ZSg} {L : ZLn} {R : ZRd} {M M1 : ZMd} {T1 row rowM : Int → Int} {d bo : Int} (h : zCI B S Z L R M) (hn : bN B < 100) (hg : zgr1 (bT B) T1 (bN B) row) (hr : ∀ f, 0 ≤ f → f < 12 → row f = rowM f ∧ -9 ≤ row f ∧ row f ≤ 1000) (hz : zvp T1 (rN R) (bN B)) (h5 : ¬ row 0 = 5) (hd : ((row 0 = 3 ∨ row 0 = 4) ∧ d = 1 ∧ bO B < 20) ∨ (¬ (row 0 = 3 ∨ row 0 = 4) ∧ d = 0)) (hbo : bo = bO B + d) (hM : zMg M M1 (bN B) rowM d) : zCI (T1, zup (bK B) (bN B) (-9), bN B + 1, bo, bS B) S Z L R M1 := by
  obtain ⟨⟨k1, k2, k3, k4, k5, k6⟩, h2, h3, h4, h5', ⟨h6, h6'⟩, h7, h8, h9, h10, h11⟩ := h
  have hkg : zKg (bK B) (zup (bK B) (bN B) (-9)) (bN B) := fun p a b => Or.inl (by simp only [zup]; rw [if_neg (by omega)])
  have hno := zno_grow k1.1 hg
  have hK : ∀ p, 0 ≤ p → p < bN B → zup (bK B) (bN B) (-9) p = bK B p := fun p a b => by simp only [zup]; rw [if_neg (by omega)]
  have hKn : zup (bK B) (bN B) (-9) (bN B) = -9 := by simp only [zup]; rw [if_pos trivial]
  refine ⟨⟨(show 0 ≤ bN B + 1 ∧ bN B + 1 ≤ 100 by omega), zgr_rng2 k2 hg (fun f a b => (hr f a b).2), ?_, zvp_all k1.1 k4 hg hz, ?_, ?_, ?_⟩, zch_grow h2 hg.1 hkg k1.1, zch_grow h3 hg.1 hkg k1.1, zLch_grow h4 hg.1 hkg k1.1, h5', ⟨?_, ?_⟩, zMr_grow h7 hg hM (fun f a b => (hr f a b).1), hM.1.2.2.2.2.2.trans h8, ?_, hM.1.2.2.1.trans h10, hM.1.2.2.2.1.trans h11⟩
  · intro p a b
    show -9 ≤ zup (bK B) (bN B) (-9) p ∧ zup (bK B) (bN B) (-9) p ≤ 100
    by_cases g : p = bN B
    · rw [g, hKn]; omega
    · rw [hK p a (by have b3 : p < bN B + 1 := b; omega)]; exact k3 p a (by have b3 : p < bN B + 1 := b; omega)
  · show zno T1 (bN B + 1).toNat ≤ 20
    rw [hno]
    rcases hd with ⟨a, b, c⟩ | ⟨a, b⟩
    · rw [if_pos a]; omega
    · rw [if_neg a]; omega
  · intro p a b
    show zup (bK B) (bN B) (-9) p = -9 ∨ _
    by_cases g : p = bN B
    · rw [g]; exact Or.inl hKn
    · have e := hK p a (by have b3 : p < bN B + 1 := b; omega)
      rcases k6.1 p a (by have b3 : p < bN B + 1 := b; omega) with z | ⟨z1, z2, z3⟩
      · exact Or.inl (e.trans z)
      · refine Or.inr ?_
        show (p < zup (bK B) (bN B) (-9) p ∧ zup (bK B) (bN B) (-9) p < bN B + 1) ∧ T1 (zup (bK B) (bN B) (-9) p * 12 + 0) = 5 ∧ T1 (zup (bK B) (bN B) (-9) p * 12 + 8) = p
        rw [e, hg.1 _ (by omega), hg.1 _ (by omega)]
        exact ⟨by omega, z2, z3⟩
  · intro s a b z
    change T1 (s * 12 + 0) = 5 at z
    show zup (bK B) (bN B) (-9) (T1 (s * 12 + 8)) = s
    by_cases g : s = bN B
    · rw [g, hg.2 0 (by omega) (by omega)] at z
      exact absurd z h5
    · have b2 : s < bN B := by have b3 : s < bN B + 1 := b; omega
      rw [hg.1 _ (by omega)] at z
      rw [hg.1 _ (by omega)]
      have hs := zvp_5 (k4 s.toNat (by omega)) (by rw [show ((s.toNat : Nat) : Int) = s by omega]; exact z)
      rw [show ((s.toNat : Nat) : Int) = s by omega] at hs
      rw [hK _ hs.1 (by omega)]
      exact k6.2 s a b2 z
  · show bo = (zno T1 (bN B + 1).toNat : Int)
    rw [hno, hbo, h6]
    rcases hd with ⟨a, b, c⟩ | ⟨a, b⟩
    · rw [if_pos a, b]; omega
    · rw [if_neg a, b]; omega
  · show bS B = zsk (zup (bK B) (bN B) (-9)) (bN B + 1).toNat
    rw [show (bN B + 1).toNat = (bN B).toNat + 1 by omega]
    show _ = zsk (zup (bK B) (bN B) (-9)) (bN B).toNat + (if zup (bK B) (bN B) (-9) ((bN B).toNat : Int) = -9 then 0 else 1)
    rw [show (((bN B).toNat : Nat) : Int) = bN B by omega, hKn, if_pos rfl, zsk_cong (bN B).toNat (fun p hp => hK (p : Int) (by omega) (by omega)), h6']
    omega
  · show mOrders M1 = bo
    rw [hM.1.2.2.2.2.1, h9, hbo]
theorem zCI_strike {B : ZBk} {S Z : ZSg} {L : ZLn} {R : ZRd} {M M1 : ZMd} {T1 row rowM : Int → Int} {q : Int} (h : zCI B S Z L R M) (hn : bN B < 100) (hq : 0 ≤ q ∧ q < bN B) (hq5 : ¬ bT B (q * 12 + 0) = 5) (hqK : bK B q = -9) (hg : zgr1 (bT B) T1 (bN B) row) (hr : ∀ f, 0 ≤ f → f < 12 → row f = rowM f ∧ -9 ≤ row f ∧ row f ≤ 1000) (hz : zvp T1 (rN R) (bN B)) (h05 : row 0 = 5) (h08 : row 8 = q) (hM : zMg M M1 (bN B) rowM 0) : zCI (T1, zup (zup (bK B) (bN B) (-9)) q (bN B), bN B + 1, bO B, bS B + 1) S Z L R M1 := by
  obtain ⟨⟨k1, k2, k3, k4, k5, k6⟩, h2, h3, h4, h5', ⟨h6, h6'⟩, h7, h8, h9, h10, h11⟩ := h
  have hno := zno_grow k1.1 hg
  have hK : ∀ p, 0 ≤ p → p < bN B → ¬ p = q → zup (zup (bK B) (bN B) (-9)) q (bN B) p = bK B p := fun p a b c => by simp only [zup]; rw [if_neg c, if_neg (by omega)]
  have hKq : zup (zup (bK B) (bN B) (-9)) q (bN B) q = bN B := by simp only [zup]; rw [if_pos trivial]
  have hKn : zup (zup (bK B) (bN B) (-9)) q (bN B) (bN B) = -9 := by simp only [zup]; rw [if_neg (by omega), if_pos trivial]
  have hkg : zKg (bK B) (zup (zup (bK B) (bN B) (-9)) q (bN B)) (bN B) := fun p a b => by
    by_cases g : p = q
    · subst g; exact Or.inr ⟨hqK, hKq⟩
    · exact Or.inl (hK p a b g)
  refine ⟨⟨(show 0 ≤ bN B + 1 ∧ bN B + 1 ≤ 100 by omega), zgr_rng2 k2 hg (fun f a b => (hr f a b).2), ?_, zvp_all k1.1 k4 hg hz, ?_, ?_, ?_⟩, zch_grow h2 hg.1 hkg k1.1, zch_grow h3 hg.1 hkg k1.1, zLch_grow h4 hg.1 hkg k1.1, h5', ⟨?_, ?_⟩, zMr_grow h7 hg hM (fun f a b => (hr f a b).1), hM.1.2.2.2.2.2.trans h8, ?_, hM.1.2.2.1.trans h10, hM.1.2.2.2.1.trans h11⟩
  · intro p a b
    have b2 : p < bN B + 1 := b
    show -9 ≤ zup (zup (bK B) (bN B) (-9)) q (bN B) p ∧ zup (zup (bK B) (bN B) (-9)) q (bN B) p ≤ 100
    by_cases g : p = bN B
    · rw [g, hKn]; omega
    · by_cases g2 : p = q
      · rw [g2, hKq]; omega
      · rw [hK p a (by omega) g2]; exact k3 p a (by omega)
  · show zno T1 (bN B + 1).toNat ≤ 20
    rw [hno, if_neg (by omega)]; omega
  · intro p a b
    have b2 : p < bN B + 1 := b
    show zup (zup (bK B) (bN B) (-9)) q (bN B) p = -9 ∨ ((p < zup (zup (bK B) (bN B) (-9)) q (bN B) p ∧ zup (zup (bK B) (bN B) (-9)) q (bN B) p < bN B + 1) ∧ T1 (zup (zup (bK B) (bN B) (-9)) q (bN B) p * 12 + 0) = 5 ∧ T1 (zup (zup (bK B) (bN B) (-9)) q (bN B) p * 12 + 8) = p)
    by_cases g : p = bN B
    · rw [g]; exact Or.inl hKn
    · by_cases g2 : p = q
      · subst g2
        rw [hKq, hg.2 0 (by omega) (by omega), hg.2 8 (by omega) (by omega)]
        exact Or.inr ⟨by omega, h05, h08⟩
      · rw [hK p a (by omega) g2]
        rcases k6.1 p a (by omega) with z | ⟨z1, z2, z3⟩
        · exact Or.inl z
        · refine Or.inr ?_
          rw [hg.1 _ (by omega), hg.1 _ (by omega)]
          exact ⟨by omega, z2, z3⟩
  · intro s a b z
    have b2 : s < bN B + 1 := b
    change T1 (s * 12 + 0) = 5 at z
    show zup (zup (bK B) (bN B) (-9)) q (bN B) (T1 (s * 12 + 8)) = s
    by_cases g : s = bN B
    · rw [g, hg.2 8 (by omega) (by omega), h08]; exact hKq
    · rw [hg.1 _ (by omega)] at z
      rw [hg.1 _ (by omega)]
      have hs := zvp_5 (k4 s.toNat (by omega)) (by rw [show ((s.toNat : Nat) : Int) = s by omega]; exact z)
      rw [show ((s.toNat : Nat) : Int) = s by omega] at hs
      have hks := k6.2 s a (by omega) z
      rw [hK _ hs.1 (by omega) (fun e => by rw [e, hqK] at hks; omega)]
      exact hks
  · show bO B = (zno T1 (bN B + 1).toNat : Int)
    rw [hno, h6, if_neg (by omega)]
    omega
  · show bS B + 1 = zsk (zup (zup (bK B) (bN B) (-9)) q (bN B)) (bN B + 1).toNat
    have hKq9 : zup (bK B) (bN B) (-9) q = -9 := by simp only [zup]; rw [if_neg (by omega)]; exact hqK
    have hKn9 : zup (bK B) (bN B) (-9) (bN B) = -9 := by simp only [zup]; rw [if_pos trivial]
    rw [zsk_put (by omega) ⟨hq.1, hKq9⟩, if_pos (by omega), show (bN B + 1).toNat = (bN B).toNat + 1 by omega]
    show _ = zsk (zup (bK B) (bN B) (-9)) (bN B).toNat + (if zup (bK B) (bN B) (-9) ((bN B).toNat : Int) = -9 then 0 else 1) + 1
    rw [show (((bN B).toNat : Nat) : Int) = bN B by omega, hKn9, if_pos rfl, zsk_cong (bN B).toNat (fun p hp => by simp only [zup]; rw [if_neg (by omega)]), h6']
    omega
  · show mOrders M1 = bO B
    rw [hM.1.2.2.2.2.1, h9]
    exact Int.add_zero _
theorem zCI_way {B : ZBk} {S Z : ZSg} {L : ZLn} {R : ZRd} {M M1 : ZMd} {a b : Int} (h : zCI B S Z L R M) (hn : rN R < 12) (ha : 0 ≤ a ∧ a ≤ 9) (hb : 0 ≤ b ∧ b ≤ 9) (hab : ¬ a = b) (m1 : mWays M1 = rN R + 1) (m2 : mOne M1 = zup (mOne M) (rN R) a) (m3 : mTwo M1 = zup (mTwo M) (rN R) b) (m4 : M1.1.2.2.2.2 = M.1.2.2.2.2) (m5 : mSort M1 = mSort M) (m6 : mTold M1 = mTold M) (m7 : mWithout M1 = mWithout M) : zCI B S Z L (zup (rS R) (rN R) a, zup (rE R) (rN R) b, rO R, rF R, rN R + 1) M1 := by
  obtain ⟨⟨k1, k2, k3, k4, k5, k6⟩, h2, h3, h4, ⟨hr, hO, hF⟩, h6, h7, h8, h9, h10, h11⟩ := h
  refine ⟨⟨k1, k2, k3, fun p hp => zvp_nw (k4 p hp), k5, k6⟩, h2, h3, h4, ⟨⟨?_, ?_⟩, hO, hF⟩, h6, ⟨(congrArg (fun z => z.1) m4).trans h7.1, m1, by rw [m5]; exact h7.2.2.1, by rw [m6]; exact h7.2.2.2⟩, m7.trans h8, (congrArg (fun z => z.2) m4).trans h9, by rw [m2, h10], by rw [m3, h11]⟩
  · have := hr.1
    show 0 ≤ rN R + 1 ∧ rN R + 1 ≤ 12
    omega
  · intro w w0 w1
    have w2 : w < rN R + 1 := w1
    show (0 ≤ zup (rS R) (rN R) a w ∧ zup (rS R) (rN R) a w ≤ 9) ∧ (0 ≤ zup (rE R) (rN R) b w ∧ zup (rE R) (rN R) b w ≤ 9) ∧ ¬ zup (rS R) (rN R) a w = zup (rE R) (rN R) b w
    simp only [zup]
    by_cases g : w = rN R
    · rw [if_pos g, if_pos g]; exact ⟨ha, hb, hab⟩
    · rw [if_neg g, if_neg g]; exact hr.2 w w0 (by omega)
