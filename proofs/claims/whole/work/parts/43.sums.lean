/-! what the model is asked: totals -/
def zcg (G : Int → Bool) (O : Int → Int) : Nat → Nat
  | 0 => 0
  | c + 1 => zcg G O c + (if G (O (c : Int)) = true then 1 else 0)
theorem zcg_ins {G : Int → Bool} {O : Int → Int} {q p : Int} {c : Nat} (hq : 0 ≤ q ∧ q ≤ (c : Int)) : ∀ N : Nat, N ≤ c + 1 → zcg G (fun j => if j = q then p else if q < j ∧ j ≤ (c : Int) then O (j - 1) else O j) N = if (N : Int) ≤ q then zcg G O N else zcg G O (N - 1) + (if G p = true then 1 else 0)
  | 0, _ => by rw [if_pos (by omega)]; rfl
  | N + 1, h => by
    have ih := zcg_ins (G := G) (O := O) (q := q) (p := p) (c := c) hq N (by omega)
    show zcg G _ N + (if G (if (N : Int) = q then p else if q < (N : Int) ∧ (N : Int) ≤ (c : Int) then O ((N : Int) - 1) else O (N : Int)) = true then 1 else 0) = _
    by_cases h1 : (N : Int) < q
    · have hx : (if (N : Int) = q then p else if q < (N : Int) ∧ (N : Int) ≤ (c : Int) then O ((N : Int) - 1) else O (N : Int)) = O (N : Int) := by rw [if_neg (by omega), if_neg (by omega)]
      rw [hx, ih, if_pos (show (N : Int) ≤ q by omega), if_pos (show ((N + 1 : Nat) : Int) ≤ q by omega)]
      rfl
    · by_cases h2 : (N : Int) = q
      · have hx : (if (N : Int) = q then p else if q < (N : Int) ∧ (N : Int) ≤ (c : Int) then O ((N : Int) - 1) else O (N : Int)) = p := if_pos h2
        rw [hx, ih, if_pos (show (N : Int) ≤ q by omega), if_neg (show ¬ ((N + 1 : Nat) : Int) ≤ q by omega)]
        rfl
      · have hx : (if (N : Int) = q then p else if q < (N : Int) ∧ (N : Int) ≤ (c : Int) then O ((N : Int) - 1) else O (N : Int)) = O ((N : Int) - 1) := by rw [if_neg h2, if_pos (by omega)]
        rw [hx, ih, if_neg (show ¬ (N : Int) ≤ q by omega), if_neg (show ¬ ((N + 1 : Nat) : Int) ≤ q by omega)]
        obtain ⟨i, rfl⟩ : ∃ i, N = i + 1 := ⟨N - 1, by omega⟩
        rw [show ((i + 1 : Nat) : Int) - 1 = (i : Int) by omega]
        show zcg G O i + _ + _ = zcg G O i + _ + _
        omega
theorem zcg_zinf {G : Int → Bool} {yr O : Int → Int} {y p : Int} {c : Nat} : zcg G (zinf yr O y p c) (c + 1) = zcg G O c + (if G p = true then 1 else 0) := by
  have hl := zinp_le yr O y c
  have h := zcg_ins (G := G) (O := O) (q := (zinp yr O y c : Int)) (p := p) (c := c) (by omega) (c + 1) (Nat.le_refl _)
  rw [if_neg (by omega)] at h
  exact h
def zqu (T : Int → Int) (ct : Int → Bool) (w : Int) : Int → Bool := fun p => decide (ct p = true ∧ (T (p * 12 + 0) = 3 ∨ T (p * 12 + 0) = 4) ∧ T (p * 12 + 1) = w)
theorem zqu_iff {T : Int → Int} {ct : Int → Bool} {w p : Int} : zqu T ct w p = true ↔ ct p = true ∧ (T (p * 12 + 0) = 3 ∨ T (p * 12 + 0) = 4) ∧ T (p * 12 + 1) = w := decide_eq_true_iff
theorem zof_sum (G : Int → Bool) (T : Int → Int) (ct : Int → Bool) (w : Int) : ∀ m : Nat, zcg G (zof T ct w m).1 (zof T ct w m).2 = zpn (fun p => zqu T ct w p && G p) m
  | 0 => rfl
  | m + 1 => by
    have ih := zof_sum G T ct w m
    show _ = zpn (fun p => zqu T ct w p && G p) m + (if (zqu T ct w (m : Int) && G (m : Int)) = true then 1 else 0)
    by_cases h : ct (m : Int) = true ∧ (T ((m : Int) * 12 + 0) = 3 ∨ T ((m : Int) * 12 + 0) = 4) ∧ T ((m : Int) * 12 + 1) = w
    · have e : zof T ct w (m + 1) = (zinf (fun q => T (q * 12 + 3)) (zof T ct w m).1 (T ((m : Int) * 12 + 3)) (m : Int) (zof T ct w m).2, (zof T ct w m).2 + 1) := by
        show (if _ then _ else _) = _
        rw [if_pos h]
      rw [e]
      show zcg G (zinf _ _ _ _ _) (_ + 1) = _
      rw [zcg_zinf, ih, zqu_iff.mpr h, Bool.true_and]
    · rw [zof_not (fun a b c => h ⟨a, b, c⟩), ih, if_neg]
      · rfl
      · rw [Bool.and_eq_true]
        exact fun z => h (zqu_iff.mp z.1)
theorem zpn_one {A : Int → Bool} {p0 : Int} : ∀ m : Nat, zpn (fun p => A p && decide (p = p0)) m ≤ 1 ∧ ((m : Int) ≤ p0 → zpn (fun p => A p && decide (p = p0)) m = 0)
  | 0 => ⟨Nat.zero_le _, fun _ => rfl⟩
  | m + 1 => by
    obtain ⟨h1, h2⟩ := zpn_one (A := A) (p0 := p0) m
    show zpn _ m + (if (A (m : Int) && decide ((m : Int) = p0)) = true then 1 else 0) ≤ 1 ∧ (((m + 1 : Nat) : Int) ≤ p0 → zpn _ m + (if (A (m : Int) && decide ((m : Int) = p0)) = true then 1 else 0) = 0)
    by_cases g : (m : Int) = p0
    · have h3 := h2 (by omega)
      refine ⟨by split <;> omega, fun z => by omega⟩
    · rw [if_neg (by rw [Bool.and_eq_true, decide_eq_true_iff]; exact fun z => g z.2)]
      exact ⟨by omega, fun z => by have := h2 (by omega); omega⟩
theorem zcg_pos {G : Int → Bool} {O : Int → Int} {i : Nat} (hi : G (O (i : Int)) = true) : ∀ c : Nat, i < c → 1 ≤ zcg G O c
  | 0, h => absurd h (Nat.not_lt_zero _)
  | c + 1, h => by
    unfold zcg
    rcases (show i < c ∨ i = c by omega) with g | g
    · have := zcg_pos (O := O) hi c g
      omega
    · subst g; rw [if_pos hi]; omega
theorem zcg_two {G : Int → Bool} {O : Int → Int} {i j : Nat} (hi : G (O (i : Int)) = true) (hj : G (O (j : Int)) = true) (hij : i < j) : ∀ c : Nat, j < c → 2 ≤ zcg G O c
  | 0, h => absurd h (Nat.not_lt_zero _)
  | c + 1, h => by
    unfold zcg
    rcases (show j < c ∨ j = c by omega) with g | g
    · have := zcg_two (O := O) hi hj hij c g
      omega
    · subst g
      have := zcg_pos (O := O) hi j hij
      rw [if_pos hj]; omega
theorem zof_inj {T : Int → Int} {ct : Int → Bool} {w : Int} {m i j : Nat} (hi : i < (zof T ct w m).2) (hj : j < (zof T ct w m).2) (h : (zof T ct w m).1 (i : Int) = (zof T ct w m).1 (j : Int)) : i = j := by
  have hs := zof_sum (fun x => decide (x = (zof T ct w m).1 (j : Int))) T ct w m
  have h1 := (zpn_one (A := zqu T ct w) (p0 := (zof T ct w m).1 (j : Int)) m).1
  rcases Nat.lt_trichotomy i j with g | g | g
  · have := zcg_two (G := fun x => decide (x = (zof T ct w m).1 (j : Int))) (O := (zof T ct w m).1) (decide_eq_true h) (decide_eq_true rfl) g _ hj
    omega
  · exact g
  · have := zcg_two (G := fun x => decide (x = (zof T ct w m).1 (j : Int))) (O := (zof T ct w m).1) (decide_eq_true rfl) (decide_eq_true h) g _ hi
    omega
def zGb (T : Int → Int) (n : Int) (ct : Int → Bool) (m : Nat) : Int → Bool := fun p => zinG (zVg T n ct (T (p * 12 + 1)) m).1 p (zVg T n ct (T (p * 12 + 1)) m).2.toNat
theorem zGb_q {T : Int → Int} {n : Int} {ct : Int → Bool} {w : Int} {m j : Nat} (hj : j < (zof T ct w m).2) : zGb T n ct m ((zof T ct w m).1 (j : Int)) = true ↔ zqM T n ct w m j = true := by
  have hm := zof_mem (T := T) (ct := ct) (w := w) m (j : Int) (by omega) (by omega)
  have e : T ((zof T ct w m).1 (j : Int) * 12 + 1) = w := hm.2.2.2
  have h := zGd_iff (T := T) (n := n) (ct := ct) (m := m) (p := (zof T ct w m).1 (j : Int))
  rw [e] at h
  refine Iff.trans h ⟨fun ⟨i, a, b, c⟩ => ?_, fun z => ⟨j, hj, rfl, z⟩⟩
  have := zof_inj a hj b
  subst this
  exact c
theorem zjM_cnt {T : Int → Int} {n : Int} {ct : Int → Bool} {w : Int} {m : Nat} : ∀ i : Nat, i ≤ (zof T ct w m).2 → (zjM T n ct w m i).2 = ((zcg (zGb T n ct m) (zof T ct w m).1 i : Nat) : Int)
  | 0, _ => rfl
  | i + 1, h => by
    have ih := zjM_cnt (T := T) (n := n) (ct := ct) (w := w) (m := m) i (by omega)
    have hq := zGb_q (T := T) (n := n) (ct := ct) (w := w) (m := m) (j := i) (by omega)
    rw [zjM_s]
    show _ = ((zcg (zGb T n ct m) (zof T ct w m).1 i + (if zGb T n ct m ((zof T ct w m).1 (i : Int)) = true then 1 else 0) : Nat) : Int)
    by_cases g : zqM T n ct w m i = true
    · rw [if_pos g, if_pos (hq.mpr g)]
      show (zjM T n ct w m i).2 + 1 = _
      omega
    · rw [if_neg g, if_neg (fun z => g (hq.mp z))]
      omega
theorem zVg_cnt (T : Int → Int) (n : Int) (ct : Int → Bool) (w : Int) (m : Nat) : (zVg T n ct w m).2 = ((zpn (fun p => zqu T ct w p && zGb T n ct m p) m : Nat) : Int) := by
  rw [← zof_sum]
  exact zjM_cnt _ (Nat.le_refl _)
theorem zpn_add {P Q R : Int → Bool} : ∀ m : Nat, (∀ p : Nat, p < m → (R (p : Int) = true ↔ P (p : Int) = true ∨ Q (p : Int) = true) ∧ ¬ (P (p : Int) = true ∧ Q (p : Int) = true)) → zpn R m = zpn P m + zpn Q m
  | 0, _ => rfl
  | m + 1, h => by
    have ih := zpn_add (P := P) (Q := Q) (R := R) m (fun p g => h p (by omega))
    have h1 := h m (by omega)
    show zpn R m + (if R (m : Int) = true then 1 else 0) = zpn P m + (if P (m : Int) = true then 1 else 0) + (zpn Q m + (if Q (m : Int) = true then 1 else 0))
    rw [ih]
    by_cases g1 : P (m : Int) = true
    · have g2 : ¬ Q (m : Int) = true := fun z => h1.2 ⟨g1, z⟩
      rw [if_pos (h1.1.mpr (Or.inl g1)), if_pos g1, if_neg g2]; omega
    · by_cases g2 : Q (m : Int) = true
      · rw [if_pos (h1.1.mpr (Or.inr g2)), if_neg g1, if_pos g2]; omega
      · rw [if_neg (fun z => (h1.1.mp z).elim g1 g2), if_neg g1, if_neg g2]; omega
theorem zpn_congr {P Q : Int → Bool} : ∀ m : Nat, (∀ p : Nat, p < m → (P (p : Int) = true ↔ Q (p : Int) = true)) → zpn P m = zpn Q m
  | 0, _ => rfl
  | m + 1, h => by
    have ih := zpn_congr (P := P) (Q := Q) m (fun p g => h p (by omega))
    show zpn P m + (if P (m : Int) = true then 1 else 0) = zpn Q m + (if Q (m : Int) = true then 1 else 0)
    rw [ih]
    by_cases g : P (m : Int) = true
    · rw [if_pos g, if_pos ((h m (by omega)).mp g)]
    · rw [if_neg g, if_neg (fun z => g ((h m (by omega)).mpr z))]
theorem zgS_cnt {T K : Int → Int} {n : Int} : ∀ v : Nat, zgS T K n v = ((zpn (fun p => decide (0 ≤ T (p * 12 + 1) ∧ T (p * 12 + 1) < (v : Int)) && zGb T n (zcB K n (zlast n (-9)) (-9)) (zlast n (-9) + 1).toNat p) (zlast n (-9) + 1).toNat : Nat) : Int)
  | 0 => by
    have h : ∀ m : Nat, zpn (fun p => decide (0 ≤ T (p * 12 + 1) ∧ T (p * 12 + 1) < ((0 : Nat) : Int)) && zGb T n (zcB K n (zlast n (-9)) (-9)) (zlast n (-9) + 1).toNat p) m = 0 := by
      intro m
      induction m with
      | zero => rfl
      | succ m ih =>
        show zpn _ m + (if _ then 1 else 0) = 0
        rw [ih, if_neg]
        rw [Bool.and_eq_true, decide_eq_true_iff]
        intro z; omega
    rw [h]
    rfl
  | v + 1 => by
    have ih := zgS_cnt (T := T) (K := K) (n := n) v
    show zgS T K n v + (zVg T n (zcB K n (zlast n (-9)) (-9)) (v : Int) (zlast n (-9) + 1).toNat).2 = _
    rw [ih, zVg_cnt]
    rw [zpn_add (P := fun p => decide (0 ≤ T (p * 12 + 1) ∧ T (p * 12 + 1) < (v : Int)) && zGb T n (zcB K n (zlast n (-9)) (-9)) (zlast n (-9) + 1).toNat p) (Q := fun p => zqu T (zcB K n (zlast n (-9)) (-9)) (v : Int) p && zGb T n (zcB K n (zlast n (-9)) (-9)) (zlast n (-9) + 1).toNat p) (R := fun p => decide (0 ≤ T (p * 12 + 1) ∧ T (p * 12 + 1) < ((v + 1 : Nat) : Int)) && zGb T n (zcB K n (zlast n (-9)) (-9)) (zlast n (-9) + 1).toNat p)]
    · omega
    · intro p _
      rw [Bool.and_eq_true, Bool.and_eq_true, Bool.and_eq_true, decide_eq_true_iff, decide_eq_true_iff, zqu_iff]
      constructor
      · constructor
        · rintro ⟨a, b⟩
          have hb := zGd_ct (T := T) (n := n) (ct := zcB K n (zlast n (-9)) (-9)) (m := (zlast n (-9) + 1).toNat) (p := (p : Int)) b
          by_cases g : T ((p : Int) * 12 + 1) = (v : Int)
          · exact Or.inr ⟨⟨hb.1, hb.2, g⟩, b⟩
          · exact Or.inl ⟨by omega, b⟩
        · rintro (⟨a, b⟩ | ⟨⟨-, -, a⟩, b⟩)
          · exact ⟨by omega, b⟩
          · exact ⟨by omega, b⟩
      · rintro ⟨⟨a, -⟩, ⟨-, -, b⟩, -⟩
        omega
theorem zgS_pn {T K : Int → Int} {n nw : Int} (hB : zBv T K n nw) (hnw : 0 ≤ nw) : zgS T K n nw.toNat = ((zpn (zGb T n (zcB K n (zlast n (-9)) (-9)) (zlast n (-9) + 1).toNat) n.toNat : Nat) : Int) := by
  obtain ⟨hn, hT, -, hv, hno, hKs⟩ := hB
  rw [zgS_cnt]
  have e : (zlast n (-9) + 1).toNat = n.toNat := by
    unfold zlast; rw [if_pos rfl]; omega
  rw [show ((nw.toNat : Nat) : Int) = nw by omega]
  have h : zpn (fun p => decide (0 ≤ T (p * 12 + 1) ∧ T (p * 12 + 1) < nw) && zGb T n (zcB K n (zlast n (-9)) (-9)) (zlast n (-9) + 1).toNat p) (zlast n (-9) + 1).toNat = zpn (zGb T n (zcB K n (zlast n (-9)) (-9)) (zlast n (-9) + 1).toNat) (zlast n (-9) + 1).toNat := zpn_congr _ (fun p hp => by
    rw [Bool.and_eq_true, decide_eq_true_iff]
    refine ⟨fun z => z.2, fun z => ⟨?_, z⟩⟩
    have hb := zGd_ct (T := T) (n := n) (ct := zcB K n (zlast n (-9)) (-9)) (m := (zlast n (-9) + 1).toNat) (p := (p : Int)) z
    exact (zvp_34 (hv p (by omega)) hb.2).1)
  rw [h, e]
/-- how many pages are struck -/
def zsk (K : Int → Int) : Nat → Int
  | 0 => 0
  | m + 1 => zsk K m + (if K (m : Int) = -9 then 0 else 1)
theorem zsk_rng (K : Int → Int) : ∀ m : Nat, 0 ≤ zsk K m ∧ zsk K m ≤ (m : Int)
  | 0 => ⟨Int.le_refl _, Int.le_refl _⟩
  | m + 1 => by
    have h := zsk_rng K m
    unfold zsk
    split <;> omega
set_option maxRecDepth 4000 in
theorem c_X6_total (l : Launch) (sc : ZSc) (B : ZBk) (S Z : ZSg) (L : ZLn) (R : ZRd) (M : ZMd) (T K : Int → Int) (n nw : Int) (x : Int) (hB : zBv T K n nw) (hM : zMr T n nw M) (hQ : mWithout M = -9) (hnw : 0 ≤ nw ∧ nw ≤ 12) (hx : (-2147483648 ≤ x ∧ x ≤ 2147483647)) : zMet l m_X6_total [zR 32, zI x] (zw sc B S Z L R M) (fun v h1 => ∃ M1, v = some (zI (if x = 0 then nw else if x = 1 then n else if x = 2 then zsk K n.toNat else if x = 3 then zgS T K n nw.toNat else -2)) ∧ zw sc B S Z L R M1 = h1 ∧ zMk M M1) := by
  refine z_method g_X6_total [some (zR 32), some (zI x), none, none, none] rfl rfl (fun V c => ?_)
  obtain ⟨hn, hT, -, hv, hno, hKs⟩ := id hB
  refine z_go c 3 (s1 := (5, [some (zR 32), some (zI x), none, none, none], [], (zw sc B S Z L R ((0, (mWays M), (mOne M), (mTwo M), (mPages M), (mOrders M)), ((mSort M), (mTold M), (mLast M), (mWithout M), (mIsIn M), (mNeeds M)), ((mPersons M), (mGaps M), (mWeight M), (mSeen M), (mFew M), (mBroken M)), ((mHolds M), (mMany M), (mOrder M), (mIsGood M), (mFar M)))), 0, 0)) rfl trivial ?_
  have hkM0 : zMk M ((0, (mWays M), (mOne M), (mTwo M), (mPages M), (mOrders M)), ((mSort M), (mTold M), (mLast M), (mWithout M), (mIsIn M), (mNeeds M)), ((mPersons M), (mGaps M), (mWeight M), (mSeen M), (mFew M), (mBroken M)), ((mHolds M), (mMany M), (mOrder M), (mIsGood M), (mFar M))) := ⟨rfl, rfl, rfl, rfl⟩
  generalize (((0, (mWays M), (mOne M), (mTwo M), (mPages M), (mOrders M)), ((mSort M), (mTold M), (mLast M), (mWithout M), (mIsIn M), (mNeeds M)), ((mPersons M), (mGaps M), (mWeight M), (mSeen M), (mFew M), (mBroken M)), ((mHolds M), (mMany M), (mOrder M), (mIsGood M), (mFar M))) : ZMd) = M0 at hkM0 ⊢
  have hM0 := zMr_k hM hkM0
  have hQ0 : mWithout M0 = -9 := hkM0.2.2.2.trans hQ
  have eN0 := hM0.1
  have eW0 := hM0.2.1
  refine z_cS c 4 k_6_57 zv_X6_in (pc := 14) (ls := [some (zR 32), some (zI x), none, none, none]) (sk := []) (h := (zw sc B S Z L R M0)) (cs := 0) (ss := 0) (c_X6_in l (zw sc B S Z L R M0) x 0 3 (by omega) (by omega) (by omega)) rfl ⟨(by omega), trivial⟩ rfl ⟨Nat.le_refl _, Nat.le_refl _⟩ ?_
  rintro _ _ ⟨ri11, rfl, ei11, rfl⟩
  show V (14, [some (zR 32), some (zI x), none, none, none], [zI ri11], (zw sc B S Z L R M0), 0, 0)
  refine z_br c 0 (¬ ri11 = 0) (20, [some (zR 32), some (zI x), none, none, none], [], (zw sc B S Z L R M0), 0, 0) (17, [some (zR 32), some (zI x), none, none, none], [], (zw sc B S Z L R M0), 0, 0) rfl ⟨(show (-2147483648 : Int) ≤ ri11 ∧ ri11 ≤ 2147483647 by omega), trivial⟩ (fun h14 => ?_) (fun h14 => ?_)
  · refine z_cV c 2 k_6_155 zv_X6_look (pc := 26) (ls := [some (zR 32), some (zI x), none, none, none]) (sk := []) (h := (zw sc B S Z L R M0)) (cs := 0) (ss := 0) (c_look l sc B S Z L R M0 T K n nw (-9) ((-9)) hB hM0 hQ0 (by omega) (by omega)) rfl trivial rfl rfl ⟨Nat.le_refl _, Nat.le_refl _⟩ ?_
    rintro _ _ ⟨rfl, ML, rfl, hLL, hk9, hfr9⟩
    have hkML := zMk_trans hkM0 hk9
    have hl := zlast_rng (n := n) (a := ((-9))) hn.1 (by omega)
    have eN1 := hLL.1.1
    have eW1 := hLL.1.2.1
    have hvm : ∀ p : Nat, p < ((zlast n (-9)) + 1).toNat → zvp T nw (p : Int) := fun p h => hv p (by omega)
    have el : (zlast n (-9)) = n - 1 := by unfold zlast; rw [if_pos rfl]
    show V (26, [some (zR 32), some (zI x), none, none, none], [], (zw sc B S Z L R ML), 0, 0)
    refine z_go c 4 (s1 := (30, [some (zR 32), some (zI x), some (zI 0), some (zI 0), none], [], (zw sc B S Z L R ML), 0, 0)) rfl trivial ?_
    have loop : ∀ (z m : Nat) (b : Int), n - (m : Int) < (z : Int) → (m : Int) ≤ n → b = zsk K m → V (30, [some (zR 32), some (zI x), some (zI b), some (zI ((m : Int))), none], [], (zw sc B S Z L R ML), 0, 0) := by
      intro z
      induction z with
      | zero => intro m b h1 h2; exfalso; omega
      | succ z ih =>
        intro m b hm1 hm2 hb
        refine z_br c 3 ((mPages ML) ≤ (m : Int)) (61, [some (zR 32), some (zI x), some (zI b), some (zI ((m : Int))), none], [], (zw sc B S Z L R ML), 0, 0) (38, [some (zR 32), some (zI x), some (zI b), some (zI ((m : Int))), none], [], (zw sc B S Z L R ML), 0, 0) rfl ⟨(show ((-2147483648 : Int) ≤ (m : Int) ∧ (m : Int) ≤ 2147483647) ∧ (-2147483648 : Int) ≤ (mPages ML) ∧ (mPages ML) ≤ 2147483647 by omega), trivial⟩ (fun h35 => ?_) (fun h35 => ?_)
        · obtain rfl : m = n.toNat := by omega
          clear ih
          have hskr := zsk_rng K n.toNat
          generalize some (zI (((n.toNat : Nat) : Int))) = x3
          refine z_go c 4 (s1 := (66, [some (zR 32), some (zI x), some (zI b), some (zI 0), some (zI 0)], [], (zw sc B S Z L R ML), 0, 0)) rfl trivial ?_
          have loop2 : ∀ (z m : Nat) (g : Int) (MC : ZMd), n - (m : Int) < (z : Int) → (m : Int) ≤ n → g = ((zpn (zGb T n (zcB K n (zlast n (-9)) (-9)) ((zlast n (-9)) + 1).toNat) m : Nat) : Int) → (x = 3 ∨ m = 0) → zMs ML MC → V (66, [some (zR 32), some (zI x), some (zI b), some (zI g), some (zI ((m : Int)))], [], (zw sc B S Z L R MC), 0, 0) := by
            intro z
            induction z with
            | zero => intro m g MC h1 h2; exfalso; omega
            | succ z ih2 =>
              intro m g MC hm1 hm2 hg hx3 hsC
              have hLC := zLk_ms hLL hsC
              have eWC := hLC.1.2.1
              have eNC := hLC.1.1
              have hkMC := zMk_trans hkML (zMk_ms hsC)
              have hpl := zpn_le (zGb T n (zcB K n (zlast n (-9)) (-9)) ((zlast n (-9)) + 1).toNat) m
              refine z_br c 3 ((mPages MC) ≤ (m : Int)) (125, [some (zR 32), some (zI x), some (zI b), some (zI g), some (zI ((m : Int)))], [], (zw sc B S Z L R MC), 0, 0) (75, [some (zR 32), some (zI x), some (zI b), some (zI g), some (zI ((m : Int)))], [], (zw sc B S Z L R MC), 0, 0) rfl ⟨(show ((-2147483648 : Int) ≤ (m : Int) ∧ (m : Int) ≤ 2147483647) ∧ (-2147483648 : Int) ≤ (mPages MC) ∧ (mPages MC) ≤ 2147483647 by omega), trivial⟩ (fun h72 => ?_) (fun h72 => ?_)
              · refine z_br c 1 (¬ x = 0) (136, [some (zR 32), some (zI x), some (zI b), some (zI g), some (zI ((m : Int)))], [], (zw sc B S Z L R MC), 0, 0) (129, [some (zR 32), some (zI x), some (zI b), some (zI g), some (zI ((m : Int)))], [], (zw sc B S Z L R MC), 0, 0) rfl ⟨(show (-2147483648 : Int) ≤ x ∧ x ≤ 2147483647 by omega), trivial⟩ (fun h126 => ?_) (fun h126 => ?_)
                · refine z_br c 2 (¬ x = 1) (148, [some (zR 32), some (zI x), some (zI b), some (zI g), some (zI ((m : Int)))], [], (zw sc B S Z L R MC), 0, 0) (141, [some (zR 32), some (zI x), some (zI b), some (zI g), some (zI ((m : Int)))], [], (zw sc B S Z L R MC), 0, 0) rfl ⟨(show ((-2147483648 : Int) ≤ x ∧ x ≤ 2147483647) ∧ (-2147483648 : Int) ≤ 1 ∧ 1 ≤ 2147483647 by omega), trivial⟩ (fun h138 => ?_) (fun h138 => ?_)
                  · refine z_br c 2 (¬ x = 2) (157, [some (zR 32), some (zI x), some (zI b), some (zI g), some (zI ((m : Int)))], [], (zw sc B S Z L R MC), 0, 0) (153, [some (zR 32), some (zI x), some (zI b), some (zI g), some (zI ((m : Int)))], [], (zw sc B S Z L R MC), 0, 0) rfl ⟨(show ((-2147483648 : Int) ≤ x ∧ x ≤ 2147483647) ∧ (-2147483648 : Int) ≤ 2 ∧ 2 ≤ 2147483647 by omega), trivial⟩ (fun h150 => ?_) (fun h150 => ?_)
                    · exact z_re c 1 (v := some (zI g)) (h := (zw sc B S Z L R MC)) (cs := 0) (ss := 0) rfl trivial trivial ⟨Nat.le_refl _, Nat.le_refl _⟩ ⟨MC, by obtain rfl : m = n.toNat := (by omega); rw [if_neg (by omega), if_neg (by omega), if_neg (by omega), if_pos (by omega), hg, zgS_pn hB hnw.1], rfl, hkMC⟩
                    · exact z_re c 2 (v := some (zI b)) (h := (zw sc B S Z L R MC)) (cs := 0) (ss := 0) rfl trivial trivial ⟨Nat.le_refl _, Nat.le_refl _⟩ ⟨MC, by rw [if_neg (by omega), if_neg (by omega), if_pos (by omega), hb], rfl, hkMC⟩
                  · exact z_re c 3 (v := some (zI ((mPages MC)))) (h := (zw sc B S Z L R MC)) (cs := 0) (ss := 0) rfl trivial trivial ⟨Nat.le_refl _, Nat.le_refl _⟩ ⟨MC, by rw [if_neg (by omega), if_pos (by omega), eNC], rfl, hkMC⟩
                · exact z_re c 3 (v := some (zI ((mWays MC)))) (h := (zw sc B S Z L R MC)) (cs := 0) (ss := 0) rfl trivial trivial ⟨Nat.le_refl _, Nat.le_refl _⟩ ⟨MC, by rw [if_pos (by omega), eWC], rfl, hkMC⟩
              · refine z_br c 2 (¬ x = 3) (125, [some (zR 32), some (zI x), some (zI b), some (zI g), some (zI ((m : Int)))], [], (zw sc B S Z L R MC), 0, 0) (80, [some (zR 32), some (zI x), some (zI b), some (zI g), some (zI ((m : Int)))], [], (zw sc B S Z L R MC), 0, 0) rfl ⟨(show ((-2147483648 : Int) ≤ x ∧ x ≤ 2147483647) ∧ (-2147483648 : Int) ≤ 3 ∧ 3 ≤ 2147483647 by omega), trivial⟩ (fun h77 => ?_) (fun h77 => ?_)
                · refine z_br c 1 (¬ x = 0) (136, [some (zR 32), some (zI x), some (zI b), some (zI g), some (zI ((m : Int)))], [], (zw sc B S Z L R MC), 0, 0) (129, [some (zR 32), some (zI x), some (zI b), some (zI g), some (zI ((m : Int)))], [], (zw sc B S Z L R MC), 0, 0) rfl ⟨(show (-2147483648 : Int) ≤ x ∧ x ≤ 2147483647 by omega), trivial⟩ (fun h126 => ?_) (fun h126 => ?_)
                  · refine z_br c 2 (¬ x = 1) (148, [some (zR 32), some (zI x), some (zI b), some (zI g), some (zI ((m : Int)))], [], (zw sc B S Z L R MC), 0, 0) (141, [some (zR 32), some (zI x), some (zI b), some (zI g), some (zI ((m : Int)))], [], (zw sc B S Z L R MC), 0, 0) rfl ⟨(show ((-2147483648 : Int) ≤ x ∧ x ≤ 2147483647) ∧ (-2147483648 : Int) ≤ 1 ∧ 1 ≤ 2147483647 by omega), trivial⟩ (fun h138 => ?_) (fun h138 => ?_)
                    · refine z_br c 2 (¬ x = 2) (157, [some (zR 32), some (zI x), some (zI b), some (zI g), some (zI ((m : Int)))], [], (zw sc B S Z L R MC), 0, 0) (153, [some (zR 32), some (zI x), some (zI b), some (zI g), some (zI ((m : Int)))], [], (zw sc B S Z L R MC), 0, 0) rfl ⟨(show ((-2147483648 : Int) ≤ x ∧ x ≤ 2147483647) ∧ (-2147483648 : Int) ≤ 2 ∧ 2 ≤ 2147483647 by omega), trivial⟩ (fun h150 => ?_) (fun h150 => ?_)
                      · exact z_re c 1 (v := some (zI g)) (h := (zw sc B S Z L R MC)) (cs := 0) (ss := 0) rfl trivial trivial ⟨Nat.le_refl _, Nat.le_refl _⟩ ⟨MC, by obtain rfl : m = n.toNat := (by omega); rw [if_neg (by omega), if_neg (by omega), if_neg (by omega), if_pos (by omega), hg, zgS_pn hB hnw.1], rfl, hkMC⟩
                      · exact z_re c 2 (v := some (zI b)) (h := (zw sc B S Z L R MC)) (cs := 0) (ss := 0) rfl trivial trivial ⟨Nat.le_refl _, Nat.le_refl _⟩ ⟨MC, by rw [if_neg (by omega), if_neg (by omega), if_pos (by omega), hb], rfl, hkMC⟩
                    · exact z_re c 3 (v := some (zI ((mPages MC)))) (h := (zw sc B S Z L R MC)) (cs := 0) (ss := 0) rfl trivial trivial ⟨Nat.le_refl _, Nat.le_refl _⟩ ⟨MC, by rw [if_neg (by omega), if_pos (by omega), eNC], rfl, hkMC⟩
                  · exact z_re c 3 (v := some (zI ((mWays MC)))) (h := (zw sc B S Z L R MC)) (cs := 0) (ss := 0) rfl trivial trivial ⟨Nat.le_refl _, Nat.le_refl _⟩ ⟨MC, by rw [if_pos (by omega), eWC], rfl, hkMC⟩
                · have qs := hLC.1.2.2.1 (m : Int) (by omega) (by omega)
                  have qt := hT (m : Int) 0 (by omega) (by omega) (by omega) (by omega)
                  refine z_br c 6 (((mSort MC) ((m : Int))) = 3) (103, [some (zR 32), some (zI x), some (zI b), some (zI g), some (zI ((m : Int)))], [zI g], (zw sc B S Z L R MC), 0, 0) (92, [some (zR 32), some (zI x), some (zI b), some (zI g), some (zI ((m : Int)))], [zI g], (zw sc B S Z L R MC), 0, 0) rfl ⟨(show ((-2147483648 : Int) ≤ ((mSort MC) ((m : Int))) ∧ ((mSort MC) ((m : Int))) ≤ 2147483647) ∧ (-2147483648 : Int) ≤ 3 ∧ 3 ≤ 2147483647 by omega), (show (0 : Int) ≤ (m : Int) ∧ (m : Int) < 100 by omega), trivial⟩ (fun h89 => ?_) (fun h89 => ?_)
                  · refine z_cV c 2 k_6_179 zv_X6_goodOf (pc := 109) (ls := [some (zR 32), some (zI x), some (zI b), some (zI g), some (zI ((m : Int)))]) (sk := [zI g]) (h := (zw sc B S Z L R MC)) (cs := 0) (ss := 0) (c_X6_goodOf l sc B S Z L R MC T K n nw (-9) (zlast n (-9)) (m : Int) hB hLC hl (by omega) (by omega) hnw.2) rfl trivial rfl rfl ⟨Nat.le_refl _, Nat.le_refl _⟩ ?_
                    rintro _ _ ⟨MG, rg, rfl, hrg, rfl, hsG⟩
                    have hrgr : rg = 0 ∨ rg = 1 := by rcases hrg with q | q; exact Or.inr q.2; exact Or.inl q.2
                    show V (109, [some (zR 32), some (zI x), some (zI b), some (zI g), some (zI ((m : Int)))], [zI rg, zI g], (zw sc B S Z L R MG), 0, 0)
                    refine z_br c 0 (rg = 0) (116, [some (zR 32), some (zI x), some (zI b), some (zI g), some (zI ((m : Int)))], [zI g], (zw sc B S Z L R MG), 0, 0) (112, [some (zR 32), some (zI x), some (zI b), some (zI g), some (zI ((m : Int)))], [zI g], (zw sc B S Z L R MG), 0, 0) rfl ⟨(show (-2147483648 : Int) ≤ rg ∧ rg ≤ 2147483647 by omega), trivial⟩ (fun h109 => ?_) (fun h109 => ?_)
                    · refine z_go c 3 (s1 := (119, [some (zR 32), some (zI x), some (zI b), some (zI ((g + 0))), some (zI ((m : Int)))], [], (zw sc B S Z L R MG), 0, 0)) rfl trivial ?_
                      exact z_go c 2 (s1 := (66, [some (zR 32), some (zI x), some (zI b), some (zI ((g + 0))), some (zI (((m : Int) + 1)))], [], (zw sc B S Z L R MG), 0, 0)) rfl trivial (ih2 (m + 1) _ _ (by omega) (by omega) (by rw [hg]; show _ = ((zpn (zGb T n (zcB K n (zlast n (-9)) (-9)) ((zlast n (-9)) + 1).toNat) m + (if (zGb T n (zcB K n (zlast n (-9)) (-9)) ((zlast n (-9)) + 1).toNat) (m : Int) = true then 1 else 0) : Nat) : Int); rw [if_neg (fun q => by rcases hrg with ⟨q1, q2⟩ | ⟨q1, q2⟩; omega; exact q1 q)]; omega) (Or.inl (by omega)) (zMs_trans hsC hsG))
                    · refine z_go c 4 (s1 := (119, [some (zR 32), some (zI x), some (zI b), some (zI ((g + 1))), some (zI ((m : Int)))], [], (zw sc B S Z L R MG), 0, 0)) rfl trivial ?_
                      exact z_go c 2 (s1 := (66, [some (zR 32), some (zI x), some (zI b), some (zI ((g + 1))), some (zI (((m : Int) + 1)))], [], (zw sc B S Z L R MG), 0, 0)) rfl trivial (ih2 (m + 1) _ _ (by omega) (by omega) (by rw [hg]; show _ = ((zpn (zGb T n (zcB K n (zlast n (-9)) (-9)) ((zlast n (-9)) + 1).toNat) m + (if (zGb T n (zcB K n (zlast n (-9)) (-9)) ((zlast n (-9)) + 1).toNat) (m : Int) = true then 1 else 0) : Nat) : Int); rw [if_pos (show (zGb T n (zcB K n (zlast n (-9)) (-9)) ((zlast n (-9)) + 1).toNat) (m : Int) = true by rcases hrg with ⟨q, q2⟩ | ⟨q, q2⟩; exact q; exfalso; omega)]; omega) (Or.inl (by omega)) (zMs_trans hsC hsG))
                  · refine z_br c 5 (¬ ((mSort MC) ((m : Int))) = 4) (116, [some (zR 32), some (zI x), some (zI b), some (zI g), some (zI ((m : Int)))], [zI g], (zw sc B S Z L R MC), 0, 0) (103, [some (zR 32), some (zI x), some (zI b), some (zI g), some (zI ((m : Int)))], [zI g], (zw sc B S Z L R MC), 0, 0) rfl ⟨(show ((-2147483648 : Int) ≤ ((mSort MC) ((m : Int))) ∧ ((mSort MC) ((m : Int))) ≤ 2147483647) ∧ (-2147483648 : Int) ≤ 4 ∧ 4 ≤ 2147483647 by omega), (show (0 : Int) ≤ (m : Int) ∧ (m : Int) < 100 by omega), trivial⟩ (fun h100 => ?_) (fun h100 => ?_)
                    · refine z_go c 3 (s1 := (119, [some (zR 32), some (zI x), some (zI b), some (zI ((g + 0))), some (zI ((m : Int)))], [], (zw sc B S Z L R MC), 0, 0)) rfl trivial ?_
                      exact z_go c 2 (s1 := (66, [some (zR 32), some (zI x), some (zI b), some (zI ((g + 0))), some (zI (((m : Int) + 1)))], [], (zw sc B S Z L R MC), 0, 0)) rfl trivial (ih2 (m + 1) _ _ (by omega) (by omega) (by rw [hg]; show _ = ((zpn (zGb T n (zcB K n (zlast n (-9)) (-9)) ((zlast n (-9)) + 1).toNat) m + (if (zGb T n (zcB K n (zlast n (-9)) (-9)) ((zlast n (-9)) + 1).toNat) (m : Int) = true then 1 else 0) : Nat) : Int); rw [if_neg (fun q => by have q2 := (zGd_ct (T := T) (n := n) (ct := (zcB K n (zlast n (-9)) (-9))) (m := ((zlast n (-9)) + 1).toNat) (p := (m : Int)) q).2; omega)]; omega) (Or.inl (by omega)) hsC)
                    · refine z_cV c 2 k_6_179 zv_X6_goodOf (pc := 109) (ls := [some (zR 32), some (zI x), some (zI b), some (zI g), some (zI ((m : Int)))]) (sk := [zI g]) (h := (zw sc B S Z L R MC)) (cs := 0) (ss := 0) (c_X6_goodOf l sc B S Z L R MC T K n nw (-9) (zlast n (-9)) (m : Int) hB hLC hl (by omega) (by omega) hnw.2) rfl trivial rfl rfl ⟨Nat.le_refl _, Nat.le_refl _⟩ ?_
                      rintro _ _ ⟨MG, rg, rfl, hrg, rfl, hsG⟩
                      have hrgr : rg = 0 ∨ rg = 1 := by rcases hrg with q | q; exact Or.inr q.2; exact Or.inl q.2
                      show V (109, [some (zR 32), some (zI x), some (zI b), some (zI g), some (zI ((m : Int)))], [zI rg, zI g], (zw sc B S Z L R MG), 0, 0)
                      refine z_br c 0 (rg = 0) (116, [some (zR 32), some (zI x), some (zI b), some (zI g), some (zI ((m : Int)))], [zI g], (zw sc B S Z L R MG), 0, 0) (112, [some (zR 32), some (zI x), some (zI b), some (zI g), some (zI ((m : Int)))], [zI g], (zw sc B S Z L R MG), 0, 0) rfl ⟨(show (-2147483648 : Int) ≤ rg ∧ rg ≤ 2147483647 by omega), trivial⟩ (fun h109 => ?_) (fun h109 => ?_)
                      · refine z_go c 3 (s1 := (119, [some (zR 32), some (zI x), some (zI b), some (zI ((g + 0))), some (zI ((m : Int)))], [], (zw sc B S Z L R MG), 0, 0)) rfl trivial ?_
                        exact z_go c 2 (s1 := (66, [some (zR 32), some (zI x), some (zI b), some (zI ((g + 0))), some (zI (((m : Int) + 1)))], [], (zw sc B S Z L R MG), 0, 0)) rfl trivial (ih2 (m + 1) _ _ (by omega) (by omega) (by rw [hg]; show _ = ((zpn (zGb T n (zcB K n (zlast n (-9)) (-9)) ((zlast n (-9)) + 1).toNat) m + (if (zGb T n (zcB K n (zlast n (-9)) (-9)) ((zlast n (-9)) + 1).toNat) (m : Int) = true then 1 else 0) : Nat) : Int); rw [if_neg (fun q => by rcases hrg with ⟨q1, q2⟩ | ⟨q1, q2⟩; omega; exact q1 q)]; omega) (Or.inl (by omega)) (zMs_trans hsC hsG))
                      · refine z_go c 4 (s1 := (119, [some (zR 32), some (zI x), some (zI b), some (zI ((g + 1))), some (zI ((m : Int)))], [], (zw sc B S Z L R MG), 0, 0)) rfl trivial ?_
                        exact z_go c 2 (s1 := (66, [some (zR 32), some (zI x), some (zI b), some (zI ((g + 1))), some (zI (((m : Int) + 1)))], [], (zw sc B S Z L R MG), 0, 0)) rfl trivial (ih2 (m + 1) _ _ (by omega) (by omega) (by rw [hg]; show _ = ((zpn (zGb T n (zcB K n (zlast n (-9)) (-9)) ((zlast n (-9)) + 1).toNat) m + (if (zGb T n (zcB K n (zlast n (-9)) (-9)) ((zlast n (-9)) + 1).toNat) (m : Int) = true then 1 else 0) : Nat) : Int); rw [if_pos (show (zGb T n (zcB K n (zlast n (-9)) (-9)) ((zlast n (-9)) + 1).toNat) (m : Int) = true by rcases hrg with ⟨q, q2⟩ | ⟨q, q2⟩; exact q; exfalso; omega)]; omega) (Or.inl (by omega)) (zMs_trans hsC hsG))
          exact loop2 102 0 _ _ (by omega) (by omega) rfl (Or.inr rfl) (zMs_refl _)
        · have qi := hLL.2.2.1 (m : Int) (by omega) (by omega)
          rw [zcB_iff] at qi
          unfold zct at qi
          have qk := hKs.1 (m : Int) (by omega) (by omega)
          have qr : (mIsIn ML (m : Int) = 1 ∧ K (m : Int) = -9) ∨ (mIsIn ML (m : Int) = 0 ∧ ¬ K (m : Int) = -9) := by
            rcases qi with ⟨g, g2⟩ | ⟨g, g2⟩
            · refine Or.inl ⟨g, ?_⟩
              rcases qk with q1 | ⟨q1, -⟩
              · exact q1
              · omega
            · refine Or.inr ⟨g, fun q1 => g2 ⟨by omega, Or.inl q1⟩⟩
          clear qi
          refine z_br c 5 (((mIsIn ML) ((m : Int))) = 0) (52, [some (zR 32), some (zI x), some (zI b), some (zI ((m : Int))), none], [zI b], (zw sc B S Z L R ML), 0, 0) (48, [some (zR 32), some (zI x), some (zI b), some (zI ((m : Int))), none], [zI b], (zw sc B S Z L R ML), 0, 0) rfl ⟨(show (-2147483648 : Int) ≤ ((mIsIn ML) ((m : Int))) ∧ ((mIsIn ML) ((m : Int))) ≤ 2147483647 by omega), (show (0 : Int) ≤ (m : Int) ∧ (m : Int) < 100 by omega), trivial⟩ (fun h45 => ?_) (fun h45 => ?_)
          · refine z_go c 3 (s1 := (55, [some (zR 32), some (zI x), some (zI ((b + 1))), some (zI ((m : Int))), none], [], (zw sc B S Z L R ML), 0, 0)) rfl trivial ?_
            exact z_go c 2 (s1 := (30, [some (zR 32), some (zI x), some (zI ((b + 1))), some (zI (((m : Int) + 1))), none], [], (zw sc B S Z L R ML), 0, 0)) rfl trivial (ih (m + 1) _ (by omega) (by omega) (by rw [hb]; exact congrArg (fun z => zsk K m + z) (if_neg (show ¬ K (m : Int) = -9 by omega)).symm))
          · refine z_go c 4 (s1 := (55, [some (zR 32), some (zI x), some (zI ((b + 0))), some (zI ((m : Int))), none], [], (zw sc B S Z L R ML), 0, 0)) rfl trivial ?_
            exact z_go c 2 (s1 := (30, [some (zR 32), some (zI x), some (zI ((b + 0))), some (zI (((m : Int) + 1))), none], [], (zw sc B S Z L R ML), 0, 0)) rfl trivial (ih (m + 1) _ (by omega) (by omega) (by rw [hb]; exact congrArg (fun z => zsk K m + z) (if_pos (show K (m : Int) = -9 by omega)).symm))
    exact loop 102 0 _ (by omega) (by omega) rfl
  · exact z_re c 1 (v := some (zI ((-2)))) (h := (zw sc B S Z L R M0)) (cs := 0) (ss := 0) rfl trivial trivial ⟨Nat.le_refl _, Nat.le_refl _⟩ ⟨M0, by rw [if_neg (by omega), if_neg (by omega), if_neg (by omega), if_neg (by omega)], rfl, hkM0⟩
