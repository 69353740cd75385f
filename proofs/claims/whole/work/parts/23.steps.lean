/-! a sight after the first m pages -/
theorem zinp_cong {yr yr' O O' : Int → Int} {y : Int} : ∀ c : Nat, (∀ j, 0 ≤ j → j < (c : Int) → yr (O j) = yr' (O' j)) → zinp yr O y c = zinp yr' O' y c
  | 0, _ => rfl
  | c + 1, h => by
    show (if y < yr (O (c : Int)) then zinp yr O y c else c + 1) = (if y < yr' (O' (c : Int)) then zinp yr' O' y c else c + 1)
    rw [zinp_cong c (fun j a b => h j a (by omega)), h (c : Int) (by omega) (by omega)]
def zSp (T : Int → Int) (ct : Int → Bool) (w : Int) (m : Nat) (W b SW O : Int → Int) (oc : Int) (R : Int → Int) : Prop :=
  (∀ k y, 0 ≤ k → k ≤ 2 → 0 ≤ y → y ≤ 100 → W (k * 101 + y) = ((zwx T ct w k y m : Nat) : Int)) ∧
  (∀ y, 0 ≤ y → y ≤ 100 → b y = zbr1 T ct w y m) ∧
  (∀ k, 0 ≤ k → k ≤ 2 → SW k = zpx T ct w k m) ∧
  (oc = ((zof T ct w m).2 : Int) ∧ ∀ j, 0 ≤ j → j < oc → O j = (zof T ct w m).1 j) ∧
  (∀ k, 0 ≤ k → k ≤ 2 → R k = 0)
theorem zSp_no {T : Int → Int} {ct : Int → Bool} {w : Int} {m : Nat} {W b SW O : Int → Int} {oc : Int} {R : Int → Int} (h : zSp T ct w m W b SW O oc R) (hn : ¬ (ct (m : Int) = true ∧ T ((m : Int) * 12 + 1) = w)) : zSp T ct w (m + 1) W b SW O oc R := by
  obtain ⟨h1, h2, h3, h4, h5⟩ := h
  refine ⟨fun k y a b c d => ?_, fun y a b => ?_, fun k a b => ?_, ?_, h5⟩
  · rw [h1 k y a b c d]
    show _ = (((if _ then _ else _ : Nat)) : Int)
    rw [if_neg (fun z => hn ⟨z.1, z.2.2.1⟩)]
  · rw [h2 y a b]
    show _ = (if _ then _ else _)
    rw [if_neg (fun z => hn ⟨z.1, z.2.2.1⟩)]
  · rw [h3 k a b]
    show _ = _ + (if _ then _ else _)
    rw [if_neg (fun z => hn ⟨z.1, z.2.2.1⟩), Int.add_zero]
  · have e : zof T ct w (m + 1) = zof T ct w m := by
      show (if _ then _ else _) = _
      rw [if_neg (fun z => hn ⟨z.1, z.2.2⟩)]
    rw [e]
    exact h4
theorem zof_skip {T : Int → Int} {ct : Int → Bool} {w : Int} {m : Nat} (h : ¬ (T ((m : Int) * 12 + 0) = 3 ∨ T ((m : Int) * 12 + 0) = 4)) : zof T ct w (m + 1) = zof T ct w m := by
  show (if _ then _ else _) = _
  rw [if_neg (fun z => h z.2.1)]
theorem zSp_walk {T : Int → Int} {ct : Int → Bool} {w : Int} {m : Nat} {W b SW O : Int → Int} {oc : Int} {R : Int → Int} (h : zSp T ct w m W b SW O oc R) (hc : ct (m : Int) = true) (hw : T ((m : Int) * 12 + 1) = w) (h0 : T ((m : Int) * 12 + 0) = 0) {k f t x : Int} (ek : T ((m : Int) * 12 + 2) = k) (ef : T ((m : Int) * 12 + 3) = f) (et : T ((m : Int) * 12 + 4) = t) (ex : T ((m : Int) * 12 + 5) = x) (hk : 0 ≤ k ∧ k ≤ 2) (hf : 0 ≤ f ∧ f ≤ t ∧ t ≤ 100) : zSp T ct w (m + 1) (zaw W (k * 101 + f) ((2 ^ x.toNat : Nat) : Int) (k * 101 + t + 1)) b SW O oc R := by
  obtain ⟨h1, h2, h3, h4, h5⟩ := h
  refine ⟨fun k2 y a b c d => ?_, fun y a b => ?_, fun k2 a b => ?_, ?_, h5⟩
  · show (if k * 101 + f ≤ k2 * 101 + y ∧ k2 * 101 + y < k * 101 + t + 1 then ((((W (k2 * 101 + y)).toNat ||| (((2 ^ x.toNat : Nat) : Int)).toNat : Nat)) : Int) else W (k2 * 101 + y)) = (((if ct (m : Int) = true ∧ T ((m : Int) * 12 + 0) = 0 ∧ T ((m : Int) * 12 + 1) = w ∧ T ((m : Int) * 12 + 2) = k2 ∧ T ((m : Int) * 12 + 3) ≤ y ∧ y ≤ T ((m : Int) * 12 + 4) then zwx T ct w k2 y m ||| 2 ^ (T ((m : Int) * 12 + 5)).toNat else zwx T ct w k2 y m : Nat)) : Int)
    rw [h1 k2 y a b c d, Int.toNat_natCast, Int.toNat_natCast, ex]
    by_cases g : k2 = k ∧ f ≤ y ∧ y ≤ t
    · rw [if_pos (by omega), if_pos ⟨hc, h0, hw, by omega, by omega, by omega⟩]
    · rw [if_neg (by omega), if_neg (fun z => g (by omega))]
  · rw [h2 y a b]
    show _ = (if _ then _ else _)
    rw [if_neg (fun z => by omega)]
  · rw [h3 k2 a b]
    show _ = _ + (if _ then _ else _)
    rw [if_neg (fun z => by omega), Int.add_zero]
  · rw [zof_skip (by omega)]
    exact h4
theorem zSp_paper {T : Int → Int} {ct : Int → Bool} {w : Int} {m : Nat} {W b SW O : Int → Int} {oc : Int} {R : Int → Int} (h : zSp T ct w m W b SW O oc R) (hc : ct (m : Int) = true) (hw : T ((m : Int) * 12 + 1) = w) (h0 : T ((m : Int) * 12 + 0) = 1) {k x : Int} (ek : T ((m : Int) * 12 + 2) = k) (ex : T ((m : Int) * 12 + 6) = x) (hk : 0 ≤ k ∧ k ≤ 2) : zSp T ct w (m + 1) W b (zup SW k (SW k + x)) O oc R := by
  obtain ⟨h1, h2, h3, h4, h5⟩ := h
  refine ⟨fun k2 y a b c d => ?_, fun y a b => ?_, fun k2 a b => ?_, ?_, h5⟩
  · rw [h1 k2 y a b c d]
    show _ = (((if _ then _ else _ : Nat)) : Int)
    rw [if_neg (fun z => by omega)]
  · rw [h2 y a b]
    show _ = (if _ then _ else _)
    rw [if_neg (fun z => by omega)]
  · show (if k2 = k then SW k + x else SW k2) = zpx T ct w k2 m + (if ct (m : Int) = true ∧ T ((m : Int) * 12 + 0) = 1 ∧ T ((m : Int) * 12 + 1) = w ∧ T ((m : Int) * 12 + 2) = k2 then T ((m : Int) * 12 + 6) else 0)
    by_cases g : k2 = k
    · rw [if_pos g, if_pos ⟨hc, h0, hw, by omega⟩, ex, g, h3 k hk.1 hk.2]
    · rw [if_neg g, if_neg (fun z => g (by omega)), h3 k2 a b, Int.add_zero]
  · rw [zof_skip (by omega)]
    exact h4
theorem zSp_break {T : Int → Int} {ct : Int → Bool} {w : Int} {m : Nat} {W b SW O : Int → Int} {oc : Int} {R : Int → Int} (h : zSp T ct w m W b SW O oc R) (hc : ct (m : Int) = true) (hw : T ((m : Int) * 12 + 1) = w) (h0 : T ((m : Int) * 12 + 0) = 2) {f : Int} (ef : T ((m : Int) * 12 + 3) = f) : zSp T ct w (m + 1) W (zup b f 1) SW O oc R := by
  obtain ⟨h1, h2, h3, h4, h5⟩ := h
  refine ⟨fun k2 y a b c d => ?_, fun y a b => ?_, fun k2 a b => ?_, ?_, h5⟩
  · rw [h1 k2 y a b c d]
    show _ = (((if _ then _ else _ : Nat)) : Int)
    rw [if_neg (fun z => by omega)]
  · show (if y = f then 1 else _) = (if ct (m : Int) = true ∧ T ((m : Int) * 12 + 0) = 2 ∧ T ((m : Int) * 12 + 1) = w ∧ T ((m : Int) * 12 + 3) = y then 1 else zbr1 T ct w y m)
    by_cases g : y = f
    · rw [if_pos g, if_pos ⟨hc, h0, hw, by omega⟩]
    · rw [if_neg g, if_neg (fun z => g (by omega)), h2 y a b]
  · rw [h3 k2 a b]
    show _ = _ + (if _ then _ else _)
    rw [if_neg (fun z => by omega), Int.add_zero]
  · rw [zof_skip (by omega)]
    exact h4
theorem zSp_order {T : Int → Int} {ct : Int → Bool} {w n : Int} {m : Nat} {W b SW O : Int → Int} {oc : Int} {R : Int → Int} (h : zSp T ct w m W b SW O oc R) (hc : ct (m : Int) = true) (hw : T ((m : Int) * 12 + 1) = w) (h0 : T ((m : Int) * 12 + 0) = 3 ∨ T ((m : Int) * 12 + 0) = 4) (hm : (m : Int) < n) {f : Int} (ef : T ((m : Int) * 12 + 3) = f) : zSp T ct w (m + 1) W b SW (zinf (fun q => zrd T n q 3) O f (m : Int) oc.toNat) (oc + 1) R := by
  obtain ⟨h1, h2, h3, ⟨h4, h6⟩, h5⟩ := h
  refine ⟨fun k2 y a b c d => ?_, fun y a b => ?_, fun k2 a b => ?_, ?_, h5⟩
  · rw [h1 k2 y a b c d]
    show _ = (((if _ then _ else _ : Nat)) : Int)
    rw [if_neg (fun z => by omega)]
  · rw [h2 y a b]
    show _ = (if _ then _ else _)
    rw [if_neg (fun z => by omega)]
  · rw [h3 k2 a b]
    show _ = _ + (if _ then _ else _)
    rw [if_neg (fun z => by omega), Int.add_zero]
  · have e : zof T ct w (m + 1) = (zinf (fun q => T (q * 12 + 3)) (zof T ct w m).1 (T ((m : Int) * 12 + 3)) (m : Int) (zof T ct w m).2, (zof T ct w m).2 + 1) := by
      show (if _ then _ else _) = _
      rw [if_pos ⟨hc, h0, hw⟩]
    rw [e]
    have e2 : oc.toNat = (zof T ct w m).2 := by omega
    have e3 : zinp (fun q => zrd T n q 3) O f (zof T ct w m).2 = zinp (fun q => T (q * 12 + 3)) (zof T ct w m).1 f (zof T ct w m).2 := zinp_cong _ (fun j a b => by
      have g := (zof_mem m j a b).1
      rw [h6 j a (by omega)]
      exact zrd_in ⟨⟨by omega, by omega⟩, by decide, by decide⟩)
    refine ⟨by dsimp only; omega, fun j a b => ?_⟩
    dsimp only
    rw [ef, e2]
    unfold zinf
    rw [e3]
    by_cases g : j = (zinp (fun q => T (q * 12 + 3)) (zof T ct w m).1 f (zof T ct w m).2 : Int)
    · rw [if_pos g, if_pos g]
    · rw [if_neg g, if_neg g]
      have hl := zinp_le (fun q => T (q * 12 + 3)) (zof T ct w m).1 f (zof T ct w m).2
      by_cases g2 : (zinp (fun q => T (q * 12 + 3)) (zof T ct w m).1 f (zof T ct w m).2 : Int) < j ∧ j ≤ ((zof T ct w m).2 : Int)
      · rw [if_pos g2, if_pos g2, h6 (j - 1) (by omega) (by omega)]
      · rw [if_neg g2, if_neg g2, h6 j a (by omega)]
/-- a page counts, as a question that is decided -/
def zcB (K : Int → Int) (n l q : Int) : Int → Bool := fun p => decide ((0 ≤ p ∧ p < n ∧ p ≤ l ∧ ¬ p = q) ∧ (K p = -9 ∨ l < K p ∨ K p = q))
theorem zcB_iff {K : Int → Int} {n l q p : Int} : zcB K n l q p = true ↔ zct K n p l q := decide_eq_true_iff
/-- a sight of a way, done -/
def zSi (T : Int → Int) (n : Int) (ct : Int → Bool) (m : Nat) (w : Int) (S : ZSg) : Prop :=
  (∀ k y, 0 ≤ k → k ≤ 2 → 0 ≤ y → y ≤ 100 → pW (sP S) (k * 101 + y) = zVW T ct w m (k * 101 + y)) ∧
  (∀ y, 0 ≤ y → y ≤ 100 → pB (sP S) y = zVB T ct w m y) ∧
  (pN (sP S) = zVN T ct m ∧ pP (sP S) = zVP T ct m ∧ pG (sP S) = zVG T ct m ∧ sWn S = zVn T ct m) ∧
  (∀ k, 0 ≤ k → k ≤ 2 → sW S k = zVS T ct w m k) ∧
  (sGc S = (zVg T n ct w m).2 ∧ ∀ i, 0 ≤ i → i < sGc S → sG S i = (zVg T n ct w m).1 i) ∧
  zrk (pW (sP S)) (pL (sP S)) (pE (sP S)) (pR (sP S)) (pB (sP S)) (pN (sP S)) (pP (sP S)) (pG (sP S))
theorem zwr_of {T : Int → Int} {ct : Int → Bool} {w nw : Int} {m : Nat} {W : Int → Int} (hv : ∀ p : Nat, p < m → zvp T nw (p : Int)) (h : ∀ k y, 0 ≤ k → k ≤ 2 → 0 ≤ y → y ≤ 100 → W (k * 101 + y) = ((zwx T ct w k y m : Nat) : Int)) : zwr W := by
  intro j h1 h2
  have e := h (j / 101) (j % 101) (by omega) (by omega) (by omega) (by omega)
  rw [show j / 101 * 101 + j % 101 = j by omega] at e
  have hl := zwx_lt (ct := ct) (w := w) (k := j / 101) (y := j % 101) m hv
  omega
theorem zbr1_rng (T : Int → Int) (ct : Int → Bool) (w y : Int) : ∀ m : Nat, 0 ≤ zbr1 T ct w y m ∧ zbr1 T ct w y m ≤ 1
  | 0 => ⟨Int.le_refl _, by show (0 : Int) ≤ 1; decide⟩
  | m + 1 => by
    have ih := zbr1_rng T ct w y m
    unfold zbr1
    split <;> omega
theorem zpx_rng {T : Int → Int} {ct : Int → Bool} {w k nw : Int} : ∀ m : Nat, (∀ p : Nat, p < m → zvp T nw (p : Int)) → 0 ≤ zpx T ct w k m ∧ zpx T ct w k m ≤ 9 * (m : Int)
  | 0, _ => ⟨Int.le_refl _, Int.le_refl _⟩
  | m + 1, hv => by
    have ih := zpx_rng (T := T) (ct := ct) (w := w) (k := k) (nw := nw) m (fun p h => hv p (by omega))
    have h := hv m (by omega)
    unfold zpx
    split
    · rename_i g
      unfold zvp at h
      omega
    · omega
theorem zVg_rng {T : Int → Int} {n : Int} {ct : Int → Bool} {w : Int} {m : Nat} : (0 ≤ (zVg T n ct w m).2 ∧ (zVg T n ct w m).2 ≤ ((zof T ct w m).2 : Int)) ∧ ∀ i, 0 ≤ i → i < (zVg T n ct w m).2 → 0 ≤ (zVg T n ct w m).1 i ∧ (zVg T n ct w m).1 i < (m : Int) := by
  unfold zVg
  exact zjg_rng _ (fun j a b => (zof_mem m j a b).1)
/-- what a sight's own numbers are, from what it is a sight of -/
theorem zSi_rng {T : Int → Int} {n : Int} {ct : Int → Bool} {m : Nat} {w nw : Int} {S : ZSg} (h : zSi T n ct m w S) (hv : ∀ p : Nat, p < m → zvp T nw (p : Int)) (hm : m ≤ 100) (hno : zno T m ≤ 20) : zsr (sP S) ∧ zwr (pW (sP S)) ∧ (∀ y, 0 ≤ y → y ≤ 100 → 0 ≤ pB (sP S) y ∧ pB (sP S) y ≤ 1) ∧ (0 ≤ sWn S ∧ sWn S ≤ 1000) ∧ (∀ j, 0 ≤ j → j ≤ 2 → 0 ≤ sW S j ∧ sW S j ≤ 1000) ∧ (0 ≤ sGc S ∧ sGc S ≤ 20) ∧ (∀ i, 0 ≤ i → i < sGc S → -9 ≤ sG S i ∧ sG S i < 100) := by
  obtain ⟨h1, h2, ⟨h3, h4, h5, h6⟩, h7, ⟨h8, h9⟩, -⟩ := h
  have hs := zst_rng (ct := ct) hv
  have hg := zVg_rng (T := T) (n := n) (ct := ct) (w := w) (m := m)
  have hn := zof_no T ct w m
  refine ⟨by unfold zsr; omega, zwr_of hv (fun k y a b c d => by rw [h1 k y a b c d, zVW_at T ct w m a ⟨c, d⟩]), fun y a b => ?_, by omega, fun j a b => ?_, by omega, fun i a b => ?_⟩
  · rw [h2 y a b]
    exact zbr1_rng T ct w y m
  · rw [h7 j a b]
    have := zpx_rng (ct := ct) (w := w) (k := j) m hv
    unfold zVS
    omega
  · rw [h9 i a b]
    have := hg.2 i a (by omega)
    omega
/-- the ground of a sight is what the book says -/
theorem zSi_gr {T : Int → Int} {n : Int} {ct : Int → Bool} {m : Nat} {w nw : Int} {S : ZSg} (h : zSi T n ct m w S) (hv : ∀ p : Nat, p < m → zvp T nw (p : Int)) {k y : Int} (hk : 0 ≤ k ∧ k ≤ 2) (hy : 0 ≤ y ∧ y ≤ 100) : zgr T n (pW (sP S)) (pB (sP S)) (pN (sP S)) (pP (sP S)) (pG (sP S)) (sW S) (sG S) (sGc S) (sWn S) k y = zfs T n ct w m k y := by
  obtain ⟨h1, h2, ⟨h3, h4, h5, h6⟩, h7, ⟨h8, h9⟩, -⟩ := h
  have hs := zst_rng (ct := ct) hv
  unfold zfs
  rw [h3, h4, h5, h6, ← h8]
  refine zgr_cong h1 h2 (by omega) h7 h9 ?_ hk hy
  rw [h8]
  exact (zVg_rng (T := T) (n := n) (ct := ct) (w := w) (m := m)).1.1
