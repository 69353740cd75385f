/-! WHAT THE BOOK SAYS OF A WAY: folds over its first pages; ct: which of them count -/
/-- the latest statute -/
def zS0 (T : Int → Int) (ct : Int → Bool) : Nat → Int
  | 0 => -9
  | i + 1 => if ct (i : Int) = true ∧ T ((i : Int) * 12 + 0) = 6 then (i : Int) else zS0 T ct i
/-- who went, by just a kind -/
def zwx (T : Int → Int) (ct : Int → Bool) (w k y : Int) : Nat → Nat
  | 0 => 0
  | i + 1 => if ct (i : Int) = true ∧ T ((i : Int) * 12 + 0) = 0 ∧ T ((i : Int) * 12 + 1) = w ∧ T ((i : Int) * 12 + 2) = k ∧ T ((i : Int) * 12 + 3) ≤ y ∧ y ≤ T ((i : Int) * 12 + 4) then zwx T ct w k y i ||| 2 ^ (T ((i : Int) * 12 + 5)).toNat else zwx T ct w k y i
/-- who went, by a kind or a greater one -/
def zwg (T : Int → Int) (ct : Int → Bool) (w k y : Int) : Nat → Nat
  | 0 => 0
  | i + 1 => if ct (i : Int) = true ∧ T ((i : Int) * 12 + 0) = 0 ∧ T ((i : Int) * 12 + 1) = w ∧ k ≤ T ((i : Int) * 12 + 2) ∧ T ((i : Int) * 12 + 3) ≤ y ∧ y ≤ T ((i : Int) * 12 + 4) then zwg T ct w k y i ||| 2 ^ (T ((i : Int) * 12 + 5)).toNat else zwg T ct w k y i
/-- the years that are broken -/
def zbr1 (T : Int → Int) (ct : Int → Bool) (w y : Int) : Nat → Int
  | 0 => 0
  | i + 1 => if ct (i : Int) = true ∧ T ((i : Int) * 12 + 0) = 2 ∧ T ((i : Int) * 12 + 1) = w ∧ T ((i : Int) * 12 + 3) = y then 1 else zbr1 T ct w y i
/-- the weights of just a kind; of a kind or a greater one -/
def zpx (T : Int → Int) (ct : Int → Bool) (w k : Int) : Nat → Int
  | 0 => 0
  | i + 1 => zpx T ct w k i + (if ct (i : Int) = true ∧ T ((i : Int) * 12 + 0) = 1 ∧ T ((i : Int) * 12 + 1) = w ∧ T ((i : Int) * 12 + 2) = k then T ((i : Int) * 12 + 6) else 0)
def zpg (T : Int → Int) (ct : Int → Bool) (w k : Int) : Nat → Int
  | 0 => 0
  | i + 1 => zpg T ct w k i + (if ct (i : Int) = true ∧ T ((i : Int) * 12 + 0) = 1 ∧ T ((i : Int) * 12 + 1) = w ∧ k ≤ T ((i : Int) * 12 + 2) then T ((i : Int) * 12 + 6) else 0)
/-- where a page of a year comes to stand among the orders -/
def zinp (yr : Int → Int) (O : Int → Int) (y : Int) : Nat → Nat
  | 0 => 0
  | c + 1 => if y < yr (O (c : Int)) then zinp yr O y c else c + 1
def zinf (yr : Int → Int) (O : Int → Int) (y p : Int) (c : Nat) : Int → Int := fun j => if j = (zinp yr O y c : Int) then p else if (zinp yr O y c : Int) < j ∧ j ≤ (c : Int) then O (j - 1) else O j
/-- the orders, by year, of one year by page -/
def zof (T : Int → Int) (ct : Int → Bool) (w : Int) : Nat → (Int → Int) × Nat
  | 0 => (fun _ => 0, 0)
  | i + 1 => if ct (i : Int) = true ∧ (T ((i : Int) * 12 + 0) = 3 ∨ T ((i : Int) * 12 + 0) = 4) ∧ T ((i : Int) * 12 + 1) = w then (zinf (fun q => T (q * 12 + 3)) (zof T ct w i).1 (T ((i : Int) * 12 + 3)) (i : Int) (zof T ct w i).2, (zof T ct w i).2 + 1) else zof T ct w i
/-- a page is told as it must be; nw: how many ways there are -/
def zvp (T : Int → Int) (nw p : Int) : Prop :=
  (T (p * 12 + 0) = 0 ∧ (0 ≤ T (p * 12 + 1) ∧ T (p * 12 + 1) < nw) ∧ (0 ≤ T (p * 12 + 2) ∧ T (p * 12 + 2) ≤ 2) ∧ (0 ≤ T (p * 12 + 3) ∧ T (p * 12 + 3) ≤ T (p * 12 + 4) ∧ T (p * 12 + 4) ≤ 100) ∧ (0 ≤ T (p * 12 + 5) ∧ T (p * 12 + 5) ≤ 19)) ∨
  (T (p * 12 + 0) = 1 ∧ (0 ≤ T (p * 12 + 1) ∧ T (p * 12 + 1) < nw) ∧ (0 ≤ T (p * 12 + 2) ∧ T (p * 12 + 2) ≤ 2) ∧ (1 ≤ T (p * 12 + 6) ∧ T (p * 12 + 6) ≤ 9)) ∨
  (T (p * 12 + 0) = 2 ∧ (0 ≤ T (p * 12 + 1) ∧ T (p * 12 + 1) < nw) ∧ (0 ≤ T (p * 12 + 3) ∧ T (p * 12 + 3) ≤ 100)) ∨
  (T (p * 12 + 0) = 3 ∧ (0 ≤ T (p * 12 + 1) ∧ T (p * 12 + 1) < nw) ∧ (0 ≤ T (p * 12 + 3) ∧ T (p * 12 + 3) ≤ 100) ∧ (0 ≤ T (p * 12 + 7) ∧ T (p * 12 + 7) ≤ 365)) ∨
  (T (p * 12 + 0) = 4 ∧ (0 ≤ T (p * 12 + 1) ∧ T (p * 12 + 1) < nw) ∧ (0 ≤ T (p * 12 + 2) ∧ T (p * 12 + 2) ≤ 2) ∧ (0 ≤ T (p * 12 + 3) ∧ T (p * 12 + 3) ≤ 100) ∧ (0 ≤ T (p * 12 + 7) ∧ T (p * 12 + 7) ≤ 365)) ∨
  (T (p * 12 + 0) = 5 ∧ T (p * 12 + 1) = -9 ∧ (0 ≤ T (p * 12 + 8) ∧ T (p * 12 + 8) < p) ∧ ¬ T (T (p * 12 + 8) * 12 + 0) = 5) ∨
  (T (p * 12 + 0) = 6 ∧ T (p * 12 + 1) = -9 ∧ (1 ≤ T (p * 12 + 9) ∧ T (p * 12 + 9) ≤ 40) ∧ (1 ≤ T (p * 12 + 10) ∧ T (p * 12 + 10) ≤ 4) ∧ (0 ≤ T (p * 12 + 11) ∧ T (p * 12 + 11) ≤ 5) ∧ (1 ≤ T (p * 12 + 6) ∧ T (p * 12 + 6) ≤ 30))
/-- bits -/
theorem zwx_bit (T : Int → Int) (ct : Int → Bool) (w k y : Int) (b : Nat) : ∀ i : Nat, (zwx T ct w k y i).testBit b = true ↔ ∃ p : Nat, p < i ∧ (ct (p : Int) = true ∧ T ((p : Int) * 12 + 0) = 0 ∧ T ((p : Int) * 12 + 1) = w ∧ T ((p : Int) * 12 + 2) = k ∧ T ((p : Int) * 12 + 3) ≤ y ∧ y ≤ T ((p : Int) * 12 + 4)) ∧ (T ((p : Int) * 12 + 5)).toNat = b
  | 0 => by simp [zwx]
  | i + 1 => by
    have ih := zwx_bit T ct w k y b i
    unfold zwx
    split
    · rename_i h
      rw [Nat.testBit_or, Bool.or_eq_true, ih, Nat.testBit_two_pow]
      constructor
      · rintro (⟨p, h1, h2⟩ | h1)
        · exact ⟨p, by omega, h2⟩
        · exact ⟨i, by omega, h, by simpa using h1⟩
      · rintro ⟨p, h1, h2, h3⟩
        rcases (show p < i ∨ p = i by omega) with g | g
        · exact Or.inl ⟨p, g, h2, h3⟩
        · subst g; exact Or.inr (by simpa using h3)
    · rename_i h
      rw [ih]
      constructor
      · rintro ⟨p, h1, h2⟩
        exact ⟨p, by omega, h2⟩
      · rintro ⟨p, h1, h2, h3⟩
        rcases (show p < i ∨ p = i by omega) with g | g
        · exact ⟨p, g, h2, h3⟩
        · subst g; exact absurd h2 h
theorem zwg_bit (T : Int → Int) (ct : Int → Bool) (w k y : Int) (b : Nat) : ∀ i : Nat, (zwg T ct w k y i).testBit b = true ↔ ∃ p : Nat, p < i ∧ (ct (p : Int) = true ∧ T ((p : Int) * 12 + 0) = 0 ∧ T ((p : Int) * 12 + 1) = w ∧ k ≤ T ((p : Int) * 12 + 2) ∧ T ((p : Int) * 12 + 3) ≤ y ∧ y ≤ T ((p : Int) * 12 + 4)) ∧ (T ((p : Int) * 12 + 5)).toNat = b
  | 0 => by simp [zwg]
  | i + 1 => by
    have ih := zwg_bit T ct w k y b i
    unfold zwg
    split
    · rename_i h
      rw [Nat.testBit_or, Bool.or_eq_true, ih, Nat.testBit_two_pow]
      constructor
      · rintro (⟨p, h1, h2⟩ | h1)
        · exact ⟨p, by omega, h2⟩
        · exact ⟨i, by omega, h, by simpa using h1⟩
      · rintro ⟨p, h1, h2, h3⟩
        rcases (show p < i ∨ p = i by omega) with g | g
        · exact Or.inl ⟨p, g, h2, h3⟩
        · subst g; exact Or.inr (by simpa using h3)
    · rename_i h
      rw [ih]
      constructor
      · rintro ⟨p, h1, h2⟩
        exact ⟨p, by omega, h2⟩
      · rintro ⟨p, h1, h2, h3⟩
        rcases (show p < i ∨ p = i by omega) with g | g
        · exact ⟨p, g, h2, h3⟩
        · subst g; exact absurd h2 h
theorem zbt_bit (W : Int → Int) (y k : Int) (b : Nat) : ∀ m : Nat, (zbt W y k m).testBit b = true ↔ ∃ j : Nat, j < m ∧ ((W ((k + (j : Int)) * 101 + y)).toNat).testBit b = true
  | 0 => by simp [zbt]
  | m + 1 => by
    have ih := zbt_bit W y k b m
    show (zbt W y k m ||| (W ((k + (m : Int)) * 101 + y)).toNat).testBit b = true ↔ _
    rw [Nat.testBit_or, Bool.or_eq_true, ih]
    constructor
    · rintro (⟨j, h1, h2⟩ | h1)
      · exact ⟨j, by omega, h2⟩
      · exact ⟨m, by omega, h1⟩
    · rintro ⟨j, h1, h2⟩
      rcases (show j < m ∨ j = m by omega) with g | g
      · exact Or.inl ⟨j, g, h2⟩
      · subst g; exact Or.inr h2
theorem zwx_lt {T : Int → Int} {ct : Int → Bool} {w k y nw : Int} : ∀ i : Nat, (∀ p : Nat, p < i → zvp T nw (p : Int)) → zwx T ct w k y i < 2 ^ 20
  | 0, _ => by show (0 : Nat) < 2 ^ 20; decide
  | i + 1, hv => by
    have ih := zwx_lt (T := T) (ct := ct) (w := w) (k := k) (y := y) (nw := nw) i (fun p h => hv p (by omega))
    unfold zwx
    split
    · rename_i h
      have h5 : T ((i : Int) * 12 + 5) ≤ 19 := by
        have := hv i (by omega)
        unfold zvp at this
        omega
      exact Nat.or_lt_two_pow ih (Nat.pow_lt_pow_right (by decide) (by omega))
    · exact ih
/-- the rows of the kinds together give those of a kind or a greater one -/
theorem zbt_all {T : Int → Int} {ct : Int → Bool} {w k y nw : Int} {i : Nat} (hv : ∀ p : Nat, p < i → zvp T nw (p : Int)) {W : Int → Int} (hk : 0 ≤ k ∧ k ≤ 2) (hW : ∀ k2, 0 ≤ k2 → k2 ≤ 2 → W (k2 * 101 + y) = ((zwx T ct w k2 y i : Nat) : Int)) : zbt W y k (3 - k).toNat = zwg T ct w k y i := by
  apply Nat.eq_of_testBit_eq
  intro b
  apply Bool.eq_iff_iff.mpr
  rw [zbt_bit, zwg_bit]
  constructor
  · rintro ⟨j, h1, h2⟩
    rw [hW (k + (j : Int)) (by omega) (by omega), Int.toNat_natCast, zwx_bit] at h2
    obtain ⟨p, g1, ⟨g2, g3, g4, g5, g6⟩, g7⟩ := h2
    exact ⟨p, g1, ⟨g2, g3, g4, by omega, g6⟩, g7⟩
  · rintro ⟨p, g1, ⟨g2, g3, g4, g5, g6⟩, g7⟩
    have h2 : T ((p : Int) * 12 + 2) ≤ 2 := by
      have := hv p g1
      unfold zvp at this
      omega
    refine ⟨(T ((p : Int) * 12 + 2) - k).toNat, by omega, ?_⟩
    have e : k + ((T ((p : Int) * 12 + 2) - k).toNat : Int) = T ((p : Int) * 12 + 2) := by omega
    rw [e, hW _ (by omega) h2, Int.toNat_natCast, zwx_bit]
    exact ⟨p, g1, ⟨g2, g3, g4, rfl, g6⟩, g7⟩
/-- weights -/
theorem zwm_add {A C : Int → Int} {x kk k : Int} (h : ∀ j, C j = A j + (if j = kk then x else 0)) : ∀ m : Nat, zwm C k m = zwm A k m + (if k ≤ kk ∧ kk < k + (m : Int) then x else 0)
  | 0 => by
    show (0 : Int) = 0 + _
    rw [if_neg (by omega)]; rfl
  | m + 1 => by
    show zwm C k m + C (k + (m : Int)) = zwm A k m + A (k + (m : Int)) + _
    rw [zwm_add h m, h]
    by_cases g : k + (m : Int) = kk
    · rw [if_pos g, if_neg (by omega), if_pos (by omega)]; omega
    · rw [if_neg g]
      by_cases g2 : k ≤ kk ∧ kk < k + (m : Int)
      · rw [if_pos g2, if_pos (by omega)]; omega
      · rw [if_neg g2, if_neg (by omega)]; omega
theorem zwm_cong {A C : Int → Int} {k : Int} : ∀ m : Nat, (∀ j, k ≤ j → j < k + (m : Int) → A j = C j) → zwm A k m = zwm C k m
  | 0, _ => rfl
  | m + 1, h => by
    show zwm A k m + A (k + (m : Int)) = zwm C k m + C (k + (m : Int))
    rw [zwm_cong m (fun j a b => h j a (by omega)), h _ (by omega) (by omega)]
theorem zpx_all {T : Int → Int} {ct : Int → Bool} {w k nw : Int} (hk : 0 ≤ k ∧ k ≤ 2) : ∀ i : Nat, (∀ p : Nat, p < i → zvp T nw (p : Int)) → zwk (fun j => zpx T ct w j i) k = zpg T ct w k i
  | 0, _ => by
    have h : ∀ m : Nat, zwm (fun j => zpx T ct w j 0) k m = 0 := by
      intro m
      induction m with
      | zero => rfl
      | succ m ih =>
        show zwm (fun j => zpx T ct w j 0) k m + 0 = 0
        omega
    exact h _
  | i + 1, hv => by
    have ih := zpx_all (T := T) (ct := ct) (w := w) (nw := nw) hk i (fun p h => hv p (by omega))
    unfold zwk at ih ⊢
    by_cases h : ct (i : Int) = true ∧ T ((i : Int) * 12 + 0) = 1 ∧ T ((i : Int) * 12 + 1) = w
    · have hb : 0 ≤ T ((i : Int) * 12 + 2) ∧ T ((i : Int) * 12 + 2) ≤ 2 := by
        have := hv i (by omega)
        unfold zvp at this
        omega
      rw [zwm_add (A := fun j => zpx T ct w j i) (kk := T ((i : Int) * 12 + 2)) (x := T ((i : Int) * 12 + 6)) (fun j => ?_), ih]
      · show _ = zpg T ct w k i + _
        by_cases g : k ≤ T ((i : Int) * 12 + 2)
        · rw [if_pos (by omega), if_pos ⟨h.1, h.2.1, h.2.2, g⟩]
        · rw [if_neg (by omega), if_neg (fun z => g z.2.2.2)]
      · show zpx T ct w j i + _ = _
        by_cases g : j = T ((i : Int) * 12 + 2)
        · rw [if_pos g, if_pos ⟨h.1, h.2.1, h.2.2, g.symm⟩]
        · rw [if_neg g, if_neg (fun z => g z.2.2.2.symm)]
    · rw [zwm_cong (C := fun j => zpx T ct w j i) _ (fun j _ _ => ?_), ih]
      · show _ = zpg T ct w k i + _
        rw [if_neg (fun z => h ⟨z.1, z.2.1, z.2.2.1⟩)]
        omega
      · show zpx T ct w j i + _ = _
        rw [if_neg (fun z => h ⟨z.1, z.2.1, z.2.2.1⟩)]
        omega
