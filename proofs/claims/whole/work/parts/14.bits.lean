/-! how many bits stand: by places, and as the library counts them -/
def zpop : Nat → Nat → Nat
  | 0, _ => 0
  | k + 1, x => zpop k x + x / 2 ^ k % 2
theorem zland {k a m : Nat} (b n : Nat) (ha : a < 2 ^ k) (hm : m < 2 ^ k) : (2 ^ k * b + a) &&& (2 ^ k * n + m) = 2 ^ k * (b &&& n) + (a &&& m) := by
  have hlt : a &&& m < 2 ^ k := Nat.lt_of_le_of_lt Nat.and_le_left ha
  apply Nat.eq_of_testBit_eq
  intro j
  rw [Nat.testBit_and, Nat.testBit_two_pow_mul_add b ha j, Nat.testBit_two_pow_mul_add n hm j, Nat.testBit_two_pow_mul_add (b &&& n) hlt j]
  by_cases h : j < k
  · rw [if_pos h, if_pos h, if_pos h, Nat.testBit_and]
  · rw [if_neg h, if_neg h, if_neg h, Nat.testBit_and]
theorem zland3 {a b p q : Nat} (c r : Nat) (ha : a < 256) (hb : b < 256) (hp : p < 256) (hq : q < 256) : (65536 * c + 256 * b + a) &&& (65536 * r + 256 * q + p) = 65536 * (c &&& r) + 256 * (b &&& q) + (a &&& p) := by
  have e1 : 65536 * c + 256 * b + a = 2 ^ 8 * (2 ^ 8 * c + b) + a := by omega
  have e2 : 65536 * r + 256 * q + p = 2 ^ 8 * (2 ^ 8 * r + q) + p := by omega
  rw [e1, e2, zland (k := 8) _ _ ha hp, zland (k := 8) _ _ hb hq]
  omega
def zs1 (a : Nat) : Nat := a - ((a / 2) &&& 85)
def zs2 (a : Nat) : Nat := (zs1 a &&& 51) + ((zs1 a / 4) &&& 51)
theorem zl1 : ∀ a, a < 256 → ∀ t, t < 2 → (a / 2 + 128 * t) &&& 85 = (a / 2) &&& 85 ∧ (a / 2) &&& 85 ≤ a := by decide +kernel
theorem zl2 : ∀ a, a < 256 → ∀ t, t < 4 → (a / 4 + 64 * t) &&& 51 = (a / 4) &&& 51 := by decide +kernel
theorem zl3 : ∀ a, a < 256 → zs1 a < 256 ∧ zs2 a ≤ 68 ∧ zs2 a % 16 ≤ 4 := by decide +kernel
theorem zl4 : ∀ a, a < 256 → ∀ t, t ≤ 4 → (zs2 a + zs2 a / 16 + 16 * t) &&& 15 = zpop 8 a := by decide +kernel
theorem zl5 : ∀ c, c < 16 → (c / 2) &&& 21845 = (c / 2) &&& 85 ∧ (zs1 c) &&& 13107 = zs1 c &&& 51 ∧ (zs1 c / 4) &&& 13107 = (zs1 c / 4) &&& 51 ∧ (zs2 c + zs2 c / 16) &&& 3855 = zpop 4 c ∧ zpop 4 c ≤ 4 := by decide +kernel
theorem zl6 : ∀ a, a < 256 → zpop 8 a ≤ 8 := by decide +kernel
theorem zpop_add (k x : Nat) : ∀ j, zpop (k + j) x = zpop k x + zpop j (x / 2 ^ k)
  | 0 => rfl
  | j + 1 => by
    show zpop (k + j) x + x / 2 ^ (k + j) % 2 = zpop k x + (zpop j (x / 2 ^ k) + x / 2 ^ k / 2 ^ j % 2)
    rw [zpop_add k x j, Nat.div_div_eq_div_mul, ← Nat.pow_add]
    omega
theorem zpop_lo {k a : Nat} (b : Nat) (ha : a < 2 ^ k) : ∀ i, i ≤ k → zpop i (2 ^ k * b + a) = zpop i a
  | 0, _ => rfl
  | i + 1, h => by
    show zpop i (2 ^ k * b + a) + (2 ^ k * b + a) / 2 ^ i % 2 = zpop i a + a / 2 ^ i % 2
    rw [zpop_lo b ha i (by omega), ← Nat.toNat_testBit, ← Nat.toNat_testBit, Nat.testBit_two_pow_mul_add b ha i, if_pos (by omega)]
theorem zpop_split {a b c : Nat} (ha : a < 256) (hb : b < 256) : zpop 20 (65536 * c + 256 * b + a) = zpop 8 a + zpop 8 b + zpop 4 c := by
  have e1 : 65536 * c + 256 * b + a = 2 ^ 8 * (2 ^ 8 * c + b) + a := by omega
  have e2 : (2 ^ 8 * (2 ^ 8 * c + b) + a) / 2 ^ 8 = 2 ^ 8 * c + b := by omega
  have e3 : (2 ^ 8 * c + b) / 2 ^ 8 = c := by omega
  rw [e1, show (20 : Nat) = 8 + 12 from rfl, zpop_add 8 _ 12, zpop_lo _ ha 8 (Nat.le_refl _), e2, show (12 : Nat) = 8 + 4 from rfl, zpop_add 8 _ 4, zpop_lo _ hb 8 (Nat.le_refl _), e3]
  omega
theorem zl7 {x y z : Nat} (hx : x ≤ 4) (hy : y ≤ 8) (hz : z ≤ 8) : (65536 * x + 256 * y + z + (65536 * x + 256 * y + z) / 256 + (65536 * x + 256 * y + z + (65536 * x + 256 * y + z) / 256) / 65536) % 64 = z + y + x := by
  have e1 : (65536 * x + 256 * y + z) / 256 = 256 * x + y := by omega
  have e2 : (65536 * x + 256 * y + z + (256 * x + y)) / 65536 = x := by omega
  rw [e1, e2]
  omega
/-- the library's way of counting, on 20 places -/
def zswar (x : Nat) : Nat :=
  let y1 := x - ((x / 2) &&& 1431655765)
  let y2 := (y1 &&& 858993459) + ((y1 / 4) &&& 858993459)
  let y3 := (y2 + y2 / 16) &&& 252645135
  let y4 := y3 + y3 / 256
  let y5 := y4 + y4 / 65536
  y5 % 64
theorem zswar_ok {x : Nat} (hx : x < 1048576) : zswar x = zpop 20 x ∧ zpop 20 x ≤ 20 ∧ (x / 2) &&& 1431655765 ≤ x ∧ x - ((x / 2) &&& 1431655765) < 1048576 := by
  obtain ⟨a, b, c, ha, hb, hc, rfl⟩ : ∃ a b c, a < 256 ∧ b < 256 ∧ c < 16 ∧ x = 65536 * c + 256 * b + a := ⟨x % 256, x / 256 % 256, x / 65536, by omega, by omega, by omega, by omega⟩
  have a1 := zl1 a ha (b % 2) (by omega)
  have b1 := zl1 b hb (c % 2) (by omega)
  have c1 := zl1 c (by omega) 0 (by omega)
  have a3 := zl3 a ha
  have b3 := zl3 b hb
  have c3 := zl3 c (by omega)
  have c5 := zl5 c hc
  have e1 : (65536 * c + 256 * b + a) / 2 = 65536 * (c / 2) + 256 * (b / 2 + 128 * (c % 2)) + (a / 2 + 128 * (b % 2)) := by omega
  have e2 : ((65536 * c + 256 * b + a) / 2) &&& 1431655765 = 65536 * ((c / 2) &&& 85) + 256 * ((b / 2) &&& 85) + ((a / 2) &&& 85) := by
    rw [e1, show (1431655765 : Nat) = 65536 * 21845 + 256 * 85 + 85 from rfl, zland3 _ _ (by omega) (by omega) (by omega) (by omega), a1.1, b1.1, c5.1]
  have e3 : (65536 * c + 256 * b + a) - (((65536 * c + 256 * b + a) / 2) &&& 1431655765) = 65536 * zs1 c + 256 * zs1 b + zs1 a := by
    rw [e2]
    unfold zs1
    have := c1.2
    have := b1.2
    have := a1.2
    omega
  have hc1 : zs1 c < 16 := by unfold zs1; omega
  have e4 : (65536 * zs1 c + 256 * zs1 b + zs1 a) &&& 858993459 = 65536 * (zs1 c &&& 51) + 256 * (zs1 b &&& 51) + (zs1 a &&& 51) := by
    rw [show (858993459 : Nat) = 65536 * 13107 + 256 * 51 + 51 from rfl, zland3 _ _ (by omega) (by omega) (by omega) (by omega), c5.2.1]
  have e5 : (65536 * zs1 c + 256 * zs1 b + zs1 a) / 4 = 65536 * (zs1 c / 4) + 256 * (zs1 b / 4 + 64 * (zs1 c % 4)) + (zs1 a / 4 + 64 * (zs1 b % 4)) := by omega
  have a6 := zl2 (zs1 a) (by omega) (zs1 b % 4) (by omega)
  have b6 := zl2 (zs1 b) (by omega) (zs1 c % 4) (by omega)
  have e6 : ((65536 * zs1 c + 256 * zs1 b + zs1 a) / 4) &&& 858993459 = 65536 * ((zs1 c / 4) &&& 51) + 256 * ((zs1 b / 4) &&& 51) + ((zs1 a / 4) &&& 51) := by
    rw [e5, show (858993459 : Nat) = 65536 * 13107 + 256 * 51 + 51 from rfl, zland3 _ _ (by omega) (by omega) (by omega) (by omega), c5.2.2.1, a6, b6]
  have e7 : ((65536 * zs1 c + 256 * zs1 b + zs1 a) &&& 858993459) + (((65536 * zs1 c + 256 * zs1 b + zs1 a) / 4) &&& 858993459) = 65536 * zs2 c + 256 * zs2 b + zs2 a := by
    rw [e4, e6]
    unfold zs2
    omega
  have e8 : (65536 * zs2 c + 256 * zs2 b + zs2 a) + (65536 * zs2 c + 256 * zs2 b + zs2 a) / 16 = 65536 * (zs2 c + zs2 c / 16) + 256 * (zs2 b + zs2 b / 16 + 16 * (zs2 c % 16)) + (zs2 a + zs2 a / 16 + 16 * (zs2 b % 16)) := by omega
  have a9 := zl4 a ha (zs2 b % 16) (by omega)
  have b9 := zl4 b hb (zs2 c % 16) (by omega)
  have e9 : ((65536 * zs2 c + 256 * zs2 b + zs2 a) + (65536 * zs2 c + 256 * zs2 b + zs2 a) / 16) &&& 252645135 = 65536 * zpop 4 c + 256 * zpop 8 b + zpop 8 a := by
    rw [e8, show (252645135 : Nat) = 65536 * 3855 + 256 * 15 + 15 from rfl, zland3 _ _ (by omega) (by omega) (by omega) (by omega), a9, b9, c5.2.2.2.1]
  have p1 := zl6 a ha
  have p2 := zl6 b hb
  have p3 := c5.2.2.2.2
  have hs := zpop_split (c := c) ha hb
  refine ⟨?_, by rw [hs]; omega, ?_, ?_⟩
  · unfold zswar
    dsimp only
    rw [e3, e7, e9, hs, zl7 p3 p2 p1]
  · rw [e2]; omega
  · rw [e3]; omega
