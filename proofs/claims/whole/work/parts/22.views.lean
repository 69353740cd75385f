/-! equal views answer alike; what the first pages give is what the next page adds to -/
theorem zbt_cong {W W' : Int → Int} {y k : Int} : ∀ m : Nat, (∀ j : Int, k ≤ j → j < k + (m : Int) → W (j * 101 + y) = W' (j * 101 + y)) → zbt W y k m = zbt W' y k m
  | 0, _ => rfl
  | m + 1, h => by
    show zbt W y k m ||| _ = zbt W' y k m ||| _
    rw [zbt_cong m (fun j a b => h j a (by omega)), h (k + (m : Int)) (by omega) (by omega)]
theorem zps_cong {W W' : Int → Int} (h : ∀ k y, 0 ≤ k → k ≤ 2 → 0 ≤ y → y ≤ 100 → W (k * 101 + y) = W' (k * 101 + y)) {k y : Int} (hk : 0 ≤ k ∧ k ≤ 2) (hy : 0 ≤ y ∧ y ≤ 100) : zps W k y = zps W' k y := by
  unfold zps
  rw [zbt_cong _ (fun j a b => h j y (by omega) (by omega) hy.1 hy.2)]
theorem zcm_cong {pr pr' : Int → Int} {P : Int} : ∀ n : Nat, (∀ y, 0 ≤ y → y < (n : Int) → pr y = pr' y) → zcm pr P n = zcm pr' P n
  | 0, _ => rfl
  | n + 1, h => by
    show zcm pr P n + _ = zcm pr' P n + _
    rw [zcm_cong n (fun y a b => h y a (by omega)), h (n : Int) (by omega) (by omega)]
theorem zlb_cong {bk bk' : Int → Int} : ∀ n : Nat, (∀ y, 0 ≤ y → y < (n : Int) → bk y = bk' y) → zlb bk n = zlb bk' n
  | 0, _ => rfl
  | n + 1, h => by
    show (if bk (n : Int) = 1 then (n : Int) else zlb bk n) = (if bk' (n : Int) = 1 then (n : Int) else zlb bk' n)
    rw [zlb_cong n (fun y a b => h y a (by omega)), h (n : Int) (by omega) (by omega)]
theorem zhold_cong {pr pr' bk bk' : Int → Int} {P N G e : Int} (hp : ∀ y, 0 ≤ y → y ≤ 100 → pr y = pr' y) (hb : ∀ y, 0 ≤ y → y ≤ 100 → bk y = bk' y) (hN : 1 ≤ N) (he : 0 ≤ e ∧ e ≤ 100) : zhold pr bk P N G e = zhold pr' bk' P N G e := by
  unfold zhold
  rw [zlb_cong _ (fun y a b => hb y a (by omega)), zcm_cong (e.toNat + 1) (fun y a b => hp y a (by omega)), zcm_cong (e - N + 1).toNat (fun y a b => hp y a (by omega))]
theorem zlt_cong {H H' : Int → Bool} : ∀ n : Nat, (∀ y, 0 ≤ y → y < (n : Int) → H y = H' y) → zlt H n = zlt H' n
  | 0, _ => rfl
  | n + 1, h => by
    show (if H (n : Int) = true then (n : Int) else zlt H n) = (if H' (n : Int) = true then (n : Int) else zlt H' n)
    rw [zlt_cong n (fun y a b => h y a (by omega)), h (n : Int) (by omega) (by omega)]
theorem zld_cong {H H' : Int → Bool} {y : Int} (h : ∀ e, 0 ≤ e → e ≤ 100 → H e = H' e) (hy : 0 ≤ y ∧ y ≤ 100) : zld H y = zld H' y := by
  unfold zld
  exact zlt_cong _ (fun e a b => h e a (by omega))
theorem zlg_cong {T : Int → Int} {n : Int} {g g' : Int → Int} {y : Int} : ∀ c : Nat, (∀ i, 0 ≤ i → i < (c : Int) → g i = g' i) → zlg T n g y c = zlg T n g' y c
  | 0, _ => rfl
  | c + 1, h => by
    show (if zrd T n (g (c : Int)) 3 ≤ y then g (c : Int) else zlg T n g y c) = (if zrd T n (g' (c : Int)) 3 ≤ y then g' (c : Int) else zlg T n g' y c)
    rw [zlg_cong c (fun i a b => h i a (by omega)), h (c : Int) (by omega) (by omega)]
theorem zgr_cong {T : Int → Int} {n : Int} {W W' bk bk' : Int → Int} {N P G : Int} {SW SW' Gd Gd' : Int → Int} {Gc Wn k y : Int} (hW : ∀ k y, 0 ≤ k → k ≤ 2 → 0 ≤ y → y ≤ 100 → W (k * 101 + y) = W' (k * 101 + y)) (hb : ∀ y, 0 ≤ y → y ≤ 100 → bk y = bk' y) (hN : 1 ≤ N) (hS : ∀ k, 0 ≤ k → k ≤ 2 → SW k = SW' k) (hG : ∀ i, 0 ≤ i → i < Gc → Gd i = Gd' i) (hGc : 0 ≤ Gc) (hk : 0 ≤ k ∧ k ≤ 2) (hy : 0 ≤ y ∧ y ≤ 100) : zgr T n W bk N P G SW Gd Gc Wn k y = zgr T n W' bk' N P G SW' Gd' Gc Wn k y := by
  unfold zgr
  rw [zlg_cong Gc.toNat (fun i a b => hG i a (by omega))]
  unfold zgr2
  have e1 : zwk SW k = zwk SW' k := by
    unfold zwk
    exact zwm_cong _ (fun j a b => hS j (by omega) (by omega))
  have e2 : zld (zhold (zps W k) bk P N G) y = zld (zhold (zps W' k) bk' P N G) y := zld_cong (fun e a b => zhold_cong (fun y a b => zps_cong hW hk ⟨a, b⟩) hb hN ⟨a, b⟩) hy
  rw [e1, e2]
theorem zjg_cong {T : Int → Int} {n : Int} {W W' bk bk' : Int → Int} {N P G : Int} {SW SW' : Int → Int} {Wn : Int} {O O' G0 G0' : Int → Int} (hW : ∀ k y, 0 ≤ k → k ≤ 2 → 0 ≤ y → y ≤ 100 → W (k * 101 + y) = W' (k * 101 + y)) (hb : ∀ y, 0 ≤ y → y ≤ 100 → bk y = bk' y) (hN : 1 ≤ N) (hS : ∀ k, 0 ≤ k → k ≤ 2 → SW k = SW' k) : ∀ c : Nat, (∀ j, 0 ≤ j → j < (c : Int) → O j = O' j ∧ (0 ≤ zrd T n (O j) 3 ∧ zrd T n (O j) 3 ≤ 100) ∧ (zrd T n (O j) 0 = 3 ∨ (0 ≤ zrd T n (O j) 2 ∧ zrd T n (O j) 2 ≤ 2))) →
    (zjg T n W bk N P G SW Wn O G0 c).2 = (zjg T n W' bk' N P G SW' Wn O' G0' c).2 ∧ 0 ≤ (zjg T n W bk N P G SW Wn O G0 c).2 ∧ ∀ i, 0 ≤ i → i < (zjg T n W bk N P G SW Wn O G0 c).2 → (zjg T n W bk N P G SW Wn O G0 c).1 i = (zjg T n W' bk' N P G SW' Wn O' G0' c).1 i
  | 0, _ => ⟨rfl, Int.le_refl _, fun i a b => absurd (show i < 0 from b) (by omega)⟩
  | c + 1, h => by
    obtain ⟨h1, h0, h2⟩ := zjg_cong (Wn := Wn) (G0 := G0) (G0' := G0') hW hb hN hS c (fun j a b => h j a (by omega))
    obtain ⟨h3, h4, h5⟩ := h (c : Int) (by omega) (by omega)
    have key : zjq T n W bk N P G SW Wn (zjg T n W bk N P G SW Wn O G0 c).1 (zjg T n W bk N P G SW Wn O G0 c).2 (O (c : Int)) = zjq T n W' bk' N P G SW' Wn (zjg T n W' bk' N P G SW' Wn O' G0' c).1 (zjg T n W' bk' N P G SW' Wn O' G0' c).2 (O' (c : Int)) := by
      rw [← h1, ← h3]
      unfold zjq
      have g0 : zgr T n W bk N P G SW (zjg T n W bk N P G SW Wn O G0 c).1 (zjg T n W bk N P G SW Wn O G0 c).2 Wn 0 (zrd T n (O (c : Int)) 3) = zgr T n W' bk' N P G SW' (zjg T n W' bk' N P G SW' Wn O' G0' c).1 (zjg T n W bk N P G SW Wn O G0 c).2 Wn 0 (zrd T n (O (c : Int)) 3) := zgr_cong hW hb hN hS h2 h0 (by omega) h4
      by_cases e : zrd T n (O (c : Int)) 0 = 3
      · simp only [e, true_and, not_true_eq_false, false_and, or_false, g0]
      · have g2 : zgr T n W bk N P G SW (zjg T n W bk N P G SW Wn O G0 c).1 (zjg T n W bk N P G SW Wn O G0 c).2 Wn (zrd T n (O (c : Int)) 2) (zrd T n (O (c : Int)) 3) = zgr T n W' bk' N P G SW' (zjg T n W' bk' N P G SW' Wn O' G0' c).1 (zjg T n W bk N P G SW Wn O G0 c).2 Wn (zrd T n (O (c : Int)) 2) (zrd T n (O (c : Int)) 3) := zgr_cong hW hb hN hS h2 h0 (by rcases h5 with g | g; exact absurd g e; exact g) h4
        rw [g0, g2]
    show (if zjq T n W bk N P G SW Wn (zjg T n W bk N P G SW Wn O G0 c).1 (zjg T n W bk N P G SW Wn O G0 c).2 (O (c : Int)) = true then (zup (zjg T n W bk N P G SW Wn O G0 c).1 (zjg T n W bk N P G SW Wn O G0 c).2 (O (c : Int)), (zjg T n W bk N P G SW Wn O G0 c).2 + 1) else zjg T n W bk N P G SW Wn O G0 c).2 = (if zjq T n W' bk' N P G SW' Wn (zjg T n W' bk' N P G SW' Wn O' G0' c).1 (zjg T n W' bk' N P G SW' Wn O' G0' c).2 (O' (c : Int)) = true then (zup (zjg T n W' bk' N P G SW' Wn O' G0' c).1 (zjg T n W' bk' N P G SW' Wn O' G0' c).2 (O' (c : Int)), (zjg T n W' bk' N P G SW' Wn O' G0' c).2 + 1) else zjg T n W' bk' N P G SW' Wn O' G0' c).2 ∧ 0 ≤ (if zjq T n W bk N P G SW Wn (zjg T n W bk N P G SW Wn O G0 c).1 (zjg T n W bk N P G SW Wn O G0 c).2 (O (c : Int)) = true then (zup (zjg T n W bk N P G SW Wn O G0 c).1 (zjg T n W bk N P G SW Wn O G0 c).2 (O (c : Int)), (zjg T n W bk N P G SW Wn O G0 c).2 + 1) else zjg T n W bk N P G SW Wn O G0 c).2 ∧ ∀ i, 0 ≤ i → i < (if zjq T n W bk N P G SW Wn (zjg T n W bk N P G SW Wn O G0 c).1 (zjg T n W bk N P G SW Wn O G0 c).2 (O (c : Int)) = true then (zup (zjg T n W bk N P G SW Wn O G0 c).1 (zjg T n W bk N P G SW Wn O G0 c).2 (O (c : Int)), (zjg T n W bk N P G SW Wn O G0 c).2 + 1) else zjg T n W bk N P G SW Wn O G0 c).2 → (if zjq T n W bk N P G SW Wn (zjg T n W bk N P G SW Wn O G0 c).1 (zjg T n W bk N P G SW Wn O G0 c).2 (O (c : Int)) = true then (zup (zjg T n W bk N P G SW Wn O G0 c).1 (zjg T n W bk N P G SW Wn O G0 c).2 (O (c : Int)), (zjg T n W bk N P G SW Wn O G0 c).2 + 1) else zjg T n W bk N P G SW Wn O G0 c).1 i = (if zjq T n W' bk' N P G SW' Wn (zjg T n W' bk' N P G SW' Wn O' G0' c).1 (zjg T n W' bk' N P G SW' Wn O' G0' c).2 (O' (c : Int)) = true then (zup (zjg T n W' bk' N P G SW' Wn O' G0' c).1 (zjg T n W' bk' N P G SW' Wn O' G0' c).2 (O' (c : Int)), (zjg T n W' bk' N P G SW' Wn O' G0' c).2 + 1) else zjg T n W' bk' N P G SW' Wn O' G0' c).1 i
    rw [key]
    split
    · dsimp only
      refine ⟨by omega, by omega, fun i a b => ?_⟩
      rw [← h1, ← h3]
      by_cases e : i = (zjg T n W bk N P G SW Wn O G0 c).2
      · simp only [zup, if_pos e]
      · simp only [zup, if_neg e]
        exact h2 i a (by omega)
    · exact ⟨h1, h0, h2⟩
/-- the view of a way, as the book says it -/
def zVW (T : Int → Int) (ct : Int → Bool) (w : Int) (m : Nat) : Int → Int := fun j => ((zwx T ct w (j / 101) (j % 101) m : Nat) : Int)
def zVB (T : Int → Int) (ct : Int → Bool) (w : Int) (m : Nat) : Int → Int := fun y => zbr1 T ct w y m
def zVS (T : Int → Int) (ct : Int → Bool) (w : Int) (m : Nat) : Int → Int := fun k => zpx T ct w k m
def zst (T : Int → Int) (s d f : Int) : Int := if s = -9 then d else T (s * 12 + f)
def zVN (T : Int → Int) (ct : Int → Bool) (m : Nat) : Int := zst T (zS0 T ct m) 20 9
def zVP (T : Int → Int) (ct : Int → Bool) (m : Nat) : Int := zst T (zS0 T ct m) 2 10
def zVG (T : Int → Int) (ct : Int → Bool) (m : Nat) : Int := zst T (zS0 T ct m) 1 11
def zVn (T : Int → Int) (ct : Int → Bool) (m : Nat) : Int := zst T (zS0 T ct m) 10 6
def zVg (T : Int → Int) (n : Int) (ct : Int → Bool) (w : Int) (m : Nat) : (Int → Int) × Int := zjg T n (zVW T ct w m) (zVB T ct w m) (zVN T ct m) (zVP T ct m) (zVG T ct m) (zVS T ct w m) (zVn T ct m) (zof T ct w m).1 (fun _ => 0) (zof T ct w m).2
/-- by what it is in force -/
def zfs (T : Int → Int) (n : Int) (ct : Int → Bool) (w : Int) (m : Nat) (k y : Int) : Int := zgr T n (zVW T ct w m) (zVB T ct w m) (zVN T ct m) (zVP T ct m) (zVG T ct m) (zVS T ct w m) (zVg T n ct w m).1 (zVg T n ct w m).2 (zVn T ct m) k y
theorem zVW_at (T : Int → Int) (ct : Int → Bool) (w : Int) (m : Nat) {k y : Int} (hk : 0 ≤ k) (hy : 0 ≤ y ∧ y ≤ 100) : zVW T ct w m (k * 101 + y) = ((zwx T ct w k y m : Nat) : Int) := by
  unfold zVW
  rw [show (k * 101 + y) / 101 = k by omega, show (k * 101 + y) % 101 = y by omega]
theorem zS0_rng (T : Int → Int) (ct : Int → Bool) : ∀ m : Nat, zS0 T ct m = -9 ∨ ((0 ≤ zS0 T ct m ∧ zS0 T ct m < (m : Int)) ∧ T (zS0 T ct m * 12 + 0) = 6 ∧ ct (zS0 T ct m) = true)
  | 0 => Or.inl rfl
  | m + 1 => by
    have ih := zS0_rng T ct m
    unfold zS0
    split
    · rename_i h
      exact Or.inr ⟨by omega, h.2, h.1⟩
    · rcases ih with g | ⟨g1, g2⟩
      · exact Or.inl g
      · exact Or.inr ⟨by omega, g2⟩
theorem zst_rng {T : Int → Int} {ct : Int → Bool} {m : Nat} {nw : Int} (hv : ∀ p : Nat, p < m → zvp T nw (p : Int)) : (1 ≤ zVN T ct m ∧ zVN T ct m ≤ 40) ∧ (1 ≤ zVP T ct m ∧ zVP T ct m ≤ 4) ∧ (0 ≤ zVG T ct m ∧ zVG T ct m ≤ 5) ∧ (1 ≤ zVn T ct m ∧ zVn T ct m ≤ 30) := by
  unfold zVN zVP zVG zVn zst
  rcases zS0_rng T ct m with g | ⟨g1, g2, -⟩
  · rw [if_pos g, if_pos g, if_pos g, if_pos g]; omega
  · have e : ¬ zS0 T ct m = -9 := by omega
    rw [if_neg e, if_neg e, if_neg e, if_neg e]
    have h := hv (zS0 T ct m).toNat (by omega)
    rw [show ((zS0 T ct m).toNat : Int) = zS0 T ct m by omega] at h
    unfold zvp at h
    omega
theorem zinp_le (yr O : Int → Int) (y : Int) : ∀ c : Nat, zinp yr O y c ≤ c
  | 0 => Nat.le_refl _
  | c + 1 => by
    have ih := zinp_le yr O y c
    unfold zinp
    split <;> omega
theorem zinf_mem {yr O : Int → Int} {y p : Int} {c : Nat} {j : Int} (h : 0 ≤ j ∧ j ≤ (c : Int)) : zinf yr O y p c j = p ∨ ∃ i, 0 ≤ i ∧ i < (c : Int) ∧ zinf yr O y p c j = O i := by
  have hl := zinp_le yr O y c
  unfold zinf
  split
  · exact Or.inl rfl
  · split
    · exact Or.inr ⟨j - 1, by omega, by omega, rfl⟩
    · exact Or.inr ⟨j, by omega, by omega, rfl⟩
theorem zof_mem {T : Int → Int} {ct : Int → Bool} {w : Int} : ∀ m : Nat, ∀ j, 0 ≤ j → j < ((zof T ct w m).2 : Int) → (0 ≤ (zof T ct w m).1 j ∧ (zof T ct w m).1 j < (m : Int)) ∧ ct ((zof T ct w m).1 j) = true ∧ (T ((zof T ct w m).1 j * 12 + 0) = 3 ∨ T ((zof T ct w m).1 j * 12 + 0) = 4) ∧ T ((zof T ct w m).1 j * 12 + 1) = w
  | 0, j, a, b => absurd (show j < 0 from b) (by omega)
  | m + 1, j, a, b => by
    have ih := zof_mem (T := T) (ct := ct) (w := w) m
    unfold zof at b ⊢
    split
    · rename_i h
      rw [if_pos h] at b
      dsimp only at b ⊢
      rcases zinf_mem (yr := fun q => T (q * 12 + 3)) (O := (zof T ct w m).1) (y := T ((m : Int) * 12 + 3)) (p := (m : Int)) (c := (zof T ct w m).2) (j := j) ⟨a, by omega⟩ with g | ⟨i, g1, g2, g3⟩
      · rw [g]
        exact ⟨by omega, h⟩
      · rw [g3]
        obtain ⟨q1, q2⟩ := ih i g1 g2
        exact ⟨by omega, q2⟩
    · rename_i h
      rw [if_neg h] at b
      obtain ⟨q1, q2⟩ := ih j a b
      exact ⟨by omega, q2⟩
def zno (T : Int → Int) : Nat → Nat
  | 0 => 0
  | i + 1 => zno T i + (if T ((i : Int) * 12 + 0) = 3 ∨ T ((i : Int) * 12 + 0) = 4 then 1 else 0)
theorem zno_mono (T : Int → Int) {a : Nat} : ∀ b : Nat, a ≤ b → zno T a ≤ zno T b
  | 0, h => by rw [show a = 0 by omega]; exact Nat.le_refl _
  | b + 1, h => by
    rcases (show a ≤ b ∨ a = b + 1 by omega) with g | g
    · have := zno_mono T b g
      show zno T a ≤ zno T b + _
      omega
    · rw [g]; exact Nat.le_refl _
theorem zof_no (T : Int → Int) (ct : Int → Bool) (w : Int) : ∀ m : Nat, (zof T ct w m).2 ≤ zno T m
  | 0 => Nat.le_refl _
  | m + 1 => by
    have ih := zof_no T ct w m
    unfold zof zno
    split
    · rename_i h
      rw [if_pos h.2.1]
      dsimp only
      omega
    · omega
