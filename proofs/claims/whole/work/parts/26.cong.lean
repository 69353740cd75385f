/-! what the book says of a way depends on few pages alone -/
def zlike (T T' : Int → Int) (ct ct' : Int → Bool) (w : Int) (m : Nat) : Prop := ∀ i : Nat, i < m → (∀ f, 0 ≤ f → f < 12 → T ((i : Int) * 12 + f) = T' ((i : Int) * 12 + f)) ∧ ((T ((i : Int) * 12 + 0) = 6 ∨ T ((i : Int) * 12 + 1) = w) → ct (i : Int) = ct' (i : Int))
theorem zlike_lt {T T' : Int → Int} {ct ct' : Int → Bool} {w : Int} {m : Nat} (h : zlike T T' ct ct' w (m + 1)) : zlike T T' ct ct' w m := fun i hi => h i (by omega)
theorem zS0_cong {T T' : Int → Int} {ct ct' : Int → Bool} {w : Int} : ∀ m : Nat, zlike T T' ct ct' w m → zS0 T ct m = zS0 T' ct' m
  | 0, _ => rfl
  | m + 1, h => by
    obtain ⟨h1, h2⟩ := h m (by omega)
    unfold zS0
    rw [zS0_cong m (zlike_lt h), ← h1 0 (by decide) (by decide)]
    by_cases g : T ((m : Int) * 12 + 0) = 6
    · rw [h2 (Or.inl g)]
    · rw [if_neg (fun z => g z.2), if_neg (fun z => g z.2)]
theorem zwx_cong {T T' : Int → Int} {ct ct' : Int → Bool} {w k y : Int} : ∀ m : Nat, zlike T T' ct ct' w m → zwx T ct w k y m = zwx T' ct' w k y m
  | 0, _ => rfl
  | m + 1, h => by
    obtain ⟨h1, h2⟩ := h m (by omega)
    unfold zwx
    rw [zwx_cong m (zlike_lt h), ← h1 0 (by decide) (by decide), ← h1 1 (by decide) (by decide), ← h1 2 (by decide) (by decide), ← h1 3 (by decide) (by decide), ← h1 4 (by decide) (by decide), ← h1 5 (by decide) (by decide)]
    by_cases g : T ((m : Int) * 12 + 1) = w
    · rw [h2 (Or.inr g)]
    · rw [if_neg (fun z => g z.2.2.1), if_neg (fun z => g z.2.2.1)]
theorem zwg_cong {T T' : Int → Int} {ct ct' : Int → Bool} {w k y : Int} : ∀ m : Nat, zlike T T' ct ct' w m → zwg T ct w k y m = zwg T' ct' w k y m
  | 0, _ => rfl
  | m + 1, h => by
    obtain ⟨h1, h2⟩ := h m (by omega)
    unfold zwg
    rw [zwg_cong m (zlike_lt h), ← h1 0 (by decide) (by decide), ← h1 1 (by decide) (by decide), ← h1 2 (by decide) (by decide), ← h1 3 (by decide) (by decide), ← h1 4 (by decide) (by decide), ← h1 5 (by decide) (by decide)]
    by_cases g : T ((m : Int) * 12 + 1) = w
    · rw [h2 (Or.inr g)]
    · rw [if_neg (fun z => g z.2.2.1), if_neg (fun z => g z.2.2.1)]
theorem zbr1_cong {T T' : Int → Int} {ct ct' : Int → Bool} {w y : Int} : ∀ m : Nat, zlike T T' ct ct' w m → zbr1 T ct w y m = zbr1 T' ct' w y m
  | 0, _ => rfl
  | m + 1, h => by
    obtain ⟨h1, h2⟩ := h m (by omega)
    unfold zbr1
    rw [zbr1_cong m (zlike_lt h), ← h1 0 (by decide) (by decide), ← h1 1 (by decide) (by decide), ← h1 3 (by decide) (by decide)]
    by_cases g : T ((m : Int) * 12 + 1) = w
    · rw [h2 (Or.inr g)]
    · rw [if_neg (fun z => g z.2.2.1), if_neg (fun z => g z.2.2.1)]
theorem zpx_cong {T T' : Int → Int} {ct ct' : Int → Bool} {w k : Int} : ∀ m : Nat, zlike T T' ct ct' w m → zpx T ct w k m = zpx T' ct' w k m
  | 0, _ => rfl
  | m + 1, h => by
    obtain ⟨h1, h2⟩ := h m (by omega)
    unfold zpx
    rw [zpx_cong m (zlike_lt h), ← h1 0 (by decide) (by decide), ← h1 1 (by decide) (by decide), ← h1 2 (by decide) (by decide), ← h1 6 (by decide) (by decide)]
    by_cases g : T ((m : Int) * 12 + 1) = w
    · rw [h2 (Or.inr g)]
    · rw [if_neg (fun z => g z.2.2.1), if_neg (fun z => g z.2.2.1)]
theorem zpg_cong {T T' : Int → Int} {ct ct' : Int → Bool} {w k : Int} : ∀ m : Nat, zlike T T' ct ct' w m → zpg T ct w k m = zpg T' ct' w k m
  | 0, _ => rfl
  | m + 1, h => by
    obtain ⟨h1, h2⟩ := h m (by omega)
    unfold zpg
    rw [zpg_cong m (zlike_lt h), ← h1 0 (by decide) (by decide), ← h1 1 (by decide) (by decide), ← h1 2 (by decide) (by decide), ← h1 6 (by decide) (by decide)]
    by_cases g : T ((m : Int) * 12 + 1) = w
    · rw [h2 (Or.inr g)]
    · rw [if_neg (fun z => g z.2.2.1), if_neg (fun z => g z.2.2.1)]
theorem zof_cong {T T' : Int → Int} {ct ct' : Int → Bool} {w : Int} : ∀ m : Nat, zlike T T' ct ct' w m → zof T ct w m = zof T' ct' w m
  | 0, _ => rfl
  | m + 1, h => by
    obtain ⟨h1, h2⟩ := h m (by omega)
    have ih := zof_cong m (zlike_lt h)
    unfold zof
    rw [← ih, ← h1 0 (by decide) (by decide), ← h1 1 (by decide) (by decide), ← h1 3 (by decide) (by decide)]
    have e : zinp (fun q => T (q * 12 + 3)) (zof T ct w m).1 (T ((m : Int) * 12 + 3)) (zof T ct w m).2 = zinp (fun q => T' (q * 12 + 3)) (zof T ct w m).1 (T ((m : Int) * 12 + 3)) (zof T ct w m).2 := zinp_cong _ (fun j a b => by
      have g := (zof_mem m j a b).1
      have g2 := (h ((zof T ct w m).1 j).toNat (by omega)).1 3 (by decide) (by decide)
      rw [show (((zof T ct w m).1 j).toNat : Int) = (zof T ct w m).1 j by omega] at g2
      exact g2)
    have e2 : zinf (fun q => T (q * 12 + 3)) (zof T ct w m).1 (T ((m : Int) * 12 + 3)) (m : Int) (zof T ct w m).2 = zinf (fun q => T' (q * 12 + 3)) (zof T ct w m).1 (T ((m : Int) * 12 + 3)) (m : Int) (zof T ct w m).2 := by
      unfold zinf
      rw [e]
    rw [e2]
    by_cases g : T ((m : Int) * 12 + 1) = w
    · rw [h2 (Or.inr g)]
    · rw [if_neg (fun z => g z.2.2), if_neg (fun z => g z.2.2)]
theorem zst_cong {T T' : Int → Int} {ct ct' : Int → Bool} {w : Int} {m : Nat} (h : zlike T T' ct ct' w m) (d : Int) {f : Int} (hf : 0 ≤ f ∧ f < 12) : zst T (zS0 T ct m) d f = zst T' (zS0 T' ct' m) d f := by
  rw [← zS0_cong m h]
  unfold zst
  rcases zS0_rng T ct m with g | ⟨g, -⟩
  · rw [if_pos g, if_pos g]
  · rw [if_neg (by omega), if_neg (by omega)]
    have g2 := (h (zS0 T ct m).toNat (by omega)).1 f hf.1 hf.2
    rwa [show ((zS0 T ct m).toNat : Int) = zS0 T ct m by omega] at g2
/-- reading rows that are the same -/
def zrs (T T' : Int → Int) (n n' : Int) (m : Int) : Prop := ∀ p f, (p = -9 ∨ (0 ≤ p ∧ p < m)) → 0 ≤ f → f < 12 → zrd T n p f = zrd T' n' p f
theorem zlgT {T T' : Int → Int} {n n' m : Int} (h : zrs T T' n n' m) {g : Int → Int} {y : Int} : ∀ c : Nat, (∀ i, 0 ≤ i → i < (c : Int) → 0 ≤ g i ∧ g i < m) → zlg T n g y c = zlg T' n' g y c ∧ (zlg T n g y c = -9 ∨ (0 ≤ zlg T n g y c ∧ zlg T n g y c < m))
  | 0, _ => ⟨rfl, Or.inl rfl⟩
  | c + 1, hg => by
    obtain ⟨ih1, ih2⟩ := zlgT h (g := g) (y := y) c (fun i a b => hg i a (by omega))
    have g1 := hg (c : Int) (by omega) (by omega)
    unfold zlg
    rw [← ih1, ← h (g (c : Int)) 3 (Or.inr g1) (by decide) (by decide)]
    refine ⟨rfl, ?_⟩
    split
    · exact Or.inr g1
    · exact ih2
theorem zgrT {T T' : Int → Int} {n n' m : Int} (h : zrs T T' n n' m) {W bk : Int → Int} {N P G : Int} {SW Gd : Int → Int} {Gc Wn k y : Int} (hG : ∀ i, 0 ≤ i → i < Gc → 0 ≤ Gd i ∧ Gd i < m) (hGc : 0 ≤ Gc) : zgr T n W bk N P G SW Gd Gc Wn k y = zgr T' n' W bk N P G SW Gd Gc Wn k y := by
  obtain ⟨h1, h2⟩ := zlgT h (g := Gd) (y := y) Gc.toNat (fun i a b => hG i a (by omega))
  unfold zgr
  rw [← h1]
  unfold zgr2
  rw [h _ 0 h2 (by decide) (by decide), h _ 2 h2 (by decide) (by decide), h _ 3 h2 (by decide) (by decide)]
theorem zjgT {T T' : Int → Int} {n n' m : Int} (h : zrs T T' n n' m) {W bk : Int → Int} {N P G : Int} {SW : Int → Int} {Wn : Int} {O G0 : Int → Int} : ∀ c : Nat, (∀ j, 0 ≤ j → j < (c : Int) → 0 ≤ O j ∧ O j < m) → zjg T n W bk N P G SW Wn O G0 c = zjg T' n' W bk N P G SW Wn O G0 c
  | 0, _ => rfl
  | c + 1, hO => by
    have ih := zjgT h (W := W) (bk := bk) (N := N) (P := P) (G := G) (SW := SW) (Wn := Wn) (G0 := G0) c (fun j a b => hO j a (by omega))
    have g1 := hO (c : Int) (by omega) (by omega)
    obtain ⟨r1, r2⟩ := zjg_rng (T := T) (n := n) (W := W) (bk := bk) (N := N) (P := P) (G := G) (SW := SW) (Wn := Wn) (O := O) (G0 := G0) (lo := 0) (hi := m) c (fun j a b => hO j a (by omega))
    have key : zjq T n W bk N P G SW Wn (zjg T n W bk N P G SW Wn O G0 c).1 (zjg T n W bk N P G SW Wn O G0 c).2 (O (c : Int)) = zjq T' n' W bk N P G SW Wn (zjg T n W bk N P G SW Wn O G0 c).1 (zjg T n W bk N P G SW Wn O G0 c).2 (O (c : Int)) := by
      unfold zjq
      rw [h _ 0 (Or.inr g1) (by decide) (by decide), h _ 2 (Or.inr g1) (by decide) (by decide), h _ 3 (Or.inr g1) (by decide) (by decide), h _ 7 (Or.inr g1) (by decide) (by decide), zgrT h r2 r1.1, zgrT h r2 r1.1]
    unfold zjg
    rw [← ih, key]
/-- the view, and so the force, of like books -/
theorem zvw_cong {T T' : Int → Int} {ct ct' : Int → Bool} {w n n' : Int} {m : Nat} (h : zlike T T' ct ct' w m) (hn : (m : Int) ≤ n) (hn' : (m : Int) ≤ n') : zVW T ct w m = zVW T' ct' w m ∧ zVB T ct w m = zVB T' ct' w m ∧ zVS T ct w m = zVS T' ct' w m ∧ (zVN T ct m = zVN T' ct' m ∧ zVP T ct m = zVP T' ct' m ∧ zVG T ct m = zVG T' ct' m ∧ zVn T ct m = zVn T' ct' m) ∧ zVg T n ct w m = zVg T' n' ct' w m ∧ ∀ k y, zfs T n ct w m k y = zfs T' n' ct' w m k y := by
  have e1 : zVW T ct w m = zVW T' ct' w m := by
    funext j
    unfold zVW
    rw [zwx_cong m h]
  have e2 : zVB T ct w m = zVB T' ct' w m := by
    funext y
    exact zbr1_cong m h
  have e3 : zVS T ct w m = zVS T' ct' w m := by
    funext k
    exact zpx_cong m h
  have e4 : zVN T ct m = zVN T' ct' m := zst_cong h 20 ⟨by decide, by decide⟩
  have e5 : zVP T ct m = zVP T' ct' m := zst_cong h 2 ⟨by decide, by decide⟩
  have e6 : zVG T ct m = zVG T' ct' m := zst_cong h 1 ⟨by decide, by decide⟩
  have e7 : zVn T ct m = zVn T' ct' m := zst_cong h 10 ⟨by decide, by decide⟩
  have hr : zrs T T' n n' (m : Int) := fun p f hp h0 h1 => by
    rcases hp with g | g
    · rw [zrd_out (by omega), zrd_out (by omega)]
    · rw [zrd_in (by omega), zrd_in (by omega)]
      have g2 := (h p.toNat (by omega)).1 f h0 h1
      rwa [show ((p.toNat : Nat) : Int) = p by omega] at g2
  have e8 : zVg T n ct w m = zVg T' n' ct' w m := by
    unfold zVg
    rw [← e1, ← e2, ← e3, ← e4, ← e5, ← e6, ← e7, ← zof_cong m h]
    exact zjgT hr _ (fun j a b => (zof_mem m j a b).1)
  refine ⟨e1, e2, e3, ⟨e4, e5, e6, e7⟩, e8, fun k y => ?_⟩
  have g := zVg_rng (T := T) (n := n) (ct := ct) (w := w) (m := m)
  unfold zfs
  rw [← e1, ← e2, ← e3, ← e4, ← e5, ← e6, ← e7, ← e8]
  exact zgrT hr g.2 g.1.1
theorem zSi_cong {T T' : Int → Int} {ct ct' : Int → Bool} {w n n' : Int} {m : Nat} {S : ZSg} (hs : zSi T n ct m w S) (h : zlike T T' ct ct' w m) (hn : (m : Int) ≤ n) (hn' : (m : Int) ≤ n') : zSi T' n' ct' m w S := by
  obtain ⟨e1, e2, e3, ⟨e4, e5, e6, e7⟩, e8, -⟩ := zvw_cong h hn hn'
  unfold zSi at hs ⊢
  rw [← e1, ← e2, ← e3, ← e4, ← e5, ← e6, ← e7, ← e8]
  exact hs
/-- the strikes: which page strikes which -/
def zKs (T K : Int → Int) (n : Int) : Prop := (∀ p, 0 ≤ p → p < n → K p = -9 ∨ ((p < K p ∧ K p < n) ∧ T (K p * 12 + 0) = 5 ∧ T (K p * 12 + 8) = p)) ∧ ∀ s, 0 ≤ s → s < n → T (s * 12 + 0) = 5 → K (T (s * 12 + 8)) = s
/-- a page that doesn't bear on a way changes nothing of it -/
theorem zfs_near {T K : Int → Int} {n nw w l p : Int} (hv : ∀ i : Nat, (i : Int) < n → zvp T nw (i : Int)) (hK : zKs T K n) (hw : 0 ≤ w) (hl : -1 ≤ l ∧ l < n) (hc : zct K n p l (-9)) (hb : ¬ zbe T n p w) (k y : Int) : zfs T n (zcB K n l p) w (l + 1).toNat k y = zfs T n (zcB K n l (-9)) w (l + 1).toNat k y := by
  obtain ⟨⟨p0, p1, p2, p3⟩, pk⟩ := hc
  refine (zvw_cong (T := T) (T' := T) (n := n) (n' := n) (fun i hi => ⟨fun f _ _ => rfl, fun hr => ?_⟩) (by omega) (by omega)).2.2.2.2.2 k y
  have hb2 : ¬ ((if T (p * 12 + 0) = 5 then T (p * 12 + 8) else p) = (i : Int)) := by
    intro e
    apply hb
    unfold zbe
    have vp := hv p.toNat (by omega)
    rw [show ((p.toNat : Nat) : Int) = p by omega] at vp
    rw [zrd_in (p := p) (w := 0) ⟨⟨p0, p1⟩, by decide, by decide⟩, zrd_in (p := p) (w := 8) ⟨⟨p0, p1⟩, by decide, by decide⟩, e]
    rw [zrd_in (w := 0) ⟨⟨by omega, by omega⟩, by decide, by decide⟩, zrd_in (w := 1) ⟨⟨by omega, by omega⟩, by decide, by decide⟩]
    exact hr
  apply Bool.eq_iff_iff.mpr
  rw [zcB_iff, zcB_iff]
  unfold zct
  have hKi := hK.1 (i : Int) (by omega) (by omega)
  have hip : ¬ (i : Int) = p := by
    intro e
    by_cases g : T (p * 12 + 0) = 5
    · have vp := hv p.toNat (by omega)
      rw [show ((p.toNat : Nat) : Int) = p by omega] at vp
      unfold zvp at vp
      rw [e] at hr
      omega
    · rw [if_neg g] at hb2
      exact hb2 e.symm
  have hkp : ¬ K (i : Int) = p := by
    intro e
    rcases hKi with g | ⟨g1, g2, g3⟩
    · omega
    · rw [e] at g2 g3
      rw [if_pos g2] at hb2
      exact hb2 g3
  constructor
  · rintro ⟨⟨a1, a2, a3, a4⟩, a5⟩
    exact ⟨⟨a1, a2, a3, by omega⟩, by omega⟩
  · rintro ⟨⟨a1, a2, a3, a4⟩, a5⟩
    exact ⟨⟨a1, a2, a3, hip⟩, by omega⟩
