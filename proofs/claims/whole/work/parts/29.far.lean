/-! how far a place is: both ways of measuring tell the least number of ways to go -/
def zEd (op : Int → Bool) (a b : Int → Int) (nw : Nat) (p q : Int) : Prop := ∃ w : Nat, w < nw ∧ op (w : Int) = true ∧ ((a (w : Int) = p ∧ b (w : Int) = q) ∨ (b (w : Int) = p ∧ a (w : Int) = q))
def zRk (E : Int → Int → Prop) (s : Int) : Nat → Int → Prop
  | 0, p => p = s
  | k + 1, p => ∃ q, zRk E s k q ∧ E q p
def zqd (E : Int → Int → Prop) (s p v : Int) (t : Nat) : Prop := (v = -9 ∧ ∀ d, d ≤ t → ¬ zRk E s d p) ∨ ∃ d : Nat, d ≤ t ∧ v = (d : Int) ∧ zRk E s d p ∧ ∀ d2, d2 < d → ¬ zRk E s d2 p
def zdis (E : Int → Int → Prop) (s : Int) (t : Nat) (F : Int → Int) : Prop := ∀ p, 0 ≤ p → p < 10 → zqd E s p (F p) t
theorem zqd_one {E : Int → Int → Prop} {s p v v2 : Int} {t : Nat} (h : zqd E s p v t) (h2 : zqd E s p v2 t) : v = v2 := by
  rcases h with ⟨e, n⟩ | ⟨d, a, e, r, n⟩
  · rcases h2 with ⟨e2, n2⟩ | ⟨d2, a2, e2, r2, n2⟩
    · omega
    · exact absurd r2 (n d2 a2)
  · rcases h2 with ⟨e2, n2⟩ | ⟨d2, a2, e2, r2, n2⟩
    · exact absurd r (n2 d a)
    · rcases Nat.lt_trichotomy d d2 with g | g | g
      · exact absurd r (n2 d g)
      · subst g; omega
      · exact absurd r2 (n d2 g)
theorem zEd_sym {op : Int → Bool} {a b : Int → Int} {nw : Nat} {p q : Int} (h : zEd op a b nw p q) : zEd op a b nw q p := by
  obtain ⟨w, h1, h2, h3⟩ := h
  exact ⟨w, h1, h2, h3.elim (fun g => Or.inr ⟨g.2, g.1⟩) (fun g => Or.inl ⟨g.2, g.1⟩)⟩
theorem zRk_front {E : Int → Int → Prop} {s : Int} : ∀ (d : Nat) (q p : Int), E s q → zRk E q d p → zRk E s (d + 1) p
  | 0, q, p, h, r => by
    have e : p = q := r
    subst e
    exact ⟨s, rfl, h⟩
  | d + 1, q, p, h, r => by
    obtain ⟨u, r1, r2⟩ := r
    exact ⟨u, zRk_front d q u h r1, r2⟩
theorem zRk_sym {E : Int → Int → Prop} (hE : ∀ p q, E p q → E q p) : ∀ (d : Nat) (s p : Int), zRk E s d p → zRk E p d s
  | 0, s, p, h => by
    have e : p = s := h
    exact e.symm
  | d + 1, s, p, h => by
    obtain ⟨q, h1, h2⟩ := h
    exact zRk_front d q s (hE _ _ h2) (zRk_sym hE d s q h1)
theorem zqd_sym {E : Int → Int → Prop} (hE : ∀ p q, E p q → E q p) {s p v : Int} {t : Nat} (h : zqd E s p v t) : zqd E p s v t := by
  rcases h with ⟨e, n⟩ | ⟨d, a, e, r, n⟩
  · exact Or.inl ⟨e, fun d hd z => n d hd (zRk_sym hE d p s z)⟩
  · exact Or.inr ⟨d, a, e, zRk_sym hE d s p r, fun d2 hd z => n d2 hd (zRk_sym hE d2 p s z)⟩
/-- within a step: what is known after some of the ways -/
def zmd (E : Int → Int → Prop) (t : Nat) (F G : Int → Int) : Prop := ∀ p, 0 ≤ p → p < 10 → (¬ F p = -9 → G p = F p) ∧ (F p = -9 → G p = -9 ∨ (G p = (t : Int) + 1 ∧ ∃ q, (0 ≤ q ∧ q < 10) ∧ F q = (t : Int) ∧ E q p))
theorem zgo_keep {G : Int → Int} {h k s p : Int} (hs : ¬ s = -9) (hp : ¬ G p = -9) : ¬ zgo G h k s p = -9 := by
  unfold zgo
  split
  · simp only [zup]
    split <;> omega
  · exact hp
theorem zgo_md {E : Int → Int → Prop} {t : Nat} {F G : Int → Int} {h k : Int} (hm : zmd E t F G) (hE : E h k) (hh : 0 ≤ h ∧ h < 10) (hk : 0 ≤ k ∧ k < 10) : zmd E t F (zgo G h k ((t : Int) + 1)) ∧ (F h = (t : Int) → ¬ zgo G h k ((t : Int) + 1) k = -9) := by
  have mh := hm h hh.1 hh.2
  have mk := hm k hk.1 hk.2
  constructor
  · intro p a b
    have mp := hm p a b
    unfold zgo
    split
    · rename_i g
      simp only [zup]
      by_cases e : p = k
      · subst e
        rw [if_pos rfl]
        refine ⟨fun z => ?_, fun z => Or.inr ⟨rfl, h, hh, ?_, hE⟩⟩
        · have := mp.1 z
          exfalso; omega
        · by_cases q : F h = -9
          · rcases mh.2 q with r | r
            · omega
            · omega
          · have := mh.1 q
            omega
      · rw [if_neg e]
        exact mp
    · exact mp
  · intro hF
    have := mh.1 (by omega)
    unfold zgo
    split
    · simp only [zup, if_true]
      omega
    · omega
theorem zgw_md {op : Int → Bool} {a b : Int → Int} {nw t : Nat} {F : Int → Int} (hab : ∀ w : Nat, w < nw → (0 ≤ a (w : Int) ∧ a (w : Int) < 10) ∧ (0 ≤ b (w : Int) ∧ b (w : Int) < 10)) : ∀ m : Nat, m ≤ nw → zmd (zEd op a b nw) t F (zgw op a b ((t : Int) + 1) F m) ∧ ∀ w : Nat, w < m → op (w : Int) = true → (F (a (w : Int)) = (t : Int) → ¬ zgw op a b ((t : Int) + 1) F m (b (w : Int)) = -9) ∧ (F (b (w : Int)) = (t : Int) → ¬ zgw op a b ((t : Int) + 1) F m (a (w : Int)) = -9)
  | 0, _ => ⟨fun p _ _ => ⟨fun _ => rfl, fun h => Or.inl h⟩, fun w h => absurd h (Nat.not_lt_zero _)⟩
  | m + 1, hm => by
    obtain ⟨ih1, ih2⟩ := zgw_md (op := op) (F := F) (t := t) hab m (by omega)
    have hw := hab m (by omega)
    unfold zgw
    split
    · rename_i ho
      have e1 : zEd op a b nw (a (m : Int)) (b (m : Int)) := ⟨m, by omega, ho, Or.inl ⟨rfl, rfl⟩⟩
      obtain ⟨x1, x2⟩ := zgo_md ih1 e1 hw.1 hw.2
      obtain ⟨y1, y2⟩ := zgo_md x1 (zEd_sym e1) hw.2 hw.1
      refine ⟨y1, fun w h ow => ?_⟩
      rcases (show w < m ∨ w = m by omega) with g | g
      · obtain ⟨i1, i2⟩ := ih2 w g ow
        exact ⟨fun z => zgo_keep (by omega) (zgo_keep (by omega) (i1 z)), fun z => zgo_keep (by omega) (zgo_keep (by omega) (i2 z))⟩
      · subst g
        exact ⟨fun z => zgo_keep (by omega) (x2 z), y2⟩
    · rename_i ho
      refine ⟨ih1, fun w h ow => ?_⟩
      rcases (show w < m ∨ w = m by omega) with g | g
      · exact ih2 w g ow
      · subst g; exact absurd ow ho
theorem zgw_dis {op : Int → Bool} {a b : Int → Int} {nw t : Nat} {F : Int → Int} {s : Int} (hab : ∀ w : Nat, w < nw → (0 ≤ a (w : Int) ∧ a (w : Int) < 10) ∧ (0 ≤ b (w : Int) ∧ b (w : Int) < 10)) (h : zdis (zEd op a b nw) s t F) : zdis (zEd op a b nw) s (t + 1) (zgw op a b ((t : Int) + 1) F nw) := by
  obtain ⟨m1, m2⟩ := zgw_md (op := op) (F := F) (t := t) hab nw (Nat.le_refl _)
  intro p p0 p1
  have hp := h p p0 p1
  obtain ⟨g1, g2⟩ := m1 p p0 p1
  rcases hp with ⟨e, n⟩ | ⟨d, hd, e, r, n⟩
  · rcases g2 e with q | ⟨q, u, u1, u2, u3⟩
    · refine Or.inl ⟨q, fun d hd z => ?_⟩
      rcases (show d ≤ t ∨ d = t + 1 by omega) with g | g
      · exact n d g z
      · subst g
        obtain ⟨u, u1, u2⟩ := z
        obtain ⟨w, w1, w2, w3⟩ := id u2
        have hw := hab w w1
        have hu : 0 ≤ u ∧ u < 10 := by rcases w3 with w3 | w3 <;> omega
        rcases h u hu.1 hu.2 with ⟨f, k⟩ | ⟨c, hc, f, k, _⟩
        · exact k t (Nat.le_refl _) u1
        · by_cases hct : c = t
          · subst hct
            rcases w3 with ⟨x1, x2⟩ | ⟨x1, x2⟩
            · exact (m2 w w1 w2).1 (by rw [x1]; exact f) (by rw [x2]; exact q)
            · exact (m2 w w1 w2).2 (by rw [x1]; exact f) (by rw [x2]; exact q)
          · exact n (c + 1) (by omega) ⟨u, k, u2⟩
    · refine Or.inr ⟨t + 1, Nat.le_refl _, by rw [q]; omega, ⟨u, ?_, u3⟩, fun d2 hd2 => n d2 (by omega)⟩
      rcases h u u1.1 u1.2 with ⟨f, k⟩ | ⟨c, hc, f, k, _⟩
      · exfalso; omega
      · obtain rfl : c = t := by omega
        exact k
  · exact Or.inr ⟨d, by omega, by rw [g1 (by omega)]; exact e, r, n⟩
theorem zgs_dis {op : Int → Bool} {a b : Int → Int} {nw : Nat} {F : Int → Int} {s : Int} (hab : ∀ w : Nat, w < nw → (0 ≤ a (w : Int) ∧ a (w : Int) < 10) ∧ (0 ≤ b (w : Int) ∧ b (w : Int) < 10)) (h : zdis (zEd op a b nw) s 0 F) : ∀ t : Nat, zdis (zEd op a b nw) s t (zgs op a b nw F t)
  | 0 => h
  | t + 1 => zgw_dis hab (zgs_dis hab h t)
theorem zdis_0 {E : Int → Int → Prop} {s : Int} {F : Int → Int} (h : ∀ p, 0 ≤ p → p < 10 → F p = if p = s then 0 else -9) : zdis E s 0 F := by
  intro p a b
  rw [h p a b]
  by_cases e : p = s
  · rw [if_pos e]
    exact Or.inr ⟨0, Nat.le_refl _, rfl, e, fun d2 h2 => absurd h2 (Nat.not_lt_zero _)⟩
  · rw [if_neg e]
    refine Or.inl ⟨rfl, fun d hd z => ?_⟩
    obtain rfl : d = 0 := by omega
    exact e z
/-! ten places have no walk of ten ways -/
def zc1 (F : Int → Int) (v : Int) : Nat → Nat
  | 0 => 0
  | m + 1 => zc1 F v m + (if F (m : Int) = v then 1 else 0)
def zc2 (F : Int → Int) (m : Nat) : Nat → Nat
  | 0 => 0
  | k + 1 => zc2 F m k + zc1 F (k : Int) m
theorem zc2_s (F : Int → Int) (m : Nat) : ∀ k : Nat, zc2 F (m + 1) k = zc2 F m k + (if 0 ≤ F (m : Int) ∧ F (m : Int) < (k : Int) then 1 else 0)
  | 0 => by
    rw [if_neg (by omega)]; rfl
  | k + 1 => by
    have ih := zc2_s F m k
    show zc2 F (m + 1) k + (zc1 F (k : Int) m + (if F (m : Int) = (k : Int) then 1 else 0)) = zc2 F m k + zc1 F (k : Int) m + _
    rw [ih]
    by_cases e : F (m : Int) = (k : Int)
    · rw [if_pos e, if_neg (by omega), if_pos (by omega)]; omega
    · rw [if_neg e]
      by_cases e2 : 0 ≤ F (m : Int) ∧ F (m : Int) < (k : Int)
      · rw [if_pos e2, if_pos (by omega)]; omega
      · rw [if_neg e2, if_neg (by omega)]; omega
theorem zc2_0 (F : Int → Int) : ∀ k : Nat, zc2 F 0 k = 0
  | 0 => rfl
  | k + 1 => by
    show zc2 F 0 k + 0 = 0
    rw [zc2_0 F k]
theorem zc2_le (F : Int → Int) (k : Nat) : ∀ m : Nat, zc2 F m k ≤ m
  | 0 => by rw [zc2_0]; exact Nat.le_refl _
  | m + 1 => by
    have := zc2_le F k m
    rw [zc2_s]
    split <;> omega
theorem zc1_pos {F : Int → Int} {v : Int} {p : Nat} (hp : F (p : Int) = v) : ∀ m : Nat, p < m → 1 ≤ zc1 F v m
  | 0, h => absurd h (Nat.not_lt_zero _)
  | m + 1, h => by
    unfold zc1
    rcases (show p < m ∨ p = m by omega) with g | g
    · have := zc1_pos hp m g
      omega
    · subst g
      rw [if_pos hp]
      omega
theorem zc2_ge {F : Int → Int} {m : Nat} : ∀ k : Nat, (∀ v : Nat, v < k → ∃ p : Nat, p < m ∧ F (p : Int) = (v : Int)) → k ≤ zc2 F m k
  | 0, _ => Nat.le_refl _
  | k + 1, h => by
    have h1 := zc2_ge k (fun v hv => h v (by omega))
    obtain ⟨p, p1, p2⟩ := h k (by omega)
    have h2 := zc1_pos p2 m p1
    show k + 1 ≤ zc2 F m k + zc1 F (k : Int) m
    omega
theorem zdis_chain {op : Int → Bool} {a b : Int → Int} {nw : Nat} {F : Int → Int} {s : Int} {t : Nat} (hab : ∀ w : Nat, w < nw → (0 ≤ a (w : Int) ∧ a (w : Int) < 10) ∧ (0 ≤ b (w : Int) ∧ b (w : Int) < 10)) (h : zdis (zEd op a b nw) s t F) : ∀ (x : Nat) (p : Int), (0 ≤ p ∧ p < 10) → F p = (x : Int) → ∀ v : Nat, v ≤ x → ∃ q : Nat, q < 10 ∧ F (q : Int) = (v : Int)
  | 0, p, hp, e, v, hv => ⟨p.toNat, by omega, by rw [show ((p.toNat : Nat) : Int) = p by omega, e]; omega⟩
  | x + 1, p, hp, e, v, hv => by
    by_cases g : v = x + 1
    · exact ⟨p.toNat, by omega, by rw [show ((p.toNat : Nat) : Int) = p by omega, e]; omega⟩
    · rcases h p hp.1 hp.2 with ⟨f, k⟩ | ⟨c, hc, f, k, n⟩
      · exfalso; omega
      · obtain rfl : c = x + 1 := by omega
        obtain ⟨u, u1, u2⟩ := k
        obtain ⟨w, w1, w2, w3⟩ := id u2
        have hw := hab w w1
        have hu : 0 ≤ u ∧ u < 10 := by rcases w3 with w3 | w3 <;> omega
        refine zdis_chain hab h x u hu ?_ v (by omega)
        rcases h u hu.1 hu.2 with ⟨f2, k2⟩ | ⟨c2, hc2, f2, k2, n2⟩
        · exact absurd u1 (k2 x (by omega))
        · rcases Nat.lt_trichotomy c2 x with q | q | q
          · exact absurd ⟨u, k2, u2⟩ (n (c2 + 1) (by omega))
          · rw [f2, q]
          · exact absurd u1 (n2 x q)
theorem zdis_ten {op : Int → Bool} {a b : Int → Int} {nw : Nat} {F : Int → Int} {s : Int} (hab : ∀ w : Nat, w < nw → (0 ≤ a (w : Int) ∧ a (w : Int) < 10) ∧ (0 ≤ b (w : Int) ∧ b (w : Int) < 10)) (h : zdis (zEd op a b nw) s 10 F) : zdis (zEd op a b nw) s 9 F := by
  intro p p0 p1
  rcases h p p0 p1 with ⟨e, n⟩ | ⟨d, hd, e, r, n⟩
  · exact Or.inl ⟨e, fun d hd => n d (by omega)⟩
  · rcases (show d ≤ 9 ∨ d = 10 by omega) with g | g
    · exact Or.inr ⟨d, g, e, r, n⟩
    · subst g
      have h1 := zc2_ge 11 (fun v hv => zdis_chain hab h 10 p ⟨p0, p1⟩ e v (by omega))
      have h2 := zc2_le F 11 10
      omega
