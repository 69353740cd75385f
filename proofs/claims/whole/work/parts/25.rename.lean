/-! the two sights change places: what holds of the one at its cells holds of the other at its own -/
def zpi (k : Nat) : Nat := if 5 ≤ k ∧ k ≤ 14 then k + 17 else if 22 ≤ k ∧ k ≤ 31 then k - 17 else k
theorem zpi_zpi (k : Nat) : zpi (zpi k) = k := by
  unfold zpi
  split
  · rw [if_neg (by omega), if_pos (by omega)]; omega
  · split
    · rw [if_pos (by omega)]; omega
    · rfl
def zrv : ZV → ZV
  | .inr (.inr (some k)) => .inr (.inr (some (zpi k)))
  | v => v
def zrb : ZB → ZB
  | .inr (c, fs) => .inr (c, fs.map zrv)
  | b => b
def zsw (h : List ZB) : List ZB := (h.take 5 ++ ((h.drop 22).take 10 ++ ((h.drop 15).take 7 ++ ((h.drop 5).take 10 ++ h.drop 32)))).map zrb
theorem zsw_len {h : List ZB} (hl : 32 ≤ h.length) : (zsw h).length = h.length := by
  unfold zsw
  simp only [List.length_map, List.length_append, List.length_take, List.length_drop]
  omega
theorem zsw_at {h : List ZB} (hl : 32 ≤ h.length) (j : Nat) : (zsw h)[j]? = (h[zpi j]?).map zrb := by
  unfold zsw zpi
  rw [List.getElem?_map]
  congr 1
  by_cases h1 : j < 5
  · rw [List.getElem?_append_left (by rw [List.length_take]; omega), List.getElem?_take_of_lt h1, if_neg (by omega), if_neg (by omega)]
  · rw [List.getElem?_append_right (by rw [List.length_take]; omega), List.length_take, Nat.min_eq_left (by omega)]
    by_cases h2 : j < 15
    · rw [List.getElem?_append_left (by rw [List.length_take, List.length_drop]; omega), List.getElem?_take_of_lt (by omega), List.getElem?_drop, if_pos (by omega)]
      congr 1
      omega
    · rw [List.getElem?_append_right (by rw [List.length_take, List.length_drop]; omega), List.length_take, List.length_drop, Nat.min_eq_left (by omega)]
      by_cases h3 : j < 22
      · rw [List.getElem?_append_left (by rw [List.length_take, List.length_drop]; omega), List.getElem?_take_of_lt (by omega), List.getElem?_drop, if_neg (by omega), if_neg (by omega)]
        congr 1
        omega
      · rw [List.getElem?_append_right (by rw [List.length_take, List.length_drop]; omega), List.length_take, List.length_drop, Nat.min_eq_left (by omega)]
        by_cases h4 : j < 32
        · rw [List.getElem?_append_left (by rw [List.length_take, List.length_drop]; omega), List.getElem?_take_of_lt (by omega), List.getElem?_drop, if_neg (by omega), if_pos (by omega)]
          congr 1
          omega
        · rw [List.getElem?_append_right (by rw [List.length_take, List.length_drop]; omega), List.length_take, List.length_drop, Nat.min_eq_left (by omega), List.getElem?_drop, if_neg (by omega), if_neg (by omega)]
          congr 1
          omega
def zEp (E : ZG) : ZG := (fun k => E.1 (zpi k), E.2)
theorem zcv_p (E : ZG) (v : ZV) : zcv (zEp E).1 v = zcv E.1 (zrv v) := by
  rcases v with x | x | x
  · rfl
  · rfl
  · cases x <;> rfl
theorem zcb_p (E : ZG) (b : ZB) : zcb (zEp E) b = zcb E (zrb b) := by
  rcases b with ⟨z, n, f⟩ | ⟨c, fs⟩
  · rfl
  · show Sum.inr (c, fs.map (zcv (zEp E).1)) = Sum.inr (c, (fs.map zrv).map (zcv E.1))
    rw [List.map_map]
    congr 2
    exact List.map_congr_left (fun v _ => zcv_p E v)
theorem zwf_p {E : ZG} (h : zwf E) (hb : E.2.2.2.2.2 = none) : zwf (zEp E) := by
  obtain ⟨h1, h2, h3, -⟩ := h
  refine ⟨fun i j e => ?_, fun k => ?_, h3, fun b0 e => ?_⟩
  · have g := h1 _ _ e
    have g2 : zpi (zpi i) = zpi (zpi j) := by rw [g]
    rwa [zpi_zpi, zpi_zpi] at g2
  · show E.2.1 (E.1 (zpi (k + 1)))
    have g : ∃ j, zpi (k + 1) = j + 1 := by
      refine ⟨zpi (k + 1) - 1, ?_⟩
      unfold zpi
      split
      · omega
      · split <;> omega
    obtain ⟨j, g⟩ := g
    rw [g]
    exact h2 j
  · rw [show (zEp E).2.2.2.2.2 = E.2.2.2.2.2 from rfl, hb] at e
    cases e
theorem zpi_s (k : Nat) : ∃ j, zpi (k + 1) = j + 1 := by
  refine ⟨zpi (k + 1) - 1, ?_⟩
  unfold zpi
  split
  · omega
  · split <;> omega
theorem zok_p {E : ZG} (hb : E.2.2.2.2.2 = none) {h : List ZB} (hl : 32 ≤ h.length) {H : Heap} : zok E (zsw h) H ↔ zok (zEp E) h H := by
  constructor
  · rintro ⟨h1, h2, -⟩
    refine ⟨fun k q hk => ?_, h2, fun b0 e => by rw [show (zEp E).2.2.2.2.2 = E.2.2.2.2.2 from rfl, hb] at e; cases e⟩
    rw [zws_at] at hk
    obtain ⟨b, e1, rfl⟩ := Option.map_eq_some_iff.mp hk
    obtain ⟨j, hj⟩ := zpi_s k
    have g := h1 j (E.1 (zpi (k + 1)), zcb E (zrb b)) (by rw [← hj, zws_at, zsw_at hl, zpi_zpi, e1, Nat.zero_add]; rfl)
    rw [Nat.zero_add, zcb_p]
    exact g
  · rintro ⟨h1, h2, -⟩
    refine ⟨fun k q hk => ?_, h2, fun b0 e => by rw [hb] at e; cases e⟩
    rw [zws_at, zsw_at hl] at hk
    obtain ⟨b1, e1, rfl⟩ := Option.map_eq_some_iff.mp hk
    obtain ⟨b, e2, rfl⟩ := Option.map_eq_some_iff.mp e1
    obtain ⟨j, hj⟩ := zpi_s k
    have g := h1 j ((zEp E).1 (zpi (k + 1)), zcb (zEp E) b) (by rw [← hj, zws_at, e2, Nat.zero_add]; rfl)
    rw [zcb_p] at g
    rw [Nat.zero_add]
    have e3 : (zEp E).1 (zpi (k + 1)) = E.1 (k + 1) := by
      show E.1 (zpi (zpi (k + 1))) = E.1 (k + 1)
      rw [zpi_zpi]
    rw [e3] at g
    exact g
theorem zren {l : Launch} {m : ZM} {as : List ZV} {h : List ZB} {Post : ZP} (hl : 32 ≤ h.length) (hP : ∀ v h1, Post v h1 → 32 ≤ h1.length) (hM : zMet l m as h Post) : zMet l m (as.map zrv) (zsw h) (fun v h1 => ∃ v0 h0, v = v0.map zrv ∧ h1 = zsw h0 ∧ Post v0 h0) := by
  intro E hw hb0 p e ha hc hk s m1 args below hf happ hpre hx
  obtain ⟨g1, g2, g3⟩ := hpre
  have hpre2 : zPc (zEp E) as h args s := by
    refine ⟨?_, (zok_p hb0 hl).mp g2, g3⟩
    rw [g1, List.map_map]
    congr 1
    exact (List.map_congr_left (fun v _ => zcv_p E v)).symm
  obtain ⟨t, o, a1, a2, a3, ⟨⟨⟨v, h1, b1, b2, b3⟩, b4⟩, b5⟩⟩ := hM (zEp E) (zwf_p hw hb0) hb0 p e ha hc hk s m1 args below hf happ hpre2 hx
  refine ⟨t, o, a1, a2, a3, ⟨⟨⟨v.map zrv, zsw h1, ?_, ⟨v, h1, rfl, rfl, b2⟩, (zok_p hb0 (hP v h1 b2)).mpr b3⟩, b4⟩, b5⟩⟩
  rw [b1]
  congr 1
  cases v with
  | none => rfl
  | some v => exact congrArg some (zcv_p E v)
set_option maxRecDepth 4000 in
theorem zsw_zw (n : Nat) (f : Int → Int) (a b c : Nat) (B : ZBk) (S Z : ZSg) (L : ZLn) (R : ZRd) (M : ZMd) : zsw (zw (n, f, a, b, c) B S Z L R M) = zw (n, f, zpi a, zpi b, zpi c) B Z S L R M := rfl
theorem zw_len (sc : ZSc) (B : ZBk) (S Z : ZSg) (L : ZLn) (R : ZRd) (M : ZMd) : (zw sc B S Z L R M).length = 45 := rfl
set_option maxRecDepth 4000 in
/-- a look of the lessened sight -/
theorem c_look_Z (l : Launch) (sn : Nat) (sf : Int → Int) (B : ZBk) (S Z : ZSg) (L : ZLn) (R : ZRd) (M : ZMd) (nw w l1 q : Int) (hn : 0 ≤ bN B ∧ bN B ≤ 100) (hT : zBt (bT B) (bN B)) (hK : zBk (bK B) (bN B)) (hv : ∀ p : Nat, (p : Int) < bN B → zvp (bT B) nw (p : Int)) (hno : zno (bT B) (bN B).toNat ≤ 20) (hw0 : 0 ≤ w ∧ w ≤ 100) (hl : -1 ≤ l1 ∧ l1 < bN B) (hq : -9 ≤ q ∧ q < 100) (hch : zch (bT B) (bK B) (bN B) Z) : zMet l m_X3_look [zR 22, zI w, zI l1, zI q] (zw (sn, sf, 5, 5, 22) B S Z L R M) (fun v h1 => v = none ∧ ∃ S1, (zw (sn, sf, 5, 5, 22) B S S1 L R M) = h1 ∧ zSi (bT B) (bN B) (zcB (bK B) (bN B) l1 q) (l1 + 1).toNat w S1 ∧ sWay S1 = w ∧ sLast S1 = l1 ∧ sWo S1 = q) := by
  have h := zren (h := zw (sn, sf, 22, 22, 5) B Z S L R M) (by rw [zw_len]; decide) (fun v h1 g => by obtain ⟨-, S1, rfl, -⟩ := g; rw [zw_len]; decide) (c_X3_look l (sn, sf, 22, 22, 5) B Z S L R M nw w l1 q hn hT hK hv hno hw0 hl hq hch)
  rw [zsw_zw] at h
  refine zMet_post h (fun v h1 g => ?_)
  obtain ⟨v0, h0, rfl, rfl, rfl, S1, rfl, g2⟩ := g
  exact ⟨rfl, S1, by rw [zsw_zw]; rfl, g2⟩
set_option maxRecDepth 4000 in
/-- the ground of the lessened sight -/
theorem c_ground_Z (l : Launch) (sn : Nat) (sf : Int → Int) (B : ZBk) (S Z : ZSg) (L : ZLn) (R : ZRd) (M : ZMd) (k y : Int) (hn : 0 ≤ bN B ∧ bN B ≤ 100) (hT : zBt (bT B) (bN B)) (hs : zsr (sP Z)) (hW : zwr (pW (sP Z))) (hb : ∀ y, 0 ≤ y → y ≤ 100 → 0 ≤ pB (sP Z) y ∧ pB (sP Z) y ≤ 1) (hR : zrk (pW (sP Z)) (pL (sP Z)) (pE (sP Z)) (pR (sP Z)) (pB (sP Z)) (pN (sP Z)) (pP (sP Z)) (pG (sP Z))) (hwn : 0 ≤ sWn Z ∧ sWn Z ≤ 1000) (hw : ∀ j, 0 ≤ j → j ≤ 2 → 0 ≤ sW Z j ∧ sW Z j ≤ 1000) (hg : 0 ≤ sGc Z ∧ sGc Z ≤ 20) (hgr : ∀ i, 0 ≤ i → i < sGc Z → -9 ≤ sG Z i ∧ sG Z i < 100) (hk : 0 ≤ k ∧ k ≤ 2) (hy : 0 ≤ y ∧ y ≤ 100) : zMet l m_X3_ground [zR 22, zI k, zI y] (zw (sn, sf, 5, 5, 22) B S Z L R M) (fun v h1 => ∃ Lk En Rk, v = some (zI (zgr (bT B) (bN B) (pW (sP Z)) (pB (sP Z)) (pN (sP Z)) (pP (sP Z)) (pG (sP Z)) (sW Z) (sG Z) (sGc Z) (sWn Z) k y)) ∧ (zw (sn, sf, 5, 5, 22) B S ((pW (sP Z), Lk, En, Rk, pB (sP Z), pN (sP Z), pP (sP Z), pG (sP Z)), sW Z, sO Z, sG Z, sOc Z, sGc Z, sWn Z, sWay Z, sLast Z, sWo Z) L R M) = h1 ∧ zrk (pW (sP Z)) Lk En Rk (pB (sP Z)) (pN (sP Z)) (pP (sP Z)) (pG (sP Z))) := by
  have h := zren (h := zw (sn, sf, 22, 22, 5) B Z S L R M) (by rw [zw_len]; decide) (fun v h1 g => by obtain ⟨Lk, En, Rk, -, rfl, -⟩ := g; rw [zw_len]; decide) (c_X3_ground l (sn, sf, 22, 22, 5) B Z S L R M k y hn hT hs hW hb hR hwn hw hg hgr hk hy)
  rw [zsw_zw] at h
  refine zMet_post h (fun v h1 g => ?_)
  obtain ⟨v0, h0, rfl, rfl, Lk, En, Rk, rfl, rfl, g2⟩ := g
  exact ⟨Lk, En, Rk, rfl, by rw [zsw_zw]; rfl, g2⟩
