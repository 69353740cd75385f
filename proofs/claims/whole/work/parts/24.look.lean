/-! a look: what the book says of a way as of a page, with one page left out if asked -/
theorem zsr_mk {W Lk En Rk b : Int → Int} {N P G : Int} (h1 : 1 ≤ N ∧ N ≤ 40) (h2 : 1 ≤ P ∧ P ≤ 4) (h3 : 0 ≤ G ∧ G ≤ 5) : zsr (W, Lk, En, Rk, b, N, P, G) := ⟨h1, h2, h3⟩
theorem zof_ok {T : Int → Int} {ct : Int → Bool} {w nw n : Int} {m : Nat} (hv : ∀ p : Nat, p < m → zvp T nw (p : Int)) (hm : (m : Int) ≤ n) {j : Int} (h1 : 0 ≤ j) (h2 : j < ((zof T ct w m).2 : Int)) : (0 ≤ (zof T ct w m).1 j ∧ (zof T ct w m).1 j < n) ∧ (0 ≤ zrd T n ((zof T ct w m).1 j) 3 ∧ zrd T n ((zof T ct w m).1 j) 3 ≤ 100) ∧ (zrd T n ((zof T ct w m).1 j) 0 = 3 ∨ (zrd T n ((zof T ct w m).1 j) 0 = 4 ∧ 0 ≤ zrd T n ((zof T ct w m).1 j) 2 ∧ zrd T n ((zof T ct w m).1 j) 2 ≤ 2)) := by
  obtain ⟨g1, g2, g3, g4⟩ := zof_mem m j h1 h2
  have h := hv ((zof T ct w m).1 j).toNat (by omega)
  rw [show (((zof T ct w m).1 j).toNat : Int) = (zof T ct w m).1 j by omega] at h
  rw [zrd_in (w := 0) ⟨⟨by omega, by omega⟩, by decide, by decide⟩, zrd_in (w := 2) ⟨⟨by omega, by omega⟩, by decide, by decide⟩, zrd_in (w := 3) ⟨⟨by omega, by omega⟩, by decide, by decide⟩]
  unfold zvp at h
  omega
theorem zSi_of {T : Int → Int} {n : Int} {ct : Int → Bool} {m : Nat} {w nw : Int} {W b SW O D Lk En Rk R0 : Int → Int} {N P G oc wn w1 l1 q1 : Int} (h : zSp T ct w m W b SW O oc R0) (hv : ∀ p : Nat, p < m → zvp T nw (p : Int)) (hm : (m : Int) ≤ n) (eN : N = zVN T ct m) (eP : P = zVP T ct m) (eG : G = zVG T ct m) (eW : wn = zVn T ct m) (hr : zrk W Lk En Rk b N P G) : zSi T n ct m w ((W, Lk, En, Rk, b, N, P, G), SW, O, (zjg T n W b N P G SW wn O D oc.toNat).1, oc, (zjg T n W b N P G SW wn O D oc.toNat).2, wn, w1, l1, q1) := by
  obtain ⟨h1, h2, h3, ⟨h4, h5⟩, -⟩ := h
  have hs := zst_rng (ct := ct) hv
  have g1 : ∀ k y, 0 ≤ k → k ≤ 2 → 0 ≤ y → y ≤ 100 → W (k * 101 + y) = zVW T ct w m (k * 101 + y) := fun k y a b c d => by rw [h1 k y a b c d, zVW_at T ct w m a ⟨c, d⟩]
  have e : oc.toNat = (zof T ct w m).2 := by omega
  have key := zjg_cong (T := T) (n := n) (N := N) (P := P) (G := G) (Wn := wn) (O := O) (O' := (zof T ct w m).1) (G0 := D) (G0' := fun _ => 0) g1 h2 (by omega) h3 (zof T ct w m).2 (fun j a c => by
    have q := zof_ok (n := n) hv hm a c
    rw [h5 j a (by omega)]
    exact ⟨rfl, q.2.1, by omega⟩)
  refine ⟨g1, h2, ⟨eN, eP, eG, eW⟩, h3, ?_, hr⟩
  show (zjg T n W b N P G SW wn O D oc.toNat).2 = (zVg T n ct w m).2 ∧ ∀ i, 0 ≤ i → i < (zjg T n W b N P G SW wn O D oc.toNat).2 → (zjg T n W b N P G SW wn O D oc.toNat).1 i = (zVg T n ct w m).1 i
  rw [e]
  subst eN; subst eP; subst eG; subst eW
  exact ⟨key.1, key.2.2⟩
/-- what a sight keeps is right, or it keeps nothing -/
def zch (T K : Int → Int) (n : Int) (S : ZSg) : Prop := ((-9 ≤ sWay S ∧ sWay S ≤ 100) ∧ (-9 ≤ sLast S ∧ sLast S < n) ∧ (-9 ≤ sWo S ∧ sWo S ≤ 100)) ∧ (sWay S = -9 ∨ zSi T n (zcB K n (sLast S) (sWo S)) (sLast S + 1).toNat (sWay S) S)
set_option maxRecDepth 4000 in
theorem c_X3_look (l : Launch) (sc : ZSc) (B : ZBk) (S Z : ZSg) (L : ZLn) (R : ZRd) (M : ZMd) (nw w l1 q : Int) (hn : 0 ≤ bN B ∧ bN B ≤ 100) (hT : zBt (bT B) (bN B)) (hK : zBk (bK B) (bN B)) (hv : ∀ p : Nat, (p : Int) < bN B → zvp (bT B) nw (p : Int)) (hno : zno (bT B) (bN B).toNat ≤ 20) (hw0 : 0 ≤ w ∧ w ≤ 100) (hl : -1 ≤ l1 ∧ l1 < bN B) (hq : -9 ≤ q ∧ q < 100) (hch : zch (bT B) (bK B) (bN B) S) : zMet l m_X3_look [zR 5, zI w, zI l1, zI q] (zw sc B S Z L R M) (fun v h1 => v = none ∧ ∃ S1, (zw sc B S1 Z L R M) = h1 ∧ zSi (bT B) (bN B) (zcB (bK B) (bN B) l1 q) (l1 + 1).toNat w S1 ∧ sWay S1 = w ∧ sLast S1 = l1 ∧ sWo S1 = q) := by
  refine z_method g_X3_look [some (zR 5), some (zI w), some (zI l1), some (zI q), none, none] rfl rfl (fun V c => ?_)
  obtain ⟨⟨hc1, hc2, hc3⟩, -⟩ := id hch
  have J25 : V (25, [some (zR 5), some (zI w), some (zI l1), some (zI q), none, none], [], (zw sc B S Z L R M), 0, 0) := by
    refine z_cV c 11 k_3_51 zv_X4_clear (pc := 47) (ls := [some (zR 5), some (zI w), some (zI l1), some (zI q), none, none]) (sk := []) (h := (zw sc B ((sP S), (sW S), (sO S), (sG S), (sOc S), (sGc S), (sWn S), w, l1, q) Z L R M)) (cs := 0) (ss := 0) (c_X4_clear l sc B ((sP S), (sW S), (sO S), (sG S), (sOc S), (sGc S), (sWn S), w, l1, q) Z L R M) rfl trivial rfl rfl ⟨Nat.le_refl _, Nat.le_refl _⟩ ?_
    rintro _ _ ⟨rfl, rfl⟩
    show V (47, [some (zR 5), some (zI w), some (zI l1), some (zI q), none, none], [], (zw sc B (((zff (pW ((sP S))) 0 303), (pL ((sP S))), (pE ((sP S))), (zff (pR ((sP S))) 0 3), (zff (pB ((sP S))) 0 101), (pN ((sP S))), (pP ((sP S))), (pG ((sP S)))), (sW S), (sO S), (sG S), (sOc S), (sGc S), (sWn S), w, l1, q) Z L R M), 0, 0)
    refine z_cS c 3 k_3_54 zv_J7_fill_53178 (pc := 55) (ls := [some (zR 5), some (zI w), some (zI l1), some (zI q), none, none]) (sk := []) (h := (zw sc B (((zff (pW ((sP S))) 0 303), (pL ((sP S))), (pE ((sP S))), (zff (pR ((sP S))) 0 3), (zff (pB ((sP S))) 0 101), (pN ((sP S))), (pP ((sP S))), (pG ((sP S)))), (sW S), (sO S), (sG S), (sOc S), (sGc S), (sWn S), w, l1, q) Z L R M)) (cs := 0) (ss := 0) (c_fill l (zw sc B (((zff (pW ((sP S))) 0 303), (pL ((sP S))), (pE ((sP S))), (zff (pR ((sP S))) 0 3), (zff (pB ((sP S))) 0 101), (pN ((sP S))), (pP ((sP S))), (pG ((sP S)))), (sW S), (sO S), (sG S), (sOc S), (sGc S), (sWn S), w, l1, q) Z L R M) 11 3 (sW S) 0 rfl (by decide)) rfl trivial rfl ⟨Nat.le_refl _, Nat.le_refl _⟩ ?_
    rintro _ _ ⟨rfl, rfl⟩
    show V (55, [some (zR 5), some (zI w), some (zI l1), some (zI q), none, none], [], (zw sc B (((zff (pW ((sP S))) 0 303), (pL ((sP S))), (pE ((sP S))), (zff (pR ((sP S))) 0 3), (zff (pB ((sP S))) 0 101), (pN ((sP S))), (pP ((sP S))), (pG ((sP S)))), (zff (sW S) 0 3), (sO S), (sG S), (sOc S), (sGc S), (sWn S), w, l1, q) Z L R M), 0, 0)
    refine z_go c 10 (s1 := (72, [some (zR 5), some (zI w), some (zI l1), some (zI q), some (zI ((-9))), some (zI 0)], [], (zw sc B (((zff (pW ((sP S))) 0 303), (pL ((sP S))), (pE ((sP S))), (zff (pR ((sP S))) 0 3), (zff (pB ((sP S))) 0 101), (pN ((sP S))), (pP ((sP S))), (pG ((sP S)))), (zff (sW S) 0 3), (sO S), (sG S), 0, 0, (sWn S), w, l1, q) Z L R M), 0, 0)) rfl trivial ?_
    have loop : ∀ (x m : Nat) (W1 L1 E1 R1 b1 : Int → Int) (N1 P1 G1 : Int) (A1 O1 D1 : Int → Int) (oc wn st : Int), l1 + 1 - (m : Int) < (x : Int) → (m : Int) ≤ l1 + 1 → zSp (bT B) (zcB (bK B) (bN B) l1 q) w m W1 b1 A1 O1 oc R1 → st = zS0 (bT B) (zcB (bK B) (bN B) l1 q) m → V (72, [some (zR 5), some (zI w), some (zI l1), some (zI q), some (zI st), some (zI ((m : Int)))], [], (zw sc B ((W1, L1, E1, R1, b1, N1, P1, G1), A1, O1, D1, oc, 0, wn, w, l1, q) Z L R M), 0, 0) := by
      intro x
      induction x with
      | zero => intro m W1 L1 E1 R1 b1 N1 P1 G1 A1 O1 D1 oc wn st h1 h2; exfalso; omega
      | succ x ih =>
        intro m W1 L1 E1 R1 b1 N1 P1 G1 A1 O1 D1 oc wn st hm1 hm2 hsp hst
        refine z_br c 3 (l1 < (m : Int)) (159, [some (zR 5), some (zI w), some (zI l1), some (zI q), some (zI st), some (zI ((m : Int)))], [], (zw sc B ((W1, L1, E1, R1, b1, N1, P1, G1), A1, O1, D1, oc, 0, wn, w, l1, q) Z L R M), 0, 0) (81, [some (zR 5), some (zI w), some (zI l1), some (zI q), some (zI st), some (zI ((m : Int)))], [], (zw sc B ((W1, L1, E1, R1, b1, N1, P1, G1), A1, O1, D1, oc, 0, wn, w, l1, q) Z L R M), 0, 0) rfl ⟨(show ((-2147483648 : Int) ≤ (m : Int) ∧ (m : Int) ≤ 2147483647) ∧ (-2147483648 : Int) ≤ l1 ∧ l1 ≤ 2147483647 by omega), trivial⟩ (fun h78 => ?_) (fun h78 => ?_)
        · have em : m = (l1 + 1).toNat := by omega
          have hvm : ∀ p : Nat, p < m → zvp (bT B) nw (p : Int) := fun p h => hv p (by omega)
          have hW1 : zwr W1 := zwr_of hvm hsp.1
          have hb1 : ∀ y, 0 ≤ y → y ≤ 100 → 0 ≤ b1 y ∧ b1 y ≤ 1 := fun y a b => by rw [hsp.2.1 y a b]; exact zbr1_rng _ _ _ _ _
          have hA1 : ∀ j, 0 ≤ j → j ≤ 2 → 0 ≤ A1 j ∧ A1 j ≤ 1000 := fun j a b => by
            rw [hsp.2.2.1 j a b]
            have := zpx_rng (ct := (zcB (bK B) (bN B) l1 q)) (w := w) (k := j) m hvm
            omega
          have hoc := hsp.2.2.2.1.1
          have hno1 := zof_no (bT B) (zcB (bK B) (bN B) l1 q) w m
          have hno2 := zno_mono (bT B) (bN B).toNat (show m ≤ (bN B).toNat by omega)
          have hO1 : ∀ j, 0 ≤ j → j < oc → (0 ≤ O1 j ∧ O1 j < bN B) ∧ (0 ≤ zrd (bT B) (bN B) (O1 j) 3 ∧ zrd (bT B) (bN B) (O1 j) 3 ≤ 100) ∧ (zrd (bT B) (bN B) (O1 j) 0 = 3 ∨ (zrd (bT B) (bN B) (O1 j) 0 = 4 ∧ 0 ≤ zrd (bT B) (bN B) (O1 j) 2 ∧ zrd (bT B) (bN B) (O1 j) 2 ≤ 2)) := fun j a b => by
            rw [hsp.2.2.2.1.2 j a b]
            exact zof_ok hvm (by omega) a (by omega)
          have hzs := zst_rng (ct := (zcB (bK B) (bN B) l1 q)) hvm
          rcases zS0_rng (bT B) (zcB (bK B) (bN B) l1 q) m with g | ⟨g1, g2, g3⟩
          · refine z_cV c 2 k_3_74 zv_X3_rule (pc := 165) (ls := [some (zR 5), some (zI w), some (zI l1), some (zI q), some (zI st), some (zI ((m : Int)))]) (sk := []) (h := (zw sc B ((W1, L1, E1, R1, b1, N1, P1, G1), A1, O1, D1, oc, 0, wn, w, l1, q) Z L R M)) (cs := 0) (ss := 0) (c_X3_rule_none l sc B ((W1, L1, E1, R1, b1, N1, P1, G1), A1, O1, D1, oc, 0, wn, w, l1, q) Z L R M st (by omega)) rfl trivial rfl rfl ⟨Nat.le_refl _, Nat.le_refl _⟩ ?_
            rintro _ _ ⟨rfl, rfl⟩
            show V (165, [some (zR 5), some (zI w), some (zI l1), some (zI q), some (zI st), some (zI ((m : Int)))], [], (zw sc B ((W1, L1, E1, R1, b1, 20, 2, 1), A1, O1, D1, oc, 0, 10, w, l1, q) Z L R M), 0, 0)
            have eN : 20 = zVN (bT B) (zcB (bK B) (bN B) l1 q) m := by
              show _ = zst _ _ _ _
              unfold zst
              rw [if_pos g]
            have eP : 2 = zVP (bT B) (zcB (bK B) (bN B) l1 q) m := by
              show _ = zst _ _ _ _
              unfold zst
              rw [if_pos g]
            have eG : 1 = zVG (bT B) (zcB (bK B) (bN B) l1 q) m := by
              show _ = zst _ _ _ _
              unfold zst
              rw [if_pos g]
            have eW : 10 = zVn (bT B) (zcB (bK B) (bN B) l1 q) m := by
              show _ = zst _ _ _ _
              unfold zst
              rw [if_pos g]
            refine z_cV c 1 k_3_77 zv_X3_judge (pc := 169) (ls := [some (zR 5), some (zI w), some (zI l1), some (zI q), some (zI st), some (zI ((m : Int)))]) (sk := []) (h := (zw sc B ((W1, L1, E1, R1, b1, 20, 2, 1), A1, O1, D1, oc, 0, 10, w, l1, q) Z L R M)) (cs := 0) (ss := 0) (c_X3_judge l sc B ((W1, L1, E1, R1, b1, 20, 2, 1), A1, O1, D1, oc, 0, 10, w, l1, q) Z L R M hn hT (show zsr (W1, L1, E1, R1, b1, 20, 2, 1) from zsr_mk (by omega) (by omega) (by omega)) hW1 hb1 (fun k a b => Or.inl (hsp.2.2.2.2 k a b)) (show 0 ≤ 10 ∧ 10 ≤ 1000 by omega) hA1 (show 0 ≤ oc ∧ oc ≤ 20 by omega) rfl hO1) rfl trivial rfl rfl ⟨Nat.le_refl _, Nat.le_refl _⟩ ?_
            rintro _ _ ⟨rfl, Lk, En, Rk, rfl, hrk⟩
            show V (169, [some (zR 5), some (zI w), some (zI l1), some (zI q), some (zI st), some (zI ((m : Int)))], [], (zw sc B ((W1, Lk, En, Rk, b1, 20, 2, 1), A1, O1, (zjg ((bT B)) ((bN B)) W1 b1 20 2 1 A1 10 O1 D1 oc.toNat).1, oc, (zjg ((bT B)) ((bN B)) W1 b1 20 2 1 A1 10 O1 D1 oc.toNat).2, 10, w, l1, q) Z L R M), 0, 0)
            exact z_re c 0 (v := none) (h := (zw sc B ((W1, Lk, En, Rk, b1, 20, 2, 1), A1, O1, (zjg ((bT B)) ((bN B)) W1 b1 20 2 1 A1 10 O1 D1 oc.toNat).1, oc, (zjg ((bT B)) ((bN B)) W1 b1 20 2 1 A1 10 O1 D1 oc.toNat).2, 10, w, l1, q) Z L R M)) (cs := 0) (ss := 0) rfl trivial trivial ⟨Nat.le_refl _, Nat.le_refl _⟩ ⟨rfl, _, rfl, by rw [← em]; exact zSi_of hsp hvm (by omega) eN eP eG eW hrk, rfl, rfl, rfl⟩
          · refine z_cV c 2 k_3_74 zv_X3_rule (pc := 165) (ls := [some (zR 5), some (zI w), some (zI l1), some (zI q), some (zI st), some (zI ((m : Int)))]) (sk := []) (h := (zw sc B ((W1, L1, E1, R1, b1, N1, P1, G1), A1, O1, D1, oc, 0, wn, w, l1, q) Z L R M)) (cs := 0) (ss := 0) (c_X3_rule_page l sc B ((W1, L1, E1, R1, b1, N1, P1, G1), A1, O1, D1, oc, 0, wn, w, l1, q) Z L R M st hn hT (by omega)) rfl trivial rfl rfl ⟨Nat.le_refl _, Nat.le_refl _⟩ ?_
            rintro _ _ ⟨rfl, rfl⟩
            show V (165, [some (zR 5), some (zI w), some (zI l1), some (zI q), some (zI st), some (zI ((m : Int)))], [], (zw sc B ((W1, L1, E1, R1, b1, (zrd (bT B) (bN B) st 9), (zrd (bT B) (bN B) st 10), (zrd (bT B) (bN B) st 11)), A1, O1, D1, oc, 0, (zrd (bT B) (bN B) st 6), w, l1, q) Z L R M), 0, 0)
            have eN : (zrd (bT B) (bN B) st 9) = zVN (bT B) (zcB (bK B) (bN B) l1 q) m := by
              show _ = zst _ _ _ _
              unfold zst
              rw [if_neg (by omega), hst]
              exact zrd_in (by omega)
            have eP : (zrd (bT B) (bN B) st 10) = zVP (bT B) (zcB (bK B) (bN B) l1 q) m := by
              show _ = zst _ _ _ _
              unfold zst
              rw [if_neg (by omega), hst]
              exact zrd_in (by omega)
            have eG : (zrd (bT B) (bN B) st 11) = zVG (bT B) (zcB (bK B) (bN B) l1 q) m := by
              show _ = zst _ _ _ _
              unfold zst
              rw [if_neg (by omega), hst]
              exact zrd_in (by omega)
            have eW : (zrd (bT B) (bN B) st 6) = zVn (bT B) (zcB (bK B) (bN B) l1 q) m := by
              show _ = zst _ _ _ _
              unfold zst
              rw [if_neg (by omega), hst]
              exact zrd_in (by omega)
            refine z_cV c 1 k_3_77 zv_X3_judge (pc := 169) (ls := [some (zR 5), some (zI w), some (zI l1), some (zI q), some (zI st), some (zI ((m : Int)))]) (sk := []) (h := (zw sc B ((W1, L1, E1, R1, b1, (zrd (bT B) (bN B) st 9), (zrd (bT B) (bN B) st 10), (zrd (bT B) (bN B) st 11)), A1, O1, D1, oc, 0, (zrd (bT B) (bN B) st 6), w, l1, q) Z L R M)) (cs := 0) (ss := 0) (c_X3_judge l sc B ((W1, L1, E1, R1, b1, (zrd (bT B) (bN B) st 9), (zrd (bT B) (bN B) st 10), (zrd (bT B) (bN B) st 11)), A1, O1, D1, oc, 0, (zrd (bT B) (bN B) st 6), w, l1, q) Z L R M hn hT (show zsr (W1, L1, E1, R1, b1, (zrd (bT B) (bN B) st 9), (zrd (bT B) (bN B) st 10), (zrd (bT B) (bN B) st 11)) from zsr_mk (by omega) (by omega) (by omega)) hW1 hb1 (fun k a b => Or.inl (hsp.2.2.2.2 k a b)) (show 0 ≤ (zrd (bT B) (bN B) st 6) ∧ (zrd (bT B) (bN B) st 6) ≤ 1000 by omega) hA1 (show 0 ≤ oc ∧ oc ≤ 20 by omega) rfl hO1) rfl trivial rfl rfl ⟨Nat.le_refl _, Nat.le_refl _⟩ ?_
            rintro _ _ ⟨rfl, Lk, En, Rk, rfl, hrk⟩
            show V (169, [some (zR 5), some (zI w), some (zI l1), some (zI q), some (zI st), some (zI ((m : Int)))], [], (zw sc B ((W1, Lk, En, Rk, b1, (zrd (bT B) (bN B) st 9), (zrd (bT B) (bN B) st 10), (zrd (bT B) (bN B) st 11)), A1, O1, (zjg ((bT B)) ((bN B)) W1 b1 ((zrd (bT B) (bN B) st 9)) ((zrd (bT B) (bN B) st 10)) ((zrd (bT B) (bN B) st 11)) A1 ((zrd (bT B) (bN B) st 6)) O1 D1 oc.toNat).1, oc, (zjg ((bT B)) ((bN B)) W1 b1 ((zrd (bT B) (bN B) st 9)) ((zrd (bT B) (bN B) st 10)) ((zrd (bT B) (bN B) st 11)) A1 ((zrd (bT B) (bN B) st 6)) O1 D1 oc.toNat).2, (zrd (bT B) (bN B) st 6), w, l1, q) Z L R M), 0, 0)
            exact z_re c 0 (v := none) (h := (zw sc B ((W1, Lk, En, Rk, b1, (zrd (bT B) (bN B) st 9), (zrd (bT B) (bN B) st 10), (zrd (bT B) (bN B) st 11)), A1, O1, (zjg ((bT B)) ((bN B)) W1 b1 ((zrd (bT B) (bN B) st 9)) ((zrd (bT B) (bN B) st 10)) ((zrd (bT B) (bN B) st 11)) A1 ((zrd (bT B) (bN B) st 6)) O1 D1 oc.toNat).1, oc, (zjg ((bT B)) ((bN B)) W1 b1 ((zrd (bT B) (bN B) st 9)) ((zrd (bT B) (bN B) st 10)) ((zrd (bT B) (bN B) st 11)) A1 ((zrd (bT B) (bN B) st 6)) O1 D1 oc.toNat).2, (zrd (bT B) (bN B) st 6), w, l1, q) Z L R M)) (cs := 0) (ss := 0) rfl trivial trivial ⟨Nat.le_refl _, Nat.le_refl _⟩ ⟨rfl, _, rfl, by rw [← em]; exact zSi_of hsp hvm (by omega) eN eP eG eW hrk, rfl, rfl, rfl⟩
        · refine z_br c 2 (100 ≤ (m : Int)) (159, [some (zR 5), some (zI w), some (zI l1), some (zI q), some (zI st), some (zI ((m : Int)))], [], (zw sc B ((W1, L1, E1, R1, b1, N1, P1, G1), A1, O1, D1, oc, 0, wn, w, l1, q) Z L R M), 0, 0) (88, [some (zR 5), some (zI w), some (zI l1), some (zI q), some (zI st), some (zI ((m : Int)))], [], (zw sc B ((W1, L1, E1, R1, b1, N1, P1, G1), A1, O1, D1, oc, 0, wn, w, l1, q) Z L R M), 0, 0) rfl ⟨(show ((-2147483648 : Int) ≤ (m : Int) ∧ (m : Int) ≤ 2147483647) ∧ (-2147483648 : Int) ≤ 100 ∧ 100 ≤ 2147483647 by omega), trivial⟩ (fun h85 => by exfalso; omega) (fun h85 => ?_)
          have hmn : (m : Int) < bN B := by omega
          have hvm := hv m hmn
          have z0 : zrd (bT B) (bN B) (m : Int) 0 = bT B ((m : Int) * 12 + 0) := zrd_in (by omega)
          have z1 : zrd (bT B) (bN B) (m : Int) 1 = bT B ((m : Int) * 12 + 1) := zrd_in (by omega)
          have z2 : zrd (bT B) (bN B) (m : Int) 2 = bT B ((m : Int) * 12 + 2) := zrd_in (by omega)
          have z3 : zrd (bT B) (bN B) (m : Int) 3 = bT B ((m : Int) * 12 + 3) := zrd_in (by omega)
          have z4 : zrd (bT B) (bN B) (m : Int) 4 = bT B ((m : Int) * 12 + 4) := zrd_in (by omega)
          have z5 : zrd (bT B) (bN B) (m : Int) 5 = bT B ((m : Int) * 12 + 5) := zrd_in (by omega)
          have z6 : zrd (bT B) (bN B) (m : Int) 6 = bT B ((m : Int) * 12 + 6) := zrd_in (by omega)
          unfold zvp at hvm
          refine z_cV c 7 k_3_60 zv_X0_isCounted (pc := 105) (ls := [some (zR 5), some (zI w), some (zI l1), some (zI q), some (zI st), some (zI ((m : Int)))]) (sk := []) (h := (zw sc B ((W1, L1, E1, R1, b1, N1, P1, G1), A1, O1, D1, oc, 0, wn, w, l1, q) Z L R M)) (cs := 0) (ss := 0) (c_X0_isCounted l sc B ((W1, L1, E1, R1, b1, N1, P1, G1), A1, O1, D1, oc, 0, wn, w, l1, q) Z L R M ((m : Int)) l1 q (show 0 ≤ (bN B) ∧ (bN B) ≤ 100 by omega) hK (by omega) (by omega) (by omega)) rfl trivial rfl rfl ⟨Nat.le_refl _, Nat.le_refl _⟩ ?_
          rintro _ _ ⟨r102, rfl, e102, rfl⟩
          show V (105, [some (zR 5), some (zI w), some (zI l1), some (zI q), some (zI st), some (zI ((m : Int)))], [zI r102], (zw sc B ((W1, L1, E1, R1, b1, N1, P1, G1), A1, O1, D1, oc, 0, wn, w, l1, q) Z L R M), 0, 0)
          refine z_br c 0 (¬ r102 = 0) (111, [some (zR 5), some (zI w), some (zI l1), some (zI q), some (zI st), some (zI ((m : Int)))], [], (zw sc B ((W1, L1, E1, R1, b1, N1, P1, G1), A1, O1, D1, oc, 0, wn, w, l1, q) Z L R M), 0, 0) (108, [some (zR 5), some (zI w), some (zI l1), some (zI q), some (zI st), some (zI ((m : Int)))], [], (zw sc B ((W1, L1, E1, R1, b1, N1, P1, G1), A1, O1, D1, oc, 0, wn, w, l1, q) Z L R M), 0, 0) rfl ⟨(show (-2147483648 : Int) ≤ r102 ∧ r102 ≤ 2147483647 by omega), trivial⟩ (fun h105 => ?_) (fun h105 => ?_)
          · have hct : (zcB (bK B) (bN B) l1 q) (m : Int) = true := by
              rcases e102 with ⟨g, -⟩ | ⟨-, g⟩
              · exact zcB_iff.mpr g
              · omega
            refine z_cV c 4 k_3_66 zv_X0_read (pc := 121) (ls := [some (zR 5), some (zI w), some (zI l1), some (zI q), some (zI st), some (zI ((m : Int)))]) (sk := []) (h := (zw sc B ((W1, L1, E1, R1, b1, N1, P1, G1), A1, O1, D1, oc, 0, wn, w, l1, q) Z L R M)) (cs := 0) (ss := 0) (c_X0_read l sc B ((W1, L1, E1, R1, b1, N1, P1, G1), A1, O1, D1, oc, 0, wn, w, l1, q) Z L R M ((m : Int)) 0 (show 0 ≤ (bN B) ∧ (bN B) ≤ 100 by omega) (by omega) (by omega)) rfl trivial rfl rfl ⟨Nat.le_refl _, Nat.le_refl _⟩ ?_
            rintro _ _ ⟨rfl, rfl⟩
            have q118 := zrd_rng hT ((m : Int)) 0
            show V (121, [some (zR 5), some (zI w), some (zI l1), some (zI q), some (zI st), some (zI ((m : Int)))], [zI ((zrd ((bT B)) ((bN B)) ((m : Int)) 0))], (zw sc B ((W1, L1, E1, R1, b1, N1, P1, G1), A1, O1, D1, oc, 0, wn, w, l1, q) Z L R M), 0, 0)
            refine z_br c 1 (¬ (zrd ((bT B)) ((bN B)) ((m : Int)) 0) = 6) (130, [some (zR 5), some (zI w), some (zI l1), some (zI q), some (zI st), some (zI ((m : Int)))], [], (zw sc B ((W1, L1, E1, R1, b1, N1, P1, G1), A1, O1, D1, oc, 0, wn, w, l1, q) Z L R M), 0, 0) (126, [some (zR 5), some (zI w), some (zI l1), some (zI q), some (zI st), some (zI ((m : Int)))], [], (zw sc B ((W1, L1, E1, R1, b1, N1, P1, G1), A1, O1, D1, oc, 0, wn, w, l1, q) Z L R M), 0, 0) rfl ⟨(show ((-2147483648 : Int) ≤ (zrd ((bT B)) ((bN B)) ((m : Int)) 0) ∧ (zrd ((bT B)) ((bN B)) ((m : Int)) 0) ≤ 2147483647) ∧ (-2147483648 : Int) ≤ 6 ∧ 6 ≤ 2147483647 by omega), trivial⟩ (fun h123 => ?_) (fun h123 => ?_)
            · refine z_cV c 4 k_3_66 zv_X0_read (pc := 140) (ls := [some (zR 5), some (zI w), some (zI l1), some (zI q), some (zI st), some (zI ((m : Int)))]) (sk := []) (h := (zw sc B ((W1, L1, E1, R1, b1, N1, P1, G1), A1, O1, D1, oc, 0, wn, w, l1, q) Z L R M)) (cs := 0) (ss := 0) (c_X0_read l sc B ((W1, L1, E1, R1, b1, N1, P1, G1), A1, O1, D1, oc, 0, wn, w, l1, q) Z L R M ((m : Int)) 1 (show 0 ≤ (bN B) ∧ (bN B) ≤ 100 by omega) (by omega) (by omega)) rfl trivial rfl rfl ⟨Nat.le_refl _, Nat.le_refl _⟩ ?_
              rintro _ _ ⟨rfl, rfl⟩
              have q137 := zrd_rng hT ((m : Int)) 1
              show V (140, [some (zR 5), some (zI w), some (zI l1), some (zI q), some (zI st), some (zI ((m : Int)))], [zI ((zrd ((bT B)) ((bN B)) ((m : Int)) 1))], (zw sc B ((W1, L1, E1, R1, b1, N1, P1, G1), A1, O1, D1, oc, 0, wn, w, l1, q) Z L R M), 0, 0)
              refine z_br c 2 (¬ (zrd ((bT B)) ((bN B)) ((m : Int)) 1) = w) (153, [some (zR 5), some (zI w), some (zI l1), some (zI q), some (zI st), some (zI ((m : Int)))], [], (zw sc B ((W1, L1, E1, R1, b1, N1, P1, G1), A1, O1, D1, oc, 0, wn, w, l1, q) Z L R M), 0, 0) (147, [some (zR 5), some (zI w), some (zI l1), some (zI q), some (zI st), some (zI ((m : Int)))], [], (zw sc B ((W1, L1, E1, R1, b1, N1, P1, G1), A1, O1, D1, oc, 0, wn, w, l1, q) Z L R M), 0, 0) rfl ⟨(show ((-2147483648 : Int) ≤ (zrd ((bT B)) ((bN B)) ((m : Int)) 1) ∧ (zrd ((bT B)) ((bN B)) ((m : Int)) 1) ≤ 2147483647) ∧ (-2147483648 : Int) ≤ w ∧ w ≤ 2147483647 by omega), trivial⟩ (fun h144 => ?_) (fun h144 => ?_)
              · have hs2 := zSp_no hsp (fun z => by omega)
                have hst2 : st = zS0 (bT B) (zcB (bK B) (bN B) l1 q) (m + 1) := by
                  show _ = (if _ then _ else _)
                  rw [if_neg (fun z => by omega)]; exact hst
                refine z_go c 2 (s1 := (72, [some (zR 5), some (zI w), some (zI l1), some (zI q), some (zI st), some (zI (((m : Int) + 1)))], [], (zw sc B ((W1, L1, E1, R1, b1, N1, P1, G1), A1, O1, D1, oc, 0, wn, w, l1, q) Z L R M), 0, 0)) rfl trivial ?_
                exact ih (m + 1) _ _ _ _ _ _ _ _ _ _ _ _ _ _ (by omega) (by omega) hs2 hst2
              · rcases (show bT B ((m : Int) * 12 + 0) = 0 ∨ bT B ((m : Int) * 12 + 0) = 1 ∨ bT B ((m : Int) * 12 + 0) = 2 ∨ (bT B ((m : Int) * 12 + 0) = 3 ∨ bT B ((m : Int) * 12 + 0) = 4) by omega) with g0 | g0 | g0 | g0
                · refine z_cV c 2 k_3_70 zv_X3_take (pc := 153) (ls := [some (zR 5), some (zI w), some (zI l1), some (zI q), some (zI st), some (zI ((m : Int)))]) (sk := []) (h := (zw sc B ((W1, L1, E1, R1, b1, N1, P1, G1), A1, O1, D1, oc, 0, wn, w, l1, q) Z L R M)) (cs := 0) (ss := 0) (c_X3_take_walk l sc B ((W1, L1, E1, R1, b1, N1, P1, G1), A1, O1, D1, oc, 0, wn, w, l1, q) Z L R M (m : Int) hn hT (by omega) (by omega) (by omega) (by omega) (by omega) (zwr_of (fun p h => hv p (by omega)) hsp.1)) rfl trivial rfl rfl ⟨Nat.le_refl _, Nat.le_refl _⟩ ?_
                  rintro _ _ ⟨rfl, rfl⟩
                  show V (153, [some (zR 5), some (zI w), some (zI l1), some (zI q), some (zI st), some (zI ((m : Int)))], [], (zw sc B (((zaw W1 ((zrd (bT B) (bN B) (m : Int) 2) * 101 + (zrd (bT B) (bN B) (m : Int) 3)) ((2 ^ (zrd (bT B) (bN B) (m : Int) 5).toNat : Nat) : Int) ((zrd (bT B) (bN B) (m : Int) 2) * 101 + (zrd (bT B) (bN B) (m : Int) 4) + 1)), L1, E1, R1, b1, N1, P1, G1), A1, O1, D1, oc, 0, wn, w, l1, q) Z L R M), 0, 0)
                  have hs2 := zSp_walk hsp hct (by omega) g0 z2.symm z3.symm z4.symm z5.symm (by omega) (by omega)
                  have hst2 : st = zS0 (bT B) (zcB (bK B) (bN B) l1 q) (m + 1) := by
                    show _ = (if _ then _ else _)
                    rw [if_neg (fun z => by omega)]; exact hst
                  refine z_go c 2 (s1 := (72, [some (zR 5), some (zI w), some (zI l1), some (zI q), some (zI st), some (zI (((m : Int) + 1)))], [], (zw sc B (((zaw W1 ((zrd (bT B) (bN B) (m : Int) 2) * 101 + (zrd (bT B) (bN B) (m : Int) 3)) ((2 ^ (zrd (bT B) (bN B) (m : Int) 5).toNat : Nat) : Int) ((zrd (bT B) (bN B) (m : Int) 2) * 101 + (zrd (bT B) (bN B) (m : Int) 4) + 1)), L1, E1, R1, b1, N1, P1, G1), A1, O1, D1, oc, 0, wn, w, l1, q) Z L R M), 0, 0)) rfl trivial ?_
                  exact ih (m + 1) _ _ _ _ _ _ _ _ _ _ _ _ _ _ (by omega) (by omega) hs2 hst2
                · refine z_cV c 2 k_3_70 zv_X3_take (pc := 153) (ls := [some (zR 5), some (zI w), some (zI l1), some (zI q), some (zI st), some (zI ((m : Int)))]) (sk := []) (h := (zw sc B ((W1, L1, E1, R1, b1, N1, P1, G1), A1, O1, D1, oc, 0, wn, w, l1, q) Z L R M)) (cs := 0) (ss := 0) (c_X3_take_paper l sc B ((W1, L1, E1, R1, b1, N1, P1, G1), A1, O1, D1, oc, 0, wn, w, l1, q) Z L R M (m : Int) hn hT (by omega) (by omega) (by omega)) rfl trivial rfl rfl ⟨Nat.le_refl _, Nat.le_refl _⟩ ?_
                  rintro _ _ ⟨rfl, rfl⟩
                  show V (153, [some (zR 5), some (zI w), some (zI l1), some (zI q), some (zI st), some (zI ((m : Int)))], [], (zw sc B ((W1, L1, E1, R1, b1, N1, P1, G1), (zup A1 (zrd (bT B) (bN B) (m : Int) 2) (A1 (zrd (bT B) (bN B) (m : Int) 2) + (zrd (bT B) (bN B) (m : Int) 6))), O1, D1, oc, 0, wn, w, l1, q) Z L R M), 0, 0)
                  have hs2 := zSp_paper hsp hct (by omega) g0 z2.symm z6.symm (by omega)
                  have hst2 : st = zS0 (bT B) (zcB (bK B) (bN B) l1 q) (m + 1) := by
                    show _ = (if _ then _ else _)
                    rw [if_neg (fun z => by omega)]; exact hst
                  refine z_go c 2 (s1 := (72, [some (zR 5), some (zI w), some (zI l1), some (zI q), some (zI st), some (zI (((m : Int) + 1)))], [], (zw sc B ((W1, L1, E1, R1, b1, N1, P1, G1), (zup A1 (zrd (bT B) (bN B) (m : Int) 2) (A1 (zrd (bT B) (bN B) (m : Int) 2) + (zrd (bT B) (bN B) (m : Int) 6))), O1, D1, oc, 0, wn, w, l1, q) Z L R M), 0, 0)) rfl trivial ?_
                  exact ih (m + 1) _ _ _ _ _ _ _ _ _ _ _ _ _ _ (by omega) (by omega) hs2 hst2
                · refine z_cV c 2 k_3_70 zv_X3_take (pc := 153) (ls := [some (zR 5), some (zI w), some (zI l1), some (zI q), some (zI st), some (zI ((m : Int)))]) (sk := []) (h := (zw sc B ((W1, L1, E1, R1, b1, N1, P1, G1), A1, O1, D1, oc, 0, wn, w, l1, q) Z L R M)) (cs := 0) (ss := 0) (c_X3_take_break l sc B ((W1, L1, E1, R1, b1, N1, P1, G1), A1, O1, D1, oc, 0, wn, w, l1, q) Z L R M (m : Int) hn hT (by omega) (by omega) (by omega)) rfl trivial rfl rfl ⟨Nat.le_refl _, Nat.le_refl _⟩ ?_
                  rintro _ _ ⟨rfl, rfl⟩
                  show V (153, [some (zR 5), some (zI w), some (zI l1), some (zI q), some (zI st), some (zI ((m : Int)))], [], (zw sc B ((W1, L1, E1, R1, (zup b1 (zrd (bT B) (bN B) (m : Int) 3) 1), N1, P1, G1), A1, O1, D1, oc, 0, wn, w, l1, q) Z L R M), 0, 0)
                  have hs2 := zSp_break hsp hct (by omega) g0 z3.symm
                  have hst2 : st = zS0 (bT B) (zcB (bK B) (bN B) l1 q) (m + 1) := by
                    show _ = (if _ then _ else _)
                    rw [if_neg (fun z => by omega)]; exact hst
                  refine z_go c 2 (s1 := (72, [some (zR 5), some (zI w), some (zI l1), some (zI q), some (zI st), some (zI (((m : Int) + 1)))], [], (zw sc B ((W1, L1, E1, R1, (zup b1 (zrd (bT B) (bN B) (m : Int) 3) 1), N1, P1, G1), A1, O1, D1, oc, 0, wn, w, l1, q) Z L R M), 0, 0)) rfl trivial ?_
                  exact ih (m + 1) _ _ _ _ _ _ _ _ _ _ _ _ _ _ (by omega) (by omega) hs2 hst2
                · have hoc := hsp.2.2.2.1.1
                  have hno1 := zof_no (bT B) (zcB (bK B) (bN B) l1 q) w m
                  have hno2 := zno_mono (bT B) (bN B).toNat (show m + 1 ≤ (bN B).toNat by omega)
                  have hno3 : zno (bT B) (m + 1) = zno (bT B) m + (if bT B ((m : Int) * 12 + 0) = 3 ∨ bT B ((m : Int) * 12 + 0) = 4 then 1 else 0) := rfl
                  rw [if_pos g0] at hno3
                  have hoc1 : 0 ≤ oc ∧ oc < 20 := by omega
                  have hoj1 : ∀ j, 0 ≤ j → j < oc → -9 ≤ O1 j ∧ O1 j < 100 := fun j a b => by
                    rw [hsp.2.2.2.1.2 j a b]
                    have := (zof_mem (T := bT B) (ct := (zcB (bK B) (bN B) l1 q)) (w := w) m j a (by omega)).1
                    omega
                  refine z_cV c 2 k_3_70 zv_X3_take (pc := 153) (ls := [some (zR 5), some (zI w), some (zI l1), some (zI q), some (zI st), some (zI ((m : Int)))]) (sk := []) (h := (zw sc B ((W1, L1, E1, R1, b1, N1, P1, G1), A1, O1, D1, oc, 0, wn, w, l1, q) Z L R M)) (cs := 0) (ss := 0) (c_X3_take_order l sc B ((W1, L1, E1, R1, b1, N1, P1, G1), A1, O1, D1, oc, 0, wn, w, l1, q) Z L R M (m : Int) hn hT (by omega) (by omega) (by omega) hoc1 hoj1) rfl trivial rfl rfl ⟨Nat.le_refl _, Nat.le_refl _⟩ ?_
                  rintro _ _ ⟨rfl, rfl⟩
                  show V (153, [some (zR 5), some (zI w), some (zI l1), some (zI q), some (zI st), some (zI ((m : Int)))], [], (zw sc B ((W1, L1, E1, R1, b1, N1, P1, G1), A1, (zinf (fun q => zrd (bT B) (bN B) q 3) O1 (zrd (bT B) (bN B) (m : Int) 3) (m : Int) oc.toNat), D1, (oc + 1), 0, wn, w, l1, q) Z L R M), 0, 0)
                  have hs2 := zSp_order hsp hct (by omega) g0 hmn z3.symm
                  have hst2 : st = zS0 (bT B) (zcB (bK B) (bN B) l1 q) (m + 1) := by
                    show _ = (if _ then _ else _)
                    rw [if_neg (fun z => by omega)]; exact hst
                  refine z_go c 2 (s1 := (72, [some (zR 5), some (zI w), some (zI l1), some (zI q), some (zI st), some (zI (((m : Int) + 1)))], [], (zw sc B ((W1, L1, E1, R1, b1, N1, P1, G1), A1, (zinf (fun q => zrd (bT B) (bN B) q 3) O1 (zrd (bT B) (bN B) (m : Int) 3) (m : Int) oc.toNat), D1, (oc + 1), 0, wn, w, l1, q) Z L R M), 0, 0)) rfl trivial ?_
                  exact ih (m + 1) _ _ _ _ _ _ _ _ _ _ _ _ _ _ (by omega) (by omega) hs2 hst2
            · refine z_cV c 6 k_3_66 zv_X0_read (pc := 140) (ls := [some (zR 5), some (zI w), some (zI l1), some (zI q), some (zI ((m : Int))), some (zI ((m : Int)))]) (sk := []) (h := (zw sc B ((W1, L1, E1, R1, b1, N1, P1, G1), A1, O1, D1, oc, 0, wn, w, l1, q) Z L R M)) (cs := 0) (ss := 0) (c_X0_read l sc B ((W1, L1, E1, R1, b1, N1, P1, G1), A1, O1, D1, oc, 0, wn, w, l1, q) Z L R M ((m : Int)) 1 (show 0 ≤ (bN B) ∧ (bN B) ≤ 100 by omega) (by omega) (by omega)) rfl trivial rfl rfl ⟨Nat.le_refl _, Nat.le_refl _⟩ ?_
              rintro _ _ ⟨rfl, rfl⟩
              have q137 := zrd_rng hT ((m : Int)) 1
              show V (140, [some (zR 5), some (zI w), some (zI l1), some (zI q), some (zI ((m : Int))), some (zI ((m : Int)))], [zI ((zrd ((bT B)) ((bN B)) ((m : Int)) 1))], (zw sc B ((W1, L1, E1, R1, b1, N1, P1, G1), A1, O1, D1, oc, 0, wn, w, l1, q) Z L R M), 0, 0)
              refine z_br c 2 (¬ (zrd ((bT B)) ((bN B)) ((m : Int)) 1) = w) (153, [some (zR 5), some (zI w), some (zI l1), some (zI q), some (zI ((m : Int))), some (zI ((m : Int)))], [], (zw sc B ((W1, L1, E1, R1, b1, N1, P1, G1), A1, O1, D1, oc, 0, wn, w, l1, q) Z L R M), 0, 0) (147, [some (zR 5), some (zI w), some (zI l1), some (zI q), some (zI ((m : Int))), some (zI ((m : Int)))], [], (zw sc B ((W1, L1, E1, R1, b1, N1, P1, G1), A1, O1, D1, oc, 0, wn, w, l1, q) Z L R M), 0, 0) rfl ⟨(show ((-2147483648 : Int) ≤ (zrd ((bT B)) ((bN B)) ((m : Int)) 1) ∧ (zrd ((bT B)) ((bN B)) ((m : Int)) 1) ≤ 2147483647) ∧ (-2147483648 : Int) ≤ w ∧ w ≤ 2147483647 by omega), trivial⟩ (fun h144 => ?_) (fun h144 => ?_)
              · have hs2 := zSp_no hsp (fun z => by omega)
                have hst2 : (m : Int) = zS0 (bT B) (zcB (bK B) (bN B) l1 q) (m + 1) := by
                  show _ = (if _ then _ else _)
                  rw [if_pos ⟨hct, by omega⟩]
                refine z_go c 2 (s1 := (72, [some (zR 5), some (zI w), some (zI l1), some (zI q), some (zI ((m : Int))), some (zI (((m : Int) + 1)))], [], (zw sc B ((W1, L1, E1, R1, b1, N1, P1, G1), A1, O1, D1, oc, 0, wn, w, l1, q) Z L R M), 0, 0)) rfl trivial ?_
                exact ih (m + 1) _ _ _ _ _ _ _ _ _ _ _ _ _ _ (by omega) (by omega) hs2 hst2
              · rcases (show bT B ((m : Int) * 12 + 0) = 0 ∨ bT B ((m : Int) * 12 + 0) = 1 ∨ bT B ((m : Int) * 12 + 0) = 2 ∨ (bT B ((m : Int) * 12 + 0) = 3 ∨ bT B ((m : Int) * 12 + 0) = 4) by omega) with g0 | g0 | g0 | g0
                · refine z_cV c 2 k_3_70 zv_X3_take (pc := 153) (ls := [some (zR 5), some (zI w), some (zI l1), some (zI q), some (zI ((m : Int))), some (zI ((m : Int)))]) (sk := []) (h := (zw sc B ((W1, L1, E1, R1, b1, N1, P1, G1), A1, O1, D1, oc, 0, wn, w, l1, q) Z L R M)) (cs := 0) (ss := 0) (c_X3_take_walk l sc B ((W1, L1, E1, R1, b1, N1, P1, G1), A1, O1, D1, oc, 0, wn, w, l1, q) Z L R M (m : Int) hn hT (by omega) (by omega) (by omega) (by omega) (by omega) (zwr_of (fun p h => hv p (by omega)) hsp.1)) rfl trivial rfl rfl ⟨Nat.le_refl _, Nat.le_refl _⟩ ?_
                  rintro _ _ ⟨rfl, rfl⟩
                  show V (153, [some (zR 5), some (zI w), some (zI l1), some (zI q), some (zI ((m : Int))), some (zI ((m : Int)))], [], (zw sc B (((zaw W1 ((zrd (bT B) (bN B) (m : Int) 2) * 101 + (zrd (bT B) (bN B) (m : Int) 3)) ((2 ^ (zrd (bT B) (bN B) (m : Int) 5).toNat : Nat) : Int) ((zrd (bT B) (bN B) (m : Int) 2) * 101 + (zrd (bT B) (bN B) (m : Int) 4) + 1)), L1, E1, R1, b1, N1, P1, G1), A1, O1, D1, oc, 0, wn, w, l1, q) Z L R M), 0, 0)
                  have hs2 := zSp_walk hsp hct (by omega) g0 z2.symm z3.symm z4.symm z5.symm (by omega) (by omega)
                  have hst2 : (m : Int) = zS0 (bT B) (zcB (bK B) (bN B) l1 q) (m + 1) := by
                    show _ = (if _ then _ else _)
                    rw [if_pos ⟨hct, by omega⟩]
                  refine z_go c 2 (s1 := (72, [some (zR 5), some (zI w), some (zI l1), some (zI q), some (zI ((m : Int))), some (zI (((m : Int) + 1)))], [], (zw sc B (((zaw W1 ((zrd (bT B) (bN B) (m : Int) 2) * 101 + (zrd (bT B) (bN B) (m : Int) 3)) ((2 ^ (zrd (bT B) (bN B) (m : Int) 5).toNat : Nat) : Int) ((zrd (bT B) (bN B) (m : Int) 2) * 101 + (zrd (bT B) (bN B) (m : Int) 4) + 1)), L1, E1, R1, b1, N1, P1, G1), A1, O1, D1, oc, 0, wn, w, l1, q) Z L R M), 0, 0)) rfl trivial ?_
                  exact ih (m + 1) _ _ _ _ _ _ _ _ _ _ _ _ _ _ (by omega) (by omega) hs2 hst2
                · refine z_cV c 2 k_3_70 zv_X3_take (pc := 153) (ls := [some (zR 5), some (zI w), some (zI l1), some (zI q), some (zI ((m : Int))), some (zI ((m : Int)))]) (sk := []) (h := (zw sc B ((W1, L1, E1, R1, b1, N1, P1, G1), A1, O1, D1, oc, 0, wn, w, l1, q) Z L R M)) (cs := 0) (ss := 0) (c_X3_take_paper l sc B ((W1, L1, E1, R1, b1, N1, P1, G1), A1, O1, D1, oc, 0, wn, w, l1, q) Z L R M (m : Int) hn hT (by omega) (by omega) (by omega)) rfl trivial rfl rfl ⟨Nat.le_refl _, Nat.le_refl _⟩ ?_
                  rintro _ _ ⟨rfl, rfl⟩
                  show V (153, [some (zR 5), some (zI w), some (zI l1), some (zI q), some (zI ((m : Int))), some (zI ((m : Int)))], [], (zw sc B ((W1, L1, E1, R1, b1, N1, P1, G1), (zup A1 (zrd (bT B) (bN B) (m : Int) 2) (A1 (zrd (bT B) (bN B) (m : Int) 2) + (zrd (bT B) (bN B) (m : Int) 6))), O1, D1, oc, 0, wn, w, l1, q) Z L R M), 0, 0)
                  have hs2 := zSp_paper hsp hct (by omega) g0 z2.symm z6.symm (by omega)
                  have hst2 : (m : Int) = zS0 (bT B) (zcB (bK B) (bN B) l1 q) (m + 1) := by
                    show _ = (if _ then _ else _)
                    rw [if_pos ⟨hct, by omega⟩]
                  refine z_go c 2 (s1 := (72, [some (zR 5), some (zI w), some (zI l1), some (zI q), some (zI ((m : Int))), some (zI (((m : Int) + 1)))], [], (zw sc B ((W1, L1, E1, R1, b1, N1, P1, G1), (zup A1 (zrd (bT B) (bN B) (m : Int) 2) (A1 (zrd (bT B) (bN B) (m : Int) 2) + (zrd (bT B) (bN B) (m : Int) 6))), O1, D1, oc, 0, wn, w, l1, q) Z L R M), 0, 0)) rfl trivial ?_
                  exact ih (m + 1) _ _ _ _ _ _ _ _ _ _ _ _ _ _ (by omega) (by omega) hs2 hst2
                · refine z_cV c 2 k_3_70 zv_X3_take (pc := 153) (ls := [some (zR 5), some (zI w), some (zI l1), some (zI q), some (zI ((m : Int))), some (zI ((m : Int)))]) (sk := []) (h := (zw sc B ((W1, L1, E1, R1, b1, N1, P1, G1), A1, O1, D1, oc, 0, wn, w, l1, q) Z L R M)) (cs := 0) (ss := 0) (c_X3_take_break l sc B ((W1, L1, E1, R1, b1, N1, P1, G1), A1, O1, D1, oc, 0, wn, w, l1, q) Z L R M (m : Int) hn hT (by omega) (by omega) (by omega)) rfl trivial rfl rfl ⟨Nat.le_refl _, Nat.le_refl _⟩ ?_
                  rintro _ _ ⟨rfl, rfl⟩
                  show V (153, [some (zR 5), some (zI w), some (zI l1), some (zI q), some (zI ((m : Int))), some (zI ((m : Int)))], [], (zw sc B ((W1, L1, E1, R1, (zup b1 (zrd (bT B) (bN B) (m : Int) 3) 1), N1, P1, G1), A1, O1, D1, oc, 0, wn, w, l1, q) Z L R M), 0, 0)
                  have hs2 := zSp_break hsp hct (by omega) g0 z3.symm
                  have hst2 : (m : Int) = zS0 (bT B) (zcB (bK B) (bN B) l1 q) (m + 1) := by
                    show _ = (if _ then _ else _)
                    rw [if_pos ⟨hct, by omega⟩]
                  refine z_go c 2 (s1 := (72, [some (zR 5), some (zI w), some (zI l1), some (zI q), some (zI ((m : Int))), some (zI (((m : Int) + 1)))], [], (zw sc B ((W1, L1, E1, R1, (zup b1 (zrd (bT B) (bN B) (m : Int) 3) 1), N1, P1, G1), A1, O1, D1, oc, 0, wn, w, l1, q) Z L R M), 0, 0)) rfl trivial ?_
                  exact ih (m + 1) _ _ _ _ _ _ _ _ _ _ _ _ _ _ (by omega) (by omega) hs2 hst2
                · have hoc := hsp.2.2.2.1.1
                  have hno1 := zof_no (bT B) (zcB (bK B) (bN B) l1 q) w m
                  have hno2 := zno_mono (bT B) (bN B).toNat (show m + 1 ≤ (bN B).toNat by omega)
                  have hno3 : zno (bT B) (m + 1) = zno (bT B) m + (if bT B ((m : Int) * 12 + 0) = 3 ∨ bT B ((m : Int) * 12 + 0) = 4 then 1 else 0) := rfl
                  rw [if_pos g0] at hno3
                  have hoc1 : 0 ≤ oc ∧ oc < 20 := by omega
                  have hoj1 : ∀ j, 0 ≤ j → j < oc → -9 ≤ O1 j ∧ O1 j < 100 := fun j a b => by
                    rw [hsp.2.2.2.1.2 j a b]
                    have := (zof_mem (T := bT B) (ct := (zcB (bK B) (bN B) l1 q)) (w := w) m j a (by omega)).1
                    omega
                  refine z_cV c 2 k_3_70 zv_X3_take (pc := 153) (ls := [some (zR 5), some (zI w), some (zI l1), some (zI q), some (zI ((m : Int))), some (zI ((m : Int)))]) (sk := []) (h := (zw sc B ((W1, L1, E1, R1, b1, N1, P1, G1), A1, O1, D1, oc, 0, wn, w, l1, q) Z L R M)) (cs := 0) (ss := 0) (c_X3_take_order l sc B ((W1, L1, E1, R1, b1, N1, P1, G1), A1, O1, D1, oc, 0, wn, w, l1, q) Z L R M (m : Int) hn hT (by omega) (by omega) (by omega) hoc1 hoj1) rfl trivial rfl rfl ⟨Nat.le_refl _, Nat.le_refl _⟩ ?_
                  rintro _ _ ⟨rfl, rfl⟩
                  show V (153, [some (zR 5), some (zI w), some (zI l1), some (zI q), some (zI ((m : Int))), some (zI ((m : Int)))], [], (zw sc B ((W1, L1, E1, R1, b1, N1, P1, G1), A1, (zinf (fun q => zrd (bT B) (bN B) q 3) O1 (zrd (bT B) (bN B) (m : Int) 3) (m : Int) oc.toNat), D1, (oc + 1), 0, wn, w, l1, q) Z L R M), 0, 0)
                  have hs2 := zSp_order hsp hct (by omega) g0 hmn z3.symm
                  have hst2 : (m : Int) = zS0 (bT B) (zcB (bK B) (bN B) l1 q) (m + 1) := by
                    show _ = (if _ then _ else _)
                    rw [if_pos ⟨hct, by omega⟩]
                  refine z_go c 2 (s1 := (72, [some (zR 5), some (zI w), some (zI l1), some (zI q), some (zI ((m : Int))), some (zI (((m : Int) + 1)))], [], (zw sc B ((W1, L1, E1, R1, b1, N1, P1, G1), A1, (zinf (fun q => zrd (bT B) (bN B) q 3) O1 (zrd (bT B) (bN B) (m : Int) 3) (m : Int) oc.toNat), D1, (oc + 1), 0, wn, w, l1, q) Z L R M), 0, 0)) rfl trivial ?_
                  exact ih (m + 1) _ _ _ _ _ _ _ _ _ _ _ _ _ _ (by omega) (by omega) hs2 hst2
          · have hnc : ¬ (zcB (bK B) (bN B) l1 q) (m : Int) = true := fun z => by
              rcases e102 with ⟨-, g⟩ | ⟨g, -⟩
              · omega
              · exact g (zcB_iff.mp z)
            refine z_go c 1 (s1 := (153, [some (zR 5), some (zI w), some (zI l1), some (zI q), some (zI st), some (zI ((m : Int)))], [], (zw sc B ((W1, L1, E1, R1, b1, N1, P1, G1), A1, O1, D1, oc, 0, wn, w, l1, q) Z L R M), 0, 0)) rfl trivial ?_
            have hs2 := zSp_no hsp (fun z => hnc z.1)
            have hst2 : st = zS0 (bT B) (zcB (bK B) (bN B) l1 q) (m + 1) := by
              show _ = (if _ then _ else _)
              rw [if_neg (fun z => hnc z.1)]; exact hst
            refine z_go c 2 (s1 := (72, [some (zR 5), some (zI w), some (zI l1), some (zI q), some (zI st), some (zI (((m : Int) + 1)))], [], (zw sc B ((W1, L1, E1, R1, b1, N1, P1, G1), A1, O1, D1, oc, 0, wn, w, l1, q) Z L R M), 0, 0)) rfl trivial ?_
            exact ih (m + 1) _ _ _ _ _ _ _ _ _ _ _ _ _ _ (by omega) (by omega) hs2 hst2
    refine loop 101 0 _ _ _ _ _ _ _ _ _ _ _ _ _ _ (by omega) (by omega) ⟨fun k y a b c d => ?_, fun y a b => ?_, fun k a b => ?_, ⟨rfl, fun j a b => by omega⟩, fun k a b => ?_⟩ rfl
    · simp only [zff]; rw [if_pos (by omega)]; rfl
    · simp only [zff]; rw [if_pos (by omega)]; rfl
    · simp only [zff]; rw [if_pos (by omega)]; rfl
    · simp only [zff]; rw [if_pos (by omega)]
  refine z_br c 3 (¬ (sWay S) = w) (25, [some (zR 5), some (zI w), some (zI l1), some (zI q), none, none], [], (zw sc B S Z L R M), 0, 0) (8, [some (zR 5), some (zI w), some (zI l1), some (zI q), none, none], [], (zw sc B S Z L R M), 0, 0) rfl ⟨(show ((-2147483648 : Int) ≤ (sWay S) ∧ (sWay S) ≤ 2147483647) ∧ (-2147483648 : Int) ≤ w ∧ w ≤ 2147483647 by omega), trivial⟩ (fun h5 => ?_) (fun h5 => ?_)
  · exact J25
  · refine z_br c 3 (¬ (sLast S) = l1) (25, [some (zR 5), some (zI w), some (zI l1), some (zI q), none, none], [], (zw sc B S Z L R M), 0, 0) (16, [some (zR 5), some (zI w), some (zI l1), some (zI q), none, none], [], (zw sc B S Z L R M), 0, 0) rfl ⟨(show ((-2147483648 : Int) ≤ (sLast S) ∧ (sLast S) ≤ 2147483647) ∧ (-2147483648 : Int) ≤ l1 ∧ l1 ≤ 2147483647 by omega), trivial⟩ (fun h13 => ?_) (fun h13 => ?_)
    · exact J25
    · refine z_br c 3 (¬ (sWo S) = q) (25, [some (zR 5), some (zI w), some (zI l1), some (zI q), none, none], [], (zw sc B S Z L R M), 0, 0) (24, [some (zR 5), some (zI w), some (zI l1), some (zI q), none, none], [], (zw sc B S Z L R M), 0, 0) rfl ⟨(show ((-2147483648 : Int) ≤ (sWo S) ∧ (sWo S) ≤ 2147483647) ∧ (-2147483648 : Int) ≤ q ∧ q ≤ 2147483647 by omega), trivial⟩ (fun h21 => ?_) (fun h21 => ?_)
      · exact J25
      · exact z_re c 0 (v := none) (h := (zw sc B S Z L R M)) (cs := 0) (ss := 0) rfl trivial trivial ⟨Nat.le_refl _, Nat.le_refl _⟩ ⟨rfl, S, rfl, by have e := hch.2.resolve_left (by omega); rw [show sWay S = w by omega, show sLast S = l1 by omega, show sWo S = q by omega] at e; exact e, by omega, by omega, by omega⟩
