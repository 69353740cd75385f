/-! each call of the class and of the model, one behind the other -/
theorem zCI_k {B : ZBk} {S Z S1 Z1 : ZSg} {L L1 : ZLn} {R : ZRd} {M M1 : ZMd} (h : zCI B S Z L R M) (hS : zch (bT B) (bK B) (bN B) S1) (hZ : zch (bT B) (bK B) (bN B) Z1) (hL : zLch (bT B) (bK B) (bN B) L1) (hM : zMk M M1) : zCI B S1 Z1 L1 R M1 := zCI_ask h hS hZ hL h.2.2.2.2.1.2.1 h.2.2.2.2.1.2.2 hM
/-- both answer the same, and both hold the same book -/
def zTwo (l : Launch) (m1 m2 : ZM) (as : List ZV) : Prop := ∀ (sn : Nat) (sf : Int → Int) (B : ZBk) (S Z : ZSg) (L : ZLn) (R : ZRd) (M : ZMd), zCI B S Z L R M → ∃ Po1 : ZP, zMet l m1 (zR 1 :: as) (zw (sn, sf, 5, 5, 22) B S Z L R M) Po1 ∧ ∀ v1 h1, Po1 v1 h1 → ∃ (x : Int) (Po2 : ZP), v1 = some (zI x) ∧ (∃ B1 S1 Z1 L1 R1, h1 = zw (sn, sf, 5, 5, 22) B1 S1 Z1 L1 R1 M) ∧ zMet l m2 (zR 32 :: as) h1 Po2 ∧ ∀ v2 h2, Po2 v2 h2 → v2 = some (zI x) ∧ ∃ B2 S2 Z2 L2 R2 M2, h2 = zw (sn, sf, 5, 5, 22) B2 S2 Z2 L2 R2 M2 ∧ zCI B2 S2 Z2 L2 R2 M2
theorem zno_up (T : Int → Int) (n : Int) {o : Int} (h : o = (zno T n.toNat : Int)) (h2 : zno T n.toNat ≤ 20) : 0 ≤ o ∧ o ≤ 20 := by omega
theorem zt_persons (l : Launch) (w k y a : Int) (hw : -2147483648 ≤ w ∧ w ≤ 2147483647) (hk : -2147483648 ≤ k ∧ k ≤ 2147483647) (hy : -2147483648 ≤ y ∧ y ≤ 2147483647) (ha : -2147483648 ≤ a ∧ a ≤ 2147483647) : zTwo l m_X5_persons m_X6_persons [zI w, zI k, zI y, zI a] := by
  intro sn sf B S Z L R M hC
  obtain ⟨k1, k2, k3, k4, ⟨k5, k6, k7⟩, ⟨k8, k9⟩, k10, k11, k12, k13, k14⟩ := id hC
  have kr := k5.1
  have kn := k1.1
  have ko := zno_up _ _ k8 k1.2.2.2.2.1
  refine ⟨_, c_X5_persons l sn sf B S Z L R M w k y a k1 k2 kr hw hk hy ha, fun v1 h1 hp => ?_⟩
  obtain ⟨S1, rfl, rfl, q1⟩ := hp
  refine ⟨_, _, rfl, ⟨B, S1, Z, L, R, rfl⟩, c_X6_persons l (sn, sf, 5, 5, 22) B S1 Z L R M (bT B) (bK B) (bN B) (rN R) w k y a k1 k10 k11 kr hw hk hy ha, fun v2 h2 hp => ?_⟩
  obtain ⟨M1, rfl, rfl, hM⟩ := hp
  exact ⟨rfl, B, S1, Z, L, R, M1, rfl, zCI_k hC q1 k3 k4 hM⟩
theorem zt_holds (l : Launch) (w k y a : Int) (hw : -2147483648 ≤ w ∧ w ≤ 2147483647) (hk : -2147483648 ≤ k ∧ k ≤ 2147483647) (hy : -2147483648 ≤ y ∧ y ≤ 2147483647) (ha : -2147483648 ≤ a ∧ a ≤ 2147483647) : zTwo l m_X5_holds m_X6_holds [zI w, zI k, zI y, zI a] := by
  intro sn sf B S Z L R M hC
  obtain ⟨k1, k2, k3, k4, ⟨k5, k6, k7⟩, ⟨k8, k9⟩, k10, k11, k12, k13, k14⟩ := id hC
  have kr := k5.1
  have kn := k1.1
  have ko := zno_up _ _ k8 k1.2.2.2.2.1
  refine ⟨_, c_X5_holds l sn sf B S Z L R M w k y a k1 k2 kr hw hk hy ha, fun v1 h1 hp => ?_⟩
  obtain ⟨S1, rfl, rfl, q1⟩ := hp
  refine ⟨_, _, rfl, ⟨B, S1, Z, L, R, rfl⟩, c_X6_holds l (sn, sf, 5, 5, 22) B S1 Z L R M (bT B) (bK B) (bN B) (rN R) w k y a k1 k10 k11 kr hw hk hy ha, fun v2 h2 hp => ?_⟩
  obtain ⟨M1, rfl, rfl, hM⟩ := hp
  exact ⟨rfl, B, S1, Z, L, R, M1, rfl, zCI_k hC q1 k3 k4 hM⟩
theorem zt_lacking (l : Launch) (w k y a : Int) (hw : -2147483648 ≤ w ∧ w ≤ 2147483647) (hk : -2147483648 ≤ k ∧ k ≤ 2147483647) (hy : -2147483648 ≤ y ∧ y ≤ 2147483647) (ha : -2147483648 ≤ a ∧ a ≤ 2147483647) : zTwo l m_X5_lacking m_X6_lacking [zI w, zI k, zI y, zI a] := by
  intro sn sf B S Z L R M hC
  obtain ⟨k1, k2, k3, k4, ⟨k5, k6, k7⟩, ⟨k8, k9⟩, k10, k11, k12, k13, k14⟩ := id hC
  have kr := k5.1
  have kn := k1.1
  have ko := zno_up _ _ k8 k1.2.2.2.2.1
  refine ⟨_, c_X5_lacking l sn sf B S Z L R M w k y a k1 k2 kr hw hk hy ha, fun v1 h1 hp => ?_⟩
  obtain ⟨S1, rfl, rfl, q1⟩ := hp
  refine ⟨_, _, rfl, ⟨B, S1, Z, L, R, rfl⟩, c_X6_lacking l (sn, sf, 5, 5, 22) B S1 Z L R M (bT B) (bK B) (bN B) (rN R) w k y a k1 k10 k11 kr hw hk hy ha, fun v2 h2 hp => ?_⟩
  obtain ⟨M1, rfl, rfl, hM⟩ := hp
  exact ⟨rfl, B, S1, Z, L, R, M1, rfl, zCI_k hC q1 k3 k4 hM⟩
theorem zt_papers (l : Launch) (w k a : Int) (hw : -2147483648 ≤ w ∧ w ≤ 2147483647) (hk : -2147483648 ≤ k ∧ k ≤ 2147483647) (ha : -2147483648 ≤ a ∧ a ≤ 2147483647) : zTwo l m_X5_papers m_X6_papers [zI w, zI k, zI a] := by
  intro sn sf B S Z L R M hC
  obtain ⟨k1, k2, k3, k4, ⟨k5, k6, k7⟩, ⟨k8, k9⟩, k10, k11, k12, k13, k14⟩ := id hC
  have kr := k5.1
  have kn := k1.1
  have ko := zno_up _ _ k8 k1.2.2.2.2.1
  refine ⟨_, c_X5_papers l sn sf B S Z L R M w k a k1 k2 kr hw hk ha, fun v1 h1 hp => ?_⟩
  obtain ⟨S1, rfl, rfl, q1⟩ := hp
  refine ⟨_, _, rfl, ⟨B, S1, Z, L, R, rfl⟩, c_X6_papers l (sn, sf, 5, 5, 22) B S1 Z L R M (bT B) (bK B) (bN B) (rN R) w k a k1 k10 k11 kr hw hk ha, fun v2 h2 hp => ?_⟩
  obtain ⟨M1, rfl, rfl, hM⟩ := hp
  exact ⟨rfl, B, S1, Z, L, R, M1, rfl, zCI_k hC q1 k3 k4 hM⟩
theorem zt_force (l : Launch) (w k y a : Int) (hw : -2147483648 ≤ w ∧ w ≤ 2147483647) (hk : -2147483648 ≤ k ∧ k ≤ 2147483647) (hy : -2147483648 ≤ y ∧ y ≤ 2147483647) (ha : -2147483648 ≤ a ∧ a ≤ 2147483647) : zTwo l m_X5_force m_X6_force [zI w, zI k, zI y, zI a] := by
  intro sn sf B S Z L R M hC
  obtain ⟨k1, k2, k3, k4, ⟨k5, k6, k7⟩, ⟨k8, k9⟩, k10, k11, k12, k13, k14⟩ := id hC
  have kr := k5.1
  have kn := k1.1
  have ko := zno_up _ _ k8 k1.2.2.2.2.1
  refine ⟨_, c_X5_force l sn sf B S Z L R M w k y a k1 k2 kr hw hk hy ha, fun v1 h1 hp => ?_⟩
  obtain ⟨S1, rfl, rfl, q1⟩ := hp
  refine ⟨_, _, rfl, ⟨B, S1, Z, L, R, rfl⟩, c_X6_force l (sn, sf, 5, 5, 22) B S1 Z L R M (bT B) (bK B) (bN B) (rN R) w k y a k1 k10 k11 kr hw hk hy ha, fun v2 h2 hp => ?_⟩
  obtain ⟨M1, rfl, rfl, hM⟩ := hp
  exact ⟨rfl, B, S1, Z, L, R, M1, rfl, zCI_k hC q1 k3 k4 hM⟩
theorem zt_most (l : Launch) (w y a : Int) (hw : -2147483648 ≤ w ∧ w ≤ 2147483647) (hy : -2147483648 ≤ y ∧ y ≤ 2147483647) (ha : -2147483648 ≤ a ∧ a ≤ 2147483647) : zTwo l m_X5_most m_X6_most [zI w, zI y, zI a] := by
  intro sn sf B S Z L R M hC
  obtain ⟨k1, k2, k3, k4, ⟨k5, k6, k7⟩, ⟨k8, k9⟩, k10, k11, k12, k13, k14⟩ := id hC
  have kr := k5.1
  have kn := k1.1
  have ko := zno_up _ _ k8 k1.2.2.2.2.1
  refine ⟨_, c_X5_most l sn sf B S Z L R M w y a k1 k2 kr hw hy ha, fun v1 h1 hp => ?_⟩
  obtain ⟨S1, rfl, rfl, q1⟩ := hp
  refine ⟨_, _, rfl, ⟨B, S1, Z, L, R, rfl⟩, c_X6_most l (sn, sf, 5, 5, 22) B S1 Z L R M (bT B) (bK B) (bN B) (rN R) w y a k1 k10 k11 kr hw hy ha, fun v2 h2 hp => ?_⟩
  obtain ⟨M1, rfl, rfl, hM⟩ := hp
  exact ⟨rfl, B, S1, Z, L, R, M1, rfl, zCI_k hC q1 k3 k4 hM⟩
theorem zt_since (l : Launch) (w k a : Int) (hw : -2147483648 ≤ w ∧ w ≤ 2147483647) (hk : -2147483648 ≤ k ∧ k ≤ 2147483647) (ha : -2147483648 ≤ a ∧ a ≤ 2147483647) : zTwo l m_X5_since m_X6_since [zI w, zI k, zI a] := by
  intro sn sf B S Z L R M hC
  obtain ⟨k1, k2, k3, k4, ⟨k5, k6, k7⟩, ⟨k8, k9⟩, k10, k11, k12, k13, k14⟩ := id hC
  have kr := k5.1
  have kn := k1.1
  have ko := zno_up _ _ k8 k1.2.2.2.2.1
  refine ⟨_, c_X5_since l sn sf B S Z L R M w k a k1 k2 kr hw hk ha, fun v1 h1 hp => ?_⟩
  obtain ⟨S1, rfl, rfl, q1⟩ := hp
  refine ⟨_, _, rfl, ⟨B, S1, Z, L, R, rfl⟩, c_X6_since l (sn, sf, 5, 5, 22) B S1 Z L R M (bT B) (bK B) (bN B) (rN R) w k a k1 k10 k11 kr hw hk ha, fun v2 h2 hp => ?_⟩
  obtain ⟨M1, rfl, rfl, hM⟩ := hp
  exact ⟨rfl, B, S1, Z, L, R, M1, rfl, zCI_k hC q1 k3 k4 hM⟩
theorem zt_good (l : Launch) (p a : Int) (hp : -2147483648 ≤ p ∧ p ≤ 2147483647) (ha : -2147483648 ≤ a ∧ a ≤ 2147483647) : zTwo l m_X5_good m_X6_good [zI p, zI a] := by
  intro sn sf B S Z L R M hC
  obtain ⟨k1, k2, k3, k4, ⟨k5, k6, k7⟩, ⟨k8, k9⟩, k10, k11, k12, k13, k14⟩ := id hC
  have kr := k5.1
  have kn := k1.1
  have ko := zno_up _ _ k8 k1.2.2.2.2.1
  refine ⟨_, c_X5_good l sn sf B S Z L R M p a k1 k2 kr hp ha, fun v1 h1 hp => ?_⟩
  obtain ⟨S1, rfl, rfl, q1⟩ := hp
  refine ⟨_, _, rfl, ⟨B, S1, Z, L, R, rfl⟩, c_X6_good l (sn, sf, 5, 5, 22) B S1 Z L R M (bT B) (bK B) (bN B) (rN R) p a k1 k10 k11 kr hp ha, fun v2 h2 hp => ?_⟩
  obtain ⟨M1, rfl, rfl, hM⟩ := hp
  exact ⟨rfl, B, S1, Z, L, R, M1, rfl, zCI_k hC q1 k3 k4 hM⟩
theorem zt_leans (l : Launch) (p w k y a : Int) (hp : -2147483648 ≤ p ∧ p ≤ 2147483647) (hw : -2147483648 ≤ w ∧ w ≤ 2147483647) (hk : -2147483648 ≤ k ∧ k ≤ 2147483647) (hy : -2147483648 ≤ y ∧ y ≤ 2147483647) (ha : -2147483648 ≤ a ∧ a ≤ 2147483647) : zTwo l m_X5_leans m_X6_leans [zI p, zI w, zI k, zI y, zI a] := by
  intro sn sf B S Z L R M hC
  obtain ⟨k1, k2, k3, k4, ⟨k5, k6, k7⟩, ⟨k8, k9⟩, k10, k11, k12, k13, k14⟩ := id hC
  have kr := k5.1
  have kn := k1.1
  have ko := zno_up _ _ k8 k1.2.2.2.2.1
  refine ⟨_, c_X5_leans l sn sf B S Z L R M p w k y a k1 k2 k3 kr hp hw hk hy ha, fun v1 h1 hp => ?_⟩
  obtain ⟨S1, Z1, rfl, rfl, q1, q2⟩ := hp
  refine ⟨_, _, rfl, ⟨B, S1, Z1, L, R, rfl⟩, c_X6_leans l (sn, sf, 5, 5, 22) B S1 Z1 L R M (bT B) (bK B) (bN B) (rN R) p w k y a k1 k10 k11 kr hp hw hk hy ha, fun v2 h2 hp => ?_⟩
  obtain ⟨M1, rfl, rfl, hM⟩ := hp
  exact ⟨rfl, B, S1, Z1, L, R, M1, rfl, zCI_k hC q1 q2 k4 hM⟩
theorem zt_lean (l : Launch) (i w k y a : Int) (hi : -2147483648 ≤ i ∧ i ≤ 2147483647) (hw : -2147483648 ≤ w ∧ w ≤ 2147483647) (hk : -2147483648 ≤ k ∧ k ≤ 2147483647) (hy : -2147483648 ≤ y ∧ y ≤ 2147483647) (ha : -2147483648 ≤ a ∧ a ≤ 2147483647) : zTwo l m_X5_lean m_X6_lean [zI i, zI w, zI k, zI y, zI a] := by
  intro sn sf B S Z L R M hC
  obtain ⟨k1, k2, k3, k4, ⟨k5, k6, k7⟩, ⟨k8, k9⟩, k10, k11, k12, k13, k14⟩ := id hC
  have kr := k5.1
  have kn := k1.1
  have ko := zno_up _ _ k8 k1.2.2.2.2.1
  refine ⟨_, c_X5_lean l sn sf B S Z L R M i w k y a k1 k2 k3 k4 kr hi hw hk hy ha, fun v1 h1 hp => ?_⟩
  obtain ⟨S1, Z1, L1, rfl, rfl, q1, q2, q3⟩ := hp
  refine ⟨_, _, rfl, ⟨B, S1, Z1, L1, R, rfl⟩, c_X6_lean l (sn, sf, 5, 5, 22) B S1 Z1 L1 R M (bT B) (bK B) (bN B) (rN R) i w k y a k1 k10 k11 kr hi hw hk hy ha, fun v2 h2 hp => ?_⟩
  obtain ⟨M1, rfl, rfl, hM⟩ := hp
  exact ⟨rfl, B, S1, Z1, L1, R, M1, rfl, zCI_k hC q1 q2 q3 hM⟩
theorem zt_page (l : Launch) (p s x : Int) (hp : -2147483648 ≤ p ∧ p ≤ 2147483647) (hs : -2147483648 ≤ s ∧ s ≤ 2147483647) (hx : -2147483648 ≤ x ∧ x ≤ 2147483647) : zTwo l m_X5_page m_X6_page [zI p, zI s, zI x] := by
  intro sn sf B S Z L R M hC
  obtain ⟨k1, k2, k3, k4, ⟨k5, k6, k7⟩, ⟨k8, k9⟩, k10, k11, k12, k13, k14⟩ := id hC
  have kr := k5.1
  have kn := k1.1
  have ko := zno_up _ _ k8 k1.2.2.2.2.1
  refine ⟨_, c_X5_page l sn sf B S Z L R M p s x k1.1 k1.2.1 hp hs hx, fun v1 h1 hp => ?_⟩
  obtain ⟨rfl, rfl⟩ := hp
  refine ⟨_, _, rfl, ⟨B, S, Z, L, R, rfl⟩, c_X6_page l (sn, sf, 5, 5, 22) B S Z L R M (bT B) (bK B) (bN B) (rN R) p s x k1 k10 k11 kr hp hs hx, fun v2 h2 hp => ?_⟩
  obtain ⟨M1, rfl, rfl, hM⟩ := hp
  exact ⟨rfl, B, S, Z, L, R, M1, rfl, zCI_k hC k2 k3 k4 hM⟩
theorem zt_counts (l : Launch) (p a : Int) (hp : -2147483648 ≤ p ∧ p ≤ 2147483647) (ha : -2147483648 ≤ a ∧ a ≤ 2147483647) : zTwo l m_X5_counts m_X6_counts [zI p, zI a] := by
  intro sn sf B S Z L R M hC
  obtain ⟨k1, k2, k3, k4, ⟨k5, k6, k7⟩, ⟨k8, k9⟩, k10, k11, k12, k13, k14⟩ := id hC
  have kr := k5.1
  have kn := k1.1
  have ko := zno_up _ _ k8 k1.2.2.2.2.1
  refine ⟨_, c_X5_counts l sn sf B S Z L R M p a k1.1 k1.2.2.1 hp ha, fun v1 h1 hp => ?_⟩
  obtain ⟨rfl, rfl⟩ := hp
  refine ⟨_, _, rfl, ⟨B, S, Z, L, R, rfl⟩, c_X6_counts l (sn, sf, 5, 5, 22) B S Z L R M (bT B) (bK B) (bN B) (rN R) p a k1 k10 k11 kr hp ha, fun v2 h2 hp => ?_⟩
  obtain ⟨M1, rfl, rfl, hM⟩ := hp
  exact ⟨rfl, B, S, Z, L, R, M1, rfl, zCI_k hC k2 k3 k4 hM⟩
theorem zt_total (l : Launch) (x : Int) (hx : -2147483648 ≤ x ∧ x ≤ 2147483647) : zTwo l m_X5_total m_X6_total [zI x] := by
  intro sn sf B S Z L R M hC
  obtain ⟨k1, k2, k3, k4, ⟨k5, k6, k7⟩, ⟨k8, k9⟩, k10, k11, k12, k13, k14⟩ := id hC
  have kr := k5.1
  have kn := k1.1
  have ko := zno_up _ _ k8 k1.2.2.2.2.1
  refine ⟨_, c_X5_total l sn sf B S Z L R M x k1 k2 kr hx, fun v1 h1 hp => ?_⟩
  obtain ⟨S1, rfl, rfl, q1⟩ := hp
  refine ⟨_, _, rfl, ⟨B, S1, Z, L, R, rfl⟩, c_X6_total l (sn, sf, 5, 5, 22) B S1 Z L R M (bT B) (bK B) (bN B) (rN R) x k1 k10 k11 kr hx, fun v2 h2 hp => ?_⟩
  obtain ⟨M1, rfl, rfl, hM⟩ := hp
  exact ⟨by rw [k9], B, S1, Z, L, R, M1, rfl, zCI_k hC q1 k3 k4 hM⟩
theorem zt_steps (l : Launch) (f t k y a : Int) (hf : -2147483648 ≤ f ∧ f ≤ 2147483647) (ht : -2147483648 ≤ t ∧ t ≤ 2147483647) (hk : -2147483648 ≤ k ∧ k ≤ 2147483647) (hy : -2147483648 ≤ y ∧ y ≤ 2147483647) (ha : -2147483648 ≤ a ∧ a ≤ 2147483647) : zTwo l m_X5_steps m_X6_steps [zI f, zI t, zI k, zI y, zI a] := by
  intro sn sf B S Z L R M hC
  obtain ⟨k1, k2, k3, k4, ⟨k5, k6, k7⟩, ⟨k8, k9⟩, k10, k11, k12, k13, k14⟩ := id hC
  have kr := k5.1
  have kn := k1.1
  have ko := zno_up _ _ k8 k1.2.2.2.2.1
  refine ⟨_, c_X5_steps l sn sf B S Z L R M f t k y a k1 k2 kr k5 k6 k7 hf ht hk hy ha, fun v1 h1 hp => ?_⟩
  obtain ⟨S1, O1, F1, rfl, rfl, q1, q2, q3⟩ := hp
  have hm := c_X6_steps l (sn, sf, 5, 5, 22) B S1 Z L (rS R, rE R, O1, F1, rN R) M (bT B) (bK B) (bN B) (rN R) f t k y a k1 k10 k11 kr (by rw [k13, k14]; exact k5) hf ht hk hy ha
  rw [k13, k14] at hm
  refine ⟨_, _, rfl, ⟨B, S1, Z, L, _, rfl⟩, hm, fun v2 h2 hp => ?_⟩
  obtain ⟨M1, rfl, rfl, hM⟩ := hp
  exact ⟨rfl, B, S1, Z, L, _, M1, rfl, zCI_ask hC q1 k3 k4 q2 q3 hM⟩
theorem zt_first (l : Launch) (f t k y a : Int) (hf : -2147483648 ≤ f ∧ f ≤ 2147483647) (ht : -2147483648 ≤ t ∧ t ≤ 2147483647) (hk : -2147483648 ≤ k ∧ k ≤ 2147483647) (hy : -2147483648 ≤ y ∧ y ≤ 2147483647) (ha : -2147483648 ≤ a ∧ a ≤ 2147483647) : zTwo l m_X5_first m_X6_first [zI f, zI t, zI k, zI y, zI a] := by
  intro sn sf B S Z L R M hC
  obtain ⟨k1, k2, k3, k4, ⟨k5, k6, k7⟩, ⟨k8, k9⟩, k10, k11, k12, k13, k14⟩ := id hC
  have kr := k5.1
  have kn := k1.1
  have ko := zno_up _ _ k8 k1.2.2.2.2.1
  refine ⟨_, c_X5_first l sn sf B S Z L R M f t k y a k1 k2 kr k5 k6 k7 hf ht hk hy ha, fun v1 h1 hp => ?_⟩
  obtain ⟨S1, O1, F1, rfl, rfl, q1, q2, q3⟩ := hp
  have hm := c_X6_first l (sn, sf, 5, 5, 22) B S1 Z L (rS R, rE R, O1, F1, rN R) M (bT B) (bK B) (bN B) (rN R) f t k y a k1 k10 k11 kr (by rw [k13, k14]; exact k5) hf ht hk hy ha
  rw [k13, k14] at hm
  refine ⟨_, _, rfl, ⟨B, S1, Z, L, _, rfl⟩, hm, fun v2 h2 hp => ?_⟩
  obtain ⟨M1, rfl, rfl, hM⟩ := hp
  exact ⟨rfl, B, S1, Z, L, _, M1, rfl, zCI_ask hC q1 k3 k4 q2 q3 hM⟩
theorem zt_reach (l : Launch) (f k y a : Int) (hf : -2147483648 ≤ f ∧ f ≤ 2147483647) (hk : -2147483648 ≤ k ∧ k ≤ 2147483647) (hy : -2147483648 ≤ y ∧ y ≤ 2147483647) (ha : -2147483648 ≤ a ∧ a ≤ 2147483647) : zTwo l m_X5_reach m_X6_reach [zI f, zI k, zI y, zI a] := by
  intro sn sf B S Z L R M hC
  obtain ⟨k1, k2, k3, k4, ⟨k5, k6, k7⟩, ⟨k8, k9⟩, k10, k11, k12, k13, k14⟩ := id hC
  have kr := k5.1
  have kn := k1.1
  have ko := zno_up _ _ k8 k1.2.2.2.2.1
  refine ⟨_, c_X5_reach l sn sf B S Z L R M f k y a k1 k2 kr k5 k6 k7 hf hk hy ha, fun v1 h1 hp => ?_⟩
  obtain ⟨S1, O1, F1, rfl, rfl, q1, q2, q3⟩ := hp
  have hm := c_X6_reach l (sn, sf, 5, 5, 22) B S1 Z L (rS R, rE R, O1, F1, rN R) M (bT B) (bK B) (bN B) (rN R) f k y a k1 k10 k11 kr (by rw [k13, k14]; exact k5) hf hk hy ha
  rw [k13, k14] at hm
  refine ⟨_, _, rfl, ⟨B, S1, Z, L, _, rfl⟩, hm, fun v2 h2 hp => ?_⟩
  obtain ⟨M1, rfl, rfl, hM⟩ := hp
  exact ⟨rfl, B, S1, Z, L, _, M1, rfl, zCI_ask hC q1 k3 k4 q2 q3 hM⟩
theorem zt_walk (l : Launch) (i w k f t : Int) (hi : -2147483648 ≤ i ∧ i ≤ 2147483647) (hw : -2147483648 ≤ w ∧ w ≤ 2147483647) (hk : -2147483648 ≤ k ∧ k ≤ 2147483647) (hf : -2147483648 ≤ f ∧ f ≤ 2147483647) (ht : -2147483648 ≤ t ∧ t ≤ 2147483647) : zTwo l m_X5_walk m_X6_walk [zI i, zI w, zI k, zI f, zI t] := by
  intro sn sf B S Z L R M hC
  obtain ⟨k1, k2, k3, k4, ⟨k5, k6, k7⟩, ⟨k8, k9⟩, k10, k11, k12, k13, k14⟩ := id hC
  have kr := k5.1
  have kn := k1.1
  have ko := zno_up _ _ k8 k1.2.2.2.2.1
  by_cases hfu : bN B < 100
  · refine ⟨_, c_X5_walk_ok l sn sf B S Z L R M i w k f t k1.1 kr ko hi hw hk hf ht hfu, fun v1 h1 hp => ?_⟩
    rcases hp with ⟨u1, rfl, rfl⟩ | ⟨u1, u2, rfl, rfl⟩ | ⟨u1, u2, rfl, T1, rfl, hg⟩
    · refine ⟨_, _, rfl, ⟨_, S, Z, L, R, rfl⟩, c_X6_walk l (sn, sf, 5, 5, 22) _ S Z L R M (bT B) (bK B) (bN B) (rN R) i w k f t k1 k10 k11 kr hi hw hk hf ht, fun v2 h2 hp => ?_⟩
      obtain ⟨M1, rfl, hp⟩ := hp
      rcases hp with ⟨a2, rfl, hM⟩ | ⟨a2, b2, rfl, hM⟩ | ⟨a2, b2, f2, rfl, hM⟩ | ⟨a2, b2, f2, rfl, hM⟩
      · exact ⟨rfl, B, S, Z, L, R, M1, rfl, zCI_k hC k2 k3 k4 hM⟩
      · exfalso; omega
      · exfalso; omega
      · exfalso; omega
    · refine ⟨_, _, rfl, ⟨_, S, Z, L, R, rfl⟩, c_X6_walk l (sn, sf, 5, 5, 22) _ S Z L R M (bT B) (bK B) (bN B) (rN R) i w k f t k1 k10 k11 kr hi hw hk hf ht, fun v2 h2 hp => ?_⟩
      obtain ⟨M1, rfl, hp⟩ := hp
      rcases hp with ⟨a2, rfl, hM⟩ | ⟨a2, b2, rfl, hM⟩ | ⟨a2, b2, f2, rfl, hM⟩ | ⟨a2, b2, f2, rfl, hM⟩
      · exfalso; omega
      · exact ⟨rfl, B, S, Z, L, R, M1, rfl, zCI_k hC k2 k3 k4 hM⟩
      · exfalso; omega
      · exfalso; omega
    · refine ⟨_, _, rfl, ⟨_, S, Z, L, R, rfl⟩, c_X6_walk l (sn, sf, 5, 5, 22) _ S Z L R M (bT B) (bK B) (bN B) (rN R) i w k f t k1 k10 k11 kr hi hw hk hf ht, fun v2 h2 hp => ?_⟩
      obtain ⟨M1, rfl, hp⟩ := hp
      rcases hp with ⟨a2, rfl, hM⟩ | ⟨a2, b2, rfl, hM⟩ | ⟨a2, b2, f2, rfl, hM⟩ | ⟨a2, b2, f2, rfl, hM⟩
      · exfalso; omega
      · exfalso; omega
      · exfalso; omega
      · exact ⟨rfl, _, S, Z, L, R, M1, rfl, zCI_add hC (by omega) hg (fun f f0 f1 => by
          rcases (by omega : f = 0 ∨ f = 1 ∨ f = 2 ∨ f = 3 ∨ f = 4 ∨ f = 5 ∨ f = 6 ∨ f = 7 ∨ f = 8 ∨ f = 9 ∨ f = 10 ∨ f = 11) with rfl | rfl | rfl | rfl | rfl | rfl | rfl | rfl | rfl | rfl | rfl | rfl <;> simp [zup, zr0] <;> omega) (by
          unfold zvp
          rw [hg.2 0 (by omega) (by omega), hg.2 1 (by omega) (by omega), hg.2 2 (by omega) (by omega), hg.2 3 (by omega) (by omega), hg.2 4 (by omega) (by omega), hg.2 5 (by omega) (by omega), hg.2 6 (by omega) (by omega), hg.2 7 (by omega) (by omega), hg.2 9 (by omega) (by omega), hg.2 10 (by omega) (by omega), hg.2 11 (by omega) (by omega)]
          simp [zup, zr0]
          omega) (by simp [zup, zr0]) (Or.inr ⟨by simp [zup, zr0], rfl⟩) (by omega) hM⟩
  · refine ⟨_, c_X5_walk_full l sn sf B S Z L R M i w k f t k1.1 kr ko hi hw hk hf ht (by omega), fun v1 h1 hp => ?_⟩
    rcases hp with ⟨u1, rfl, rfl⟩ | ⟨u1, u2, rfl, rfl⟩ | ⟨u1, u2, rfl, rfl⟩
    · refine ⟨_, _, rfl, ⟨_, S, Z, L, R, rfl⟩, c_X6_walk l (sn, sf, 5, 5, 22) _ S Z L R M (bT B) (bK B) (bN B) (rN R) i w k f t k1 k10 k11 kr hi hw hk hf ht, fun v2 h2 hp => ?_⟩
      obtain ⟨M1, rfl, hp⟩ := hp
      rcases hp with ⟨a2, rfl, hM⟩ | ⟨a2, b2, rfl, hM⟩ | ⟨a2, b2, f2, rfl, hM⟩ | ⟨a2, b2, f2, rfl, hM⟩
      · exact ⟨rfl, B, S, Z, L, R, M1, rfl, zCI_k hC k2 k3 k4 hM⟩
      · exfalso; omega
      · exfalso; omega
      · exfalso; omega
    · refine ⟨_, _, rfl, ⟨_, S, Z, L, R, rfl⟩, c_X6_walk l (sn, sf, 5, 5, 22) _ S Z L R M (bT B) (bK B) (bN B) (rN R) i w k f t k1 k10 k11 kr hi hw hk hf ht, fun v2 h2 hp => ?_⟩
      obtain ⟨M1, rfl, hp⟩ := hp
      rcases hp with ⟨a2, rfl, hM⟩ | ⟨a2, b2, rfl, hM⟩ | ⟨a2, b2, f2, rfl, hM⟩ | ⟨a2, b2, f2, rfl, hM⟩
      · exfalso; omega
      · exact ⟨rfl, B, S, Z, L, R, M1, rfl, zCI_k hC k2 k3 k4 hM⟩
      · exfalso; omega
      · exfalso; omega
    · refine ⟨_, _, rfl, ⟨_, S, Z, L, R, rfl⟩, c_X6_walk l (sn, sf, 5, 5, 22) _ S Z L R M (bT B) (bK B) (bN B) (rN R) i w k f t k1 k10 k11 kr hi hw hk hf ht, fun v2 h2 hp => ?_⟩
      obtain ⟨M1, rfl, hp⟩ := hp
      rcases hp with ⟨a2, rfl, hM⟩ | ⟨a2, b2, rfl, hM⟩ | ⟨a2, b2, f2, rfl, hM⟩ | ⟨a2, b2, f2, rfl, hM⟩
      · exfalso; omega
      · exfalso; omega
      · exact ⟨rfl, B, S, Z, L, R, M1, rfl, zCI_k hC k2 k3 k4 hM⟩
      · exfalso; omega
theorem zt_paper (l : Launch) (w k x : Int) (hw : -2147483648 ≤ w ∧ w ≤ 2147483647) (hk : -2147483648 ≤ k ∧ k ≤ 2147483647) (hx : -2147483648 ≤ x ∧ x ≤ 2147483647) : zTwo l m_X5_paper m_X6_paper [zI w, zI k, zI x] := by
  intro sn sf B S Z L R M hC
  obtain ⟨k1, k2, k3, k4, ⟨k5, k6, k7⟩, ⟨k8, k9⟩, k10, k11, k12, k13, k14⟩ := id hC
  have kr := k5.1
  have kn := k1.1
  have ko := zno_up _ _ k8 k1.2.2.2.2.1
  by_cases hfu : bN B < 100
  · refine ⟨_, c_X5_paper_ok l sn sf B S Z L R M w k x k1.1 kr ko hw hk hx hfu, fun v1 h1 hp => ?_⟩
    rcases hp with ⟨u1, rfl, rfl⟩ | ⟨u1, u2, rfl, rfl⟩ | ⟨u1, u2, rfl, T1, rfl, hg⟩
    · refine ⟨_, _, rfl, ⟨_, S, Z, L, R, rfl⟩, c_X6_paper l (sn, sf, 5, 5, 22) _ S Z L R M (bT B) (bK B) (bN B) (rN R) w k x k1 k10 k11 kr hw hk hx, fun v2 h2 hp => ?_⟩
      obtain ⟨M1, rfl, hp⟩ := hp
      rcases hp with ⟨a2, rfl, hM⟩ | ⟨a2, b2, rfl, hM⟩ | ⟨a2, b2, f2, rfl, hM⟩ | ⟨a2, b2, f2, rfl, hM⟩
      · exact ⟨rfl, B, S, Z, L, R, M1, rfl, zCI_k hC k2 k3 k4 hM⟩
      · exfalso; omega
      · exfalso; omega
      · exfalso; omega
    · refine ⟨_, _, rfl, ⟨_, S, Z, L, R, rfl⟩, c_X6_paper l (sn, sf, 5, 5, 22) _ S Z L R M (bT B) (bK B) (bN B) (rN R) w k x k1 k10 k11 kr hw hk hx, fun v2 h2 hp => ?_⟩
      obtain ⟨M1, rfl, hp⟩ := hp
      rcases hp with ⟨a2, rfl, hM⟩ | ⟨a2, b2, rfl, hM⟩ | ⟨a2, b2, f2, rfl, hM⟩ | ⟨a2, b2, f2, rfl, hM⟩
      · exfalso; omega
      · exact ⟨rfl, B, S, Z, L, R, M1, rfl, zCI_k hC k2 k3 k4 hM⟩
      · exfalso; omega
      · exfalso; omega
    · refine ⟨_, _, rfl, ⟨_, S, Z, L, R, rfl⟩, c_X6_paper l (sn, sf, 5, 5, 22) _ S Z L R M (bT B) (bK B) (bN B) (rN R) w k x k1 k10 k11 kr hw hk hx, fun v2 h2 hp => ?_⟩
      obtain ⟨M1, rfl, hp⟩ := hp
      rcases hp with ⟨a2, rfl, hM⟩ | ⟨a2, b2, rfl, hM⟩ | ⟨a2, b2, f2, rfl, hM⟩ | ⟨a2, b2, f2, rfl, hM⟩
      · exfalso; omega
      · exfalso; omega
      · exfalso; omega
      · exact ⟨rfl, _, S, Z, L, R, M1, rfl, zCI_add hC (by omega) hg (fun f f0 f1 => by
          rcases (by omega : f = 0 ∨ f = 1 ∨ f = 2 ∨ f = 3 ∨ f = 4 ∨ f = 5 ∨ f = 6 ∨ f = 7 ∨ f = 8 ∨ f = 9 ∨ f = 10 ∨ f = 11) with rfl | rfl | rfl | rfl | rfl | rfl | rfl | rfl | rfl | rfl | rfl | rfl <;> simp [zup, zr0] <;> omega) (by
          unfold zvp
          rw [hg.2 0 (by omega) (by omega), hg.2 1 (by omega) (by omega), hg.2 2 (by omega) (by omega), hg.2 3 (by omega) (by omega), hg.2 4 (by omega) (by omega), hg.2 5 (by omega) (by omega), hg.2 6 (by omega) (by omega), hg.2 7 (by omega) (by omega), hg.2 9 (by omega) (by omega), hg.2 10 (by omega) (by omega), hg.2 11 (by omega) (by omega)]
          simp [zup, zr0]
          omega) (by simp [zup, zr0]) (Or.inr ⟨by simp [zup, zr0], rfl⟩) (by omega) hM⟩
  · refine ⟨_, c_X5_paper_full l sn sf B S Z L R M w k x k1.1 kr ko hw hk hx (by omega), fun v1 h1 hp => ?_⟩
    rcases hp with ⟨u1, rfl, rfl⟩ | ⟨u1, u2, rfl, rfl⟩ | ⟨u1, u2, rfl, rfl⟩
    · refine ⟨_, _, rfl, ⟨_, S, Z, L, R, rfl⟩, c_X6_paper l (sn, sf, 5, 5, 22) _ S Z L R M (bT B) (bK B) (bN B) (rN R) w k x k1 k10 k11 kr hw hk hx, fun v2 h2 hp => ?_⟩
      obtain ⟨M1, rfl, hp⟩ := hp
      rcases hp with ⟨a2, rfl, hM⟩ | ⟨a2, b2, rfl, hM⟩ | ⟨a2, b2, f2, rfl, hM⟩ | ⟨a2, b2, f2, rfl, hM⟩
      · exact ⟨rfl, B, S, Z, L, R, M1, rfl, zCI_k hC k2 k3 k4 hM⟩
      · exfalso; omega
      · exfalso; omega
      · exfalso; omega
    · refine ⟨_, _, rfl, ⟨_, S, Z, L, R, rfl⟩, c_X6_paper l (sn, sf, 5, 5, 22) _ S Z L R M (bT B) (bK B) (bN B) (rN R) w k x k1 k10 k11 kr hw hk hx, fun v2 h2 hp => ?_⟩
      obtain ⟨M1, rfl, hp⟩ := hp
      rcases hp with ⟨a2, rfl, hM⟩ | ⟨a2, b2, rfl, hM⟩ | ⟨a2, b2, f2, rfl, hM⟩ | ⟨a2, b2, f2, rfl, hM⟩
      · exfalso; omega
      · exact ⟨rfl, B, S, Z, L, R, M1, rfl, zCI_k hC k2 k3 k4 hM⟩
      · exfalso; omega
      · exfalso; omega
    · refine ⟨_, _, rfl, ⟨_, S, Z, L, R, rfl⟩, c_X6_paper l (sn, sf, 5, 5, 22) _ S Z L R M (bT B) (bK B) (bN B) (rN R) w k x k1 k10 k11 kr hw hk hx, fun v2 h2 hp => ?_⟩
      obtain ⟨M1, rfl, hp⟩ := hp
      rcases hp with ⟨a2, rfl, hM⟩ | ⟨a2, b2, rfl, hM⟩ | ⟨a2, b2, f2, rfl, hM⟩ | ⟨a2, b2, f2, rfl, hM⟩
      · exfalso; omega
      · exfalso; omega
      · exact ⟨rfl, B, S, Z, L, R, M1, rfl, zCI_k hC k2 k3 k4 hM⟩
      · exfalso; omega
theorem zt_broke (l : Launch) (w y : Int) (hw : -2147483648 ≤ w ∧ w ≤ 2147483647) (hy : -2147483648 ≤ y ∧ y ≤ 2147483647) : zTwo l m_X5_broke m_X6_broke [zI w, zI y] := by
  intro sn sf B S Z L R M hC
  obtain ⟨k1, k2, k3, k4, ⟨k5, k6, k7⟩, ⟨k8, k9⟩, k10, k11, k12, k13, k14⟩ := id hC
  have kr := k5.1
  have kn := k1.1
  have ko := zno_up _ _ k8 k1.2.2.2.2.1
  by_cases hfu : bN B < 100
  · refine ⟨_, c_X5_broke_ok l sn sf B S Z L R M w y k1.1 kr ko hw hy hfu, fun v1 h1 hp => ?_⟩
    rcases hp with ⟨u1, rfl, rfl⟩ | ⟨u1, u2, rfl, rfl⟩ | ⟨u1, u2, rfl, T1, rfl, hg⟩
    · refine ⟨_, _, rfl, ⟨_, S, Z, L, R, rfl⟩, c_X6_broke l (sn, sf, 5, 5, 22) _ S Z L R M (bT B) (bK B) (bN B) (rN R) w y k1 k10 k11 kr hw hy, fun v2 h2 hp => ?_⟩
      obtain ⟨M1, rfl, hp⟩ := hp
      rcases hp with ⟨a2, rfl, hM⟩ | ⟨a2, b2, rfl, hM⟩ | ⟨a2, b2, f2, rfl, hM⟩ | ⟨a2, b2, f2, rfl, hM⟩
      · exact ⟨rfl, B, S, Z, L, R, M1, rfl, zCI_k hC k2 k3 k4 hM⟩
      · exfalso; omega
      · exfalso; omega
      · exfalso; omega
    · refine ⟨_, _, rfl, ⟨_, S, Z, L, R, rfl⟩, c_X6_broke l (sn, sf, 5, 5, 22) _ S Z L R M (bT B) (bK B) (bN B) (rN R) w y k1 k10 k11 kr hw hy, fun v2 h2 hp => ?_⟩
      obtain ⟨M1, rfl, hp⟩ := hp
      rcases hp with ⟨a2, rfl, hM⟩ | ⟨a2, b2, rfl, hM⟩ | ⟨a2, b2, f2, rfl, hM⟩ | ⟨a2, b2, f2, rfl, hM⟩
      · exfalso; omega
      · exact ⟨rfl, B, S, Z, L, R, M1, rfl, zCI_k hC k2 k3 k4 hM⟩
      · exfalso; omega
      · exfalso; omega
    · refine ⟨_, _, rfl, ⟨_, S, Z, L, R, rfl⟩, c_X6_broke l (sn, sf, 5, 5, 22) _ S Z L R M (bT B) (bK B) (bN B) (rN R) w y k1 k10 k11 kr hw hy, fun v2 h2 hp => ?_⟩
      obtain ⟨M1, rfl, hp⟩ := hp
      rcases hp with ⟨a2, rfl, hM⟩ | ⟨a2, b2, rfl, hM⟩ | ⟨a2, b2, f2, rfl, hM⟩ | ⟨a2, b2, f2, rfl, hM⟩
      · exfalso; omega
      · exfalso; omega
      · exfalso; omega
      · exact ⟨rfl, _, S, Z, L, R, M1, rfl, zCI_add hC (by omega) hg (fun f f0 f1 => by
          rcases (by omega : f = 0 ∨ f = 1 ∨ f = 2 ∨ f = 3 ∨ f = 4 ∨ f = 5 ∨ f = 6 ∨ f = 7 ∨ f = 8 ∨ f = 9 ∨ f = 10 ∨ f = 11) with rfl | rfl | rfl | rfl | rfl | rfl | rfl | rfl | rfl | rfl | rfl | rfl <;> simp [zup, zr0] <;> omega) (by
          unfold zvp
          rw [hg.2 0 (by omega) (by omega), hg.2 1 (by omega) (by omega), hg.2 2 (by omega) (by omega), hg.2 3 (by omega) (by omega), hg.2 4 (by omega) (by omega), hg.2 5 (by omega) (by omega), hg.2 6 (by omega) (by omega), hg.2 7 (by omega) (by omega), hg.2 9 (by omega) (by omega), hg.2 10 (by omega) (by omega), hg.2 11 (by omega) (by omega)]
          simp [zup, zr0]
          omega) (by simp [zup, zr0]) (Or.inr ⟨by simp [zup, zr0], rfl⟩) (by omega) hM⟩
  · refine ⟨_, c_X5_broke_full l sn sf B S Z L R M w y k1.1 kr ko hw hy (by omega), fun v1 h1 hp => ?_⟩
    rcases hp with ⟨u1, rfl, rfl⟩ | ⟨u1, u2, rfl, rfl⟩ | ⟨u1, u2, rfl, rfl⟩
    · refine ⟨_, _, rfl, ⟨_, S, Z, L, R, rfl⟩, c_X6_broke l (sn, sf, 5, 5, 22) _ S Z L R M (bT B) (bK B) (bN B) (rN R) w y k1 k10 k11 kr hw hy, fun v2 h2 hp => ?_⟩
      obtain ⟨M1, rfl, hp⟩ := hp
      rcases hp with ⟨a2, rfl, hM⟩ | ⟨a2, b2, rfl, hM⟩ | ⟨a2, b2, f2, rfl, hM⟩ | ⟨a2, b2, f2, rfl, hM⟩
      · exact ⟨rfl, B, S, Z, L, R, M1, rfl, zCI_k hC k2 k3 k4 hM⟩
      · exfalso; omega
      · exfalso; omega
      · exfalso; omega
    · refine ⟨_, _, rfl, ⟨_, S, Z, L, R, rfl⟩, c_X6_broke l (sn, sf, 5, 5, 22) _ S Z L R M (bT B) (bK B) (bN B) (rN R) w y k1 k10 k11 kr hw hy, fun v2 h2 hp => ?_⟩
      obtain ⟨M1, rfl, hp⟩ := hp
      rcases hp with ⟨a2, rfl, hM⟩ | ⟨a2, b2, rfl, hM⟩ | ⟨a2, b2, f2, rfl, hM⟩ | ⟨a2, b2, f2, rfl, hM⟩
      · exfalso; omega
      · exact ⟨rfl, B, S, Z, L, R, M1, rfl, zCI_k hC k2 k3 k4 hM⟩
      · exfalso; omega
      · exfalso; omega
    · refine ⟨_, _, rfl, ⟨_, S, Z, L, R, rfl⟩, c_X6_broke l (sn, sf, 5, 5, 22) _ S Z L R M (bT B) (bK B) (bN B) (rN R) w y k1 k10 k11 kr hw hy, fun v2 h2 hp => ?_⟩
      obtain ⟨M1, rfl, hp⟩ := hp
      rcases hp with ⟨a2, rfl, hM⟩ | ⟨a2, b2, rfl, hM⟩ | ⟨a2, b2, f2, rfl, hM⟩ | ⟨a2, b2, f2, rfl, hM⟩
      · exfalso; omega
      · exfalso; omega
      · exact ⟨rfl, B, S, Z, L, R, M1, rfl, zCI_k hC k2 k3 k4 hM⟩
      · exfalso; omega
theorem zt_stop (l : Launch) (w y d : Int) (hw : -2147483648 ≤ w ∧ w ≤ 2147483647) (hy : -2147483648 ≤ y ∧ y ≤ 2147483647) (hd : -2147483648 ≤ d ∧ d ≤ 2147483647) : zTwo l m_X5_stop m_X6_stop [zI w, zI y, zI d] := by
  intro sn sf B S Z L R M hC
  obtain ⟨k1, k2, k3, k4, ⟨k5, k6, k7⟩, ⟨k8, k9⟩, k10, k11, k12, k13, k14⟩ := id hC
  have kr := k5.1
  have kn := k1.1
  have ko := zno_up _ _ k8 k1.2.2.2.2.1
  by_cases hfu : bN B < 100 ∧ bO B < 20
  · refine ⟨_, c_X5_stop_ok l sn sf B S Z L R M w y d k1.1 kr ko hw hy hd hfu, fun v1 h1 hp => ?_⟩
    rcases hp with ⟨u1, rfl, rfl⟩ | ⟨u1, u2, rfl, rfl⟩ | ⟨u1, u2, rfl, T1, rfl, hg⟩
    · refine ⟨_, _, rfl, ⟨_, S, Z, L, R, rfl⟩, c_X6_stop l (sn, sf, 5, 5, 22) _ S Z L R M (bT B) (bK B) (bN B) (rN R) w y d k1 k10 k11 kr (by rw [k12]; exact ko) hw hy hd, fun v2 h2 hp => ?_⟩
      obtain ⟨M1, rfl, hp⟩ := hp
      rcases hp with ⟨a2, rfl, hM⟩ | ⟨a2, b2, rfl, hM⟩ | ⟨a2, b2, f2, rfl, hM⟩ | ⟨a2, b2, f2, rfl, hM⟩
      · exact ⟨rfl, B, S, Z, L, R, M1, rfl, zCI_k hC k2 k3 k4 hM⟩
      · exfalso; omega
      · exfalso; omega
      · exfalso; omega
    · refine ⟨_, _, rfl, ⟨_, S, Z, L, R, rfl⟩, c_X6_stop l (sn, sf, 5, 5, 22) _ S Z L R M (bT B) (bK B) (bN B) (rN R) w y d k1 k10 k11 kr (by rw [k12]; exact ko) hw hy hd, fun v2 h2 hp => ?_⟩
      obtain ⟨M1, rfl, hp⟩ := hp
      rcases hp with ⟨a2, rfl, hM⟩ | ⟨a2, b2, rfl, hM⟩ | ⟨a2, b2, f2, rfl, hM⟩ | ⟨a2, b2, f2, rfl, hM⟩
      · exfalso; omega
      · exact ⟨rfl, B, S, Z, L, R, M1, rfl, zCI_k hC k2 k3 k4 hM⟩
      · exfalso; omega
      · exfalso; omega
    · refine ⟨_, _, rfl, ⟨_, S, Z, L, R, rfl⟩, c_X6_stop l (sn, sf, 5, 5, 22) _ S Z L R M (bT B) (bK B) (bN B) (rN R) w y d k1 k10 k11 kr (by rw [k12]; exact ko) hw hy hd, fun v2 h2 hp => ?_⟩
      obtain ⟨M1, rfl, hp⟩ := hp
      rcases hp with ⟨a2, rfl, hM⟩ | ⟨a2, b2, rfl, hM⟩ | ⟨a2, b2, f2, rfl, hM⟩ | ⟨a2, b2, f2, rfl, hM⟩
      · exfalso; omega
      · exfalso; omega
      · exfalso; omega
      · exact ⟨rfl, _, S, Z, L, R, M1, rfl, zCI_add hC (by omega) hg (fun f f0 f1 => by
          rcases (by omega : f = 0 ∨ f = 1 ∨ f = 2 ∨ f = 3 ∨ f = 4 ∨ f = 5 ∨ f = 6 ∨ f = 7 ∨ f = 8 ∨ f = 9 ∨ f = 10 ∨ f = 11) with rfl | rfl | rfl | rfl | rfl | rfl | rfl | rfl | rfl | rfl | rfl | rfl <;> simp [zup, zr0] <;> omega) (by
          unfold zvp
          rw [hg.2 0 (by omega) (by omega), hg.2 1 (by omega) (by omega), hg.2 2 (by omega) (by omega), hg.2 3 (by omega) (by omega), hg.2 4 (by omega) (by omega), hg.2 5 (by omega) (by omega), hg.2 6 (by omega) (by omega), hg.2 7 (by omega) (by omega), hg.2 9 (by omega) (by omega), hg.2 10 (by omega) (by omega), hg.2 11 (by omega) (by omega)]
          simp [zup, zr0]
          omega) (by simp [zup, zr0]) (Or.inl ⟨by simp [zup, zr0], rfl, by omega⟩) (by omega) hM⟩
  · refine ⟨_, c_X5_stop_full l sn sf B S Z L R M w y d k1.1 kr ko hw hy hd (by omega), fun v1 h1 hp => ?_⟩
    rcases hp with ⟨u1, rfl, rfl⟩ | ⟨u1, u2, rfl, rfl⟩ | ⟨u1, u2, rfl, rfl⟩
    · refine ⟨_, _, rfl, ⟨_, S, Z, L, R, rfl⟩, c_X6_stop l (sn, sf, 5, 5, 22) _ S Z L R M (bT B) (bK B) (bN B) (rN R) w y d k1 k10 k11 kr (by rw [k12]; exact ko) hw hy hd, fun v2 h2 hp => ?_⟩
      obtain ⟨M1, rfl, hp⟩ := hp
      rcases hp with ⟨a2, rfl, hM⟩ | ⟨a2, b2, rfl, hM⟩ | ⟨a2, b2, f2, rfl, hM⟩ | ⟨a2, b2, f2, rfl, hM⟩
      · exact ⟨rfl, B, S, Z, L, R, M1, rfl, zCI_k hC k2 k3 k4 hM⟩
      · exfalso; omega
      · exfalso; omega
      · exfalso; omega
    · refine ⟨_, _, rfl, ⟨_, S, Z, L, R, rfl⟩, c_X6_stop l (sn, sf, 5, 5, 22) _ S Z L R M (bT B) (bK B) (bN B) (rN R) w y d k1 k10 k11 kr (by rw [k12]; exact ko) hw hy hd, fun v2 h2 hp => ?_⟩
      obtain ⟨M1, rfl, hp⟩ := hp
      rcases hp with ⟨a2, rfl, hM⟩ | ⟨a2, b2, rfl, hM⟩ | ⟨a2, b2, f2, rfl, hM⟩ | ⟨a2, b2, f2, rfl, hM⟩
      · exfalso; omega
      · exact ⟨rfl, B, S, Z, L, R, M1, rfl, zCI_k hC k2 k3 k4 hM⟩
      · exfalso; omega
      · exfalso; omega
    · refine ⟨_, _, rfl, ⟨_, S, Z, L, R, rfl⟩, c_X6_stop l (sn, sf, 5, 5, 22) _ S Z L R M (bT B) (bK B) (bN B) (rN R) w y d k1 k10 k11 kr (by rw [k12]; exact ko) hw hy hd, fun v2 h2 hp => ?_⟩
      obtain ⟨M1, rfl, hp⟩ := hp
      rcases hp with ⟨a2, rfl, hM⟩ | ⟨a2, b2, rfl, hM⟩ | ⟨a2, b2, f2, rfl, hM⟩ | ⟨a2, b2, f2, rfl, hM⟩
      · exfalso; omega
      · exfalso; omega
      · exact ⟨rfl, B, S, Z, L, R, M1, rfl, zCI_k hC k2 k3 k4 hM⟩
      · exfalso; omega
theorem zt_make (l : Launch) (w k y d : Int) (hw : -2147483648 ≤ w ∧ w ≤ 2147483647) (hk : -2147483648 ≤ k ∧ k ≤ 2147483647) (hy : -2147483648 ≤ y ∧ y ≤ 2147483647) (hd : -2147483648 ≤ d ∧ d ≤ 2147483647) : zTwo l m_X5_make m_X6_make [zI w, zI k, zI y, zI d] := by
  intro sn sf B S Z L R M hC
  obtain ⟨k1, k2, k3, k4, ⟨k5, k6, k7⟩, ⟨k8, k9⟩, k10, k11, k12, k13, k14⟩ := id hC
  have kr := k5.1
  have kn := k1.1
  have ko := zno_up _ _ k8 k1.2.2.2.2.1
  by_cases hfu : bN B < 100 ∧ bO B < 20
  · refine ⟨_, c_X5_make_ok l sn sf B S Z L R M w k y d k1.1 kr ko hw hk hy hd hfu, fun v1 h1 hp => ?_⟩
    rcases hp with ⟨u1, rfl, rfl⟩ | ⟨u1, u2, rfl, rfl⟩ | ⟨u1, u2, rfl, T1, rfl, hg⟩
    · refine ⟨_, _, rfl, ⟨_, S, Z, L, R, rfl⟩, c_X6_make l (sn, sf, 5, 5, 22) _ S Z L R M (bT B) (bK B) (bN B) (rN R) w k y d k1 k10 k11 kr (by rw [k12]; exact ko) hw hk hy hd, fun v2 h2 hp => ?_⟩
      obtain ⟨M1, rfl, hp⟩ := hp
      rcases hp with ⟨a2, rfl, hM⟩ | ⟨a2, b2, rfl, hM⟩ | ⟨a2, b2, f2, rfl, hM⟩ | ⟨a2, b2, f2, rfl, hM⟩
      · exact ⟨rfl, B, S, Z, L, R, M1, rfl, zCI_k hC k2 k3 k4 hM⟩
      · exfalso; omega
      · exfalso; omega
      · exfalso; omega
    · refine ⟨_, _, rfl, ⟨_, S, Z, L, R, rfl⟩, c_X6_make l (sn, sf, 5, 5, 22) _ S Z L R M (bT B) (bK B) (bN B) (rN R) w k y d k1 k10 k11 kr (by rw [k12]; exact ko) hw hk hy hd, fun v2 h2 hp => ?_⟩
      obtain ⟨M1, rfl, hp⟩ := hp
      rcases hp with ⟨a2, rfl, hM⟩ | ⟨a2, b2, rfl, hM⟩ | ⟨a2, b2, f2, rfl, hM⟩ | ⟨a2, b2, f2, rfl, hM⟩
      · exfalso; omega
      · exact ⟨rfl, B, S, Z, L, R, M1, rfl, zCI_k hC k2 k3 k4 hM⟩
      · exfalso; omega
      · exfalso; omega
    · refine ⟨_, _, rfl, ⟨_, S, Z, L, R, rfl⟩, c_X6_make l (sn, sf, 5, 5, 22) _ S Z L R M (bT B) (bK B) (bN B) (rN R) w k y d k1 k10 k11 kr (by rw [k12]; exact ko) hw hk hy hd, fun v2 h2 hp => ?_⟩
      obtain ⟨M1, rfl, hp⟩ := hp
      rcases hp with ⟨a2, rfl, hM⟩ | ⟨a2, b2, rfl, hM⟩ | ⟨a2, b2, f2, rfl, hM⟩ | ⟨a2, b2, f2, rfl, hM⟩
      · exfalso; omega
      · exfalso; omega
      · exfalso; omega
      · exact ⟨rfl, _, S, Z, L, R, M1, rfl, zCI_add hC (by omega) hg (fun f f0 f1 => by
          rcases (by omega : f = 0 ∨ f = 1 ∨ f = 2 ∨ f = 3 ∨ f = 4 ∨ f = 5 ∨ f = 6 ∨ f = 7 ∨ f = 8 ∨ f = 9 ∨ f = 10 ∨ f = 11) with rfl | rfl | rfl | rfl | rfl | rfl | rfl | rfl | rfl | rfl | rfl | rfl <;> simp [zup, zr0] <;> omega) (by
          unfold zvp
          rw [hg.2 0 (by omega) (by omega), hg.2 1 (by omega) (by omega), hg.2 2 (by omega) (by omega), hg.2 3 (by omega) (by omega), hg.2 4 (by omega) (by omega), hg.2 5 (by omega) (by omega), hg.2 6 (by omega) (by omega), hg.2 7 (by omega) (by omega), hg.2 9 (by omega) (by omega), hg.2 10 (by omega) (by omega), hg.2 11 (by omega) (by omega)]
          simp [zup, zr0]
          omega) (by simp [zup, zr0]) (Or.inl ⟨by simp [zup, zr0], rfl, by omega⟩) (by omega) hM⟩
  · refine ⟨_, c_X5_make_full l sn sf B S Z L R M w k y d k1.1 kr ko hw hk hy hd (by omega), fun v1 h1 hp => ?_⟩
    rcases hp with ⟨u1, rfl, rfl⟩ | ⟨u1, u2, rfl, rfl⟩ | ⟨u1, u2, rfl, rfl⟩
    · refine ⟨_, _, rfl, ⟨_, S, Z, L, R, rfl⟩, c_X6_make l (sn, sf, 5, 5, 22) _ S Z L R M (bT B) (bK B) (bN B) (rN R) w k y d k1 k10 k11 kr (by rw [k12]; exact ko) hw hk hy hd, fun v2 h2 hp => ?_⟩
      obtain ⟨M1, rfl, hp⟩ := hp
      rcases hp with ⟨a2, rfl, hM⟩ | ⟨a2, b2, rfl, hM⟩ | ⟨a2, b2, f2, rfl, hM⟩ | ⟨a2, b2, f2, rfl, hM⟩
      · exact ⟨rfl, B, S, Z, L, R, M1, rfl, zCI_k hC k2 k3 k4 hM⟩
      · exfalso; omega
      · exfalso; omega
      · exfalso; omega
    · refine ⟨_, _, rfl, ⟨_, S, Z, L, R, rfl⟩, c_X6_make l (sn, sf, 5, 5, 22) _ S Z L R M (bT B) (bK B) (bN B) (rN R) w k y d k1 k10 k11 kr (by rw [k12]; exact ko) hw hk hy hd, fun v2 h2 hp => ?_⟩
      obtain ⟨M1, rfl, hp⟩ := hp
      rcases hp with ⟨a2, rfl, hM⟩ | ⟨a2, b2, rfl, hM⟩ | ⟨a2, b2, f2, rfl, hM⟩ | ⟨a2, b2, f2, rfl, hM⟩
      · exfalso; omega
      · exact ⟨rfl, B, S, Z, L, R, M1, rfl, zCI_k hC k2 k3 k4 hM⟩
      · exfalso; omega
      · exfalso; omega
    · refine ⟨_, _, rfl, ⟨_, S, Z, L, R, rfl⟩, c_X6_make l (sn, sf, 5, 5, 22) _ S Z L R M (bT B) (bK B) (bN B) (rN R) w k y d k1 k10 k11 kr (by rw [k12]; exact ko) hw hk hy hd, fun v2 h2 hp => ?_⟩
      obtain ⟨M1, rfl, hp⟩ := hp
      rcases hp with ⟨a2, rfl, hM⟩ | ⟨a2, b2, rfl, hM⟩ | ⟨a2, b2, f2, rfl, hM⟩ | ⟨a2, b2, f2, rfl, hM⟩
      · exfalso; omega
      · exfalso; omega
      · exact ⟨rfl, B, S, Z, L, R, M1, rfl, zCI_k hC k2 k3 k4 hM⟩
      · exfalso; omega
theorem zt_statute (l : Launch) (a b c2 d : Int) (ha : -2147483648 ≤ a ∧ a ≤ 2147483647) (hb : -2147483648 ≤ b ∧ b ≤ 2147483647) (hc2 : -2147483648 ≤ c2 ∧ c2 ≤ 2147483647) (hd : -2147483648 ≤ d ∧ d ≤ 2147483647) : zTwo l m_X5_statute m_X6_statute [zI a, zI b, zI c2, zI d] := by
  intro sn sf B S Z L R M hC
  obtain ⟨k1, k2, k3, k4, ⟨k5, k6, k7⟩, ⟨k8, k9⟩, k10, k11, k12, k13, k14⟩ := id hC
  have kr := k5.1
  have kn := k1.1
  have ko := zno_up _ _ k8 k1.2.2.2.2.1
  by_cases hfu : bN B < 100
  · refine ⟨_, c_X5_statute_ok l sn sf B S Z L R M a b c2 d k1.1 kr ko ha hb hc2 hd hfu, fun v1 h1 hp => ?_⟩
    rcases hp with ⟨u2, rfl, rfl⟩ | ⟨u2, rfl, T1, rfl, hg⟩
    · refine ⟨_, _, rfl, ⟨_, S, Z, L, R, rfl⟩, c_X6_statute l (sn, sf, 5, 5, 22) _ S Z L R M (bT B) (bK B) (bN B) (rN R) a b c2 d k1 k10 k11 kr ha hb hc2 hd, fun v2 h2 hp => ?_⟩
      obtain ⟨M1, rfl, hp⟩ := hp
      rcases hp with ⟨a2, rfl, hM⟩ | ⟨a2, b2, rfl, hM⟩ | ⟨a2, b2, f2, rfl, hM⟩ | ⟨a2, b2, f2, rfl, hM⟩
      · exfalso; omega
      · exact ⟨rfl, B, S, Z, L, R, M1, rfl, zCI_k hC k2 k3 k4 hM⟩
      · exfalso; omega
      · exfalso; omega
    · refine ⟨_, _, rfl, ⟨_, S, Z, L, R, rfl⟩, c_X6_statute l (sn, sf, 5, 5, 22) _ S Z L R M (bT B) (bK B) (bN B) (rN R) a b c2 d k1 k10 k11 kr ha hb hc2 hd, fun v2 h2 hp => ?_⟩
      obtain ⟨M1, rfl, hp⟩ := hp
      rcases hp with ⟨a2, rfl, hM⟩ | ⟨a2, b2, rfl, hM⟩ | ⟨a2, b2, f2, rfl, hM⟩ | ⟨a2, b2, f2, rfl, hM⟩
      · exfalso; omega
      · exfalso; omega
      · exfalso; omega
      · exact ⟨rfl, _, S, Z, L, R, M1, rfl, zCI_add hC (by omega) hg (fun f f0 f1 => by
          rcases (by omega : f = 0 ∨ f = 1 ∨ f = 2 ∨ f = 3 ∨ f = 4 ∨ f = 5 ∨ f = 6 ∨ f = 7 ∨ f = 8 ∨ f = 9 ∨ f = 10 ∨ f = 11) with rfl | rfl | rfl | rfl | rfl | rfl | rfl | rfl | rfl | rfl | rfl | rfl <;> simp [zup, zr0] <;> omega) (by
          unfold zvp
          rw [hg.2 0 (by omega) (by omega), hg.2 1 (by omega) (by omega), hg.2 2 (by omega) (by omega), hg.2 3 (by omega) (by omega), hg.2 4 (by omega) (by omega), hg.2 5 (by omega) (by omega), hg.2 6 (by omega) (by omega), hg.2 7 (by omega) (by omega), hg.2 9 (by omega) (by omega), hg.2 10 (by omega) (by omega), hg.2 11 (by omega) (by omega)]
          simp [zup, zr0]
          omega) (by simp [zup, zr0]) (Or.inr ⟨by simp [zup, zr0], rfl⟩) (by omega) hM⟩
  · refine ⟨_, c_X5_statute_full l sn sf B S Z L R M a b c2 d k1.1 kr ko ha hb hc2 hd (by omega), fun v1 h1 hp => ?_⟩
    rcases hp with ⟨u2, rfl, rfl⟩ | ⟨u2, rfl, rfl⟩
    · refine ⟨_, _, rfl, ⟨_, S, Z, L, R, rfl⟩, c_X6_statute l (sn, sf, 5, 5, 22) _ S Z L R M (bT B) (bK B) (bN B) (rN R) a b c2 d k1 k10 k11 kr ha hb hc2 hd, fun v2 h2 hp => ?_⟩
      obtain ⟨M1, rfl, hp⟩ := hp
      rcases hp with ⟨a2, rfl, hM⟩ | ⟨a2, b2, rfl, hM⟩ | ⟨a2, b2, f2, rfl, hM⟩ | ⟨a2, b2, f2, rfl, hM⟩
      · exfalso; omega
      · exact ⟨rfl, B, S, Z, L, R, M1, rfl, zCI_k hC k2 k3 k4 hM⟩
      · exfalso; omega
      · exfalso; omega
    · refine ⟨_, _, rfl, ⟨_, S, Z, L, R, rfl⟩, c_X6_statute l (sn, sf, 5, 5, 22) _ S Z L R M (bT B) (bK B) (bN B) (rN R) a b c2 d k1 k10 k11 kr ha hb hc2 hd, fun v2 h2 hp => ?_⟩
      obtain ⟨M1, rfl, hp⟩ := hp
      rcases hp with ⟨a2, rfl, hM⟩ | ⟨a2, b2, rfl, hM⟩ | ⟨a2, b2, f2, rfl, hM⟩ | ⟨a2, b2, f2, rfl, hM⟩
      · exfalso; omega
      · exfalso; omega
      · exact ⟨rfl, B, S, Z, L, R, M1, rfl, zCI_k hC k2 k3 k4 hM⟩
      · exfalso; omega
theorem zt_strike (l : Launch) (p : Int) (hp : -2147483648 ≤ p ∧ p ≤ 2147483647) : zTwo l m_X5_strike m_X6_strike [zI p] := by
  intro sn sf B S Z L R M hC
  obtain ⟨k1, k2, k3, k4, ⟨k5, k6, k7⟩, ⟨k8, k9⟩, k10, k11, k12, k13, k14⟩ := id hC
  have kr := k5.1
  have kn := k1.1
  have ko := zno_up _ _ k8 k1.2.2.2.2.1
  by_cases hfu : bN B < 100
  · refine ⟨_, c_X5_strike_ok l sn sf B S Z L R M p k1.1 ko k1.2.1 k1.2.2.1 hp hfu, fun v1 h1 hp => ?_⟩
    rcases hp with ⟨u1, rfl, rfl⟩ | ⟨u1, u2, rfl, rfl⟩ | ⟨u1, u2, rfl, T1, rfl, hg⟩
    · refine ⟨_, _, rfl, ⟨_, S, Z, L, R, rfl⟩, c_X6_strike l (sn, sf, 5, 5, 22) _ S Z L R M (bT B) (bK B) (bN B) (rN R) p k1 k10 k11 kr hp, fun v2 h2 hp => ?_⟩
      obtain ⟨M1, rfl, hp⟩ := hp
      rcases hp with ⟨a2, rfl, hM⟩ | ⟨a2, b2, rfl, hM⟩ | ⟨a2, b2, f2, rfl, hM⟩ | ⟨a2, b2, f2, rfl, hM⟩
      · exact ⟨rfl, B, S, Z, L, R, M1, rfl, zCI_k hC k2 k3 k4 hM⟩
      · exfalso; omega
      · exfalso; omega
      · exfalso; omega
    · refine ⟨_, _, rfl, ⟨_, S, Z, L, R, rfl⟩, c_X6_strike l (sn, sf, 5, 5, 22) _ S Z L R M (bT B) (bK B) (bN B) (rN R) p k1 k10 k11 kr hp, fun v2 h2 hp => ?_⟩
      obtain ⟨M1, rfl, hp⟩ := hp
      rcases hp with ⟨a2, rfl, hM⟩ | ⟨a2, b2, rfl, hM⟩ | ⟨a2, b2, f2, rfl, hM⟩ | ⟨a2, b2, f2, rfl, hM⟩
      · exfalso; omega
      · exact ⟨rfl, B, S, Z, L, R, M1, rfl, zCI_k hC k2 k3 k4 hM⟩
      · exfalso; omega
      · exfalso; omega
    · refine ⟨_, _, rfl, ⟨_, S, Z, L, R, rfl⟩, c_X6_strike l (sn, sf, 5, 5, 22) _ S Z L R M (bT B) (bK B) (bN B) (rN R) p k1 k10 k11 kr hp, fun v2 h2 hp => ?_⟩
      obtain ⟨M1, rfl, hp⟩ := hp
      rcases hp with ⟨a2, rfl, hM⟩ | ⟨a2, b2, rfl, hM⟩ | ⟨a2, b2, f2, rfl, hM⟩ | ⟨a2, b2, f2, rfl, hM⟩
      · exfalso; omega
      · exfalso; omega
      · exfalso; omega
      · exact ⟨rfl, _, S, Z, L, R, M1, rfl, zCI_strike hC hfu u1 u2.1 u2.2 hg (fun f f0 f1 => by
          rcases (by omega : f = 0 ∨ f = 1 ∨ f = 2 ∨ f = 3 ∨ f = 4 ∨ f = 5 ∨ f = 6 ∨ f = 7 ∨ f = 8 ∨ f = 9 ∨ f = 10 ∨ f = 11) with rfl | rfl | rfl | rfl | rfl | rfl | rfl | rfl | rfl | rfl | rfl | rfl <;> simp [zup, zr0] <;> omega) (by
          refine Or.inr (Or.inr (Or.inr (Or.inr (Or.inr (Or.inl ⟨by rw [hg.2 0 (by omega) (by omega)]; simp [zup, zr0], by rw [hg.2 1 (by omega) (by omega)]; simp [zup, zr0], by rw [hg.2 8 (by omega) (by omega)]; simp [zup, zr0]; omega, ?_⟩)))))
          rw [hg.2 8 (by omega) (by omega)]
          have e8 : zup (zr0 5) 8 p 8 = p := by simp [zup]
          rw [e8, hg.1 _ (by omega)]
          exact u2.1) (by simp [zup, zr0]) (by simp [zup, zr0]) hM⟩
  · refine ⟨_, c_X5_strike_full l sn sf B S Z L R M p k1.1 ko k1.2.1 k1.2.2.1 hp (by omega), fun v1 h1 hp => ?_⟩
    rcases hp with ⟨u1, rfl, rfl⟩ | ⟨u1, u2, rfl, rfl⟩ | ⟨u1, u2, rfl, rfl⟩
    · refine ⟨_, _, rfl, ⟨_, S, Z, L, R, rfl⟩, c_X6_strike l (sn, sf, 5, 5, 22) _ S Z L R M (bT B) (bK B) (bN B) (rN R) p k1 k10 k11 kr hp, fun v2 h2 hp => ?_⟩
      obtain ⟨M1, rfl, hp⟩ := hp
      rcases hp with ⟨a2, rfl, hM⟩ | ⟨a2, b2, rfl, hM⟩ | ⟨a2, b2, f2, rfl, hM⟩ | ⟨a2, b2, f2, rfl, hM⟩
      · exact ⟨rfl, B, S, Z, L, R, M1, rfl, zCI_k hC k2 k3 k4 hM⟩
      · exfalso; omega
      · exfalso; omega
      · exfalso; omega
    · refine ⟨_, _, rfl, ⟨_, S, Z, L, R, rfl⟩, c_X6_strike l (sn, sf, 5, 5, 22) _ S Z L R M (bT B) (bK B) (bN B) (rN R) p k1 k10 k11 kr hp, fun v2 h2 hp => ?_⟩
      obtain ⟨M1, rfl, hp⟩ := hp
      rcases hp with ⟨a2, rfl, hM⟩ | ⟨a2, b2, rfl, hM⟩ | ⟨a2, b2, f2, rfl, hM⟩ | ⟨a2, b2, f2, rfl, hM⟩
      · exfalso; omega
      · exact ⟨rfl, B, S, Z, L, R, M1, rfl, zCI_k hC k2 k3 k4 hM⟩
      · exfalso; omega
      · exfalso; omega
    · refine ⟨_, _, rfl, ⟨_, S, Z, L, R, rfl⟩, c_X6_strike l (sn, sf, 5, 5, 22) _ S Z L R M (bT B) (bK B) (bN B) (rN R) p k1 k10 k11 kr hp, fun v2 h2 hp => ?_⟩
      obtain ⟨M1, rfl, hp⟩ := hp
      rcases hp with ⟨a2, rfl, hM⟩ | ⟨a2, b2, rfl, hM⟩ | ⟨a2, b2, f2, rfl, hM⟩ | ⟨a2, b2, f2, rfl, hM⟩
      · exfalso; omega
      · exfalso; omega
      · exact ⟨rfl, B, S, Z, L, R, M1, rfl, zCI_k hC k2 k3 k4 hM⟩
      · exfalso; omega
theorem zt_way (l : Launch) (a b : Int) (ha : -2147483648 ≤ a ∧ a ≤ 2147483647) (hb : -2147483648 ≤ b ∧ b ≤ 2147483647) : zTwo l m_X5_way m_X6_way [zI a, zI b] := by
  intro sn sf B S Z L R M hC
  obtain ⟨k1, k2, k3, k4, ⟨k5, k6, k7⟩, ⟨k8, k9⟩, k10, k11, k12, k13, k14⟩ := id hC
  have kr := k5.1
  have kn := k1.1
  have ko := zno_up _ _ k8 k1.2.2.2.2.1
  by_cases hfu : rN R < 12
  · refine ⟨_, c_X5_way_ok l sn sf B S Z L R M a b ha hb ⟨kr.1, hfu⟩, fun v1 h1 hp => ?_⟩
    rcases hp with ⟨a1, rfl, rfl⟩ | ⟨a1, b1, rfl, rfl⟩ | ⟨a1, b1, rfl, rfl⟩
    · refine ⟨_, _, rfl, ⟨B, S, Z, L, R, rfl⟩, c_X6_way l (sn, sf, 5, 5, 22) B S Z L R M (bT B) (bK B) (bN B) (rN R) a b k1 k10 k11 kr ha hb, fun v2 h2 hp => ?_⟩
      obtain ⟨M1, rfl, hp⟩ := hp
      rcases hp with ⟨a2, rfl, hM⟩ | ⟨a2, b2, rfl, hM⟩ | ⟨a2, b2, f2, rfl, hM⟩ | ⟨a2, b2, f2, rfl, hM⟩
      · exact ⟨rfl, B, S, Z, L, R, M1, rfl, zCI_k hC k2 k3 k4 hM⟩
      · exfalso; omega
      · exfalso; omega
      · exfalso; omega
    · refine ⟨_, _, rfl, ⟨B, S, Z, L, R, rfl⟩, c_X6_way l (sn, sf, 5, 5, 22) B S Z L R M (bT B) (bK B) (bN B) (rN R) a b k1 k10 k11 kr ha hb, fun v2 h2 hp => ?_⟩
      obtain ⟨M1, rfl, hp⟩ := hp
      rcases hp with ⟨a2, rfl, hM⟩ | ⟨a2, b2, rfl, hM⟩ | ⟨a2, b2, f2, rfl, hM⟩ | ⟨a2, b2, f2, rfl, hM⟩
      · exfalso; omega
      · exact ⟨rfl, B, S, Z, L, R, M1, rfl, zCI_k hC k2 k3 k4 hM⟩
      · exfalso; omega
      · exfalso; omega
    · refine ⟨_, _, rfl, ⟨B, S, Z, L, _, rfl⟩, c_X6_way l (sn, sf, 5, 5, 22) B S Z L _ M (bT B) (bK B) (bN B) (rN R) a b k1 k10 k11 kr ha hb, fun v2 h2 hp => ?_⟩
      obtain ⟨M1, rfl, hp⟩ := hp
      rcases hp with ⟨a2, rfl, hM⟩ | ⟨a2, b2, rfl, hM⟩ | ⟨a2, b2, f2, rfl, hM⟩ | ⟨a2, b2, f2, rfl, m1, m2, m3, m4, m5, m6, m7⟩
      · exfalso; omega
      · exfalso; omega
      · exfalso; omega
      · exact ⟨rfl, B, S, Z, L, _, M1, rfl, zCI_way hC hfu a1.1 a1.2 b1 m1 m2 m3 m4 m5 m6 m7⟩
  · refine ⟨_, c_X5_way_full l sn sf B S Z L R M a b ha hb (by omega), fun v1 h1 hp => ?_⟩
    rcases hp with ⟨a1, rfl, rfl⟩ | ⟨a1, b1, rfl, rfl⟩ | ⟨a1, b1, rfl, rfl⟩
    · refine ⟨_, _, rfl, ⟨B, S, Z, L, R, rfl⟩, c_X6_way l (sn, sf, 5, 5, 22) B S Z L R M (bT B) (bK B) (bN B) (rN R) a b k1 k10 k11 kr ha hb, fun v2 h2 hp => ?_⟩
      obtain ⟨M1, rfl, hp⟩ := hp
      rcases hp with ⟨a2, rfl, hM⟩ | ⟨a2, b2, rfl, hM⟩ | ⟨a2, b2, f2, rfl, hM⟩ | ⟨a2, b2, f2, rfl, hM⟩
      · exact ⟨rfl, B, S, Z, L, R, M1, rfl, zCI_k hC k2 k3 k4 hM⟩
      · exfalso; omega
      · exfalso; omega
      · exfalso; omega
    · refine ⟨_, _, rfl, ⟨B, S, Z, L, R, rfl⟩, c_X6_way l (sn, sf, 5, 5, 22) B S Z L R M (bT B) (bK B) (bN B) (rN R) a b k1 k10 k11 kr ha hb, fun v2 h2 hp => ?_⟩
      obtain ⟨M1, rfl, hp⟩ := hp
      rcases hp with ⟨a2, rfl, hM⟩ | ⟨a2, b2, rfl, hM⟩ | ⟨a2, b2, f2, rfl, hM⟩ | ⟨a2, b2, f2, rfl, hM⟩
      · exfalso; omega
      · exact ⟨rfl, B, S, Z, L, R, M1, rfl, zCI_k hC k2 k3 k4 hM⟩
      · exfalso; omega
      · exfalso; omega
    · refine ⟨_, _, rfl, ⟨B, S, Z, L, R, rfl⟩, c_X6_way l (sn, sf, 5, 5, 22) B S Z L R M (bT B) (bK B) (bN B) (rN R) a b k1 k10 k11 kr ha hb, fun v2 h2 hp => ?_⟩
      obtain ⟨M1, rfl, hp⟩ := hp
      rcases hp with ⟨a2, rfl, hM⟩ | ⟨a2, b2, rfl, hM⟩ | ⟨a2, b2, f2, rfl, hM⟩ | ⟨a2, b2, f2, rfl, hM⟩
      · exfalso; omega
      · exfalso; omega
      · exact ⟨rfl, B, S, Z, L, R, M1, rfl, zCI_k hC k2 k3 k4 hM⟩
      · exfalso; omega
