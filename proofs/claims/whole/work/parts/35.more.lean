def hk_zu (Z : hk_Z) (J : Nat) : hk_Z := (fun j => if j = J then Z.1 J + 1 else Z.1 j, Z.2)
def hk_zk (Z : hk_Z) (c w : Nat) : hk_Z := (fun j => if j = 2 then Z.1 2 + 1 else Z.1 j, (fun i => if i = Z.1 2 then c else Z.2.1 i, fun i => if i = Z.1 2 then w else Z.2.2 i))
set_option maxHeartbeats 4000000 in
theorem hk_W.more0 {D : hk_D} {G G1 G2 : hk_G} {Z : hk_Z} {x y : Int64} {n a : Nat} (h : hk_W D G Z x y) (hz : Z.1 0 = n) (b1 : ∀ L, ¬ L = .inl (9, n) → G1.1 L = G.1 L ∧ G1.2.1 L = G.2.1 L ∧ ∀ j, G1.2.2 L j = G.2.2 L j) (k0 : G1.2.1 (.inl (9, n)) = some (.inl 5)) (ha : G1.1 (.inl (9, n)) = a) (hg : hk_gr G1 G2 0 n a) : hk_W D G2 (hk_zu Z 0) x y := by
  subst hz
  obtain ⟨h1, h2, h3, h4, n0, n1, n2, n3, n4, n5, m0, m1, m2⟩ := h
  obtain ⟨g1, g2, g3, g4, g5, g6, g7⟩ := hg
  have A1 : ∀ L, ¬ L = .inl (2, 0) → ¬ L = .inl (9, Z.1 0) → G2.1 L = G.1 L := fun L hq h9 => (g5 L hq).1.trans (b1 L h9).1
  have A2 : ∀ L, ¬ L = .inl (2, 0) → ¬ L = .inl (9, Z.1 0) → G2.2.1 L = G.2.1 L := fun L hq h9 => (g5 L hq).2.trans (b1 L h9).2.1
  have A3 : ∀ L j, ¬ L = .inl (2, 0) → ¬ L = .inl (9, Z.1 0) → ¬ (L = .inl (1, 0) ∧ j = 1) → G2.2.2 L j = G.2.2 L j := fun L j hq h9 hz9 => (g7 L j hq hz9).trans ((b1 L h9).2.2 j)
  have q0 : G2.2.1 (.inl (9, Z.1 0)) = some (.inl 5) := ((g5 _ (by simp)).2).trans k0
  have qa : G2.1 (.inl (9, Z.1 0)) = a := ((g5 _ (by simp)).1).trans ha
  refine ⟨⟨(by have q := h1.k0; simpa [hk_zu, A1, A2, A3] using q),
   (by have q := h1.r0_0; simpa [hk_zu, A1, A2, A3] using q),
   (by have q := h1.k1_0; simpa [hk_zu, A1, A2, A3] using q),
   (by intro q; simp [hk_zu] at q),
   (fun _ => g1),
   (fun _ => g2),
   (by
    intro i hi
    rcases Nat.lt_or_ge i (Z.1 0) with q | q
    · rw [g4 i q, (b1 _ (by simp)).2.2, A1 _ (by simp) (by simp; omega)]
      exact h1.a2_0 i q
    · have e : i = Z.1 0 := by simp [hk_zu] at hi; omega
      subst e
      rw [g3, qa]),
   (by have q := h1.r0_1; simpa [hk_zu, A1, A2, A3] using q),
   (by have q := h1.k1_1; simpa [hk_zu, A1, A2, A3] using q),
   (by have q := h1.e1_1; simpa [hk_zu, A1, A2, A3] using q),
   (by have q := h1.a1_1; simpa [hk_zu, A1, A2, A3] using q),
   (by have q := h1.k2_1; simpa [hk_zu, A1, A2, A3] using q),
   (by have q := h1.a2_1; simpa [hk_zu, A1, A2, A3] using q),
   (by have q := h1.r0_2; simpa [hk_zu, A1, A2, A3] using q),
   (by have q := h1.k1_2; simpa [hk_zu, A1, A2, A3] using q),
   (by have q := h1.e1_2; simpa [hk_zu, A1, A2, A3] using q),
   (by have q := h1.a1_2; simpa [hk_zu, A1, A2, A3] using q),
   (by have q := h1.k2_2; simpa [hk_zu, A1, A2, A3] using q),
   (by have q := h1.a2_2; simpa [hk_zu, A1, A2, A3] using q),
   (by have q := h1.r0_3; simpa [hk_zu, A1, A2, A3] using q),
   (by have q := h1.k3_0; simpa [hk_zu, A1, A2, A3] using q),
   (by have q := h1.r3; simpa [hk_zu, A1, A2, A3] using q),
   (by have q := h1.k3_1; simpa [hk_zu, A1, A2, A3] using q),
   (by have q := h1.r0_4; simpa [hk_zu, A1, A2, A3] using q),
   (by have q := h1.k4_0; simpa [hk_zu, A1, A2, A3] using q),
   (by have q := h1.r4_0; simpa [hk_zu, A1, A2, A3] using q),
   (by have q := h1.k4_1; simpa [hk_zu, A1, A2, A3] using q),
   (by have q := h1.r4_1; simpa [hk_zu, A1, A2, A3] using q),
   (by have q := h1.k4_2; simpa [hk_zu, A1, A2, A3] using q),
   (by have q := h1.r0_5; simpa [hk_zu, A1, A2, A3] using q),
   (by have q := h1.r0_6; simpa [hk_zu, A1, A2, A3] using q),
   (by have q := h1.k5; simpa [hk_zu, A1, A2, A3] using q),
   (by have q := h1.r5_0; simpa [hk_zu, A1, A2, A3] using q),
   (by have q := h1.k6; simpa [hk_zu, A1, A2, A3] using q),
   (by have q := h1.r5_1; simpa [hk_zu, A1, A2, A3] using q),
   (by have q := h1.k7; simpa [hk_zu, A1, A2, A3] using q),
   (by have q := h1.r0_7; simpa [hk_zu, A1, A2, A3] using q),
   (by have q := h1.k8_0; simpa [hk_zu, A1, A2, A3] using q),
   (by have q := h1.r8_0; simpa [hk_zu, A1, A2, A3] using q),
   (by have q := h1.k8_1; simpa [hk_zu, A1, A2, A3] using q),
   (by have q := h1.r8_1; simpa [hk_zu, A1, A2, A3] using q),
   (by have q := h1.k8_2; simpa [hk_zu, A1, A2, A3] using q),
   (by have q := h1.r8_2; simpa [hk_zu, A1, A2, A3] using q),
   (by have q := h1.k8_3; simpa [hk_zu, A1, A2, A3] using q),
   (by
    intro i hi
    rcases Nat.lt_or_ge i (Z.1 0) with q | q
    · rw [A2 _ (by simp) (by simp; omega)]
      exact h1.k9 i q
    · have e : i = Z.1 0 := by simp [hk_zu] at hi; omega
      subst e
      exact q0),
   (by have q := h1.k10; simpa [hk_zu, A1, A2, A3] using q),
   (by have q := h1.k11; simpa [hk_zu, A1, A2, A3] using q),
   (by have q := h1.r11_0; simpa [hk_zu, A1, A2, A3] using q),
   (by have q := h1.r11_2; simpa [hk_zu, A1, A2, A3] using q),
   (by have q := h1.r11_3; simpa [hk_zu, A1, A2, A3] using q),
   (by have q := h1.k12; simpa [hk_zu, A1, A2, A3] using q),
   (by have q := h1.k13; simpa [hk_zu, A1, A2, A3] using q),
   (by have q := h1.k14; simpa [hk_zu, A1, A2, A3] using q),
   (by have q := h1.kn; simpa [hk_zu, A1, A2, A3] using q)⟩, ?_, ?_, ?_, (fun i hi => by have hi2 : Z.1 0 < i := (by simp [hk_zu] at hi; omega); rw [A2 _ (by simp) (by simp; omega)]; exact n0 i (by omega)),
   (fun i hi => by have hi2 : Z.1 1 ≤ i := (by simp [hk_zu] at hi; omega); rw [A2 _ (by simp) (by simp)]; exact n1 i (by omega)),
   (fun i hi => by have hi2 : Z.1 2 ≤ i := (by simp [hk_zu] at hi; omega); rw [A2 _ (by simp) (by simp)]; exact n2 i (by omega)),
   (fun i hi => by have hi2 : Z.1 2 ≤ i := (by simp [hk_zu] at hi; omega); rw [A2 _ (by simp) (by simp)]; exact n3 i (by omega)),
   (fun i hi => by have hi2 : Z.1 2 ≤ i := (by simp [hk_zu] at hi; omega); rw [A2 _ (by simp) (by simp)]; exact n4 i (by omega)),
   (fun i hi => by have hi2 : Z.1 2 ≤ i := (by simp [hk_zu] at hi; omega); rw [A2 _ (by simp) (by simp)]; exact n5 i (by omega)),
   (by intro q; simp [hk_zu] at q),
   (by have q := m1; simpa [hk_zu, A1, A2, A3] using q),
   (by have q := m2; simpa [hk_zu, A1, A2, A3] using q)⟩
  · simp only [hk_M] at h2 ⊢
    simpa [A1, A2, A3] using h2
  · rw [A3 _ _ (by simp) (by simp) (by simp)]; exact h3
  · rw [A3 _ _ (by simp) (by simp) (by simp)]; exact h4
set_option maxHeartbeats 4000000 in
theorem hk_W.more1 {D : hk_D} {G G1 G2 : hk_G} {Z : hk_Z} {x y : Int64} {n a : Nat} (h : hk_W D G Z x y) (hz : Z.1 1 = n) (b1 : ∀ L, ¬ L = .inl (10, n) → G1.1 L = G.1 L ∧ G1.2.1 L = G.2.1 L ∧ ∀ j, G1.2.2 L j = G.2.2 L j) (k0 : G1.2.1 (.inl (10, n)) = some (.inl 4)) (ha : G1.1 (.inl (10, n)) = a) (hg : hk_gr G1 G2 1 n a) : hk_W D G2 (hk_zu Z 1) x y := by
  subst hz
  obtain ⟨h1, h2, h3, h4, n0, n1, n2, n3, n4, n5, m0, m1, m2⟩ := h
  obtain ⟨g1, g2, g3, g4, g5, g6, g7⟩ := hg
  have A1 : ∀ L, ¬ L = .inl (2, 1) → ¬ L = .inl (10, Z.1 1) → G2.1 L = G.1 L := fun L hq h10 => (g5 L hq).1.trans (b1 L h10).1
  have A2 : ∀ L, ¬ L = .inl (2, 1) → ¬ L = .inl (10, Z.1 1) → G2.2.1 L = G.2.1 L := fun L hq h10 => (g5 L hq).2.trans (b1 L h10).2.1
  have A3 : ∀ L j, ¬ L = .inl (2, 1) → ¬ L = .inl (10, Z.1 1) → ¬ (L = .inl (1, 1) ∧ j = 1) → G2.2.2 L j = G.2.2 L j := fun L j hq h10 hz9 => (g7 L j hq hz9).trans ((b1 L h10).2.2 j)
  have q0 : G2.2.1 (.inl (10, Z.1 1)) = some (.inl 4) := ((g5 _ (by simp)).2).trans k0
  have qa : G2.1 (.inl (10, Z.1 1)) = a := ((g5 _ (by simp)).1).trans ha
  refine ⟨⟨(by have q := h1.k0; simpa [hk_zu, A1, A2, A3] using q),
   (by have q := h1.r0_0; simpa [hk_zu, A1, A2, A3] using q),
   (by have q := h1.k1_0; simpa [hk_zu, A1, A2, A3] using q),
   (by have q := h1.e1_0; simpa [hk_zu, A1, A2, A3] using q),
   (by have q := h1.a1_0; simpa [hk_zu, A1, A2, A3] using q),
   (by have q := h1.k2_0; simpa [hk_zu, A1, A2, A3] using q),
   (by have q := h1.a2_0; simpa [hk_zu, A1, A2, A3] using q),
   (by have q := h1.r0_1; simpa [hk_zu, A1, A2, A3] using q),
   (by have q := h1.k1_1; simpa [hk_zu, A1, A2, A3] using q),
   (by intro q; simp [hk_zu] at q),
   (fun _ => g1),
   (fun _ => g2),
   (by
    intro i hi
    rcases Nat.lt_or_ge i (Z.1 1) with q | q
    · rw [g4 i q, (b1 _ (by simp)).2.2, A1 _ (by simp) (by simp; omega)]
      exact h1.a2_1 i q
    · have e : i = Z.1 1 := by simp [hk_zu] at hi; omega
      subst e
      rw [g3, qa]),
   (by have q := h1.r0_2; simpa [hk_zu, A1, A2, A3] using q),
   (by have q := h1.k1_2; simpa [hk_zu, A1, A2, A3] using q),
   (by have q := h1.e1_2; simpa [hk_zu, A1, A2, A3] using q),
   (by have q := h1.a1_2; simpa [hk_zu, A1, A2, A3] using q),
   (by have q := h1.k2_2; simpa [hk_zu, A1, A2, A3] using q),
   (by have q := h1.a2_2; simpa [hk_zu, A1, A2, A3] using q),
   (by have q := h1.r0_3; simpa [hk_zu, A1, A2, A3] using q),
   (by have q := h1.k3_0; simpa [hk_zu, A1, A2, A3] using q),
   (by have q := h1.r3; simpa [hk_zu, A1, A2, A3] using q),
   (by have q := h1.k3_1; simpa [hk_zu, A1, A2, A3] using q),
   (by have q := h1.r0_4; simpa [hk_zu, A1, A2, A3] using q),
   (by have q := h1.k4_0; simpa [hk_zu, A1, A2, A3] using q),
   (by have q := h1.r4_0; simpa [hk_zu, A1, A2, A3] using q),
   (by have q := h1.k4_1; simpa [hk_zu, A1, A2, A3] using q),
   (by have q := h1.r4_1; simpa [hk_zu, A1, A2, A3] using q),
   (by have q := h1.k4_2; simpa [hk_zu, A1, A2, A3] using q),
   (by have q := h1.r0_5; simpa [hk_zu, A1, A2, A3] using q),
   (by have q := h1.r0_6; simpa [hk_zu, A1, A2, A3] using q),
   (by have q := h1.k5; simpa [hk_zu, A1, A2, A3] using q),
   (by have q := h1.r5_0; simpa [hk_zu, A1, A2, A3] using q),
   (by have q := h1.k6; simpa [hk_zu, A1, A2, A3] using q),
   (by have q := h1.r5_1; simpa [hk_zu, A1, A2, A3] using q),
   (by have q := h1.k7; simpa [hk_zu, A1, A2, A3] using q),
   (by have q := h1.r0_7; simpa [hk_zu, A1, A2, A3] using q),
   (by have q := h1.k8_0; simpa [hk_zu, A1, A2, A3] using q),
   (by have q := h1.r8_0; simpa [hk_zu, A1, A2, A3] using q),
   (by have q := h1.k8_1; simpa [hk_zu, A1, A2, A3] using q),
   (by have q := h1.r8_1; simpa [hk_zu, A1, A2, A3] using q),
   (by have q := h1.k8_2; simpa [hk_zu, A1, A2, A3] using q),
   (by have q := h1.r8_2; simpa [hk_zu, A1, A2, A3] using q),
   (by have q := h1.k8_3; simpa [hk_zu, A1, A2, A3] using q),
   (by have q := h1.k9; simpa [hk_zu, A1, A2, A3] using q),
   (by
    intro i hi
    rcases Nat.lt_or_ge i (Z.1 1) with q | q
    · rw [A2 _ (by simp) (by simp; omega)]
      exact h1.k10 i q
    · have e : i = Z.1 1 := by simp [hk_zu] at hi; omega
      subst e
      exact q0),
   (by have q := h1.k11; simpa [hk_zu, A1, A2, A3] using q),
   (by have q := h1.r11_0; simpa [hk_zu, A1, A2, A3] using q),
   (by have q := h1.r11_2; simpa [hk_zu, A1, A2, A3] using q),
   (by have q := h1.r11_3; simpa [hk_zu, A1, A2, A3] using q),
   (by have q := h1.k12; simpa [hk_zu, A1, A2, A3] using q),
   (by have q := h1.k13; simpa [hk_zu, A1, A2, A3] using q),
   (by have q := h1.k14; simpa [hk_zu, A1, A2, A3] using q),
   (by have q := h1.kn; simpa [hk_zu, A1, A2, A3] using q)⟩, ?_, ?_, ?_, (fun i hi => by have hi2 : Z.1 0 ≤ i := (by simp [hk_zu] at hi; omega); rw [A2 _ (by simp) (by simp)]; exact n0 i (by omega)),
   (fun i hi => by have hi2 : Z.1 1 < i := (by simp [hk_zu] at hi; omega); rw [A2 _ (by simp) (by simp; omega)]; exact n1 i (by omega)),
   (fun i hi => by have hi2 : Z.1 2 ≤ i := (by simp [hk_zu] at hi; omega); rw [A2 _ (by simp) (by simp)]; exact n2 i (by omega)),
   (fun i hi => by have hi2 : Z.1 2 ≤ i := (by simp [hk_zu] at hi; omega); rw [A2 _ (by simp) (by simp)]; exact n3 i (by omega)),
   (fun i hi => by have hi2 : Z.1 2 ≤ i := (by simp [hk_zu] at hi; omega); rw [A2 _ (by simp) (by simp)]; exact n4 i (by omega)),
   (fun i hi => by have hi2 : Z.1 2 ≤ i := (by simp [hk_zu] at hi; omega); rw [A2 _ (by simp) (by simp)]; exact n5 i (by omega)),
   (by have q := m0; simpa [hk_zu, A1, A2, A3] using q),
   (by intro q; simp [hk_zu] at q),
   (by have q := m2; simpa [hk_zu, A1, A2, A3] using q)⟩
  · simp only [hk_M] at h2 ⊢
    simpa [A1, A2, A3] using h2
  · rw [A3 _ _ (by simp) (by simp) (by simp)]; exact h3
  · rw [A3 _ _ (by simp) (by simp) (by simp)]; exact h4
set_option maxHeartbeats 4000000 in
theorem hk_W.more2 {D : hk_D} {G G1 G2 : hk_G} {Z : hk_Z} {x y : Int64} {n a : Nat} {kc w : Nat} (hkc : kc = 9 ∨ kc = 3 ∨ kc = 2) (h : hk_W D G Z x y) (hz : Z.1 2 = n) (b1 : ∀ L, ¬ L = .inl (11, n) → ¬ L = .inl (12, n) → ¬ L = .inl (13, n) → ¬ L = .inl (14, n) → G1.1 L = G.1 L ∧ G1.2.1 L = G.2.1 L ∧ ∀ j, G1.2.2 L j = G.2.2 L j) (k0 : G1.2.1 (.inl (11, n)) = some (.inl 7)) (k1 : G1.2.1 (.inl (12, n)) = some (.inl kc)) (k2 : G1.2.1 (.inl (13, n)) = some (.inr (.inl w))) (k3 : G1.2.1 (.inl (14, n)) = some (.inr (.inl w))) (k4 : G1.2.2 (.inl (11, n)) 0 = .ref (G1.1 (.inl (12, n)))) (k5 : G1.2.2 (.inl (11, n)) 2 = .ref (G1.1 (.inl (13, n)))) (k6 : G1.2.2 (.inl (11, n)) 3 = .ref (G1.1 (.inl (14, n)))) (ha : G1.1 (.inl (11, n)) = a) (hg : hk_gr G1 G2 2 n a) : hk_W D G2 (hk_zk Z kc w) x y := by
  subst hz
  obtain ⟨h1, h2, h3, h4, n0, n1, n2, n3, n4, n5, m0, m1, m2⟩ := h
  obtain ⟨g1, g2, g3, g4, g5, g6, g7⟩ := hg
  have A1 : ∀ L, ¬ L = .inl (2, 2) → ¬ L = .inl (11, Z.1 2) → ¬ L = .inl (12, Z.1 2) → ¬ L = .inl (13, Z.1 2) → ¬ L = .inl (14, Z.1 2) → G2.1 L = G.1 L := fun L hq h11 h12 h13 h14 => (g5 L hq).1.trans (b1 L h11 h12 h13 h14).1
  have A2 : ∀ L, ¬ L = .inl (2, 2) → ¬ L = .inl (11, Z.1 2) → ¬ L = .inl (12, Z.1 2) → ¬ L = .inl (13, Z.1 2) → ¬ L = .inl (14, Z.1 2) → G2.2.1 L = G.2.1 L := fun L hq h11 h12 h13 h14 => (g5 L hq).2.trans (b1 L h11 h12 h13 h14).2.1
  have A3 : ∀ L j, ¬ L = .inl (2, 2) → ¬ L = .inl (11, Z.1 2) → ¬ L = .inl (12, Z.1 2) → ¬ L = .inl (13, Z.1 2) → ¬ L = .inl (14, Z.1 2) → ¬ (L = .inl (1, 2) ∧ j = 1) → G2.2.2 L j = G.2.2 L j := fun L j hq h11 h12 h13 h14 hz9 => (g7 L j hq hz9).trans ((b1 L h11 h12 h13 h14).2.2 j)
  have q0 : G2.2.1 (.inl (11, Z.1 2)) = some (.inl 7) := ((g5 _ (by simp)).2).trans k0
  have q1 : G2.2.1 (.inl (12, Z.1 2)) = some (.inl kc) := ((g5 _ (by simp)).2).trans k1
  have q2 : G2.2.1 (.inl (13, Z.1 2)) = some (.inr (.inl w)) := ((g5 _ (by simp)).2).trans k2
  have q3 : G2.2.1 (.inl (14, Z.1 2)) = some (.inr (.inl w)) := ((g5 _ (by simp)).2).trans k3
  have q4 : G2.2.2 (.inl (11, Z.1 2)) 0 = .ref (G2.1 (.inl (12, Z.1 2))) := by rw [g7 _ _ (by simp) (by simp), (g5 _ (by simp)).1]; exact k4
  have q5 : G2.2.2 (.inl (11, Z.1 2)) 2 = .ref (G2.1 (.inl (13, Z.1 2))) := by rw [g7 _ _ (by simp) (by simp), (g5 _ (by simp)).1]; exact k5
  have q6 : G2.2.2 (.inl (11, Z.1 2)) 3 = .ref (G2.1 (.inl (14, Z.1 2))) := by rw [g7 _ _ (by simp) (by simp), (g5 _ (by simp)).1]; exact k6
  have qa : G2.1 (.inl (11, Z.1 2)) = a := ((g5 _ (by simp)).1).trans ha
  refine ⟨⟨(by have q := h1.k0; simpa [hk_zk, A1, A2, A3] using q),
   (by have q := h1.r0_0; simpa [hk_zk, A1, A2, A3] using q),
   (by have q := h1.k1_0; simpa [hk_zk, A1, A2, A3] using q),
   (by have q := h1.e1_0; simpa [hk_zk, A1, A2, A3] using q),
   (by have q := h1.a1_0; simpa [hk_zk, A1, A2, A3] using q),
   (by have q := h1.k2_0; simpa [hk_zk, A1, A2, A3] using q),
   (by have q := h1.a2_0; simpa [hk_zk, A1, A2, A3] using q),
   (by have q := h1.r0_1; simpa [hk_zk, A1, A2, A3] using q),
   (by have q := h1.k1_1; simpa [hk_zk, A1, A2, A3] using q),
   (by have q := h1.e1_1; simpa [hk_zk, A1, A2, A3] using q),
   (by have q := h1.a1_1; simpa [hk_zk, A1, A2, A3] using q),
   (by have q := h1.k2_1; simpa [hk_zk, A1, A2, A3] using q),
   (by have q := h1.a2_1; simpa [hk_zk, A1, A2, A3] using q),
   (by have q := h1.r0_2; simpa [hk_zk, A1, A2, A3] using q),
   (by have q := h1.k1_2; simpa [hk_zk, A1, A2, A3] using q),
   (by intro q; simp [hk_zk] at q),
   (fun _ => g1),
   (fun _ => g2),
   (by
    intro i hi
    rcases Nat.lt_or_ge i (Z.1 2) with q | q
    · rw [g4 i q, (b1 _ (by simp) (by simp) (by simp) (by simp)).2.2, A1 _ (by simp) (by simp; omega) (by simp) (by simp) (by simp)]
      exact h1.a2_2 i q
    · have e : i = Z.1 2 := by simp [hk_zk] at hi; omega
      subst e
      rw [g3, qa]),
   (by have q := h1.r0_3; simpa [hk_zk, A1, A2, A3] using q),
   (by have q := h1.k3_0; simpa [hk_zk, A1, A2, A3] using q),
   (by have q := h1.r3; simpa [hk_zk, A1, A2, A3] using q),
   (by have q := h1.k3_1; simpa [hk_zk, A1, A2, A3] using q),
   (by have q := h1.r0_4; simpa [hk_zk, A1, A2, A3] using q),
   (by have q := h1.k4_0; simpa [hk_zk, A1, A2, A3] using q),
   (by have q := h1.r4_0; simpa [hk_zk, A1, A2, A3] using q),
   (by have q := h1.k4_1; simpa [hk_zk, A1, A2, A3] using q),
   (by have q := h1.r4_1; simpa [hk_zk, A1, A2, A3] using q),
   (by have q := h1.k4_2; simpa [hk_zk, A1, A2, A3] using q),
   (by have q := h1.r0_5; simpa [hk_zk, A1, A2, A3] using q),
   (by have q := h1.r0_6; simpa [hk_zk, A1, A2, A3] using q),
   (by have q := h1.k5; simpa [hk_zk, A1, A2, A3] using q),
   (by have q := h1.r5_0; simpa [hk_zk, A1, A2, A3] using q),
   (by have q := h1.k6; simpa [hk_zk, A1, A2, A3] using q),
   (by have q := h1.r5_1; simpa [hk_zk, A1, A2, A3] using q),
   (by have q := h1.k7; simpa [hk_zk, A1, A2, A3] using q),
   (by have q := h1.r0_7; simpa [hk_zk, A1, A2, A3] using q),
   (by have q := h1.k8_0; simpa [hk_zk, A1, A2, A3] using q),
   (by have q := h1.r8_0; simpa [hk_zk, A1, A2, A3] using q),
   (by have q := h1.k8_1; simpa [hk_zk, A1, A2, A3] using q),
   (by have q := h1.r8_1; simpa [hk_zk, A1, A2, A3] using q),
   (by have q := h1.k8_2; simpa [hk_zk, A1, A2, A3] using q),
   (by have q := h1.r8_2; simpa [hk_zk, A1, A2, A3] using q),
   (by have q := h1.k8_3; simpa [hk_zk, A1, A2, A3] using q),
   (by have q := h1.k9; simpa [hk_zk, A1, A2, A3] using q),
   (by have q := h1.k10; simpa [hk_zk, A1, A2, A3] using q),
   (by
    intro i hi
    rcases Nat.lt_or_ge i (Z.1 2) with q | q
    · rw [A2 _ (by simp) (by simp; omega) (by simp) (by simp) (by simp)]
      exact h1.k11 i q
    · have e : i = Z.1 2 := by simp [hk_zk] at hi; omega
      subst e
      exact q0),
   (by
    intro i hi
    rcases Nat.lt_or_ge i (Z.1 2) with q | q
    · rw [A3 _ _ (by simp) (by simp; omega) (by simp) (by simp) (by simp) (by simp), A1 _ (by simp) (by simp) (by simp; omega) (by simp) (by simp)]
      exact h1.r11_0 i q
    · have e : i = Z.1 2 := by simp [hk_zk] at hi; omega
      subst e
      exact q4),
   (by
    intro i hi
    rcases Nat.lt_or_ge i (Z.1 2) with q | q
    · rw [A3 _ _ (by simp) (by simp; omega) (by simp) (by simp) (by simp) (by simp), A1 _ (by simp) (by simp) (by simp) (by simp; omega) (by simp)]
      exact h1.r11_2 i q
    · have e : i = Z.1 2 := by simp [hk_zk] at hi; omega
      subst e
      exact q5),
   (by
    intro i hi
    rcases Nat.lt_or_ge i (Z.1 2) with q | q
    · rw [A3 _ _ (by simp) (by simp; omega) (by simp) (by simp) (by simp) (by simp), A1 _ (by simp) (by simp) (by simp) (by simp) (by simp; omega)]
      exact h1.r11_3 i q
    · have e : i = Z.1 2 := by simp [hk_zk] at hi; omega
      subst e
      exact q6),
   (by
    intro i hi
    rcases Nat.lt_or_ge i (Z.1 2) with q | q
    · rw [A2 _ (by simp) (by simp) (by simp; omega) (by simp) (by simp)]
      show _ = some (Sum.inl (if i = Z.1 2 then kc else Z.2.1 i)); rw [if_neg (by omega)]; exact h1.k12 i q
    · have e : i = Z.1 2 := by simp [hk_zk] at hi; omega
      subst e
      show _ = some (Sum.inl (if Z.1 2 = Z.1 2 then kc else Z.2.1 (Z.1 2))); rw [if_pos rfl]; exact q1),
   (by
    intro i hi
    rcases Nat.lt_or_ge i (Z.1 2) with q | q
    · rw [A2 _ (by simp) (by simp) (by simp) (by simp; omega) (by simp)]
      show _ = some (Sum.inr (Sum.inl (if i = Z.1 2 then w else Z.2.2 i))); rw [if_neg (by omega)]; exact h1.k13 i q
    · have e : i = Z.1 2 := by simp [hk_zk] at hi; omega
      subst e
      show _ = some (Sum.inr (Sum.inl (if Z.1 2 = Z.1 2 then w else Z.2.2 (Z.1 2)))); rw [if_pos rfl]; exact q2),
   (by
    intro i hi
    rcases Nat.lt_or_ge i (Z.1 2) with q | q
    · rw [A2 _ (by simp) (by simp) (by simp) (by simp) (by simp; omega)]
      show _ = some (Sum.inr (Sum.inl (if i = Z.1 2 then w else Z.2.2 i))); rw [if_neg (by omega)]; exact h1.k14 i q
    · have e : i = Z.1 2 := by simp [hk_zk] at hi; omega
      subst e
      show _ = some (Sum.inr (Sum.inl (if Z.1 2 = Z.1 2 then w else Z.2.2 (Z.1 2)))); rw [if_pos rfl]; exact q3),
   (by
    intro i hi
    show (if i = Z.1 2 then kc else Z.2.1 i) = 9 ∨ (if i = Z.1 2 then kc else Z.2.1 i) = 3 ∨ (if i = Z.1 2 then kc else Z.2.1 i) = 2
    by_cases e : i = Z.1 2
    · rw [if_pos e]; exact hkc
    · rw [if_neg e]
      exact h1.kn i (by simp [hk_zk] at hi; omega))⟩, ?_, ?_, ?_, (fun i hi => by have hi2 : Z.1 0 ≤ i := (by simp [hk_zk] at hi; omega); rw [A2 _ (by simp) (by simp) (by simp) (by simp) (by simp)]; exact n0 i (by omega)),
   (fun i hi => by have hi2 : Z.1 1 ≤ i := (by simp [hk_zk] at hi; omega); rw [A2 _ (by simp) (by simp) (by simp) (by simp) (by simp)]; exact n1 i (by omega)),
   (fun i hi => by have hi2 : Z.1 2 < i := (by simp [hk_zk] at hi; omega); rw [A2 _ (by simp) (by simp; omega) (by simp) (by simp) (by simp)]; exact n2 i (by omega)),
   (fun i hi => by have hi2 : Z.1 2 < i := (by simp [hk_zk] at hi; omega); rw [A2 _ (by simp) (by simp) (by simp; omega) (by simp) (by simp)]; exact n3 i (by omega)),
   (fun i hi => by have hi2 : Z.1 2 < i := (by simp [hk_zk] at hi; omega); rw [A2 _ (by simp) (by simp) (by simp) (by simp; omega) (by simp)]; exact n4 i (by omega)),
   (fun i hi => by have hi2 : Z.1 2 < i := (by simp [hk_zk] at hi; omega); rw [A2 _ (by simp) (by simp) (by simp) (by simp) (by simp; omega)]; exact n5 i (by omega)),
   (by have q := m0; simpa [hk_zk, A1, A2, A3] using q),
   (by have q := m1; simpa [hk_zk, A1, A2, A3] using q),
   (by intro q; simp [hk_zk] at q)⟩
  · simp only [hk_M] at h2 ⊢
    simpa [A1, A2, A3] using h2
  · rw [A3 _ _ (by simp) (by simp) (by simp) (by simp) (by simp) (by simp)]; exact h3
  · rw [A3 _ _ (by simp) (by simp) (by simp) (by simp) (by simp) (by simp)]; exact h4
