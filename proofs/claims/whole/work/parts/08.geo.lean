abbrev hk_Z : Type := (Nat → Nat) × ((Nat → Nat) × (Nat → Nat))
def hk_Y (D : hk_D) (G : hk_G) (Z : hk_Z) : Prop :=
  (G.2.1 (.inl (0, 0)) = some (.inl 11)) ∧
  (G.2.2 (.inl (0, 0)) 0 = .ref (G.1 (.inl (1, 0)))) ∧
  (G.2.1 (.inl (1, 0)) = some (.inl 0)) ∧
  (Z.1 0 = 0 → G.2.2 (.inl (1, 0)) 1 = .ref D.2.2) ∧
  (0 < Z.1 0 → G.2.2 (.inl (1, 0)) 1 = .ref (G.1 (.inl (2, 0)))) ∧
  (0 < Z.1 0 → G.2.1 (.inl (2, 0)) = some (.inr (.inr 10))) ∧
  (∀ i, i < Z.1 0 → G.2.2 (.inl (2, 0)) i = .ref (G.1 (.inl (9, i)))) ∧
  (G.2.2 (.inl (0, 0)) 1 = .ref (G.1 (.inl (1, 1)))) ∧
  (G.2.1 (.inl (1, 1)) = some (.inl 0)) ∧
  (Z.1 1 = 0 → G.2.2 (.inl (1, 1)) 1 = .ref D.2.2) ∧
  (0 < Z.1 1 → G.2.2 (.inl (1, 1)) 1 = .ref (G.1 (.inl (2, 1)))) ∧
  (0 < Z.1 1 → G.2.1 (.inl (2, 1)) = some (.inr (.inr 10))) ∧
  (∀ i, i < Z.1 1 → G.2.2 (.inl (2, 1)) i = .ref (G.1 (.inl (10, i)))) ∧
  (G.2.2 (.inl (0, 0)) 2 = .ref (G.1 (.inl (1, 2)))) ∧
  (G.2.1 (.inl (1, 2)) = some (.inl 0)) ∧
  (Z.1 2 = 0 → G.2.2 (.inl (1, 2)) 1 = .ref D.2.2) ∧
  (0 < Z.1 2 → G.2.2 (.inl (1, 2)) 1 = .ref (G.1 (.inl (2, 2)))) ∧
  (0 < Z.1 2 → G.2.1 (.inl (2, 2)) = some (.inr (.inr 10))) ∧
  (∀ i, i < Z.1 2 → G.2.2 (.inl (2, 2)) i = .ref (G.1 (.inl (11, i)))) ∧
  (G.2.2 (.inl (0, 0)) 3 = .ref (G.1 (.inl (3, 0)))) ∧
  (G.2.1 (.inl (3, 0)) = some (.inl 6)) ∧
  (G.2.2 (.inl (3, 0)) 0 = .ref (G.1 (.inl (3, 1)))) ∧
  (G.2.1 (.inl (3, 1)) = some (.inr (.inl 150))) ∧
  (G.2.2 (.inl (0, 0)) 4 = .ref (G.1 (.inl (4, 0)))) ∧
  (G.2.1 (.inl (4, 0)) = some (.inl 10)) ∧
  (G.2.2 (.inl (4, 0)) 0 = .ref (G.1 (.inl (4, 1)))) ∧
  (G.2.1 (.inl (4, 1)) = some (.inr (.inl 100))) ∧
  (G.2.2 (.inl (4, 0)) 1 = .ref (G.1 (.inl (4, 2)))) ∧
  (G.2.1 (.inl (4, 2)) = some (.inr (.inl 100))) ∧
  (G.2.2 (.inl (0, 0)) 5 = .ref (G.1 (.inl (5, 0)))) ∧
  (G.2.2 (.inl (0, 0)) 6 = .ref (G.1 (.inl (5, 1)))) ∧
  (∀ i, i < 2 → G.2.1 (.inl (5, i)) = some (.inl 8)) ∧
  (∀ i, i < 2 → G.2.2 (.inl (5, i)) 0 = .ref (G.1 (.inl (6, i)))) ∧
  (∀ i, i < 2 → G.2.1 (.inl (6, i)) = some (.inr (.inl 20))) ∧
  (∀ i, i < 2 → G.2.2 (.inl (5, i)) 1 = .ref (G.1 (.inl (7, i)))) ∧
  (∀ i, i < 2 → G.2.1 (.inl (7, i)) = some (.inr (.inl 20))) ∧
  (G.2.2 (.inl (0, 0)) 7 = .ref (G.1 (.inl (8, 0)))) ∧
  (G.2.1 (.inl (8, 0)) = some (.inl 1)) ∧
  (G.2.2 (.inl (8, 0)) 0 = .ref (G.1 (.inl (8, 1)))) ∧
  (G.2.1 (.inl (8, 1)) = some (.inr (.inl 64))) ∧
  (G.2.2 (.inl (8, 0)) 1 = .ref (G.1 (.inl (8, 2)))) ∧
  (G.2.1 (.inl (8, 2)) = some (.inr (.inl 64))) ∧
  (G.2.2 (.inl (8, 0)) 2 = .ref (G.1 (.inl (8, 3)))) ∧
  (G.2.1 (.inl (8, 3)) = some (.inr (.inl 64))) ∧
  (∀ i, i < Z.1 0 → G.2.1 (.inl (9, i)) = some (.inl 5)) ∧
  (∀ i, i < Z.1 1 → G.2.1 (.inl (10, i)) = some (.inl 4)) ∧
  (∀ i, i < Z.1 2 → G.2.1 (.inl (11, i)) = some (.inl 7)) ∧
  (∀ i, i < Z.1 2 → G.2.2 (.inl (11, i)) 0 = .ref (G.1 (.inl (12, i)))) ∧
  (∀ i, i < Z.1 2 → G.2.2 (.inl (11, i)) 2 = .ref (G.1 (.inl (13, i)))) ∧
  (∀ i, i < Z.1 2 → G.2.2 (.inl (11, i)) 3 = .ref (G.1 (.inl (14, i)))) ∧
  (∀ i, i < Z.1 2 → G.2.1 (.inl (12, i)) = some (.inl (Z.2.1 i))) ∧
  (∀ i, i < Z.1 2 → G.2.1 (.inl (13, i)) = some (.inr (.inl (Z.2.2 i)))) ∧
  (∀ i, i < Z.1 2 → G.2.1 (.inl (14, i)) = some (.inr (.inl (Z.2.2 i)))) ∧
  (∀ i, i < Z.1 2 → (Z.2.1 i = 9 ∨ Z.2.1 i = 3 ∨ Z.2.1 i = 2))
theorem hk_Y.k0 {D : hk_D} {G : hk_G} {Z : hk_Z} (h : hk_Y D G Z) : G.2.1 (.inl (0, 0)) = some (.inl 11) := h.1
theorem hk_Y.r0_0 {D : hk_D} {G : hk_G} {Z : hk_Z} (h : hk_Y D G Z) : G.2.2 (.inl (0, 0)) 0 = .ref (G.1 (.inl (1, 0))) := h.2.1
theorem hk_Y.k1_0 {D : hk_D} {G : hk_G} {Z : hk_Z} (h : hk_Y D G Z) : G.2.1 (.inl (1, 0)) = some (.inl 0) := h.2.2.1
theorem hk_Y.e1_0 {D : hk_D} {G : hk_G} {Z : hk_Z} (h : hk_Y D G Z) : Z.1 0 = 0 → G.2.2 (.inl (1, 0)) 1 = .ref D.2.2 := h.2.2.2.1
theorem hk_Y.a1_0 {D : hk_D} {G : hk_G} {Z : hk_Z} (h : hk_Y D G Z) : 0 < Z.1 0 → G.2.2 (.inl (1, 0)) 1 = .ref (G.1 (.inl (2, 0))) := h.2.2.2.2.1
theorem hk_Y.k2_0 {D : hk_D} {G : hk_G} {Z : hk_Z} (h : hk_Y D G Z) : 0 < Z.1 0 → G.2.1 (.inl (2, 0)) = some (.inr (.inr 10)) := h.2.2.2.2.2.1
theorem hk_Y.a2_0 {D : hk_D} {G : hk_G} {Z : hk_Z} (h : hk_Y D G Z) : ∀ i, i < Z.1 0 → G.2.2 (.inl (2, 0)) i = .ref (G.1 (.inl (9, i))) := h.2.2.2.2.2.2.1
theorem hk_Y.r0_1 {D : hk_D} {G : hk_G} {Z : hk_Z} (h : hk_Y D G Z) : G.2.2 (.inl (0, 0)) 1 = .ref (G.1 (.inl (1, 1))) := h.2.2.2.2.2.2.2.1
theorem hk_Y.k1_1 {D : hk_D} {G : hk_G} {Z : hk_Z} (h : hk_Y D G Z) : G.2.1 (.inl (1, 1)) = some (.inl 0) := h.2.2.2.2.2.2.2.2.1
theorem hk_Y.e1_1 {D : hk_D} {G : hk_G} {Z : hk_Z} (h : hk_Y D G Z) : Z.1 1 = 0 → G.2.2 (.inl (1, 1)) 1 = .ref D.2.2 := h.2.2.2.2.2.2.2.2.2.1
theorem hk_Y.a1_1 {D : hk_D} {G : hk_G} {Z : hk_Z} (h : hk_Y D G Z) : 0 < Z.1 1 → G.2.2 (.inl (1, 1)) 1 = .ref (G.1 (.inl (2, 1))) := h.2.2.2.2.2.2.2.2.2.2.1
theorem hk_Y.k2_1 {D : hk_D} {G : hk_G} {Z : hk_Z} (h : hk_Y D G Z) : 0 < Z.1 1 → G.2.1 (.inl (2, 1)) = some (.inr (.inr 10)) := h.2.2.2.2.2.2.2.2.2.2.2.1
theorem hk_Y.a2_1 {D : hk_D} {G : hk_G} {Z : hk_Z} (h : hk_Y D G Z) : ∀ i, i < Z.1 1 → G.2.2 (.inl (2, 1)) i = .ref (G.1 (.inl (10, i))) := h.2.2.2.2.2.2.2.2.2.2.2.2.1
theorem hk_Y.r0_2 {D : hk_D} {G : hk_G} {Z : hk_Z} (h : hk_Y D G Z) : G.2.2 (.inl (0, 0)) 2 = .ref (G.1 (.inl (1, 2))) := h.2.2.2.2.2.2.2.2.2.2.2.2.2.1
theorem hk_Y.k1_2 {D : hk_D} {G : hk_G} {Z : hk_Z} (h : hk_Y D G Z) : G.2.1 (.inl (1, 2)) = some (.inl 0) := h.2.2.2.2.2.2.2.2.2.2.2.2.2.2.1
theorem hk_Y.e1_2 {D : hk_D} {G : hk_G} {Z : hk_Z} (h : hk_Y D G Z) : Z.1 2 = 0 → G.2.2 (.inl (1, 2)) 1 = .ref D.2.2 := h.2.2.2.2.2.2.2.2.2.2.2.2.2.2.2.1
theorem hk_Y.a1_2 {D : hk_D} {G : hk_G} {Z : hk_Z} (h : hk_Y D G Z) : 0 < Z.1 2 → G.2.2 (.inl (1, 2)) 1 = .ref (G.1 (.inl (2, 2))) := h.2.2.2.2.2.2.2.2.2.2.2.2.2.2.2.2.1
theorem hk_Y.k2_2 {D : hk_D} {G : hk_G} {Z : hk_Z} (h : hk_Y D G Z) : 0 < Z.1 2 → G.2.1 (.inl (2, 2)) = some (.inr (.inr 10)) := h.2.2.2.2.2.2.2.2.2.2.2.2.2.2.2.2.2.1
theorem hk_Y.a2_2 {D : hk_D} {G : hk_G} {Z : hk_Z} (h : hk_Y D G Z) : ∀ i, i < Z.1 2 → G.2.2 (.inl (2, 2)) i = .ref (G.1 (.inl (11, i))) := h.2.2.2.2.2.2.2.2.2.2.2.2.2.2.2.2.2.2.1
theorem hk_Y.r0_3 {D : hk_D} {G : hk_G} {Z : hk_Z} (h : hk_Y D G Z) : G.2.2 (.inl (0, 0)) 3 = .ref (G.1 (.inl (3, 0))) := h.2.2.2.2.2.2.2.2.2.2.2.2.2.2.2.2.2.2.2.1
theorem hk_Y.k3_0 {D : hk_D} {G : hk_G} {Z : hk_Z} (h : hk_Y D G Z) : G.2.1 (.inl (3, 0)) = some (.inl 6) := h.2.2.2.2.2.2.2.2.2.2.2.2.2.2.2.2.2.2.2.2.1
theorem hk_Y.r3 {D : hk_D} {G : hk_G} {Z : hk_Z} (h : hk_Y D G Z) : G.2.2 (.inl (3, 0)) 0 = .ref (G.1 (.inl (3, 1))) := h.2.2.2.2.2.2.2.2.2.2.2.2.2.2.2.2.2.2.2.2.2.1
theorem hk_Y.k3_1 {D : hk_D} {G : hk_G} {Z : hk_Z} (h : hk_Y D G Z) : G.2.1 (.inl (3, 1)) = some (.inr (.inl 150)) := h.2.2.2.2.2.2.2.2.2.2.2.2.2.2.2.2.2.2.2.2.2.2.1
theorem hk_Y.r0_4 {D : hk_D} {G : hk_G} {Z : hk_Z} (h : hk_Y D G Z) : G.2.2 (.inl (0, 0)) 4 = .ref (G.1 (.inl (4, 0))) := h.2.2.2.2.2.2.2.2.2.2.2.2.2.2.2.2.2.2.2.2.2.2.2.1
theorem hk_Y.k4_0 {D : hk_D} {G : hk_G} {Z : hk_Z} (h : hk_Y D G Z) : G.2.1 (.inl (4, 0)) = some (.inl 10) := h.2.2.2.2.2.2.2.2.2.2.2.2.2.2.2.2.2.2.2.2.2.2.2.2.1
theorem hk_Y.r4_0 {D : hk_D} {G : hk_G} {Z : hk_Z} (h : hk_Y D G Z) : G.2.2 (.inl (4, 0)) 0 = .ref (G.1 (.inl (4, 1))) := h.2.2.2.2.2.2.2.2.2.2.2.2.2.2.2.2.2.2.2.2.2.2.2.2.2.1
theorem hk_Y.k4_1 {D : hk_D} {G : hk_G} {Z : hk_Z} (h : hk_Y D G Z) : G.2.1 (.inl (4, 1)) = some (.inr (.inl 100)) := h.2.2.2.2.2.2.2.2.2.2.2.2.2.2.2.2.2.2.2.2.2.2.2.2.2.2.1
theorem hk_Y.r4_1 {D : hk_D} {G : hk_G} {Z : hk_Z} (h : hk_Y D G Z) : G.2.2 (.inl (4, 0)) 1 = .ref (G.1 (.inl (4, 2))) := h.2.2.2.2.2.2.2.2.2.2.2.2.2.2.2.2.2.2.2.2.2.2.2.2.2.2.2.1
theorem hk_Y.k4_2 {D : hk_D} {G : hk_G} {Z : hk_Z} (h : hk_Y D G Z) : G.2.1 (.inl (4, 2)) = some (.inr (.inl 100)) := h.2.2.2.2.2.2.2.2.2.2.2.2.2.2.2.2.2.2.2.2.2.2.2.2.2.2.2.2.1
theorem hk_Y.r0_5 {D : hk_D} {G : hk_G} {Z : hk_Z} (h : hk_Y D G Z) : G.2.2 (.inl (0, 0)) 5 = .ref (G.1 (.inl (5, 0))) := h.2.2.2.2.2.2.2.2.2.2.2.2.2.2.2.2.2.2.2.2.2.2.2.2.2.2.2.2.2.1
theorem hk_Y.r0_6 {D : hk_D} {G : hk_G} {Z : hk_Z} (h : hk_Y D G Z) : G.2.2 (.inl (0, 0)) 6 = .ref (G.1 (.inl (5, 1))) := h.2.2.2.2.2.2.2.2.2.2.2.2.2.2.2.2.2.2.2.2.2.2.2.2.2.2.2.2.2.2.1
theorem hk_Y.k5 {D : hk_D} {G : hk_G} {Z : hk_Z} (h : hk_Y D G Z) : ∀ i, i < 2 → G.2.1 (.inl (5, i)) = some (.inl 8) := h.2.2.2.2.2.2.2.2.2.2.2.2.2.2.2.2.2.2.2.2.2.2.2.2.2.2.2.2.2.2.2.1
theorem hk_Y.r5_0 {D : hk_D} {G : hk_G} {Z : hk_Z} (h : hk_Y D G Z) : ∀ i, i < 2 → G.2.2 (.inl (5, i)) 0 = .ref (G.1 (.inl (6, i))) := h.2.2.2.2.2.2.2.2.2.2.2.2.2.2.2.2.2.2.2.2.2.2.2.2.2.2.2.2.2.2.2.2.1
theorem hk_Y.k6 {D : hk_D} {G : hk_G} {Z : hk_Z} (h : hk_Y D G Z) : ∀ i, i < 2 → G.2.1 (.inl (6, i)) = some (.inr (.inl 20)) := h.2.2.2.2.2.2.2.2.2.2.2.2.2.2.2.2.2.2.2.2.2.2.2.2.2.2.2.2.2.2.2.2.2.1
theorem hk_Y.r5_1 {D : hk_D} {G : hk_G} {Z : hk_Z} (h : hk_Y D G Z) : ∀ i, i < 2 → G.2.2 (.inl (5, i)) 1 = .ref (G.1 (.inl (7, i))) := h.2.2.2.2.2.2.2.2.2.2.2.2.2.2.2.2.2.2.2.2.2.2.2.2.2.2.2.2.2.2.2.2.2.2.1
theorem hk_Y.k7 {D : hk_D} {G : hk_G} {Z : hk_Z} (h : hk_Y D G Z) : ∀ i, i < 2 → G.2.1 (.inl (7, i)) = some (.inr (.inl 20)) := h.2.2.2.2.2.2.2.2.2.2.2.2.2.2.2.2.2.2.2.2.2.2.2.2.2.2.2.2.2.2.2.2.2.2.2.1
theorem hk_Y.r0_7 {D : hk_D} {G : hk_G} {Z : hk_Z} (h : hk_Y D G Z) : G.2.2 (.inl (0, 0)) 7 = .ref (G.1 (.inl (8, 0))) := h.2.2.2.2.2.2.2.2.2.2.2.2.2.2.2.2.2.2.2.2.2.2.2.2.2.2.2.2.2.2.2.2.2.2.2.2.1
theorem hk_Y.k8_0 {D : hk_D} {G : hk_G} {Z : hk_Z} (h : hk_Y D G Z) : G.2.1 (.inl (8, 0)) = some (.inl 1) := h.2.2.2.2.2.2.2.2.2.2.2.2.2.2.2.2.2.2.2.2.2.2.2.2.2.2.2.2.2.2.2.2.2.2.2.2.2.1
theorem hk_Y.r8_0 {D : hk_D} {G : hk_G} {Z : hk_Z} (h : hk_Y D G Z) : G.2.2 (.inl (8, 0)) 0 = .ref (G.1 (.inl (8, 1))) := h.2.2.2.2.2.2.2.2.2.2.2.2.2.2.2.2.2.2.2.2.2.2.2.2.2.2.2.2.2.2.2.2.2.2.2.2.2.2.1
theorem hk_Y.k8_1 {D : hk_D} {G : hk_G} {Z : hk_Z} (h : hk_Y D G Z) : G.2.1 (.inl (8, 1)) = some (.inr (.inl 64)) := h.2.2.2.2.2.2.2.2.2.2.2.2.2.2.2.2.2.2.2.2.2.2.2.2.2.2.2.2.2.2.2.2.2.2.2.2.2.2.2.1
theorem hk_Y.r8_1 {D : hk_D} {G : hk_G} {Z : hk_Z} (h : hk_Y D G Z) : G.2.2 (.inl (8, 0)) 1 = .ref (G.1 (.inl (8, 2))) := h.2.2.2.2.2.2.2.2.2.2.2.2.2.2.2.2.2.2.2.2.2.2.2.2.2.2.2.2.2.2.2.2.2.2.2.2.2.2.2.2.1
theorem hk_Y.k8_2 {D : hk_D} {G : hk_G} {Z : hk_Z} (h : hk_Y D G Z) : G.2.1 (.inl (8, 2)) = some (.inr (.inl 64)) := h.2.2.2.2.2.2.2.2.2.2.2.2.2.2.2.2.2.2.2.2.2.2.2.2.2.2.2.2.2.2.2.2.2.2.2.2.2.2.2.2.2.1
theorem hk_Y.r8_2 {D : hk_D} {G : hk_G} {Z : hk_Z} (h : hk_Y D G Z) : G.2.2 (.inl (8, 0)) 2 = .ref (G.1 (.inl (8, 3))) := h.2.2.2.2.2.2.2.2.2.2.2.2.2.2.2.2.2.2.2.2.2.2.2.2.2.2.2.2.2.2.2.2.2.2.2.2.2.2.2.2.2.2.1
theorem hk_Y.k8_3 {D : hk_D} {G : hk_G} {Z : hk_Z} (h : hk_Y D G Z) : G.2.1 (.inl (8, 3)) = some (.inr (.inl 64)) := h.2.2.2.2.2.2.2.2.2.2.2.2.2.2.2.2.2.2.2.2.2.2.2.2.2.2.2.2.2.2.2.2.2.2.2.2.2.2.2.2.2.2.2.1
theorem hk_Y.k9 {D : hk_D} {G : hk_G} {Z : hk_Z} (h : hk_Y D G Z) : ∀ i, i < Z.1 0 → G.2.1 (.inl (9, i)) = some (.inl 5) := h.2.2.2.2.2.2.2.2.2.2.2.2.2.2.2.2.2.2.2.2.2.2.2.2.2.2.2.2.2.2.2.2.2.2.2.2.2.2.2.2.2.2.2.2.1
theorem hk_Y.k10 {D : hk_D} {G : hk_G} {Z : hk_Z} (h : hk_Y D G Z) : ∀ i, i < Z.1 1 → G.2.1 (.inl (10, i)) = some (.inl 4) := h.2.2.2.2.2.2.2.2.2.2.2.2.2.2.2.2.2.2.2.2.2.2.2.2.2.2.2.2.2.2.2.2.2.2.2.2.2.2.2.2.2.2.2.2.2.1
theorem hk_Y.k11 {D : hk_D} {G : hk_G} {Z : hk_Z} (h : hk_Y D G Z) : ∀ i, i < Z.1 2 → G.2.1 (.inl (11, i)) = some (.inl 7) := h.2.2.2.2.2.2.2.2.2.2.2.2.2.2.2.2.2.2.2.2.2.2.2.2.2.2.2.2.2.2.2.2.2.2.2.2.2.2.2.2.2.2.2.2.2.2.1
theorem hk_Y.r11_0 {D : hk_D} {G : hk_G} {Z : hk_Z} (h : hk_Y D G Z) : ∀ i, i < Z.1 2 → G.2.2 (.inl (11, i)) 0 = .ref (G.1 (.inl (12, i))) := h.2.2.2.2.2.2.2.2.2.2.2.2.2.2.2.2.2.2.2.2.2.2.2.2.2.2.2.2.2.2.2.2.2.2.2.2.2.2.2.2.2.2.2.2.2.2.2.1
theorem hk_Y.r11_2 {D : hk_D} {G : hk_G} {Z : hk_Z} (h : hk_Y D G Z) : ∀ i, i < Z.1 2 → G.2.2 (.inl (11, i)) 2 = .ref (G.1 (.inl (13, i))) := h.2.2.2.2.2.2.2.2.2.2.2.2.2.2.2.2.2.2.2.2.2.2.2.2.2.2.2.2.2.2.2.2.2.2.2.2.2.2.2.2.2.2.2.2.2.2.2.2.1
theorem hk_Y.r11_3 {D : hk_D} {G : hk_G} {Z : hk_Z} (h : hk_Y D G Z) : ∀ i, i < Z.1 2 → G.2.2 (.inl (11, i)) 3 = .ref (G.1 (.inl (14, i))) := h.2.2.2.2.2.2.2.2.2.2.2.2.2.2.2.2.2.2.2.2.2.2.2.2.2.2.2.2.2.2.2.2.2.2.2.2.2.2.2.2.2.2.2.2.2.2.2.2.2.1
theorem hk_Y.k12 {D : hk_D} {G : hk_G} {Z : hk_Z} (h : hk_Y D G Z) : ∀ i, i < Z.1 2 → G.2.1 (.inl (12, i)) = some (.inl (Z.2.1 i)) := h.2.2.2.2.2.2.2.2.2.2.2.2.2.2.2.2.2.2.2.2.2.2.2.2.2.2.2.2.2.2.2.2.2.2.2.2.2.2.2.2.2.2.2.2.2.2.2.2.2.2.1
theorem hk_Y.k13 {D : hk_D} {G : hk_G} {Z : hk_Z} (h : hk_Y D G Z) : ∀ i, i < Z.1 2 → G.2.1 (.inl (13, i)) = some (.inr (.inl (Z.2.2 i))) := h.2.2.2.2.2.2.2.2.2.2.2.2.2.2.2.2.2.2.2.2.2.2.2.2.2.2.2.2.2.2.2.2.2.2.2.2.2.2.2.2.2.2.2.2.2.2.2.2.2.2.2.1
theorem hk_Y.k14 {D : hk_D} {G : hk_G} {Z : hk_Z} (h : hk_Y D G Z) : ∀ i, i < Z.1 2 → G.2.1 (.inl (14, i)) = some (.inr (.inl (Z.2.2 i))) := h.2.2.2.2.2.2.2.2.2.2.2.2.2.2.2.2.2.2.2.2.2.2.2.2.2.2.2.2.2.2.2.2.2.2.2.2.2.2.2.2.2.2.2.2.2.2.2.2.2.2.2.2.1
theorem hk_Y.kn {D : hk_D} {G : hk_G} {Z : hk_Z} (h : hk_Y D G Z) : ∀ i, i < Z.1 2 → (Z.2.1 i = 9 ∨ Z.2.1 i = 3 ∨ Z.2.1 i = 2) := h.2.2.2.2.2.2.2.2.2.2.2.2.2.2.2.2.2.2.2.2.2.2.2.2.2.2.2.2.2.2.2.2.2.2.2.2.2.2.2.2.2.2.2.2.2.2.2.2.2.2.2.2.2
def hk_M (G : hk_G) : Prop :=
  (G.2.1 (.inr (0, 0)) = some (.inl 12)) ∧
  (G.2.2 (.inr (0, 0)) 3 = .ref (G.1 (.inr (1, 3)))) ∧
  (G.2.1 (.inr (1, 3)) = some (.inr (.inl 6))) ∧
  (G.2.2 (.inr (0, 0)) 4 = .ref (G.1 (.inr (1, 4)))) ∧
  (G.2.1 (.inr (1, 4)) = some (.inr (.inl 6))) ∧
  (G.2.2 (.inr (0, 0)) 5 = .ref (G.1 (.inr (1, 5)))) ∧
  (G.2.1 (.inr (1, 5)) = some (.inr (.inl 6))) ∧
  (G.2.2 (.inr (0, 0)) 6 = .ref (G.1 (.inr (1, 6)))) ∧
  (G.2.1 (.inr (1, 6)) = some (.inr (.inl 6))) ∧
  (G.2.2 (.inr (0, 0)) 7 = .ref (G.1 (.inr (1, 7)))) ∧
  (G.2.1 (.inr (1, 7)) = some (.inr (.inl 6))) ∧
  (G.2.2 (.inr (0, 0)) 8 = .ref (G.1 (.inr (1, 8)))) ∧
  (G.2.1 (.inr (1, 8)) = some (.inr (.inl 6))) ∧
  (G.2.2 (.inr (0, 0)) 10 = .ref (G.1 (.inr (1, 10)))) ∧
  (G.2.1 (.inr (1, 10)) = some (.inr (.inl 6))) ∧
  (G.2.2 (.inr (0, 0)) 11 = .ref (G.1 (.inr (1, 11)))) ∧
  (G.2.1 (.inr (1, 11)) = some (.inr (.inl 6))) ∧
  (G.2.2 (.inr (0, 0)) 12 = .ref (G.1 (.inr (1, 12)))) ∧
  (G.2.1 (.inr (1, 12)) = some (.inr (.inl 6))) ∧
  (G.2.2 (.inr (0, 0)) 13 = .ref (G.1 (.inr (1, 13)))) ∧
  (G.2.1 (.inr (1, 13)) = some (.inr (.inl 6))) ∧
  (G.2.2 (.inr (0, 0)) 14 = .ref (G.1 (.inr (1, 14)))) ∧
  (G.2.1 (.inr (1, 14)) = some (.inr (.inl 6))) ∧
  (G.2.2 (.inr (0, 0)) 15 = .ref (G.1 (.inr (1, 15)))) ∧
  (G.2.1 (.inr (1, 15)) = some (.inr (.inl 6))) ∧
  (G.2.2 (.inr (0, 0)) 16 = .ref (G.1 (.inr (1, 16)))) ∧
  (G.2.1 (.inr (1, 16)) = some (.inr (.inl 2886))) ∧
  (G.2.2 (.inr (0, 0)) 18 = .ref (G.1 (.inr (1, 18)))) ∧
  (G.2.1 (.inr (1, 18)) = some (.inr (.inl 4))) ∧
  (G.2.2 (.inr (0, 0)) 19 = .ref (G.1 (.inr (1, 19)))) ∧
  (G.2.1 (.inr (1, 19)) = some (.inr (.inl 4))) ∧
  (G.2.2 (.inr (0, 0)) 20 = .ref (G.1 (.inr (1, 20)))) ∧
  (G.2.1 (.inr (1, 20)) = some (.inr (.inl 4))) ∧
  (G.2.2 (.inr (0, 0)) 21 = .ref (G.1 (.inr (1, 21)))) ∧
  (G.2.1 (.inr (1, 21)) = some (.inr (.inl 4))) ∧
  (G.2.2 (.inr (0, 0)) 22 = .ref (G.1 (.inr (1, 22)))) ∧
  (G.2.1 (.inr (1, 22)) = some (.inr (.inl 4))) ∧
  (G.2.2 (.inr (0, 0)) 23 = .ref (G.1 (.inr (1, 23)))) ∧
  (G.2.1 (.inr (1, 23)) = some (.inr (.inl 800))) ∧
  (G.2.2 (.inr (0, 0)) 25 = .ref (G.1 (.inr (1, 25)))) ∧
  (G.2.1 (.inr (1, 25)) = some (.inr (.inl 100))) ∧
  (G.2.2 (.inr (0, 0)) 26 = .ref (G.1 (.inr (1, 26)))) ∧
  (G.2.1 (.inr (1, 26)) = some (.inr (.inl 100))) ∧
  (G.2.2 (.inr (0, 0)) 30 = .ref (G.1 (.inr (1, 30)))) ∧
  (G.2.1 (.inr (1, 30)) = some (.inr (.inl 20))) ∧
  (G.2.2 (.inr (0, 0)) 31 = .ref (G.1 (.inr (1, 31)))) ∧
  (G.2.1 (.inr (1, 31)) = some (.inr (.inl 20))) ∧
  (G.2.2 (.inr (0, 0)) 33 = .ref (G.1 (.inr (1, 33)))) ∧
  (G.2.1 (.inr (1, 33)) = some (.inr (.inl 20))) ∧
  (G.2.2 (.inr (0, 0)) 34 = .ref (G.1 (.inr (1, 34)))) ∧
  (G.2.1 (.inr (1, 34)) = some (.inr (.inl 20))) ∧
  (G.2.2 (.inr (0, 0)) 36 = .ref (G.1 (.inr (1, 36)))) ∧
  (G.2.1 (.inr (1, 36)) = some (.inr (.inl 7)))
theorem hk_M.k0 {G : hk_G} (h : hk_M G) : G.2.1 (.inr (0, 0)) = some (.inl 12) := h.1
theorem hk_M.r3 {G : hk_G} (h : hk_M G) : G.2.2 (.inr (0, 0)) 3 = .ref (G.1 (.inr (1, 3))) := h.2.1
theorem hk_M.k3 {G : hk_G} (h : hk_M G) : G.2.1 (.inr (1, 3)) = some (.inr (.inl 6)) := h.2.2.1
theorem hk_M.r4 {G : hk_G} (h : hk_M G) : G.2.2 (.inr (0, 0)) 4 = .ref (G.1 (.inr (1, 4))) := h.2.2.2.1
theorem hk_M.k4 {G : hk_G} (h : hk_M G) : G.2.1 (.inr (1, 4)) = some (.inr (.inl 6)) := h.2.2.2.2.1
theorem hk_M.r5 {G : hk_G} (h : hk_M G) : G.2.2 (.inr (0, 0)) 5 = .ref (G.1 (.inr (1, 5))) := h.2.2.2.2.2.1
theorem hk_M.k5 {G : hk_G} (h : hk_M G) : G.2.1 (.inr (1, 5)) = some (.inr (.inl 6)) := h.2.2.2.2.2.2.1
theorem hk_M.r6 {G : hk_G} (h : hk_M G) : G.2.2 (.inr (0, 0)) 6 = .ref (G.1 (.inr (1, 6))) := h.2.2.2.2.2.2.2.1
theorem hk_M.k6 {G : hk_G} (h : hk_M G) : G.2.1 (.inr (1, 6)) = some (.inr (.inl 6)) := h.2.2.2.2.2.2.2.2.1
theorem hk_M.r7 {G : hk_G} (h : hk_M G) : G.2.2 (.inr (0, 0)) 7 = .ref (G.1 (.inr (1, 7))) := h.2.2.2.2.2.2.2.2.2.1
theorem hk_M.k7 {G : hk_G} (h : hk_M G) : G.2.1 (.inr (1, 7)) = some (.inr (.inl 6)) := h.2.2.2.2.2.2.2.2.2.2.1
theorem hk_M.r8 {G : hk_G} (h : hk_M G) : G.2.2 (.inr (0, 0)) 8 = .ref (G.1 (.inr (1, 8))) := h.2.2.2.2.2.2.2.2.2.2.2.1
theorem hk_M.k8 {G : hk_G} (h : hk_M G) : G.2.1 (.inr (1, 8)) = some (.inr (.inl 6)) := h.2.2.2.2.2.2.2.2.2.2.2.2.1
theorem hk_M.r10 {G : hk_G} (h : hk_M G) : G.2.2 (.inr (0, 0)) 10 = .ref (G.1 (.inr (1, 10))) := h.2.2.2.2.2.2.2.2.2.2.2.2.2.1
theorem hk_M.k10 {G : hk_G} (h : hk_M G) : G.2.1 (.inr (1, 10)) = some (.inr (.inl 6)) := h.2.2.2.2.2.2.2.2.2.2.2.2.2.2.1
theorem hk_M.r11 {G : hk_G} (h : hk_M G) : G.2.2 (.inr (0, 0)) 11 = .ref (G.1 (.inr (1, 11))) := h.2.2.2.2.2.2.2.2.2.2.2.2.2.2.2.1
theorem hk_M.k11 {G : hk_G} (h : hk_M G) : G.2.1 (.inr (1, 11)) = some (.inr (.inl 6)) := h.2.2.2.2.2.2.2.2.2.2.2.2.2.2.2.2.1
theorem hk_M.r12 {G : hk_G} (h : hk_M G) : G.2.2 (.inr (0, 0)) 12 = .ref (G.1 (.inr (1, 12))) := h.2.2.2.2.2.2.2.2.2.2.2.2.2.2.2.2.2.1
theorem hk_M.k12 {G : hk_G} (h : hk_M G) : G.2.1 (.inr (1, 12)) = some (.inr (.inl 6)) := h.2.2.2.2.2.2.2.2.2.2.2.2.2.2.2.2.2.2.1
theorem hk_M.r13 {G : hk_G} (h : hk_M G) : G.2.2 (.inr (0, 0)) 13 = .ref (G.1 (.inr (1, 13))) := h.2.2.2.2.2.2.2.2.2.2.2.2.2.2.2.2.2.2.2.1
theorem hk_M.k13 {G : hk_G} (h : hk_M G) : G.2.1 (.inr (1, 13)) = some (.inr (.inl 6)) := h.2.2.2.2.2.2.2.2.2.2.2.2.2.2.2.2.2.2.2.2.1
theorem hk_M.r14 {G : hk_G} (h : hk_M G) : G.2.2 (.inr (0, 0)) 14 = .ref (G.1 (.inr (1, 14))) := h.2.2.2.2.2.2.2.2.2.2.2.2.2.2.2.2.2.2.2.2.2.1
theorem hk_M.k14 {G : hk_G} (h : hk_M G) : G.2.1 (.inr (1, 14)) = some (.inr (.inl 6)) := h.2.2.2.2.2.2.2.2.2.2.2.2.2.2.2.2.2.2.2.2.2.2.1
theorem hk_M.r15 {G : hk_G} (h : hk_M G) : G.2.2 (.inr (0, 0)) 15 = .ref (G.1 (.inr (1, 15))) := h.2.2.2.2.2.2.2.2.2.2.2.2.2.2.2.2.2.2.2.2.2.2.2.1
theorem hk_M.k15 {G : hk_G} (h : hk_M G) : G.2.1 (.inr (1, 15)) = some (.inr (.inl 6)) := h.2.2.2.2.2.2.2.2.2.2.2.2.2.2.2.2.2.2.2.2.2.2.2.2.1
theorem hk_M.r16 {G : hk_G} (h : hk_M G) : G.2.2 (.inr (0, 0)) 16 = .ref (G.1 (.inr (1, 16))) := h.2.2.2.2.2.2.2.2.2.2.2.2.2.2.2.2.2.2.2.2.2.2.2.2.2.1
theorem hk_M.k16 {G : hk_G} (h : hk_M G) : G.2.1 (.inr (1, 16)) = some (.inr (.inl 2886)) := h.2.2.2.2.2.2.2.2.2.2.2.2.2.2.2.2.2.2.2.2.2.2.2.2.2.2.1
theorem hk_M.r18 {G : hk_G} (h : hk_M G) : G.2.2 (.inr (0, 0)) 18 = .ref (G.1 (.inr (1, 18))) := h.2.2.2.2.2.2.2.2.2.2.2.2.2.2.2.2.2.2.2.2.2.2.2.2.2.2.2.1
theorem hk_M.k18 {G : hk_G} (h : hk_M G) : G.2.1 (.inr (1, 18)) = some (.inr (.inl 4)) := h.2.2.2.2.2.2.2.2.2.2.2.2.2.2.2.2.2.2.2.2.2.2.2.2.2.2.2.2.1
theorem hk_M.r19 {G : hk_G} (h : hk_M G) : G.2.2 (.inr (0, 0)) 19 = .ref (G.1 (.inr (1, 19))) := h.2.2.2.2.2.2.2.2.2.2.2.2.2.2.2.2.2.2.2.2.2.2.2.2.2.2.2.2.2.1
theorem hk_M.k19 {G : hk_G} (h : hk_M G) : G.2.1 (.inr (1, 19)) = some (.inr (.inl 4)) := h.2.2.2.2.2.2.2.2.2.2.2.2.2.2.2.2.2.2.2.2.2.2.2.2.2.2.2.2.2.2.1
theorem hk_M.r20 {G : hk_G} (h : hk_M G) : G.2.2 (.inr (0, 0)) 20 = .ref (G.1 (.inr (1, 20))) := h.2.2.2.2.2.2.2.2.2.2.2.2.2.2.2.2.2.2.2.2.2.2.2.2.2.2.2.2.2.2.2.1
theorem hk_M.k20 {G : hk_G} (h : hk_M G) : G.2.1 (.inr (1, 20)) = some (.inr (.inl 4)) := h.2.2.2.2.2.2.2.2.2.2.2.2.2.2.2.2.2.2.2.2.2.2.2.2.2.2.2.2.2.2.2.2.1
theorem hk_M.r21 {G : hk_G} (h : hk_M G) : G.2.2 (.inr (0, 0)) 21 = .ref (G.1 (.inr (1, 21))) := h.2.2.2.2.2.2.2.2.2.2.2.2.2.2.2.2.2.2.2.2.2.2.2.2.2.2.2.2.2.2.2.2.2.1
theorem hk_M.k21 {G : hk_G} (h : hk_M G) : G.2.1 (.inr (1, 21)) = some (.inr (.inl 4)) := h.2.2.2.2.2.2.2.2.2.2.2.2.2.2.2.2.2.2.2.2.2.2.2.2.2.2.2.2.2.2.2.2.2.2.1
theorem hk_M.r22 {G : hk_G} (h : hk_M G) : G.2.2 (.inr (0, 0)) 22 = .ref (G.1 (.inr (1, 22))) := h.2.2.2.2.2.2.2.2.2.2.2.2.2.2.2.2.2.2.2.2.2.2.2.2.2.2.2.2.2.2.2.2.2.2.2.1
theorem hk_M.k22 {G : hk_G} (h : hk_M G) : G.2.1 (.inr (1, 22)) = some (.inr (.inl 4)) := h.2.2.2.2.2.2.2.2.2.2.2.2.2.2.2.2.2.2.2.2.2.2.2.2.2.2.2.2.2.2.2.2.2.2.2.2.1
theorem hk_M.r23 {G : hk_G} (h : hk_M G) : G.2.2 (.inr (0, 0)) 23 = .ref (G.1 (.inr (1, 23))) := h.2.2.2.2.2.2.2.2.2.2.2.2.2.2.2.2.2.2.2.2.2.2.2.2.2.2.2.2.2.2.2.2.2.2.2.2.2.1
theorem hk_M.k23 {G : hk_G} (h : hk_M G) : G.2.1 (.inr (1, 23)) = some (.inr (.inl 800)) := h.2.2.2.2.2.2.2.2.2.2.2.2.2.2.2.2.2.2.2.2.2.2.2.2.2.2.2.2.2.2.2.2.2.2.2.2.2.2.1
theorem hk_M.r25 {G : hk_G} (h : hk_M G) : G.2.2 (.inr (0, 0)) 25 = .ref (G.1 (.inr (1, 25))) := h.2.2.2.2.2.2.2.2.2.2.2.2.2.2.2.2.2.2.2.2.2.2.2.2.2.2.2.2.2.2.2.2.2.2.2.2.2.2.2.1
theorem hk_M.k25 {G : hk_G} (h : hk_M G) : G.2.1 (.inr (1, 25)) = some (.inr (.inl 100)) := h.2.2.2.2.2.2.2.2.2.2.2.2.2.2.2.2.2.2.2.2.2.2.2.2.2.2.2.2.2.2.2.2.2.2.2.2.2.2.2.2.1
theorem hk_M.r26 {G : hk_G} (h : hk_M G) : G.2.2 (.inr (0, 0)) 26 = .ref (G.1 (.inr (1, 26))) := h.2.2.2.2.2.2.2.2.2.2.2.2.2.2.2.2.2.2.2.2.2.2.2.2.2.2.2.2.2.2.2.2.2.2.2.2.2.2.2.2.2.1
theorem hk_M.k26 {G : hk_G} (h : hk_M G) : G.2.1 (.inr (1, 26)) = some (.inr (.inl 100)) := h.2.2.2.2.2.2.2.2.2.2.2.2.2.2.2.2.2.2.2.2.2.2.2.2.2.2.2.2.2.2.2.2.2.2.2.2.2.2.2.2.2.2.1
theorem hk_M.r30 {G : hk_G} (h : hk_M G) : G.2.2 (.inr (0, 0)) 30 = .ref (G.1 (.inr (1, 30))) := h.2.2.2.2.2.2.2.2.2.2.2.2.2.2.2.2.2.2.2.2.2.2.2.2.2.2.2.2.2.2.2.2.2.2.2.2.2.2.2.2.2.2.2.1
theorem hk_M.k30 {G : hk_G} (h : hk_M G) : G.2.1 (.inr (1, 30)) = some (.inr (.inl 20)) := h.2.2.2.2.2.2.2.2.2.2.2.2.2.2.2.2.2.2.2.2.2.2.2.2.2.2.2.2.2.2.2.2.2.2.2.2.2.2.2.2.2.2.2.2.1
theorem hk_M.r31 {G : hk_G} (h : hk_M G) : G.2.2 (.inr (0, 0)) 31 = .ref (G.1 (.inr (1, 31))) := h.2.2.2.2.2.2.2.2.2.2.2.2.2.2.2.2.2.2.2.2.2.2.2.2.2.2.2.2.2.2.2.2.2.2.2.2.2.2.2.2.2.2.2.2.2.1
theorem hk_M.k31 {G : hk_G} (h : hk_M G) : G.2.1 (.inr (1, 31)) = some (.inr (.inl 20)) := h.2.2.2.2.2.2.2.2.2.2.2.2.2.2.2.2.2.2.2.2.2.2.2.2.2.2.2.2.2.2.2.2.2.2.2.2.2.2.2.2.2.2.2.2.2.2.1
theorem hk_M.r33 {G : hk_G} (h : hk_M G) : G.2.2 (.inr (0, 0)) 33 = .ref (G.1 (.inr (1, 33))) := h.2.2.2.2.2.2.2.2.2.2.2.2.2.2.2.2.2.2.2.2.2.2.2.2.2.2.2.2.2.2.2.2.2.2.2.2.2.2.2.2.2.2.2.2.2.2.2.1
theorem hk_M.k33 {G : hk_G} (h : hk_M G) : G.2.1 (.inr (1, 33)) = some (.inr (.inl 20)) := h.2.2.2.2.2.2.2.2.2.2.2.2.2.2.2.2.2.2.2.2.2.2.2.2.2.2.2.2.2.2.2.2.2.2.2.2.2.2.2.2.2.2.2.2.2.2.2.2.1
theorem hk_M.r34 {G : hk_G} (h : hk_M G) : G.2.2 (.inr (0, 0)) 34 = .ref (G.1 (.inr (1, 34))) := h.2.2.2.2.2.2.2.2.2.2.2.2.2.2.2.2.2.2.2.2.2.2.2.2.2.2.2.2.2.2.2.2.2.2.2.2.2.2.2.2.2.2.2.2.2.2.2.2.2.1
theorem hk_M.k34 {G : hk_G} (h : hk_M G) : G.2.1 (.inr (1, 34)) = some (.inr (.inl 20)) := h.2.2.2.2.2.2.2.2.2.2.2.2.2.2.2.2.2.2.2.2.2.2.2.2.2.2.2.2.2.2.2.2.2.2.2.2.2.2.2.2.2.2.2.2.2.2.2.2.2.2.1
theorem hk_M.r36 {G : hk_G} (h : hk_M G) : G.2.2 (.inr (0, 0)) 36 = .ref (G.1 (.inr (1, 36))) := h.2.2.2.2.2.2.2.2.2.2.2.2.2.2.2.2.2.2.2.2.2.2.2.2.2.2.2.2.2.2.2.2.2.2.2.2.2.2.2.2.2.2.2.2.2.2.2.2.2.2.2.1
theorem hk_M.k36 {G : hk_G} (h : hk_M G) : G.2.1 (.inr (1, 36)) = some (.inr (.inl 7)) := h.2.2.2.2.2.2.2.2.2.2.2.2.2.2.2.2.2.2.2.2.2.2.2.2.2.2.2.2.2.2.2.2.2.2.2.2.2.2.2.2.2.2.2.2.2.2.2.2.2.2.2.2
theorem hk_sw2 (x : Int32) : (x = 0 ∨ x = 1 ∨ x = 2) ∨ ((x.toInt < 0 ∨ 2 < x.toInt) ∧ ¬ x = 0 ∧ ¬ x = 1 ∧ ¬ x = 2) := by
  by_cases h : (x.toInt < 0 ∨ 2 < x.toInt)
  · refine Or.inr ?_
    refine ⟨h, ?_, ?_, ?_⟩ <;> (intro e; subst e; revert h; decide)
  · refine Or.inl ?_
    have h2 : x.toInt = 0 ∨ x.toInt = 1 ∨ x.toInt = 2 := by omega
    have key : ∀ k : Nat, k < 2 ^ 31 → x.toInt = (k : Int) → x = Int32.ofNat k := fun k hk e => Int32.toInt_inj.mp (by rw [e]; exact (nI_toInt hk).symm)
    rcases h2 with h2 | h2 | h2
    · exact Or.inl (key 0 (by decide) h2)
    · exact Or.inr (Or.inl (key 1 (by decide) h2))
    · exact Or.inr (Or.inr ((key 2 (by decide) h2)))
theorem hk_sw3 (x : Int32) : (x = 0 ∨ x = 1 ∨ x = 2 ∨ x = 3) ∨ ((x.toInt < 0 ∨ 3 < x.toInt) ∧ ¬ x = 0 ∧ ¬ x = 1 ∧ ¬ x = 2 ∧ ¬ x = 3) := by
  by_cases h : (x.toInt < 0 ∨ 3 < x.toInt)
  · refine Or.inr ?_
    refine ⟨h, ?_, ?_, ?_, ?_⟩ <;> (intro e; subst e; revert h; decide)
  · refine Or.inl ?_
    have h2 : x.toInt = 0 ∨ x.toInt = 1 ∨ x.toInt = 2 ∨ x.toInt = 3 := by omega
    have key : ∀ k : Nat, k < 2 ^ 31 → x.toInt = (k : Int) → x = Int32.ofNat k := fun k hk e => Int32.toInt_inj.mp (by rw [e]; exact (nI_toInt hk).symm)
    rcases h2 with h2 | h2 | h2 | h2
    · exact Or.inl (key 0 (by decide) h2)
    · exact Or.inr (Or.inl (key 1 (by decide) h2))
    · exact Or.inr (Or.inr (Or.inl (key 2 (by decide) h2)))
    · exact Or.inr (Or.inr (Or.inr ((key 3 (by decide) h2))))
theorem hk_sw5 (x : Int32) : (x = 0 ∨ x = 1 ∨ x = 2 ∨ x = 3 ∨ x = 4 ∨ x = 5) ∨ ((x.toInt < 0 ∨ 5 < x.toInt) ∧ ¬ x = 0 ∧ ¬ x = 1 ∧ ¬ x = 2 ∧ ¬ x = 3 ∧ ¬ x = 4 ∧ ¬ x = 5) := by
  by_cases h : (x.toInt < 0 ∨ 5 < x.toInt)
  · refine Or.inr ?_
    refine ⟨h, ?_, ?_, ?_, ?_, ?_, ?_⟩ <;> (intro e; subst e; revert h; decide)
  · refine Or.inl ?_
    have h2 : x.toInt = 0 ∨ x.toInt = 1 ∨ x.toInt = 2 ∨ x.toInt = 3 ∨ x.toInt = 4 ∨ x.toInt = 5 := by omega
    have key : ∀ k : Nat, k < 2 ^ 31 → x.toInt = (k : Int) → x = Int32.ofNat k := fun k hk e => Int32.toInt_inj.mp (by rw [e]; exact (nI_toInt hk).symm)
    rcases h2 with h2 | h2 | h2 | h2 | h2 | h2
    · exact Or.inl (key 0 (by decide) h2)
    · exact Or.inr (Or.inl (key 1 (by decide) h2))
    · exact Or.inr (Or.inr (Or.inl (key 2 (by decide) h2)))
    · exact Or.inr (Or.inr (Or.inr (Or.inl (key 3 (by decide) h2))))
    · exact Or.inr (Or.inr (Or.inr (Or.inr (Or.inl (key 4 (by decide) h2)))))
    · exact Or.inr (Or.inr (Or.inr (Or.inr (Or.inr ((key 5 (by decide) h2))))))
theorem hk_sw9 (x : Int32) : (x = 0 ∨ x = 1 ∨ x = 2 ∨ x = 3 ∨ x = 4 ∨ x = 5 ∨ x = 6 ∨ x = 7 ∨ x = 8 ∨ x = 9) ∨ ((x.toInt < 0 ∨ 9 < x.toInt) ∧ ¬ x = 0 ∧ ¬ x = 1 ∧ ¬ x = 2 ∧ ¬ x = 3 ∧ ¬ x = 4 ∧ ¬ x = 5 ∧ ¬ x = 6 ∧ ¬ x = 7 ∧ ¬ x = 8 ∧ ¬ x = 9) := by
  by_cases h : (x.toInt < 0 ∨ 9 < x.toInt)
  · refine Or.inr ?_
    refine ⟨h, ?_, ?_, ?_, ?_, ?_, ?_, ?_, ?_, ?_, ?_⟩ <;> (intro e; subst e; revert h; decide)
  · refine Or.inl ?_
    have h2 : x.toInt = 0 ∨ x.toInt = 1 ∨ x.toInt = 2 ∨ x.toInt = 3 ∨ x.toInt = 4 ∨ x.toInt = 5 ∨ x.toInt = 6 ∨ x.toInt = 7 ∨ x.toInt = 8 ∨ x.toInt = 9 := by omega
    have key : ∀ k : Nat, k < 2 ^ 31 → x.toInt = (k : Int) → x = Int32.ofNat k := fun k hk e => Int32.toInt_inj.mp (by rw [e]; exact (nI_toInt hk).symm)
    rcases h2 with h2 | h2 | h2 | h2 | h2 | h2 | h2 | h2 | h2 | h2
    · exact Or.inl (key 0 (by decide) h2)
    · exact Or.inr (Or.inl (key 1 (by decide) h2))
    · exact Or.inr (Or.inr (Or.inl (key 2 (by decide) h2)))
    · exact Or.inr (Or.inr (Or.inr (Or.inl (key 3 (by decide) h2))))
    · exact Or.inr (Or.inr (Or.inr (Or.inr (Or.inl (key 4 (by decide) h2)))))
    · exact Or.inr (Or.inr (Or.inr (Or.inr (Or.inr (Or.inl (key 5 (by decide) h2))))))
    · exact Or.inr (Or.inr (Or.inr (Or.inr (Or.inr (Or.inr (Or.inl (key 6 (by decide) h2)))))))
    · exact Or.inr (Or.inr (Or.inr (Or.inr (Or.inr (Or.inr (Or.inr (Or.inl (key 7 (by decide) h2))))))))
    · exact Or.inr (Or.inr (Or.inr (Or.inr (Or.inr (Or.inr (Or.inr (Or.inr (Or.inl (key 8 (by decide) h2)))))))))
    · exact Or.inr (Or.inr (Or.inr (Or.inr (Or.inr (Or.inr (Or.inr (Or.inr (Or.inr ((key 9 (by decide) h2))))))))))
