/-! the hour, and hours -/
theorem rr_find {pre : Nat → Nat} : ∀ (n b : Nat), pre 0 = 0 → b < pre n → ∃ j, j < n ∧ pre j ≤ b ∧ b < pre (j + 1)
  | 0, b, h0, h => by omega
  | n + 1, b, h0, h => by
    rcases Nat.lt_or_ge b (pre n) with q | q
    · obtain ⟨j, h1, h2, h3⟩ := rr_find n b h0 q
      exact ⟨j, by omega, h2, h3⟩
    · exact ⟨n, by omega, q, h⟩
section RRH
variable {Z : hk_Z} {nw w P : Nat} {G : Nat → Nat → Nat} {τ σ : hk_v}
theorem rr_K.lo (h : rr_K Z τ σ) : hk_lo Z τ := fun k hk => by
  obtain ⟨k1, ⟨k2, k3, k4, k5⟩, k6, k9, n, f, pre, g1, g2, g3, g4, g5, g6, g7⟩ := h.1 k hk
  rw [g1, nI_clamp (by omega)]
  exact ⟨rfl, by omega, k5⟩
theorem rr_K.lb (h : rr_K Z τ σ) : hk_lb Z τ := fun k hk j hj => by
  obtain ⟨k1, ⟨k2, k3, k4, k5⟩, k6, k9, n, f, pre, g1, g2, g3, g4, g5, g6, g7⟩ := h.1 k hk
  rw [g1, nI_clamp (by omega)] at hj
  obtain ⟨a1, a2, a3, -⟩ := g7.2.2 j hj
  exact ⟨_, by omega, a3⟩
theorem rr_P.ps (h : rr_P P τ σ) : hk_ps τ P := by
  obtain ⟨p, l, h1, h2, h3, h4, h5, h6, h7⟩ := h
  exact ⟨l, p, h4, h6, h1, h3⟩
theorem rr_K.fi (h : rr_K Z τ σ) : ∀ k, k < Z.1 2 → σ (1, 22) k = nI (σ (1, 22) k).toNatClampNeg ∧ (σ (1, 22) k).toNatClampNeg ≤ 200 := fun k hk => by
  obtain ⟨k1, ⟨k2, k3, k4, k5⟩, k6, k9, n, f, pre, g1, g2, g3, g4, g5, g6, g7⟩ := h.1 k hk
  rw [g3, nI_clamp (by omega)]
  exact ⟨rfl, by omega⟩
theorem rr_R.fp (h : rr_R Z nw w P G τ σ) : hk_fp Z w τ := by
  obtain ⟨hS, hD, hN, hK, hP, hTT, hC, hM, hL⟩ := h
  obtain ⟨s1, s2, ⟨s3, s4, s5⟩, s6, s7, s8, s9⟩ := hS
  refine ⟨s1, s6, s9, fun k hk => ?_⟩
  obtain ⟨k1, ⟨k2, k3, k4, k5⟩, k6, k9, n, f, pre, g1, g2, g3, g4, g5, g6, g7⟩ := hK.1 k hk
  exact ⟨k5, n, by omega, g1⟩
theorem rr_R.pk (h : rr_R Z nw w P G τ σ) {i : Nat} (hi : i < Z.1 1) : hk_pk Z σ i := by
  obtain ⟨hS, hD, hN, hK, hP, hTT, hC, hM, hL⟩ := h
  obtain ⟨s1, s2, ⟨s3, s4, s5⟩, s6, s7, s8, s9⟩ := hS
  obtain ⟨⟨n1, n2, n3, n4, n5, n6⟩, n7, n8, n9⟩ := hN.1 i hi
  have h6 := s1.2.1
  refine ⟨s2, hTT.1.mn, fun q => ?_, fun q => ?_, by rw [← n2]; exact n8⟩
  · rw [← n3] at q ⊢
    rcases n9 with n9 | ⟨a, ha, n9⟩
    · exact absurd n9 q
    · rw [n9]; exact vp_in_nI (by omega) (by omega)
  · rw [← n3] at q ⊢
    rcases n9 with n9 | ⟨a, ha, n9⟩
    · exact absurd n9 q
    · rw [n9, s4, show (6 : Int32) = nI 6 from rfl, pk_mul, nI_add]; exact vp_in_nI (by omega) (by omega)
theorem rr_R.dr (h : rr_R Z nw w P G τ σ) (hP : P + 200 < 2 ^ 30) {i : Nat} (hi : i < Z.1 2) : hk_dr Z σ (σ (0, 0) 24).toNatClampNeg i := by
  obtain ⟨hS, hD, hN, hK, hPP, hTT, hC, hM, hL⟩ := h
  obtain ⟨s1, s2, ⟨s3, s4, s5⟩, s6, s7, s8, s9⟩ := hS
  obtain ⟨k1, ⟨k2, k3, k4, k5⟩, k6, k9, n, f, pre, g1, g2, g3, g4, g5, g6, g7⟩ := hK.1 i hi
  obtain ⟨p, l, p1, p2, p3, -⟩ := hPP
  have h6 := s1.2.1
  refine ⟨s2, hK.fi i hi, fun j hj => ?_, by rw [p2, nI_clamp (by omega)], by rw [p2, nI_clamp (by omega)]; omega⟩
  rw [g3, nI_clamp (by omega)] at hj
  obtain ⟨m, m1, m2, m3⟩ := rr_find n j g7.1 (by rw [g7.2.1]; exact hj)
  obtain ⟨a1, a2, a3, g', a4, a5, a6⟩ := g7.2.2 m m1
  rw [a6 j m2 m3]
  exact vp_in_nI (by omega) (by omega)
theorem rr_R.tq (h : rr_R Z nw w P G τ σ) {i : Nat} (hi : i < Z.1 2) : hk_tq Z σ nw i := by
  obtain ⟨hS, hD, hN, hK, hPP, hTT, hC, hM, hL⟩ := h
  obtain ⟨s1, s2, ⟨s3, s4, s5⟩, s6, s7, s8, s9⟩ := hS
  obtain ⟨k1, ⟨k2, k3, k4, k5⟩, k6, k9, n, f, pre, g1, g2, g3, g4, g5, g6, g7⟩ := hK.1 i hi
  exact ⟨s2, s4, s5, f, _, g4, k5, g3, k3⟩
theorem rr_st1 (h : rr_R Z nw w P G τ σ) : ∀ j, j ≤ Z.1 1 → ∃ G', rr_R Z nw w P G' (hk_it (B_pick τ) j 0 τ) (hk_it B_m_o1 j 0 σ) := fun j hj => by
  have key := rr_it0 (f := B_pick τ) (g := B_m_o1) (fun _ t s => (∃ G', rr_R Z nw w P G' t s) ∧ ∀ i k, t (5, i) k = τ (5, i) k ∧ t (6, i) k = τ (6, i) k ∧ t (7, i) k = τ (7, i) k) j (s := τ) (t := σ) ⟨⟨G, h⟩, fun _ _ => ⟨rfl, rfl, rfl⟩⟩ (fun m t s hm hI => by
    obtain ⟨⟨G1, h1⟩, h2⟩ := hI
    exact rr_pick h1 h2 h.1.2.2.1.1 (by omega))
  exact key.1
theorem rr_st2 (h : rr_R Z nw w P G τ σ) (hP : P + 1000 < 2 ^ 30) : ∀ j, j ≤ Z.1 2 → rr_R Z nw w (P + 200 * j) G (hk_it (B_dry Z) j 0 τ) (hk_it B_m_o2 j 0 σ) := fun j hj => by
  have h4 := h.1.1.2.2.2
  exact rr_it0 (f := B_dry Z) (g := B_m_o2) (fun j t s => rr_R Z nw w (P + 200 * j) G t s) j (s := τ) (t := σ) (by rw [Nat.mul_zero, Nat.add_zero]; exact h) (fun m t s hm hI => by rw [show P + 200 * (m + 1) = P + 200 * m + 200 by omega]; exact rr_dry hI (by omega) (by omega))
theorem rr_st4 (h : rr_R Z nw w P G τ σ) (hz : ∀ h g, h + w ≤ nw → G h g = 0) : ∀ j, j ≤ Z.1 2 → ∃ G', rr_R Z nw w P G' (hk_it (B_fillH w Z) j 0 τ) (hk_it (B_m_o3 nw) j 0 σ) ∧ ∀ h g, h + w ≤ nw → G' h g = 0 := fun j hj =>
  rr_it0 (f := B_fillH w Z) (g := B_m_o3 nw) (fun _ t s => ∃ G', rr_R Z nw w P G' t s ∧ ∀ h g, h + w ≤ nw → G' h g = 0) j (s := τ) (t := σ) ⟨G, h, hz⟩ (fun m t s hm hI => by
    obtain ⟨G1, h1, h2⟩ := hI
    obtain ⟨G2, h3, h4⟩ := rr_fillK h1 h2 (k := m) (by omega)
    exact ⟨G2, h3, fun a b hh => by have := h4 a b; rw [h2 a b hh] at this; omega⟩)
theorem rr_next (h : rr_R Z nw w P G τ σ) (hz : ∀ h g, h + w ≤ nw → G h g = 0) (hn : nw < 480) : rr_R Z (nw + 1) w P G (hk_u τ (0, 0) 8 (τ (0, 0) 8 + 1)) (hk_u σ (0, 0) 0 (σ (0, 0) 0 + 1)) := by
  obtain ⟨hS, hD, hN, hK, hP, hTT, hC, hM, hL⟩ := h
  obtain ⟨s1, s2, ⟨s3, s4, s5⟩, s6, s7, s8, s9⟩ := hS
  have a1 : ∀ c i j, c ≠ 0 → hk_u τ (0, 0) 8 (τ (0, 0) 8 + 1) (c, i) j = τ (c, i) j := fun c i j h => hk_u_o h
  have b1 : ∀ c i j, c ≠ 0 → hk_u σ (0, 0) 0 (σ (0, 0) 0 + 1) (c, i) j = σ (c, i) j := fun c i j h => hk_u_o h
  have b0 : ∀ f, f ≠ 0 → hk_u σ (0, 0) 0 (σ (0, 0) 0 + 1) (0, 0) f = σ (0, 0) f := fun f h => if_neg (fun e => h e.2)
  refine ⟨⟨s1.of (fun j => a1 1 j 2 (by decide)), ⟨⟨by rw [b0 2 (by decide)]; exact s2.1.1, by rw [b0 9 (by decide)]; exact s2.1.2.1, by rw [b0 17 (by decide)]; exact s2.1.2.2⟩, s2.2⟩, ⟨by simp [hk_u_ap, s3, nI_1], by simp [hk_u_ap, s4, nI_1], by omega⟩, by simp [hk_u_ap, s6], by simp [hk_u_ap, s7], s8, s9⟩, hD.of (fun i j => a1 9 i j (by decide)) (fun f j _ _ => b1 1 f j (by decide)), hN.of (fun i j => a1 10 i j (by decide)) (fun f j _ _ => b1 1 f j (by decide)), hK.of (fun i j => a1 11 i j (by decide)) (fun i j => a1 13 i j (by decide)) (fun i j => a1 14 i j (by decide)) (fun f j _ _ => b1 1 f j (by decide)), hP.of (fun i j => a1 4 i j (by decide)) (fun f _ _ => b0 f (by omega)) (fun f j _ _ => b1 1 f j (by decide)), hTT.of (fun i j => a1 5 i j (by decide)) (fun i j => a1 6 i j (by decide)) (fun i j => a1 7 i j (by decide)) (fun f _ _ => b0 f (by omega)) (fun f j _ _ => b1 1 f j (by decide)), ?_, hM.of (fun j => b1 1 16 j (by decide)), ⟨fun i hi => ?_, hL.2.1, fun h' g' hh => ?_⟩⟩
  · have z24 : ∀ g, rr_ga G nw 24 g = 0 := fun g => by
      unfold rr_ga
      split
      · exact hz _ _ (by omega)
      · rfl
    have z0 : ∀ g, rr_ga G (nw + 1) 0 g = 0 := fun g => by
      unfold rr_ga
      rw [if_pos (by omega)]
      exact hL.2.2 _ _ (Or.inl (by omega))
    have zs : ∀ a g, rr_ga G (nw + 1) (a + 1) g = rr_ga G nw a g := fun a g => by
      unfold rr_ga
      by_cases c : a ≤ nw
      · rw [if_pos c, if_pos (by omega), show nw + 1 - (a + 1) = nw - a by omega]
      · rw [if_neg c, if_neg (by omega)]
    refine ⟨fun a g ha hg => ?_, ?_⟩
    · rw [a1 3 1 _ (by decide)]
      rcases a with _ | a
      · rw [z0, show rr_rg (nw + 1) 0 = rr_rg nw 24 by unfold rr_rg; omega, hC.1 24 g (by omega) hg, z24]
      · rw [zs, show rr_rg (nw + 1) (a + 1) = rr_rg nw a by unfold rr_rg; omega]
        exact hC.1 a g (by omega) hg
    · rw [a1 3 0 _ (by decide), hC.2]
      congr 1
      have f1 : rr_sum (fun a => rr_sum (fun g => rr_ga G (nw + 1) a g) 6) 25 = rr_sum (fun g => rr_ga G (nw + 1) 0 g) 6 + rr_sum (fun i => rr_sum (fun g => rr_ga G (nw + 1) (i + 1) g) 6) 24 := rr_sum_f
      have f2 : rr_sum (fun a => rr_sum (fun g => rr_ga G nw a g) 6) 25 = rr_sum (fun a => rr_sum (fun g => rr_ga G nw a g) 6) 24 + rr_sum (fun g => rr_ga G nw 24 g) 6 := rfl
      have e1 : rr_sum (fun g => rr_ga G nw 24 g) 6 = 0 := rr_sum_z (fun g _ => z24 g)
      have e2 : rr_sum (fun g => rr_ga G (nw + 1) 0 g) 6 = 0 := rr_sum_z (fun g _ => z0 g)
      have e3 : rr_sum (fun i => rr_sum (fun g => rr_ga G (nw + 1) (i + 1) g) 6) 24 = rr_sum (fun i => rr_sum (fun g => rr_ga G nw i g) 6) 24 := rr_sum_c (fun i _ => rr_sum_c (fun g _ => zs i g))
      omega
  · obtain ⟨l, l1, l2⟩ := hL.1 i hi
    exact ⟨l, by rw [a1 9 i 2 (by decide)]; exact l1, l2⟩
  · rcases hh with hh | hh
    · exact hL.2.2 h' g' (Or.inl (by omega))
    · exact hz h' g' (by omega)
def rr_Pf (Z : hk_Z) (σ : hk_v) (j : Nat) : Nat := ((hk_it B_m_o2 j 0 (hk_it B_m_o1 (Z.1 1) 0 σ)) (0, 0) 24).toNatClampNeg
theorem rr_hour (h : rr_R Z nw w P G τ σ) (hn : nw < 480) (hP : P + 13000 < 2 ^ 30) : (∃ G', rr_R Z (nw + 1) w (P + 800) G' (T_passHour Z τ w) (T_m_oneHour Z σ nw w) ∧ ∀ g, G' (nw + 1) g = 0) ∧ hk_oh Z w P τ ∧ hk_mo Z nw w (rr_Pf Z σ) σ := by
  have p1 := rr_st1 h
  obtain ⟨G1, r1⟩ := p1 (Z.1 1) (Nat.le_refl _)
  have p2 := rr_st2 r1 (by omega)
  have r2 := p2 (Z.1 2) (Nat.le_refl _)
  obtain ⟨G3, r3, z3⟩ := rr_lose r2
  have p4 := rr_st4 r3 z3
  obtain ⟨G4, r4, z4⟩ := p4 (Z.1 2) (Nat.le_refl _)
  have h4 := h.1.1.2.2.2
  refine ⟨⟨G4, ?_, fun g => ?_⟩, ⟨⟨h.1.1, h.2.2.2.2.2.1.1.nt, fun i hi => (h.2.2.1.1 i hi).2.2.1⟩, ⟨⟨r1.1.1, r1.2.2.2.1.lo, r1.2.2.2.1.lb, r1.2.2.2.2.1.ps⟩, by omega⟩, ⟨r2.1.1, r2.1.2.2.2.1, r2.1.2.2.2.2.2.2⟩, fun j hj => ?_⟩, ⟨h.1.2.1, fun j hj => ?_, fun j hj => ?_, fun j hj => ?_, fun j hj => ?_, ⟨r2.1.2.1, r2.1.2.2.1.2.1, r2.1.2.2.1.2.2, r2.1.2.2.2.2.1, r2.1.2.2.2.2.2.2⟩, fun j hj => ?_, fun j hj => ?_⟩⟩
  · obtain ⟨q1, q2, q3, q4, q5, q6⟩ := rr_next r4 z4 hn
    exact ⟨q1, q2, q3, q4, q5.le (by omega), q6⟩
  · exact r4.2.2.2.2.2.2.2.2.2.2 _ _ (Or.inl (by omega))
  · obtain ⟨G5, r5, -⟩ := p4 j hj
    exact r5.fp
  · obtain ⟨G5, r5⟩ := p1 j hj
    exact r5.1.2.1
  · obtain ⟨G5, r5⟩ := p1 j (by omega)
    exact r5.pk hj
  · exact (p2 j hj).1.2.1
  · exact (p2 j (by omega)).dr (by omega) hj
  · obtain ⟨G5, r5, -⟩ := p4 j hj
    exact r5.1.2.1
  · obtain ⟨G5, r5, -⟩ := p4 j (by omega)
    exact r5.tq hj
end RRH
/-- between the calls -/
def rr_I (Z : hk_Z) (nw w : Nat) (τ σ : hk_v) : Prop := ∃ G, rr_R Z nw w (800 * nw) G τ σ ∧ ∀ g, G nw g = 0
theorem rr_it_hours {Z : hk_Z} {nw w : Nat} {τ σ : hk_v} (h : rr_I Z nw w τ σ) : ∀ j, nw + j ≤ 480 → rr_I Z (nw + j) w (hk_it (B_hours w Z) j 0 τ) (hk_it (B_m_hours nw w Z) j 0 σ)
  | 0, _ => h
  | j + 1, hj => by
    obtain ⟨G, h1, h2⟩ := rr_it_hours h j (by omega)
    rw [hk_it_last, hk_it_last, Nat.zero_add]
    obtain ⟨⟨G', h3, h4⟩, -, -⟩ := rr_hour h1 (by omega) (by omega)
    exact ⟨G', by rw [show 800 * (nw + (j + 1)) = 800 * (nw + j) + 800 by omega]; exact h3, h4⟩
theorem rr_hours {Z : hk_Z} {nw w : Nat} {τ σ : hk_v} (h : rr_I Z nw w τ σ) (n : Int32) : (¬ hk_in n 1 24 = 0 → τ (0, 0) 8 + n ≤ 480 → ∀ j, j < n.toNatClampNeg → hk_oh Z w (800 * (nw + j)) (hk_it (B_hours w Z) j 0 τ)) ∧ (¬ hk_in n 1 24 = 0 → σ (0, 0) 0 + n ≤ 480 → ∀ j, j < n.toNatClampNeg → hk_mo Z (nw + j) w (rr_Pf Z (hk_it (B_m_hours nw w Z) j 0 σ)) (hk_it (B_m_hours nw w Z) j 0 σ)) ∧ F_hours Z τ w n = F_m_hours Z σ nw w n ∧ ∃ nw', rr_I Z nw' w (T_hours Z τ w n) (T_m_hours Z σ nw w n) := by
  obtain ⟨G, h1, h2⟩ := id h
  obtain ⟨s1, s2, ⟨s3, s4, s5⟩, s6⟩ := h1.1
  rw [s3, s4]
  by_cases c : hk_in n 1 24 = 0
  · refine ⟨fun q => absurd c q, fun q => absurd c q, ?_, nw, ?_⟩
    · unfold F_hours F_m_hours; rw [if_pos c, if_pos c]
    · unfold T_hours T_m_hours; rw [if_pos c, if_pos c]; exact h
  · obtain ⟨e1, e2, e3⟩ := hk_in_1n (n := 24) rfl (by omega) c
    generalize n.toNatClampNeg = m at e1 e2 e3
    subst e1
    by_cases d : nI nw + nI m ≤ 480
    · have d2 : nw + m ≤ 480 := by
        rw [nI_add] at d
        exact (nI_leI (b := 480) (by omega) (by decide)).mp d
      have e4 : (nI m).toNatClampNeg = m := nI_clamp (by omega)
      refine ⟨fun _ _ j hj => ?_, fun _ _ j hj => ?_, ?_, nw + m, ?_⟩
      · obtain ⟨G', g1, g2⟩ := rr_it_hours h j (by omega)
        exact (rr_hour g1 (by omega) (by omega)).2.1
      · obtain ⟨G', g1, g2⟩ := rr_it_hours h j (by omega)
        exact (rr_hour g1 (by omega) (by omega)).2.2
      · unfold F_hours F_m_hours
        rw [if_neg c, if_neg c, s3, s4, if_pos d, if_pos d, e4]
        obtain ⟨G', g1, g2⟩ := rr_it_hours h m d2
        rw [g1.1.2.2.1.1, g1.1.2.2.1.2.1]
      · unfold T_hours T_m_hours
        rw [if_neg c, if_neg c, s3, s4, if_pos d, if_pos d, e4]
        exact rr_it_hours h m d2
    · refine ⟨fun _ q => absurd q d, fun _ q => absurd q d, ?_, nw, ?_⟩
      · unfold F_hours F_m_hours; rw [if_neg c, if_neg c, s3, s4, if_neg d, if_neg d]
      · unfold T_hours T_m_hours; rw [if_neg c, if_neg c, s3, s4, if_neg d, if_neg d]; exact h
