/-! what is told; what is made -/
section RRM
variable {Z : hk_Z} {nw w : Nat} {τ σ : hk_v}
theorem rr_in_ab {x y z : Int32} {a b : Nat} (hy : y = nI a) (hz : z = nI b) (ha : a < 2 ^ 31) (hb : b < 2 ^ 31) (h : ¬ hk_in x y z = 0) : ∃ j, a ≤ j ∧ j ≤ b ∧ x = nI j := by
  subst hy hz
  obtain ⟨h1, h2⟩ := hk_in_ne h
  have h0 : ¬ x < 0 := fun q => h1 (by
    rw [Int32.lt_iff_toInt_lt] at *
    rw [nI_toInt ha]
    have : (0 : Int32).toInt = 0 := by decide
    omega)
  obtain ⟨j, hj, rfl⟩ := nI_of h0
  refine ⟨j, ?_, ?_, rfl⟩
  · rcases Nat.lt_or_ge j a with q | q
    · exact absurd (nI_lt q ha) h1
    · exact q
  · rcases Nat.lt_or_ge b j with q | q
    · exact absurd (nI_lt q hj) h2
    · exact q
theorem rr_t.of {τ' σ' : hk_v} {i fc ff fv : Nat} {fi : Int32} (h : rr_t τ σ i fc ff fv fi) (e5 : ∀ k, τ' (5, i) k = τ (5, i) k) (e6 : ∀ k, τ' (6, i) k = τ (6, i) k) (e7 : ∀ k, τ' (7, i) k = τ (7, i) k) (f0 : σ' (0, 0) fc = σ (0, 0) fc) (f1 : ∀ k, σ' (1, ff) k = σ (1, ff) k) (f2 : ∀ k, σ' (1, fv) k = σ (1, fv) k) : rr_t τ' σ' i fc ff fv fi := by
  unfold rr_t at *
  simp only [e5, e6, e7, f0, f1, f2]
  exact h
theorem rr_t.upd {τ' σ' : hk_v} {i fc ff fv : Nat} {fi x v : Int32} {n a : Nat} (h : rr_t τ σ i fc ff fv fi) (hn : τ (5, i) 3 = nI n) (hlt : n < 20) (hx : x = nI a) (ha : a ≤ 480) (e2 : τ' (5, i) 2 = τ (5, i) 2) (e3 : τ' (5, i) 3 = nI (n + 1)) (e6 : ∀ j, τ' (6, i) j = if j = n then x else τ (6, i) j) (e7 : ∀ j, τ' (7, i) j = if j = n then v else τ (7, i) j) (f0 : σ' (0, 0) fc = nI (n + 1)) (f6 : ∀ j, σ' (1, ff) j = if j = n then x else σ (1, ff) j) (f7 : ∀ j, σ' (1, fv) j = if j = n then v else σ (1, fv) j) : rr_t τ' σ' i fc ff fv fi := by
  obtain ⟨h1, m, h2, h3, h4, h5⟩ := h
  have em : m = n := by
    rw [h3] at hn
    exact (nI_eq (by omega) (by omega)).mp hn
  subst em
  refine ⟨by rw [e2]; exact h1, m + 1, by omega, e3, f0, fun j hj => ?_⟩
  rw [e6, e7, f6, f7]
  by_cases c : j = m
  · rw [if_pos c, if_pos c, if_pos c, if_pos c]
    exact ⟨rfl, rfl, a, ha, hx⟩
  · rw [if_neg c, if_neg c, if_neg c, if_neg c]
    exact h5 j (by omega)
theorem rr_tell0 {P : Nat} {G : Nat → Nat → Nat} (h1 : rr_R Z nw w P G τ σ) {n a : Nat} {x v : Int32} (t3 : τ (5, 0) 3 = nI n) (hn : n < 20) (hx : x = nI a) (ha : a ≤ 480) : rr_R Z nw w P G (hk_u (hk_u (hk_u τ (6, 0) n x) (7, 0) n v) (5, 0) 3 (nI (n + 1))) (hk_u (hk_u (hk_u σ (1, 30) n x) (1, 31) n v) (0, 0) 29 (nI (n + 1))) := by
  obtain ⟨hS, hD, hN, hK, hP, hTT, hC, hM, hL⟩ := id h1
  have a1 : ∀ c i' j, c ≠ 5 → c ≠ 6 → c ≠ 7 → (hk_u (hk_u (hk_u τ (6, 0) n x) (7, 0) n v) (5, 0) 3 (nI (n + 1))) (c, i') j = τ (c, i') j := fun c i' j h5 h6 h7 => by simp [hk_u_ap, h5, h6, h7]
  have b1 : ∀ f j, f ≠ 30 → f ≠ 31 → (hk_u (hk_u (hk_u σ (1, 30) n x) (1, 31) n v) (0, 0) 29 (nI (n + 1))) (1, f) j = σ (1, f) j := fun f j h1 h2 => by simp [hk_u_ap, h1, h2]
  have b0 : ∀ f, f ≠ 29 → (hk_u (hk_u (hk_u σ (1, 30) n x) (1, 31) n v) (0, 0) 29 (nI (n + 1))) (0, 0) f = σ (0, 0) f := fun f h => by simp [hk_u_ap, h]
  exact ⟨hS.of (fun j => a1 1 j 2 (by decide) (by decide) (by decide)) (a1 0 0 8 (by decide) (by decide) (by decide)) (a1 0 0 9 (by decide) (by decide) (by decide)) (fun f _ => b0 f (by omega)), hD.of (fun i j => a1 9 i j (by decide) (by decide) (by decide)) (fun f j _ _ => b1 f j (by omega) (by omega)), hN.of (fun i j => a1 10 i j (by decide) (by decide) (by decide)) (fun f j _ _ => b1 f j (by omega) (by omega)), hK.of (fun i j => a1 11 i j (by decide) (by decide) (by decide)) (fun i j => a1 13 i j (by decide) (by decide) (by decide)) (fun i j => a1 14 i j (by decide) (by decide) (by decide)) (fun f j _ _ => b1 f j (by omega) (by omega)), hP.of (fun i j => a1 4 i j (by decide) (by decide) (by decide)) (fun f _ _ => b0 f (by omega)) (fun f j _ _ => b1 f j (by omega) (by omega)), ⟨hTT.1.upd (v := v) t3 hn hx ha (by simp [hk_u_ap]) (by simp [hk_u_ap]) (fun j => by simp [hk_u_ap]) (fun j => by simp [hk_u_ap]) (by simp [hk_u_ap]) (fun j => by simp [hk_u_ap]) (fun j => by simp [hk_u_ap]), hTT.2.of (fun j => by simp [hk_u_ap]) (fun j => by simp [hk_u_ap]) (fun j => by simp [hk_u_ap]) (by simp [hk_u_ap]) (fun j => by simp [hk_u_ap]) (fun j => by simp [hk_u_ap])⟩, hC.of (fun i j => a1 3 i j (by decide) (by decide) (by decide)), hM.of (fun j => b1 16 j (by decide) (by decide)), hL.of (fun i => a1 9 i 2 (by decide) (by decide) (by decide))⟩
theorem rr_tell1 {P : Nat} {G : Nat → Nat → Nat} (h1 : rr_R Z nw w P G τ σ) {n a : Nat} {x v : Int32} (t3 : τ (5, 1) 3 = nI n) (hn : n < 20) (hx : x = nI a) (ha : a ≤ 480) : rr_R Z nw w P G (hk_u (hk_u (hk_u τ (6, 1) n x) (7, 1) n v) (5, 1) 3 (nI (n + 1))) (hk_u (hk_u (hk_u σ (1, 33) n x) (1, 34) n v) (0, 0) 32 (nI (n + 1))) := by
  obtain ⟨hS, hD, hN, hK, hP, hTT, hC, hM, hL⟩ := id h1
  have a1 : ∀ c i' j, c ≠ 5 → c ≠ 6 → c ≠ 7 → (hk_u (hk_u (hk_u τ (6, 1) n x) (7, 1) n v) (5, 1) 3 (nI (n + 1))) (c, i') j = τ (c, i') j := fun c i' j h5 h6 h7 => by simp [hk_u_ap, h5, h6, h7]
  have b1 : ∀ f j, f ≠ 33 → f ≠ 34 → (hk_u (hk_u (hk_u σ (1, 33) n x) (1, 34) n v) (0, 0) 32 (nI (n + 1))) (1, f) j = σ (1, f) j := fun f j h1 h2 => by simp [hk_u_ap, h1, h2]
  have b0 : ∀ f, f ≠ 32 → (hk_u (hk_u (hk_u σ (1, 33) n x) (1, 34) n v) (0, 0) 32 (nI (n + 1))) (0, 0) f = σ (0, 0) f := fun f h => by simp [hk_u_ap, h]
  exact ⟨hS.of (fun j => a1 1 j 2 (by decide) (by decide) (by decide)) (a1 0 0 8 (by decide) (by decide) (by decide)) (a1 0 0 9 (by decide) (by decide) (by decide)) (fun f _ => b0 f (by omega)), hD.of (fun i j => a1 9 i j (by decide) (by decide) (by decide)) (fun f j _ _ => b1 f j (by omega) (by omega)), hN.of (fun i j => a1 10 i j (by decide) (by decide) (by decide)) (fun f j _ _ => b1 f j (by omega) (by omega)), hK.of (fun i j => a1 11 i j (by decide) (by decide) (by decide)) (fun i j => a1 13 i j (by decide) (by decide) (by decide)) (fun i j => a1 14 i j (by decide) (by decide) (by decide)) (fun f j _ _ => b1 f j (by omega) (by omega)), hP.of (fun i j => a1 4 i j (by decide) (by decide) (by decide)) (fun f _ _ => b0 f (by omega)) (fun f j _ _ => b1 f j (by omega) (by omega)), ⟨hTT.1.of (fun j => by simp [hk_u_ap]) (fun j => by simp [hk_u_ap]) (fun j => by simp [hk_u_ap]) (by simp [hk_u_ap]) (fun j => by simp [hk_u_ap]) (fun j => by simp [hk_u_ap]), hTT.2.upd (v := v) t3 hn hx ha (by simp [hk_u_ap]) (by simp [hk_u_ap]) (fun j => by simp [hk_u_ap]) (fun j => by simp [hk_u_ap]) (by simp [hk_u_ap]) (fun j => by simp [hk_u_ap]) (fun j => by simp [hk_u_ap])⟩, hC.of (fun i j => a1 3 i j (by decide) (by decide) (by decide)), hM.of (fun j => b1 16 j (by decide) (by decide)), hL.of (fun i => a1 9 i 2 (by decide) (by decide) (by decide))⟩
theorem rr_priceq (h : rr_I Z nw w τ σ) (x v : Int32) : F_price τ x v = F_m_price σ x v ∧ rr_I Z nw w (T_price τ x v) (T_m_price σ x v) := by
  obtain ⟨G, h1, h2⟩ := id h
  obtain ⟨hS, hD, hN, hK, hP, hTT, hC, hM, hL⟩ := id h1
  obtain ⟨s1, s2, ⟨s3, s4, s5⟩, s6⟩ := id hS
  obtain ⟨t2, n, hn, t3, t4, t5⟩ := id hTT.1
  unfold F_price F_m_price T_price T_m_price F_tell T_tell
  rw [s3, s4, t3, t4]
  by_cases c : hk_in x (nI nw) 480 = 0
  · rw [if_pos c, if_pos c, if_pos c, if_pos c]
    exact ⟨rfl, h⟩
  · rw [if_neg c, if_neg c, if_neg c, if_neg c]
    by_cases c2 : hk_in v 1 50 = 0
    · rw [if_pos c2, if_pos c2, if_pos c2, if_pos c2]
      exact ⟨rfl, h⟩
    · rw [if_neg c2, if_neg c2, if_neg c2, if_neg c2]
      rcases Nat.lt_or_ge n 20 with q | q
      · have d : nI n < (20 : Int32) := nI_lt (b := 20) q (by decide)
        have d2 : ¬ nI n = (20 : Int32) := fun e => by have := (nI_eq (a := n) (b := 20) (by omega) (by decide)).mp e; omega
        obtain ⟨a, a1, a2, a3⟩ := rr_in_ab (b := 480) rfl rfl (by omega) (by decide) c
        rw [if_pos d, if_pos d, if_neg (show ¬ (1 : Int32) = 0 by decide), if_neg d2, if_neg d2, nI_clamp (by omega), nI_1]
        exact ⟨rfl, G, rr_tell0 h1 t3 q a3 a2, h2⟩
      · have en : n = 20 := by omega
        subst en
        rw [if_neg (show ¬ nI 20 < (20 : Int32) by decide), if_neg (show ¬ nI 20 < (20 : Int32) by decide), if_pos rfl, if_pos (show nI 20 = (20 : Int32) from rfl), if_pos (show nI 20 = (20 : Int32) from rfl)]
        exact ⟨rfl, h⟩
theorem rr_actq (h : rr_I Z nw w τ σ) (x v : Int32) : F_act τ x v = F_m_act σ x v ∧ rr_I Z nw w (T_act τ x v) (T_m_act σ x v) := by
  obtain ⟨G, h1, h2⟩ := id h
  obtain ⟨hS, hD, hN, hK, hP, hTT, hC, hM, hL⟩ := id h1
  obtain ⟨s1, s2, ⟨s3, s4, s5⟩, s6⟩ := id hS
  obtain ⟨t2, n, hn, t3, t4, t5⟩ := id hTT.2
  unfold F_act F_m_act T_act T_m_act F_tell T_tell
  rw [s3, s4, t3, t4, show x * 12 = 12 * x from Int32.mul_comm _ _]
  by_cases c : hk_in x 0 40 = 0
  · rw [if_pos c, if_pos c, if_pos c, if_pos c]
    exact ⟨rfl, h⟩
  · rw [if_neg c, if_neg c, if_neg c, if_neg c]
    by_cases c2 : hk_in v 0 100 = 0
    · rw [if_pos c2, if_pos c2, if_pos c2, if_pos c2]
      exact ⟨rfl, h⟩
    · rw [if_neg c2, if_neg c2, if_neg c2, if_neg c2]
      by_cases c3 : nI nw < 12 * x
      · rw [if_pos c3, if_pos c3, if_pos c3, if_pos c3]
        rcases Nat.lt_or_ge n 20 with q | q
        · have d : nI n < (20 : Int32) := nI_lt (b := 20) q (by decide)
          have d2 : ¬ nI n = (20 : Int32) := fun e => by have := (nI_eq (a := n) (b := 20) (by omega) (by decide)).mp e; omega
          obtain ⟨a, a1, a2, a3⟩ := rr_in_ab (a := 0) (b := 40) rfl rfl (by omega) (by decide) c
          rw [if_pos d, if_pos d, if_neg (show ¬ (1 : Int32) = 0 by decide), if_neg d2, if_neg d2, nI_clamp (by omega), nI_1]
          exact ⟨rfl, G, rr_tell1 h1 t3 q a3 (by omega), h2⟩
        · have en : n = 20 := by omega
          subst en
          rw [if_neg (show ¬ nI 20 < (20 : Int32) by decide), if_neg (show ¬ nI 20 < (20 : Int32) by decide), if_pos rfl, if_pos (show nI 20 = (20 : Int32) from rfl), if_pos (show nI 20 = (20 : Int32) from rfl)]
          exact ⟨rfl, h⟩
      · rw [if_neg c3, if_neg c3, if_neg c3, if_neg c3]
        exact ⟨rfl, h⟩
theorem rr_k.mono {Z' : hk_Z} {k : Nat} (h : rr_k Z τ σ k) (e1 : Z'.2.1 k = Z.2.1 k) (e2 : Z'.2.2 k = Z.2.2 k) (e0 : Z.1 0 ≤ Z'.1 0) : rr_k Z' τ σ k := by
  obtain ⟨h1, h2, h3, h4, n, f, pre, g1, g2, g3, g4, g5, g6, g7, g8, g9⟩ := h
  unfold rr_k
  rw [e1, e2]
  refine ⟨h1, h2, h3, h4, n, f, pre, g1, g2, g3, g4, g5, g6, g7, g8, fun j hj => ?_⟩
  obtain ⟨a1, a2, a3, g, a4, a5⟩ := g9 j hj
  exact ⟨a1, a2, a3, g, by omega, a5⟩
theorem rr_gardenR {P : Nat} {G : Nat → Nat → Nat} (h1 : rr_R Z nw w P G τ σ) (h6 : Z.1 0 < 6) {b : Nat} {bu fr tt y : Int32} (hb : bu = nI b) (hb2 : b ≤ 5000) : rr_R (hk_zu Z 0) nw w P G (hk_u (hk_u (hk_u (hk_u (hk_u (hk_zo τ (9, Z.1 0)) (9, Z.1 0) 0 fr) (9, Z.1 0) 1 tt) (9, Z.1 0) 2 bu) (1, 0) 0 y) (1, 0) 2 (nI (Z.1 0 + 1))) (hk_u (hk_u (hk_u (hk_u σ (1, 3) (Z.1 0) bu) (1, 4) (Z.1 0) fr) (1, 5) (Z.1 0) tt) (0, 0) 2 (nI (Z.1 0 + 1))) := by
  obtain ⟨hS, hD, hN, hK, hP, hTT, hC, hM, hL⟩ := id h1
  obtain ⟨s1, s2, ⟨s3, s4, s5⟩, s6, s7, s8, s9⟩ := id hS
  have a1 : ∀ c i j, c ≠ 9 → c ≠ 1 → (hk_u (hk_u (hk_u (hk_u (hk_u (hk_zo τ (9, Z.1 0)) (9, Z.1 0) 0 fr) (9, Z.1 0) 1 tt) (9, Z.1 0) 2 bu) (1, 0) 0 y) (1, 0) 2 (nI (Z.1 0 + 1))) (c, i) j = τ (c, i) j := fun c i j h9 h1 => by simp [hk_u_ap, hk_zo, h9, h1]
  have a2 : ∀ j, j ≠ 0 → (hk_u (hk_u (hk_u (hk_u (hk_u (hk_zo τ (9, Z.1 0)) (9, Z.1 0) 0 fr) (9, Z.1 0) 1 tt) (9, Z.1 0) 2 bu) (1, 0) 0 y) (1, 0) 2 (nI (Z.1 0 + 1))) (1, j) 2 = τ (1, j) 2 := fun j hj => by simp [hk_u_ap, hk_zo, hj]
  have a9 : ∀ i j, i ≠ Z.1 0 → (hk_u (hk_u (hk_u (hk_u (hk_u (hk_zo τ (9, Z.1 0)) (9, Z.1 0) 0 fr) (9, Z.1 0) 1 tt) (9, Z.1 0) 2 bu) (1, 0) 0 y) (1, 0) 2 (nI (Z.1 0 + 1))) (9, i) j = τ (9, i) j := fun i j hi => by simp [hk_u_ap, hk_zo, hi]
  have b1 : ∀ f j, f ≠ 3 → f ≠ 4 → f ≠ 5 → (hk_u (hk_u (hk_u (hk_u σ (1, 3) (Z.1 0) bu) (1, 4) (Z.1 0) fr) (1, 5) (Z.1 0) tt) (0, 0) 2 (nI (Z.1 0 + 1))) (1, f) j = σ (1, f) j := fun f j h1 h2 h3 => by simp [hk_u_ap, h1, h2, h3]
  have b2 : ∀ f j, j ≠ Z.1 0 → (hk_u (hk_u (hk_u (hk_u σ (1, 3) (Z.1 0) bu) (1, 4) (Z.1 0) fr) (1, 5) (Z.1 0) tt) (0, 0) 2 (nI (Z.1 0 + 1))) (1, f) j = σ (1, f) j := fun f j hj => by simp [hk_u_ap, hj]
  have b0 : ∀ f, f ≠ 2 → (hk_u (hk_u (hk_u (hk_u σ (1, 3) (Z.1 0) bu) (1, 4) (Z.1 0) fr) (1, 5) (Z.1 0) tt) (0, 0) 2 (nI (Z.1 0 + 1))) (0, 0) f = σ (0, 0) f := fun f h => by simp [hk_u_ap, h]
  have z0 : (hk_zu Z 0).1 0 = Z.1 0 + 1 := rfl
  have z1 : (hk_zu Z 0).1 1 = Z.1 1 := rfl
  have z2 : (hk_zu Z 0).1 2 = Z.1 2 := rfl
  refine ⟨⟨⟨⟨by simp [hk_u_ap, hk_zu], by rw [a2 1 (by decide)]; exact s1.1.2.1, by rw [a2 2 (by decide)]; exact s1.1.2.2⟩, by rw [z0]; omega, s1.2.2.1, s1.2.2.2⟩, ⟨⟨by simp [hk_u_ap, hk_zu], by rw [b0 9 (by decide)]; exact s2.1.2.1, by rw [b0 17 (by decide)]; exact s2.1.2.2⟩, by rw [z0]; omega, s2.2.2.1, s2.2.2.2⟩, ⟨by rw [a1 0 0 8 (by decide) (by decide)]; exact s3, by rw [b0 0 (by decide)]; exact s4, s5⟩, by rw [a1 0 0 9 (by decide) (by decide)]; exact s6, by rw [b0 1 (by decide)]; exact s7, s8, s9⟩, ⟨fun i hi => ?_, fun i hi => ?_⟩, ⟨fun i hi => ?_, fun i hi hi6 => ?_⟩, ⟨fun k hk => ?_, fun k hk => ?_⟩, hP.of (fun i j => a1 4 i j (by decide) (by decide)) (fun f _ _ => b0 f (by omega)) (fun f j _ _ => b1 f j (by omega) (by omega) (by omega)), hTT.of (fun i j => a1 5 i j (by decide) (by decide)) (fun i j => a1 6 i j (by decide) (by decide)) (fun i j => a1 7 i j (by decide) (by decide)) (fun f _ _ => b0 f (by omega)) (fun f j _ _ => b1 f j (by omega) (by omega) (by omega)), hC.of (fun i j => a1 3 i j (by decide) (by decide)), hM.of (fun j => b1 16 j (by decide) (by decide) (by decide)), ⟨fun i hi => ?_, fun h' g' hg' => ?_, hL.2.2⟩⟩
  · by_cases c : i = Z.1 0
    · subst c
      obtain ⟨d6, d7, d8⟩ := hD.2 (Z.1 0) (Nat.le_refl _)
      simp [hk_u_ap, hk_zo, d6, d7, d8]
    · rw [z0] at hi
      rw [a9 i _ c, a9 i _ c, a9 i _ c, a9 i _ c, a9 i _ c, a9 i _ c, b2 _ i c, b2 _ i c, b2 _ i c, b2 _ i c, b2 _ i c, b2 _ i c]
      exact hD.1 i (by omega)
  · rw [z0] at hi
    rw [b1 6 i (by decide) (by decide) (by decide), b1 7 i (by decide) (by decide) (by decide), b1 8 i (by decide) (by decide) (by decide)]
    exact hD.2 i (by omega)
  · obtain ⟨m1, m7, m8, m9⟩ := hN.1 i hi
    rw [a1 10 i _ (by decide) (by decide), a1 10 i _ (by decide) (by decide), a1 10 i _ (by decide) (by decide), a1 10 i _ (by decide) (by decide), a1 10 i _ (by decide) (by decide), a1 10 i _ (by decide) (by decide), b1 10 i (by decide) (by decide) (by decide), b1 11 i (by decide) (by decide) (by decide), b1 12 i (by decide) (by decide) (by decide), b1 13 i (by decide) (by decide) (by decide), b1 14 i (by decide) (by decide) (by decide), b1 15 i (by decide) (by decide) (by decide)]
    refine ⟨m1, m7, m8, ?_⟩
    rcases m9 with m9 | ⟨a, m9, m10⟩
    · exact Or.inl m9
    · exact Or.inr ⟨a, by rw [z0]; omega, m10⟩
  · rw [b1 12 i (by decide) (by decide) (by decide), b1 13 i (by decide) (by decide) (by decide), b1 14 i (by decide) (by decide) (by decide), b1 15 i (by decide) (by decide) (by decide)]
    exact hN.2 i hi hi6
  · exact ((hK.1 k hk).mono (Z' := hk_zu Z 0) rfl rfl (by rw [z0]; omega)).of (fun j => a1 11 k j (by decide) (by decide)) (fun j => a1 13 k j (by decide) (by decide)) (fun j => a1 14 k j (by decide) (by decide)) (fun f _ _ => b1 f k (by omega) (by omega) (by omega)) (fun b _ => b1 23 _ (by decide) (by decide) (by decide))
  · rw [b1 21 k (by decide) (by decide) (by decide), b1 22 k (by decide) (by decide) (by decide)]
    exact hK.2 k hk
  · by_cases c : i = Z.1 0
    · subst c
      refine ⟨b, by simp [hk_u_ap, hk_zo, hb], fun h' => ?_⟩
      rw [hL.2.1 h' (Z.1 0) (Nat.le_refl _)]
      omega
    · rw [z0] at hi
      obtain ⟨l, l1, l2⟩ := hL.1 i (by omega)
      exact ⟨l, by rw [a9 i 2 c]; exact l1, l2⟩
  · rw [z0] at hg'
    exact hL.2.1 h' g' (by omega)
theorem rr_garden (h : rr_I Z nw w τ σ) (bu fr tt : Int32) : F_garden Z τ bu fr tt = F_m_garden σ bu fr tt ∧ rr_I (Z_garden Z τ bu fr tt) nw w (T_garden Z τ bu fr tt) (T_m_garden σ bu fr tt) := by
  obtain ⟨G, h1, h2⟩ := id h
  obtain ⟨s1, s2, s3⟩ := id h1.1
  unfold F_garden F_m_garden T_garden T_m_garden Z_garden
  rw [s1.1.1, s2.1.1]
  by_cases c : hk_in bu 1 5000 = 0
  · rw [if_pos c, if_pos c, if_pos c, if_pos c, if_pos c]
    exact ⟨rfl, h⟩
  · rw [if_neg c, if_neg c, if_neg c, if_neg c, if_neg c]
    by_cases c2 : hk_in fr 0 40 = 0
    · rw [if_pos c2, if_pos c2, if_pos c2, if_pos c2, if_pos c2]
      exact ⟨rfl, h⟩
    · rw [if_neg c2, if_neg c2, if_neg c2, if_neg c2, if_neg c2]
      by_cases c3 : hk_in tt fr 40 = 0
      · rw [if_pos c3, if_pos c3, if_pos c3, if_pos c3, if_pos c3]
        exact ⟨rfl, h⟩
      · rw [if_neg c3, if_neg c3, if_neg c3, if_neg c3, if_neg c3]
        rcases Nat.lt_or_ge (Z.1 0) 6 with q | q
        · have d : nI (Z.1 0) < (6 : Int32) := nI_lt (b := 6) q (by decide)
          have d2 : ¬ nI (Z.1 0) = (6 : Int32) := fun e => by have := (nI_eq (a := Z.1 0) (b := 6) (by omega) (by decide)).mp e; omega
          obtain ⟨b, e1, e2, e3⟩ := rr_in_ab (a := 1) (b := 5000) rfl rfl (by omega) (by decide) c
          rw [if_pos d, if_pos d, if_pos d, if_neg d2, if_neg d2, nI_clamp (by omega), nI_1]
          exact ⟨rfl, G, rr_gardenR h1 q e3 e2, h2⟩
        · have en : Z.1 0 = 6 := by have := s1.2.1; omega
          have d : ¬ nI (Z.1 0) < (6 : Int32) := by rw [en]; decide
          have d2 : nI (Z.1 0) = (6 : Int32) := by rw [en]; rfl
          rw [if_neg d, if_neg d, if_neg d, if_pos d2, if_pos d2]
          exact ⟨rfl, h⟩
theorem rr_gangR {P : Nat} {G : Nat → Nat → Nat} (h1 : rr_R Z nw w P G τ σ) (h6 : Z.1 1 < 6) {r m : Nat} {rt ms y : Int32} (hr : rt = nI r) (hr2 : r ≤ 30) (hm : ms = nI m) (hm2 : 80 ≤ m) (hm3 : m ≤ 120) : rr_R (hk_zu Z 1) nw w P G (hk_u (hk_u (hk_u (hk_u (hk_u (hk_zo τ (10, Z.1 1)) (10, Z.1 1) 0 rt) (10, Z.1 1) 1 ms) (10, Z.1 1) 2 (-9)) (1, 1) 0 y) (1, 1) 2 (nI (Z.1 1 + 1))) (hk_u (hk_u (hk_u σ (1, 10) (Z.1 1) rt) (1, 11) (Z.1 1) ms) (0, 0) 9 (nI (Z.1 1 + 1))) := by
  obtain ⟨hS, hD, hN, hK, hP, hTT, hC, hM, hL⟩ := id h1
  obtain ⟨s1, s2, ⟨s3, s4, s5⟩, s6, s7, s8, s9⟩ := id hS
  have a1 : ∀ c i j, c ≠ 10 → c ≠ 1 → (hk_u (hk_u (hk_u (hk_u (hk_u (hk_zo τ (10, Z.1 1)) (10, Z.1 1) 0 rt) (10, Z.1 1) 1 ms) (10, Z.1 1) 2 (-9)) (1, 1) 0 y) (1, 1) 2 (nI (Z.1 1 + 1))) (c, i) j = τ (c, i) j := fun c i j h9 h1 => by simp [hk_u_ap, hk_zo, h9, h1]
  have a2 : ∀ j, j ≠ 1 → (hk_u (hk_u (hk_u (hk_u (hk_u (hk_zo τ (10, Z.1 1)) (10, Z.1 1) 0 rt) (10, Z.1 1) 1 ms) (10, Z.1 1) 2 (-9)) (1, 1) 0 y) (1, 1) 2 (nI (Z.1 1 + 1))) (1, j) 2 = τ (1, j) 2 := fun j hj => by simp [hk_u_ap, hk_zo, hj]
  have a9 : ∀ i j, i ≠ Z.1 1 → (hk_u (hk_u (hk_u (hk_u (hk_u (hk_zo τ (10, Z.1 1)) (10, Z.1 1) 0 rt) (10, Z.1 1) 1 ms) (10, Z.1 1) 2 (-9)) (1, 1) 0 y) (1, 1) 2 (nI (Z.1 1 + 1))) (10, i) j = τ (10, i) j := fun i j hi => by simp [hk_u_ap, hk_zo, hi]
  have b1 : ∀ f j, f ≠ 10 → f ≠ 11 → (hk_u (hk_u (hk_u σ (1, 10) (Z.1 1) rt) (1, 11) (Z.1 1) ms) (0, 0) 9 (nI (Z.1 1 + 1))) (1, f) j = σ (1, f) j := fun f j h1 h2 => by simp [hk_u_ap, h1, h2]
  have b2 : ∀ f j, j ≠ Z.1 1 → (hk_u (hk_u (hk_u σ (1, 10) (Z.1 1) rt) (1, 11) (Z.1 1) ms) (0, 0) 9 (nI (Z.1 1 + 1))) (1, f) j = σ (1, f) j := fun f j hj => by simp [hk_u_ap, hj]
  have b0 : ∀ f, f ≠ 9 → (hk_u (hk_u (hk_u σ (1, 10) (Z.1 1) rt) (1, 11) (Z.1 1) ms) (0, 0) 9 (nI (Z.1 1 + 1))) (0, 0) f = σ (0, 0) f := fun f h => by simp [hk_u_ap, h]
  have z0 : (hk_zu Z 1).1 0 = Z.1 0 := rfl
  have z1 : (hk_zu Z 1).1 1 = Z.1 1 + 1 := rfl
  have z2 : (hk_zu Z 1).1 2 = Z.1 2 := rfl
  refine ⟨⟨⟨⟨by rw [a2 0 (by decide)]; exact s1.1.1, by simp [hk_u_ap, hk_zu], by rw [a2 2 (by decide)]; exact s1.1.2.2⟩, s1.2.1, by rw [z1]; omega, s1.2.2.2⟩, ⟨⟨by rw [b0 2 (by decide)]; exact s2.1.1, by simp [hk_u_ap, hk_zu], by rw [b0 17 (by decide)]; exact s2.1.2.2⟩, s2.2.1, by rw [z1]; omega, s2.2.2.2⟩, ⟨by rw [a1 0 0 8 (by decide) (by decide)]; exact s3, by rw [b0 0 (by decide)]; exact s4, s5⟩, by rw [a1 0 0 9 (by decide) (by decide)]; exact s6, by rw [b0 1 (by decide)]; exact s7, s8, s9⟩, ⟨fun i hi => ?_, fun i hi => ?_⟩, ⟨fun i hi => ?_, fun i hi hi6 => ?_⟩, ⟨fun k hk => ?_, fun k hk => ?_⟩, hP.of (fun i j => a1 4 i j (by decide) (by decide)) (fun f _ _ => b0 f (by omega)) (fun f j _ _ => b1 f j (by omega) (by omega)), hTT.of (fun i j => a1 5 i j (by decide) (by decide)) (fun i j => a1 6 i j (by decide) (by decide)) (fun i j => a1 7 i j (by decide) (by decide)) (fun f _ _ => b0 f (by omega)) (fun f j _ _ => b1 f j (by omega) (by omega)), hC.of (fun i j => a1 3 i j (by decide) (by decide)), hM.of (fun j => b1 16 j (by decide) (by decide)), ⟨fun i hi => ?_, hL.2.1, hL.2.2⟩⟩
  · rw [a1 9 i _ (by decide) (by decide), a1 9 i _ (by decide) (by decide), a1 9 i _ (by decide) (by decide), a1 9 i _ (by decide) (by decide), a1 9 i _ (by decide) (by decide), a1 9 i _ (by decide) (by decide), b1 4 i (by decide) (by decide), b1 5 i (by decide) (by decide), b1 3 i (by decide) (by decide), b1 6 i (by decide) (by decide), b1 7 i (by decide) (by decide), b1 8 i (by decide) (by decide)]
    exact hD.1 i hi
  · rw [b1 6 i (by decide) (by decide), b1 7 i (by decide) (by decide), b1 8 i (by decide) (by decide)]
    exact hD.2 i hi
  · by_cases c : i = Z.1 1
    · subst c
      obtain ⟨d5, d6, d7, d8⟩ := hN.2 (Z.1 1) (Nat.le_refl _) h6
      refine ⟨by simp [hk_u_ap, hk_zo, d5, d6, d7, d8], ⟨r, hr2, by simp [hk_u_ap, hk_zo, hr]⟩, ?_, Or.inl (by simp [hk_u_ap, hk_zo])⟩
      have : ¬ ms = 0 := by rw [hm]; exact nI_ne0 (by omega) (by omega)
      simpa [hk_u_ap, hk_zo] using this
    · rw [z1] at hi
      rw [a9 i _ c, a9 i _ c, a9 i _ c, a9 i _ c, a9 i _ c, a9 i _ c, b2 _ i c, b2 _ i c, b2 _ i c, b2 _ i c, b2 _ i c, b2 _ i c]
      exact hN.1 i (by omega)
  · rw [z1] at hi
    rw [b1 12 i (by decide) (by decide), b1 13 i (by decide) (by decide), b1 14 i (by decide) (by decide), b1 15 i (by decide) (by decide)]
    exact hN.2 i (by omega) hi6
  · exact ((hK.1 k hk).mono (Z' := hk_zu Z 1) rfl rfl (Nat.le_refl _)).of (fun j => a1 11 k j (by decide) (by decide)) (fun j => a1 13 k j (by decide) (by decide)) (fun j => a1 14 k j (by decide) (by decide)) (fun f _ _ => b1 f k (by omega) (by omega)) (fun b _ => b1 23 _ (by decide) (by decide))
  · rw [b1 21 k (by decide) (by decide), b1 22 k (by decide) (by decide)]
    exact hK.2 k hk
  · obtain ⟨l, l1, l2⟩ := hL.1 i hi
    exact ⟨l, by rw [a1 9 i 2 (by decide) (by decide)]; exact l1, l2⟩
theorem rr_gang (h : rr_I Z nw w τ σ) (rt ms : Int32) : F_gang Z τ rt ms = F_m_gang σ rt ms ∧ rr_I (Z_gang Z τ rt ms) nw w (T_gang Z τ rt ms) (T_m_gang σ rt ms) := by
  obtain ⟨G, h1, h2⟩ := id h
  obtain ⟨s1, s2, s3⟩ := id h1.1
  unfold F_gang F_m_gang T_gang T_m_gang Z_gang
  rw [s1.1.2.1, s2.1.2.1]
  by_cases c : hk_in rt 1 30 = 0
  · rw [if_pos c, if_pos c, if_pos c, if_pos c, if_pos c]
    exact ⟨rfl, h⟩
  · rw [if_neg c, if_neg c, if_neg c, if_neg c, if_neg c]
    by_cases c2 : hk_in ms 80 120 = 0
    · rw [if_pos c2, if_pos c2, if_pos c2, if_pos c2, if_pos c2]
      exact ⟨rfl, h⟩
    · rw [if_neg c2, if_neg c2, if_neg c2, if_neg c2, if_neg c2]
      rcases Nat.lt_or_ge (Z.1 1) 6 with q | q
      · have d : nI (Z.1 1) < (6 : Int32) := nI_lt (b := 6) q (by decide)
        have d2 : ¬ nI (Z.1 1) = (6 : Int32) := fun e => by have := (nI_eq (a := Z.1 1) (b := 6) (by omega) (by decide)).mp e; omega
        obtain ⟨r, e1, e2, e3⟩ := rr_in_ab (a := 1) (b := 30) rfl rfl (by omega) (by decide) c
        obtain ⟨m, f1, f2, f3⟩ := rr_in_ab (a := 80) (b := 120) rfl rfl (by omega) (by decide) c2
        rw [if_pos d, if_pos d, if_pos d, if_neg d2, if_neg d2, nI_clamp (by omega), nI_1]
        exact ⟨rfl, G, rr_gangR h1 q e3 e2 f3 f1 f2, h2⟩
      · have en : Z.1 1 = 6 := by have := s1.2.2.1; omega
        have d : ¬ nI (Z.1 1) < (6 : Int32) := by rw [en]; decide
        have d2 : nI (Z.1 1) = (6 : Int32) := by rw [en]; rfl
        rw [if_neg d, if_neg d, if_neg d, if_pos d2, if_pos d2]
        exact ⟨rfl, h⟩
theorem rr_kilnR {P : Nat} {G : Nat → Nat → Nat} (h1 : rr_R Z nw w P G τ σ) (h6 : Z.1 2 < 4) {r : Nat} {kd rm y : Int32} (hkd : kd = 0 ∨ kd = 1 ∨ kd = 2) (hr : rm = nI r) (hr1 : 1 ≤ r) (hr2 : r ≤ 200) : rr_R (hk_zk Z (hk_kc kd) r) nw w P G (hk_u (hk_u (hk_u (hk_zo (hk_zo (hk_u (hk_zo (hk_zo τ (11, Z.1 2)) (12, Z.1 2)) (11, Z.1 2) 1 rm) (13, Z.1 2)) (14, Z.1 2)) (11, Z.1 2) 7 50) (1, 2) 0 y) (1, 2) 2 (nI (Z.1 2 + 1))) (hk_u (hk_u (hk_u (hk_u σ (1, 18) (Z.1 2) kd) (1, 19) (Z.1 2) rm) (1, 20) (Z.1 2) 50) (0, 0) 17 (nI (Z.1 2 + 1))) := by
  obtain ⟨hS, hD, hN, hK, hP, hTT, hC, hM, hL⟩ := id h1
  obtain ⟨s1, s2, ⟨s3, s4, s5⟩, s6, s7, s8, s9⟩ := id hS
  have a1 : ∀ c i j, c ≠ 11 → c ≠ 12 → c ≠ 13 → c ≠ 14 → c ≠ 1 → (hk_u (hk_u (hk_u (hk_zo (hk_zo (hk_u (hk_zo (hk_zo τ (11, Z.1 2)) (12, Z.1 2)) (11, Z.1 2) 1 rm) (13, Z.1 2)) (14, Z.1 2)) (11, Z.1 2) 7 50) (1, 2) 0 y) (1, 2) 2 (nI (Z.1 2 + 1))) (c, i) j = τ (c, i) j := fun c i j h1 h2 h3 h4 h5 => by simp [hk_u_ap, hk_zo, h1, h2, h3, h4, h5]
  have a2 : ∀ j, j ≠ 2 → (hk_u (hk_u (hk_u (hk_zo (hk_zo (hk_u (hk_zo (hk_zo τ (11, Z.1 2)) (12, Z.1 2)) (11, Z.1 2) 1 rm) (13, Z.1 2)) (14, Z.1 2)) (11, Z.1 2) 7 50) (1, 2) 0 y) (1, 2) 2 (nI (Z.1 2 + 1))) (1, j) 2 = τ (1, j) 2 := fun j hj => by simp [hk_u_ap, hk_zo, hj]
  have a9 : ∀ c i j, i ≠ Z.1 2 → c ≠ 1 → (hk_u (hk_u (hk_u (hk_zo (hk_zo (hk_u (hk_zo (hk_zo τ (11, Z.1 2)) (12, Z.1 2)) (11, Z.1 2) 1 rm) (13, Z.1 2)) (14, Z.1 2)) (11, Z.1 2) 7 50) (1, 2) 0 y) (1, 2) 2 (nI (Z.1 2 + 1))) (c, i) j = τ (c, i) j := fun c i j hi h1 => by simp [hk_u_ap, hk_zo, hi, h1]
  have b1 : ∀ f j, f ≠ 18 → f ≠ 19 → f ≠ 20 → (hk_u (hk_u (hk_u (hk_u σ (1, 18) (Z.1 2) kd) (1, 19) (Z.1 2) rm) (1, 20) (Z.1 2) 50) (0, 0) 17 (nI (Z.1 2 + 1))) (1, f) j = σ (1, f) j := fun f j h1 h2 h3 => by simp [hk_u_ap, h1, h2, h3]
  have b2 : ∀ f j, j ≠ Z.1 2 → (hk_u (hk_u (hk_u (hk_u σ (1, 18) (Z.1 2) kd) (1, 19) (Z.1 2) rm) (1, 20) (Z.1 2) 50) (0, 0) 17 (nI (Z.1 2 + 1))) (1, f) j = σ (1, f) j := fun f j hj => by simp [hk_u_ap, hj]
  have b0 : ∀ f, f ≠ 17 → (hk_u (hk_u (hk_u (hk_u σ (1, 18) (Z.1 2) kd) (1, 19) (Z.1 2) rm) (1, 20) (Z.1 2) 50) (0, 0) 17 (nI (Z.1 2 + 1))) (0, 0) f = σ (0, 0) f := fun f h => by simp [hk_u_ap, h]
  have z0 : (hk_zk Z (hk_kc kd) r).1 0 = Z.1 0 := rfl
  have z1 : (hk_zk Z (hk_kc kd) r).1 1 = Z.1 1 := rfl
  have z2 : (hk_zk Z (hk_kc kd) r).1 2 = Z.1 2 + 1 := rfl
  refine ⟨⟨⟨⟨by rw [a2 0 (by decide)]; exact s1.1.1, by rw [a2 1 (by decide)]; exact s1.1.2.1, by simp [hk_u_ap, hk_zk]⟩, s1.2.1, s1.2.2.1, by rw [z2]; omega⟩, ⟨⟨by rw [b0 2 (by decide)]; exact s2.1.1, by rw [b0 9 (by decide)]; exact s2.1.2.1, by simp [hk_u_ap, hk_zk]⟩, s2.2.1, s2.2.2.1, by rw [z2]; omega⟩, ⟨by rw [a1 0 0 8 (by decide) (by decide) (by decide) (by decide) (by decide)]; exact s3, by rw [b0 0 (by decide)]; exact s4, s5⟩, by rw [a1 0 0 9 (by decide) (by decide) (by decide) (by decide) (by decide)]; exact s6, by rw [b0 1 (by decide)]; exact s7, s8, s9⟩, ?_, ?_, ⟨fun k hk => ?_, fun k hk => ?_⟩, hP.of (fun i j => a1 4 i j (by decide) (by decide) (by decide) (by decide) (by decide)) (fun f _ _ => b0 f (by omega)) (fun f j _ _ => b1 f j (by omega) (by omega) (by omega)), hTT.of (fun i j => a1 5 i j (by decide) (by decide) (by decide) (by decide) (by decide)) (fun i j => a1 6 i j (by decide) (by decide) (by decide) (by decide) (by decide)) (fun i j => a1 7 i j (by decide) (by decide) (by decide) (by decide) (by decide)) (fun f _ _ => b0 f (by omega)) (fun f j _ _ => b1 f j (by omega) (by omega) (by omega)), hC.of (fun i j => a1 3 i j (by decide) (by decide) (by decide) (by decide) (by decide)), hM.of (fun j => b1 16 j (by decide) (by decide) (by decide)), ?_⟩
  · exact rr_D.of (Z := Z) hD (fun i j => a1 9 i j (by decide) (by decide) (by decide) (by decide) (by decide)) (fun f j _ _ => b1 f j (by omega) (by omega) (by omega))
  · exact rr_N.of (Z := Z) hN (fun i j => a1 10 i j (by decide) (by decide) (by decide) (by decide) (by decide)) (fun f j _ _ => b1 f j (by omega) (by omega) (by omega))
  · by_cases c : k = Z.1 2
    · subst c
      obtain ⟨d1, d2⟩ := hK.2 (Z.1 2) (Nat.le_refl _)
      have y1 : (hk_zk Z (hk_kc kd) r).2.1 (Z.1 2) = hk_kc kd := if_pos rfl
      have y2 : (hk_zk Z (hk_kc kd) r).2.2 (Z.1 2) = r := if_pos rfl
      unfold rr_k
      rw [y1, y2]
      refine ⟨?_, ⟨by simp [hk_u_ap, hk_zo, hr], by simp [hk_u_ap, hr], hr1, hr2⟩, ⟨50, by omega, by simp [hk_u_ap, hk_zo]; rfl, by simp [hk_u_ap]; rfl⟩, by simp [hk_u_ap, hk_zo, d1], 0, 0, fun _ => 0, by simp [hk_u_ap, hk_zo]; rfl, by simp [hk_u_ap, hk_zo]; rfl, by simp [hk_u_ap, d2]; rfl, by omega, by omega, fun _ => by simp [hk_u_ap, hk_zo], rfl, rfl, fun j hj => by omega⟩
      rw [show (hk_u (hk_u (hk_u (hk_u σ (1, 18) (Z.1 2) kd) (1, 19) (Z.1 2) rm) (1, 20) (Z.1 2) 50) (0, 0) 17 (nI (Z.1 2 + 1))) (1, 18) (Z.1 2) = kd by simp [hk_u_ap]]
      rcases hkd with rfl | rfl | rfl
      · exact Or.inl ⟨rfl, rfl⟩
      · exact Or.inr (Or.inl ⟨rfl, rfl⟩)
      · exact Or.inr (Or.inr ⟨rfl, rfl⟩)
    · rw [z2] at hk
      exact ((hK.1 k (by omega)).mono (Z' := hk_zk Z (hk_kc kd) r) (if_neg c) (if_neg c) (Nat.le_refl _)).of (fun j => a9 11 k j c (by decide)) (fun j => a9 13 k j c (by decide)) (fun j => a9 14 k j c (by decide)) (fun f _ _ => b2 f k c) (fun b _ => b1 23 _ (by decide) (by decide) (by decide))
  · rw [z2] at hk
    rw [b1 21 k (by decide) (by decide) (by decide), b1 22 k (by decide) (by decide) (by decide)]
    exact hK.2 k (by omega)
  · exact rr_L.of (Z := Z) hL (fun i => a1 9 i 2 (by decide) (by decide) (by decide) (by decide) (by decide))
theorem rr_kiln (h : rr_I Z nw w τ σ) (kd rm : Int32) : F_kiln Z τ kd rm = F_m_kiln σ kd rm ∧ rr_I (Z_kiln Z τ kd rm) nw w (T_kiln Z τ kd rm) (T_m_kiln σ kd rm) := by
  obtain ⟨G, h1, h2⟩ := id h
  obtain ⟨s1, s2, s3⟩ := id h1.1
  unfold F_kiln F_m_kiln T_kiln T_m_kiln Z_kiln
  rw [s1.1.2.2, s2.1.2.2]
  by_cases c : hk_in kd 0 2 = 0
  · rw [if_pos c, if_pos c, if_pos c, if_pos c, if_pos c]
    exact ⟨rfl, h⟩
  · rw [if_neg c, if_neg c, if_neg c, if_neg c, if_neg c]
    by_cases c2 : hk_in rm 1 200 = 0
    · rw [if_pos c2, if_pos c2, if_pos c2, if_pos c2, if_pos c2]
      exact ⟨rfl, h⟩
    · rw [if_neg c2, if_neg c2, if_neg c2, if_neg c2, if_neg c2]
      rcases Nat.lt_or_ge (Z.1 2) 4 with q | q
      · have d : nI (Z.1 2) < (4 : Int32) := nI_lt (b := 4) q (by decide)
        have d2 : ¬ nI (Z.1 2) = (4 : Int32) := fun e => by have := (nI_eq (a := Z.1 2) (b := 4) (by omega) (by decide)).mp e; omega
        obtain ⟨e1, e2, e3⟩ := hk_in_1n (n := 200) rfl (by decide) c2
        rw [if_pos d, if_pos d, if_pos d, if_neg d2, if_neg d2, nI_clamp (by omega), nI_1]
        exact ⟨rfl, G, rr_kilnR h1 q (hk_in_02 c) e1 e2 e3, h2⟩
      · have en : Z.1 2 = 4 := by have := s1.2.2.2; omega
        have d : ¬ nI (Z.1 2) < (4 : Int32) := by rw [en]; decide
        have d2 : nI (Z.1 2) = (4 : Int32) := by rw [en]; rfl
        rw [if_neg d, if_neg d, if_neg d, if_pos d2, if_pos d2]
        exact ⟨rfl, h⟩
end RRM
