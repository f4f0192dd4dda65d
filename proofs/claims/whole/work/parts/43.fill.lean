/-! the hour's fourth step: empty kilns take green -/
theorem rr_us (t : hk_v) (q : Nat × Nat) (k : Nat) {x : Int32} (h : t q k = x) : hk_u t q k x = t := by
  funext q' j
  simp only [hk_u_ap]
  split
  · rename_i e
    rw [e.1, e.2]
    exact h.symm
  · rfl
theorem rr_tw {k at0 R : Nat} (hk : k < 4) (hR : R ≤ 200) : ∀ (n c : Nat) (s : hk_v) (x f : Nat), c < n → s (1, 16) at0 = nI x → s (1, 22) k = nI f → s (1, 19) k = nI R → f ≤ R → c = min x (R - f) → x ≤ 5000 → (∀ j, hk_wh (B_m_tw k at0) n s (1, 16) j = if j = at0 then nI (x - c) else s (1, 16) j) ∧ (∀ j, hk_wh (B_m_tw k at0) n s (1, 22) j = if j = k then nI (f + c) else s (1, 22) j) ∧ (∀ j, hk_wh (B_m_tw k at0) n s (1, 23) j = if 200 * k + f ≤ j ∧ j < 200 * k + f + c then nI (at0 % 6) else s (1, 23) j) ∧ ∀ q j, q ≠ (1, 16) → q ≠ (1, 22) → q ≠ (1, 23) → hk_wh (B_m_tw k at0) n s q j = s q j
  | 0, c, s, x, f, h, _, _, _, _, _, _ => by omega
  | n + 1, 0, s, x, f, _, h1, h2, h3, hf, hc, hx => by
    have e : B_m_tw k at0 s = none := by
      unfold B_m_tw
      rw [h1, h2, h3]
      rcases Nat.eq_zero_or_pos x with q | q
      · subst q
        rw [if_pos (by decide)]
      · rw [if_neg (nI_nle q (by omega)), if_pos (nI_le (by omega) (by omega))]
    rw [hk_wh_n e]
    refine ⟨fun j => ?_, fun j => ?_, fun j => ?_, fun _ _ _ _ _ => rfl⟩
    · split
      · rename_i q; rw [q]; exact h1
      · rfl
    · split
      · rename_i q; rw [q]; exact h2
      · rfl
    · rw [if_neg (by omega)]
  | n + 1, c + 1, s, x, f, hn, h1, h2, h3, hf, hc, hx => by
    have e : B_m_tw k at0 s = some (hk_u (hk_u (hk_u s (1, 16) at0 (nI (x - 1))) (1, 23) (200 * k + f) (nI (at0 % 6))) (1, 22) k (nI (f + 1))) := by
      unfold B_m_tw
      rw [h1, h2, h3, if_neg (nI_nle (by omega) (by omega)), if_neg (nI_ge (by omega) (by omega)), nI_add, nI_clamp (by omega), nI_1, show (1 : Int32) = nI 1 from rfl, pk_sub (by omega)]
    rw [hk_wh_s e]
    obtain ⟨i1, i2, i3, i4⟩ := rr_tw (at0 := at0) hk hR n c (hk_u (hk_u (hk_u s (1, 16) at0 (nI (x - 1))) (1, 23) (200 * k + f) (nI (at0 % 6))) (1, 22) k (nI (f + 1))) (x - 1) (f + 1) (by omega) (by simp [hk_u_ap]) (by simp [hk_u_ap]) (by simp [hk_u_ap, h3]) (by omega) (by omega) (by omega)
    refine ⟨fun j => ?_, fun j => ?_, fun j => ?_, fun q j q1 q2 q3 => ?_⟩
    · rw [i1 j]
      by_cases d : j = at0
      · rw [if_pos d, if_pos d]; congr 1; omega
      · rw [if_neg d, if_neg d]; simp [hk_u_ap, d]
    · rw [i2 j]
      by_cases d : j = k
      · rw [if_pos d, if_pos d]; congr 1; omega
      · rw [if_neg d, if_neg d]; simp [hk_u_ap, d]
    · rw [i3 j]
      by_cases d : 200 * k + (f + 1) ≤ j ∧ j < 200 * k + (f + 1) + c
      · rw [if_pos d, if_pos (by omega)]
      · rw [if_neg d]
        by_cases d2 : j = 200 * k + f
        · rw [if_pos (by omega), d2]; simp [hk_u_ap]
        · rw [if_neg (by omega)]; simp [hk_u_ap, d2]
    · rw [i4 q j q1 q2 q3]
      simp only [hk_u_ap, q1, q2, q3, false_and, if_false]
section RRF
variable {Z : hk_Z} {nw w P : Nat} {G : Nat → Nat → Nat} {t σ : hk_v}
theorem rr_R.bd (h : rr_R Z nw w P G t σ) (h' g : Nat) : G h' g ≤ 5000 := by
  obtain ⟨hS, hD, hN, hK, hP, hTT, hC, hM, hL⟩ := h
  rcases Nat.lt_or_ge g (Z.1 0) with q | q
  · obtain ⟨l, -, h2⟩ := hL.1 g q
    have := h2 h'
    omega
  · rw [hL.2.1 h' g q]; omega
theorem rr_R.ga (h : rr_R Z nw w P G t σ) (a g : Nat) : rr_ga G nw a g ≤ 5000 := by
  unfold rr_ga
  split
  · exact h.bd _ _
  · omega
theorem rr_R.sm (h : rr_R Z nw w P G t σ) : rr_sum (fun a => rr_sum (fun g => rr_ga G nw a g) 6) 25 ≤ 750000 :=
  rr_sum_b (B := 30000) (fun a _ => rr_sum_b (B := 5000) (fun g _ => h.ga a g))
/-- nothing is taken -/
theorem rr_cell0 (h : rr_R Z nw w P G t σ) {k a g f : Nat} (hk : k < Z.1 2) (ha : a < 25) (hg : g < Z.1 0) (hf : t (11, k) 5 = nI f) (hf2 : f ≤ Z.2.2 k) (hc : min (rr_ga G nw a g) (Z.2.2 k - f) = 0) : B_fillg k a Z g t = t := by
  have hga := h.ga a g
  obtain ⟨hS, hD, hN, hK, hP, hTT, hC, hM, hL⟩ := h
  obtain ⟨s1, s2, ⟨s3, s4, s5⟩, s6⟩ := id hS
  obtain ⟨k1, ⟨k2, k3, k4, k5⟩, k6⟩ := hK.1 k hk
  have hg6 : g < 6 := by have := s1.2.1; omega
  have ef : F_free t k = nI (Z.2.2 k - f) := by unfold F_free; rw [k2, hf, pk_sub hf2]
  obtain ⟨q1, q2, q3⟩ := rr_give (A := rr_ga G nw) hC s3 s5 (m := Z.2.2 k - f) ha hg6 (by omega) (by omega)
  rw [hc] at q1 q2
  unfold B_fillg
  split
  · rfl
  · split
    · rfl
    · rw [ef, q1, q2]
      unfold T_take
      rw [if_pos (by decide), Nat.sub_zero, Nat.sub_zero, rr_us t (3, 1) _ (hC.1 a g ha hg6), rr_us t (3, 0) _ hC.2]
theorem rr_cell (h : rr_R Z nw w P G t σ) {k a g : Nat} (hk : k < Z.1 2) (ha : a < 25) (hn : a ≤ nw) (hg : g < Z.1 0) : ∃ G', rr_R Z nw w P G' (B_fillg k a Z g t) (B_m_tk k (6 * (nw - a) + g) σ) ∧ ∀ h g, G' h g ≤ G h g := by
  have h0 := h
  have hsm := h.sm
  have hbd := h.bd (nw - a) g
  obtain ⟨hS, hD, hN, hK, hP, hTT, hC, hM, hL⟩ := h
  obtain ⟨s1, s2, ⟨s3, s4, s5⟩, s6⟩ := id hS
  obtain ⟨k1, ⟨k2, k3, k4, k5⟩, k6, k9, n, f, pre, g1, g2, g3, g4, g5, g6, g7⟩ := hK.1 k hk
  have hg6 : g < 6 := by have := s1.2.1; omega
  have hk4 : k < 4 := by have := s1.2.2.2; omega
  have ega : rr_ga G nw a g = G (nw - a) g := by unfold rr_ga; rw [if_pos hn]
  have em : σ (1, 16) (6 * (nw - a) + g) = nI (G (nw - a) g) := hM _ _ (by omega) hg6
  obtain ⟨w1, w2, w3, w4⟩ := rr_tw (at0 := 6 * (nw - a) + g) hk4 k5 201 (min (G (nw - a) g) (Z.2.2 k - f)) σ (G (nw - a) g) f (by omega) em g3 k3 g4 rfl hbd
  by_cases c : min (G (nw - a) g) (Z.2.2 k - f) = 0
  · have e1 := rr_cell0 h0 hk ha hg g2 g4 (by rw [ega]; exact c)
    rw [e1]
    rw [c] at w1 w2 w3
    have e2 : B_m_tk k (6 * (nw - a) + g) σ = σ := by
      funext q j
      show hk_wh (B_m_tw k (6 * (nw - a) + g)) 201 σ q j = σ q j
      by_cases q16 : q = (1, 16)
      · subst q16
        rw [w1 j]
        split
        · rename_i e; rw [e, em]; rfl
        · rfl
      · by_cases q22 : q = (1, 22)
        · subst q22
          rw [w2 j]
          split
          · rename_i e; rw [e, g3]; rfl
          · rfl
        · by_cases q23 : q = (1, 23)
          · subst q23
            rw [w3 j, if_neg (by omega)]
          · exact w4 q j q16 q22 q23
    rw [e2]
    exact ⟨G, h0, fun _ _ => Nat.le_refl _⟩
  · obtain ⟨x, hx⟩ : ∃ x, x = G (nw - a) g := ⟨_, rfl⟩
    rw [← hx] at c w1 w2 w3 hbd ega em
    obtain ⟨cc, hcc⟩ : ∃ cc, cc = min x (Z.2.2 k - f) := ⟨_, rfl⟩
    rw [← hcc] at c w1 w2 w3
    have ef : F_free t k = nI (Z.2.2 k - f) := by unfold F_free; rw [k2, g2, pk_sub g4]
    obtain ⟨q1, q2, q3⟩ := rr_give (A := rr_ga G nw) hC s3 s5 (m := Z.2.2 k - f) ha hg6 (by omega) (by omega)
    have hle := rr_CA.le (nw := nw) (A := rr_ga G nw) ha hg6
    rw [ega, ← hcc] at q1 q2 q3
    have hS0 : ¬ t (3, 0) 1 = 0 := by rw [hC.2]; exact nI_ne0 (by omega) (by omega)
    have hF0 : ¬ F_free t k = 0 := by rw [ef]; exact nI_ne0 (by omega) (by omega)
    have eB : B_fillg k a Z g t = hk_u (hk_u (hk_u (hk_u (T_give t (t (0, 0) 8 - nI a) (nI g) (nI (Z.2.2 k - f))) (13, k) n (nI g)) (14, k) n (nI cc)) (11, k) 4 (nI (n + 1))) (11, k) 5 (nI (f + cc)) := by
      unfold B_fillg
      rw [if_neg hS0, if_neg hF0, ef, q1]
      unfold T_take
      have o4 : T_give t (t (0, 0) 8 - nI a) (nI g) (nI (Z.2.2 k - f)) (11, k) 4 = nI n := by rw [T_give_o (show (11 : Nat) ≠ 3 by decide)]; exact g1
      have o5 : T_give t (t (0, 0) 8 - nI a) (nI g) (nI (Z.2.2 k - f)) (11, k) 5 = nI f := by rw [T_give_o (show (11 : Nat) ≠ 3 by decide)]; exact g2
      rw [if_neg (nI_nle (by omega) (by omega)), o4, o5, if_pos (nI_lt (by omega) (by omega)), nI_clamp (by omega), nI_1, nI_add]
    have q4 := q3 (rr_ga (rr_up G (nw - a) g (x - cc)) nw) (fun a' g' _ _ => rr_ga_up hn a' g')
    rw [eB]
    have A1 : ∀ c i j, c ≠ 3 → c ≠ 11 → c ≠ 13 → c ≠ 14 → hk_u (hk_u (hk_u (hk_u (T_give t (t (0, 0) 8 - nI a) (nI g) (nI (Z.2.2 k - f))) (13, k) n (nI g)) (14, k) n (nI cc)) (11, k) 4 (nI (n + 1))) (11, k) 5 (nI (f + cc)) (c, i) j = t (c, i) j := fun c i j h3 h11 h13 h14 => by
      simp only [hk_u_ap, Prod.mk.injEq, h11, h13, h14, false_and, if_false]
      exact T_give_o h3
    have A3 : ∀ i j, hk_u (hk_u (hk_u (hk_u (T_give t (t (0, 0) 8 - nI a) (nI g) (nI (Z.2.2 k - f))) (13, k) n (nI g)) (14, k) n (nI cc)) (11, k) 4 (nI (n + 1))) (11, k) 5 (nI (f + cc)) (3, i) j = T_give t (t (0, 0) 8 - nI a) (nI g) (nI (Z.2.2 k - f)) (3, i) j := fun i j => by simp [hk_u_ap]
    have A11 : ∀ i j, hk_u (hk_u (hk_u (hk_u (T_give t (t (0, 0) 8 - nI a) (nI g) (nI (Z.2.2 k - f))) (13, k) n (nI g)) (14, k) n (nI cc)) (11, k) 4 (nI (n + 1))) (11, k) 5 (nI (f + cc)) (11, i) j = if i = k ∧ j = 5 then nI (f + cc) else if i = k ∧ j = 4 then nI (n + 1) else t (11, i) j := fun i j => by
      have e := T_give_o (t := t) (h0 := t (0, 0) 8 - nI a) (g := nI g) (b := nI (Z.2.2 k - f)) (q := (11, i)) (k := j) (show (11 : Nat) ≠ 3 by decide)
      simp [hk_u_ap, e]
    have A13 : ∀ i j, hk_u (hk_u (hk_u (hk_u (T_give t (t (0, 0) 8 - nI a) (nI g) (nI (Z.2.2 k - f))) (13, k) n (nI g)) (14, k) n (nI cc)) (11, k) 4 (nI (n + 1))) (11, k) 5 (nI (f + cc)) (13, i) j = if i = k ∧ j = n then nI g else t (13, i) j := fun i j => by
      have e := T_give_o (t := t) (h0 := t (0, 0) 8 - nI a) (g := nI g) (b := nI (Z.2.2 k - f)) (q := (13, i)) (k := j) (show (13 : Nat) ≠ 3 by decide)
      simp [hk_u_ap, e]
    have A14 : ∀ i j, hk_u (hk_u (hk_u (hk_u (T_give t (t (0, 0) 8 - nI a) (nI g) (nI (Z.2.2 k - f))) (13, k) n (nI g)) (14, k) n (nI cc)) (11, k) 4 (nI (n + 1))) (11, k) 5 (nI (f + cc)) (14, i) j = if i = k ∧ j = n then nI cc else t (14, i) j := fun i j => by
      have e := T_give_o (t := t) (h0 := t (0, 0) 8 - nI a) (g := nI g) (b := nI (Z.2.2 k - f)) (q := (14, i)) (k := j) (show (14 : Nat) ≠ 3 by decide)
      simp [hk_u_ap, e]
    generalize hk_u (hk_u (hk_u (hk_u (T_give t (t (0, 0) 8 - nI a) (nI g) (nI (Z.2.2 k - f))) (13, k) n (nI g)) (14, k) n (nI cc)) (11, k) 4 (nI (n + 1))) (11, k) 5 (nI (f + cc)) = t2 at A1 A3 A11 A13 A14
    have eM : B_m_tk k (6 * (nw - a) + g) σ = hk_wh (B_m_tw k (6 * (nw - a) + g)) 201 σ := rfl
    rw [eM]
    generalize hk_wh (B_m_tw k (6 * (nw - a) + g)) 201 σ = σ2 at w1 w2 w3 w4
    have em6 : (6 * (nw - a) + g) % 6 = g := by omega
    rw [em6] at w3
    refine ⟨rr_up G (nw - a) g (x - cc), ⟨?_, ?_, ?_, ⟨fun i hi => ?_, fun i hi => ?_⟩, ?_, ?_, ?_, ?_, ?_⟩, fun h' g' => ?_⟩
    · exact hS.of (fun j => A1 1 j 2 (by decide) (by decide) (by decide) (by decide)) (A1 0 0 8 (by decide) (by decide) (by decide) (by decide)) (A1 0 0 9 (by decide) (by decide) (by decide) (by decide)) (fun f _ => w4 _ _ (by simp) (by simp) (by simp))
    · exact hD.of (fun i j => A1 9 i j (by decide) (by decide) (by decide) (by decide)) (fun f j h1 h2 => w4 _ _ (by simp; omega) (by simp; omega) (by simp; omega))
    · exact hN.of (fun i j => A1 10 i j (by decide) (by decide) (by decide) (by decide)) (fun f j h1 h2 => w4 _ _ (by simp; omega) (by simp; omega) (by simp; omega))
    · by_cases ci : i = k
      · subst ci
        obtain ⟨r, r1, r2, r3⟩ := k6
        refine ⟨by rw [w4 _ _ (by simp) (by simp) (by simp)]; exact k1, ⟨by rw [A11, if_neg (by omega), if_neg (by omega)]; exact k2, by rw [w4 _ _ (by simp) (by simp) (by simp)]; exact k3, k4, k5⟩, ⟨r, r1, by rw [A11, if_neg (by omega), if_neg (by omega)]; exact r2, by rw [w4 _ _ (by simp) (by simp) (by simp)]; exact r3⟩, by rw [A11, if_neg (by omega), if_neg (by omega), w4 _ _ (by simp) (by simp) (by simp)]; exact k9, n + 1, f + cc, fun j => if j ≤ n then pre j else f + cc, by rw [A11, if_neg (by omega), if_pos (by omega)], by rw [A11, if_pos (by omega)], by rw [w2, if_pos rfl], by omega, by omega, fun q => by omega, ?_, ?_, fun j hj => ?_⟩
        · show (if 0 ≤ n then pre 0 else f + cc) = 0
          rw [if_pos (by omega)]; exact g7.1
        · show (if n + 1 ≤ n then pre (n + 1) else f + cc) = f + cc
          rw [if_neg (by omega)]
        · show (if j ≤ n then pre j else f + cc) < (if j + 1 ≤ n then pre (j + 1) else f + cc) ∧ (if j + 1 ≤ n then pre (j + 1) else f + cc) ≤ f + cc ∧ t2 (14, i) j = nI ((if j + 1 ≤ n then pre (j + 1) else f + cc) - (if j ≤ n then pre j else f + cc)) ∧ ∃ g, g < Z.1 0 ∧ t2 (13, i) j = nI g ∧ ∀ b, (if j ≤ n then pre j else f + cc) ≤ b → b < (if j + 1 ≤ n then pre (j + 1) else f + cc) → σ2 (1, 23) (200 * i + b) = nI g
          rcases Nat.lt_or_ge j n with q | q
          · obtain ⟨a1, a2, a3, g', a4, a5, a6⟩ := g7.2.2 j q
            rw [if_pos (by omega), if_pos (by omega), A14, if_neg (by omega), A13, if_neg (by omega)]
            exact ⟨a1, by omega, a3, g', a4, a5, fun b b1 b2 => by rw [w3, if_neg (by omega)]; exact a6 b b1 b2⟩
          · have : j = n := by omega
            subst this
            rw [if_pos (Nat.le_refl _), if_neg (by omega), g7.2.1, A14, if_pos ⟨rfl, rfl⟩, A13, if_pos ⟨rfl, rfl⟩]
            exact ⟨by omega, by omega, by congr 1; omega, g, hg, rfl, fun b b1 b2 => by rw [w3, if_pos (by omega)]⟩
      · refine (hK.1 i hi).of (fun j => by rw [A11, if_neg (by omega), if_neg (by omega)]) (fun j => by rw [A13, if_neg (by omega)]) (fun j => by rw [A14, if_neg (by omega)]) (fun f' f1 f2 => ?_) (fun b hb => by rw [w3, if_neg (by omega)])
        by_cases f22 : f' = 22
        · subst f22; rw [w2, if_neg ci]
        · exact w4 _ _ (by simp; omega) (by simp; omega) (by simp; omega)
    · rw [w4 _ _ (by simp) (by simp) (by simp), w2, if_neg (by omega)]
      exact hK.2 i hi
    · exact hP.of (fun i j => A1 4 i j (by decide) (by decide) (by decide) (by decide)) (fun f _ _ => w4 _ _ (by simp) (by simp) (by simp)) (fun f j h1 h2 => w4 _ _ (by simp; omega) (by simp; omega) (by simp; omega))
    · exact hTT.of (fun i j => A1 5 i j (by decide) (by decide) (by decide) (by decide)) (fun i j => A1 6 i j (by decide) (by decide) (by decide) (by decide)) (fun i j => A1 7 i j (by decide) (by decide) (by decide) (by decide)) (fun f _ _ => w4 _ _ (by simp) (by simp) (by simp)) (fun f j h1 h2 => w4 _ _ (by simp; omega) (by simp; omega) (by simp; omega))
    · exact rr_C.of (show rr_C nw (rr_up G (nw - a) g (x - cc)) (T_give t (t (0, 0) 8 - nI a) (nI g) (nI (Z.2.2 k - f))) from q4) (fun i j => A3 i j)
    · exact hM.upd hg6 w1
    · refine ⟨fun i hi => ?_, fun h' g' hg' => ?_, fun h' g' hh => ?_⟩
      · obtain ⟨l, l1, l2⟩ := hL.1 i hi
        refine ⟨l, by rw [A1 9 i 2 (by decide) (by decide) (by decide) (by decide)]; exact l1, fun h' => ?_⟩
        have := l2 h'
        unfold rr_up
        split
        · rename_i e; rw [e.1, e.2, ← hx] at this; omega
        · exact this
      · unfold rr_up
        rw [if_neg (by omega)]
        exact hL.2.1 h' g' hg'
      · have := hL.2.2 h' g' hh
        unfold rr_up
        split
        · rename_i e; rw [e.1, e.2, ← hx] at this; omega
        · exact this
    · unfold rr_up
      split
      · rename_i e; rw [e.1, e.2, ← hx]; omega
      · exact Nat.le_refl _
theorem rr_tkz {k at0 : Nat} (h : σ (1, 16) at0 = nI 0) : B_m_tk k at0 σ = σ := by
  have e : B_m_tw k at0 σ = none := by
    unfold B_m_tw
    rw [h, if_pos (by decide)]
  unfold B_m_tk
  rw [hk_wh_n e]
/-- one hour's green -/
theorem rr_hourF (h : rr_R Z nw w P G t σ) {k r : Nat} (hk : k < Z.1 2) (hr : r < 25) (hn : r ≤ nw) : ∃ G', rr_R Z nw w P G' (B_fill k Z r t) (hk_it (B_m_tk k) 6 (6 * (nw - r)) σ) ∧ ∀ h g, G' h g ≤ G h g := by
  have hZ6 : Z.1 0 ≤ 6 := h.1.1.2.1
  have hnw : nw ≤ 480 := h.1.2.2.1.2.2
  have key := rr_it2 (f := B_fillg k r Z) (g := B_m_tk k) (6 * (nw - r)) (fun _ t s => ∃ G', rr_R Z nw w P G' t s ∧ ∀ h g, G' h g ≤ G h g) (Z.1 0) 0 t σ ⟨G, h, fun _ _ => Nat.le_refl _⟩ (fun j t s _ hj hI => by
    obtain ⟨G1, h1, h2⟩ := hI
    obtain ⟨G2, h3, h4⟩ := rr_cell h1 hk hr hn (g := j) (by omega)
    exact ⟨G2, h3, fun a b => Nat.le_trans (h4 a b) (h2 a b)⟩)
  obtain ⟨G1, h1, h2⟩ := key
  refine ⟨G1, ?_, h2⟩
  rw [Nat.add_zero] at h1
  have e : hk_it (B_m_tk k) 6 (6 * (nw - r)) σ = hk_it (B_m_tk k) (Z.1 0) (6 * (nw - r)) σ := by
    have e1 := rr_it_ap (f := B_m_tk k) (Z.1 0) (6 - Z.1 0) (6 * (nw - r)) σ
    rw [show Z.1 0 + (6 - Z.1 0) = 6 by omega] at e1
    rw [e1]
    refine rr_it_id _ _ (fun j j1 j2 => rr_tkz ?_)
    have e2 := h1.2.2.2.2.2.2.2.1 (nw - r) (j - 6 * (nw - r)) (by omega) (by omega)
    rw [show 6 * (nw - r) + (j - 6 * (nw - r)) = j by omega, h1.2.2.2.2.2.2.2.2.2.1 _ _ (by omega)] at e2
    exact e2
  rw [e]
  exact h1
theorem rr_fillI {k : Nat} (hk : k < Z.1 2) : ∀ (r : Nat) (G : Nat → Nat → Nat) (t σ : hk_v), r ≤ 24 → rr_R Z nw w P G t σ → ∃ G', rr_R Z nw w P G' (hk_dn (B_fill k Z) r t) (hk_it (B_m_tk k) (6 * (nw + 1) - 6 * (nw + 1 - r)) (6 * (nw + 1 - r)) σ) ∧ ∀ h g, G' h g ≤ G h g
  | 0, G, t, σ, _, h => by
    rw [Nat.sub_zero, Nat.sub_self]
    exact ⟨G, h, fun _ _ => Nat.le_refl _⟩
  | r + 1, G, t, σ, hr, h => by
    rw [hk_dn_s]
    by_cases c : r ≤ nw
    · obtain ⟨G1, h1, h2⟩ := rr_hourF h hk (r := r) (by omega) c
      obtain ⟨G2, h3, h4⟩ := rr_fillI hk r G1 _ _ (by omega) h1
      refine ⟨G2, ?_, fun a b => Nat.le_trans (h4 a b) (h2 a b)⟩
      have e := rr_it_ap (f := B_m_tk k) 6 (6 * (nw + 1) - 6 * (nw + 1 - r)) (6 * (nw - r)) σ
      rw [show 6 * (nw - r) + 6 = 6 * (nw + 1 - r) by omega] at e
      rw [show nw + 1 - (r + 1) = nw - r by omega, show 6 * (nw + 1) - 6 * (nw - r) = 6 + (6 * (nw + 1) - 6 * (nw + 1 - r)) by omega, e]
      exact h3
    · have e : B_fill k Z r t = t := by
        obtain ⟨k1, ⟨k2, k3, k4, k5⟩, k6, k9, n, f, pre, g1, g2, g3, g4, g5⟩ := h.2.2.2.1.1 k hk
        unfold B_fill
        refine rr_it_id _ _ (fun j j1 j2 => rr_cell0 h hk (by omega) (by omega) g2 g4 ?_)
        have e0 : rr_ga G nw r j = 0 := by unfold rr_ga; rw [if_neg c]
        rw [e0, Nat.zero_min]
      rw [e, show nw + 1 - (r + 1) = nw + 1 - r by omega]
      exact rr_fillI hk r G t σ (by omega) h
theorem rr_fillK (h : rr_R Z nw w P G t σ) (hz : ∀ h g, h + w ≤ nw → G h g = 0) {k : Nat} (hk : k < Z.1 2) : ∃ G', rr_R Z nw w P G' (B_fillH w Z k t) (B_m_o3 nw k σ) ∧ ∀ h g, G' h g ≤ G h g := by
  have h0 := h
  obtain ⟨hS, hD, hN, hK, hP, hTT, hC, hM, hL⟩ := h
  obtain ⟨s1, s2, ⟨s3, s4, s5⟩, s6, s7, s8, s9⟩ := id hS
  obtain ⟨k1, ⟨k2, k3, k4, k5⟩, k6, k9, n, f, pre, g1, g2, g3, g4, g5, g6, g7⟩ := hK.1 k hk
  by_cases c : f = 0
  · subst c
    have e1 : B_fillH w Z k t = hk_dn (B_fill k Z) w t := by
      unfold B_fillH F_isEmpty
      rw [g2, if_neg (by decide)]
      rfl
    have e21 : hk_u σ (1, 21) k 0 = σ := rr_us σ (1, 21) k (by rw [← k9]; exact g6 rfl)
    have e2 : B_m_o3 nw k σ = hk_it (B_m_tk k) (6 * nw + 6 - 6 * (nw - 24)) (6 * (nw - 24)) σ := by
      unfold B_m_o3 T_m_takes
      rw [g3, if_pos (by decide), e21]
    have e3 : hk_it (B_m_tk k) (6 * nw + 6 - 6 * (nw - 24)) (6 * (nw - 24)) σ = hk_it (B_m_tk k) (6 * (nw + 1) - 6 * (nw + 1 - w)) (6 * (nw + 1 - w)) σ := by
      have e := rr_it_ap (f := B_m_tk k) (6 * (nw + 1 - w) - 6 * (nw - 24)) (6 * (nw + 1) - 6 * (nw + 1 - w)) (6 * (nw - 24)) σ
      rw [show 6 * (nw + 1 - w) - 6 * (nw - 24) + (6 * (nw + 1) - 6 * (nw + 1 - w)) = 6 * nw + 6 - 6 * (nw - 24) by omega, show 6 * (nw - 24) + (6 * (nw + 1 - w) - 6 * (nw - 24)) = 6 * (nw + 1 - w) by omega] at e
      rw [e, rr_it_id (f := B_m_tk k) (s := σ) (6 * (nw + 1 - w) - 6 * (nw - 24)) (6 * (nw - 24)) (fun j j1 j2 => rr_tkz ?_)]
      have e4 := hM (j / 6) (j % 6) (by omega) (by omega)
      rw [show 6 * (j / 6) + j % 6 = j by omega, hz _ _ (by omega)] at e4
      exact e4
    rw [e1, e2, e3]
    exact rr_fillI hk w G t σ s9 h0
  · have f0 : ¬ nI f = 0 := nI_ne0 (by omega) (by omega)
    have e1 : B_fillH w Z k t = t := by
      unfold B_fillH F_isEmpty
      rw [g2, if_neg f0, if_pos rfl]
    have e2 : B_m_o3 nw k σ = σ := by
      unfold B_m_o3 T_m_takes
      rw [g3, if_neg (nI_nle (by omega) (by omega))]
    rw [e1, e2]
    exact ⟨G, h0, fun _ _ => Nat.le_refl _⟩
end RRF
