/-! the hour's third step: what has waited too long is lost -/
def rr_CA (nw : Nat) (A : Nat → Nat → Nat) (τ : hk_v) : Prop :=
  (∀ a g, a < 25 → g < 6 → τ (3, 1) (rr_rg nw a * 6 + g) = nI (A a g)) ∧ τ (3, 0) 1 = nI (rr_sum (fun a => rr_sum (fun g => A a g) 6) 25)
theorem rr_CA.cong {nw : Nat} {A A' : Nat → Nat → Nat} {τ : hk_v} (h : rr_CA nw A τ) (e : ∀ a g, a < 25 → g < 6 → A' a g = A a g) : rr_CA nw A' τ := by
  refine ⟨fun a g ha hg => by rw [e a g ha hg]; exact h.1 a g ha hg, ?_⟩
  rw [h.2]
  congr 1
  exact (rr_sum_c (fun a ha => rr_sum_c (fun g hg => e a g ha hg))).symm
theorem rr_CA.upd {nw : Nat} {A A' : Nat → Nat → Nat} {τ τ' : hk_v} (h : rr_CA nw A τ) {a g v s : Nat} (ha : a < 25) (hg : g < 6) (hG : ∀ a' g', a' < 25 → g' < 6 → A' a' g' = if a' = a ∧ g' = g then v else A a' g') (e1 : ∀ k, τ' (3, 1) k = if k = rr_rg nw a * 6 + g then nI v else τ (3, 1) k) (e2 : τ' (3, 0) 1 = nI s) (hs : s + A a g = rr_sum (fun a => rr_sum (fun g => A a g) 6) 25 + v) : rr_CA nw A' τ' := by
  refine ⟨fun a' g' ha' hg' => ?_, ?_⟩
  · rw [hG a' g' ha' hg', e1]
    by_cases c : a' = a ∧ g' = g
    · rw [if_pos c, c.1, c.2, if_pos rfl]
    · rw [if_neg c, if_neg (by unfold rr_rg; omega)]
      exact h.1 a' g' ha' hg'
  · rw [e2]
    have i1 := rr_sum_u (f := fun g => A a g) (g := fun g => A' a g) hg (fun i i6 hi => by show A' a i = A a i; rw [hG a i ha i6, if_neg (by omega)])
    have i2 := rr_sum_u (f := fun a => rr_sum (fun g => A a g) 6) (g := fun a => rr_sum (fun g => A' a g) 6) ha (fun i i25 hi => rr_sum_c (fun j j6 => by show A' i j = A i j; rw [hG i j i25 j6, if_neg (by omega)]))
    have i3 : A' a g = v := by rw [hG a g ha hg, if_pos ⟨rfl, rfl⟩]
    simp only [i3] at i1
    congr 1
    omega
theorem rr_M.upd2 {G G' : Nat → Nat → Nat} {σ σ' : hk_v} (h : rr_M G σ) {h0 g v : Nat} (hg : g < 6) (hG : ∀ h' g', G' h' g' = if h' = h0 ∧ g' = g then v else G h' g') (e : ∀ k, σ' (1, 16) k = if k = 6 * h0 + g then nI v else σ (1, 16) k) : rr_M G' σ' := by
  intro h1 g1 a b
  rw [e, hG]
  by_cases c : h1 = h0 ∧ g1 = g
  · rw [if_pos c, c.1, c.2, if_pos rfl]
  · rw [if_neg c, if_neg (by omega)]
    exact h h1 g1 a b
theorem rr_CA.le {nw : Nat} {A : Nat → Nat → Nat} {a g : Nat} (ha : a < 25) (hg : g < 6) : A a g ≤ rr_sum (fun a => rr_sum (fun g => A a g) 6) 25 :=
  Nat.le_trans (rr_sum_ge (f := fun g => A a g) hg) (rr_sum_ge (f := fun a => rr_sum (fun g => A a g) 6) ha)
theorem rr_give {nw : Nat} {A : Nat → Nat → Nat} {t : hk_v} (h : rr_CA nw A t) (h8 : t (0, 0) 8 = nI nw) (hn : nw ≤ 480) {a g m : Nat} (ha : a < 25) (hg : g < 6) (hm : m < 2 ^ 30) (hb : A a g < 2 ^ 30) : F_give t (t (0, 0) 8 - nI a) (nI g) (nI m) = nI (min (A a g) m) ∧ (T_give t (t (0, 0) 8 - nI a) (nI g) (nI m) = hk_u (hk_u t (3, 1) (rr_rg nw a * 6 + g) (nI (A a g - min (A a g) m))) (3, 0) 1 (nI (rr_sum (fun a => rr_sum (fun g => A a g) 6) 25 - min (A a g) m))) ∧ ∀ A' : Nat → Nat → Nat, (∀ a' g', a' < 25 → g' < 6 → A' a' g' = if a' = a ∧ g' = g then A a g - min (A a g) m else A a' g') → rr_CA nw A' (T_give t (t (0, 0) 8 - nI a) (nI g) (nI m)) := by
  have ep := rr_place (nw := nw) hn ha hg
  have ec := h.1 a g ha hg
  have es := h.2
  have hle := rr_CA.le (nw := nw) (A := A) ha hg
  have e1 : F_give t (t (0, 0) 8 - nI a) (nI g) (nI m) = nI (min (A a g) m) := by
    unfold F_give
    rw [if_neg (rr_in5 hg), h8, ep, ec]
    rcases Nat.lt_or_ge m (A a g) with q | q
    · rw [if_pos (nI_lt q (by omega)), Nat.min_eq_right (by omega)]
    · rw [if_neg (nI_nlt q (by omega)), Nat.min_eq_left q]
  have hmin : min (A a g) m ≤ A a g := Nat.min_le_left _ _
  have e2 : T_give t (t (0, 0) 8 - nI a) (nI g) (nI m) = hk_u (hk_u t (3, 1) (rr_rg nw a * 6 + g) (nI (A a g - min (A a g) m))) (3, 0) 1 (nI (rr_sum (fun a => rr_sum (fun g => A a g) 6) 25 - min (A a g) m)) := by
    have e3 : T_give t (t (0, 0) 8 - nI a) (nI g) (nI m) = hk_u (hk_u t (3, 1) (rr_rg nw a * 6 + g) (nI (A a g) - F_give t (t (0, 0) 8 - nI a) (nI g) (nI m))) (3, 0) 1 (t (3, 0) 1 - F_give t (t (0, 0) 8 - nI a) (nI g) (nI m)) := by
      unfold T_give F_give
      rw [if_neg (rr_in5 hg), if_neg (rr_in5 hg), h8, ep, ec]
    rw [e3, e1, es, pk_sub hmin, pk_sub (by omega)]
  refine ⟨e1, e2, fun A' hA' => ?_⟩
  rw [e2]
  refine h.upd (s := rr_sum (fun a => rr_sum (fun g => A a g) 6) 25 - min (A a g) m) ha hg hA' (fun k => ?_) ?_ (by omega)
  · by_cases c : k = rr_rg nw a * 6 + g
    · subst c; simp [hk_u_ap]
    · simp [hk_u_ap, c]
  · simp [hk_u_ap]
theorem rr_sumG {G : Nat → Nat → Nat} {nw w g : Nat} : ∀ m, rr_sum (fun i => rr_ga G nw (w + i) g) m + rr_sum (fun h => G h g) (nw + 1 - (w + m)) = rr_sum (fun h => G h g) (nw + 1 - w)
  | 0 => by simp [rr_sum]
  | m + 1 => by
    have ih := rr_sumG (G := G) (nw := nw) (w := w) (g := g) m
    rw [rr_sum_s]
    by_cases c : w + m ≤ nw
    · have e : nw + 1 - (w + m) = (nw - (w + m)) + 1 := by omega
      rw [e, rr_sum_s] at ih
      have e2 : nw + 1 - (w + (m + 1)) = nw - (w + m) := by omega
      have e3 : rr_ga G nw (w + m) g = G (nw - (w + m)) g := by unfold rr_ga; rw [if_pos c]
      rw [e2, e3]
      omega
    · have e : nw + 1 - (w + m) = 0 := by omega
      have e2 : nw + 1 - (w + (m + 1)) = 0 := by omega
      have e3 : rr_ga G nw (w + m) g = 0 := by unfold rr_ga; rw [if_neg c]
      rw [e] at ih
      rw [e2, e3]
      omega
theorem rr_sumA {G : Nat → Nat → Nat} {nw w g : Nat} (hw : w ≤ 25) (h : ∀ h, h + 24 < nw → G h g = 0) : rr_sum (fun i => rr_ga G nw (w + i) g) (25 - w) = rr_sum (fun h => G h g) (nw + 1 - w) := by
  have h1 := rr_sumG (G := G) (nw := nw) (w := w) (g := g) (25 - w)
  have h2 : rr_sum (fun h => G h g) (nw + 1 - (w + (25 - w))) = 0 := rr_sum_z (fun i hi => h i (by omega))
  omega
theorem rr_loseC {Z : hk_Z} {nw w : Nat} {A : Nat → Nat → Nat} {t0 : hk_v} (hC : rr_CA nw A t0) (h8 : t0 (0, 0) 8 = nI nw) (hn : nw ≤ 480) (hb : ∀ a g, A a g ≤ 5000) (hZ : Z.1 0 ≤ 6) (hz : ∀ a g, Z.1 0 ≤ g → A a g = 0) (hw : w ≤ 24) : rr_CA nw (fun a g => if w ≤ a ∧ a < 25 then 0 else A a g) (T_loseHour Z t0 w) ∧ (∀ g, g < Z.1 0 → T_loseHour Z t0 w (9, g) 4 = t0 (9, g) 4 + nI (rr_sum (fun i => A (w + i) g) (25 - w))) ∧ (∀ c i j, c ≠ 3 → c ≠ 9 → T_loseHour Z t0 w (c, i) j = t0 (c, i) j) ∧ (∀ i j, j ≠ 4 → T_loseHour Z t0 w (9, i) j = t0 (9, i) j) := by
  have key := hk_it_inv (f := B_lose Z) (fun a t => rr_CA nw (fun a' g => if w ≤ a' ∧ a' < a then 0 else A a' g) t ∧ (∀ g, g < Z.1 0 → t (9, g) 4 = t0 (9, g) 4 + nI (rr_sum (fun i => A (w + i) g) (a - w))) ∧ (∀ c i j, c ≠ 3 → c ≠ 9 → t (c, i) j = t0 (c, i) j) ∧ (∀ i j, j ≠ 4 → t (9, i) j = t0 (9, i) j)) (25 - w) w t0
    ⟨hC.cong (fun a g _ _ => by rw [if_neg (by omega)]), fun g _ => by rw [Nat.sub_self]; show _ = _ + nI 0; rw [show nI 0 = 0 from rfl, Int32.add_zero], fun _ _ _ _ _ => rfl, fun _ _ _ => rfl⟩ (fun a t ha1 ha2 hI => by
      have ha25 : a < 25 := by omega
      have key2 := hk_it_inv (f := B_loseg a) (fun g t => rr_CA nw (fun a' g' => if (w ≤ a' ∧ a' < a) ∨ (a' = a ∧ g' < g) then 0 else A a' g') t ∧ (∀ g', g' < Z.1 0 → t (9, g') 4 = t0 (9, g') 4 + nI (rr_sum (fun i => A (w + i) g') (a - w) + if g' < g then A a g' else 0)) ∧ (∀ c i j, c ≠ 3 → c ≠ 9 → t (c, i) j = t0 (c, i) j) ∧ (∀ i j, j ≠ 4 → t (9, i) j = t0 (9, i) j)) (Z.1 0) 0 t
        ⟨hI.1.cong (fun a' g' _ _ => by
            by_cases c : w ≤ a' ∧ a' < a
            · rw [if_pos c, if_pos (Or.inl c)]
            · rw [if_neg c, if_neg (by omega)]), fun g' hg' => by rw [if_neg (by omega), Nat.add_zero]; exact hI.2.1 g' hg', hI.2.2.1, hI.2.2.2⟩ (fun g t hg1 hg2 hJ => by
          have hg6 : g < 6 := by omega
          obtain ⟨j1, j2, j3, j4⟩ := hJ
          have e8 : t (0, 0) 8 = nI nw := by rw [j3 0 0 8 (by decide) (by decide)]; exact h8
          obtain ⟨A1, hA1⟩ : ∃ A1 : Nat → Nat → Nat, A1 = fun a' g' => if (w ≤ a' ∧ a' < a) ∨ (a' = a ∧ g' < g) then 0 else A a' g' := ⟨_, rfl⟩
          rw [← hA1] at j1
          have ev : A1 a g = A a g := by rw [hA1]; exact if_neg (by omega)
          have hbb := hb a g
          obtain ⟨q1, q2, q3⟩ := rr_give j1 e8 hn (m := 5000) ha25 hg6 (by omega) (by rw [ev]; omega)
          rw [ev, Nat.min_eq_left hbb] at q1 q2 q3
          have eB : B_loseg a g t = hk_u (T_give t (t (0, 0) 8 - nI a) (nI g) (nI 5000)) (9, g) 4 (t (9, g) 4 + nI (A a g)) := by
            rw [← q1]; rfl
          rw [eB]
          have c1 : ∀ c i j, c ≠ 9 → hk_u (T_give t (t (0, 0) 8 - nI a) (nI g) (nI 5000)) (9, g) 4 (t (9, g) 4 + nI (A a g)) (c, i) j = T_give t (t (0, 0) 8 - nI a) (nI g) (nI 5000) (c, i) j := fun c i j h => hk_u_o h
          refine ⟨?_, fun g' hg' => ?_, fun c i j h3 h9 => ?_, fun i j hj => ?_⟩
          · have q4 := q3 (fun a' g' => if (w ≤ a' ∧ a' < a) ∨ (a' = a ∧ g' < g + 1) then 0 else A a' g') (fun a' g' h1 h2 => by
              show (if (w ≤ a' ∧ a' < a) ∨ (a' = a ∧ g' < g + 1) then 0 else A a' g') = _
              by_cases c : a' = a ∧ g' = g
              · rw [if_pos c, if_pos (by omega), Nat.sub_self]
              · rw [if_neg c, hA1]
                show _ = (if (w ≤ a' ∧ a' < a) ∨ (a' = a ∧ g' < g) then 0 else A a' g')
                by_cases d : (w ≤ a' ∧ a' < a) ∨ (a' = a ∧ g' < g)
                · rw [if_pos d, if_pos (by omega)]
                · rw [if_neg d, if_neg (by omega)])
            exact ⟨fun a' g' h1 h2 => by rw [c1 3 1 _ (by decide)]; exact q4.1 a' g' h1 h2, by rw [c1 3 0 _ (by decide)]; exact q4.2⟩
          · by_cases c : g' = g
            · subst c
              have := j2 g' hg'
              rw [if_neg (by omega), Nat.add_zero] at this
              rw [if_pos (by omega)]
              simp only [hk_u_ap, and_self, if_true]
              rw [this, Int32.add_assoc, nI_add]
            · have := j2 g' hg'
              have e : hk_u (T_give t (t (0, 0) 8 - nI a) (nI g) (nI 5000)) (9, g) 4 (t (9, g) 4 + nI (A a g)) (9, g') 4 = t (9, g') 4 := by
                have : ¬ ((9, g') : Nat × Nat) = (9, g) := by simp [c]
                simp only [hk_u_ap, this, false_and, if_false]
                exact T_give_o (show (9 : Nat) ≠ 3 by decide)
              rw [e, this]
              by_cases d : g' < g
              · rw [if_pos d, if_pos (by omega)]
              · rw [if_neg d, if_neg (by omega)]
          · rw [c1 c i j h9, T_give_o h3]
            exact j3 c i j h3 h9
          · have e : hk_u (T_give t (t (0, 0) 8 - nI a) (nI g) (nI 5000)) (9, g) 4 (t (9, g) 4 + nI (A a g)) (9, i) j = T_give t (t (0, 0) 8 - nI a) (nI g) (nI 5000) (9, i) j := if_neg (fun q => hj q.2)
            rw [e, T_give_o (show (9 : Nat) ≠ 3 by decide)]
            exact j4 i j hj)
      rw [Nat.zero_add] at key2
      obtain ⟨k1, k2, k3, k4⟩ := key2
      refine ⟨k1.cong (fun a' g' h1 h2 => ?_), fun g hg => ?_, k3, k4⟩
      · by_cases c : w ≤ a' ∧ a' < a
        · rw [if_pos (by omega), if_pos (Or.inl c)]
        · by_cases d : a' = a
          · subst d
            rw [if_pos (by omega)]
            by_cases e : g' < Z.1 0
            · rw [if_pos (by omega)]
            · rw [if_neg (by omega), hz a' g' (by omega)]
          · rw [if_neg (by omega), if_neg (by omega)]
      · have := k2 g hg
        rw [if_pos hg] at this
        rw [show a + 1 - w = (a - w) + 1 by omega, rr_sum_s, show w + (a - w) = a by omega]
        exact this)
  rw [show w + (25 - w) = 25 by omega] at key
  exact key
theorem rr_loseM {Z : hk_Z} {nw w : Nat} {G : Nat → Nat → Nat} {s0 : hk_v} (hM : rr_M G s0) (hn : nw ≤ 480) (hZ : Z.1 0 ≤ 6) (hz : ∀ h g, Z.1 0 ≤ g → G h g = 0) (hw : 1 ≤ w) : rr_M (fun h g => if h + w ≤ nw then 0 else G h g) (T_m_spoils Z s0 nw w) ∧ (∀ g, g < Z.1 0 → T_m_spoils Z s0 nw w (1, 7) g = s0 (1, 7) g + nI (rr_sum (fun h => G h g) (nw + 1 - w))) ∧ (∀ g, Z.1 0 ≤ g → T_m_spoils Z s0 nw w (1, 7) g = s0 (1, 7) g) ∧ (∀ q j, q ≠ (1, 7) → q ≠ (1, 16) → T_m_spoils Z s0 nw w q j = s0 q j) := by
  have key := hk_it_inv (f := B_m_sp Z) (fun h s => rr_M (fun h' g => if h' < h then 0 else G h' g) s ∧ (∀ g, g < Z.1 0 → s (1, 7) g = s0 (1, 7) g + nI (rr_sum (fun h => G h g) h)) ∧ (∀ g, Z.1 0 ≤ g → s (1, 7) g = s0 (1, 7) g) ∧ (∀ q j, q ≠ (1, 7) → q ≠ (1, 16) → s q j = s0 q j)) (nw + 1 - w) 0 s0
    ⟨fun h g a b => by show _ = nI (if h < 0 then 0 else G h g); rw [if_neg (by omega)]; exact hM h g a b, fun g _ => by show _ = _ + nI 0; rw [show nI 0 = 0 from rfl, Int32.add_zero], fun _ _ => rfl, fun _ _ _ _ => rfl⟩ (fun h s h1 h2 hI => by
      have key2 := hk_it_inv (f := B_m_spg h) (fun g s => rr_M (fun h' g' => if h' < h ∨ (h' = h ∧ g' < g) then 0 else G h' g') s ∧ (∀ g', g' < Z.1 0 → s (1, 7) g' = s0 (1, 7) g' + nI (rr_sum (fun h => G h g') h + if g' < g then G h g' else 0)) ∧ (∀ g, Z.1 0 ≤ g → s (1, 7) g = s0 (1, 7) g) ∧ (∀ q j, q ≠ (1, 7) → q ≠ (1, 16) → s q j = s0 q j)) (Z.1 0) 0 s
        ⟨fun h' g' a b => by
            rw [hI.1 h' g' a b]
            show nI (if h' < h then 0 else G h' g') = nI (if h' < h ∨ (h' = h ∧ g' < 0) then 0 else G h' g')
            by_cases c : h' < h
            · rw [if_pos c, if_pos (Or.inl c)]
            · rw [if_neg c, if_neg (by omega)], fun g' hg' => by rw [if_neg (by omega), Nat.add_zero]; exact hI.2.1 g' hg', hI.2.2.1, hI.2.2.2⟩ (fun g s hg1 hg2 hJ => by
          have hg6 : g < 6 := by omega
          obtain ⟨j1, j2, j3, j4⟩ := hJ
          have ec : s (1, 16) (6 * h + g) = nI (if h < h ∨ (h = h ∧ g < g) then 0 else G h g) := j1 h g (by omega) hg6
          rw [if_neg (by omega)] at ec
          have eB : B_m_spg h g s = hk_u (hk_u s (1, 7) g (s (1, 7) g + nI (G h g))) (1, 16) (6 * h + g) 0 := by
            unfold B_m_spg
            rw [ec]
          rw [eB]
          refine ⟨?_, fun g' hg' => ?_, fun g' hg' => ?_, fun q j h7 h16 => ?_⟩
          · refine j1.upd2 (h0 := h) (v := 0) hg6 (fun h' g' => ?_) (fun k => ?_)
            · by_cases c : h' = h ∧ g' = g
              · rw [if_pos c, if_pos (by omega)]
              · rw [if_neg c]
                by_cases d : h' < h ∨ (h' = h ∧ g' < g)
                · rw [if_pos d, if_pos (by omega)]
                · rw [if_neg d, if_neg (by omega)]
            · by_cases c : k = 6 * h + g
              · subst c; simp [hk_u_ap]; rfl
              · simp [hk_u_ap, c]
          · have e7 := j2 g' hg'
            by_cases c : g' = g
            · subst c
              rw [if_neg (by omega), Nat.add_zero] at e7
              rw [if_pos (by omega)]
              simp [hk_u_ap, e7, Int32.add_assoc, nI_add]
            · have e : hk_u (hk_u s (1, 7) g (s (1, 7) g + nI (G h g))) (1, 16) (6 * h + g) 0 (1, 7) g' = s (1, 7) g' := by simp [hk_u_ap, c]
              rw [e, e7]
              by_cases d : g' < g
              · rw [if_pos d, if_pos (by omega)]
              · rw [if_neg d, if_neg (by omega)]
          · have c : g' ≠ g := by omega
            have e : hk_u (hk_u s (1, 7) g (s (1, 7) g + nI (G h g))) (1, 16) (6 * h + g) 0 (1, 7) g' = s (1, 7) g' := by simp [hk_u_ap, c]
            rw [e]
            exact j3 g' hg'
          · simp only [hk_u_ap, h7, h16, false_and, if_false]
            exact j4 q j h7 h16)
      rw [Nat.zero_add] at key2
      obtain ⟨k1, k2, k3, k4⟩ := key2
      refine ⟨fun h' g' a b => ?_, fun g hg => ?_, k3, k4⟩
      · show B_m_sp Z h s (1, 16) (6 * h' + g') = _
        rw [show B_m_sp Z h s = hk_it (B_m_spg h) (Z.1 0) 0 s from rfl, k1 h' g' a b]
        show nI (if h' < h ∨ (h' = h ∧ g' < Z.1 0) then 0 else G h' g') = nI (if h' < h + 1 then 0 else G h' g')
        by_cases c : h' < h
        · rw [if_pos (by omega), if_pos (by omega)]
        · by_cases d : h' = h
          · subst d
            rw [if_pos (show h' < h' + 1 by omega)]
            by_cases e : g' < Z.1 0
            · rw [if_pos (by omega)]
            · rw [if_neg (by omega), hz h' g' (by omega)]
          · rw [if_neg (by omega), if_neg (by omega)]
      · have := k2 g hg
        rw [if_pos hg] at this
        rw [rr_sum_s]
        exact this)
  rw [Nat.zero_add] at key
  obtain ⟨k1, k2, k3, k4⟩ := key
  refine ⟨fun h g a b => ?_, k2, k3, k4⟩
  show T_m_spoils Z s0 nw w (1, 16) (6 * h + g) = _
  rw [show T_m_spoils Z s0 nw w = hk_it (B_m_sp Z) (nw + 1 - w) 0 s0 from rfl, k1 h g a b]
  show nI (if h < nw + 1 - w then 0 else G h g) = nI (if h + w ≤ nw then 0 else G h g)
  by_cases c : h + w ≤ nw
  · rw [if_pos c, if_pos (by omega)]
  · rw [if_neg c, if_neg (by omega)]
theorem rr_lose {Z : hk_Z} {nw w P : Nat} {G : Nat → Nat → Nat} {t σ : hk_v} (h : rr_R Z nw w P G t σ) : ∃ G', rr_R Z nw w P G' (T_loseHour Z t w) (T_m_spoils Z σ nw w) ∧ ∀ h g, h + w ≤ nw → G' h g = 0 := by
  obtain ⟨hS, hD, hN, hK, hP, hTT, hC, hM, hL⟩ := h
  obtain ⟨s1, s2, ⟨s3, s4, s5⟩, s6, s7, s8, s9⟩ := id hS
  have hGb : ∀ h g, G h g ≤ 5000 := fun h g => by
    rcases Nat.lt_or_ge g (Z.1 0) with q | q
    · obtain ⟨l, -, h2⟩ := hL.1 g q
      have := h2 h
      omega
    · rw [hL.2.1 h g q]; omega
  obtain ⟨c1, c2, c3, c4⟩ := rr_loseC (Z := Z) (w := w) (A := rr_ga G nw) hC s3 s5 (fun a g => by unfold rr_ga; split; exact hGb _ _; omega) s1.2.1 (fun a g hg => by unfold rr_ga; split; exact hL.2.1 _ _ hg; rfl) s9
  obtain ⟨m1, m2, m3, m4⟩ := rr_loseM (w := w) hM s5 s1.2.1 hL.2.1 s8
  refine ⟨fun h g => if h + w ≤ nw then 0 else G h g, ⟨?_, ⟨fun i hi => ?_, fun i hi => ?_⟩, ?_, ?_, ?_, ?_, ?_, m1, ?_⟩, fun h g hh => if_pos hh⟩
  · exact hS.of (fun j => c3 1 j 2 (by decide) (by decide)) (c3 0 0 8 (by decide) (by decide)) (c3 0 0 9 (by decide) (by decide)) (fun f _ => m4 _ _ (by simp) (by simp))
  · obtain ⟨d1, d2, d3, d4, d5, d6⟩ := hD.1 i hi
    rw [c4 i 0 (by decide), c4 i 1 (by decide), c4 i 2 (by decide), c4 i 3 (by decide), c4 i 5 (by decide), c2 i hi, m2 i hi, m4 (1, 4) i (by simp) (by simp), m4 (1, 5) i (by simp) (by simp), m4 (1, 3) i (by simp) (by simp), m4 (1, 6) i (by simp) (by simp), m4 (1, 8) i (by simp) (by simp)]
    refine ⟨d1, d2, d3, d4, ?_, d6⟩
    rw [d5, rr_sumA (by omega) (fun h hh => hL.2.2 h i (Or.inr hh))]
  · have := hD.2 i hi
    rw [m3 i hi, m4 (1, 6) i (by simp) (by simp), m4 (1, 8) i (by simp) (by simp)]
    exact this
  · exact hN.of (fun i j => c3 10 i j (by decide) (by decide)) (fun f j h1 h2 => m4 _ _ (by simp; omega) (by simp; omega))
  · exact hK.of (fun i j => c3 11 i j (by decide) (by decide)) (fun i j => c3 13 i j (by decide) (by decide)) (fun i j => c3 14 i j (by decide) (by decide)) (fun f j h1 h2 => m4 _ _ (by simp; omega) (by simp; omega))
  · exact hP.of (fun i j => c3 4 i j (by decide) (by decide)) (fun f _ _ => m4 _ _ (by simp) (by simp)) (fun f j h1 h2 => m4 _ _ (by simp; omega) (by simp; omega))
  · exact hTT.of (fun i j => c3 5 i j (by decide) (by decide)) (fun i j => c3 6 i j (by decide) (by decide)) (fun i j => c3 7 i j (by decide) (by decide)) (fun f _ _ => m4 _ _ (by simp) (by simp)) (fun f j h1 h2 => m4 _ _ (by simp; omega) (by simp; omega))
  · refine rr_CA.cong c1 (fun a g ha hg => ?_)
    unfold rr_ga
    show (if a ≤ nw then (if nw - a + w ≤ nw then 0 else G (nw - a) g) else 0) = if w ≤ a ∧ a < 25 then 0 else (if a ≤ nw then G (nw - a) g else 0)
    by_cases c : a ≤ nw
    · rw [if_pos c]
      by_cases d : w ≤ a
      · rw [if_pos (by omega), if_pos ⟨d, ha⟩]
      · rw [if_neg (by omega), if_neg (by omega), if_pos c]
    · rw [if_neg c]
      split
      · rfl
      · rfl
  · refine ⟨fun i hi => ?_, fun h' g' hg' => ?_, fun h' g' hh => ?_⟩
    · obtain ⟨l, l1, l2⟩ := hL.1 i hi
      refine ⟨l, by rw [c4 i 2 (by decide)]; exact l1, fun h' => ?_⟩
      have := l2 h'
      show (if h' + w ≤ nw then 0 else G h' i) + l ≤ 5000
      split <;> omega
    · show (if h' + w ≤ nw then 0 else G h' g') = 0
      rw [hL.2.1 h' g' hg']
      split <;> rfl
    · show (if h' + w ≤ nw then 0 else G h' g') = 0
      rw [hL.2.2 h' g' hh]
      split <;> rfl
