/-! notices, and the hour's first step: gang by gang -/
theorem rr_nlt1 {a : Nat} (h : a < 2 ^ 31) : ¬ nI a < -1 := by
  rw [Int32.lt_iff_toInt_lt, nI_toInt h]
  have : (-1 : Int32).toInt = -1 := by decide
  omega
theorem rr_n9 {a : Nat} (h : a < 2 ^ 31) : ¬ nI a = -9 := by
  intro e
  have h1 := congrArg Int32.toInt e
  rw [nI_toInt h] at h1
  have : (-9 : Int32).toInt = -9 := by decide
  omega
theorem rr_force0 {τ σ : hk_v} {i ff fv : Nat} {fi : Int32} {n : Nat} {x : Int32} (Bm : Nat → Int32 → Int32) (hB : ∀ j be, Bm j be = if x < σ (1, ff) j then be else (if be < 0 then nI j else (if σ (1, ff) j < σ (1, ff) be.toNatClampNeg then be else nI j))) (h2 : τ (5, i) 2 = fi) (hn : n ≤ 20) (h : ∀ j, j < n → τ (6, i) j = σ (1, ff) j ∧ τ (7, i) j = σ (1, fv) j ∧ ∃ a, a ≤ 480 ∧ τ (6, i) j = nI a) : F_inForce τ i n x = if 0 ≤ hk_it Bm n 0 (-1) then σ (1, fv) ((hk_it Bm n 0 (-1)).toNatClampNeg) else fi := by
  have key := rr_it0 (f := B_inForce i x τ) (g := Bm) (fun j s be => (be = -1 ∧ s = (-1, fi)) ∨ ∃ b, b < j ∧ be = nI b ∧ s = (σ (1, ff) b, σ (1, fv) b)) n (s := (-1, τ (5, i) 2)) (t := -1) (Or.inl ⟨rfl, by rw [h2]⟩) (fun j s be hj hI => by
    obtain ⟨e1, e2, a, ha, e3⟩ := h j hj
    rw [hB]
    rcases hI with ⟨rfl, rfl⟩ | ⟨b, hb, rfl, rfl⟩
    · simp only [B_inForce, e1, e2]
      by_cases c : x < σ (1, ff) j
      · rw [if_pos c, if_pos c]; exact Or.inl ⟨rfl, rfl⟩
      · rw [if_neg c, if_neg c, if_pos (show (-1 : Int32) < 0 by decide), if_neg (show ¬ σ (1, ff) j < -1 by rw [← e1, e3]; exact rr_nlt1 (by omega))]
        exact Or.inr ⟨j, by omega, rfl, rfl⟩
    · simp only [B_inForce, e1, e2]
      by_cases c : x < σ (1, ff) j
      · rw [if_pos c, if_pos c]; exact Or.inr ⟨b, by omega, rfl, rfl⟩
      · rw [if_neg c, if_neg c, if_neg (nI_pos (by omega)), nI_clamp (by omega)]
        by_cases d : σ (1, ff) j < σ (1, ff) b
        · rw [if_pos d, if_pos d]; exact Or.inr ⟨b, by omega, rfl, rfl⟩
        · rw [if_neg d, if_neg d]; exact Or.inr ⟨j, by omega, rfl, rfl⟩)
  unfold F_inForce
  rcases key with ⟨h3, h4⟩ | ⟨b, hb, h3, h4⟩
  · rw [h3, h4, if_neg (by decide)]
  · rw [h3, h4, if_pos (nI_pos' (by omega)), nI_clamp (by omega)]
theorem rr_price {τ σ : hk_v} (h : rr_T τ σ) (x : Int32) : F_inForce τ 0 (τ (5, 0) 3).toNatClampNeg x = F_m_priceAt σ x := by
  obtain ⟨h2, n, hn, h3, h4, h5⟩ := h.1
  unfold F_m_priceAt
  rw [h3, h4, nI_clamp (by omega)]
  exact rr_force0 (B_m_priceAt x σ) (fun j be => rfl) h2 hn h5
theorem rr_duty {τ σ : hk_v} (h : rr_T τ σ) (x : Int32) : F_inForce τ 1 (τ (5, 1) 3).toNatClampNeg x = F_m_dutyOn σ x := by
  obtain ⟨h2, n, hn, h3, h4, h5⟩ := h.2
  unfold F_m_dutyOn
  rw [h3, h4, nI_clamp (by omega)]
  exact rr_force0 (B_m_dutyOn x σ) (fun j be => rfl) h2 hn h5
theorem rr_t.nt {τ σ : hk_v} {i fc ff fv : Nat} {fi : Int32} (h : rr_t τ σ i fc ff fv fi) : hk_nt τ i := by
  obtain ⟨h2, n, hn, h3, h4, h5⟩ := h
  unfold hk_nt
  rw [h3, nI_clamp (by omega)]
  exact ⟨rfl, hn⟩
theorem rr_t.mn {τ σ : hk_v} {i fc ff fv : Nat} {fi : Int32} (h : rr_t τ σ i fc ff fv fi) : hk_mn σ fc := by
  obtain ⟨h2, n, hn, h3, h4, h5⟩ := h
  unfold hk_mn
  rw [h4, nI_clamp (by omega)]
  exact ⟨rfl, hn⟩
theorem rr_priceAt_of {σ σ' : hk_v} {x : Int32} (h29 : σ' (0, 0) 29 = σ (0, 0) 29) (h30 : ∀ k, σ' (1, 30) k = σ (1, 30) k) (h31 : ∀ k, σ' (1, 31) k = σ (1, 31) k) : F_m_priceAt σ' x = F_m_priceAt σ x := by
  have e : B_m_priceAt x σ' = B_m_priceAt x σ := by funext j be; simp only [B_m_priceAt, h30]
  unfold F_m_priceAt
  rw [e, h29, h31]
/-! the green of an hour and a garden changes -/
def rr_up (G : Nat → Nat → Nat) (h g v : Nat) : Nat → Nat → Nat := fun h' g' => if h' = h ∧ g' = g then v else G h' g'
theorem rr_ga_up {G : Nat → Nat → Nat} {nw a g v : Nat} (ha : a ≤ nw) (a' g' : Nat) : rr_ga (rr_up G (nw - a) g v) nw a' g' = if a' = a ∧ g' = g then v else rr_ga G nw a' g' := by
  unfold rr_ga rr_up
  by_cases c : a' = a ∧ g' = g
  · rw [if_pos (by omega), if_pos (by omega), if_pos c]
  · rw [if_neg c]
    by_cases d : a' ≤ nw
    · rw [if_pos d, if_neg (by omega), if_pos d]
    · rw [if_neg d, if_neg d]
theorem rr_C.upd {nw : Nat} {G G' : Nat → Nat → Nat} {τ τ' : hk_v} (h : rr_C nw G τ) {a g v s : Nat} (ha : a < 25) (hg : g < 6) (hG : ∀ a' g', rr_ga G' nw a' g' = if a' = a ∧ g' = g then v else rr_ga G nw a' g') (e1 : ∀ k, τ' (3, 1) k = if k = rr_rg nw a * 6 + g then nI v else τ (3, 1) k) (e2 : τ' (3, 0) 1 = nI s) (hs : s + rr_ga G nw a g = rr_sum (fun a => rr_sum (fun g => rr_ga G nw a g) 6) 25 + v) : rr_C nw G' τ' := by
  refine ⟨fun a' g' ha' hg' => ?_, ?_⟩
  · rw [hG, e1]
    by_cases c : a' = a ∧ g' = g
    · rw [if_pos c, c.1, c.2, if_pos rfl]
    · rw [if_neg c, if_neg (by unfold rr_rg; omega)]
      exact h.1 a' g' ha' hg'
  · rw [e2]
    have i1 := rr_sum_u (f := fun g => rr_ga G nw a g) (g := fun g => rr_ga G' nw a g) hg (fun i _ hi => by show rr_ga G' nw a i = rr_ga G nw a i; rw [hG, if_neg (by omega)])
    have i2 := rr_sum_u (f := fun a => rr_sum (fun g => rr_ga G nw a g) 6) (g := fun a => rr_sum (fun g => rr_ga G' nw a g) 6) ha (fun i _ hi => rr_sum_c (fun j _ => by show rr_ga G' nw i j = rr_ga G nw i j; rw [hG, if_neg (by omega)]))
    have i3 : rr_ga G' nw a g = v := by rw [hG, if_pos ⟨rfl, rfl⟩]
    simp only [i3] at i1
    congr 1
    omega
theorem rr_M.upd {G : Nat → Nat → Nat} {σ σ' : hk_v} (h : rr_M G σ) {h0 g v : Nat} (hg : g < 6) (e : ∀ k, σ' (1, 16) k = if k = 6 * h0 + g then nI v else σ (1, 16) k) : rr_M (rr_up G h0 g v) σ' := by
  intro h1 g1 a b
  rw [e]
  unfold rr_up
  by_cases c : h1 = h0 ∧ g1 = g
  · rw [if_pos c, c.1, c.2, if_pos rfl]
  · rw [if_neg c, if_neg (by omega)]
    exact h h1 g1 a b
theorem rr_place {nw a g : Nat} (hn : nw ≤ 480) (ha : a < 25) (hg : g < 6) : (F_place (nI nw - nI a) (nI g)).toNatClampNeg = rr_rg nw a * 6 + g := by
  rw [hk_place_n]
  have e : hk_rg (nI nw - nI a) = rr_rg nw a := by
    unfold hk_rg rr_rg
    rw [pk_sub_toInt (by omega) (by omega)]
    omega
  rw [e]
  have : rr_rg nw a < 25 := by unfold rr_rg; omega
  exact nI_clamp (by omega)
theorem rr_in5 {g : Nat} (hg : g < 6) : ¬ hk_in (nI g) 0 5 = 0 := by
  unfold hk_in
  rw [if_neg (nI_pos (by omega)), if_neg (show ¬ (5 : Int32) < nI g from nI_nlt (a := 5) (b := g) (by omega) (by decide))]
  decide
/-! picking: both sides as one row of changes -/
def rr_cp (t : hk_v) (j a p : Nat) (v pay : Int32) : hk_v := hk_u (hk_u (hk_u (hk_u (hk_u (hk_u (hk_u t (9, a) 2 (t (9, a) 2 - v)) (9, a) 3 (t (9, a) 3 + v)) (10, j) 3 (t (10, j) 3 + v)) (10, j) 4 (t (10, j) 4 + v * 100 / t (10, j) 1)) (10, j) 5 (t (10, j) 5 + v * 100 / t (10, j) 1 * pay)) (3, 1) p (t (3, 1) p + v)) (3, 0) 1 (t (3, 0) 1 + v)
def rr_mp5 (σ : hk_v) (i a p : Nat) (v : Int32) : hk_v := hk_u (hk_u (hk_u (hk_u (hk_u σ (1, 3) a (σ (1, 3) a - v)) (1, 6) a (σ (1, 6) a + v)) (1, 16) p (σ (1, 16) p + v)) (1, 13) i (σ (1, 13) i + v)) (1, 14) i (σ (1, 14) i + v * 100 / σ (1, 11) i)
def rr_mp (σ : hk_v) (i a p : Nat) (v pr : Int32) : hk_v := hk_u (rr_mp5 σ i a p v) (1, 15) i (σ (1, 15) i + v * 100 / σ (1, 11) i * pr)
theorem rr_mp_eq {σ : hk_v} {i a nw : Nat} (hat : σ (1, 12) i = nI a) (ha : a < 6) (hnw : σ (0, 0) 0 = nI nw) (hn : nw ≤ 480) (hr : ¬ F_m_isRipe σ (nI a) (nI nw / 12) = 0) : T_m_picks σ i = rr_mp σ i a (6 * nw + a) (if σ (1, 3) a ≤ σ (1, 10) i then σ (1, 3) a else σ (1, 10) i) (F_m_priceAt σ (nI nw)) := by
  have e1 : ¬ nI a = -9 := rr_n9 (by omega)
  have e2 : (6 * nI nw + nI a).toNatClampNeg = 6 * nw + a := by
    rw [show (6 : Int32) = nI 6 from rfl, pk_mul, nI_add, nI_clamp (by omega)]
  have e3 : (nI a).toNatClampNeg = a := nI_clamp (by omega)
  have hp : ∀ v, F_m_priceAt (rr_mp5 σ i a (6 * nw + a) v) (nI nw) = F_m_priceAt σ (nI nw) := fun v => rr_priceAt_of (by simp [rr_mp5, hk_u_ap]) (fun k => by simp [rr_mp5, hk_u_ap]) (fun k => by simp [rr_mp5, hk_u_ap])
  unfold T_m_picks
  simp only [hat, hnw, e2, e3, if_neg e1, if_neg hr]
  split
  · exact congrArg (fun pr => hk_u (rr_mp5 σ i a (6 * nw + a) (σ (1, 3) a)) (1, 15) i (σ (1, 15) i + σ (1, 3) a * 100 / σ (1, 11) i * pr)) (hp _)
  · exact congrArg (fun pr => hk_u (rr_mp5 σ i a (6 * nw + a) (σ (1, 10) i)) (1, 15) i (σ (1, 15) i + σ (1, 10) i * 100 / σ (1, 11) i * pr)) (hp _)
theorem rr_cp_eq {τ0 t : hk_v} {j a nw : Nat} {v : Int32} (hat : t (10, j) 2 = nI a) (ha : a < 6) (hin : ¬ hk_in (nI a) 0 (t (1, 0) 2 - 1) = 0) (hnw : t (0, 0) 8 = nI nw) (hn : nw ≤ 480) (hr : ¬ F_isRipe t a (nI nw / 12) = 0) (hv : F_yields t a (t (10, j) 0) = v) : B_pick τ0 j t = rr_cp t j a (rr_rg nw 0 * 6 + a) v (F_inForce τ0 0 (τ0 (5, 0) 3).toNatClampNeg (τ0 (0, 0) 8)) := by
  have e3 : (nI a).toNatClampNeg = a := nI_clamp (by omega)
  have q1 : T_yields t a (t (10, j) 0) = hk_u (hk_u t (9, a) 2 (t (9, a) 2 - v)) (9, a) 3 (t (9, a) 3 + v) := by rw [← hv]; rfl
  have ep : (F_place (nI nw) (nI a)).toNatClampNeg = rr_rg nw 0 * 6 + a := by
    have := rr_place (nw := nw) (a := 0) (g := a) hn (by omega) ha
    rw [show nI nw - nI 0 = nI nw from by rw [pk_sub (by omega)]; rfl] at this
    exact this
  unfold B_pick
  simp only [hat, hnw, e3, if_neg hin, if_neg hr, hv, q1]
  generalize F_inForce τ0 0 (τ0 (5, 0) 3).toNatClampNeg (τ0 (0, 0) 8) = pay
  have q2 : T_enter (hk_u (hk_u t (9, a) 2 (t (9, a) 2 - v)) (9, a) 3 (t (9, a) 3 + v)) j v pay = hk_u (hk_u (hk_u (hk_u (hk_u t (9, a) 2 (t (9, a) 2 - v)) (9, a) 3 (t (9, a) 3 + v)) (10, j) 3 (t (10, j) 3 + v)) (10, j) 4 (t (10, j) 4 + v * 100 / t (10, j) 1)) (10, j) 5 (t (10, j) 5 + v * 100 / t (10, j) 1 * pay) := by
    unfold T_enter
    simp [hk_u_ap]
  rw [q2]
  have q3 : (hk_u (hk_u (hk_u (hk_u (hk_u t (9, a) 2 (t (9, a) 2 - v)) (9, a) 3 (t (9, a) 3 + v)) (10, j) 3 (t (10, j) 3 + v)) (10, j) 4 (t (10, j) 4 + v * 100 / t (10, j) 1)) (10, j) 5 (t (10, j) 5 + v * 100 / t (10, j) 1 * pay)) (0, 0) 8 = nI nw := by simp [hk_u_ap, hnw]
  have q4 : (hk_u (hk_u (hk_u (hk_u (hk_u t (9, a) 2 (t (9, a) 2 - v)) (9, a) 3 (t (9, a) 3 + v)) (10, j) 3 (t (10, j) 3 + v)) (10, j) 4 (t (10, j) 4 + v * 100 / t (10, j) 1)) (10, j) 5 (t (10, j) 5 + v * 100 / t (10, j) 1 * pay)) (10, j) 2 = nI a := by simp [hk_u_ap, hat]
  rw [q3, q4]
  unfold T_glay rr_cp
  rw [if_neg (rr_in5 ha), ep]
  simp [hk_u_ap]
/-- a gang picks, or doesn't: on both sides alike -/
theorem rr_pick {Z : hk_Z} {nw w P : Nat} {G : Nat → Nat → Nat} {τ0 t σ : hk_v} (h : rr_R Z nw w P G t σ) (hT : ∀ i k, t (5, i) k = τ0 (5, i) k ∧ t (6, i) k = τ0 (6, i) k ∧ t (7, i) k = τ0 (7, i) k) (h8 : τ0 (0, 0) 8 = nI nw) {j : Nat} (hj : j < Z.1 1) : (∃ G', rr_R Z nw w P G' (B_pick τ0 j t) (T_m_picks σ j)) ∧ ∀ i k, B_pick τ0 j t (5, i) k = τ0 (5, i) k ∧ B_pick τ0 j t (6, i) k = τ0 (6, i) k ∧ B_pick τ0 j t (7, i) k = τ0 (7, i) k := by
  obtain ⟨hS, hD, hN, hK, hP, hTT, hC, hM, hL⟩ := h
  obtain ⟨⟨n1, n2, n3, n4, n5, n6⟩, ⟨r, hr, n7⟩, n8, n9⟩ := hN.1 j hj
  obtain ⟨s1, s2, ⟨s3, s4, s5⟩, s6⟩ := id hS
  rcases n9 with n9 | ⟨a, ha, n9⟩
  · have e1 : B_pick τ0 j t = t := by
      unfold B_pick
      rw [n9, if_pos (by unfold hk_in; rw [if_pos (by decide)])]
    have e2 : T_m_picks σ j = σ := by
      unfold T_m_picks
      rw [← n3, n9, if_pos rfl]
    rw [e1, e2]
    exact ⟨⟨G, hS, hD, hN, hK, hP, hTT, hC, hM, hL⟩, hT⟩
  · have ha6 : a < 6 := by have := s1.2.1; omega
    have hin : ¬ hk_in (nI a) 0 (t (1, 0) 2 - 1) = 0 := hk_in_sz' s1.1.1 ha s1.2.1
    have m12 : σ (1, 12) j = nI a := by rw [← n3, n9]
    have e3 : (nI a).toNatClampNeg = a := nI_clamp (by omega)
    obtain ⟨d1, d2, d3, d4, d5, d6⟩ := hD.1 a ha
    have er : F_isRipe t a (nI nw / 12) = F_m_isRipe σ (nI a) (nI nw / 12) := by
      unfold F_isRipe F_m_isRipe
      rw [e3, d1, d2]
    by_cases c : F_m_isRipe σ (nI a) (nI nw / 12) = 0
    · have e1 : B_pick τ0 j t = t := by
        unfold B_pick
        rw [n9, if_neg hin, s3, e3, if_pos (by rw [er]; exact c)]
      have e2 : T_m_picks σ j = σ := by
        unfold T_m_picks
        rw [m12, if_neg (rr_n9 (by omega)), s4, if_pos c]
      rw [e1, e2]
      exact ⟨⟨G, hS, hD, hN, hK, hP, hTT, hC, hM, hL⟩, hT⟩
    · obtain ⟨l, l1, l2⟩ := hL.1 a ha
      have hl5 := l2 0
      have hv1 : F_yields t a (t (10, j) 0) = nI (min l r) := by
        unfold F_yields
        rw [l1, n7]
        rcases Nat.lt_or_ge l r with q | q
        · rw [if_pos (nI_lt q (by omega)), Nat.min_eq_left (by omega)]
        · rw [if_neg (nI_nlt q (by omega)), Nat.min_eq_right (by omega)]
      have hv2 : (if σ (1, 3) a ≤ σ (1, 10) j then σ (1, 3) a else σ (1, 10) j) = nI (min l r) := by
        rw [← d3, ← n1, l1, n7]
        rcases Nat.lt_or_ge r l with q | q
        · rw [if_neg (nI_ge q (by omega)), Nat.min_eq_right (by omega)]
        · rw [if_pos (nI_le q (by omega)), Nat.min_eq_left (by omega)]
      have hpay : F_inForce τ0 0 (τ0 (5, 0) 3).toNatClampNeg (τ0 (0, 0) 8) = F_m_priceAt σ (nI nw) := by
        rw [h8]
        exact rr_price (hTT.of (fun i k => (hT i k).1.symm) (fun i k => (hT i k).2.1.symm) (fun i k => (hT i k).2.2.symm) (fun _ _ _ => rfl) (fun _ _ _ _ => rfl)) _
      rw [rr_cp_eq n9 ha6 hin s3 s5 (by rw [er]; exact c) hv1, rr_mp_eq m12 ha6 s4 s5 c, hv2, hpay]
      generalize F_m_priceAt σ (nI nw) = pay
      have hml : min l r ≤ l := Nat.min_le_left _ _
      generalize min l r = v at hml
      refine ⟨⟨rr_up G nw a (G nw a + v), ?_, ?_, ?_, ?_, ?_, ?_, ?_, ?_, ?_⟩, fun i k => ?_⟩
      · exact hS.of (fun j => by simp [rr_cp, hk_u_ap]) (by simp [rr_cp, hk_u_ap]) (by simp [rr_cp, hk_u_ap]) (fun f _ => by simp [rr_mp, rr_mp5, hk_u_ap])
      · refine ⟨fun i hi => ?_, fun i hi => ?_⟩
        · obtain ⟨d1, d2, d3, d4, d5, d6⟩ := hD.1 i hi
          by_cases c : i = a
          · subst c; simp [rr_cp, rr_mp, rr_mp5, hk_u_ap, d1, d2, d3, d4, d5, d6]
          · simp [rr_cp, rr_mp, rr_mp5, hk_u_ap, d1, d2, d3, d4, d5, d6, c]
        · have hi2 : i ≠ a := by omega
          have := hD.2 i hi
          simp [rr_mp, rr_mp5, hk_u_ap, hi2, this]
      · refine ⟨fun i hi => ?_, fun i hi hi6 => ?_⟩
        · obtain ⟨⟨m1, m2, m3, m4, m5, m6⟩, m7, m8, m9⟩ := hN.1 i hi
          by_cases c : i = j
          · subst c; simp [rr_cp, rr_mp, rr_mp5, hk_u_ap, m1, m2, m3, m4, m5, m6]
            rw [← m1, ← m2, ← m3]
            exact ⟨m7, m8, m9⟩
          · simp [rr_cp, rr_mp, rr_mp5, hk_u_ap, m1, m2, m3, m4, m5, m6, c]
            rw [← m1, ← m2, ← m3]
            exact ⟨m7, m8, m9⟩
        · have hi2 : i ≠ j := by omega
          have := hN.2 i hi hi6
          simp [rr_mp, rr_mp5, hk_u_ap, hi2, this]
      · exact hK.of (fun k j => by simp [rr_cp, hk_u_ap]) (fun k j => by simp [rr_cp, hk_u_ap]) (fun k j => by simp [rr_cp, hk_u_ap]) (fun f k h1 h2 => by simp only [rr_mp, rr_mp5, hk_u_ap, Prod.mk.injEq]; repeat rw [if_neg (by omega)])
      · exact hP.of (fun k j => by simp [rr_cp, hk_u_ap]) (fun f _ _ => by simp [rr_mp, rr_mp5, hk_u_ap]) (fun f k h1 h2 => by simp only [rr_mp, rr_mp5, hk_u_ap, Prod.mk.injEq]; repeat rw [if_neg (by omega)])
      · exact hTT.of (fun k j => by simp [rr_cp, hk_u_ap]) (fun k j => by simp [rr_cp, hk_u_ap]) (fun k j => by simp [rr_cp, hk_u_ap]) (fun f _ _ => by simp [rr_mp, rr_mp5, hk_u_ap]) (fun f k h1 h2 => by simp only [rr_mp, rr_mp5, hk_u_ap, Prod.mk.injEq]; repeat rw [if_neg (by omega)])
      · have hga : rr_ga G nw 0 a = G nw a := by unfold rr_ga; rw [if_pos (by omega)]; rfl
        refine hC.upd (a := 0) (g := a) (v := G nw a + v) (s := rr_sum (fun a => rr_sum (fun g => rr_ga G nw a g) 6) 25 + v) (by omega) ha6 (fun a' g' => rr_ga_up (a := 0) (Nat.zero_le _) a' g') (fun k => ?_) ?_ (by omega)
        · have := hC.1 0 a (by omega) ha6
          rw [hga] at this
          by_cases c : k = rr_rg nw 0 * 6 + a
          · subst c; simp [rr_cp, hk_u_ap, this, nI_add]
          · simp [rr_cp, hk_u_ap, c]
        · have := hC.2
          simp [rr_cp, hk_u_ap, this, nI_add]
      · refine hM.upd ha6 (fun k => ?_)
        have := hM nw a s5 ha6
        by_cases c : k = 6 * nw + a
        · subst c; simp [rr_mp, rr_mp5, hk_u_ap, this, nI_add]
        · simp [rr_mp, rr_mp5, hk_u_ap, c]
      · refine ⟨fun i hi => ?_, fun h' g' hg' => ?_, fun h' g' hh => ?_⟩
        · by_cases c : i = a
          · subst c
            refine ⟨l - v, by simp [rr_cp, hk_u_ap, l1, pk_sub hml], fun h' => ?_⟩
            have := l2 h'
            unfold rr_up
            split
            · rename_i q; rw [q.1] at this; omega
            · omega
          · obtain ⟨l', a1, a2⟩ := hL.1 i hi
            refine ⟨l', by simp [rr_cp, hk_u_ap, c, a1], fun h' => ?_⟩
            unfold rr_up
            rw [if_neg (by omega)]
            exact a2 h'
        · unfold rr_up
          rw [if_neg (by omega)]
          exact hL.2.1 h' g' hg'
        · unfold rr_up
          rw [if_neg (by omega)]
          exact hL.2.2 h' g' hh
      · have := hT i k
        simp [rr_cp, hk_u_ap, this]
