/-! what a call asks, on both sides -/
section RRA
variable {Z : hk_Z} {nw w : Nat} {τ σ : hk_v}
theorem rr_itc2 {f g : Nat → Int32 → Int32} : ∀ (n i : Nat) (s : Int32), (∀ j s, i ≤ j → j < i + n → f j s = g j s) → hk_it f n i s = hk_it g n i s := rr_it_c
theorem rr_its {F : Nat → Int32 → Int32} {f : Nat → Nat} : ∀ (n : Nat), (∀ j s, j < n → F j s = s + nI (f j)) → hk_it F n 0 0 = nI (rr_sum f n)
  | 0, _ => rfl
  | n + 1, h => by
    rw [hk_it_last, rr_its n (fun j s hj => h j s (by omega)), Nat.zero_add, h n _ (by omega), nI_add]
    rfl
theorem rr_rot {V : Nat → Nat} : ∀ nw, rr_sum (fun a => V (rr_rg nw a)) 25 = rr_sum V 25
  | 0 => by
    simp only [rr_sum, rr_rg]
    show 0 + V 0 + V 24 + V 23 + V 22 + V 21 + V 20 + V 19 + V 18 + V 17 + V 16 + V 15 + V 14 + V 13 + V 12 + V 11 + V 10 + V 9 + V 8 + V 7 + V 6 + V 5 + V 4 + V 3 + V 2 + V 1 = _
    omega
  | nw + 1 => by
    rw [← rr_rot (V := V) nw]
    have f1 : rr_sum (fun a => V (rr_rg (nw + 1) a)) 25 = V (rr_rg (nw + 1) 0) + rr_sum (fun a => V (rr_rg (nw + 1) (a + 1))) 24 := rr_sum_f
    have f2 : rr_sum (fun a => V (rr_rg nw a)) 25 = rr_sum (fun a => V (rr_rg nw a)) 24 + V (rr_rg nw 24) := rfl
    have f3 : rr_sum (fun a => V (rr_rg (nw + 1) (a + 1))) 24 = rr_sum (fun a => V (rr_rg nw a)) 24 := rr_sum_c (fun a ha => by rw [show rr_rg (nw + 1) (a + 1) = rr_rg nw a by unfold rr_rg; omega])
    have f4 : V (rr_rg (nw + 1) 0) = V (rr_rg nw 24) := by rw [show rr_rg (nw + 1) 0 = rr_rg nw 24 by unfold rr_rg; omega]
    omega
theorem rr_I.e0 (h : rr_I Z nw w τ σ) : σ (0, 0) 2 = τ (1, 0) 2 := by
  obtain ⟨G, h1, h2⟩ := h
  rw [h1.1.1.1.1, h1.1.2.1.1.1]
theorem rr_I.e1 (h : rr_I Z nw w τ σ) : σ (0, 0) 9 = τ (1, 1) 2 := by
  obtain ⟨G, h1, h2⟩ := h
  rw [h1.1.1.1.2.1, h1.1.2.1.1.2.1]
theorem rr_I.e2 (h : rr_I Z nw w τ σ) : σ (0, 0) 17 = τ (1, 2) 2 := by
  obtain ⟨G, h1, h2⟩ := h
  rw [h1.1.1.1.2.2, h1.1.2.1.1.2.2]
theorem rr_I.sz (h : rr_I Z nw w τ σ) : hk_sz Z τ := by obtain ⟨G, h1, h2⟩ := h; exact h1.1.1
theorem rr_I.mz (h : rr_I Z nw w τ σ) : hk_mz Z σ := by obtain ⟨G, h1, h2⟩ := h; exact h1.1.2.1
theorem rr_I.nw1 (h : rr_I Z nw w τ σ) : τ (0, 0) 8 = nI nw := by obtain ⟨G, h1, h2⟩ := h; exact h1.1.2.2.1.1
theorem rr_I.nw2 (h : rr_I Z nw w τ σ) : σ (0, 0) 0 = nI nw := by obtain ⟨G, h1, h2⟩ := h; exact h1.1.2.2.1.2.1
theorem rr_I.nw3 (h : rr_I Z nw w τ σ) : nw ≤ 480 := by obtain ⟨G, h1, h2⟩ := h; exact h1.1.2.2.1.2.2
theorem rr_I.n0 (h : rr_I Z nw w τ σ) : hk_nt τ 0 := by obtain ⟨G, h1, h2⟩ := h; exact h1.2.2.2.2.2.1.1.nt
theorem rr_I.n1 (h : rr_I Z nw w τ σ) : hk_nt τ 1 := by obtain ⟨G, h1, h2⟩ := h; exact h1.2.2.2.2.2.1.2.nt
theorem rr_I.m29 (h : rr_I Z nw w τ σ) : hk_mn σ 29 := by obtain ⟨G, h1, h2⟩ := h; exact h1.2.2.2.2.2.1.1.mn
theorem rr_I.m32 (h : rr_I Z nw w τ σ) : hk_mn σ 32 := by obtain ⟨G, h1, h2⟩ := h; exact h1.2.2.2.2.2.1.2.mn
theorem rr_I.lo (h : rr_I Z nw w τ σ) : hk_lo Z τ := by obtain ⟨G, h1, h2⟩ := h; exact h1.2.2.2.1.lo
theorem rr_I.fi (h : rr_I Z nw w τ σ) : ∀ k, k < Z.1 2 → σ (1, 22) k = nI (σ (1, 22) k).toNatClampNeg ∧ (σ (1, 22) k).toNatClampNeg ≤ 200 := by obtain ⟨G, h1, h2⟩ := h; exact h1.2.2.2.1.fi
theorem rr_I.pr (h : rr_I Z nw w τ σ) : hk_pr τ := by
  have hn := h.nw3
  obtain ⟨G, h1, h2⟩ := h
  obtain ⟨p, l, p1, p2, p3, p4⟩ := h1.2.2.2.2.1
  unfold hk_pr
  rw [p1, nI_clamp (by omega)]
  exact ⟨rfl, by omega⟩
theorem rr_I.mp (h : rr_I Z nw w τ σ) : hk_mp σ := by
  have hn := h.nw3
  obtain ⟨G, h1, h2⟩ := h
  obtain ⟨p, l, p1, p2, p3, p4⟩ := h1.2.2.2.2.1
  unfold hk_mp
  rw [p2, nI_clamp (by omega)]
  exact ⟨rfl, by omega⟩
theorem rr_I.dk (h : rr_I Z nw w τ σ) : ∀ k, k < Z.1 2 → ∃ n, n ≤ 40 ∧ F_m_dryingBy (σ (1, 18) k) (σ (1, 20) k) = nI n := fun k hk => by
  obtain ⟨G, h1, h2⟩ := h
  obtain ⟨k1, k2, ⟨r, r1, r2, r3⟩, k4⟩ := h1.2.2.2.1.1 k hk
  rw [r3]
  exact rr_driesN k1 r1
theorem rr_led (h : rr_I Z nw w τ σ) : F_led τ = F_m_led σ ∧ ∃ p, (F_led τ).toNatClampNeg ≤ p ∧ (F_led τ).toNatClampNeg ≤ 100 ∧ F_led τ = nI (F_led τ).toNatClampNeg ∧ ∀ i, i < p → i < 100 → τ (4, 1) i = σ (1, 25) i ∧ τ (4, 2) i = σ (1, 26) i := by
  have hn := h.nw3
  obtain ⟨G, h1, h2⟩ := h
  obtain ⟨p, l, p1, p2, p3, p4, p5, p6, p7, p8⟩ := h1.2.2.2.2.1
  have e1 : F_led τ = nI (min p 100) := by
    unfold F_led
    rw [p1]
    rcases Nat.lt_or_ge 100 p with q | q
    · rw [if_pos (show (100 : Int32) < nI p from nI_lt (a := 100) q (by omega)), Nat.min_eq_right (by omega)]; rfl
    · rw [if_neg (show ¬ (100 : Int32) < nI p from nI_nlt (a := 100) q (by decide)), Nat.min_eq_left q]
  have e2 : F_m_led σ = nI (min p 100) := by
    unfold F_m_led
    rw [p2]
    rcases Nat.lt_or_ge p 100 with q | q
    · rw [if_neg (show ¬ (100 : Int32) ≤ nI p from nI_ge (b := 100) q (by decide)), Nat.min_eq_left (by omega)]
    · rw [if_pos (show (100 : Int32) ≤ nI p from nI_le (a := 100) q (by omega)), Nat.min_eq_right q]; rfl
  refine ⟨e1.trans e2.symm, p, ?_⟩
  rw [e1, nI_clamp (by omega)]
  exact ⟨by omega, by omega, rfl, p8⟩
theorem rr_waits (h : rr_I Z nw w τ σ) (v : Int32) : F_waits τ v = F_m_waits σ v ∧ ∃ w', rr_I Z nw w' (T_waits τ v) (T_m_waits σ v) := by
  obtain ⟨G, h1, h2⟩ := id h
  obtain ⟨hS, hD, hN, hK, hP, hTT, hC, hM, hL⟩ := id h1
  obtain ⟨s1, s2, s3, s6, s7, s8, s9⟩ := id hS
  unfold F_waits F_m_waits T_waits T_m_waits
  by_cases c : hk_in v 1 24 = 0
  · rw [if_pos c, if_pos c, if_pos c, if_pos c]
    exact ⟨rfl, w, h⟩
  · rw [if_neg c, if_neg c, if_neg c, if_neg c]
    obtain ⟨e1, e2, e3⟩ := hk_in_1n (n := 24) rfl (by omega) c
    refine ⟨by rw [s6, s7], v.toNatClampNeg, G, ?_, h2⟩
    have a1 : ∀ c i j, c ≠ 0 → hk_u τ (0, 0) 9 v (c, i) j = τ (c, i) j := fun c i j h => hk_u_o h
    have b1 : ∀ c i j, c ≠ 0 → hk_u σ (0, 0) 1 v (c, i) j = σ (c, i) j := fun c i j h => hk_u_o h
    have b0 : ∀ f, f ≠ 1 → hk_u σ (0, 0) 1 v (0, 0) f = σ (0, 0) f := fun f h => if_neg (fun e => h e.2)
    refine ⟨⟨s1.of (fun j => a1 1 j 2 (by decide)), ⟨⟨by rw [b0 2 (by decide)]; exact s2.1.1, by rw [b0 9 (by decide)]; exact s2.1.2.1, by rw [b0 17 (by decide)]; exact s2.1.2.2⟩, s2.2⟩, ⟨by simp [hk_u_ap, s3], by simp [hk_u_ap, s3], s3.2.2⟩, by rw [← e1]; simp [hk_u_ap], by rw [← e1]; simp [hk_u_ap], e2, e3⟩, hD.of (fun i j => a1 9 i j (by decide)) (fun f j _ _ => b1 1 f j (by decide)), hN.of (fun i j => a1 10 i j (by decide)) (fun f j _ _ => b1 1 f j (by decide)), hK.of (fun i j => a1 11 i j (by decide)) (fun i j => a1 13 i j (by decide)) (fun i j => a1 14 i j (by decide)) (fun f j _ _ => b1 1 f j (by decide)), hP.of (fun i j => a1 4 i j (by decide)) (fun f _ _ => b0 f (by omega)) (fun f j _ _ => b1 1 f j (by decide)), hTT.of (fun i j => a1 5 i j (by decide)) (fun i j => a1 6 i j (by decide)) (fun i j => a1 7 i j (by decide)) (fun f _ _ => b0 f (by omega)) (fun f j _ _ => b1 1 f j (by decide)), hC.of (fun i j => a1 3 i j (by decide)), hM.of (fun j => b1 1 16 j (by decide)), hL.of (fun i => a1 9 i 2 (by decide))⟩
theorem rr_sends (h : rr_I Z nw w τ σ) (g d : Int32) : F_sends τ g d = F_m_sends σ g d ∧ rr_I Z nw w (T_sends τ g d) (T_m_sends σ g d) := by
  have e1 := h.e1
  have e0 := h.e0
  obtain ⟨G, h1, h2⟩ := id h
  obtain ⟨hS, hD, hN, hK, hP, hTT, hC, hM, hL⟩ := id h1
  obtain ⟨s1, s2, s3, s6, s7, s8, s9⟩ := id hS
  unfold F_sends F_m_sends T_sends T_m_sends
  rw [e0, e1]
  rcases rr_in s1.1.2.1 s1.2.2.1 (x := g) with ⟨c, -⟩ | ⟨c, c1, c2⟩
  · rw [if_pos c, if_pos c, if_pos c, if_pos c]
    exact ⟨rfl, h⟩
  · rw [if_neg c, if_neg c, if_neg c, if_neg c]
    have n3 := (hN.1 _ c1).1.2.2.1
    generalize g.toNatClampNeg = i at c1 n3
    have upd : (d = -9 ∨ ∃ a, a < Z.1 0 ∧ d = nI a) → rr_I Z nw w (hk_u τ (10, i) 2 d) (hk_u σ (1, 12) i d) := fun hd => by
      have a1 : ∀ c i' j, c ≠ 10 → hk_u τ (10, i) 2 d (c, i') j = τ (c, i') j := fun c i j h => hk_u_o h
      have b1 : ∀ q j, q ≠ (1, 12) → hk_u σ (1, 12) i d q j = σ q j := fun q j h => if_neg (fun e => h e.1)
      refine ⟨G, ⟨hS.of (fun j => a1 1 j 2 (by decide)) (a1 0 0 8 (by decide)) (a1 0 0 9 (by decide)) (fun f _ => b1 _ _ (by simp)), hD.of (fun i j => a1 9 i j (by decide)) (fun f j h1 h2 => b1 _ _ (by simp; omega)), ⟨fun i' hi => ?_, fun i' hi hi6 => ?_⟩, hK.of (fun i j => a1 11 i j (by decide)) (fun i j => a1 13 i j (by decide)) (fun i j => a1 14 i j (by decide)) (fun f j h1 h2 => b1 _ _ (by simp; omega)), hP.of (fun i j => a1 4 i j (by decide)) (fun f _ _ => b1 _ _ (by simp)) (fun f j h1 h2 => b1 _ _ (by simp; omega)), hTT.of (fun i j => a1 5 i j (by decide)) (fun i j => a1 6 i j (by decide)) (fun i j => a1 7 i j (by decide)) (fun f _ _ => b1 _ _ (by simp)) (fun f j h1 h2 => b1 _ _ (by simp; omega)), hC.of (fun i j => a1 3 i j (by decide)), hM.of (fun j => b1 _ _ (by simp)), hL.of (fun i => a1 9 i 2 (by decide))⟩, h2⟩
      · obtain ⟨⟨m1, m2, m3, m4, m5, m6⟩, m7, m8, m9⟩ := hN.1 i' hi
        by_cases ci : i' = i
        · subst ci
          refine ⟨⟨by simp [hk_u_ap, m1], by simp [hk_u_ap, m2], by simp [hk_u_ap], by simp [hk_u_ap, m4], by simp [hk_u_ap, m5], by simp [hk_u_ap, m6]⟩, ?_, ?_, ?_⟩
          · obtain ⟨r, r1, r2⟩ := m7
            exact ⟨r, r1, by simp [hk_u_ap, r2]⟩
          · simpa [hk_u_ap] using m8
          · simpa [hk_u_ap] using hd
        · have q1 : ∀ j, hk_u τ (10, i) 2 d (10, i') j = τ (10, i') j := fun j => by simp [hk_u_ap, ci]
          have q2 : hk_u σ (1, 12) i d (1, 12) i' = σ (1, 12) i' := by simp [hk_u_ap, ci]
          rw [q1, q1, q1, q1, q1, q1, b1 _ _ (by simp), b1 _ _ (by simp), q2, b1 _ _ (by simp), b1 _ _ (by simp), b1 _ _ (by simp)]
          exact ⟨⟨m1, m2, m3, m4, m5, m6⟩, m7, m8, m9⟩
      · have q2 : hk_u σ (1, 12) i d (1, 12) i' = σ (1, 12) i' := by
          have : i' ≠ i := by omega
          simp [hk_u_ap, this]
        rw [q2, b1 _ _ (by simp), b1 _ _ (by simp), b1 _ _ (by simp)]
        exact hN.2 i' hi hi6
    by_cases d9 : d = -9
    · rw [if_pos d9, if_pos d9, if_pos d9, if_pos d9]
      exact ⟨n3, upd (Or.inl d9)⟩
    · rw [if_neg d9, if_neg d9, if_neg d9, if_neg d9]
      rcases rr_in s1.1.1 s1.2.1 (x := d) with ⟨c, -⟩ | ⟨c, c3, c4⟩
      · rw [if_pos c, if_pos c, if_pos c, if_pos c]
        exact ⟨rfl, h⟩
      · rw [if_neg c, if_neg c, if_neg c, if_neg c]
        exact ⟨n3, upd (Or.inr ⟨_, c3, c4⟩)⟩
theorem rr_read (h : rr_I Z nw w τ σ) (k x : Int32) : F_read τ k x = F_m_read σ k x ∧ rr_I Z nw w (T_read τ k x) (T_m_read σ k x) := by
  have e1 := h.e2
  obtain ⟨G, h1, h2⟩ := id h
  obtain ⟨hS, hD, hN, hK, hP, hTT, hC, hM, hL⟩ := id h1
  obtain ⟨s1, s2, s3, s6, s7, s8, s9⟩ := id hS
  unfold F_read F_m_read T_read T_m_read
  rw [e1]
  rcases rr_in s1.1.2.2 (by have := s1.2.2.2; omega) (x := k) with ⟨c, -⟩ | ⟨c, c1, c2⟩
  · rw [if_pos c, if_pos c, if_pos c, if_pos c]
    exact ⟨rfl, h⟩
  · rw [if_neg c, if_neg c, if_neg c, if_neg c]
    generalize k.toNatClampNeg = i at c1
    obtain ⟨k1, k2, ⟨r, r1, r2, r3⟩, k9⟩ := hK.1 i c1
    have e7 : τ (11, i) 7 = σ (1, 20) i := by rw [r2, r3]
    by_cases d9 : x = -9
    · rw [if_pos d9, if_pos d9, if_pos d9, if_pos d9, rr_us σ (1, 20) i rfl]
      exact ⟨e7, h⟩
    · rw [if_neg d9, if_neg d9, if_neg d9, if_neg d9]
      by_cases c : hk_in x 0 100 = 0
      · rw [if_pos c, if_pos c, if_pos c, if_pos c]
        exact ⟨rfl, h⟩
      · rw [if_neg c, if_neg c, if_neg c, if_neg c]
        obtain ⟨x1, x2⟩ := hk_in_ix (n := 100) rfl (by omega) c
        refine ⟨e7, G, ?_, h2⟩
        have a1 : ∀ c i' j, c ≠ 11 → hk_u τ (11, i) 7 x (c, i') j = τ (c, i') j := fun c i j h => hk_u_o h
        have b1 : ∀ q j, q ≠ (1, 20) → hk_u σ (1, 20) i x q j = σ q j := fun q j h => if_neg (fun e => h e.1)
        refine ⟨hS.of (fun j => a1 1 j 2 (by decide)) (a1 0 0 8 (by decide)) (a1 0 0 9 (by decide)) (fun f _ => b1 _ _ (by simp)), hD.of (fun i j => a1 9 i j (by decide)) (fun f j h1 h2 => b1 _ _ (by simp; omega)), hN.of (fun i j => a1 10 i j (by decide)) (fun f j h1 h2 => b1 _ _ (by simp; omega)), ⟨fun i' hi => ?_, fun i' hi => ?_⟩, hP.of (fun i j => a1 4 i j (by decide)) (fun f _ _ => b1 _ _ (by simp)) (fun f j h1 h2 => b1 _ _ (by simp; omega)), hTT.of (fun i j => a1 5 i j (by decide)) (fun i j => a1 6 i j (by decide)) (fun i j => a1 7 i j (by decide)) (fun f _ _ => b1 _ _ (by simp)) (fun f j h1 h2 => b1 _ _ (by simp; omega)), hC.of (fun i j => a1 3 i j (by decide)), hM.of (fun j => b1 _ _ (by simp)), hL.of (fun i => a1 9 i 2 (by decide))⟩
        · by_cases ci : i' = i
          · subst ci
            have q1 : ∀ j, j ≠ 7 → hk_u τ (11, i') 7 x (11, i') j = τ (11, i') j := fun j hj => by simp [hk_u_ap, hj]
            obtain ⟨k10, n, f, pre, g1, g2, g3, g4, g5, g6, g7⟩ := k9
            exact ⟨by rw [b1 _ _ (by simp)]; exact k1, ⟨by rw [q1 1 (by decide)]; exact k2.1, by rw [b1 _ _ (by simp)]; exact k2.2.1, k2.2.2⟩, ⟨x.toNatClampNeg, x1, by rw [← x2]; simp [hk_u_ap], by rw [← x2]; simp [hk_u_ap]⟩, by rw [q1 6 (by decide), b1 _ _ (by simp)]; exact k10, n, f, pre, by rw [q1 4 (by decide)]; exact g1, by rw [q1 5 (by decide)]; exact g2, by rw [b1 _ _ (by simp)]; exact g3, g4, g5, by rw [q1 6 (by decide)]; exact g6, g7.of (by omega) (fun j => a1 13 i' j (by decide)) (fun j => a1 14 i' j (by decide)) (fun b _ => b1 _ _ (by simp))⟩
          · exact (hK.1 i' hi).of (fun j => by simp [hk_u_ap, ci]) (fun j => a1 13 i' j (by decide)) (fun j => a1 14 i' j (by decide)) (fun f _ _ => by simp [hk_u_ap, ci]) (fun b _ => b1 _ _ (by simp))
        · rw [b1 _ _ (by simp), b1 _ _ (by simp)]
          exact hK.2 i' hi
theorem rr_drying (h : rr_I Z nw w τ σ) (x : Int64) (k v : Int32) : F_drying Z τ k v = F_m_drying σ k v ∧ X_drying Z τ σ x k v = X_m_drying Z τ σ x k v := by
  have e1 := h.e2
  obtain ⟨G, h1, h2⟩ := id h
  obtain ⟨hS, hD, hN, hK, hP, hTT, hC, hM, hL⟩ := id h1
  obtain ⟨s1, s2, s3, s6, s7, s8, s9⟩ := id hS
  unfold F_drying F_m_drying X_drying X_m_drying
  rw [e1]
  rcases rr_in s1.1.2.2 (by have := s1.2.2.2; omega) (x := k) with ⟨c, -⟩ | ⟨c, c1, c2⟩
  · rw [if_pos c, if_pos c, if_pos c, if_pos c]
    exact ⟨rfl, rfl⟩
  · rw [if_neg c, if_neg c, if_neg c, if_neg c]
    generalize k.toNatClampNeg = i at c1
    obtain ⟨k1, k2, ⟨r, r1, r2, r3⟩, k9⟩ := hK.1 i c1
    by_cases c : hk_in v 0 100 = 0
    · rw [if_pos c, if_pos c, if_pos c, if_pos c]
      exact ⟨rfl, rfl⟩
    · rw [if_neg c, if_neg c, if_neg c, if_neg c]
      obtain ⟨x1, x2⟩ := hk_in_ix (n := 100) rfl (by omega) c
      rw [x2]
      refine ⟨rr_dries k1 x1, ?_⟩
      rcases k1 with ⟨q1, q2⟩ | ⟨q1, q2⟩ | ⟨q1, q2⟩
      · rw [q1, q2, if_pos rfl]; rfl
      · rw [q1, q2, if_neg (by decide), if_pos rfl]; rfl
      · rw [q1, q2, if_neg (by decide), if_neg (by decide)]; rfl
theorem rr_tally (h : rr_I Z nw w τ σ) (g q : Int32) : F_tally τ g q = F_m_tally σ g q := by
  have e1 := h.e1
  obtain ⟨G, h1, h2⟩ := id h
  obtain ⟨hS, hD, hN, hK, hP, hTT, hC, hM, hL⟩ := id h1
  unfold F_tally F_m_tally
  rw [e1]
  rcases rr_in hS.1.1.2.1 hS.1.2.2.1 (x := g) with ⟨c, -⟩ | ⟨c, c1, c2⟩
  · rw [if_pos c, if_pos c]
  · rw [if_neg c, if_neg c]
    obtain ⟨⟨m1, m2, m3, m4, m5, m6⟩, -⟩ := hN.1 _ c1
    rw [m3, m4, m5, m6]
theorem rr_priced (h : rr_I Z nw w τ σ) (x : Int32) : F_priced τ x = F_m_priced σ x := by
  obtain ⟨G, h1, h2⟩ := id h
  unfold F_priced F_m_priced
  rw [rr_price h1.2.2.2.2.2.1]
theorem rr_dutyq (h : rr_I Z nw w τ σ) (x : Int32) : F_duty τ x = F_m_duty σ x := by
  obtain ⟨G, h1, h2⟩ := id h
  unfold F_duty F_m_duty
  rw [rr_duty h1.2.2.2.2.2.1]
theorem rr_pocket (h : rr_I Z nw w τ σ) (x q : Int32) : F_pocket τ x q = F_m_pocket σ x q := by
  obtain ⟨l1, p, l2, l3, l4, l5⟩ := rr_led h
  obtain ⟨G, h1, h2⟩ := id h
  unfold F_pocket F_m_pocket
  rw [← l1]
  by_cases c : hk_in x 0 (F_led τ - 1) = 0
  · rw [if_pos c, if_pos c]
  · rw [if_neg c, if_neg c]
    have hx : x.toNatClampNeg < (F_led τ).toNatClampNeg := by
      obtain ⟨c1, c2⟩ := hk_in_ne c
      obtain ⟨j, hj, rfl⟩ := nI_of c1
      rw [nI_clamp hj]
      rcases Nat.lt_or_ge j (F_led τ).toNatClampNeg with q | q
      · exact q
      · exfalso
        refine c2 ?_
        rw [l4, Int32.lt_iff_toInt_lt, nI_toInt hj, show (1 : Int32) = nI 1 from rfl, pk_sub_toInt (by omega) (by omega)]
        omega
    obtain ⟨a1, a2⟩ := l5 x.toNatClampNeg (by omega) (by omega)
    rw [a1, a2, rr_duty h1.2.2.2.2.2.1]
theorem rr_green (h : rr_I Z nw w τ σ) (x : Int32) : F_green τ x = F_m_green σ nw x := by
  obtain ⟨G, h1, h2⟩ := id h
  obtain ⟨hS, hD, hN, hK, hP, hTT, hC, hM, hL⟩ := id h1
  obtain ⟨s1, s2, ⟨s3, s4, s5⟩, s6⟩ := id hS
  unfold F_green F_m_green
  by_cases c : hk_in x 0 23 = 0
  · rw [if_pos c, if_pos c]
  · rw [if_neg c, if_neg c, s3]
    obtain ⟨x1, x2⟩ := hk_in_ix (n := 23) rfl (by omega) c
    generalize x.toNatClampNeg = a at x1 x2
    subst x2
    have e1 : nI nw - 1 - nI a = nI nw - nI (a + 1) := by rw [← nI_1]; grind
    have eL : F_ofHour τ (nI nw - nI (a + 1)) = nI (rr_sum (fun g => rr_ga G nw (a + 1) g) 6) := by
      unfold F_ofHour
      refine rr_its 6 (fun j s hj => ?_)
      unfold B_ofHour
      rw [rr_place s5 (by omega) hj, hC.1 (a + 1) j (by omega) hj]
    rw [e1, eL]
    by_cases d : a + 1 ≤ nw
    · rw [pk_sub d, if_neg (nI_pos (by omega))]
      have e2 : hk_it (B_m_green nw (nI a) σ) 6 0 0 = nI (rr_sum (fun g => G (nw - (a + 1)) g) 6) := by
        refine rr_its 6 (fun j s hj => ?_)
        unfold B_m_green
        rw [e1, pk_sub d, show (6 : Int32) = nI 6 from rfl, pk_mul, nI_add, nI_clamp (by omega), hM _ _ (by omega) hj]
      rw [e2]
      congr 1
      refine rr_sum_c (fun g _ => ?_)
      unfold rr_ga
      rw [if_pos d]
    · rw [if_pos (pk_sneg (by omega) (by omega))]
      rw [rr_sum_z (fun g _ => by unfold rr_ga; rw [if_neg d])]
      rfl
theorem rr_greenOf (h : rr_I Z nw w τ σ) {i : Nat} (hi : i < 6) : ∃ G, rr_R Z nw w (800 * nw) G τ σ ∧ F_m_greenOf σ nw (nI i) = nI (rr_sum (fun h => G h i) nw) ∧ ∀ g, rr_sum (fun a => rr_ga G nw a g) 25 = rr_sum (fun h => G h g) nw := by
  obtain ⟨G, h1, h2⟩ := id h
  obtain ⟨hS, hD, hN, hK, hP, hTT, hC, hM, hL⟩ := id h1
  obtain ⟨s1, s2, ⟨s3, s4, s5⟩, s6⟩ := id hS
  refine ⟨G, h1, ?_, fun g => ?_⟩
  · unfold F_m_greenOf
    refine rr_its nw (fun j s hj => ?_)
    unfold B_m_greenOf
    rw [nI_add, nI_clamp (by omega), hM _ _ (by omega) hi]
  · have e := rr_sumA (G := G) (nw := nw) (w := 0) (g := g) (by omega) (fun h hh => hL.2.2 h g (Or.inr hh))
    rw [Nat.sub_zero, Nat.sub_zero, rr_sum_s (fun h => G h g) nw, h2 g, Nat.add_zero] at e
    rw [← e]
    exact rr_sum_c (fun a _ => by rw [Nat.zero_add])
theorem rr_gofGarden (h : rr_I Z nw w τ σ) {i : Nat} (hi : i < 6) : F_gofGarden τ (nI i) = F_m_greenOf σ nw (nI i) := by
  obtain ⟨G, h1, e1, e2⟩ := rr_greenOf h hi
  obtain ⟨hS, hD, hN, hK, hP, hTT, hC, hM, hL⟩ := id h1
  rw [e1, ← e2 i]
  unfold F_gofGarden
  rw [if_neg (rr_in5 hi)]
  have e3 : hk_it (B_gofGarden (nI i) τ) 25 0 0 = nI (rr_sum (fun j => rr_ga G nw (rr_rg nw j) i) 25) := by
    refine rr_its 25 (fun j s hj => ?_)
    unfold B_gofGarden
    have e4 : hk_rg (nI j) = j := by
      unfold hk_rg
      rw [nI_toInt (by omega)]
      omega
    rw [hk_place_n, e4, nI_clamp (by omega)]
    have e5 := hC.1 (rr_rg nw j) i (by unfold rr_rg; omega) hi
    rw [show rr_rg nw (rr_rg nw j) = j by unfold rr_rg; omega] at e5
    rw [e5]
  exact e3.trans (congrArg nI (rr_rot (V := fun a => rr_ga G nw a i) nw))
theorem rr_ikb {j : Nat} {g gg : Int32} : ∀ (b i : Nat) (x : Int32), (∀ y, i ≤ y → y < i + b → σ (1, 23) (200 * j + y) = gg) → hk_it (B_m_ikb j g σ) b i x = if gg = g then x + nI b else x
  | 0, _, x, _ => by
    show x = _
    split
    · rw [show nI 0 = 0 from rfl, Int32.add_zero]
    · rfl
  | b + 1, i, x, h => by
    rw [hk_it_last, rr_ikb b i x (fun y h1 h2 => h y h1 (by omega))]
    unfold B_m_ikb
    rw [h (i + b) (by omega) (by omega)]
    split
    · rw [Int32.add_assoc, nI_1]
    · rw [Int32.add_zero]
theorem rr_ik {k n f : Nat} {pre : Nat → Nat} (hl : rr_l Z τ σ k n f pre) (g x : Int32) : ∀ m, m ≤ n → hk_it (B_m_ikb k g σ) (pre m) 0 x = x + hk_it (B_ofGarden k g τ) m 0 0
  | 0, _ => by rw [hl.1]; show x = x + 0; rw [Int32.add_zero]
  | m + 1, hm => by
    obtain ⟨a1, a2, a3, g', a4, a5, a6⟩ := hl.2.2 m (by omega)
    obtain ⟨b, hb⟩ : ∃ b, pre (m + 1) = pre m + b := ⟨pre (m + 1) - pre m, by omega⟩
    rw [hb, rr_it_ap, rr_ik hl g x m (by omega), Nat.zero_add, rr_ikb (gg := nI g') b (pre m) _ (fun y h1 h2 => a6 y h1 (by omega)), hk_it_last, Nat.zero_add]
    unfold B_ofGarden
    rw [a5, a3, show pre (m + 1) - pre m = b by omega]
    split
    · rw [Int32.add_assoc]
    · rfl
theorem rr_inKilns (h : rr_I Z nw w τ σ) (g : Int32) : F_inKilnsOf Z τ g = F_m_inKilns Z σ g := by
  obtain ⟨G, h1, h2⟩ := id h
  unfold F_inKilnsOf F_m_inKilns
  refine rr_it_c _ _ _ (fun j s _ hj => ?_)
  obtain ⟨k1, ⟨k2, k3, k4, k5⟩, k6, k9, n, f, pre, g1, g2, g3, g4, g5, g6, g7⟩ := h1.2.2.2.1.1 j (by omega)
  unfold B_inKilnsOf B_m_inKilns F_ofGarden
  rw [g1, g3, nI_clamp (by omega), nI_clamp (by omega), ← g7.2.1, rr_ik g7 g s n (Nat.le_refl _)]
theorem rr_about (h : rr_I Z nw w τ σ) (g q : Int32) : F_about Z τ g q = F_m_about Z σ nw g q := by
  have e1 := h.e0
  obtain ⟨G, h1, h2⟩ := id h
  obtain ⟨hS, hD, hN, hK, hP, hTT, hC, hM, hL⟩ := id h1
  unfold F_about F_m_about
  rw [e1]
  rcases rr_in hS.1.1.1 hS.1.2.1 (x := g) with ⟨c, -⟩ | ⟨c, c1, c2⟩
  · rw [if_pos c, if_pos c]
  · rw [if_neg c, if_neg c]
    obtain ⟨d1, d2, d3, d4, d5, d6⟩ := hD.1 _ c1
    have e2 : F_gofGarden τ g = F_m_greenOf σ nw g := by
      rw [c2]
      exact rr_gofGarden h (by have := hS.1.2.1; omega)
    rw [d3, d4, d5, d6, e2, rr_inKilns h]
theorem rr_or3 {k : Nat} {gg : Int32} (hk : k < 4) : ∀ (b i : Nat) (x : Int32), i + b ≤ 200 → (∀ y, i ≤ y → y < i + (b + 1) → y < 200 → σ (1, 23) (200 * k + y) = gg) → i + (b + 1) ≤ 200 → hk_it (B_m_in (nI k) σ) (b + 1) i x = (x ||| (1 <<< (gg &&& 31)))
  | 0, i, x, _, h, h2 => by
    show B_m_in (nI k) σ i x = _
    unfold B_m_in
    rw [show (200 : Int32) = nI 200 from rfl, pk_mul, nI_add, nI_clamp (by omega), h i (by omega) (by omega) (by omega)]
  | b + 1, i, x, h1, h, h2 => by
    rw [hk_it_last, rr_or3 hk b i x (by omega) (fun y y1 y2 y3 => h y y1 (by omega) y3) (by omega)]
    unfold B_m_in
    rw [show (200 : Int32) = nI 200 from rfl, pk_mul, nI_add, nI_clamp (by omega), h (i + (b + 1)) (by omega) (by omega) (by omega), rr_or2]
theorem rr_bits {k n f : Nat} {pre : Nat → Nat} (hk : k < 4) (hl : rr_l Z τ σ k n f pre) (hf : f ≤ 200) : ∀ m, m ≤ n → hk_it (B_m_in (nI k) σ) (pre m) 0 0 = hk_it (B_gardenBits k τ) m 0 0
  | 0, _ => by rw [hl.1]; rfl
  | m + 1, hm => by
    obtain ⟨a1, a2, a3, g', a4, a5, a6⟩ := hl.2.2 m (by omega)
    obtain ⟨b, hb⟩ : ∃ b, pre (m + 1) = pre m + (b + 1) := ⟨pre (m + 1) - pre m - 1, by omega⟩
    rw [hb, rr_it_ap, rr_bits hk hl hf m (by omega), Nat.zero_add, rr_or3 (gg := nI g') hk b (pre m) _ (by omega) (fun y h1 h2 _ => a6 y h1 (by omega)) (by omega), hk_it_last, Nat.zero_add]
    unfold B_gardenBits
    rw [a5]
theorem rr_inq (h : rr_I Z nw w τ σ) (k q : Int32) : F_inn τ k q = F_m_inn σ k q := by
  have e1 := h.e2
  obtain ⟨G, h1, h2⟩ := id h
  obtain ⟨hS, hD, hN, hK, hP, hTT, hC, hM, hL⟩ := id h1
  have h4 := hS.1.2.2.2
  unfold F_inn F_m_inn
  rw [e1]
  rcases rr_in hS.1.1.2.2 (by omega) (x := k) with ⟨c, -⟩ | ⟨c, c1, c2⟩
  · rw [if_pos c, if_pos c]
  · rw [if_neg c, if_neg c]
    generalize k.toNatClampNeg = i at c1 c2
    subst c2
    obtain ⟨k1, ⟨k2, k3, k4, k5⟩, ⟨r, r1, r2, r3⟩, k9, n, f, pre, g1, g2, g3, g4, g5, g6, g7⟩ := hK.1 i c1
    have e3 : F_gardenBits τ i n = hk_it (B_m_in (nI i) σ) f 0 0 := by
      unfold F_gardenBits
      rw [← rr_bits (by omega) g7 (by omega) n (Nat.le_refl _), g7.2.1]
    rw [g1, g2, g3, r2, r3, k9, nI_clamp (by omega), nI_clamp (by omega), e3]
theorem rr_sum_e {f : Nat → Nat} {n : Nat} (h : ∀ i, n ≤ i → f i = 0) : ∀ m, rr_sum f (n + m) = rr_sum f n
  | 0 => rfl
  | m + 1 => by rw [← Nat.add_assoc, rr_sum_s, rr_sum_e h m, h _ (by omega)]; rfl
theorem rr_count (h : rr_I Z nw w τ σ) (q : Int32) : F_count Z τ q = F_m_count Z σ nw q := by
  have e0 := h.e0
  have e1 := h.e1
  have e2 := h.e2
  obtain ⟨l1, p, l2, l3, l4, l5⟩ := rr_led h
  obtain ⟨G, h1, h2⟩ := id h
  obtain ⟨hS, hD, hN, hK, hP, hTT, hC, hM, hL⟩ := id h1
  obtain ⟨s1, s2, ⟨s3, s4, s5⟩, s6⟩ := id hS
  obtain ⟨pp, l, p1, p2, p3, p4, p5, p6⟩ := id hP
  have c6 : F_chargedInAll τ = hk_it (B_m_c6 σ) ((F_m_led σ).toNatClampNeg) 0 0 := by
    unfold F_chargedInAll
    rw [← l1]
    refine rr_it_c _ _ _ (fun j s _ hj => ?_)
    unfold B_chargedInAll B_m_c6
    rw [(l5 j (by omega) (by omega)).2, rr_duty hTT]
  have c7 : F_lostInAll Z τ = hk_it (B_m_c7 σ) (Z.1 0) 0 0 := by
    unfold F_lostInAll
    refine rr_it_c _ _ _ (fun j s _ hj => ?_)
    unfold B_lostInAll B_m_c7
    rw [(hD.1 j (by omega)).2.2.2.2.1]
  have c9 : F_payInAll Z τ = hk_it (B_m_c9 σ) (Z.1 1) 0 0 := by
    unfold F_payInAll
    refine rr_it_c _ _ _ (fun j s _ hj => ?_)
    unfold B_payInAll B_m_c9
    rw [(hN.1 j (by omega)).1.2.2.2.2.2]
  have c8 : τ (3, 0) 1 = hk_it (B_m_c8 nw σ) (Z.1 0) 0 0 := by
    obtain ⟨G, h1, e3, e4⟩ := rr_greenOf h (i := 0) (by omega)
    obtain ⟨hS, hD, hN, hK, hP, hTT, hC, hM, hL⟩ := id h1
    rw [hC.2, rr_sum_x, rr_its (F := B_m_c8 nw σ) (f := fun g => rr_sum (fun h => G h g) nw) (Z.1 0) (fun j s hj => by
      unfold B_m_c8
      congr 1
      unfold F_m_greenOf
      refine rr_its nw (fun i s hi => ?_)
      unfold B_m_greenOf
      rw [nI_add, nI_clamp (by have := s1.2.1; omega), hM _ _ (by omega) (by have := s1.2.1; omega)])]
    congr 1
    have e5 := rr_sum_e (f := fun g => rr_sum (fun h => G h g) nw) (n := Z.1 0) (fun g hg => rr_sum_z (fun h _ => hL.2.1 h g hg)) (6 - Z.1 0)
    rw [show Z.1 0 + (6 - Z.1 0) = 6 by have := s1.2.1; omega] at e5
    rw [← e5]
    exact rr_sum_c (fun g _ => e4 g)
  unfold F_count F_m_count
  rw [e0, e1, e2, s3, s4, p1, p2, p4, p5, c6, c7, c8, c9]
theorem rr_boundq (h : rr_I Z nw w τ σ) : F_bound Z τ = F_m_bound Z σ := by
  obtain ⟨G, h1, h2⟩ := id h
  unfold F_bound F_m_bound
  refine rr_it_c _ _ _ (fun j s _ hj => ?_)
  obtain ⟨k1, ⟨k2, k3, k4, k5⟩, ⟨r, r1, r2, r3⟩, k9⟩ := h1.2.2.2.1.1 j (by omega)
  obtain ⟨n, n1, n2⟩ := rr_driesN k1 r1
  unfold B_bound B_m_bound F_bears
  rw [r2, r3, rr_dries k1 r1, n2, k2, k3]
  rcases Nat.eq_zero_or_pos n with q | q
  · subst q
    rw [if_neg (by decide), if_pos (by decide)]
  · have e1 : (60 : Int32) + nI n - 1 = nI (59 + n) := by
      rw [show (60 : Int32) = nI 60 from rfl, nI_add, show (1 : Int32) = nI 1 from rfl, pk_sub (by omega)]
      congr 1
      omega
    have e2 : (59 : Int32) + nI n = nI (59 + n) := by rw [show (59 : Int32) = nI 59 from rfl, nI_add]
    have e3 : 1 ≤ (59 + n) / n := by
      rw [Nat.le_div_iff_mul_le q]
      omega
    have e4 : (59 + n) / n ≤ 59 + n := Nat.div_le_self _ _
    rw [if_pos (show (0 : Int32) < nI n from nI_lt (a := 0) q (by omega)), e1, e2, pk_div (by omega) q (by omega), if_neg (nI_ne0 q (by omega)), if_neg (show ¬ nI ((59 + n) / n) < 1 from nI_nlt (b := 1) e3 (by omega))]
end RRA
