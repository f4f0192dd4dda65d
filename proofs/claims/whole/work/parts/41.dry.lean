/-! the hour's second step: kiln by kiln; the press -/
def rr_prn (g : Int32) : Nat → hk_v → hk_v
  | 0, s => s
  | m + 1, s => T_m_presses (rr_prn g m s) g
theorem rr_prn_s (g : Int32) (m : Nat) (s : hk_v) : rr_prn g (m + 1) s = T_m_presses (rr_prn g m s) g := rfl
theorem rr_prn_a (g : Int32) (a : Nat) (s : hk_v) : ∀ b, rr_prn g (a + b) s = rr_prn g b (rr_prn g a s)
  | 0 => rfl
  | b + 1 => by rw [← Nat.add_assoc, rr_prn_s, rr_prn_s, rr_prn_a g a s b]
theorem rr_pre_o {s : hk_v} {g : Int32} {q : Nat × Nat} {k : Nat} (h1 : q ≠ (1, 8)) (h2 : q ≠ (0, 0)) (h3 : q ≠ (1, 25)) (h4 : q ≠ (1, 26)) : T_m_presses s g q k = s q k := by
  unfold T_m_presses
  split
  · split
    · simp [hk_u_ap, h1, h2]
    · simp [hk_u_ap, h1, h2, h3, h4]
  · simp [hk_u_ap, h1, h2]
theorem rr_pre_0 {s : hk_v} {g : Int32} {f : Nat} (h1 : f ≠ 24) (h2 : f ≠ 27) (h3 : f ≠ 28) : T_m_presses s g (0, 0) f = s (0, 0) f := by
  unfold T_m_presses
  split
  · split
    · simp [hk_u_ap, h1, h2, h3]
    · simp [hk_u_ap, h1, h2, h3]
  · simp [hk_u_ap, h2, h3]
theorem rr_pre_8 {s : hk_v} {g : Int32} {x : Nat} : T_m_presses s g (1, 8) x = if x = g.toNatClampNeg then s (1, 8) x + 1 else s (1, 8) x := by
  unfold T_m_presses
  by_cases c : x = g.toNatClampNeg
  · subst c
    split
    · split
      · simp [hk_u_ap]
      · simp [hk_u_ap]
    · simp [hk_u_ap]
  · split
    · split
      · simp [hk_u_ap, c]
      · simp [hk_u_ap, c]
    · simp [hk_u_ap, c]
theorem rr_pre_lt {s : hk_v} {g : Int32} {l : Nat} (hl : s (0, 0) 27 = nI l) (h : l + 1 < 20) : T_m_presses s g (0, 0) 27 = nI (l + 1) ∧ T_m_presses s g (0, 0) 24 = s (0, 0) 24 ∧ T_m_presses s g (0, 0) 28 = (s (0, 0) 28 ||| (1 <<< (g &&& 31))) ∧ ∀ f k, f = 25 ∨ f = 26 → T_m_presses s g (1, f) k = s (1, f) k := by
  have e : ¬ s (0, 0) 27 + 1 = 20 := by
    rw [hl, nI_1]
    exact fun q => by have := (nI_eq (a := l + 1) (b := 20) (by omega) (by decide)).mp q; omega
  unfold T_m_presses
  rw [if_neg e]
  refine ⟨by simp [hk_u_ap, hl, nI_1], by simp [hk_u_ap], by simp [hk_u_ap], fun f k hf => ?_⟩
  rcases hf with rfl | rfl <;> simp [hk_u_ap]
theorem rr_pre_19 {s : hk_v} {g : Int32} {p : Nat} (hl : s (0, 0) 27 = nI 19) (hp : s (0, 0) 24 = nI p) (hb : p < 2 ^ 30) : T_m_presses s g (0, 0) 27 = nI 0 ∧ T_m_presses s g (0, 0) 24 = nI (p + 1) ∧ T_m_presses s g (0, 0) 28 = 0 ∧ ∀ k, T_m_presses s g (1, 25) k = (if k = p ∧ p < 100 then s (0, 0) 28 ||| (1 <<< (g &&& 31)) else s (1, 25) k) ∧ T_m_presses s g (1, 26) k = (if k = p ∧ p < 100 then s (0, 0) 0 / 12 else s (1, 26) k) := by
  have e : s (0, 0) 27 + 1 = 20 := by rw [hl]; rfl
  unfold T_m_presses
  rw [if_pos e, hp]
  by_cases c : 100 ≤ p
  · rw [if_pos (show (100 : Int32) ≤ nI p from nI_le (a := 100) c (by omega))]
    have c2 : ¬ p < 100 := by omega
    refine ⟨by simp [hk_u_ap]; rfl, by simp [hk_u_ap, nI_1], by simp [hk_u_ap], fun k => ?_⟩
    simp [hk_u_ap, c2]
  · rw [if_neg (show ¬ (100 : Int32) ≤ nI p from nI_ge (b := 100) (by omega) (by decide)), nI_clamp (by omega)]
    have c2 : p < 100 := by omega
    refine ⟨by simp [hk_u_ap]; rfl, by simp [hk_u_ap, nI_1], by simp [hk_u_ap], fun k => ?_⟩
    by_cases d : k = p
    · simp [hk_u_ap, c2, d]
    · simp [hk_u_ap, d]
theorem rr_prn_o {s : hk_v} {g : Int32} {q : Nat × Nat} {k : Nat} (h1 : q ≠ (1, 8)) (h2 : q ≠ (0, 0)) (h3 : q ≠ (1, 25)) (h4 : q ≠ (1, 26)) : ∀ m, rr_prn g m s q k = s q k
  | 0 => rfl
  | m + 1 => by rw [rr_prn_s, rr_pre_o h1 h2 h3 h4]; exact rr_prn_o h1 h2 h3 h4 m
theorem rr_prn_0 {s : hk_v} {g : Int32} {f : Nat} (h1 : f ≠ 24) (h2 : f ≠ 27) (h3 : f ≠ 28) : ∀ m, rr_prn g m s (0, 0) f = s (0, 0) f
  | 0 => rfl
  | m + 1 => by rw [rr_prn_s, rr_pre_0 h1 h2 h3]; exact rr_prn_0 h1 h2 h3 m
theorem rr_prn_8 {s : hk_v} {g x : Nat} (hg : g < 2 ^ 31) : ∀ m, rr_prn (nI g) m s (1, 8) x = if x = g then s (1, 8) x + nI m else s (1, 8) x
  | 0 => by
    show s (1, 8) x = _
    split
    · rw [show nI 0 = 0 from rfl, Int32.add_zero]
    · rfl
  | m + 1 => by
    rw [rr_prn_s, rr_pre_8, nI_clamp hg, rr_prn_8 hg m]
    split
    · rw [Int32.add_assoc, nI_1]
    · rfl
theorem rr_or2 (x b : Int32) : (x ||| b) ||| b = x ||| b := by
  rw [Int32.or_assoc, Int32.or_self]
theorem rr_prn_small {g : Int32} {s : hk_v} {l : Nat} (hl : s (0, 0) 27 = nI l) : ∀ m, l + m < 20 → rr_prn g m s (0, 0) 27 = nI (l + m) ∧ rr_prn g m s (0, 0) 24 = s (0, 0) 24 ∧ (rr_prn g m s (0, 0) 28 ||| (1 <<< (g &&& 31)) = (s (0, 0) 28 ||| (1 <<< (g &&& 31))) ∧ (1 ≤ m → rr_prn g m s (0, 0) 28 = (s (0, 0) 28 ||| (1 <<< (g &&& 31))))) ∧ ∀ f k, f = 25 ∨ f = 26 → rr_prn g m s (1, f) k = s (1, f) k
  | 0, _ => ⟨hl, rfl, ⟨rfl, fun h => by omega⟩, fun _ _ _ => rfl⟩
  | m + 1, h => by
    obtain ⟨a1, a2, ⟨a3, a4⟩, a5⟩ := rr_prn_small (g := g) hl m (by omega)
    obtain ⟨b1, b2, b3, b4⟩ := rr_pre_lt (g := g) a1 (by omega)
    rw [rr_prn_s]
    refine ⟨b1, b2.trans a2, ⟨?_, fun _ => b3.trans a3⟩, fun f k hf => (b4 f k hf).trans (a5 f k hf)⟩
    rw [b3, a3, rr_or2]
theorem rr_po {t : hk_v} {d : Int32} {p : Nat} (h3 : t (4, 0) 2 = nI p) (hp : p < 2 ^ 30) (i : Nat) : T_pressOne t d (4, 1) i = (if i = p ∧ p < 100 then t (4, 0) 4 else t (4, 1) i) ∧ T_pressOne t d (4, 2) i = (if i = p ∧ p < 100 then d else t (4, 2) i) := by
  unfold T_pressOne
  rw [h3]
  by_cases c : 100 ≤ p
  · rw [if_pos (show (100 : Int32) ≤ nI p from nI_le (a := 100) c (by omega))]
    have c2 : ¬ p < 100 := by omega
    simp [hk_u_ap, c2]
  · rw [if_neg (show ¬ (100 : Int32) ≤ nI p from nI_ge (b := 100) (by omega) (by decide)), nI_clamp (by omega)]
    have c2 : p < 100 := by omega
    by_cases e : i = p
    · simp [hk_u_ap, c2, e]
    · simp [hk_u_ap, e]
def rr_fin (t : hk_v) : hk_v := if t (4, 0) 3 = 0 then hk_u t (4, 0) 4 0 else t
/-- a lot is laid: as its bushels one by one -/
theorem rr_lay0 {g d : Int32} : ∀ (n : Nat) (t s : hk_v) (l b p : Nat), l < 20 → 1 ≤ b → l + b < 20 * n → b ≤ 200 → p + b < 2 ^ 30 → t (4, 0) 3 = nI (l + b) → s (0, 0) 27 = nI l → t (4, 0) 2 = nI p → s (0, 0) 24 = nI p → t (4, 0) 4 = (s (0, 0) 28 ||| (1 <<< (g &&& 31))) → (∀ i, i < p → i < 100 → t (4, 1) i = s (1, 25) i ∧ t (4, 2) i = s (1, 26) i) → s (0, 0) 0 / 12 = d → rr_P (p + b) (rr_fin (hk_wh (B_plw g d) n t)) (rr_prn g b s)
  | 0, t, s, l, b, p, hl, hb1, hn, hb, hp, h1, h2, h3, h4, h5, h6, h7 => by omega
  | n + 1, t, s, l, b, p, hl, hb1, hn, hb, hp, h1, h2, h3, h4, h5, h6, h7 => by
    by_cases c : l + b < 20
    · have e : B_plw g d t = none := by
        unfold B_plw
        rw [h1, if_pos (show nI (l + b) < (20 : Int32) from nI_lt (b := 20) c (by decide))]
      rw [hk_wh_n e]
      have e0 : ¬ t (4, 0) 3 = 0 := by rw [h1]; exact nI_ne0 (by omega) (by omega)
      unfold rr_fin
      rw [if_neg e0]
      obtain ⟨q1, q2, q3, q4⟩ := rr_prn_small (g := g) h2 b c
      exact ⟨p, l + b, h3, by rw [q2, h4], by omega, h1, q1, c, by rw [q3.2 hb1]; exact h5, fun i a1 a2 => by rw [q4 25 i (Or.inl rfl), q4 26 i (Or.inr rfl)]; exact h6 i a1 a2⟩
    · obtain ⟨b', hb'⟩ : ∃ b', b = (19 - l) + 1 + b' := ⟨b - (20 - l), by omega⟩
      have eb : rr_prn g b s = rr_prn g b' (T_m_presses (rr_prn g (19 - l) s) g) := by rw [hb', rr_prn_a, rr_prn_s]
      rw [eb]
      obtain ⟨q1, q2, q3, q4⟩ := rr_prn_small (g := g) h2 (19 - l) (by omega)
      rw [show l + (19 - l) = 19 by omega] at q1
      obtain ⟨u1, u2, u3, u4⟩ := rr_pre_19 (g := g) q1 (q2.trans h4) (by omega)
      have q0 : T_m_presses (rr_prn g (19 - l) s) g (0, 0) 0 = s (0, 0) 0 := by
        rw [rr_pre_0 (by decide) (by decide) (by decide), rr_prn_0 (by decide) (by decide) (by decide)]
      rw [rr_prn_0 (f := 0) (by decide) (by decide) (by decide), q3.1, h7] at u4
      generalize T_m_presses (rr_prn g (19 - l) s) g = s2 at u1 u2 u3 u4 q0
      have e : B_plw g d t = some (hk_u (hk_u (T_pressOne t d) (4, 0) 4 (1 <<< (g &&& 31))) (4, 0) 3 (T_pressOne t d (4, 0) 3 - 20)) := by
        unfold B_plw
        rw [if_neg (by rw [h1]; exact nI_nlt (a := l + b) (b := 20) (by omega) (by omega))]
      rw [hk_wh_s e]
      have v3 : (hk_u (hk_u (T_pressOne t d) (4, 0) 4 (1 <<< (g &&& 31))) (4, 0) 3 (T_pressOne t d (4, 0) 3 - 20)) (4, 0) 3 = nI (0 + b') := by
        simp only [hk_u_ap, and_self, if_true]
        rw [pressOne_3, h1, show (20 : Int32) = nI 20 from rfl, pk_sub (by omega)]
        congr 1
        omega
      have v2 : (hk_u (hk_u (T_pressOne t d) (4, 0) 4 (1 <<< (g &&& 31))) (4, 0) 3 (T_pressOne t d (4, 0) 3 - 20)) (4, 0) 2 = nI (p + 1) := by
        simp only [hk_u_ap]
        rw [if_neg (by decide), if_neg (by decide), pressOne_2, h3, nI_1]
      have v4 : (hk_u (hk_u (T_pressOne t d) (4, 0) 4 (1 <<< (g &&& 31))) (4, 0) 3 (T_pressOne t d (4, 0) 3 - 20)) (4, 0) 4 = (1 <<< (g &&& 31)) := by
        simp only [hk_u_ap]
        rw [if_neg (by decide), if_pos (by decide)]
      have v5 : ∀ i, (hk_u (hk_u (T_pressOne t d) (4, 0) 4 (1 <<< (g &&& 31))) (4, 0) 3 (T_pressOne t d (4, 0) 3 - 20)) (4, 1) i = T_pressOne t d (4, 1) i := fun i => by simp [hk_u_ap]
      have v6 : ∀ i, (hk_u (hk_u (T_pressOne t d) (4, 0) 4 (1 <<< (g &&& 31))) (4, 0) 3 (T_pressOne t d (4, 0) 3 - 20)) (4, 2) i = T_pressOne t d (4, 2) i := fun i => by simp [hk_u_ap]
      have v7 : ∀ i, i < p + 1 → i < 100 → (hk_u (hk_u (T_pressOne t d) (4, 0) 4 (1 <<< (g &&& 31))) (4, 0) 3 (T_pressOne t d (4, 0) 3 - 20)) (4, 1) i = s2 (1, 25) i ∧ (hk_u (hk_u (T_pressOne t d) (4, 0) 4 (1 <<< (g &&& 31))) (4, 0) 3 (T_pressOne t d (4, 0) 3 - 20)) (4, 2) i = s2 (1, 26) i := by
        intro i i1 i2
        rw [v5, v6, (rr_po h3 (by omega) i).1, (rr_po h3 (by omega) i).2, (u4 i).1, (u4 i).2]
        by_cases ei : i = p
        · rw [if_pos ⟨ei, by omega⟩, if_pos ⟨ei, by omega⟩, if_pos ⟨ei, by omega⟩, if_pos ⟨ei, by omega⟩]
          exact ⟨h5, rfl⟩
        · rw [if_neg (fun q => ei q.1), if_neg (fun q => ei q.1), if_neg (fun q => ei q.1), if_neg (fun q => ei q.1), q4 25 i (Or.inl rfl), q4 26 i (Or.inr rfl)]
          exact h6 i (by omega) i2
      generalize hk_u (hk_u (T_pressOne t d) (4, 0) 4 (1 <<< (g &&& 31))) (4, 0) 3 (T_pressOne t d (4, 0) 3 - 20) = t2 at v2 v3 v4 v7
      rcases Nat.eq_zero_or_pos b' with hz | hz
      · subst hz
        obtain ⟨n', rfl⟩ : ∃ n', n = n' + 1 := ⟨n - 1, by omega⟩
        have e2 : B_plw g d t2 = none := by
          unfold B_plw
          rw [v3, if_pos (by decide)]
        rw [hk_wh_n e2]
        unfold rr_fin
        rw [if_pos (by rw [v3]; rfl)]
        refine ⟨p + 1, 0, ?_, u2, by omega, ?_, u1, by omega, ?_, fun i i1 i2 => ?_⟩
        · simp only [hk_u_ap]; rw [if_neg (by decide)]; exact v2
        · simp only [hk_u_ap]; rw [if_neg (by decide)]; exact v3
        · simp only [hk_u_ap]; rw [if_pos (by decide)]; exact u3.symm
        · have := v7 i i1 i2
          simpa [hk_u_ap, rr_prn] using this
      · exact (rr_lay0 n t2 s2 0 b' (p + 1) (by omega) hz (by omega) (by omega) (by omega) v3 u1 v2 u2 (by rw [v4, u3, Int32.zero_or]) v7 (by rw [q0]; exact h7)).le (by omega)
theorem rr_seg {k : Nat} {g : Int32} {s0 : hk_v} : ∀ (b i : Nat), (∀ x, i ≤ x → x < i + b → s0 (1, 23) (200 * k + x) = g) → hk_it (B_m_dries k) b i s0 = rr_prn g b s0
  | 0, _, _ => rfl
  | b + 1, i, h => by
    rw [hk_it_last, rr_seg b i (fun x a1 a2 => h x a1 (by omega)), rr_prn_s]
    show T_m_presses (rr_prn g b s0) (rr_prn g b s0 (1, 23) (200 * k + (i + b))) = _
    rw [rr_prn_o (by decide) (by decide) (by decide) (by decide), h (i + b) (by omega) (by omega)]
theorem rr_unl {Z : hk_Z} {nw w P : Nat} {t0 s0 : hk_v} {k n f : Nat} {pre : Nat → Nat} (hl : rr_l Z t0 s0 k n f pre) (hf : f ≤ 200) (hS : rr_S Z nw w t0 s0) (hD : rr_D Z t0 s0) (hP : rr_P P t0 s0) (hPb : P + 200 < 2 ^ 30) : ∀ m, m ≤ n → rr_P (P + pre m) (hk_it (B_unload k) m 0 t0) (hk_it (B_m_dries k) (pre m) 0 s0) ∧ rr_D Z (hk_it (B_unload k) m 0 t0) (hk_it (B_m_dries k) (pre m) 0 s0) ∧ (∀ c i j, c ≠ 9 → c ≠ 4 → hk_it (B_unload k) m 0 t0 (c, i) j = t0 (c, i) j) ∧ (∀ i j, j ≠ 5 → hk_it (B_unload k) m 0 t0 (9, i) j = t0 (9, i) j) ∧ (∀ q j, q ≠ (1, 8) → q ≠ (0, 0) → q ≠ (1, 25) → q ≠ (1, 26) → hk_it (B_m_dries k) (pre m) 0 s0 q j = s0 q j) ∧ (∀ f, f ≠ 24 → f ≠ 27 → f ≠ 28 → hk_it (B_m_dries k) (pre m) 0 s0 (0, 0) f = s0 (0, 0) f)
  | 0, _ => by
    rw [hl.1]
    exact ⟨hP, hD, fun _ _ _ _ _ => rfl, fun _ _ _ => rfl, fun _ _ _ _ _ _ => rfl, fun _ _ _ _ => rfl⟩
  | m + 1, hm => by
    obtain ⟨i1, i2, i3, i4, i5, i6⟩ := rr_unl hl hf hS hD hP hPb m (by omega)
    obtain ⟨a1, a2, a3, g, a4, a5, a6⟩ := hl.2.2 m (by omega)
    obtain ⟨b, hb⟩ : ∃ b, pre (m + 1) = pre m + b := ⟨pre (m + 1) - pre m, by omega⟩
    obtain ⟨s1, s2, ⟨s3, s4, s5⟩, s6⟩ := id hS
    rw [hk_it_last, hb, rr_it_ap, Nat.zero_add, Nat.zero_add]
    have hg6 : g < 6 := by have := s1.2.1; omega
    rw [rr_seg (g := nI g) b (pre m) (fun x x1 x2 => by rw [i5 _ _ (by decide) (by decide) (by decide) (by decide)]; exact a6 x x1 (by omega))]
    rw [show pre (m + 1) - pre m = b by omega] at a3
    generalize hk_it (B_unload k) m 0 t0 = t at i1 i2 i3 i4
    generalize hk_it (B_m_dries k) (pre m) 0 s0 = s at i1 i2 i5 i6
    have c13 : t (13, k) m = nI g := by rw [i3 13 k m (by decide) (by decide)]; exact a5
    have c14 : t (14, k) m = nI b := by rw [i3 14 k m (by decide) (by decide)]; exact a3
    have c8 : t (0, 0) 8 = nI nw := by rw [i3 0 0 8 (by decide) (by decide)]; exact s3
    have c1 : t (1, 0) 2 = nI (Z.1 0) := by rw [i3 1 0 2 (by decide) (by decide)]; exact s1.1.1
    have hin : ¬ hk_in (nI g) 0 (t (1, 0) 2 - 1) = 0 := hk_in_sz' c1 a4 s1.2.1
    have eB : B_unload k m t = T_play (hk_u t (9, g) 5 (t (9, g) 5 + nI b)) (nI g) (nI b) (nI nw / 12) := by
      unfold B_unload
      rw [c13, c14, c8, if_neg hin, nI_clamp (by omega)]
    rw [eB]
    have hb0 : (0 : Int32) < nI b := show nI 0 < nI b from nI_lt (by omega) (by omega)
    obtain ⟨p, l, p1, p2, p3, p4, p5, p6, p7, p8⟩ := i1
    refine ⟨?_, ?_, fun c i j h9 h4 => ?_, fun i j hj => ?_, fun q j q1 q2 q3 q4 => ?_, fun f f1 f2 f3 => ?_⟩
    · have eT : T_play (hk_u t (9, g) 5 (t (9, g) 5 + nI b)) (nI g) (nI b) (nI nw / 12) = rr_fin (hk_wh (B_plw (nI g) (nI nw / 12)) 200 (hk_u (hk_u (hk_u t (9, g) 5 (t (9, g) 5 + nI b)) (4, 0) 4 (t (4, 0) 4 ||| (1 <<< (nI g &&& 31)))) (4, 0) 3 (t (4, 0) 3 + nI b))) := by
        unfold T_play
        rw [if_pos hb0]
        rfl
      rw [eT]
      refine (rr_lay0 200 _ s l b p p6 (by omega) (by omega) (by omega) (by omega) ?_ p5 ?_ p2 ?_ (fun i i1 i2 => ?_) ?_).le (by omega)
      · simp [hk_u_ap, p4, nI_add]
      · simp [hk_u_ap, p1]
      · simp [hk_u_ap, p7]
      · have := p8 i i1 i2
        simpa [hk_u_ap] using this
      · rw [i6 0 (by decide) (by decide) (by decide), s4]
    · have e9 : ∀ i j, T_play (hk_u t (9, g) 5 (t (9, g) 5 + nI b)) (nI g) (nI b) (nI nw / 12) (9, i) j = if i = g ∧ j = 5 then t (9, g) 5 + nI b else t (9, i) j := fun i j => by
        rw [T_play_o (show (9 : Nat) ≠ 4 by decide)]
        simp [hk_u_ap]
      have e8 : ∀ f x, f ≠ 8 → f ≤ 8 → rr_prn (nI g) b s (1, f) x = s (1, f) x := fun f x h1 h2 => rr_prn_o (by simp; omega) (by simp) (by simp; omega) (by simp; omega) b
      refine ⟨fun i hi => ?_, fun i hi => ?_⟩
      · obtain ⟨d1, d2, d3, d4, d5, d6⟩ := i2.1 i hi
        rw [e8 4 i (by decide) (by decide), e8 5 i (by decide) (by decide), e8 3 i (by decide) (by decide), e8 6 i (by decide) (by decide), e8 7 i (by decide) (by decide), rr_prn_8 (by omega)]
        simp only [e9]
        by_cases c : i = g
        · subst c; simp [d1, d2, d3, d4, d5, d6]
        · simp [d1, d2, d3, d4, d5, d6, c]
      · rw [e8 6 i (by decide) (by decide), e8 7 i (by decide) (by decide), rr_prn_8 (by omega), if_neg (by omega)]
        exact i2.2 i hi
    · rw [T_play_o h4]
      have e : hk_u t (9, g) 5 (t (9, g) 5 + nI b) (c, i) j = t (c, i) j := hk_u_o h9
      rw [e]
      exact i3 c i j h9 h4
    · rw [T_play_o (show (9 : Nat) ≠ 4 by decide)]
      have e : hk_u t (9, g) 5 (t (9, g) 5 + nI b) (9, i) j = t (9, i) j := if_neg (fun q => hj q.2)
      rw [e]
      exact i4 i j hj
    · rw [rr_prn_o q1 q2 q3 q4]
      exact i5 q j q1 q2 q3 q4
    · rw [rr_prn_0 f1 f2 f3]
      exact i6 f f1 f2 f3
theorem rr_dr0 : ∀ r, r < 101 → hk_dries 9 0 (nI r) = F_m_dryingBy 0 (nI r) ∧ hk_dries 3 0 (nI r) = F_m_dryingBy 1 (nI r) ∧ hk_dries 2 0 (nI r) = F_m_dryingBy 2 (nI r) := by decide +kernel
theorem rr_dr1 : ∀ r, r < 101 → (F_m_dryingBy 0 (nI r) = nI (F_m_dryingBy 0 (nI r)).toNatClampNeg ∧ (F_m_dryingBy 0 (nI r)).toNatClampNeg ≤ 40) ∧ (F_m_dryingBy 1 (nI r) = nI (F_m_dryingBy 1 (nI r)).toNatClampNeg ∧ (F_m_dryingBy 1 (nI r)).toNatClampNeg ≤ 40) ∧ (F_m_dryingBy 2 (nI r) = nI (F_m_dryingBy 2 (nI r)).toNatClampNeg ∧ (F_m_dryingBy 2 (nI r)).toNatClampNeg ≤ 40) := by decide +kernel
theorem rr_dries {c k r : Nat} {y : Int32} (h : rr_kd c y) (hr : r ≤ 100) : hk_dries c k (nI r) = F_m_dryingBy y (nI r) := by
  have := rr_dr0 r (by omega)
  rcases h with ⟨rfl, rfl⟩ | ⟨rfl, rfl⟩ | ⟨rfl, rfl⟩
  · exact this.1
  · exact this.2.1
  · exact this.2.2
theorem rr_driesN {c r : Nat} {y : Int32} (h : rr_kd c y) (hr : r ≤ 100) : ∃ n, n ≤ 40 ∧ F_m_dryingBy y (nI r) = nI n := by
  have := rr_dr1 r (by omega)
  rcases h with ⟨rfl, rfl⟩ | ⟨rfl, rfl⟩ | ⟨rfl, rfl⟩
  · exact ⟨_, this.1.2, this.1.1⟩
  · exact ⟨_, this.2.1.2, this.2.1.1⟩
  · exact ⟨_, this.2.2.2, this.2.2.1⟩
theorem rr_dry {Z : hk_Z} {nw w P : Nat} {G : Nat → Nat → Nat} {t σ : hk_v} (h : rr_R Z nw w P G t σ) (hPb : P + 200 < 2 ^ 30) {k : Nat} (hk : k < Z.1 2) : rr_R Z nw w (P + 200) G (B_dry Z k t) (T_m_dries σ k) := by
  obtain ⟨hS, hD, hN, hK, hP, hTT, hC, hM, hL⟩ := h
  obtain ⟨k1, ⟨k2, k3, k4, k5⟩, ⟨r, k6, k7, k8⟩, k9, n, f, pre, g1, g2, g3, g4, g5, g6, g7⟩ := hK.1 k hk
  by_cases c : f = 0
  · subst c
    have e1 : B_dry Z k t = t := by
      unfold B_dry F_isEmpty
      rw [g2, if_neg (by decide)]
    have e2 : T_m_dries σ k = σ := by
      unfold T_m_dries
      rw [g3, if_pos (show nI 0 = 0 from rfl)]
    rw [e1, e2]
    exact ⟨hS, hD, hN, hK, hP.le (by omega), hTT, hC, hM, hL⟩
  · have f0 : ¬ nI f = 0 := nI_ne0 (by omega) (by omega)
    have ex : t (11, k) 6 + hk_dries (Z.2.1 k) k (t (11, k) 7) = σ (1, 21) k + F_m_dryingBy (σ (1, 18) k) (σ (1, 20) k) := by rw [k9, k7, k8, rr_dries k1 k6]
    have e1 : F_isEmpty t k = 0 := by unfold F_isEmpty; rw [g2, if_neg f0]
    by_cases c2 : σ (1, 21) k + F_m_dryingBy (σ (1, 18) k) (σ (1, 20) k) < 60
    · have e2 : B_dry Z k t = hk_u t (11, k) 6 (σ (1, 21) k + F_m_dryingBy (σ (1, 18) k) (σ (1, 20) k)) := by
        unfold B_dry
        rw [if_pos e1, ex, if_pos c2]
      have e3 : T_m_dries σ k = hk_u σ (1, 21) k (σ (1, 21) k + F_m_dryingBy (σ (1, 18) k) (σ (1, 20) k)) := by
        unfold T_m_dries
        rw [g3, if_neg f0, if_pos c2]
      rw [e2, e3]
      generalize σ (1, 21) k + F_m_dryingBy (σ (1, 18) k) (σ (1, 20) k) = x
      have a1 : ∀ c i j, c ≠ 11 → hk_u t (11, k) 6 x (c, i) j = t (c, i) j := fun c i j h => hk_u_o h
      have b1 : ∀ q j, q ≠ (1, 21) → hk_u σ (1, 21) k x q j = σ q j := fun q j h => if_neg (fun e => h e.1)
      refine ⟨hS.of (fun j => a1 1 j 2 (by decide)) (a1 0 0 8 (by decide)) (a1 0 0 9 (by decide)) (fun f _ => b1 _ _ (by simp)), hD.of (fun i j => a1 9 i j (by decide)) (fun f j h1 h2 => b1 _ _ (by simp; omega)), hN.of (fun i j => a1 10 i j (by decide)) (fun f j h1 h2 => b1 _ _ (by simp; omega)), ⟨fun i hi => ?_, fun i hi => ?_⟩, (hP.of (fun i j => a1 4 i j (by decide)) (fun f _ _ => b1 _ _ (by simp)) (fun f j h1 h2 => b1 _ _ (by simp; omega))).le (by omega), hTT.of (fun i j => a1 5 i j (by decide)) (fun i j => a1 6 i j (by decide)) (fun i j => a1 7 i j (by decide)) (fun f _ _ => b1 _ _ (by simp)) (fun f j h1 h2 => b1 _ _ (by simp; omega)), hC.of (fun i j => a1 3 i j (by decide)), hM.of (fun j => b1 _ _ (by simp)), hL.of (fun i => a1 9 i 2 (by decide))⟩
      · by_cases ci : i = k
        · subst ci
          refine ⟨by rw [b1 _ _ (by simp)]; exact k1, ⟨by simp [hk_u_ap, k2], by simp [hk_u_ap, k3], k4, k5⟩, ⟨r, k6, by simp [hk_u_ap, k7], by simp [hk_u_ap, k8]⟩, by simp [hk_u_ap], n, f, pre, by simp [hk_u_ap, g1], by simp [hk_u_ap, g2], by simp [hk_u_ap, g3], g4, g5, fun q => absurd q c, g7.of (by omega) (fun j => a1 13 i j (by decide)) (fun j => a1 14 i j (by decide)) (fun b _ => b1 _ _ (by simp))⟩
        · exact (hK.1 i hi).of (fun j => by simp [hk_u_ap, ci]) (fun j => a1 13 i j (by decide)) (fun j => a1 14 i j (by decide)) (fun f _ _ => by simp [hk_u_ap, ci]) (fun b _ => b1 _ _ (by simp))
      · have ci : i ≠ k := by omega
        have := hK.2 i hi
        simp [hk_u_ap, ci, this]
    · have e2 : B_dry Z k t = T_unload (hk_u t (11, k) 6 (σ (1, 21) k + F_m_dryingBy (σ (1, 18) k) (σ (1, 20) k))) k := by
        unfold B_dry
        rw [if_pos e1, ex, if_neg c2]
      have e3 : T_m_dries σ k = hk_u (hk_u (hk_it (B_m_dries k) f 0 (hk_u σ (1, 21) k (σ (1, 21) k + F_m_dryingBy (σ (1, 18) k) (σ (1, 20) k)))) (1, 22) k 0) (1, 21) k 0 := by
        unfold T_m_dries
        rw [g3, if_neg f0, if_neg c2, nI_clamp (by omega)]
      rw [e2, e3]
      generalize σ (1, 21) k + F_m_dryingBy (σ (1, 18) k) (σ (1, 20) k) = x
      have a1 : ∀ c i j, c ≠ 11 → hk_u t (11, k) 6 x (c, i) j = t (c, i) j := fun c i j h => hk_u_o h
      have b1 : ∀ q j, q ≠ (1, 21) → hk_u σ (1, 21) k x q j = σ q j := fun q j h => if_neg (fun e => h e.1)
      have hl' : rr_l Z (hk_u t (11, k) 6 x) (hk_u σ (1, 21) k x) k n f pre := g7.of (by omega) (fun j => a1 13 k j (by decide)) (fun j => a1 14 k j (by decide)) (fun b _ => b1 _ _ (by simp))
      have hS' := hS.of (τ' := hk_u t (11, k) 6 x) (σ' := hk_u σ (1, 21) k x) (fun j => a1 1 j 2 (by decide)) (a1 0 0 8 (by decide)) (a1 0 0 9 (by decide)) (fun f _ => b1 _ _ (by simp))
      have hD' := hD.of (τ' := hk_u t (11, k) 6 x) (σ' := hk_u σ (1, 21) k x) (fun i j => a1 9 i j (by decide)) (fun f j h1 h2 => b1 _ _ (by simp; omega))
      have hP' := hP.of (τ' := hk_u t (11, k) 6 x) (σ' := hk_u σ (1, 21) k x) (fun i j => a1 4 i j (by decide)) (fun f _ _ => b1 _ _ (by simp)) (fun f j h1 h2 => b1 _ _ (by simp; omega))
      obtain ⟨u1, u2, u3, u4, u5, u6⟩ := rr_unl hl' (by omega) hS' hD' hP' hPb n (Nat.le_refl _)
      rw [g7.2.1] at u1 u2 u5 u6
      have eu : T_unload (hk_u t (11, k) 6 x) k = T_clear (hk_it (B_unload k) n 0 (hk_u t (11, k) 6 x)) k := by
        unfold T_unload
        rw [show hk_u t (11, k) 6 x (11, k) 4 = nI n from by simp [hk_u_ap, g1], nI_clamp (by omega)]
      rw [eu]
      generalize hk_it (B_unload k) n 0 (hk_u t (11, k) 6 x) = t1 at u1 u2 u3 u4
      generalize hk_it (B_m_dries k) f 0 (hk_u σ (1, 21) k x) = s1 at u1 u2 u5 u6
      have A : ∀ c i j, c ≠ 9 → c ≠ 4 → c ≠ 11 → T_clear t1 k (c, i) j = t (c, i) j := fun c i j h9 h4 h11 => by
        rw [T_clear_o h11, u3 c i j h9 h4, a1 c i j h11]
      have A9 : ∀ i j, T_clear t1 k (9, i) j = t1 (9, i) j := fun i j => T_clear_o (show (9 : Nat) ≠ 11 by decide)
      have A4 : ∀ i j, T_clear t1 k (4, i) j = t1 (4, i) j := fun i j => T_clear_o (show (4 : Nat) ≠ 11 by decide)
      have A11 : ∀ i j, T_clear t1 k (11, i) j = if i = k ∧ (j = 4 ∨ j = 5 ∨ j = 6) then 0 else t (11, i) j := fun i j => by
        have e := u3 11 i j (by decide) (by decide)
        unfold T_clear
        simp only [hk_u_ap, Prod.mk.injEq, true_and] at e ⊢
        by_cases q1 : i = k
        · subst q1
          by_cases q6 : j = 6
          · simp [q6]
          · by_cases q5 : j = 5
            · simp [q5]
            · by_cases q4 : j = 4
              · simp [q4]
              · simp [q4, q5, q6, e]
        · simp [q1, e]
      have B : ∀ q j, q ≠ (1, 8) → q ≠ (0, 0) → q ≠ (1, 25) → q ≠ (1, 26) → q ≠ (1, 21) → q ≠ (1, 22) → hk_u (hk_u s1 (1, 22) k 0) (1, 21) k 0 q j = σ q j := fun q j h1 h2 h3 h4 h5 h6 => by
        simp only [hk_u_ap]
        rw [if_neg (fun e => h5 e.1), if_neg (fun e => h6 e.1), u5 q j h1 h2 h3 h4, b1 q j h5]
      have B1 : ∀ f j, f ≠ 21 → f ≠ 22 → hk_u (hk_u s1 (1, 22) k 0) (1, 21) k 0 (1, f) j = s1 (1, f) j := fun f j h1 h2 => by
        simp only [hk_u_ap, Prod.mk.injEq]
        rw [if_neg (by omega), if_neg (by omega)]
      have B0 : ∀ f, hk_u (hk_u s1 (1, 22) k 0) (1, 21) k 0 (0, 0) f = s1 (0, 0) f := fun f => by simp [hk_u_ap]
      refine ⟨hS.of (fun j => A 1 j 2 (by decide) (by decide) (by decide)) (A 0 0 8 (by decide) (by decide) (by decide)) (A 0 0 9 (by decide) (by decide) (by decide)) (fun f hf => ?_), u2.of (fun i j => A9 i j) (fun f j h1 h2 => B1 f j (by omega) (by omega)), hN.of (fun i j => A 10 i j (by decide) (by decide) (by decide)) (fun f j h1 h2 => B _ _ (by simp; omega) (by simp) (by simp; omega) (by simp; omega) (by simp; omega) (by simp; omega)), ⟨fun i hi => ?_, fun i hi => ?_⟩, (u1.of (fun i j => A4 i j) (fun f _ _ => B0 f) (fun f j h1 h2 => B1 f j (by omega) (by omega))).le (by omega), hTT.of (fun i j => A 5 i j (by decide) (by decide) (by decide)) (fun i j => A 6 i j (by decide) (by decide) (by decide)) (fun i j => A 7 i j (by decide) (by decide) (by decide)) (fun f h1 h2 => ?_) (fun f j h1 h2 => B _ _ (by simp; omega) (by simp) (by simp; omega) (by simp; omega) (by simp; omega) (by simp; omega)), hC.of (fun i j => A 3 i j (by decide) (by decide) (by decide)), hM.of (fun j => B _ _ (by simp) (by simp) (by simp) (by simp) (by simp) (by simp)), hL.of (fun i => ?_)⟩
      · rw [B0, u6 f (by omega) (by omega) (by omega)]
        exact b1 _ _ (by simp)
      · by_cases ci : i = k
        · subst ci
          refine ⟨by rw [B _ _ (by simp) (by simp) (by simp) (by simp) (by simp) (by simp)]; exact k1, ⟨by rw [A11, if_neg (by omega)]; exact k2, by rw [B _ _ (by simp) (by simp) (by simp) (by simp) (by simp) (by simp)]; exact k3, k4, k5⟩, ⟨r, k6, by rw [A11, if_neg (by omega)]; exact k7, by rw [B _ _ (by simp) (by simp) (by simp) (by simp) (by simp) (by simp)]; exact k8⟩, by rw [A11, if_pos (by omega)]; simp [hk_u_ap], 0, 0, fun _ => 0, by rw [A11, if_pos (by omega)]; rfl, by rw [A11, if_pos (by omega)]; rfl, by simp [hk_u_ap]; rfl, by omega, by omega, fun _ => by rw [A11, if_pos (by omega)], rfl, rfl, fun j hj => by omega⟩
        · refine (hK.1 i hi).of (fun j => by rw [A11, if_neg (by omega)]) (fun j => A 13 i j (by decide) (by decide) (by decide)) (fun j => A 14 i j (by decide) (by decide) (by decide)) (fun f h1 h2 => ?_) (fun b _ => B _ _ (by simp) (by simp) (by simp) (by simp) (by simp) (by simp))
          simp only [hk_u_ap, Prod.mk.injEq, ci, and_false, if_false]
          rw [u5 _ _ (by simp; omega) (by simp) (by simp; omega) (by simp; omega)]
          simp [hk_u_ap, ci]
      · have ci : i ≠ k := by omega
        have h2 := hK.2 i hi
        simp only [hk_u_ap, Prod.mk.injEq, ci, and_false, if_false]
        rw [u5 _ _ (by simp) (by simp) (by simp) (by simp), u5 _ _ (by simp) (by simp) (by simp) (by simp)]
        simp [hk_u_ap, ci, h2]
      · rw [B0, u6 f (by omega) (by omega) (by omega)]
        exact b1 _ _ (by simp)
      · rw [A9, u4 i 2 (by decide)]
        exact a1 9 i 2 (by decide)
