/-! the reference's ways, and most -/
theorem mo_pb1 {σ : hk_v} : ∀ i, (∀ x, hk_it B_m_pb1 i 0 σ (1, 36) x = if x < i then 0 else σ (1, 36) x) ∧ ∀ q k, q ≠ (1, 36) → hk_it B_m_pb1 i 0 σ q k = σ q k
  | 0 => ⟨fun x => by rw [if_neg (by omega)]; rfl, fun _ _ _ => rfl⟩
  | i + 1 => by
    obtain ⟨h1, h2⟩ := mo_pb1 (σ := σ) i
    rw [hk_it_last, Nat.zero_add]
    unfold B_m_pb1
    refine ⟨fun x => ?_, fun q k hq => ?_⟩
    · by_cases c : x = i
      · subst c
        rw [if_pos (by omega)]
        simp [hk_u_ap]
      · have e : hk_u (hk_it (fun j t => hk_u t (1, 36) j 0) i 0 σ) (1, 36) i 0 (1, 36) x = hk_it (fun j t => hk_u t (1, 36) j 0) i 0 σ (1, 36) x := if_neg (fun e => c e.2)
        rw [e]
        have := h1 x
        unfold B_m_pb1 at this
        rw [this]
        by_cases d : x < i
        · rw [if_pos d, if_pos (by omega)]
        · rw [if_neg d, if_neg (by omega)]
    · have e : hk_u (hk_it (fun j t => hk_u t (1, 36) j 0) i 0 σ) (1, 36) i 0 q k = hk_it (fun j t => hk_u t (1, 36) j 0) i 0 σ q k := if_neg (fun e => hq e.1)
      rw [e]
      have := h2 q k hq
      unfold B_m_pb1 at this
      exact this
section MOW
variable {Z : hk_Z} {n m : Nat} {r l : Nat → Nat} {σ : hk_v} {way : Nat}
theorem mo_pb2 (hn : Z.1 1 = n) (hm : Z.1 0 = m) (hn6 : n ≤ 6) (hm6 : m ≤ 6) (hw : way < 2 ^ 30) (hr : ∀ k, k < n → σ (1, 10) k = nI (r k)) : ∀ (rem j : Nat) (t : hk_v), j + rem = n → (∀ q k, q ≠ (1, 36) → t q k = σ q k) → (∀ d, d < 7 → t (1, 36) d = nI (mo_T j r (mo_d way) d)) → ((∀ k, j ≤ k → k < n → mo_d way k ≤ m) ∧ (hk_wh (B_m_pb2 Z) (rem + 1) (nI (way / 7 ^ j), nI j, t)).2.1 = nI n ∧ ∀ d, d < 7 → (hk_wh (B_m_pb2 Z) (rem + 1) (nI (way / 7 ^ j), nI j, t)).2.2 (1, 36) d = nI (mo_T n r (mo_d way) d)) ∨ ((∃ k, j ≤ k ∧ k < n ∧ ¬ mo_d way k ≤ m) ∧ ∃ k, k < n ∧ (hk_wh (B_m_pb2 Z) (rem + 1) (nI (way / 7 ^ j), nI j, t)).2.1 = nI k)
  | 0, j, t, hj, h1, h2 => by
    have ej : j = n := by omega
    subst ej
    have e : B_m_pb2 Z (nI (way / 7 ^ j), nI j, t) = none := by
      simp only [B_m_pb2]
      rw [hn, if_pos (nI_le (Nat.le_refl _) (by omega))]
    rw [hk_wh_n e]
    exact Or.inl ⟨fun k k1 k2 => by omega, rfl, h2⟩
  | rem + 1, j, t, hj, h1, h2 => by
    have hd : way / 7 ^ j ≤ way := Nat.div_le_self _ _
    have er : nI (way / 7 ^ j) - nI (way / 7 ^ j) / 7 * 7 = nI (mo_d way j) := pk_rem (d := 7) (by omega) (by decide) (by decide)
    have h7 : mo_d way j < 7 := Nat.mod_lt _ (by decide)
    by_cases c : mo_d way j ≤ m
    · have e : B_m_pb2 Z (nI (way / 7 ^ j), nI j, t) = some (nI (way / 7 ^ (j + 1)), nI (j + 1), hk_u t (1, 36) (mo_d way j) (nI (mo_T j r (mo_d way) (mo_d way j)) + nI (r j))) := by
        simp only [B_m_pb2]
        rw [hn, hm, if_neg (nI_ge (by omega) (by omega)), er, if_pos (nI_le c (by omega)), nI_clamp (by omega), nI_clamp (by omega), h2 _ h7, h1 (1, 10) j (by decide), hr j (by omega), nI_1, show nI (way / 7 ^ j) / 7 = nI (way / 7 ^ j / 7) from pk_div (d := 7) (by omega) (by decide) (by decide), Nat.div_div_eq_div_mul, ← Nat.pow_succ]
      rw [hk_wh_s e]
      have ih := mo_pb2 hn hm hn6 hm6 hw hr rem (j + 1) (hk_u t (1, 36) (mo_d way j) (nI (mo_T j r (mo_d way) (mo_d way j)) + nI (r j))) (by omega) (fun q k hq => by rw [← h1 q k hq]; exact if_neg (fun e => hq e.1)) (fun d hd => by
        have eT : mo_T (j + 1) r (mo_d way) d = mo_T j r (mo_d way) d + if mo_d way j = d then r j else 0 := rfl
        rw [eT]
        by_cases ed : mo_d way j = d
        · subst ed
          rw [if_pos rfl, ← nI_add]
          exact if_pos ⟨rfl, rfl⟩
        · rw [if_neg ed, Nat.add_zero, ← h2 d hd]
          exact if_neg (fun q => ed q.2.symm))
      rcases ih with ⟨a1, a2, a3⟩ | ⟨⟨k, a1, a2, a3⟩, a4⟩
      · refine Or.inl ⟨fun k k1 k2 => ?_, a2, a3⟩
        rcases Nat.lt_or_ge j k with q | q
        · exact a1 k q k2
        · have : k = j := by omega
          rw [this]; exact c
      · exact Or.inr ⟨⟨k, by omega, a2, a3⟩, a4⟩
    · have e : B_m_pb2 Z (nI (way / 7 ^ j), nI j, t) = none := by
        simp only [B_m_pb2]
        rw [hn, hm, if_neg (nI_ge (by omega) (by omega)), er, if_neg (nI_ge (by omega) (by omega))]
      rw [hk_wh_n e]
      exact Or.inr ⟨⟨j, Nat.le_refl _, by omega, c⟩, j, by omega, rfl⟩
theorem mo_T_le {j : Nat} {d : Nat → Nat} {c : Nat} (h : ∀ k, k < j → r k ≤ 30) : mo_T j r d c ≤ j * 30 := by
  unfold mo_T
  refine rr_sum_b (fun k hk => ?_)
  split
  · exact h k hk
  · omega
theorem mo_v_le {mm : Nat} {rp : Nat → Bool} {d : Nat → Nat} (h : ∀ g, g < mm → l g ≤ 5000) : mo_v mm n r l rp d ≤ mm * 5000 := by
  unfold mo_v
  refine rr_sum_b (fun g hg => ?_)
  have := h g hg
  split <;> omega
theorem mo_pb3 {t : hk_v} {day : Int32} {d : Nat → Nat} (hn6 : n ≤ 6) (hm6 : m ≤ 6) (h1 : ∀ q k, q ≠ (1, 36) → t q k = σ q k) (hr : ∀ k, k < n → r k ≤ 30) (hl : ∀ g, g < m → σ (1, 3) g = nI (l g) ∧ l g ≤ 5000) (hT : ∀ c, c < 7 → t (1, 36) c = nI (mo_T n r d c)) : ∀ j, j ≤ m → hk_it (B_m_pb3 day) j 0 (0, t) = (nI (mo_v j n r l (fun g => decide (¬ F_m_isRipe σ (nI g) day = 0)) d), t)
  | 0, _ => rfl
  | j + 1, hj => by
    rw [hk_it_last, mo_pb3 hn6 hm6 h1 hr hl hT j (by omega), Nat.zero_add]
    have eR : F_m_isRipe t (nI j) day = F_m_isRipe σ (nI j) day := by
      unfold F_m_isRipe
      rw [h1 _ _ (by decide), h1 _ _ (by decide)]
    have ev : mo_v (j + 1) n r l (fun g => decide (¬ F_m_isRipe σ (nI g) day = 0)) d = mo_v j n r l (fun g => decide (¬ F_m_isRipe σ (nI g) day = 0)) d + if decide (¬ F_m_isRipe σ (nI j) day = 0) = true then min (12 * mo_T n r d (j + 1)) (l j) else 0 := rfl
    rw [ev]
    obtain ⟨l1, l2⟩ := hl j (by omega)
    have hT2 := mo_T_le (j := n) (d := d) (c := j + 1) hr
    simp only [B_m_pb3]
    rw [eR]
    by_cases c : F_m_isRipe σ (nI j) day = 0
    · rw [if_pos c, if_neg (by simp [c]), Nat.add_zero, Int32.add_zero]
    · rw [if_neg c, if_pos (show decide (¬ F_m_isRipe σ (nI j) day = 0) = true by simp [c]), h1 (1, 3) j (by decide), l1, hT (j + 1) (by omega), show (12 : Int32) = nI 12 from rfl, pk_mul]
      rcases Nat.lt_or_ge (12 * mo_T n r d (j + 1)) (l j) with q | q
      · rw [if_neg (nI_ge q (by omega)), Nat.min_eq_left (by omega), nI_add]
      · rw [if_pos (nI_le q (by omega)), Nat.min_eq_right q, nI_add]
theorem mo_picksBy {t : hk_v} {day : Int32} (hn : Z.1 1 = n) (hm : Z.1 0 = m) (hn6 : n ≤ 6) (hm6 : m ≤ 6) (hw : way < 2 ^ 30) (h1 : ∀ q k, q ≠ (1, 36) → t q k = σ q k) (hr : ∀ k, k < n → σ (1, 10) k = nI (r k) ∧ r k ≤ 30) (hl : ∀ g, g < m → σ (1, 3) g = nI (l g) ∧ l g ≤ 5000) : (((∀ k, k < n → mo_d way k ≤ m) ∧ F_m_picksBy Z t way day = nI (mo_v m n r l (fun g => decide (¬ F_m_isRipe σ (nI g) day = 0)) (mo_d way))) ∨ ((¬ ∀ k, k < n → mo_d way k ≤ m) ∧ F_m_picksBy Z t way day = -1)) ∧ ∀ q k, q ≠ (1, 36) → T_m_picksBy Z t way day q k = σ q k := by
  obtain ⟨b1, b2⟩ := mo_pb1 (σ := t) 7
  have b3 : ∀ q k, q ≠ (1, 36) → hk_it B_m_pb1 7 0 t q k = σ q k := fun q k hq => (b2 q k hq).trans (h1 q k hq)
  have key := mo_pb2 (r := r) hn hm hn6 hm6 hw (fun k hk => (hr k hk).1) n 0 (hk_it B_m_pb1 7 0 t) (by omega) b3 (fun d hd => by rw [b1 d, if_pos hd]; rfl)
  rw [Nat.pow_zero, Nat.div_one] at key
  have keep : ∀ q k, q ≠ (1, 36) → (hk_wh (B_m_pb2 Z) (n + 1) (nI way, nI 0, hk_it B_m_pb1 7 0 t)).2.2 q k = σ q k := pb2_keep b3
  have e0 : (0 : Int32) = nI 0 := rfl
  have eF : F_m_picksBy Z t way day = if nI n ≤ (hk_wh (B_m_pb2 Z) (n + 1) (nI way, nI 0, hk_it B_m_pb1 7 0 t)).2.1 then (hk_it (B_m_pb3 day) m 0 (0, (hk_wh (B_m_pb2 Z) (n + 1) (nI way, nI 0, hk_it B_m_pb1 7 0 t)).2.2)).1 else -1 := by
    unfold F_m_picksBy
    rw [hn, hm]
    rfl
  have eT : T_m_picksBy Z t way day = if nI n ≤ (hk_wh (B_m_pb2 Z) (n + 1) (nI way, nI 0, hk_it B_m_pb1 7 0 t)).2.1 then (hk_it (B_m_pb3 day) m 0 (0, (hk_wh (B_m_pb2 Z) (n + 1) (nI way, nI 0, hk_it B_m_pb1 7 0 t)).2.2)).2 else (hk_wh (B_m_pb2 Z) (n + 1) (nI way, nI 0, hk_it B_m_pb1 7 0 t)).2.2 := by
    unfold T_m_picksBy
    rw [hn, hm]
    rfl
  rw [eF, eT]
  generalize hk_wh (B_m_pb2 Z) (n + 1) (nI way, nI 0, hk_it B_m_pb1 7 0 t) = R at key keep
  rcases key with ⟨a1, a2, a3⟩ | ⟨⟨k, a1, a2, a3⟩, k', a4, a5⟩
  · have e3 := mo_pb3 (day := day) hn6 hm6 keep (fun k hk => (hr k hk).2) hl a3 m (Nat.le_refl _)
    rw [a2, if_pos (nI_le (Nat.le_refl _) (by omega)), if_pos (nI_le (Nat.le_refl _) (by omega)), e3]
    exact ⟨Or.inl ⟨fun k hk => a1 k (Nat.zero_le _) hk, rfl⟩, keep⟩
  · rw [a5, if_neg (nI_ge a4 (by omega)), if_neg (nI_ge a4 (by omega))]
    exact ⟨Or.inr ⟨fun q => a3 (q k a2), rfl⟩, keep⟩
theorem mo_ref {day : Int32} (hn : Z.1 1 = n) (hm : Z.1 0 = m) (hn6 : n ≤ 6) (hm6 : m ≤ 6) (hr : ∀ k, k < n → σ (1, 10) k = nI (r k) ∧ r k ≤ 30) (hl : ∀ g, g < m → σ (1, 3) g = nI (l g) ∧ l g ≤ 5000) : (∀ q k, q ≠ (1, 36) → (hk_it (B_m_ms day Z) (7 ^ n - 1) 1 (0, 0, σ)).2.2 q k = σ q k) ∧ ∃ b M, (hk_it (B_m_ms day Z) (7 ^ n - 1) 1 (0, 0, σ)).1 = nI b ∧ (hk_it (B_m_ms day Z) (7 ^ n - 1) 1 (0, 0, σ)).2.1 = nI M ∧ b < 7 ^ n ∧ (∀ k, k < n → mo_d b k ≤ m) ∧ mo_v m n r l (fun g => decide (¬ F_m_isRipe σ (nI g) day = 0)) (mo_d b) = M ∧ (∀ w, w < 7 ^ n → (∀ k, k < n → mo_d w k ≤ m) → mo_v m n r l (fun g => decide (¬ F_m_isRipe σ (nI g) day = 0)) (mo_d w) ≤ M) ∧ (∀ w, w < b → (∀ k, k < n → mo_d w k ≤ m) → mo_v m n r l (fun g => decide (¬ F_m_isRipe σ (nI g) day = 0)) (mo_d w) < M) := by
  have h7 : 7 ^ n ≤ 117649 := by
    have : 7 ^ n ≤ 7 ^ 6 := Nat.pow_le_pow_right (by decide) hn6
    omega
  have h70 : 0 < 7 ^ n := Nat.pow_pos (by decide)
  have vb : ∀ w, mo_v m n r l (fun g => decide (¬ F_m_isRipe σ (nI g) day = 0)) (mo_d w) ≤ 30000 := fun w => by
    have := mo_v_le (n := n) (r := r) (rp := fun g => decide (¬ F_m_isRipe σ (nI g) day = 0)) (d := mo_d w) (fun g hg => (hl g hg).2)
    omega
  have d0 : ∀ k, mo_d 0 k = 0 := fun k => by unfold mo_d; rw [Nat.zero_div]
  have v0 : mo_v m n r l (fun g => decide (¬ F_m_isRipe σ (nI g) day = 0)) (mo_d 0) = 0 := by
    unfold mo_v
    refine rr_sum_z (fun g _ => ?_)
    have : mo_T n r (mo_d 0) (g + 1) = 0 := by
      unfold mo_T
      exact rr_sum_z (fun k _ => by rw [d0, if_neg (by omega)])
    rw [this]
    split
    · omega
    · rfl
  have key := hk_it_inv (f := B_m_ms day Z) (fun way (S : Int32 × Int32 × hk_v) => (∀ q k, q ≠ (1, 36) → S.2.2 q k = σ q k) ∧ ∃ b M, S.1 = nI b ∧ S.2.1 = nI M ∧ b < way ∧ (∀ k, k < n → mo_d b k ≤ m) ∧ mo_v m n r l (fun g => decide (¬ F_m_isRipe σ (nI g) day = 0)) (mo_d b) = M ∧ (∀ w, w < way → (∀ k, k < n → mo_d w k ≤ m) → mo_v m n r l (fun g => decide (¬ F_m_isRipe σ (nI g) day = 0)) (mo_d w) ≤ M) ∧ (∀ w, w < b → (∀ k, k < n → mo_d w k ≤ m) → mo_v m n r l (fun g => decide (¬ F_m_isRipe σ (nI g) day = 0)) (mo_d w) < M)) (7 ^ n - 1) 1 (0, 0, σ)
    ⟨fun _ _ _ => rfl, 0, 0, rfl, rfl, by omega, fun k _ => by rw [d0]; omega, v0, fun w hw _ => by rw [show w = 0 by omega, v0]; omega, fun w hw _ => by omega⟩ (fun way S hw1 hw2 hI => by
      obtain ⟨best, mo, t⟩ := S
      obtain ⟨k0, b, M, k1, k2, k3, k4, k5, k6, k7⟩ := hI
      simp only at k0 k1 k2
      subst k1 k2
      obtain ⟨p1, p2⟩ := mo_picksBy (day := day) hn hm hn6 hm6 (way := way) (by omega) k0 hr hl
      have hM := vb b
      rw [k5] at hM
      simp only [B_m_ms]
      rcases p1 with ⟨p3, p4⟩ | ⟨p3, p4⟩
      · rw [p4]
        have hV := vb way
        rcases Nat.lt_or_ge M (mo_v m n r l (fun g => decide (¬ F_m_isRipe σ (nI g) day = 0)) (mo_d way)) with q | q
        · rw [if_neg (nI_ge q (by omega))]
          refine ⟨p2, way, _, rfl, rfl, by omega, p3, rfl, fun w hw hv => ?_, fun w hw hv => ?_⟩
          · rcases Nat.lt_or_ge w way with c | c
            · have := k6 w c hv; omega
            · rw [show w = way by omega]; omega
          · have := k6 w hw hv; omega
        · rw [if_pos (nI_le q (by omega))]
          refine ⟨p2, b, M, rfl, rfl, by omega, k4, k5, fun w hw hv => ?_, k7⟩
          rcases Nat.lt_or_ge w way with c | c
          · exact k6 w c hv
          · rw [show w = way by omega]; exact q
      · rw [p4, if_pos (show (-1 : Int32) ≤ nI M by rw [Int32.le_iff_toInt_le, nI_toInt (by omega)]; have : (-1 : Int32).toInt = -1 := by decide
                                                    omega)]
        refine ⟨p2, b, M, rfl, rfl, by omega, k4, k5, fun w hw hv => ?_, k7⟩
        rcases Nat.lt_or_ge w way with c | c
        · exact k6 w c hv
        · exact absurd (by rw [show way = w by omega]; exact hv) p3)
  rw [show 1 + (7 ^ n - 1) = 7 ^ n by omega] at key
  exact key
end MOW
theorem mo_o_le {n g p : Nat} {r l : Nat → Nat} (hn : n ≤ 6) (hr : ∀ k, k < n → r k ≤ 30) : mo_o n r l g p ≤ 254121840 := by
  have hR := mo_S_le (n := n) (f := r) (s := p) (B := 30) hr
  unfold mo_o
  have : min (12 * mo_S n r p) (l g) ≤ 2160 := by omega
  generalize min (12 * mo_S n r p) (l g) = u at *
  generalize mo_S n (fun k => 7 ^ k) p * (g + 1) = v
  omega
theorem mo_I.cong {n g : Nat} {r l : Nat → Nat} {rp : Nat → Bool} {V V' : Nat → Int} (h : mo_I n g r l rp V) (e : ∀ s, s < 2 ^ n → V' s = V s) : mo_I n g r l rp V' := fun s hs => by
  rw [e s hs]
  exact h s hs
theorem mo_class {Z : hk_Z} {n m : Nat} {r l : Nat → Nat} {rp : Nat → Bool} {τ : hk_v} {day : Int32} (hn : Z.1 1 = n) (hn6 : n ≤ 6) (hm6 : m ≤ 6) (hr : ∀ k, k < n → τ (10, k) 0 = nI (r k) ∧ r k ≤ 30) (hl : ∀ g, g < m → τ (9, g) 2 = nI (l g) ∧ l g ≤ 5000) (hrp : ∀ g, g < m → (rp g = true ↔ ¬ F_isRipe τ g day = 0)) (z1 : τ (8, 1) 0 = 0) (z2 : τ (8, 2) 0 = 0) : ∀ j, j ≤ m → mo_F n r (hk_it (B_most day Z) j 0 (T_begin Z τ)) ∧ hk_it (B_most day Z) j 0 (T_begin Z τ) (8, 0) 3 = nI (2 ^ n) ∧ (∀ q k, q.1 ≠ 8 → hk_it (B_most day Z) j 0 (T_begin Z τ) q k = τ q k) ∧ mo_I n j r l rp (fun s => (hk_it (B_most day Z) j 0 (T_begin Z τ) (8, 3) s).toInt) ∧ ∀ s, s < 2 ^ n → 0 ≤ (hk_it (B_most day Z) j 0 (T_begin Z τ) (8, 3) s).toInt ∧ (hk_it (B_most day Z) j 0 (T_begin Z τ) (8, 3) s).toInt ≤ j * 254121840
  | 0, _ => by
    rw [hk_it_0]
    obtain ⟨b1, b2, b3, b4⟩ := mo_begin hn6 (fun k hk => (hr k hk).1) z1 z2 n (Nat.le_refl _)
    have eT : T_begin Z τ = (hk_it B_begin n 0 (1, (hk_u (hk_u τ (8, 0) 3 1) (8, 3) 0 0))).2 := by unfold T_begin; rw [hn]
    rw [eT]
    have z : (0 : Int32).toInt = 0 := by decide
    refine ⟨⟨fun p hp => (b3 p hp).1, fun p hp => (b3 p hp).2.1⟩, b2, b4, mo_I_0.cong (fun s hs => ?_), fun s hs => ?_⟩
    · show ((hk_it B_begin n 0 (1, (hk_u (hk_u τ (8, 0) 3 1) (8, 3) 0 0))).2 (8, 3) s).toInt = 0
      rw [(b3 s hs).2.2, z]
    · rw [(b3 s hs).2.2, z]
      omega
  | j + 1, hj => by
    obtain ⟨h1, h2, h3, h4, h5⟩ := mo_class hn hn6 hm6 hr hl hrp z1 z2 j (by omega)
    rw [hk_it_last, Nat.zero_add]
    generalize hk_it (B_most day Z) j 0 (T_begin Z τ) = t at h1 h2 h3 h4 h5
    have eR : F_isRipe t j day = F_isRipe τ j day := by
      unfold F_isRipe
      rw [h3 (9, j) 0 (show (9 : Nat) ≠ 8 by decide), h3 (9, j) 1 (show (9 : Nat) ≠ 8 by decide)]
    have hrj := hrp j (by omega)
    by_cases c : F_isRipe τ j day = 0
    · have eB : B_most day Z j t = t := by
        unfold B_most
        rw [eR, if_pos c]
      rw [eB]
      refine ⟨h1, h2, h3, mo_I_skip h4 ?_, fun s hs => ?_⟩
      · cases e : rp j with
        | false => rfl
        | true => exact absurd c (hrj.mp e)
      · have := h5 s hs
        omega
    · obtain ⟨l1, l2⟩ := hl j (by omega)
      have h2n : 0 < 2 ^ n := Nat.pow_pos (by decide)
      have eB : B_most day Z j t = hk_dp (B_offer (nI j) (nI (l j))) (2 ^ n - 1) t := by
        unfold B_most
        rw [eR, if_neg c, h3 (9, j) 2 (show (9 : Nat) ≠ 8 by decide), l1, hn]
        rfl
      rw [eB]
      obtain ⟨o1, o2, o3⟩ := mo_offer (V := fun s => (t (8, 3) s).toInt) (g := j) hn6 (by omega) (fun k hk => (hr k hk).2) l2 (2 ^ n - 1) t (by omega) h1 (fun p hp => ⟨rfl, (h5 p (by omega)).1, by have := (h5 p (by omega)).2; omega⟩)
      generalize hk_dp (B_offer (nI j) (nI (l j))) (2 ^ n - 1) t = t' at o1 o2 o3
      refine ⟨⟨fun p hp => by rw [o3 _ _ (by decide)]; exact h1.1 p hp, fun p hp => by rw [o3 _ _ (by decide)]; exact h1.2 p hp⟩, by rw [o3 _ _ (by decide)]; exact h2, fun q k hq => by rw [o3 q k (fun e => hq (by rw [e]))]; exact h3 q k hq, mo_I_step h4 (hrj.mpr c) (fun s hs => o1 s (by omega)), fun s hs => ?_⟩
      obtain ⟨u1, p, u2, u3⟩ := o1 s (by omega)
      have hps : p ≤ s := by rw [← u2]; exact Nat.and_le_right
      have hx : s ^^^ p < 2 ^ n := Nat.xor_lt_two_pow hs (by omega)
      have w1 := u1 0 (Nat.zero_and _)
      rw [mo_o_0, Nat.xor_zero] at w1
      have w2 := h5 s hs
      have w3 := h5 _ hx
      have w4 := mo_o_le (g := j) (p := p) (l := l) hn6 (fun k hk => (hr k hk).2)
      simp only at w1 u3
      refine ⟨by omega, ?_⟩
      rw [u3]
      have : ((j + 1 : Nat) : Int) * 254121840 = (j : Int) * 254121840 + 254121840 := by omega
      omega
/-- most, on both sides -/
theorem rr_most {Z : hk_Z} {nw w : Nat} {τ σ : hk_v} (h : rr_I Z nw w τ σ) (z1 : τ (8, 1) 0 = 0) (z2 : τ (8, 2) 0 = 0) (day q : Int32) : F_most Z τ day q = F_m_most Z σ day q ∧ rr_I Z nw w (T_most Z τ day q) (T_m_most Z σ day q) ∧ T_most Z τ day q (8, 1) 0 = 0 ∧ T_most Z τ day q (8, 2) 0 = 0 := by
  obtain ⟨G, h1, h2⟩ := id h
  obtain ⟨hS, hD, hN, hK, hP, hTT, hC, hM, hL⟩ := id h1
  have hZ0 := hS.1.2.1
  have hZ1 := hS.1.2.2.1
  unfold F_most F_m_most T_most T_m_most
  by_cases c : hk_in day 0 40 = 0
  · rw [if_pos c, if_pos c, if_pos c, if_pos c]
    exact ⟨rfl, h, z1, z2⟩
  · rw [if_neg c, if_neg c, if_neg c, if_neg c]
    by_cases c2 : hk_in q 0 1 = 0
    · rw [if_pos c2, if_pos c2, if_pos c2, if_pos c2]
      exact ⟨rfl, h, z1, z2⟩
    · rw [if_neg c2, if_neg c2, if_neg c2, if_neg c2]
      have hr : ∀ k, k < Z.1 1 → τ (10, k) 0 = nI (τ (10, k) 0).toNatClampNeg ∧ (τ (10, k) 0).toNatClampNeg ≤ 30 := fun k hk => by
        obtain ⟨-, ⟨r, r1, r2⟩, -⟩ := hN.1 k hk
        rw [r2, nI_clamp (by omega)]
        exact ⟨rfl, r1⟩
      have hl : ∀ g, g < Z.1 0 → τ (9, g) 2 = nI (τ (9, g) 2).toNatClampNeg ∧ (τ (9, g) 2).toNatClampNeg ≤ 5000 := fun g hg => by
        obtain ⟨l, l1, l2⟩ := hL.1 g hg
        have := l2 0
        rw [l1, nI_clamp (by omega)]
        exact ⟨rfl, by omega⟩
      obtain ⟨r0, b, M, r1, r2, r3, r4, r5, r6, r7⟩ := mo_ref (Z := Z) (σ := σ) (day := day) (r := fun k => (τ (10, k) 0).toNatClampNeg) (l := fun g => (τ (9, g) 2).toNatClampNeg) rfl rfl hZ1 hZ0 (fun k hk => by rw [← (hN.1 k hk).1.1]; exact hr k hk) (fun g hg => by rw [← (hD.1 g hg).2.2.1]; exact hl g hg)
      obtain ⟨c1, c3, c4, c5, c6⟩ := mo_class (Z := Z) (τ := τ) (day := day) (m := Z.1 0) (r := fun k => (τ (10, k) 0).toNatClampNeg) (l := fun g => (τ (9, g) 2).toNatClampNeg) (rp := fun g => decide (¬ F_m_isRipe σ (nI g) day = 0)) rfl hZ1 hZ0 hr hl (fun g hg => by
        have e : F_isRipe τ g day = F_m_isRipe σ (nI g) day := by
          unfold F_isRipe F_m_isRipe
          rw [nI_clamp (by omega), (hD.1 g hg).1, (hD.1 g hg).2.1]
        rw [e]
        simp) z1 z2 (Z.1 0) (Nat.le_refl _)
      have fin := mo_fin hZ1 hZ0 c5 r3 r4 r5 r6 r7
      have h7 : 7 ^ Z.1 1 ≤ 117649 := by
        have : 7 ^ Z.1 1 ≤ 7 ^ 6 := Nat.pow_le_pow_right (by decide) hZ1
        omega
      have h2n : 0 < 2 ^ Z.1 1 := Nat.pow_pos (by decide)
      have h64 : 2 ^ Z.1 1 ≤ 64 := by
        have : 2 ^ Z.1 1 ≤ 2 ^ 6 := Nat.pow_le_pow_right (by decide) hZ1
        omega
      have c7 := c6 (2 ^ Z.1 1 - 1) (by omega)
      rw [r1, r2]
      generalize hk_it (B_most day Z) (Z.1 0) 0 (T_begin Z τ) = t at c1 c3 c4 c5 c6 c7 fin
      generalize hk_it (B_m_ms day Z) (7 ^ Z.1 1 - 1) 1 (0, 0, σ) = S at r0 r1 r2
      have hMb : M ≤ 30000 := by
        rw [← r5]
        have := mo_v_le (n := Z.1 1) (mm := Z.1 0) (r := fun k => (τ (10, k) 0).toNatClampNeg) (l := fun g => (τ (9, g) 2).toNatClampNeg) (rp := fun g => decide (¬ F_m_isRipe σ (nI g) day = 0)) (d := mo_d b) (fun g hg => (hl g hg).2)
        omega
      rw [fin] at c7
      have hbM : b ≤ M * 117649 := by omega
      have hx : t (8, 3) (2 ^ Z.1 1 - 1) = nI (M * 117649 - b) := by
        refine hk_eqI ?_
        rw [fin]
        omega
      have ei : (t (8, 0) 3 - 1).toNatClampNeg = 2 ^ Z.1 1 - 1 := by
        rw [c3, show (1 : Int32) = nI 1 from rfl, pk_sub (by omega), nI_clamp (by omega)]
      have hMs : M * 117649 < 2 ^ 31 := by omega
      have eb : F_bushels t (2 ^ Z.1 1 - 1) = nI M := by
        unfold F_bushels
        rw [ei, hx, show (117649 : Int32) = nI 117649 from rfl, nI_add, show (1 : Int32) = nI 1 from rfl, pk_sub (by omega), pk_div (by omega) (by decide) (by decide)]
        congr 1
        omega
      have en : F_number t (2 ^ Z.1 1 - 1) = nI b := by
        unfold F_number
        rw [eb, ei, hx, show (117649 : Int32) = nI 117649 from rfl, pk_mul, pk_sub (by omega)]
        congr 1
        omega
      rw [eb, en]
      refine ⟨rfl, ⟨G, ?_, h2⟩, ?_, ?_⟩
      · have a1 : ∀ c i j, c ≠ 8 → t (c, i) j = τ (c, i) j := fun c i j h => c4 (c, i) j h
        exact ⟨hS.of (fun j => a1 1 j 2 (by decide)) (a1 0 0 8 (by decide)) (a1 0 0 9 (by decide)) (fun f _ => r0 _ _ (by simp)), hD.of (fun i j => a1 9 i j (by decide)) (fun f j h1 h2 => r0 _ _ (by simp; omega)), hN.of (fun i j => a1 10 i j (by decide)) (fun f j h1 h2 => r0 _ _ (by simp; omega)), hK.of (fun i j => a1 11 i j (by decide)) (fun i j => a1 13 i j (by decide)) (fun i j => a1 14 i j (by decide)) (fun f j h1 h2 => r0 _ _ (by simp; omega)), hP.of (fun i j => a1 4 i j (by decide)) (fun f _ _ => r0 _ _ (by simp)) (fun f j h1 h2 => r0 _ _ (by simp; omega)), hTT.of (fun i j => a1 5 i j (by decide)) (fun i j => a1 6 i j (by decide)) (fun i j => a1 7 i j (by decide)) (fun f _ _ => r0 _ _ (by simp)) (fun f j h1 h2 => r0 _ _ (by simp; omega)), hC.of (fun i j => a1 3 i j (by decide)), hM.of (fun j => r0 _ _ (by simp)), hL.of (fun i => a1 9 i 2 (by decide))⟩
      · rw [c1.1 0 h2n, mo_S_0]; rfl
      · rw [c1.2 0 h2n, mo_S_0]; rfl
